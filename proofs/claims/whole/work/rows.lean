section
-- ===== PART A: goes FIRST, ahead of the names: the tables' words, and 'selects' of the private methods out of them =====
/-- a private method of a class that the tables say can be made, by its rows of tables_1 -/
def lw_okq (q : MethodName × Nat) : Prop := (q.1.cls ≠ "java/lang/invoke/MethodHandle" ∧ q.1.cls ≠ "java/lang/invoke/VarHandle") ∧ Cond.instantiable q.1.cls q.2 ∈ tables_1 ∧ Cond.privateMethod q.1 ∈ tables_1 ∧ Cond.instanceMethod q.1 ∈ tables_1
theorem lw_p0 : lw_okq (⟨"java/lang/Throwable", "fillInStackTrace", "(I)Ljava/lang/Throwable;"⟩, 6) := ⟨⟨by decide +kernel, by decide +kernel⟩, List.mem_of_getElem? (i := 256) (by decide +kernel), List.mem_of_getElem? (i := 254) (by decide +kernel), List.mem_of_getElem? (i := 255) (by decide +kernel)⟩
theorem lw_p1 : lw_okq (⟨"IcePad", "padIsFree", "(I)Z"⟩, 7) := ⟨⟨by decide +kernel, by decide +kernel⟩, List.mem_of_getElem? (i := 17) (by decide +kernel), List.mem_of_getElem? (i := 435) (by decide +kernel), List.mem_of_getElem? (i := 436) (by decide +kernel)⟩
theorem lw_p2 : lw_okq (⟨"IcePad", "liveMinute", "()V"⟩, 7) := ⟨⟨by decide +kernel, by decide +kernel⟩, List.mem_of_getElem? (i := 17) (by decide +kernel), List.mem_of_getElem? (i := 479) (by decide +kernel), List.mem_of_getElem? (i := 480) (by decide +kernel)⟩
theorem lw_p3 : lw_okq (⟨"IcePad", "endTreatments", "()V"⟩, 7) := ⟨⟨by decide +kernel, by decide +kernel⟩, List.mem_of_getElem? (i := 17) (by decide +kernel), List.mem_of_getElem? (i := 530) (by decide +kernel), List.mem_of_getElem? (i := 531) (by decide +kernel)⟩
theorem lw_p4 : lw_okq (⟨"IcePad", "cancelBehindDuty", "()V"⟩, 7) := ⟨⟨by decide +kernel, by decide +kernel⟩, List.mem_of_getElem? (i := 17) (by decide +kernel), List.mem_of_getElem? (i := 539) (by decide +kernel), List.mem_of_getElem? (i := 540) (by decide +kernel)⟩
theorem lw_p5 : lw_okq (⟨"IcePad", "sendBackWithoutClock", "()V"⟩, 7) := ⟨⟨by decide +kernel, by decide +kernel⟩, List.mem_of_getElem? (i := 17) (by decide +kernel), List.mem_of_getElem? (i := 543) (by decide +kernel), List.mem_of_getElem? (i := 544) (by decide +kernel)⟩
theorem lw_p6 : lw_okq (⟨"IcePad", "clockLeft", "(LIcePad$Aircraft;)D"⟩, 7) := ⟨⟨by decide +kernel, by decide +kernel⟩, List.mem_of_getElem? (i := 17) (by decide +kernel), List.mem_of_getElem? (i := 547) (by decide +kernel), List.mem_of_getElem? (i := 548) (by decide +kernel)⟩
theorem lw_p7 : lw_okq (⟨"IcePad", "letOneLeave", "()V"⟩, 7) := ⟨⟨by decide +kernel, by decide +kernel⟩, List.mem_of_getElem? (i := 17) (by decide +kernel), List.mem_of_getElem? (i := 563) (by decide +kernel), List.mem_of_getElem? (i := 564) (by decide +kernel)⟩
theorem lw_p8 : lw_okq (⟨"IcePad", "goesAhead", "(II)Z"⟩, 7) := ⟨⟨by decide +kernel, by decide +kernel⟩, List.mem_of_getElem? (i := 17) (by decide +kernel), List.mem_of_getElem? (i := 567) (by decide +kernel), List.mem_of_getElem? (i := 568) (by decide +kernel)⟩
theorem lw_p9 : lw_okq (⟨"IcePad", "placeInQueue", "(I)I"⟩, 7) := ⟨⟨by decide +kernel, by decide +kernel⟩, List.mem_of_getElem? (i := 17) (by decide +kernel), List.mem_of_getElem? (i := 618) (by decide +kernel), List.mem_of_getElem? (i := 619) (by decide +kernel)⟩
theorem lw_p10 : lw_okq (⟨"IcePad", "litresOnFleet", "()I"⟩, 7) := ⟨⟨by decide +kernel, by decide +kernel⟩, List.mem_of_getElem? (i := 17) (by decide +kernel), List.mem_of_getElem? (i := 633) (by decide +kernel), List.mem_of_getElem? (i := 634) (by decide +kernel)⟩
theorem lw_p11 : lw_okq (⟨"IcePadModel", "codeOf", "(I)I"⟩, 35) := ⟨⟨by decide +kernel, by decide +kernel⟩, List.mem_of_getElem? (i := 637) (by decide +kernel), List.mem_of_getElem? (i := 775) (by decide +kernel), List.mem_of_getElem? (i := 776) (by decide +kernel)⟩
theorem lw_p12 : lw_okq (⟨"IcePadModel", "lies", "(I)I"⟩, 35) := ⟨⟨by decide +kernel, by decide +kernel⟩, List.mem_of_getElem? (i := 637) (by decide +kernel), List.mem_of_getElem? (i := 779) (by decide +kernel), List.mem_of_getElem? (i := 780) (by decide +kernel)⟩
theorem lw_p13 : lw_okq (⟨"IcePadModel", "isAircraft", "(I)Z"⟩, 35) := ⟨⟨by decide +kernel, by decide +kernel⟩, List.mem_of_getElem? (i := 637) (by decide +kernel), List.mem_of_getElem? (i := 803) (by decide +kernel), List.mem_of_getElem? (i := 804) (by decide +kernel)⟩
theorem lw_p14 : lw_okq (⟨"IcePadModel", "isFree", "(I)Z"⟩, 35) := ⟨⟨by decide +kernel, by decide +kernel⟩, List.mem_of_getElem? (i := 637) (by decide +kernel), List.mem_of_getElem? (i := 807) (by decide +kernel), List.mem_of_getElem? (i := 808) (by decide +kernel)⟩
theorem lw_p15 : lw_okq (⟨"IcePadModel", "cancels", "(I)V"⟩, 35) := ⟨⟨by decide +kernel, by decide +kernel⟩, List.mem_of_getElem? (i := 637) (by decide +kernel), List.mem_of_getElem? (i := 815) (by decide +kernel), List.mem_of_getElem? (i := 816) (by decide +kernel)⟩
def lw_privs_1 : List (MethodName × Nat) := [(⟨"java/lang/Throwable", "fillInStackTrace", "(I)Ljava/lang/Throwable;"⟩, 6), (⟨"IcePad", "padIsFree", "(I)Z"⟩, 7), (⟨"IcePad", "liveMinute", "()V"⟩, 7), (⟨"IcePad", "endTreatments", "()V"⟩, 7), (⟨"IcePad", "cancelBehindDuty", "()V"⟩, 7), (⟨"IcePad", "sendBackWithoutClock", "()V"⟩, 7), (⟨"IcePad", "clockLeft", "(LIcePad$Aircraft;)D"⟩, 7), (⟨"IcePad", "letOneLeave", "()V"⟩, 7), (⟨"IcePad", "goesAhead", "(II)Z"⟩, 7), (⟨"IcePad", "placeInQueue", "(I)I"⟩, 7), (⟨"IcePad", "litresOnFleet", "()I"⟩, 7), (⟨"IcePadModel", "codeOf", "(I)I"⟩, 35), (⟨"IcePadModel", "lies", "(I)I"⟩, 35), (⟨"IcePadModel", "isAircraft", "(I)Z"⟩, 35), (⟨"IcePadModel", "isFree", "(I)Z"⟩, 35), (⟨"IcePadModel", "cancels", "(I)V"⟩, 35)]
theorem lw_r1 : ∀ q ∈ lw_privs_1, lw_okq q := List.forall_mem_cons.mpr ⟨lw_p0, List.forall_mem_cons.mpr ⟨lw_p1, List.forall_mem_cons.mpr ⟨lw_p2, List.forall_mem_cons.mpr ⟨lw_p3, List.forall_mem_cons.mpr ⟨lw_p4, List.forall_mem_cons.mpr ⟨lw_p5, List.forall_mem_cons.mpr ⟨lw_p6, List.forall_mem_cons.mpr ⟨lw_p7, List.forall_mem_cons.mpr ⟨lw_p8, List.forall_mem_cons.mpr ⟨lw_p9, List.forall_mem_cons.mpr ⟨lw_p10, List.forall_mem_cons.mpr ⟨lw_p11, List.forall_mem_cons.mpr ⟨lw_p12, List.forall_mem_cons.mpr ⟨lw_p13, List.forall_mem_cons.mpr ⟨lw_p14, List.forall_mem_cons.mpr ⟨lw_p15, fun _ h => absurd h List.not_mem_nil⟩⟩⟩⟩⟩⟩⟩⟩⟩⟩⟩⟩⟩⟩⟩⟩
theorem lw_p16 : lw_okq (⟨"IcePadModel", "minute", "()V"⟩, 35) := ⟨⟨by decide +kernel, by decide +kernel⟩, List.mem_of_getElem? (i := 637) (by decide +kernel), List.mem_of_getElem? (i := 831) (by decide +kernel), List.mem_of_getElem? (i := 832) (by decide +kernel)⟩
theorem lw_p17 : lw_okq (⟨"IcePadModel", "falls", "(I)V"⟩, 35) := ⟨⟨by decide +kernel, by decide +kernel⟩, List.mem_of_getElem? (i := 637) (by decide +kernel), List.mem_of_getElem? (i := 835) (by decide +kernel), List.mem_of_getElem? (i := 836) (by decide +kernel)⟩
theorem lw_p18 : lw_okq (⟨"IcePadModel", "isSprayed", "(I)Z"⟩, 35) := ⟨⟨by decide +kernel, by decide +kernel⟩, List.mem_of_getElem? (i := 637) (by decide +kernel), List.mem_of_getElem? (i := 839) (by decide +kernel), List.mem_of_getElem? (i := 840) (by decide +kernel)⟩
theorem lw_p19 : lw_okq (⟨"IcePadModel", "isClosed", "()Z"⟩, 35) := ⟨⟨by decide +kernel, by decide +kernel⟩, List.mem_of_getElem? (i := 637) (by decide +kernel), List.mem_of_getElem? (i := 843) (by decide +kernel), List.mem_of_getElem? (i := 844) (by decide +kernel)⟩
theorem lw_p20 : lw_okq (⟨"IcePadModel", "ploughs", "()V"⟩, 35) := ⟨⟨by decide +kernel, by decide +kernel⟩, List.mem_of_getElem? (i := 637) (by decide +kernel), List.mem_of_getElem? (i := 847) (by decide +kernel), List.mem_of_getElem? (i := 848) (by decide +kernel)⟩
theorem lw_p21 : lw_okq (⟨"IcePadModel", "goesOn", "(I)V"⟩, 35) := ⟨⟨by decide +kernel, by decide +kernel⟩, List.mem_of_getElem? (i := 637) (by decide +kernel), List.mem_of_getElem? (i := 851) (by decide +kernel), List.mem_of_getElem? (i := 852) (by decide +kernel)⟩
theorem lw_p22 : lw_okq (⟨"IcePadModel", "clockOf", "(I)D"⟩, 35) := ⟨⟨by decide +kernel, by decide +kernel⟩, List.mem_of_getElem? (i := 637) (by decide +kernel), List.mem_of_getElem? (i := 855) (by decide +kernel), List.mem_of_getElem? (i := 856) (by decide +kernel)⟩
theorem lw_p23 : lw_okq (⟨"IcePadModel", "areEnough", "()Z"⟩, 35) := ⟨⟨by decide +kernel, by decide +kernel⟩, List.mem_of_getElem? (i := 637) (by decide +kernel), List.mem_of_getElem? (i := 863) (by decide +kernel), List.mem_of_getElem? (i := 864) (by decide +kernel)⟩
theorem lw_p24 : lw_okq (⟨"IcePadModel", "leaves", "()V"⟩, 35) := ⟨⟨by decide +kernel, by decide +kernel⟩, List.mem_of_getElem? (i := 637) (by decide +kernel), List.mem_of_getElem? (i := 867) (by decide +kernel), List.mem_of_getElem? (i := 868) (by decide +kernel)⟩
theorem lw_p25 : lw_okq (⟨"IcePadModel", "nextAfter", "(I)I"⟩, 35) := ⟨⟨by decide +kernel, by decide +kernel⟩, List.mem_of_getElem? (i := 637) (by decide +kernel), List.mem_of_getElem? (i := 899) (by decide +kernel), List.mem_of_getElem? (i := 900) (by decide +kernel)⟩
def lw_privs_2 : List (MethodName × Nat) := [(⟨"IcePadModel", "minute", "()V"⟩, 35), (⟨"IcePadModel", "falls", "(I)V"⟩, 35), (⟨"IcePadModel", "isSprayed", "(I)Z"⟩, 35), (⟨"IcePadModel", "isClosed", "()Z"⟩, 35), (⟨"IcePadModel", "ploughs", "()V"⟩, 35), (⟨"IcePadModel", "goesOn", "(I)V"⟩, 35), (⟨"IcePadModel", "clockOf", "(I)D"⟩, 35), (⟨"IcePadModel", "areEnough", "()Z"⟩, 35), (⟨"IcePadModel", "leaves", "()V"⟩, 35), (⟨"IcePadModel", "nextAfter", "(I)I"⟩, 35)]
theorem lw_r2 : ∀ q ∈ lw_privs_2, lw_okq q := List.forall_mem_cons.mpr ⟨lw_p16, List.forall_mem_cons.mpr ⟨lw_p17, List.forall_mem_cons.mpr ⟨lw_p18, List.forall_mem_cons.mpr ⟨lw_p19, List.forall_mem_cons.mpr ⟨lw_p20, List.forall_mem_cons.mpr ⟨lw_p21, List.forall_mem_cons.mpr ⟨lw_p22, List.forall_mem_cons.mpr ⟨lw_p23, List.forall_mem_cons.mpr ⟨lw_p24, List.forall_mem_cons.mpr ⟨lw_p25, fun _ h => absurd h List.not_mem_nil⟩⟩⟩⟩⟩⟩⟩⟩⟩⟩
def lw_privs : List (MethodName × Nat) := lw_privs_1 ++ (lw_privs_2)
def lw_tbl : List Cond := k2_sels lw_privs ++ tables_1
theorem lw_privs_ok : ∀ q ∈ lw_privs, lw_okq q := by
  show ∀ q ∈ lw_privs_1 ++ (lw_privs_2), lw_okq q
  exact List.forall_mem_append.mpr ⟨lw_r1, lw_r2⟩
/-- the streams that the claim lets the run draw from -/
abbrev lw_cs : List Choice := [Jvm.Choice.named "NaN.bits"]
theorem lw_bits : nanBits ∈ lw_cs := by first | decide | exact List.mem_cons_self | simp [lw_cs, nanBits]
-- ===== end of PART A; then your names; then what follows =====
/-! ===== BEGIN words of one list among another's, by their places ===== -/
theorem goodIn_r {big : List Cond} (ws : List Cond) (ps : List Nat) (hp : ws = ps.filterMap (fun i => big[i]?)) (h : ws.all goodWord = true) : GoodIn big ws := by
  intro w hw
  have h1 := List.all_eq_true.mp h w hw
  rw [hp] at hw
  obtain ⟨i, -, hi⟩ := List.mem_filterMap.mp hw
  have hm : w ∈ big := by first | exact List.mem_of_getElem? hi | exact List.getElem?_mem hi
  exact ⟨hm, good_of_word h1⟩
theorem goodIn_app {big a b : List Cond} (ha : GoodIn big a) (hb : GoodIn big b) : GoodIn big (a ++ b) := fun w h => (List.mem_append.mp h).elim (ha w) (hb w)
theorem goodIn_ca {big a b : List Cond} {c : Cond} (ha : GoodIn big (c :: a)) (hb : GoodIn big b) : GoodIn big (c :: (a ++ b)) := fun w h => (List.mem_cons.mp h).elim (fun e => ha w (List.mem_cons.mpr (Or.inl e))) (fun h => (List.mem_append.mp h).elim (fun h => ha w (List.mem_cons.mpr (Or.inr h))) (hb w))
theorem goodIn_sub {big ws : List Cond} (hm : ∀ w ∈ ws, w ∈ big) (h : ws.all goodWord = true) : GoodIn big ws := fun w hw => ⟨hm w hw, good_of_word (List.all_eq_true.mp h w hw)⟩
/-! ===== END ===== -/

/-- (ours; the printed names speak of it and do not hold it) the tables know the class of the arrays of arrays of t -/
def va_AOA (t : FieldType) (U : State) : Prop := (Cond.arrayOver (.array t)).before #[] U = true
theorem va_AOA.use {t : FieldType} {B : Array Value} {U : State} (h : va_AOA t U) : (Cond.arrayOver (.array t)).before B U = true := h
/-! ===== BEGIN new T[n][m]: the outer array a place, the inner ones among the pooled ===== -/
/-- f, but v at every address of l -/
def vr_up {α : Type} (f : Nat → α) (l : List Nat) (v : α) : Nat → α := fun a => if a ∈ l then v else f a
theorem vr_up_in {α : Type} {f : Nat → α} {l : List Nat} {v : α} {a : Nat} (h : a ∈ l) : vr_up f l v a = v := if_pos h
theorem vr_up_ne {α : Type} {f : Nat → α} {l : List Nat} {v : α} {a : Nat} (h : a ∉ l) : vr_up f l v a = f a := if_neg h
theorem vr_rows {L l : List Nat} {f : Nat → va_E} {e : va_E} (h : ∀ a, a ∈ l → a ∉ L) : va_pl L f ++ l.map (fun a => (a, e)) = va_pl (L ++ l) (vr_up f l e) := by
  unfold va_pl
  rw [List.map_append]
  congr 1
  · apply List.map_congr_left
    intro a ha
    rw [vr_up_ne (fun q => h a q ha)]
  · apply List.map_congr_left
    intro a ha
    rw [vr_up_in ha]
theorem vr_lay {X rows : va_W} {x : Nat × va_E} {pl : va_W} {D : va_G} {cl : List vw_C} {H : Heap} (hP : va_P D cl (((X ++ pl) ++ [x]) ++ rows) H) : va_P D cl ((X ++ [x]) ++ (pl ++ rows)) H := by
  rw [List.append_assoc (X ++ pl)] at hP
  have h := va_P.swap hP
  rw [← List.append_assoc X] at h
  have h2 := va_P.swap h
  rw [List.append_assoc (X ++ [x])] at h2
  exact h2
theorem vr_layD {X rows : va_W} {x : Nat × va_E} {pl : va_W} {A : Nat → Prop} (hD : va_D A (((X ++ pl) ++ [x]) ++ rows)) : va_D A ((X ++ [x]) ++ (pl ++ rows)) := by
  rw [List.append_assoc (X ++ pl)] at hD
  have h := va_D.swap hD
  rw [← List.append_assoc X] at h
  have h2 := va_D.swap h
  rw [List.append_assoc (X ++ [x])] at h2
  exact h2
theorem vr_outer (c : ClassId) (N h0 : Nat) : ∀ i : Nat, Jvm.Free.Multi.outerC c N h0 i = arrV c N (fun j => va_rf (if j < i then some (h0 + 1 + j) else none))
  | 0 => by
    show ({ cls := c, slots := Array.replicate N .null, vm := .none } : Cell) = _
    rw [arrV_new]
    refine congrArg (arrV c N) (funext fun j => ?_)
    simp [va_rf]
  | i + 1 => by
    show (Jvm.Free.Multi.outerC c N h0 i).setSlot i (.ref (h0 + 1 + i)) = _
    rw [vr_outer c N h0 i, arrV_store]
    refine congrArg (arrV c N) (funext fun j => ?_)
    by_cases e : j = i
    · subst e
      simp [updV, va_rf]
    · by_cases h : j < i
      · simp [updV, e, h, Nat.lt_succ_of_lt h]
      · simp [updV, e, h, show ¬ j < i + 1 by omega]
section VGM
variable {p : Program} {l : Launch} {e : Env} {R : Room} {s : State} {m : MethodId} {args : Array Value} {below : List Frame} {meth : Method} {c : Code} {H : Heap} {locs : List Loc} {cells slots : Nat} {Q : State → Prop}
variable {cc : ByteArray} {pc : Nat} {ls : Array Slot} {rest : List Value} {D : va_G} {cl : List vw_C} {A : Nat → Prop} {a : Nat} {tys : List (ClassId × FieldType)} {ws : va_W} {H0 : Heap}
theorem va_mna {X : va_W} {L : List Nat} {f : Nat → va_E} {cc : ByteArray} (hexec : p.tables.exec = Jvm.exec) (hb : c.code = cc) {own : String} {index : Nat} {ty : FieldType} {cy : ClassId} (hown : s.vm.findClass own = some m.cls) (hclink : (Cond.classLink own index ("[" ++ (FieldType.array ty).toString)).before args s = true) (hover : va_AOA ty s) (harr : (Cond.arrayClass ty).before args s = true) (hcy : s.vm.findClass (FieldType.array ty).toString = some cy)
    (hK : va_K D cl tys s) (hP : va_P D cl (X ++ va_pl L f) H) (hD : va_D A (X ++ va_pl L f)) (hS : va_S A H0 H locs) (hA : ∀ q, H0.size ≤ q → A q) {n k : Int32} {N' K' : Nat} {z : vp_A} (hn : ¬ n < 0) (hk : ¬ k < 0) (hN : n.toNatClampNeg = N') (hM : k.toNatClampNeg = K')
    (hb1 : N' * 4 ≤ 536870912) (hb2 : K' * componentBytes ty ≤ 536870912) (hb3 : K' ≤ 536870912) (hdf : fits ty (defaultValue ty) = true) (hdd : (defaultValue ty).isDefault = true) (hcells : cells + (1 + N') ≤ R.cells) (hslots : slots + (N' + N' * K') ≤ R.slots) (hz : ∀ c : ClassId, Jvm.Free.Multi.innerC c K' (defaultValue ty) = vp_cell c z) (hdg : decode cc pc = .ok (.multianewarray index 2, 4))
    (kk : ∀ (q : Nat) (r : Nat → Nat) (cA : ClassId) (H1 : Heap), (∀ i j : Nat, i < N' → j < N' → r i = r j → i = j) → (∀ i : Nat, i < N' → r i ∉ L) → va_K D cl (tys ++ [(cA, .array ty)]) s →
      va_P D cl ((X ++ [(q, .inl (cA, N', .inr (.inr (.inr (.inr (fun i => if i < N' then some (r i) else none))))))]) ++ va_pl (L ++ (List.range N').map r) (vr_up f ((List.range N').map r) (.inl (cy, z)))) H1 → va_D A ((X ++ [(q, .inl (cA, N', .inr (.inr (.inr (.inr (fun i => if i < N' then some (r i) else none))))))]) ++ va_pl (L ++ (List.range N').map r) (vr_up f ((List.range N').map r) (.inl (cy, z)))) → va_S A H0 H1 locs →
      W p l e R s m args below meth c H1 locs (cells + 1 + N') (slots + N' + N' * K') Q (F0 m (pc + 4) ls (.ref q :: rest))) : W p l e R s m args below meth c H locs cells slots Q (F0 m pc ls (.int k :: .int n :: rest)) := by
  subst hN
  subst hM
  intro T hT Xs
  obtain ⟨vm₁, cA, comp, -, fA, fC, hO, -, X', step⟩ := Xs.multianewarray2F hexec hown hclink (va_AOA.use hover) harr (g := F0 m pc ls (.int k :: .int n :: rest)) rfl (by rw [hb]; exact hdg) rfl hn hk hb1 hb2 hb3 hdf hdd hcells hslots
  have ec : some cy = some comp := hcy.symm.trans fC
  cases ec
  generalize hF : Jvm.Free.Multi.fill (T.setVm vm₁) cA cy n.toNatClampNeg k.toNatClampNeg (defaultValue ty) n.toNatClampNeg = F at X' step
  have hTh : (T.setVm vm₁).heap = H := hT
  obtain ⟨f1, f2, -, -⟩ := Jvm.Free.Multi.fill_facts (T.setVm vm₁) cA cy n.toNatClampNeg k.toNatClampNeg (defaultValue ty) n.toNatClampNeg
  rw [hF, hTh] at f1 f2
  have hold : ∀ x : Nat, x < H.size → F.heap[x]? = H[x]? := fun x hx => by
    have := Jvm.Free.Multi.fill_old (T.setVm vm₁) cA cy n.toNatClampNeg k.toNatClampNeg (defaultValue ty) (a := x) (by rw [hTh]; exact hx) n.toNatClampNeg
    rw [hF, hTh] at this
    exact this
  have hrow : ∀ j : Nat, j < n.toNatClampNeg → F.heap[H.size + 1 + j]? = some (vp_cell cy z) := fun j hj => by
    have := Jvm.Free.Multi.fill_inner (T.setVm vm₁) cA cy n.toNatClampNeg k.toNatClampNeg (defaultValue ty) n.toNatClampNeg j hj
    rw [hF, hTh, hz] at this
    exact this
  have hout : Jvm.Free.Multi.outerC cA n.toNatClampNeg H.size n.toNatClampNeg = vp_cell cA (n.toNatClampNeg, .inr (.inr (.inr (.inr (fun i => if i < n.toNatClampNeg then some (H.size + 1 + i) else none))))) := by
    rw [vp_cell_q]
    exact vr_outer cA n.toNatClampNeg H.size n.toNatClampNeg
  rw [hout] at f2
  have hlt : ∀ a, a ∈ L → a < H.size := fun a ha => by
    obtain ⟨k9, hk9⟩ := va_pl_get (X := X) (f := f) ha
    exact (hP k9 _ hk9).lt
  have hnl : ∀ i : Nat, i < n.toNatClampNeg → H.size + 1 + i ∉ L := fun i _ h => by
    have := hlt _ h
    omega
  have hnm : ∀ a, a ∈ (List.range n.toNatClampNeg).map (fun i => H.size + 1 + i) → a ∉ L := fun a ha h => by
    obtain ⟨i, -, rfl⟩ := List.mem_map.mp ha
    have := hlt _ h
    omega
  have hP0 : va_P D cl (X ++ va_pl L f) F.heap := hP.kept (fun k9 x hx => hold x.1 ((hP k9 x hx).lt))
  have hP1 : va_P D cl ((X ++ va_pl L f) ++ [(H.size, .inl (cA, n.toNatClampNeg, .inr (.inr (.inr (.inr (fun i => if i < n.toNatClampNeg then some (H.size + 1 + i) else none))))))]) F.heap := hP0.app (fun k9 x hx => by
    have h0 : k9 < 1 := (List.getElem?_eq_some_iff.mp hx).1
    rw [show k9 = 0 by omega] at hx
    cases hx
    exact f2)
  have hP2 : va_P D cl (((X ++ va_pl L f) ++ [(H.size, .inl (cA, n.toNatClampNeg, .inr (.inr (.inr (.inr (fun i => if i < n.toNatClampNeg then some (H.size + 1 + i) else none))))))]) ++ ((List.range n.toNatClampNeg).map (fun i => H.size + 1 + i)).map (fun a => (a, .inl (cy, z)))) F.heap := hP1.app (fun k9 x hx => by
    obtain ⟨a, ha, rfl⟩ := List.mem_map.mp (List.mem_of_getElem? hx)
    obtain ⟨i, hi, rfl⟩ := List.mem_map.mp ha
    exact hrow i (List.mem_range.mp hi))
  have hD2 : va_D A (((X ++ va_pl L f) ++ [(H.size, .inl (cA, n.toNatClampNeg, .inr (.inr (.inr (.inr (fun i => if i < n.toNatClampNeg then some (H.size + 1 + i) else none))))))]) ++ ((List.range n.toNatClampNeg).map (fun i => H.size + 1 + i)).map (fun a => (a, .inl (cy, z)))) := by
    have hD1 := hD.push (e := .inl (cA, n.toNatClampNeg, .inr (.inr (.inr (.inr (fun i => if i < n.toNatClampNeg then some (H.size + 1 + i) else none)))))) hP rfl (hA _ hS.1)
    generalize hW1 : (X ++ va_pl L f) ++ [(H.size, .inl (cA, n.toNatClampNeg, .inr (.inr (.inr (.inr (fun i => if i < n.toNatClampNeg then some (H.size + 1 + i) else none))))))] = W1 at hD1 hP1 ⊢
    have hle : ∀ (k9 : Nat) (x : Nat × va_E), W1[k9]? = some x → x.1 ≤ H.size := fun k9 x hx => by
      rw [← hW1] at hx
      by_cases hl : k9 < (X ++ va_pl L f).length
      · rw [List.getElem?_append_left hl] at hx
        exact Nat.le_of_lt ((hP k9 x hx).lt)
      · rw [List.getElem?_append_right (by omega)] at hx
        have h0 : k9 - (X ++ va_pl L f).length < 1 := (List.getElem?_eq_some_iff.mp hx).1
        rw [show k9 - (X ++ va_pl L f).length = 0 by omega] at hx
        cases hx
        exact Nat.le_refl _
    have hr : ∀ (k9 : Nat) (x : Nat × va_E), (((List.range n.toNatClampNeg).map (fun i => H.size + 1 + i)).map (fun a => ((a, .inl (cy, z)) : Nat × va_E)))[k9]? = some x → x.1 = H.size + 1 + k9 := fun k9 x hx => by
      rw [List.getElem?_map, List.getElem?_map] at hx
      by_cases h9 : k9 < n.toNatClampNeg
      · rw [List.getElem?_range h9] at hx
        cases hx
        rfl
      · have hn0 : (List.range n.toNatClampNeg)[k9]? = none := List.getElem?_eq_none (by rw [List.length_range]; omega)
        rw [hn0] at hx
        cases hx
    refine ⟨fun i j x y hi hj hxy => ?_, fun k9 x hx => ?_⟩
    · by_cases h1 : i < W1.length <;> by_cases h2 : j < W1.length
      · rw [List.getElem?_append_left h1] at hi
        rw [List.getElem?_append_left h2] at hj
        exact hD1.1 i j x y hi hj hxy
      · rw [List.getElem?_append_left h1] at hi
        rw [List.getElem?_append_right (by omega)] at hj
        have := hle _ _ hi
        have := hr _ _ hj
        omega
      · rw [List.getElem?_append_right (by omega)] at hi
        rw [List.getElem?_append_left h2] at hj
        have := hle _ _ hj
        have := hr _ _ hi
        omega
      · rw [List.getElem?_append_right (by omega)] at hi hj
        have := hr _ _ hi
        have := hr _ _ hj
        omega
    · by_cases h1 : k9 < W1.length
      · rw [List.getElem?_append_left h1] at hx
        exact hD1.2 k9 x hx
      · rw [List.getElem?_append_right (by omega)] at hx
        have := hr _ _ hx
        exact hA _ (by have := hS.1; omega)
  have hAr : ArrOfT s cA (.array ty) := fun N9 z9 => by
    obtain ⟨-, k9, hk9, cm9, hkk9⟩ := (hO 0 0 0).1
    exact ⟨(fun q hq => by cases hq), k9, hk9, cm9, hkk9⟩
  have hK2 : va_K D cl (tys ++ [(cA, .array ty)]) s := ⟨hK.1, fun k9 x hx => by
    by_cases hl : k9 < tys.length
    · rw [List.getElem?_append_left hl] at hx
      exact hK.2 k9 x hx
    · rw [List.getElem?_append_right (by omega)] at hx
      have h0 : k9 - tys.length < 1 := (List.getElem?_eq_some_iff.mp hx).1
      rw [show k9 - tys.length = 0 by omega] at hx
      cases hx
      exact ⟨hAr, fA⟩⟩
  obtain ⟨t, a1, b1⟩ := kk H.size (fun i => H.size + 1 + i) cA F.heap (fun i j _ _ h => by have h9 : H.size + 1 + i = H.size + 1 + j := h; omega) hnl hK2 (by rw [← vr_rows hnm]; exact vr_lay hP2) (by rw [← vr_rows hnm]; exact vr_layD hD2) ⟨by rw [f1]; have := hS.1; omega, fun x h1 h2 => (hold x (Nat.lt_of_lt_of_le h1 hS.1)).trans (hS.2.1 x h1 h2), hS.2.2⟩ F rfl X'
  refine ⟨t, step t ?_, b1⟩
  have e : T.heap.size = H.size := by rw [hT]
  rw [e]
  exact a1
end VGM
/-! ===== END ===== -/

/-! ===== BEGIN exceptions that leave a method, and their catching by the caller (launches without stack traces) ===== -/
section VXA
/-! The laws vx_back, vx_callV, vx_callS, vx_callSW, vx_throw0, vx_throwS follow proofs of the library, with one case more: JvmDerived/Free/Laws.lean (Back.of_free), Shelf42/LK1.lean (callV, callS), Shelf/KitTraced.lean (throwNew0V, throwNewS). -/
/-- where a method has thrown q: the class by its name, the cell, what was written, the world -/
def vx_T (XC : String → State → State → Prop) (st : State) (q : Addr) (t : State) (mc ms : Nat) (free : Addr → Prop) : Prop :=
  ∃ (E : String) (ce : Cell) (L : List Loc), XC E st t ∧ t.heap[q]? = some ce ∧ ce.vm = .none ∧ st.vm.findClass E = some ce.cls ∧ st.WarmedH t.vm ∧ st.sameButNew ({ t with vm := st.vm } : State) L mc ms ∧ ∀ z ∈ L, free z.base
def vx_Q (Qc : Array Value → State → Outcome → State → Prop) (XC : String → State → State → Prop) (mc ms : Nat) (free : Addr → Prop) : Array Value → State → Outcome → State → Prop := fun a st o t =>
  (Qc a st o t ∧ ∃ L, FrameEnd st o t L mc ms ∧ ∀ q ∈ L, free q.base) ∨ ∃ q, o = .threw q ∧ vx_T XC st q t mc ms free
/-- a callee that returns or throws -/
def vx_Met (l : Launch) (y : MethodName) (ws : List Cond) (rm : Room) (Pc : Array Value → State → Prop) (Qc : Array Value → State → Outcome → State → Prop) (XC : String → State → State → Prop) (mc ms : Nat) (free : Addr → Prop) : Prop :=
  MetFree l y (headSpec ws rm) Pc (fun _ _ _ _ _ => True) (vx_Q Qc XC mc ms free)
def vx_Post (XC : String → State → State → Prop) (mc ms : Nat) (free : Addr → Prop) : Pt → Array Value → Addr → Pt → Prop := fun A a q B =>
  ∃ (g : JFrame) (mk : MethodId) (t : State) (L : List Loc) (E : String) (ce : Cell), B.U.heap = t.heap ∧ B.U.vm = t.vm ∧ XC E (A.U.calling g mk a) t ∧ t.heap[q]? = some ce ∧ ce.vm = .none ∧ A.U.vm.findClass E = some ce.cls ∧ B.locs = A.locs ++ L ∧ (∀ z ∈ L, free z.base) ∧ B.cells = A.cells + mc ∧ B.slots = A.slots + ms
def vx_Back (l : Launch) (R : Room) (p : Program) (e : Env) (below : List Frame) (s : State) (sargs : Array Value) (y : MethodName) (len W9 : Nat)
    (Pre : Pt → Array Value → Prop) (Post : Pt → Array Value → Option Value → Pt → Prop) (PostX : Pt → Array Value → Addr → Pt → Prop) : Prop :=
  ∀ (m : MethodId) (meth : Method) (c : Code) (A : Pt) (g : JFrame) (ig : Instr) (mk : MethodId) (a : Array Value),
    Stand p l e R s m sargs below meth c A.U A.locs A.cells A.slots → g.method = m → g.locals.size = c.maxLocals → decode c.code g.pc = .ok (ig, len) →
    2 * g.monitorRoom + (g.stack.map fun v => v.category).sum ≤ W9 → A.U.methodNamed? y = some mk → Pre A a →
    (∃ (v : Option Value) (B : Pt), Stand p l e R s m sargs below meth c B.U B.locs B.cells B.slots ∧ Post A a v B ∧
      Steps p.tables e below (doInvoke e (A.U.setTop g) [] mk a).1 (B.U.setTop { g with pc := g.pc + len, stack := v.toList ++ g.stack })) ∨
    (∃ (q : Addr) (B : Pt), Stand p l e R s m sargs below meth c B.U B.locs B.cells B.slots ∧ PostX A a q B ∧
      Steps p.tables e below (doInvoke e (A.U.setTop g) [] mk a).1 ((B.U.setTop g).pushFrame (.throwing q)))
section Payer
variable {l : Launch} {R : Room} {p : Program} {e : Env} {below : List Frame} {s : State} {sargs : Array Value} {y : MethodName} {len W9 : Nat}
theorem vx_back {ws : List Cond} {rm : Room} {Pc : Array Value → State → Prop} {Qc : Array Value → State → Outcome → State → Prop} {XC : String → State → State → Prop} {mc ms : Nat} {free : Addr → Prop} {bytes : ByteArray} {maxL : Nat} {ret : Option FieldType}
    (hM : vx_Met l y ws rm Pc Qc XC mc ms free) (hblind : FrameBlind Pc) (hrc : rm.cells = mc) (hrs : rm.slots = ms)
    (hframes : rm.frames + 1 ≤ R.frames) (hlocals : W9 + (maxL + 11) + rm.locals ≤ R.locals)
    (hws : ∀ w ∈ ws, ∀ a' U, s.WarmedH U.vm → w.before a' U = true) (hcode : Cond.code y bytes maxL ret ∈ ws) (hinit : ∀ a' U, s.WarmedH U.vm → (Cond.initialized y.cls).before a' U = true) :
    vx_Back l R p e below s sargs y len W9 (PreOf R mc ms Pc) (PostOf Qc mc ms free) (vx_Post XC mc ms free) := by
  intro m meth c A g ig mk a X hg hsize hdg hW hn hp
  have h1 : (headSpec ws rm).pre.before a A.U = true := atoms_intro fun w hw => hws w hw _ _ X.warmed
  have h2 : (Cond.code y bytes maxL ret).before a A.U = true := hws _ hcode _ _ X.warmed
  have h3 : (Cond.initialized y.cls).before a A.U = true := hinit _ _ X.warmed
  have h4 : A.cells + (headSpec ws rm).room.cells ≤ R.cells := by rw [show (headSpec ws rm).room.cells = mc from hrc]; exact hp.1
  have h5 : A.slots + (headSpec ws rm).room.slots ≤ R.slots := by rw [show (headSpec ws rm).room.slots = ms from hrs]; exact hp.2.1
  have hPc : Pc a (A.U.calling g mk a) := hblind _ _ _ _ hp.2.2
  obtain ⟨U, Ls, c0, s0⟩ := A
  dsimp only [Pt.U, Pt.locs, Pt.cells, Pt.slots] at h1 h2 h3 h4 h5 X hn hPc ⊢
  obtain ⟨methY, cY, hmY, hcY, -, hlY, -, -, -, -⟩ := Cond.code_spec hn h2
  obtain ⟨kY, hkY, -⟩ := className_of_methodNamed hn
  have hinitY : kY.init = .initialized := Cond.initialized_spec (findClass_of_methodNamed hn) hkY h3
  have h : At U g.method c below := by rw [hg]; exact X.here
  have hlocals9 : W9 + (maxL + 11) + (headSpec ws rm).room.locals ≤ R.locals := hlocals
  have happ : (headSpec ws rm).appliesLoose y e.platform (U.calling g mk a) = true :=
    Spec.appliesLoose_calling (g := g) h hdg hn hkY hinitY
      (X.room_calling (g := g) (R' := (headSpec ws rm).room) hsize hmY hcY hframes (by rw [hlY]; omega) h4 h5) h1
  obtain ⟨mid, hmid⟩ := h.above
  have hfr : (U.setTop g).frames = (.java g :: mid) ++ below := by rw [State.frames_setTop' g h.top, hmid]; rfl
  obtain ⟨o, s₂, hsteps, -, hend, hq⟩ := Steps.callFree hM p X.admits X.cas X.clock (acts := []) hfr happ hPc trivial
  have hq' : vx_Q Qc XC mc ms free a (U.calling g mk a) o s₂ := hq
  rw [State.frames_setTop' g h.top] at hend
  obtain ⟨g₀, hg0⟩ := Option.isSome_iff_exists.mp h.top
  obtain ⟨r, hr⟩ := State.topJava?_eq_some.mp hg0
  have hr' : (({ U with heap := s₂.heap, slotsUsed := s₂.slotsUsed } : State).setVm s₂.vm).frames = .java g₀ :: r := hr
  rcases hq' with ⟨hqc, L, hfe, hL⟩ | ⟨q, rfl, E, ce, L, hx, hce, hcv, hcl, hW₂, hsm, hL⟩
  · obtain ⟨⟨v, rfl⟩, hW₂, e2, q2, q3, q4, q5, q6⟩ := id hfe
    have e3 : s₂ = ({ (U.calling g mk a).setFrames s₂.frames with heap := s₂.heap, slotsUsed := s₂.slotsUsed } : State).setVm s₂.vm := by
      have : s₂ = ({ s₂ with vm := (U.calling g mk a).vm } : State).setVm s₂.vm := rfl
      rw [e2] at this
      exact this
    obtain ⟨c₂, i₂, len₂, hc₂, hd₂, hf₂⟩ := hend
    have hW' : U.WarmedH s₂.vm := hW₂
    have hcc : c₂ = c := by
      have h1 : s₂.code? g.method = U.code? g.method := by
        rw [State.code?_eq, State.code?_eq, hW'.alike.method?]
      exact Option.some.inj (hc₂.symm.trans (h1.trans h.code))
    subst hcc
    have hlen : len₂ = len := by rw [hdg] at hd₂; cases hd₂; rfl
    subst hlen
    have hs₂ : s₂ = (({ U with heap := s₂.heap, slotsUsed := s₂.slotsUsed } : State).setVm s₂.vm).setTop { g with pc := g.pc + len₂, stack := v.toList ++ g.stack } := by
      refine e3.trans ?_
      rw [hf₂, State.calling_eq h.top, State.setFrames_setFrames, State.setTop_of_frames _ hr', hr]
      rfl
    have hsame : U.sameButNew ({ U with heap := s₂.heap, slotsUsed := s₂.slotsUsed } : State) L mc ms := by
      refine ⟨?_, q2, q3, q4, q5, q6⟩
      obtain ⟨t, ht, -⟩ := State.frames_cons hr
      show ({ U with heap := s₂.heap, slotsUsed := s₂.slotsUsed } : State) = { U.setFrames U.frames with heap := s₂.heap, slotsUsed := s₂.slotsUsed }
      rw [State.setFrames_self ht]
    subst hg
    refine Or.inl ⟨v, ⟨(({ U with heap := s₂.heap, slotsUsed := s₂.slotsUsed } : State).setVm s₂.vm), Ls ++ L, c0 + mc, s0 + ms⟩,
      ⟨X.admits, X.cas, X.clock, X.frames, X.room, X.hears, X.method, X.code, (X.here.setHeapUsed s₂.heap s₂.slotsUsed).setVm hW'.alike, X.tail, State.WarmedH.trans X.warmed hW', X.limits, X.bytes, X.same.trans (hsame.setVm s.vm)⟩,
      ⟨g, mk, s₂, L, rfl, rfl, hqc, rfl, hL, rfl, rfl⟩, ?_⟩
    show Steps p.tables e below _ ((({ U with heap := s₂.heap, slotsUsed := s₂.slotsUsed } : State).setVm s₂.vm).setTop { g with pc := g.pc + len₂, stack := v.toList ++ g.stack })
    rw [← hs₂]
    exact hsteps
  · obtain ⟨e2, q2, q3, q4, q5, q6⟩ := id hsm
    have e3 : s₂ = ({ (U.calling g mk a).setFrames s₂.frames with heap := s₂.heap, slotsUsed := s₂.slotsUsed } : State).setVm s₂.vm := by
      have : s₂ = ({ s₂ with vm := (U.calling g mk a).vm } : State).setVm s₂.vm := rfl
      rw [e2] at this
      exact this
    have hf₂ : s₂.frames = .throwing q :: .java g :: U.frames.tail := hend
    have hW' : U.WarmedH s₂.vm := hW₂
    have hs₂ : s₂ = ((({ U with heap := s₂.heap, slotsUsed := s₂.slotsUsed } : State).setVm s₂.vm).setTop g).pushFrame (.throwing q) := by
      refine e3.trans ?_
      rw [hf₂, State.calling_eq h.top, State.setFrames_setFrames, State.pushFrame, State.frames_setTop _ hr', State.setTop_of_frames _ hr', State.setFrames_setFrames, hr]
      rfl
    have hsame : U.sameButNew ({ U with heap := s₂.heap, slotsUsed := s₂.slotsUsed } : State) L mc ms := by
      refine ⟨?_, q2, q3, q4, q5, q6⟩
      obtain ⟨t, ht, -⟩ := State.frames_cons hr
      show ({ U with heap := s₂.heap, slotsUsed := s₂.slotsUsed } : State) = { U.setFrames U.frames with heap := s₂.heap, slotsUsed := s₂.slotsUsed }
      rw [State.setFrames_self ht]
    subst hg
    refine Or.inr ⟨q, ⟨(({ U with heap := s₂.heap, slotsUsed := s₂.slotsUsed } : State).setVm s₂.vm), Ls ++ L, c0 + mc, s0 + ms⟩,
      ⟨X.admits, X.cas, X.clock, X.frames, X.room, X.hears, X.method, X.code, (X.here.setHeapUsed s₂.heap s₂.slotsUsed).setVm hW'.alike, X.tail, State.WarmedH.trans X.warmed hW', X.limits, X.bytes, X.same.trans (hsame.setVm s.vm)⟩,
      ⟨g, mk, s₂, L, E, ce, rfl, rfl, hx, hce, hcv, hcl, rfl, hL, rfl, rfl⟩, ?_⟩
    show Steps p.tables e below _ (((({ U with heap := s₂.heap, slotsUsed := s₂.slotsUsed } : State).setVm s₂.vm).setTop g).pushFrame (.throwing q))
    rw [← hs₂]
    exact hsteps
end Payer
section Calls
variable {p : Program} {l : Launch} {e : Env} {R : Room} {s : State} {m : MethodId} {args : Array Value} {below : List Frame} {meth : Method} {c : Code} {T : State} {locs : List Loc} {cells slots : Nat}
theorem vx_callV (X : Stand p l e R s m args below meth c T locs cells slots) (hexec : p.tables.exec = Jvm.exec) {own C : String} {index : Nat} {y : MethodName} {bytes : ByteArray} {maxL : Nat} {ret : Option FieldType}
    (hown : s.vm.findClass own = some m.cls) (hlink : (Cond.methodLink own index y).before args s = true) (hinst : (Cond.instanceMethod y).before args s = true) (hsel : (Cond.selects C y y).before args s = true)
    (hcode : (Cond.code y bytes maxL ret).before args s = true) (hy : y.cls ≠ "java/lang/invoke/MethodHandle" ∧ y.cls ≠ "java/lang/invoke/VarHandle")
    {W9 : Nat} {Pre : Pt → Array Value → Prop} {Post : Pt → Array Value → Option Value → Pt → Prop} {PostX : Pt → Array Value → Addr → Pt → Prop} (hK : vx_Back l R p e below s args y 3 W9 Pre Post PostX)
    {b : Addr} {cellB : Cell} (hcell : T.heap[b]? = some cellB) (hobj : cellB.vm.isStatics = false) (hcls : s.vm.findClass C = some cellB.cls)
    {g : JFrame} (hg : g.method = m) (hsize : g.locals.size = c.maxLocals) {argsL rest : List Value} (hlen : ∀ sig, parseMethodDescriptor y.desc = some sig → argsL.length = sig.parameters.length)
    (hstack : g.stack = argsL.reverse ++ .ref b :: rest) (hW : 2 * g.monitorRoom + (rest.map fun v => v.category).sum ≤ W9) (hdg : decode c.code g.pc = .ok (.invokevirtual index, 3))
    (hpre : ∀ vm₁, s.WarmedH vm₁ → Pre ⟨T.setVm vm₁, locs, cells, slots⟩ (Value.ref b :: argsL).toArray) :
    (∃ (v : Option Value) (vm₁ : Vm) (B : Pt), s.WarmedH vm₁ ∧ Stand p l e R s m args below meth c B.U B.locs B.cells B.slots ∧ Post ⟨T.setVm vm₁, locs, cells, slots⟩ (Value.ref b :: argsL).toArray v B ∧
      ∀ target, Steps p.tables e below (B.U.setTop { g with pc := g.pc + 3, stack := v.toList ++ rest }) target → Steps p.tables e below (T.setTop g) target) ∨
    (∃ (q : Addr) (vm₁ : Vm) (B : Pt), s.WarmedH vm₁ ∧ Stand p l e R s m args below meth c B.U B.locs B.cells B.slots ∧ PostX ⟨T.setVm vm₁, locs, cells, slots⟩ (Value.ref b :: argsL).toArray q B ∧
      Steps p.tables e below (T.setTop g) ((B.U.setTop { g with stack := rest }).pushFrame (.throwing q))) := by
  obtain ⟨mk, methM, hnamed, hmethM, hstM, habM⟩ := Cond.instanceMethod_spec hinst
  obtain ⟨methM', cM, hmethM', -, -, -, -, -, -, hsigM⟩ := Cond.code_spec hnamed hcode
  cases hmethM.symm.trans hmethM'
  obtain ⟨c2, r2, m2, q1, q2, q3, q4, kP, hkP, hkPi⟩ := Cond.selects_spec hsel
  cases hcls.symm.trans q1
  cases (State.methodFound?_of_named hnamed hy).symm.trans q2
  cases hnamed.symm.trans q3
  have hselP : selectMethod e.platform s.vm cellB.cls mk = .method mk := by rw [Launch.admits_selectMethod X.admits]; exact q4
  obtain ⟨vm₁, X₁, hstep₁⟩ := X.invokevirtual hexec hown hlink hnamed hmethM hstM hkP hkPi hy (a := b) (cell := cellB) hcell
    (fun z h => by rw [h] at hobj; cases hobj) hselP hmethM habM hkP hkPi (g := g) hg (argsL := argsL) (rest := rest) (hlen _ hsigM) hstack hdg
  rcases hK m meth c ⟨T.setVm vm₁, locs, cells, slots⟩ { g with stack := rest } (.invokevirtual index) mk (Value.ref b :: argsL).toArray X₁ hg hsize hdg hW (X₁.named hnamed) (hpre vm₁ X₁.warmed) with ⟨v, B, X', hpost, hsteps⟩ | ⟨q, B, X', hpost, hsteps⟩
  · exact Or.inl ⟨v, vm₁, B, X₁.warmed, X', hpost, fun target h => hstep₁ _ fun acts => by rw [doInvoke_state]; exact hsteps.trans h⟩
  · exact Or.inr ⟨q, vm₁, B, X₁.warmed, X', hpost, hstep₁ _ fun acts => by rw [doInvoke_state]; exact hsteps⟩
theorem vx_callS (X : Stand p l e R s m args below meth c T locs cells slots) (hexec : p.tables.exec = Jvm.exec) {own : String} {index : Nat} {y : MethodName} {bytes : ByteArray} {maxL : Nat} {ret : Option FieldType}
    (hown : s.vm.findClass own = some m.cls) (hlink : (Cond.methodLink own index y).before args s = true) (hstat : (Cond.static y).before args s = true) (hinit : (Cond.initialized y.cls).before args s = true)
    (hcode : (Cond.code y bytes maxL ret).before args s = true) (hy : y.cls ≠ "java/lang/invoke/MethodHandle" ∧ y.cls ≠ "java/lang/invoke/VarHandle")
    {W9 : Nat} {Pre : Pt → Array Value → Prop} {Post : Pt → Array Value → Option Value → Pt → Prop} {PostX : Pt → Array Value → Addr → Pt → Prop} (hK : vx_Back l R p e below s args y 3 W9 Pre Post PostX)
    {g : JFrame} (hg : g.method = m) (hsize : g.locals.size = c.maxLocals) {argsL rest : List Value} (hlen : ∀ sig, parseMethodDescriptor y.desc = some sig → argsL.length = sig.parameters.length)
    (hstack : g.stack = argsL.reverse ++ rest) (hW : 2 * g.monitorRoom + (rest.map fun v => v.category).sum ≤ W9) (hdg : decode c.code g.pc = .ok (.invokestatic index, 3))
    (hpre : ∀ vm₁, s.WarmedH vm₁ → Pre ⟨T.setVm vm₁, locs, cells, slots⟩ argsL.toArray) :
    (∃ (v : Option Value) (vm₁ : Vm) (B : Pt), s.WarmedH vm₁ ∧ Stand p l e R s m args below meth c B.U B.locs B.cells B.slots ∧ Post ⟨T.setVm vm₁, locs, cells, slots⟩ argsL.toArray v B ∧
      ∀ target, Steps p.tables e below (B.U.setTop { g with pc := g.pc + 3, stack := v.toList ++ rest }) target → Steps p.tables e below (T.setTop g) target) ∨
    (∃ (q : Addr) (vm₁ : Vm) (B : Pt), s.WarmedH vm₁ ∧ Stand p l e R s m args below meth c B.U B.locs B.cells B.slots ∧ PostX ⟨T.setVm vm₁, locs, cells, slots⟩ argsL.toArray q B ∧
      Steps p.tables e below (T.setTop g) ((B.U.setTop { g with stack := rest }).pushFrame (.throwing q))) := by
  obtain ⟨mk, hnamed⟩ := Cond.code_named hcode
  obtain ⟨methM, cM, hmethM, -, -, -, -, -, -, hsigM⟩ := Cond.code_spec hnamed hcode
  have hstatic : methM.isStatic = true := Cond.static_spec hnamed hmethM hstat
  obtain ⟨kP, hkP, -⟩ := className_of_methodNamed hnamed
  have hinitP : kP.init = .initialized := Cond.initialized_spec (findClass_of_methodNamed hnamed) hkP hinit
  obtain ⟨vm₁, X₁, hstep₁⟩ := X.invokestatic hexec hown hlink hnamed hmethM hstatic hkP hinitP hy (g := g) hg (argsL := argsL) (rest := rest) (hlen _ hsigM) hstack hdg
  rcases hK m meth c ⟨T.setVm vm₁, locs, cells, slots⟩ { g with stack := rest } (.invokestatic index) mk argsL.toArray X₁ hg hsize hdg hW (X₁.named hnamed) (hpre vm₁ X₁.warmed) with ⟨v, B, X', hpost, hsteps⟩ | ⟨q, B, X', hpost, hsteps⟩
  · exact Or.inl ⟨v, vm₁, B, X₁.warmed, X', hpost, fun target h => hstep₁ _ fun acts => by rw [doInvoke_state]; exact hsteps.trans h⟩
  · exact Or.inr ⟨q, vm₁, B, X₁.warmed, X', hpost, hstep₁ _ fun acts => by rw [doInvoke_state]; exact hsteps⟩
end Calls
theorem vx_cls {s : State} {T : State} {vm₁ : Vm} {E : String} {k : ClassId} (hW : s.WarmedH vm₁) (h : (T.setVm vm₁).vm.findClass E = some k) : s.vm.findClass E = some k := by
  have h1 : vm₁.findClass E = some k := h
  rw [hW.alike.findClass] at h1
  exact h1
/-- the method's frame g, with q thrown over it -/
def vx_W (p : Program) (l : Launch) (e : Env) (R : Room) (s : State) (m : MethodId) (args : Array Value) (below : List Frame) (meth : Method) (c : Code) (H : Heap) (locs : List Loc) (cells slots : Nat) (Q : State → Prop) (g : JFrame) (q : Addr) : Prop :=
  ∀ T : State, T.heap = H → Stand p l e R s m args below meth c T locs cells slots → ∃ t, Steps p.tables e below ((T.setTop g).pushFrame (.throwing q)) t ∧ Q t
def vx_Run (p : Program) (l : Launch) (e : Env) (R : Room) (s : State) (m : MethodId) (args : Array Value) (below : List Frame) (meth : Method) (c : Code) (H : Heap) (locs : List Loc) (cells slots mc ms : Nat) (g : JFrame) (rest : List Value) (Qa : State → Outcome → State → Prop) (XC : String → State → State → Prop) (free : Addr → Prop) : Prop :=
  ∀ T : State, T.heap = H → Stand p l e R s m args below meth c T locs cells slots →
    (∃ (v : Option Value) (st₀ t T' : State) (L : List Loc), st₀.heap = H ∧ Stand p l e R s m args below meth c T' (locs ++ L) (cells + mc) (slots + ms) ∧ (∀ q ∈ L, free q.base) ∧ T'.heap = t.heap ∧ T'.vm = t.vm ∧ Qa st₀ (.returned v) t ∧
      Goes p e below T g T' { g with pc := g.pc + 3, stack := v.toList ++ rest }) ∨
    (∃ (q : Addr) (st₀ t T' : State) (L : List Loc) (E : String) (ce : Cell), st₀.heap = H ∧ Stand p l e R s m args below meth c T' (locs ++ L) (cells + mc) (slots + ms) ∧ (∀ z ∈ L, free z.base) ∧ T'.heap = t.heap ∧ T'.vm = t.vm ∧ XC E st₀ t ∧ t.heap[q]? = some ce ∧ ce.vm = .none ∧ s.vm.findClass E = some ce.cls ∧
      Steps p.tables e below (T.setTop g) ((T'.setTop { g with stack := rest }).pushFrame (.throwing q)))
def vx_X {S : Type} (px : S → Prop) (B : String → S → State → Prop) (A : Nat → Prop) : String → State → State → Prop := fun E st t => ∃ u : S, px u ∧ B E u t ∧ va_F A st t
section Runs
variable {p : Program} {l : Launch} {e : Env} {R : Room} {s : State} {m : MethodId} {args : Array Value} {below : List Frame} {meth : Method} {c : Code} {H : Heap} {locs : List Loc} {cells slots : Nat}
variable {y : MethodName} {bytes cc : ByteArray} {maxL nL mc ms n index : Nat} {ret : Option FieldType} {ws : List Cond} {rm : Room} {Pc : Array Value → State → Prop} {Qc : Array Value → State → Outcome → State → Prop} {XC : String → State → State → Prop} {free : Addr → Prop} {Ts : List Cond} {own C : String} {b : Addr} {As rest : List Value} {g : JFrame}
theorem vx_callBack (cb : CallB R s args own index y bytes maxL ret ws rm mc ms n) (hM : vx_Met l y ws rm Pc Qc XC mc ms free) (hbl : FrameBlind Pc) : vx_Back l R p e below s args y 3 8 (PreOf R mc ms Pc) (PostOf Qc mc ms free) (vx_Post XC mc ms free) := by
  obtain ⟨hrc, hrs, hfr, hlo, hws, hcw, -, hini, -⟩ := cb
  exact vx_back (bytes := bytes) (maxL := maxL) (ret := ret) hM hbl hrc hrs hfr hlo hws hcw (fun a' U hW => word_at hW (Or.inl (by first | rfl | simp [Cond.onTables, Cond.keeps, Cond.steady])) hini)
theorem vx_runV (S : CallFix p m c cc nL s args Ts own) (hM : vx_Met l y ws rm Pc Qc XC mc ms free) (cw : CallW R s args own C index y bytes maxL ret ws rm mc ms n) (hp : PreV s H C b Pc As)
    (hg : g.method = m) (hn : As.length = n) (hsize : g.locals.size = nL) (hstack : g.stack = As.reverse ++ .ref b :: rest) (hW : 2 * g.monitorRoom + (rest.map fun v => v.category).sum ≤ 8) (hdg : decode cc g.pc = .ok (.invokevirtual index, 3)) (hf : cells + mc ≤ R.cells ∧ slots + ms ≤ R.slots) :
    vx_Run p l e R s m args below meth c H locs cells slots mc ms g rest (Qc (Value.ref b :: As).toArray) XC free := by
  have hK : vx_Back l R p e below s args y 3 8 (PreOf R mc ms Pc) (PostOf Qc mc ms free) (vx_Post XC mc ms free) := vx_callBack cw.1 hM hp.1
  obtain ⟨⟨-, -, -, -, -, -, hcode, -, hy, hlen, hl⟩, hin, hse⟩ := cw
  obtain ⟨hx, hb, hml, ho, -⟩ := S
  obtain ⟨-, ⟨cellB, hcB, hoB, hclB⟩, hPc⟩ := hp
  intro T hT X
  rcases vx_callV X hx (C := C) (bytes := bytes) (maxL := maxL) (ret := ret) ho hl hin hse hcode hy hK (by rw [hT]; exact hcB) hoB hclB hg (hsize.trans hml.symm) (argsL := As) (rest := rest) (fun sig h => hn.trans (hlen sig h)) hstack hW (by rw [hb]; exact hdg)
    (fun vm₁ hW₁ => ⟨hf.1, hf.2, hPc (T.setVm vm₁) hT hW₁⟩) with ⟨v, vm₁, ⟨U', l2, c2, s2⟩, hW₁, X', ⟨g', mk, t, L, e1, e2, hq, h1, hL, h2, h3⟩, st⟩ | ⟨q, vm₁, ⟨U', l2, c2, s2⟩, hW₁, X', ⟨g', mk, t, L, E, ce, e1, e2, hq, hce, hcv, hcl, h1, hL, h2, h3⟩, st⟩
  · dsimp only [Pt.U, Pt.locs, Pt.cells, Pt.slots] at X' e1 e2 h1 h2 h3 st
    subst h1; subst h2; subst h3
    exact Or.inl ⟨v, (T.setVm vm₁).calling g' mk (Value.ref b :: As).toArray, t, U', L, hT, X', hL, e1, e2, hq, st⟩
  · dsimp only [Pt.U, Pt.locs, Pt.cells, Pt.slots] at X' e1 e2 h1 h2 h3 st hcl
    subst h1; subst h2; subst h3
    exact Or.inr ⟨q, (T.setVm vm₁).calling g' mk (Value.ref b :: As).toArray, t, U', L, E, ce, hT, X', hL, e1, e2, hq, hce, hcv, vx_cls hW₁ hcl, st⟩
theorem vx_runS (S : CallFix p m c cc nL s args Ts own) (hM : vx_Met l y ws rm Pc Qc XC mc ms free) (cw : CallB R s args own index y bytes maxL ret ws rm mc ms n ∧ (Cond.static y).before args s = true) (hp : PreS s H Pc As)
    (hg : g.method = m) (hn : As.length = n) (hsize : g.locals.size = nL) (hstack : g.stack = As.reverse ++ rest) (hW : 2 * g.monitorRoom + (rest.map fun v => v.category).sum ≤ 8) (hdg : decode cc g.pc = .ok (.invokestatic index, 3)) (hf : cells + mc ≤ R.cells ∧ slots + ms ≤ R.slots) :
    vx_Run p l e R s m args below meth c H locs cells slots mc ms g rest (Qc As.toArray) XC free := by
  have hK : vx_Back l R p e below s args y 3 8 (PreOf R mc ms Pc) (PostOf Qc mc ms free) (vx_Post XC mc ms free) := vx_callBack cw.1 hM hp.1
  obtain ⟨⟨-, -, -, -, -, -, hcode, hini, hy, hlen, hl⟩, hstt⟩ := cw
  obtain ⟨hx, hb, hml, ho, -⟩ := S
  intro T hT X
  rcases vx_callS X hx (bytes := bytes) (maxL := maxL) (ret := ret) ho hl hstt hini hcode hy hK hg (hsize.trans hml.symm) (argsL := As) (rest := rest) (fun sig h => hn.trans (hlen sig h)) hstack hW (by rw [hb]; exact hdg)
    (fun vm₁ hW₁ => ⟨hf.1, hf.2, hp.2 (T.setVm vm₁) hT hW₁⟩) with ⟨v, vm₁, ⟨U', l2, c2, s2⟩, hW₁, X', ⟨g', mk, t, L, e1, e2, hq, h1, hL, h2, h3⟩, st⟩ | ⟨q, vm₁, ⟨U', l2, c2, s2⟩, hW₁, X', ⟨g', mk, t, L, E, ce, e1, e2, hq, hce, hcv, hcl, h1, hL, h2, h3⟩, st⟩
  · dsimp only [Pt.U, Pt.locs, Pt.cells, Pt.slots] at X' e1 e2 h1 h2 h3 st
    subst h1; subst h2; subst h3
    exact Or.inl ⟨v, (T.setVm vm₁).calling g' mk As.toArray, t, U', L, hT, X', hL, e1, e2, hq, st⟩
  · dsimp only [Pt.U, Pt.locs, Pt.cells, Pt.slots] at X' e1 e2 h1 h2 h3 st hcl
    subst h1; subst h2; subst h3
    exact Or.inr ⟨q, (T.setVm vm₁).calling g' mk As.toArray, t, U', L, E, ce, hT, X', hL, e1, e2, hq, hce, hcv, vx_cls hW₁ hcl, st⟩
end Runs
section Rows
variable {p : Program} {l : Launch} {e : Env} {R : Room} {s : State} {m : MethodId} {args : Array Value} {below : List Frame} {meth : Method} {c : Code} {H : Heap} {locs : List Loc} {cells slots : Nat} {Q : State → Prop}
variable {mc ms : Nat} {free : Addr → Prop} {A0 A1 : Nat → Prop} {H0 : Heap} {a : Array Value} {pc : Nat} {ls : Array Slot} {st0 rest : List Value}
theorem vx_keep {st₀ t T' : State} {L : List Loc} (h0 : st₀.heap = H) (e1 : T'.heap = t.heap) (hS : va_S A0 H0 H locs) (hA : ∀ q, q < H.size → A1 q → A0 q) (hf : ∀ q, free q → A0 q) (hL : ∀ q ∈ L, free q.base) (hF : va_F A1 st₀ t) :
    H.size ≤ T'.heap.size ∧ (∀ q : Nat, q < H.size → ¬ A1 q → T'.heap[q]? = H[q]?) ∧ va_S A0 H0 T'.heap (locs ++ L) := by
  obtain ⟨hz, hk⟩ := hF
  rw [h0] at hz hk
  exact ⟨by rw [e1]; exact hz, fun q h1 h2 => by rw [e1]; exact hk q h1 h2,
    ⟨Nat.le_trans hS.1 (by rw [e1]; exact hz), fun q h1 h2 => by rw [e1, hk q (Nat.lt_of_lt_of_le h1 hS.1) (fun z => h2 (hA q (Nat.lt_of_lt_of_le h1 hS.1) z))]; exact hS.2.1 q h1 h2, fun q hq => by
      rcases List.mem_append.mp hq with h | h
      · exact hS.2.2 q h
      · exact hf _ (hL q h)⟩⟩
theorem vx_calli {S SX : Type} {post : Int32 → S → Prop} {px : SX → Prop} {B : S → State → Prop} {BX : String → SX → State → Prop} {AX : Nat → Prop} (hr : vx_Run p l e R s m args below meth c H locs cells slots mc ms (F0 m pc ls st0) rest (va_Qi post B A1 a) (vx_X px BX AX) free) (hS : va_S A0 H0 H locs) (hA : ∀ q, q < H.size → A1 q → A0 q) (hf : ∀ q, free q → A0 q) (hAX : ∀ q, q < H.size → AX q → A0 q)
    (kx : ∀ (E : String) (ce : Cell) (q9 : Addr) (u : SX) (t : State) (H1 : Heap) (locs1 : List Loc), t.heap = H1 → s.vm.Alike t.vm → px u → BX E u t → H.size ≤ H1.size → (∀ q : Nat, q < H.size → ¬ AX q → H1[q]? = H[q]?) → va_S A0 H0 H1 locs1 → H1[q9]? = some ce → ce.vm = .none → s.vm.findClass E = some ce.cls → vx_W p l e R s m args below meth c H1 locs1 (cells + mc) (slots + ms) Q (F0 m pc ls rest) q9)
    (kk : ∀ (r : Int32) (u : S) (t : State) (H1 : Heap) (locs1 : List Loc), t.heap = H1 → s.vm.Alike t.vm → post r u → B u t → H.size ≤ H1.size → (∀ q : Nat, q < H.size → ¬ A1 q → H1[q]? = H[q]?) → va_S A0 H0 H1 locs1 → W p l e R s m args below meth c H1 locs1 (cells + mc) (slots + ms) Q (F0 m (pc + 3) ls (.int r :: rest))) : W p l e R s m args below meth c H locs cells slots Q (F0 m pc ls st0) := by
  intro T hT X
  rcases hr T hT X with ⟨v, st₀, t, T', L, h0, X', hL, e1, e2, ⟨⟨r, u, hv, hp, hb⟩, hF⟩, st⟩ | ⟨q, st₀, t, T', L, E, ce, h0, X', hL, e1, e2, ⟨u, hp, hb, hF⟩, hce, hcv, hcl, st⟩
  · cases hv
    obtain ⟨k1, k2, k3⟩ := vx_keep h0 e1 hS hA hf hL hF
    obtain ⟨t2, a1, b1⟩ := kk r u t T'.heap (locs ++ L) e1.symm (by rw [← e2]; exact X'.warmed.alike) hp hb k1 k2 k3 T' rfl X'
    exact ⟨t2, st t2 a1, b1⟩
  · obtain ⟨k1, k2, k3⟩ := vx_keep h0 e1 hS hAX hf hL hF
    obtain ⟨t2, a1, b1⟩ := kx E ce q u t T'.heap (locs ++ L) e1.symm (by rw [← e2]; exact X'.warmed.alike) hp hb k1 k2 k3 (by rw [e1]; exact hce) hcv hcl T' rfl X'
    exact ⟨t2, st.trans a1, b1⟩
theorem vx_calll {S SX : Type} {post : Int64 → S → Prop} {px : SX → Prop} {B : S → State → Prop} {BX : String → SX → State → Prop} {AX : Nat → Prop} (hr : vx_Run p l e R s m args below meth c H locs cells slots mc ms (F0 m pc ls st0) rest (va_Ql post B A1 a) (vx_X px BX AX) free) (hS : va_S A0 H0 H locs) (hA : ∀ q, q < H.size → A1 q → A0 q) (hf : ∀ q, free q → A0 q) (hAX : ∀ q, q < H.size → AX q → A0 q)
    (kx : ∀ (E : String) (ce : Cell) (q9 : Addr) (u : SX) (t : State) (H1 : Heap) (locs1 : List Loc), t.heap = H1 → s.vm.Alike t.vm → px u → BX E u t → H.size ≤ H1.size → (∀ q : Nat, q < H.size → ¬ AX q → H1[q]? = H[q]?) → va_S A0 H0 H1 locs1 → H1[q9]? = some ce → ce.vm = .none → s.vm.findClass E = some ce.cls → vx_W p l e R s m args below meth c H1 locs1 (cells + mc) (slots + ms) Q (F0 m pc ls rest) q9)
    (kk : ∀ (r : Int64) (u : S) (t : State) (H1 : Heap) (locs1 : List Loc), t.heap = H1 → s.vm.Alike t.vm → post r u → B u t → H.size ≤ H1.size → (∀ q : Nat, q < H.size → ¬ A1 q → H1[q]? = H[q]?) → va_S A0 H0 H1 locs1 → W p l e R s m args below meth c H1 locs1 (cells + mc) (slots + ms) Q (F0 m (pc + 3) ls (.long r :: rest))) : W p l e R s m args below meth c H locs cells slots Q (F0 m pc ls st0) := by
  intro T hT X
  rcases hr T hT X with ⟨v, st₀, t, T', L, h0, X', hL, e1, e2, ⟨⟨r, u, hv, hp, hb⟩, hF⟩, st⟩ | ⟨q, st₀, t, T', L, E, ce, h0, X', hL, e1, e2, ⟨u, hp, hb, hF⟩, hce, hcv, hcl, st⟩
  · cases hv
    obtain ⟨k1, k2, k3⟩ := vx_keep h0 e1 hS hA hf hL hF
    obtain ⟨t2, a1, b1⟩ := kk r u t T'.heap (locs ++ L) e1.symm (by rw [← e2]; exact X'.warmed.alike) hp hb k1 k2 k3 T' rfl X'
    exact ⟨t2, st t2 a1, b1⟩
  · obtain ⟨k1, k2, k3⟩ := vx_keep h0 e1 hS hAX hf hL hF
    obtain ⟨t2, a1, b1⟩ := kx E ce q u t T'.heap (locs ++ L) e1.symm (by rw [← e2]; exact X'.warmed.alike) hp hb k1 k2 k3 (by rw [e1]; exact hce) hcv hcl T' rfl X'
    exact ⟨t2, st.trans a1, b1⟩
theorem vx_callf {S SX : Type} {post : UInt32 → S → Prop} {px : SX → Prop} {B : S → State → Prop} {BX : String → SX → State → Prop} {AX : Nat → Prop} (hr : vx_Run p l e R s m args below meth c H locs cells slots mc ms (F0 m pc ls st0) rest (va_Qf post B A1 a) (vx_X px BX AX) free) (hS : va_S A0 H0 H locs) (hA : ∀ q, q < H.size → A1 q → A0 q) (hf : ∀ q, free q → A0 q) (hAX : ∀ q, q < H.size → AX q → A0 q)
    (kx : ∀ (E : String) (ce : Cell) (q9 : Addr) (u : SX) (t : State) (H1 : Heap) (locs1 : List Loc), t.heap = H1 → s.vm.Alike t.vm → px u → BX E u t → H.size ≤ H1.size → (∀ q : Nat, q < H.size → ¬ AX q → H1[q]? = H[q]?) → va_S A0 H0 H1 locs1 → H1[q9]? = some ce → ce.vm = .none → s.vm.findClass E = some ce.cls → vx_W p l e R s m args below meth c H1 locs1 (cells + mc) (slots + ms) Q (F0 m pc ls rest) q9)
    (kk : ∀ (r : UInt32) (u : S) (t : State) (H1 : Heap) (locs1 : List Loc), t.heap = H1 → s.vm.Alike t.vm → post r u → B u t → H.size ≤ H1.size → (∀ q : Nat, q < H.size → ¬ A1 q → H1[q]? = H[q]?) → va_S A0 H0 H1 locs1 → W p l e R s m args below meth c H1 locs1 (cells + mc) (slots + ms) Q (F0 m (pc + 3) ls (.float r :: rest))) : W p l e R s m args below meth c H locs cells slots Q (F0 m pc ls st0) := by
  intro T hT X
  rcases hr T hT X with ⟨v, st₀, t, T', L, h0, X', hL, e1, e2, ⟨⟨r, u, hv, hp, hb⟩, hF⟩, st⟩ | ⟨q, st₀, t, T', L, E, ce, h0, X', hL, e1, e2, ⟨u, hp, hb, hF⟩, hce, hcv, hcl, st⟩
  · cases hv
    obtain ⟨k1, k2, k3⟩ := vx_keep h0 e1 hS hA hf hL hF
    obtain ⟨t2, a1, b1⟩ := kk r u t T'.heap (locs ++ L) e1.symm (by rw [← e2]; exact X'.warmed.alike) hp hb k1 k2 k3 T' rfl X'
    exact ⟨t2, st t2 a1, b1⟩
  · obtain ⟨k1, k2, k3⟩ := vx_keep h0 e1 hS hAX hf hL hF
    obtain ⟨t2, a1, b1⟩ := kx E ce q u t T'.heap (locs ++ L) e1.symm (by rw [← e2]; exact X'.warmed.alike) hp hb k1 k2 k3 (by rw [e1]; exact hce) hcv hcl T' rfl X'
    exact ⟨t2, st.trans a1, b1⟩
theorem vx_calld {S SX : Type} {post : UInt64 → S → Prop} {px : SX → Prop} {B : S → State → Prop} {BX : String → SX → State → Prop} {AX : Nat → Prop} (hr : vx_Run p l e R s m args below meth c H locs cells slots mc ms (F0 m pc ls st0) rest (va_Qd post B A1 a) (vx_X px BX AX) free) (hS : va_S A0 H0 H locs) (hA : ∀ q, q < H.size → A1 q → A0 q) (hf : ∀ q, free q → A0 q) (hAX : ∀ q, q < H.size → AX q → A0 q)
    (kx : ∀ (E : String) (ce : Cell) (q9 : Addr) (u : SX) (t : State) (H1 : Heap) (locs1 : List Loc), t.heap = H1 → s.vm.Alike t.vm → px u → BX E u t → H.size ≤ H1.size → (∀ q : Nat, q < H.size → ¬ AX q → H1[q]? = H[q]?) → va_S A0 H0 H1 locs1 → H1[q9]? = some ce → ce.vm = .none → s.vm.findClass E = some ce.cls → vx_W p l e R s m args below meth c H1 locs1 (cells + mc) (slots + ms) Q (F0 m pc ls rest) q9)
    (kk : ∀ (r : UInt64) (u : S) (t : State) (H1 : Heap) (locs1 : List Loc), t.heap = H1 → s.vm.Alike t.vm → post r u → B u t → H.size ≤ H1.size → (∀ q : Nat, q < H.size → ¬ A1 q → H1[q]? = H[q]?) → va_S A0 H0 H1 locs1 → W p l e R s m args below meth c H1 locs1 (cells + mc) (slots + ms) Q (F0 m (pc + 3) ls (.double r :: rest))) : W p l e R s m args below meth c H locs cells slots Q (F0 m pc ls st0) := by
  intro T hT X
  rcases hr T hT X with ⟨v, st₀, t, T', L, h0, X', hL, e1, e2, ⟨⟨r, u, hv, hp, hb⟩, hF⟩, st⟩ | ⟨q, st₀, t, T', L, E, ce, h0, X', hL, e1, e2, ⟨u, hp, hb, hF⟩, hce, hcv, hcl, st⟩
  · cases hv
    obtain ⟨k1, k2, k3⟩ := vx_keep h0 e1 hS hA hf hL hF
    obtain ⟨t2, a1, b1⟩ := kk r u t T'.heap (locs ++ L) e1.symm (by rw [← e2]; exact X'.warmed.alike) hp hb k1 k2 k3 T' rfl X'
    exact ⟨t2, st t2 a1, b1⟩
  · obtain ⟨k1, k2, k3⟩ := vx_keep h0 e1 hS hAX hf hL hF
    obtain ⟨t2, a1, b1⟩ := kx E ce q u t T'.heap (locs ++ L) e1.symm (by rw [← e2]; exact X'.warmed.alike) hp hb k1 k2 k3 (by rw [e1]; exact hce) hcv hcl T' rfl X'
    exact ⟨t2, st.trans a1, b1⟩
theorem vx_callv {S SX : Type} {post : S → Prop} {px : SX → Prop} {B : S → State → Prop} {BX : String → SX → State → Prop} {AX : Nat → Prop} (hr : vx_Run p l e R s m args below meth c H locs cells slots mc ms (F0 m pc ls st0) rest (va_Qv post B A1 a) (vx_X px BX AX) free) (hS : va_S A0 H0 H locs) (hA : ∀ q, q < H.size → A1 q → A0 q) (hf : ∀ q, free q → A0 q) (hAX : ∀ q, q < H.size → AX q → A0 q)
    (kx : ∀ (E : String) (ce : Cell) (q9 : Addr) (u : SX) (t : State) (H1 : Heap) (locs1 : List Loc), t.heap = H1 → s.vm.Alike t.vm → px u → BX E u t → H.size ≤ H1.size → (∀ q : Nat, q < H.size → ¬ AX q → H1[q]? = H[q]?) → va_S A0 H0 H1 locs1 → H1[q9]? = some ce → ce.vm = .none → s.vm.findClass E = some ce.cls → vx_W p l e R s m args below meth c H1 locs1 (cells + mc) (slots + ms) Q (F0 m pc ls rest) q9)
    (kk : ∀ (u : S) (t : State) (H1 : Heap) (locs1 : List Loc), t.heap = H1 → s.vm.Alike t.vm → post u → B u t → H.size ≤ H1.size → (∀ q : Nat, q < H.size → ¬ A1 q → H1[q]? = H[q]?) → va_S A0 H0 H1 locs1 → W p l e R s m args below meth c H1 locs1 (cells + mc) (slots + ms) Q (F0 m (pc + 3) ls (rest))) : W p l e R s m args below meth c H locs cells slots Q (F0 m pc ls st0) := by
  intro T hT X
  rcases hr T hT X with ⟨v, st₀, t, T', L, h0, X', hL, e1, e2, ⟨⟨u, hv, hp, hb⟩, hF⟩, st⟩ | ⟨q, st₀, t, T', L, E, ce, h0, X', hL, e1, e2, ⟨u, hp, hb, hF⟩, hce, hcv, hcl, st⟩
  · cases hv
    obtain ⟨k1, k2, k3⟩ := vx_keep h0 e1 hS hA hf hL hF
    obtain ⟨t2, a1, b1⟩ := kk u t T'.heap (locs ++ L) e1.symm (by rw [← e2]; exact X'.warmed.alike) hp hb k1 k2 k3 T' rfl X'
    exact ⟨t2, st t2 a1, b1⟩
  · obtain ⟨k1, k2, k3⟩ := vx_keep h0 e1 hS hAX hf hL hF
    obtain ⟨t2, a1, b1⟩ := kx E ce q u t T'.heap (locs ++ L) e1.symm (by rw [← e2]; exact X'.warmed.alike) hp hb k1 k2 k3 (by rw [e1]; exact hce) hcv hcl T' rfl X'
    exact ⟨t2, st.trans a1, b1⟩
/-- caught by the row x of this method's table; the rows ahead don't take it -/
theorem vx_catch {own name : String} {E : String} {ce : Cell} {q : Addr} (hown : s.vm.findClass own = some m.cls) (pre : List ExceptionTableEntry) (x : ExceptionTableEntry) (suf : List ExceptionTableEntry) (hsplit : c.exceptionTable.toList = pre ++ x :: suf)
    (hpass : ∀ z ∈ pre, covers z pc = false ∨ (z.catchType ≠ 0 ∧ ∃ nm : String, (Cond.classLink own z.catchType nm).before args s = true ∧ va_Nc E nm s)) (hx : covers x pc = true) (h0 : x.catchType ≠ 0)
    (hlink : (Cond.classLink own x.catchType name).before args s = true) (hcast : (Cond.castable E name).before args s = true) (hcell : H[q]? = some ce) (hv : ce.vm = .none) (hcl : s.vm.findClass E = some ce.cls)
    (kk : W p l e R s m args below meth c H locs cells slots Q (F0 m x.handlerPc ls [.ref q])) : vx_W p l e R s m args below meth c H locs cells slots Q (F0 m pc ls rest) q := by
  intro T hT X
  have hpl : e.platform.magicAccessors = ({} : Platform).magicAccessors := by rw [X.admits.platform]
  obtain ⟨c3, c4, hc3, hc4, hasg⟩ := Cond.castable_spec hcast
  cases Option.some.inj (hc3.symm.trans hcl)
  obtain ⟨c5, hc5, hcl5⟩ := Cond.classLink_spec hown hlink e.platform hpl
  cases Option.some.inj (hc4.symm.trans hc5)
  obtain ⟨vm', X', st⟩ := X.thenCaughtThrough q (g := F0 m pc ls rest) rfl (Steps.refl _) (by rw [hT]; exact hcell) (by rw [hv]; rfl) (by obtain ⟨k9, h9, -⟩ := Vm.findClass_spec hcl; exact ⟨k9, h9⟩) pre x suf hsplit
    (fun z hz => by
      rcases hpass z hz with h | ⟨hz0, nm, hl1, hn1⟩
      · exact Or.inl h
      · obtain ⟨c6, hc6, hcl6⟩ := Cond.classLink_spec hown hl1 e.platform hpl
        obtain ⟨a8, b8, h1, h2, h3⟩ := hn1
        cases Option.some.inj (h1.symm.trans hcl)
        cases Option.some.inj (h2.symm.trans hc6)
        exact Or.inr ⟨hz0, _, hcl6, h3⟩) hx (Or.inr ⟨h0, c4, hcl5, hasg⟩)
  obtain ⟨t, a1, b1⟩ := kk (T.setVm vm') hT X'
  exact ⟨t, st.trans a1, b1⟩
end Rows
section Ends
variable {p : Program} {l : Launch} {e : Env} {R : Room} {s : State} {m : MethodId} {args : Array Value} {below : List Frame} {meth : Method} {c : Code} {H : Heap} {locs : List Loc} {cells slots : Nat} {Q : State → Prop}
variable {mc ms : Nat} {free : Addr → Prop} {A0 A1 : Nat → Prop} {H0 : Heap} {a : Array Value} {ls : Array Slot} {st0 rest : List Value}
variable {Qc : Array Value → State → Outcome → State → Prop} {XC : String → State → State → Prop}
/-- what a body that may throw owes at its end -/
def vx_MQ (below : List Frame) (Qc : Array Value → State → Outcome → State → Prop) (XC : String → State → State → Prop) (a : Array Value) (s : State) (mc ms : Nat) (free : Addr → Prop) : State → Prop := fun t =>
  ∃ o, t.status = .running ∧ Ended t below o ∧ vx_Q Qc XC mc ms free a s o t
theorem vx_ret {g : JFrame} {mc ms : Nat} (k : W p l e R s m args below meth c H locs cells slots (MQ below Qc args s mc ms free) g) : W p l e R s m args below meth c H locs cells slots (vx_MQ below Qc XC args s mc ms free) g := by
  intro T hT X
  obtain ⟨t, a1, o, b1, b2, b3, b4⟩ := k T hT X
  exact ⟨t, a1, o, b1, b2, Or.inl ⟨b3, b4⟩⟩
/-- not caught here: it goes on to the caller -/
theorem vx_widen {g : JFrame} {q : Addr} {k n : Nat} (h1 : cells ≤ k) (h2 : slots ≤ n) (kk : vx_W p l e R s m args below meth c H locs k n Q g q) : vx_W p l e R s m args below meth c H locs cells slots Q g q := fun T hT X => kk T hT (stand_widen X h1 h2)
theorem vx_out {pc : Nat} {E : String} {ce : Cell} {q : Addr} {mc ms : Nat} (hout : ∀ x ∈ c.exceptionTable.toList, covers x pc = false) (hlocks : meth.locks = false) (hcell : H[q]? = some ce) (hv : ce.vm = .none) (hcl : s.vm.findClass E = some ce.cls)
    (hx : ∀ t : State, t.heap = H → s.vm.Alike t.vm → XC E s t) (hf : ∀ z ∈ locs, free z.base) (hc : cells ≤ mc) (hs : slots ≤ ms) :
    vx_W p l e R s m args below meth c H locs cells slots (vx_MQ below Qc XC args s mc ms free) (F0 m pc ls rest) q := by
  intro T hT X
  obtain ⟨st1, hrun, hend, hW, hsm⟩ := X.leaveThrown q (g := F0 m pc ls rest) rfl rfl rfl hout hlocks
  have hcell9 : (T.setFrames (.throwing q :: below)).heap[q]? = some ce := by
    show T.heap[q]? = some ce
    rw [hT]; exact hcell
  exact ⟨_, st1, .threw q, hrun, hend, Or.inr ⟨q, rfl, E, ce, locs, hx _ hT hW.alike, hcell9, hv, hcl, hW, hsm.mono hc hs, hf⟩⟩
theorem vx_frame {U : State} {k n : Nat} (h : s.sameButNew ({ U with vm := s.vm } : State) locs k n) : s.heap.size ≤ U.heap.size ∧ ∀ q : Nat, q < s.heap.size → (∀ z ∈ locs, z.base ≠ q) → U.heap[q]? = s.heap[q]? := by
  obtain ⟨-, h2, -, -, -, h6⟩ := h
  refine ⟨h2, fun q hq hz => ?_⟩
  obtain ⟨c9, e1, e2, e3, e4⟩ := h6 q _ (Array.getElem?_eq_getElem hq)
  have hs : c9.slots = (s.heap[q]).slots := Array.ext_getElem? fun i => e4 i fun hm => hz _ hm rfl
  have h9 : c9 = s.heap[q] := by
    rw [hs] at e2
    exact e2
  have e5 : U.heap[q]? = some c9 := e1
  rw [e5, h9, Array.getElem?_eq_getElem hq]
/-- the words of a throw but the four that speak of the heap -/
def vx_no (w : Cond) : Bool := decide (w ≠ .isRef (.static Bundle.tN "UNASSIGNED_STACK" Bundle.steD)) && decide (w ≠ .isRef (.static Bundle.tN "SUPPRESSED_SENTINEL" Bundle.listD)) && decide (w ≠ .laysStatic Bundle.tN "UNASSIGNED_STACK" Bundle.steD) && decide (w ≠ .laysStatic Bundle.tN "SUPPRESSED_SENTINEL" Bundle.listD)
def vx_at0 (own : String) (ic : Nat) (X : String) (names : List String) : List Cond := (Bundle.ownAtoms0 own ic X names).filter vx_no
def vx_atS (own : String) (ic : Nat) (X : String) (names : List String) : List Cond := (Bundle.ownAtoms own ic X names).filter vx_no
/-- a word that the tables alone decide, or a good one -/
def vx_ot (w : Cond) : Bool := w.onTables || goodWord w
theorem vx_ot_at {args a' : Array Value} {s U : State} {w : Cond} (hW : s.WarmedH U.vm) (hvm : s.vm = U.vm) (hg : vx_ot w = true) (h : w.before args s = true) : w.before a' U = true := by
  simp only [vx_ot, Bool.or_eq_true] at hg
  rcases hg with hg | hg
  · exact va_tabs hg hvm h
  · exact word_at hW (good_of_word hg) h
/-- a list's words: the good ones out of the method's own list, the others by premises of their own -/
theorem vx_hat {args : Array Value} {s : State} {L B : List Cond} (h1 : ∀ w ∈ L.filter goodWord, w.before args s = true) (h2 : ∀ w ∈ L.filter (fun w => !goodWord w), w ∈ B) (h3 : ∀ w ∈ B, w.before args s = true) : ∀ w ∈ L, w.before args s = true := by
  intro w hw
  by_cases g : goodWord w = true
  · exact h1 w (List.mem_filter.mpr ⟨hw, g⟩)
  · refine h3 w (h2 w (List.mem_filter.mpr ⟨hw, ?_⟩))
    show (!goodWord w) = true
    cases hgw : goodWord w
    · rfl
    · exact absurd hgw g
theorem vx_c {args : Array Value} {s : State} {w : Cond} {B : List Cond} (h : w.before args s = true) (t : ∀ w ∈ B, w.before args s = true) : ∀ w' ∈ w :: B, w'.before args s = true := fun w' h' => (List.mem_cons.mp h').elim (fun e => by rw [e]; exact h) (t w')
theorem vx_n {args : Array Value} {s : State} : ∀ w ∈ ([] : List Cond), w.before args s = true := fun _ h => nomatch h
theorem vx_own {args : Array Value} {s : State} {L : List Cond} (h1 : ∀ w ∈ L.filter vx_no, w.before args s = true)
    (hU : (Cond.isRef (.static Bundle.tN "UNASSIGNED_STACK" Bundle.steD)).before args s = true) (hN : (Cond.isRef (.static Bundle.tN "SUPPRESSED_SENTINEL" Bundle.listD)).before args s = true)
    (lU : (Cond.laysStatic Bundle.tN "UNASSIGNED_STACK" Bundle.steD).before args s = true) (lN : (Cond.laysStatic Bundle.tN "SUPPRESSED_SENTINEL" Bundle.listD).before args s = true) : ∀ w ∈ L, w.before args s = true := by
  intro w hw
  by_cases e1 : w = .isRef (.static Bundle.tN "UNASSIGNED_STACK" Bundle.steD)
  · rw [e1]; exact hU
  · by_cases e2 : w = .isRef (.static Bundle.tN "SUPPRESSED_SENTINEL" Bundle.listD)
    · rw [e2]; exact hN
    · by_cases e3 : w = .laysStatic Bundle.tN "UNASSIGNED_STACK" Bundle.steD
      · rw [e3]; exact lU
      · by_cases e4 : w = .laysStatic Bundle.tN "SUPPRESSED_SENTINEL" Bundle.listD
        · rw [e4]; exact lN
        · exact h1 w (List.mem_filter.mpr ⟨hw, by unfold vx_no; rw [decide_eq_true e1, decide_eq_true e2, decide_eq_true e3, decide_eq_true e4]; rfl⟩)
/-- where a static field lies, its class's statics cell in H -/
def vx_L (C n d : String) (A : Nat → Prop) (U : State) (H : Heap) : Prop := ∃ (c : ClassId) (k : Class) (i : Nat) (f : Field) (a : Nat) (cell : Cell), U.vm.findClass C = some c ∧ U.fieldFound? C n d = some (c, k, i, f) ∧ f.isStatic = true ∧ k.statics = some a ∧ H[a]? = some cell ∧ cell.vm.isStatics = true ∧ cell.cls = c ∧ f.slot < cell.slots.size ∧ k.staticTypes[f.slot]? = some f.type ∧ ¬ A a
theorem vx_L.moved {C n d : String} {A : Nat → Prop} {u U : State} {H : Heap} (hvm : u.vm.Alike U.vm) (h : vx_L C n d A u H) : vx_L C n d A U H := by
  obtain ⟨c, k, i, f, a, cell, h1, h2, h3, h4, h5, h6, h7, h8, h9, h10⟩ := h
  obtain ⟨k', hi', he⟩ := State.fieldFound?_setVm hvm h2
  exact ⟨c, k', i, f, a, cell, by rw [hvm.findClass]; exact h1, hi', h3, by rw [he]; exact h4, h5, h6, h7, h8, by rw [he]; exact h9, h10⟩
theorem vx_L.kept {C n d : String} {A : Nat → Prop} {U : State} {H H1 : Heap} (h : vx_L C n d A U H) (hq : ∀ a : Nat, a < H.size → ¬ A a → H1[a]? = H[a]?) : vx_L C n d A U H1 := by
  obtain ⟨c, k, i, f, a, cell, h1, h2, h3, h4, h5, h6, h7, h8, h9, h10⟩ := h
  exact ⟨c, k, i, f, a, cell, h1, h2, h3, h4, by rw [hq a (Array.getElem?_eq_some_iff.mp h5).1 h10]; exact h5, h6, h7, h8, h9, h10⟩
theorem vx_L.narrow {C n d : String} {A B : Nat → Prop} {U : State} {H : Heap} (h : vx_L C n d A U H) (hAB : ∀ q, B q → A q) : vx_L C n d B U H := by
  obtain ⟨c, k, i, f, a, cell, h1, h2, h3, h4, h5, h6, h7, h8, h9, h10⟩ := h
  exact ⟨c, k, i, f, a, cell, h1, h2, h3, h4, h5, h6, h7, h8, h9, fun z => h10 (hAB _ z)⟩
theorem vx_L.word {C n d : String} {A : Nat → Prop} {s : State} {args : Array Value} (h : vx_L C n d A s s.heap) : (Cond.laysStatic C n d).before args s = true := by
  obtain ⟨c, k, i, f, a, cell, h1, h2, h3, h4, h5, h6, h7, h8, h9, -⟩ := h
  show (Cond.laysStatic C n d).holds args s none s [] = true
  exact Cond.laysStatic_of h1 h2 h3 h4 h5 h6 h7 h8 h9
/-- .. and what it holds: null or some reference -/
def vx_Zq (C n d : String) (A : Nat → Prop) (U : State) (H : Heap) : Prop := va_Zq C n d A U H ∧ vx_L C n d A U H
theorem vx_Zq.moved {C n d : String} {A : Nat → Prop} {u U : State} {H : Heap} (hvm : u.vm.Alike U.vm) (h : vx_Zq C n d A u H) : vx_Zq C n d A U H := ⟨va_Zq.moved hvm h.1, vx_L.moved hvm h.2⟩
theorem vx_Zq.kept {C n d : String} {A : Nat → Prop} {U : State} {H H1 : Heap} (h : vx_Zq C n d A U H) (hq : ∀ a : Nat, a < H.size → ¬ A a → H1[a]? = H[a]?) : vx_Zq C n d A U H1 := ⟨va_Zq.kept h.1 hq, vx_L.kept h.2 hq⟩
theorem vx_Zq.narrow {C n d : String} {A B : Nat → Prop} {U : State} {H : Heap} (h : vx_Zq C n d A U H) (hAB : ∀ q, B q → A q) : vx_Zq C n d B U H := ⟨va_Zq.narrow h.1 hAB, vx_L.narrow h.2 hAB⟩
theorem vx_Zqof {args : Array Value} {s : State} {C n d : String} {A : Nat → Prop} (hl : (Cond.laysStatic C n d).before args s = true) (hini : (Cond.initialized C).before args s = true) (h : (Cond.isRef (.static C n d)).before args s = true) (hA : ∀ a : Nat, a < s.heap.size → ¬ A a) : vx_Zq C n d A s s.heap := by
  refine ⟨va_Zqof hl hini h hA, ?_⟩
  obtain ⟨c, k, i, f, a, cell, h1, h2, h3, h4, h5, h6, h7, h8, h9⟩ := Cond.laysStatic_spec hl
  exact ⟨c, k, i, f, a, cell, h1, h2, h3, h4, h5, h6, h7, h8, h9, hA a (Array.getElem?_eq_some_iff.mp h5).1⟩
theorem vx_isRef {C n d : String} {v : Value} {A : Nat → Prop} {s : State} {args : Array Value} (h : va_Z C n d v A s s.heap) (hv : v.isRef = true) : (Cond.isRef (.static C n d)).before args s = true := by
  obtain ⟨cf, kf, fi, f, a, cell, h1, h2, h3, h4, h5, h6, h7, -⟩ := h
  have he : (Term.static C n d).eval args s none [] s = some v := by
    simp [Term.eval, State.fieldNamed?, h1, h2, h4, h5, h6, h7]
  simp only [Cond.before, Cond.holds, Cond.value, he]
  cases v <;> simp_all [Value.isRef]
theorem vx_isRefq {C n d : String} {A : Nat → Prop} {s : State} {args : Array Value} (h : va_Zq C n d A s s.heap) : (Cond.isRef (.static C n d)).before args s = true := by
  rcases h with h | ⟨t, h⟩
  · exact vx_isRef h rfl
  · exact vx_isRef h rfl
/-- the same frame, seen from here: as if the method were called anew in this heap -/
theorem vx_rebase {T : State} (X : Stand p l e R s m args below meth c T locs cells slots) {R' : Room} (hf : R'.frames ≤ R.frames) (hl : R'.locals ≤ R.locals) (hc : cells + R'.cells ≤ R.cells) (hs : slots + R'.slots ≤ R.slots) :
    Stand p l e R' ((T.setVm s.vm).setFrames (.invoking m args :: below)) m args below meth c T [] 0 0 := by
  have htop : (T.setVm s.vm).topJava?.isSome := X.here.top
  have hF : ((T.setVm s.vm).setFrames (.invoking m args :: below)).frames = .invoking m args :: below := State.frames_setFrames _ (State.cur_lt_of_top htop)
  obtain ⟨g₀, hg0⟩ := Option.isSome_iff_exists.mp htop
  obtain ⟨r, hr⟩ := State.topJava?_eq_some.mp hg0
  have hl9 : e.platform.stackLimits (T.setVm s.vm).me = e.platform.stackLimits s.me := X.limits
  have hb9 : (T.setVm s.vm).me.stackBytes = s.me.stackBytes := X.bytes
  refine ⟨X.admits, X.cas, X.clock, hF, ?_, X.hears, X.method, X.code, X.here, X.tail, X.warmed, ?_, ?_, ?_⟩
  · have h := X.room
    have hU : ((T.setVm s.vm).setFrames (.invoking m args :: below)).localsInUse = s.localsInUse := by
      rw [State.localsInUse_invoking hF (meth := meth) (c := c) X.method X.code, State.localsInUse_invoking X.frames X.method X.code]
    simp only [State.hasRoom, Bool.and_eq_true, decide_eq_true_eq] at h ⊢
    obtain ⟨⟨⟨⟨h1, h2, h3, h4, h5, h6⟩, h7⟩, h8⟩, h9⟩ := h
    rw [X.frames, List.length_cons] at h2 h3
    have q1 := X.heapSize
    have q2 := X.used
    simp only [hF, hU, List.length_cons, State.stackLimits_setFrames, State.stackBytes_setFrames, hl9, hb9]
    refine ⟨⟨⟨⟨by omega, by omega, by omega, by omega, by omega, h6⟩, ?_⟩, ?_⟩, X.book⟩
    · show T.heap.size + R'.cells ≤ e.platform.maxCells
      omega
    · show T.slotsUsed + R'.slots ≤ e.platform.maxSlots
      omega
  · rw [State.stackLimits_setFrames]; rfl
  · rw [State.stackBytes_setFrames]; rfl
  · refine ⟨?_, Nat.le_refl _, Nat.le_refl _, ?_, ?_, fun a c9 h9 => ⟨c9, h9, rfl, rfl, fun _ _ => rfl⟩⟩
    · obtain ⟨t, ht, -⟩ := State.frames_cons hr
      show T.setVm s.vm = { ((T.setVm s.vm).setFrames (.invoking m args :: below)).setFrames (T.setVm s.vm).frames with heap := T.heap, slotsUsed := T.slotsUsed }
      rw [State.setFrames_setFrames, State.setFrames_self ht]
      rfl
    · show T.slotsUsed = T.slotsUsed + ((T.heap.toList.drop T.heap.size).map (·.slots.size)).sum
      rw [List.drop_eq_nil_of_le (Nat.le_of_eq Array.length_toList)]
      rfl
    · show ((T.heap.toList.drop T.heap.size).map (·.slots.size)).sum ≤ 0
      rw [List.drop_eq_nil_of_le (Nat.le_of_eq Array.length_toList)]
      exact Nat.le_refl _
/-- 'throw new E()': new; dup; invokespecial; athrow -/
theorem vx_throw0 {cc : ByteArray} {pc : Nat} (hexec : p.tables.exec = Jvm.exec) (hb : c.code = cc) (hl : l.stackTraces = false) {own cls : String} {names : List String} {ik ic mc ms : Nat} {A : Nat → Prop}
    (hown : s.vm.findClass own = some m.cls) (hcls : Bundle.fit cls = true) (hnames : ∀ n ∈ names, Bundle.fit n = true)
    (hk : (Cond.classLink own ik cls).before args s = true) (hini : (Cond.initialized cls).before args s = true) (hat : ∀ w ∈ vx_at0 own ic cls names, w.before args s = true)
    (hgood : ∀ w ∈ Cond.classLink own ik cls :: Cond.initialized cls :: vx_at0 own ic cls names, vx_ot w = true)
    (hU : vx_Zq Bundle.tN "UNASSIGNED_STACK" Bundle.steD A s s.heap) (hN : vx_Zq Bundle.tN "SUPPRESSED_SENTINEL" Bundle.listD A s s.heap) (hS : va_S A s.heap H locs) (hsize : ls.size = c.maxLocals)
    (d0 : decode cc pc = .ok (.new ik, 3)) (d3 : decode cc (pc + 3) = .ok (.dup, 1)) (d4 : decode cc (pc + 4) = .ok (.invokespecial ic, 3)) (d7 : decode cc (pc + 7) = .ok (.athrow, 1))
    (hout : ∀ x ∈ c.exceptionTable.toList, covers x (pc + 7) = false)
    (hRframes : names.length + 3 < R.frames) (hRlocals : (rest.map fun v => v.category).sum + (13 * (names.length + 1) + 42) ≤ R.locals) (hRcells : cells + 1 ≤ R.cells) (hRslots : slots + 6 ≤ R.slots) (hlocks : meth.locks = false)
    (hx : ∀ t : State, s.vm.Alike t.vm → H.size ≤ t.heap.size → (∀ q : Nat, q < H.size → t.heap[q]? = H[q]?) → XC cls s t)
    (hf : ∀ z ∈ locs, free z.base) (hc : cells + 1 ≤ mc) (hs : slots + 6 ≤ ms) :
    W p l e R s m args below meth c H locs cells slots (vx_MQ below Qc XC args s mc ms free) (F0 m pc ls rest) := by
  intro T hT X
  have htr : e.platform.stackTraces = false := (show e.platform.stackTraces = l.stackTraces by rw [X.admits.platform]).trans hl
  have Y := vx_rebase X (R' := { frames := R.frames, locals := R.locals, cells := 1, slots := 6 }) (Nat.le_refl _) (Nat.le_refl _) hRcells hRslots
  obtain ⟨s', hA⟩ : ∃ z, z = (T.setVm s.vm).setFrames (.invoking m args :: below) := ⟨_, rfl⟩
  rw [← hA] at Y
  have hvm : s'.vm = s.vm := by rw [hA]; rfl
  have hhp : s'.heap = H := by rw [hA]; exact hT
  have hW0 : s.WarmedH s'.vm := by rw [hvm]; exact State.WarmedH.refl s
  have hat' : ∀ w ∈ vx_at0 own ic cls names, w.before args s' = true := fun w hw => vx_ot_at hW0 hvm.symm (hgood w (List.mem_cons_of_mem _ (List.mem_cons_of_mem _ hw))) (hat w hw)
  have hk' : (Cond.classLink own ik cls).before args s' = true := vx_ot_at hW0 hvm.symm (hgood _ List.mem_cons_self) hk
  have hini' : (Cond.initialized cls).before args s' = true := vx_ot_at hW0 hvm.symm (hgood _ (List.mem_cons_of_mem _ List.mem_cons_self)) hini
  have hU' : vx_Zq Bundle.tN "UNASSIGNED_STACK" Bundle.steD A s' s'.heap := by rw [hhp]; exact vx_Zq.moved hW0.alike (hU.kept hS.2.1)
  have hN' : vx_Zq Bundle.tN "SUPPRESSED_SENTINEL" Bundle.listD A s' s'.heap := by rw [hhp]; exact vx_Zq.moved hW0.alike (hN.kept hS.2.1)
  have h : ∀ w ∈ Bundle.ownAtoms0 own ic cls names, w.before args s' = true := vx_own hat' (vx_isRefq hU'.1) (vx_isRefq hN'.1) hU'.2.word hN'.2.word
  have hown' : s'.vm.findClass own = some m.cls := by rw [hvm]; exact hown
  have hins : (Cond.instantiable cls 6).before args s' = true := h _ (by simp [Bundle.ownAtoms0])
  obtain ⟨vm₁, cX, kX, hfX, hkX, -, -, X₁, st1⟩ := Y.newCold hexec (own := own) (C := cls) (index := ik) (n := 6) hown' hk' hins hini'
    (g := F0 m pc ls rest) rfl (by rw [hb]; exact d0) (Nat.le_refl _) (Nat.le_refl _)
  generalize hT1 : (T.setVm vm₁).pushCell { cls := cX, slots := kX.instanceTypes.map defaultValue, vm := .none } = T1 at X₁ st1
  have hcat : (Value.ref T.heap.size).category = 1 := rfl
  have hcellA : T1.heap[T.heap.size]? = some (freshCell cX kX) := by rw [← hT1]; exact State.heap_pushCell_size _ _
  have d3' : decode c.code (pc + 3) = .ok (.dup, 1) := by rw [hb]; exact d3
  obtain ⟨U, hsteps, hrun, hend, hW, hsame, ce, hce, hO⟩ := X₁.ctorThrow0 hexec htr (own := own) (cls := cls) (names := names) (ic := ic) hown' hcls hnames h (fun x hx => nomatch hx) hfX hkX hcellA (by rw [hhp, hT]; exact Nat.le_refl _)
    (g := { method := m, pc := pc + 4, locals := ls, stack := .ref T.heap.size :: .ref T.heap.size :: rest, locked := none }) rfl hsize rfl rfl (rest := rest) rfl
    (by rw [hb]; exact d4) (by rw [hb]; exact d7) hout hRframes (by simp only [List.map_cons, List.sum_cons, hcat]; omega) hlocks
  obtain ⟨f1, f2⟩ := vx_frame hsame
  rw [hhp] at f1 f2
  have hWs : s.WarmedH U.vm := State.WarmedH.trans hW0 hW
  have hcl : s.vm.findClass cls = some ce.cls := by
    have h9 := hO.cls
    rw [hvm] at h9
    exact h9
  have hall : s.sameButNew ({ U with vm := s.vm } : State) locs mc ms := by
    subst hA
    obtain ⟨e1, e2⟩ := hsame
    rw [State.setFrames_setFrames] at e1
    have h2 : (T.setVm s.vm).sameButNew ({ U with vm := s.vm } : State) [] (0 + 1) (0 + 6) := ⟨e1, e2⟩
    have h3 := X.same.trans h2
    rw [List.append_nil] at h3
    exact h3.mono hc hs
  refine ⟨U, ?_, .threw T.heap.size, hrun, hend, Or.inr ⟨T.heap.size, rfl, cls, ce, locs, hx U hWs.alike f1 (fun q hq => f2 q hq (fun z hz => nomatch hz)), hce, hO.vm, hcl, hWs, hall, hf⟩⟩
  refine st1 _ ?_
  show Steps p.tables e below (T1.setTop { method := m, pc := pc + 3, locals := ls, stack := .ref T.heap.size :: rest, locked := none }) _
  jvm_step X₁.here [X₁.here.top, hexec, d3', Value.category]
  exact hsteps
/-- 'throw new E("text")': new; dup; ldc; invokespecial; athrow -/
theorem vx_throwS {cc : ByteArray} {pc : Nat} (hexec : p.tables.exec = Jvm.exec) (hb : c.code = cc) (hl : l.stackTraces = false) {own cls text : String} {names : List String} {ik is ic mc ms sa : Nat} {A : Nat → Prop}
    (hown : s.vm.findClass own = some m.cls) (hcls : Bundle.fit cls = true) (hnames : ∀ n ∈ names, Bundle.fit n = true)
    (hk : (Cond.classLink own ik cls).before args s = true) (hini : (Cond.initialized cls).before args s = true) (hstr : vk_R own is text sa s) (hat : ∀ w ∈ vx_atS own ic cls names, w.before args s = true)
    (hgood : ∀ w ∈ Cond.classLink own ik cls :: Cond.initialized cls :: vx_atS own ic cls names, vx_ot w = true)
    (hU : vx_Zq Bundle.tN "UNASSIGNED_STACK" Bundle.steD A s s.heap) (hN : vx_Zq Bundle.tN "SUPPRESSED_SENTINEL" Bundle.listD A s s.heap) (hS : va_S A s.heap H locs) (hsize : ls.size = c.maxLocals)
    (d0 : decode cc pc = .ok (.new ik, 3)) (d3 : decode cc (pc + 3) = .ok (.dup, 1)) (d4 : decode cc (pc + 4) = .ok (.ldc is, 2)) (d6 : decode cc (pc + 6) = .ok (.invokespecial ic, 3)) (d9 : decode cc (pc + 9) = .ok (.athrow, 1))
    (hout : ∀ x ∈ c.exceptionTable.toList, covers x (pc + 9) = false)
    (hRframes : names.length + 3 < R.frames) (hRlocals : (rest.map fun v => v.category).sum + (13 * (names.length + 1) + 43) ≤ R.locals) (hRcells : cells + 1 ≤ R.cells) (hRslots : slots + 6 ≤ R.slots) (hlocks : meth.locks = false)
    (hx : ∀ t : State, s.vm.Alike t.vm → H.size ≤ t.heap.size → (∀ q : Nat, q < H.size → t.heap[q]? = H[q]?) → XC cls s t)
    (hf : ∀ z ∈ locs, free z.base) (hc : cells + 1 ≤ mc) (hs : slots + 6 ≤ ms) :
    W p l e R s m args below meth c H locs cells slots (vx_MQ below Qc XC args s mc ms free) (F0 m pc ls rest) := by
  intro T hT X
  have htr : e.platform.stackTraces = false := (show e.platform.stackTraces = l.stackTraces by rw [X.admits.platform]).trans hl
  have Y := vx_rebase X (R' := { frames := R.frames, locals := R.locals, cells := 1, slots := 6 }) (Nat.le_refl _) (Nat.le_refl _) hRcells hRslots
  obtain ⟨s', hA⟩ : ∃ z, z = (T.setVm s.vm).setFrames (.invoking m args :: below) := ⟨_, rfl⟩
  rw [← hA] at Y
  have hvm : s'.vm = s.vm := by rw [hA]; rfl
  have hhp : s'.heap = H := by rw [hA]; exact hT
  have hW0 : s.WarmedH s'.vm := by rw [hvm]; exact State.WarmedH.refl s
  have hat' : ∀ w ∈ vx_atS own ic cls names, w.before args s' = true := fun w hw => vx_ot_at hW0 hvm.symm (hgood w (List.mem_cons_of_mem _ (List.mem_cons_of_mem _ hw))) (hat w hw)
  have hk' : (Cond.classLink own ik cls).before args s' = true := vx_ot_at hW0 hvm.symm (hgood _ List.mem_cons_self) hk
  have hini' : (Cond.initialized cls).before args s' = true := vx_ot_at hW0 hvm.symm (hgood _ (List.mem_cons_of_mem _ List.mem_cons_self)) hini
  have hU' : vx_Zq Bundle.tN "UNASSIGNED_STACK" Bundle.steD A s' s'.heap := by rw [hhp]; exact vx_Zq.moved hW0.alike (hU.kept hS.2.1)
  have hN' : vx_Zq Bundle.tN "SUPPRESSED_SENTINEL" Bundle.listD A s' s'.heap := by rw [hhp]; exact vx_Zq.moved hW0.alike (hN.kept hS.2.1)
  have h : ∀ w ∈ Bundle.ownAtoms own ic cls names, w.before args s' = true := vx_own hat' (vx_isRefq hU'.1) (vx_isRefq hN'.1) hU'.2.word hN'.2.word
  have hown' : s'.vm.findClass own = some m.cls := by rw [hvm]; exact hown
  have hins : (Cond.instantiable cls 6).before args s' = true := h _ (by simp [Bundle.ownAtoms])
  obtain ⟨vm₁, cX, kX, hfX, hkX, -, -, X₁, st1⟩ := Y.newCold hexec (own := own) (C := cls) (index := ik) (n := 6) hown' hk' hins hini'
    (g := F0 m pc ls rest) rfl (by rw [hb]; exact d0) (Nat.le_refl _) (Nat.le_refl _)
  generalize hT1 : (T.setVm vm₁).pushCell { cls := cX, slots := kX.instanceTypes.map defaultValue, vm := .none } = T1 at X₁ st1
  have hcat : (Value.ref T.heap.size).category = 1 := rfl
  have hcellA : T1.heap[T.heap.size]? = some (freshCell cX kX) := by rw [← hT1]; exact State.heap_pushCell_size _ _
  have d3' : decode c.code (pc + 3) = .ok (.dup, 1) := by rw [hb]; exact d3
  have d4' : decode c.code (pc + 4) = .ok (.ldc is, 2) := by rw [hb]; exact d4
  have hstr' : vk_R own is text sa s' := vk_R.warm hW0 hstr
  obtain ⟨U, hsteps, hrun, hend, hW, hsame, ce, hce, hO⟩ := X₁.ctorThrowS hexec htr (own := own) (cls := cls) (names := names) (ic := ic) hown' hcls hnames h (fun x hx => nomatch hx) hfX hkX hcellA (by rw [hhp, hT]; exact Nat.le_refl _) (msg := .ref sa) rfl
    (g := { method := m, pc := pc + 6, locals := ls, stack := .ref sa :: .ref T.heap.size :: .ref T.heap.size :: rest, locked := none }) rfl hsize rfl rfl (rest := rest) rfl
    (by rw [hb]; exact d6) (by rw [hb]; exact d9) hout hRframes (by simp only [List.map_cons, List.sum_cons, hcat]; omega) hlocks
  obtain ⟨f1, f2⟩ := vx_frame hsame
  rw [hhp] at f1 f2
  have hWs : s.WarmedH U.vm := State.WarmedH.trans hW0 hW
  have hcl : s.vm.findClass cls = some ce.cls := by
    have h9 := hO.cls
    rw [hvm] at h9
    exact h9
  have hall : s.sameButNew ({ U with vm := s.vm } : State) locs mc ms := by
    subst hA
    obtain ⟨e1, e2⟩ := hsame
    rw [State.setFrames_setFrames] at e1
    have h2 : (T.setVm s.vm).sameButNew ({ U with vm := s.vm } : State) [] (0 + 1) (0 + 6) := ⟨e1, e2⟩
    have h3 := X.same.trans h2
    rw [List.append_nil] at h3
    exact h3.mono hc hs
  refine ⟨U, ?_, .threw T.heap.size, hrun, hend, Or.inr ⟨T.heap.size, rfl, cls, ce, locs, hx U hWs.alike f1 (fun q hq => f2 q hq (fun z hz => nomatch hz)), hce, hO.vm, hcl, hWs, hall, hf⟩⟩
  refine st1 _ ?_
  show Steps p.tables e below (T1.setTop { method := m, pc := pc + 3, locals := ls, stack := .ref T.heap.size :: rest, locked := none }) _
  jvm_step X₁.here [X₁.here.top, hexec, d3', Value.category]
  exact X₁.ldcString hexec (own := own) (text := text) (index := is) (a := sa) hown' hstr'.1 hstr'.2
    (g := { method := m, pc := pc + 4, locals := ls, stack := .ref T.heap.size :: .ref T.heap.size :: rest, locked := none }) rfl d4' _ hsteps
/-- 'throw new E("text")', the text by a wide index -/
theorem vx_throwSW {cc : ByteArray} {pc : Nat} (hexec : p.tables.exec = Jvm.exec) (hb : c.code = cc) (hl : l.stackTraces = false) {own cls text : String} {names : List String} {ik is ic mc ms sa : Nat} {A : Nat → Prop}
    (hown : s.vm.findClass own = some m.cls) (hcls : Bundle.fit cls = true) (hnames : ∀ n ∈ names, Bundle.fit n = true)
    (hk : (Cond.classLink own ik cls).before args s = true) (hini : (Cond.initialized cls).before args s = true) (hstr : vk_R own is text sa s) (hat : ∀ w ∈ vx_atS own ic cls names, w.before args s = true)
    (hgood : ∀ w ∈ Cond.classLink own ik cls :: Cond.initialized cls :: vx_atS own ic cls names, vx_ot w = true)
    (hU : vx_Zq Bundle.tN "UNASSIGNED_STACK" Bundle.steD A s s.heap) (hN : vx_Zq Bundle.tN "SUPPRESSED_SENTINEL" Bundle.listD A s s.heap) (hS : va_S A s.heap H locs) (hsize : ls.size = c.maxLocals)
    (d0 : decode cc pc = .ok (.new ik, 3)) (d3 : decode cc (pc + 3) = .ok (.dup, 1)) (d4 : decode cc (pc + 4) = .ok (.ldc_w is, 3)) (d7 : decode cc (pc + 7) = .ok (.invokespecial ic, 3)) (d10 : decode cc (pc + 10) = .ok (.athrow, 1))
    (hout : ∀ x ∈ c.exceptionTable.toList, covers x (pc + 10) = false)
    (hRframes : names.length + 3 < R.frames) (hRlocals : (rest.map fun v => v.category).sum + (13 * (names.length + 1) + 43) ≤ R.locals) (hRcells : cells + 1 ≤ R.cells) (hRslots : slots + 6 ≤ R.slots) (hlocks : meth.locks = false)
    (hx : ∀ t : State, s.vm.Alike t.vm → H.size ≤ t.heap.size → (∀ q : Nat, q < H.size → t.heap[q]? = H[q]?) → XC cls s t)
    (hf : ∀ z ∈ locs, free z.base) (hc : cells + 1 ≤ mc) (hs : slots + 6 ≤ ms) :
    W p l e R s m args below meth c H locs cells slots (vx_MQ below Qc XC args s mc ms free) (F0 m pc ls rest) := by
  intro T hT X
  have htr : e.platform.stackTraces = false := (show e.platform.stackTraces = l.stackTraces by rw [X.admits.platform]).trans hl
  have Y := vx_rebase X (R' := { frames := R.frames, locals := R.locals, cells := 1, slots := 6 }) (Nat.le_refl _) (Nat.le_refl _) hRcells hRslots
  obtain ⟨s', hA⟩ : ∃ z, z = (T.setVm s.vm).setFrames (.invoking m args :: below) := ⟨_, rfl⟩
  rw [← hA] at Y
  have hvm : s'.vm = s.vm := by rw [hA]; rfl
  have hhp : s'.heap = H := by rw [hA]; exact hT
  have hW0 : s.WarmedH s'.vm := by rw [hvm]; exact State.WarmedH.refl s
  have hat' : ∀ w ∈ vx_atS own ic cls names, w.before args s' = true := fun w hw => vx_ot_at hW0 hvm.symm (hgood w (List.mem_cons_of_mem _ (List.mem_cons_of_mem _ hw))) (hat w hw)
  have hk' : (Cond.classLink own ik cls).before args s' = true := vx_ot_at hW0 hvm.symm (hgood _ List.mem_cons_self) hk
  have hini' : (Cond.initialized cls).before args s' = true := vx_ot_at hW0 hvm.symm (hgood _ (List.mem_cons_of_mem _ List.mem_cons_self)) hini
  have hU' : vx_Zq Bundle.tN "UNASSIGNED_STACK" Bundle.steD A s' s'.heap := by rw [hhp]; exact vx_Zq.moved hW0.alike (hU.kept hS.2.1)
  have hN' : vx_Zq Bundle.tN "SUPPRESSED_SENTINEL" Bundle.listD A s' s'.heap := by rw [hhp]; exact vx_Zq.moved hW0.alike (hN.kept hS.2.1)
  have h : ∀ w ∈ Bundle.ownAtoms own ic cls names, w.before args s' = true := vx_own hat' (vx_isRefq hU'.1) (vx_isRefq hN'.1) hU'.2.word hN'.2.word
  have hown' : s'.vm.findClass own = some m.cls := by rw [hvm]; exact hown
  have hins : (Cond.instantiable cls 6).before args s' = true := h _ (by simp [Bundle.ownAtoms])
  obtain ⟨vm₁, cX, kX, hfX, hkX, -, -, X₁, st1⟩ := Y.newCold hexec (own := own) (C := cls) (index := ik) (n := 6) hown' hk' hins hini'
    (g := F0 m pc ls rest) rfl (by rw [hb]; exact d0) (Nat.le_refl _) (Nat.le_refl _)
  generalize hT1 : (T.setVm vm₁).pushCell { cls := cX, slots := kX.instanceTypes.map defaultValue, vm := .none } = T1 at X₁ st1
  have hcat : (Value.ref T.heap.size).category = 1 := rfl
  have hcellA : T1.heap[T.heap.size]? = some (freshCell cX kX) := by rw [← hT1]; exact State.heap_pushCell_size _ _
  have d3' : decode c.code (pc + 3) = .ok (.dup, 1) := by rw [hb]; exact d3
  have d4' : decode c.code (pc + 4) = .ok (.ldc_w is, 3) := by rw [hb]; exact d4
  have hstr' : vk_R own is text sa s' := vk_R.warm hW0 hstr
  obtain ⟨U, hsteps, hrun, hend, hW, hsame, ce, hce, hO⟩ := X₁.ctorThrowS hexec htr (own := own) (cls := cls) (names := names) (ic := ic) hown' hcls hnames h (fun x hx => nomatch hx) hfX hkX hcellA (by rw [hhp, hT]; exact Nat.le_refl _) (msg := .ref sa) rfl
    (g := { method := m, pc := pc + 7, locals := ls, stack := .ref sa :: .ref T.heap.size :: .ref T.heap.size :: rest, locked := none }) rfl hsize rfl rfl (rest := rest) rfl
    (by rw [hb]; exact d7) (by rw [hb]; exact d10) hout hRframes (by simp only [List.map_cons, List.sum_cons, hcat]; omega) hlocks
  obtain ⟨f1, f2⟩ := vx_frame hsame
  rw [hhp] at f1 f2
  have hWs : s.WarmedH U.vm := State.WarmedH.trans hW0 hW
  have hcl : s.vm.findClass cls = some ce.cls := by
    have h9 := hO.cls
    rw [hvm] at h9
    exact h9
  have hall : s.sameButNew ({ U with vm := s.vm } : State) locs mc ms := by
    subst hA
    obtain ⟨e1, e2⟩ := hsame
    rw [State.setFrames_setFrames] at e1
    have h2 : (T.setVm s.vm).sameButNew ({ U with vm := s.vm } : State) [] (0 + 1) (0 + 6) := ⟨e1, e2⟩
    have h3 := X.same.trans h2
    rw [List.append_nil] at h3
    exact h3.mono hc hs
  refine ⟨U, ?_, .threw T.heap.size, hrun, hend, Or.inr ⟨T.heap.size, rfl, cls, ce, locs, hx U hWs.alike f1 (fun q hq => f2 q hq (fun z hz => nomatch hz)), hce, hO.vm, hcl, hWs, hall, hf⟩⟩
  refine st1 _ ?_
  show Steps p.tables e below (T1.setTop { method := m, pc := pc + 3, locals := ls, stack := .ref T.heap.size :: rest, locked := none }) _
  jvm_step X₁.here [X₁.here.top, hexec, d3', Value.category]
  exact X₁.ldcStringW hexec (own := own) (text := text) (index := is) (a := sa) hown' hstr'.1 hstr'.2
    (g := { method := m, pc := pc + 4, locals := ls, stack := .ref T.heap.size :: .ref T.heap.size :: rest, locked := none }) rfl d4' _ hsteps
end Ends
section Bodies
variable {l : Launch}
theorem vx_ofW {y : MethodName} {ws ws' : List Cond} {rm : Room} {Pc : Array Value → State → Prop} {Qc : Array Value → State → Outcome → State → Prop} {XC : String → State → State → Prop} {mc ms : Nat} {free : Addr → Prop} {cc : ByteArray} {maxL : Nat} {ret : Option FieldType}
    (hy : plainName y.cls = true) (hw : ws = Cond.code y cc maxL ret :: ws')
    (body : ∀ p e s m args below meth c s₁, BodyLoose p l y (headSpec ws rm) cc maxL ret e s m args below meth c s₁ → c.maxLocals = maxL → (∀ x ∈ c.exceptionTable.toList, False) → Pc args s →
      W p l e (headSpec ws rm).room s m args below meth c s.heap [] 0 0 (vx_MQ below Qc XC args s mc ms free) (entryFrame m args maxL)) : vx_Met l y ws rm Pc Qc XC mc ms free := by
  refine MetFree.of_bodyS (code := cc) (maxLocals := maxL) (ret := ret) hy ?_ ?_
  · intro args s m h hn
    obtain ⟨meth, c, h1, h2, h3, h4, h5, h6, -, -⟩ := Cond.code_spec hn (atoms_spec (ws := ws) h _ (by rw [hw]; exact List.mem_cons_self))
    exact ⟨meth, c, h1, h2, h3, h4, h5, h6⟩
  · intro p e s m args below meth c s₁ B hml hP _
    have hh0 : s₁.heap = s.heap := by rw [B.state]; rfl
    have ht : ∀ x ∈ c.exceptionTable.toList, False := by
      obtain ⟨meth9, c9, h1, h2, -, -, -, -, h7, -⟩ := Cond.code_spec B.named (atoms_spec (ws := ws) B.pre _ (by rw [hw]; exact List.mem_cons_self))
      cases Option.some.inj (h1.symm.trans B.method)
      cases Option.some.inj (h2.symm.trans (Stand.of_body B).code)
      intro x hx
      rw [Array.isEmpty_iff.mp h7] at hx
      cases hx
    obtain ⟨t, a1, o, b1, b2, b3⟩ := body p e s m args below meth c s₁ B hml ht hP s₁ hh0 (Stand.of_body B)
    exact ⟨t, o, a1, b1, b2, b3⟩
/-- the table of a body with handlers -/
theorem vx_table {p : Program} {x y : MethodName} {S : Spec} {cc bytes : ByteArray} {maxL maxL' : Nat} {ret ret' : Option FieldType} {e : Env} {s s₁ : State} {m : MethodId} {args : Array Value} {below : List Frame} {meth : Method} {c : Code} {hh : List (Nat × Nat × Nat × Nat)}
    (B : BodyLoose p l y S cc maxL ret e s m args below meth c s₁) (h : (Cond.codeWith y bytes maxL' ret' hh).before args s = true) : c.exceptionTable.toList = tableOf hh := by
  obtain ⟨m9, meth9, c9, hn9, h1, h2, -, -, h6, -⟩ := Cond.codeWith_spec h
  cases Option.some.inj (hn9.symm.trans B.named)
  cases Option.some.inj (h1.symm.trans B.method)
  cases Option.some.inj (h2.symm.trans (Stand.of_body B).code)
  rw [← h6, table_eq]
end Bodies
end VXA
/-! ===== END ===== -/
/-! ===== BEGIN a static call of a method with an exception table ===== -/
section VXS
variable {p : Program} {l : Launch} {e : Env} {R : Room} {s : State} {m : MethodId} {args : Array Value} {below : List Frame} {meth : Method} {c : Code} {T : State} {H : Heap} {locs : List Loc} {cells slots : Nat}
abbrev vx_CSW (R : Room) (s : State) (args : Array Value) (own : String) (index : Nat) (y : MethodName) (bytes : ByteArray) (maxL : Nat) (ret : Option FieldType) (hh : List (Nat × Nat × Nat × Nat)) (ws : List Cond) (rm : Room) (mc ms n : Nat) : Prop :=
  (rm.cells = mc ∧ rm.slots = ms ∧ rm.frames + 1 ≤ R.frames ∧ 8 + (maxL + 11) + rm.locals ≤ R.locals ∧ (∀ w ∈ ws, ∀ (a' : Array Value) (U : State), s.WarmedH U.vm → w.before a' U = true) ∧ Cond.codeWith y bytes maxL ret hh ∈ ws) ∧
  (Cond.codeWith y bytes maxL ret hh).before args s = true ∧ (Cond.initialized y.cls).before args s = true ∧ (y.cls ≠ "java/lang/invoke/MethodHandle" ∧ y.cls ≠ "java/lang/invoke/VarHandle") ∧
  (∀ sig, parseMethodDescriptor y.desc = some sig → n = sig.parameters.length) ∧ (Cond.methodLink own index y).before args s = true ∧ (Cond.static y).before args s = true
theorem vx_cwSW {own : String} {index maxL mc ms : Nat} {y : MethodName} {bytes : ByteArray} {ret : Option FieldType} {hh : List (Nat × Nat × Nat × Nat)} {Ts ws ws' : List Cond} {rm : Room} (n : Nat) (ht : ∀ w ∈ Ts, w.before args s = true) (hT : GoodIn Ts (va_wsS own index y ws)) (hw : ws = Cond.codeWith y bytes maxL ret hh :: ws') (hrc : rm.cells = mc) (hrs : rm.slots = ms)
    (hd : y.cls ≠ "java/lang/invoke/MethodHandle" ∧ y.cls ≠ "java/lang/invoke/VarHandle" ∧ (parseMethodDescriptor y.desc).map (fun d => d.parameters.length) = some n) (hR : rm.frames + 1 ≤ R.frames ∧ 8 + (maxL + 11) + rm.locals ≤ R.locals) :
    vx_CSW R s args own index y bytes maxL ret hh ws rm mc ms n := by
  have ok : ∀ w ∈ va_wsS own index y ws, w.before args s = true := fun w h => ht w (hT w h).1
  have hG : GoodIn Ts ws := fun w h => hT w (by unfold va_wsS; exact List.mem_append_right _ h)
  have hc : Cond.codeWith y bytes maxL ret hh ∈ ws := by rw [hw]; exact List.mem_cons_self
  refine ⟨⟨hrc, hrs, hR.1, hR.2, pay_in ht hG, hc⟩, ht _ (hG _ hc).1, ok _ (by simp [va_wsS]), ⟨hd.1, hd.2.1⟩, fun sig h => ?_, ok _ (by simp [va_wsS]), ok _ (by simp [va_wsS])⟩
  have h2 := hd.2.2
  rw [h] at h2
  exact (Option.some.inj h2).symm
theorem vx_callSW (X : Stand p l e R s m args below meth c T locs cells slots) (hexec : p.tables.exec = Jvm.exec) {own : String} {index : Nat} {y : MethodName} {bytes : ByteArray} {maxL : Nat} {ret : Option FieldType} {hh : List (Nat × Nat × Nat × Nat)}
    (hown : s.vm.findClass own = some m.cls) (hlink : (Cond.methodLink own index y).before args s = true) (hstat : (Cond.static y).before args s = true) (hinit : (Cond.initialized y.cls).before args s = true)
    (hcode : (Cond.codeWith y bytes maxL ret hh).before args s = true) (hy : y.cls ≠ "java/lang/invoke/MethodHandle" ∧ y.cls ≠ "java/lang/invoke/VarHandle")
    {W9 : Nat} {Pre : Pt → Array Value → Prop} {Post : Pt → Array Value → Option Value → Pt → Prop} (hK : Back l R p e below s args y 3 W9 Pre Post)
    {g : JFrame} (hg : g.method = m) (hsize : g.locals.size = c.maxLocals) {argsL rest : List Value} (hlen : ∀ sig, parseMethodDescriptor y.desc = some sig → argsL.length = sig.parameters.length)
    (hstack : g.stack = argsL.reverse ++ rest) (hW : 2 * g.monitorRoom + (rest.map fun v => v.category).sum ≤ W9) (hdg : decode c.code g.pc = .ok (.invokestatic index, 3))
    (hpre : ∀ vm₁, s.WarmedH vm₁ → Pre ⟨T.setVm vm₁, locs, cells, slots⟩ argsL.toArray) :
    ∃ (v : Option Value) (vm₁ : Vm) (B : Pt), s.WarmedH vm₁ ∧ Stand p l e R s m args below meth c B.U B.locs B.cells B.slots ∧ Post ⟨T.setVm vm₁, locs, cells, slots⟩ argsL.toArray v B ∧
      ∀ target, Steps p.tables e below (B.U.setTop { g with pc := g.pc + 3, stack := v.toList ++ rest }) target → Steps p.tables e below (T.setTop g) target := by
  obtain ⟨mk, methM, cM, hnamed, hmethM, -, -, -, -, -, -, hsigM⟩ := Cond.codeWith_spec hcode
  have hstatic : methM.isStatic = true := Cond.static_spec hnamed hmethM hstat
  obtain ⟨kP, hkP, -⟩ := className_of_methodNamed hnamed
  have hinitP : kP.init = .initialized := Cond.initialized_spec (findClass_of_methodNamed hnamed) hkP hinit
  obtain ⟨vm₁, X₁, hstep₁⟩ := X.invokestatic hexec hown hlink hnamed hmethM hstatic hkP hinitP hy (g := g) hg (argsL := argsL) (rest := rest) (hlen _ hsigM) hstack hdg
  obtain ⟨v, B, X', hpost, hsteps⟩ := hK m meth c ⟨T.setVm vm₁, locs, cells, slots⟩ { g with stack := rest } (.invokestatic index) mk argsL.toArray X₁ hg hsize hdg hW (X₁.named hnamed) (hpre vm₁ X₁.warmed)
  exact ⟨v, vm₁, B, X₁.warmed, X', hpost, fun target h => hstep₁ _ fun acts => by rw [doInvoke_state]; exact hsteps.trans h⟩
theorem vx_runSW {y : MethodName} {bytes cc : ByteArray} {maxL nL mc ms n index : Nat} {ret : Option FieldType} {hh : List (Nat × Nat × Nat × Nat)} {ws : List Cond} {rm : Room} {Pc : Array Value → State → Prop} {Qc : Array Value → State → Outcome → State → Prop} {free : Addr → Prop} {Ts : List Cond} {own : String} {As rest : List Value} {g : JFrame}
    (S : CallFix p m c cc nL s args Ts own) (hM : Met l y ws rm Pc Qc mc ms free) (cw : vx_CSW R s args own index y bytes maxL ret hh ws rm mc ms n) (hp : PreS s H Pc As)
    (hg : g.method = m) (hn : As.length = n) (hsize : g.locals.size = nL) (hstack : g.stack = As.reverse ++ rest) (hW : 2 * g.monitorRoom + (rest.map fun v => v.category).sum ≤ 8) (hdg : decode cc g.pc = .ok (.invokestatic index, 3)) (hf : cells + mc ≤ R.cells ∧ slots + ms ≤ R.slots) :
    va_Run p l e R s m args below meth c H locs cells slots mc ms g rest (Qc As.toArray) (free) := by
  obtain ⟨⟨hrc, hrs, hfr, hlo, hws, hcw⟩, hcode, hini, hy, hlen, hl, hstt⟩ := cw
  have hK : Back l R p e below s args y 3 8 (PreOf R mc ms Pc) (PostOf Qc mc ms free) := va_backW (hh := hh) (bytes := bytes) (maxL := maxL) (ret := ret) hM hp.1 hrc hrs hfr hlo hws hcw (fun a' U hW => word_at hW (Or.inl (by first | rfl | simp [Cond.onTables, Cond.keeps, Cond.steady])) hini)
  obtain ⟨hx, hb, hml, ho, -⟩ := S
  intro T hT X
  obtain ⟨v, vm₁, ⟨U', l2, c2, s2⟩, hW₁, X', ⟨g', mk, t, L, e1, e2, hq, h1, hL, h2, h3⟩, st⟩ := vx_callSW X hx (hh := hh) (bytes := bytes) (maxL := maxL) (ret := ret) ho hl hstt hini hcode hy hK hg (hsize.trans hml.symm) (argsL := As) (rest := rest) (fun sig h => hn.trans (hlen sig h)) hstack hW (by rw [hb]; exact hdg)
    (fun vm₁ hW₁ => ⟨hf.1, hf.2, hp.2 (T.setVm vm₁) hT hW₁⟩)
  dsimp only [Pt.U, Pt.locs, Pt.cells, Pt.slots] at X' e1 e2 h1 h2 h3 st
  subst h1; subst h2; subst h3
  exact ⟨v, (T.setVm vm₁).calling g' mk As.toArray, t, U', L, hT, X', hL, e1, e2, hq, st⟩
/-- not caught here, past rows that name other classes: it goes on to the caller -/
theorem vx_outP {p : Program} {l : Launch} {e : Env} {R : Room} {s : State} {m : MethodId} {args : Array Value} {below : List Frame} {meth : Method} {c : Code} {H : Heap} {locs : List Loc} {cells slots : Nat} {free : Addr → Prop} {ls : Array Slot} {rest : List Value} {Qc : Array Value → State → Outcome → State → Prop} {XC : String → State → State → Prop}
    {pc : Nat} {own E : String} {ce : Cell} {q : Addr} {mc ms : Nat} (hown : s.vm.findClass own = some m.cls) (hlocks : meth.locks = false)
    (hpass : ∀ z ∈ c.exceptionTable.toList, covers z pc = false ∨ (z.catchType ≠ 0 ∧ ∃ nm : String, (Cond.classLink own z.catchType nm).before args s = true ∧ va_Nc E nm s)) (hcell : H[q]? = some ce) (hv : ce.vm = .none) (hcl : s.vm.findClass E = some ce.cls)
    (hx : ∀ t : State, t.heap = H → s.vm.Alike t.vm → XC E s t) (hf : ∀ z ∈ locs, free z.base) (hc : cells ≤ mc) (hs : slots ≤ ms) :
    vx_W p l e R s m args below meth c H locs cells slots (vx_MQ below Qc XC args s mc ms free) (F0 m pc ls rest) q := by
  intro T hT X
  have hpl : e.platform.magicAccessors = ({} : Platform).magicAccessors := by rw [X.admits.platform]
  obtain ⟨vm', hW', X', st⟩ := X.outThrough hlocks q (g := F0 m pc ls rest) rfl rfl rfl (cell := ce) (by rw [hT]; exact hcell) (by rw [hv]; rfl)
    (by obtain ⟨k9, h9, -⟩ := Vm.findClass_spec hcl; exact ⟨k9, h9⟩) (fun z hz => by
      rcases hpass z hz with h | ⟨hz0, nm, hl1, hn1⟩
      · exact Or.inl h
      · obtain ⟨c6, hc6, hcl6⟩ := Cond.classLink_spec hown hl1 e.platform hpl
        obtain ⟨a8, b8, h1, h2, h3⟩ := hn1
        cases Option.some.inj (h1.symm.trans hcl)
        cases Option.some.inj (h2.symm.trans hc6)
        exact Or.inr ⟨hz0, _, hcl6, h3⟩)
  obtain ⟨g₀, hfr⟩ := X'.frames_eq
  have hcell9 : ((T.setVm vm').setFrames (.throwing q :: below)).heap[q]? = some ce := by
    show T.heap[q]? = some ce
    rw [hT]; exact hcell
  have hend : Ended ((T.setVm vm').setFrames (.throwing q :: below)) below (.threw q) := State.frames_setFrames _ (State.cur_lt_of_frames hfr)
  refine ⟨(T.setVm vm').setFrames (.throwing q :: below), ?_, .threw q, X'.here.running, hend, Or.inr ⟨q, rfl, E, ce, locs, hx _ hT (X'.ends _).1.alike, hcell9, hv, hcl, (X'.ends _).1, (X'.ends _).2.mono hc hs, hf⟩⟩
  rw [X.pushThrowing_eq]
  exact st
/-- a thing of a world lies in the heap -/
theorem vx_lt {D : va_G} {cl : List vw_C} {ws : va_W} {H1 : Heap} (h : va_P D cl ws H1) {k : Nat} {q : Nat × va_E} (hk : ws[k]? = some q) : q.1 < H1.size := (h k q hk).lt
end VXS
/-! ===== END ===== -/
/-! ===== BEGIN methods with a table of their own: called by a name, returning or throwing ===== -/
section VXH
/-! vx_backW, vx_callVX, vx_callSX, vx_callVW, vx_runVW, vx_runVX, vx_runSX, vx_ofWH follow the same proofs as their sisters above (Free/Laws.lean, Shelf42/LK1.lean); vx_outP calls Shelf42/NT130.lean (outThrough). -/
section
variable {l : Launch} {R : Room} {p : Program} {e : Env} {below : List Frame} {s : State} {sargs : Array Value} {y : MethodName} {len W9 : Nat}
theorem vx_backW {ws : List Cond} {rm : Room} {Pc : Array Value → State → Prop} {Qc : Array Value → State → Outcome → State → Prop} {XC : String → State → State → Prop} {mc ms : Nat} {free : Addr → Prop} {bytes : ByteArray} {maxL : Nat} {ret : Option FieldType} {hh : List (Nat × Nat × Nat × Nat)}
    (hM : vx_Met l y ws rm Pc Qc XC mc ms free) (hblind : FrameBlind Pc) (hrc : rm.cells = mc) (hrs : rm.slots = ms)
    (hframes : rm.frames + 1 ≤ R.frames) (hlocals : W9 + (maxL + 11) + rm.locals ≤ R.locals)
    (hws : ∀ w ∈ ws, ∀ a' U, s.WarmedH U.vm → w.before a' U = true) (hcode : Cond.codeWith y bytes maxL ret hh ∈ ws) (hinit : ∀ a' U, s.WarmedH U.vm → (Cond.initialized y.cls).before a' U = true) :
    vx_Back l R p e below s sargs y len W9 (PreOf R mc ms Pc) (PostOf Qc mc ms free) (vx_Post XC mc ms free) := by
  intro m meth c A g ig mk a X hg hsize hdg hW hn hp
  have h1 : (headSpec ws rm).pre.before a A.U = true := atoms_intro fun w hw => hws w hw _ _ X.warmed
  have h2 : (Cond.codeWith y bytes maxL ret hh).before a A.U = true := hws _ hcode _ _ X.warmed
  have h3 : (Cond.initialized y.cls).before a A.U = true := hinit _ _ X.warmed
  have h4 : A.cells + (headSpec ws rm).room.cells ≤ R.cells := by rw [show (headSpec ws rm).room.cells = mc from hrc]; exact hp.1
  have h5 : A.slots + (headSpec ws rm).room.slots ≤ R.slots := by rw [show (headSpec ws rm).room.slots = ms from hrs]; exact hp.2.1
  have hPc : Pc a (A.U.calling g mk a) := hblind _ _ _ _ hp.2.2
  obtain ⟨U, Ls, c0, s0⟩ := A
  dsimp only [Pt.U, Pt.locs, Pt.cells, Pt.slots] at h1 h2 h3 h4 h5 X hn hPc ⊢
  obtain ⟨m9, methY, cY, hn9, hmY, hcY, -, hlY, -⟩ := Cond.codeWith_spec h2
  cases Option.some.inj (hn9.symm.trans hn)
  obtain ⟨kY, hkY, -⟩ := className_of_methodNamed hn
  have hinitY : kY.init = .initialized := Cond.initialized_spec (findClass_of_methodNamed hn) hkY h3
  have h : At U g.method c below := by rw [hg]; exact X.here
  have hlocals9 : W9 + (maxL + 11) + (headSpec ws rm).room.locals ≤ R.locals := hlocals
  have happ : (headSpec ws rm).appliesLoose y e.platform (U.calling g mk a) = true :=
    Spec.appliesLoose_calling (g := g) h hdg hn hkY hinitY
      (X.room_calling (g := g) (R' := (headSpec ws rm).room) hsize hmY hcY hframes (by rw [hlY]; omega) h4 h5) h1
  obtain ⟨mid, hmid⟩ := h.above
  have hfr : (U.setTop g).frames = (.java g :: mid) ++ below := by rw [State.frames_setTop' g h.top, hmid]; rfl
  obtain ⟨o, s₂, hsteps, -, hend, hq⟩ := Steps.callFree hM p X.admits X.cas X.clock (acts := []) hfr happ hPc trivial
  have hq' : vx_Q Qc XC mc ms free a (U.calling g mk a) o s₂ := hq
  rw [State.frames_setTop' g h.top] at hend
  obtain ⟨g₀, hg0⟩ := Option.isSome_iff_exists.mp h.top
  obtain ⟨r, hr⟩ := State.topJava?_eq_some.mp hg0
  have hr' : (({ U with heap := s₂.heap, slotsUsed := s₂.slotsUsed } : State).setVm s₂.vm).frames = .java g₀ :: r := hr
  rcases hq' with ⟨hqc, L, hfe, hL⟩ | ⟨q, rfl, E, ce, L, hx, hce, hcv, hcl, hW₂, hsm, hL⟩
  · obtain ⟨⟨v, rfl⟩, hW₂, e2, q2, q3, q4, q5, q6⟩ := id hfe
    have e3 : s₂ = ({ (U.calling g mk a).setFrames s₂.frames with heap := s₂.heap, slotsUsed := s₂.slotsUsed } : State).setVm s₂.vm := by
      have : s₂ = ({ s₂ with vm := (U.calling g mk a).vm } : State).setVm s₂.vm := rfl
      rw [e2] at this
      exact this
    obtain ⟨c₂, i₂, len₂, hc₂, hd₂, hf₂⟩ := hend
    have hW' : U.WarmedH s₂.vm := hW₂
    have hcc : c₂ = c := by
      have h1 : s₂.code? g.method = U.code? g.method := by
        rw [State.code?_eq, State.code?_eq, hW'.alike.method?]
      exact Option.some.inj (hc₂.symm.trans (h1.trans h.code))
    subst hcc
    have hlen : len₂ = len := by rw [hdg] at hd₂; cases hd₂; rfl
    subst hlen
    have hs₂ : s₂ = (({ U with heap := s₂.heap, slotsUsed := s₂.slotsUsed } : State).setVm s₂.vm).setTop { g with pc := g.pc + len₂, stack := v.toList ++ g.stack } := by
      refine e3.trans ?_
      rw [hf₂, State.calling_eq h.top, State.setFrames_setFrames, State.setTop_of_frames _ hr', hr]
      rfl
    have hsame : U.sameButNew ({ U with heap := s₂.heap, slotsUsed := s₂.slotsUsed } : State) L mc ms := by
      refine ⟨?_, q2, q3, q4, q5, q6⟩
      obtain ⟨t, ht, -⟩ := State.frames_cons hr
      show ({ U with heap := s₂.heap, slotsUsed := s₂.slotsUsed } : State) = { U.setFrames U.frames with heap := s₂.heap, slotsUsed := s₂.slotsUsed }
      rw [State.setFrames_self ht]
    subst hg
    refine Or.inl ⟨v, ⟨(({ U with heap := s₂.heap, slotsUsed := s₂.slotsUsed } : State).setVm s₂.vm), Ls ++ L, c0 + mc, s0 + ms⟩,
      ⟨X.admits, X.cas, X.clock, X.frames, X.room, X.hears, X.method, X.code, (X.here.setHeapUsed s₂.heap s₂.slotsUsed).setVm hW'.alike, X.tail, State.WarmedH.trans X.warmed hW', X.limits, X.bytes, X.same.trans (hsame.setVm s.vm)⟩,
      ⟨g, mk, s₂, L, rfl, rfl, hqc, rfl, hL, rfl, rfl⟩, ?_⟩
    show Steps p.tables e below _ ((({ U with heap := s₂.heap, slotsUsed := s₂.slotsUsed } : State).setVm s₂.vm).setTop { g with pc := g.pc + len₂, stack := v.toList ++ g.stack })
    rw [← hs₂]
    exact hsteps
  · obtain ⟨e2, q2, q3, q4, q5, q6⟩ := id hsm
    have e3 : s₂ = ({ (U.calling g mk a).setFrames s₂.frames with heap := s₂.heap, slotsUsed := s₂.slotsUsed } : State).setVm s₂.vm := by
      have : s₂ = ({ s₂ with vm := (U.calling g mk a).vm } : State).setVm s₂.vm := rfl
      rw [e2] at this
      exact this
    have hf₂ : s₂.frames = .throwing q :: .java g :: U.frames.tail := hend
    have hW' : U.WarmedH s₂.vm := hW₂
    have hs₂ : s₂ = ((({ U with heap := s₂.heap, slotsUsed := s₂.slotsUsed } : State).setVm s₂.vm).setTop g).pushFrame (.throwing q) := by
      refine e3.trans ?_
      rw [hf₂, State.calling_eq h.top, State.setFrames_setFrames, State.pushFrame, State.frames_setTop _ hr', State.setTop_of_frames _ hr', State.setFrames_setFrames, hr]
      rfl
    have hsame : U.sameButNew ({ U with heap := s₂.heap, slotsUsed := s₂.slotsUsed } : State) L mc ms := by
      refine ⟨?_, q2, q3, q4, q5, q6⟩
      obtain ⟨t, ht, -⟩ := State.frames_cons hr
      show ({ U with heap := s₂.heap, slotsUsed := s₂.slotsUsed } : State) = { U.setFrames U.frames with heap := s₂.heap, slotsUsed := s₂.slotsUsed }
      rw [State.setFrames_self ht]
    subst hg
    refine Or.inr ⟨q, ⟨(({ U with heap := s₂.heap, slotsUsed := s₂.slotsUsed } : State).setVm s₂.vm), Ls ++ L, c0 + mc, s0 + ms⟩,
      ⟨X.admits, X.cas, X.clock, X.frames, X.room, X.hears, X.method, X.code, (X.here.setHeapUsed s₂.heap s₂.slotsUsed).setVm hW'.alike, X.tail, State.WarmedH.trans X.warmed hW', X.limits, X.bytes, X.same.trans (hsame.setVm s.vm)⟩,
      ⟨g, mk, s₂, L, E, ce, rfl, rfl, hx, hce, hcv, hcl, rfl, hL, rfl, rfl⟩, ?_⟩
    show Steps p.tables e below _ (((({ U with heap := s₂.heap, slotsUsed := s₂.slotsUsed } : State).setVm s₂.vm).setTop g).pushFrame (.throwing q))
    rw [← hs₂]
    exact hsteps
end
variable {p : Program} {l : Launch} {e : Env} {R : Room} {s : State} {m : MethodId} {args : Array Value} {below : List Frame} {meth : Method} {c : Code} {T : State} {H : Heap} {locs : List Loc} {cells slots : Nat}
theorem vx_callVX (X : Stand p l e R s m args below meth c T locs cells slots) (hexec : p.tables.exec = Jvm.exec) {own C : String} {index : Nat} {y : MethodName} {bytes : ByteArray} {maxL : Nat} {ret : Option FieldType} {hh : List (Nat × Nat × Nat × Nat)}
    (hown : s.vm.findClass own = some m.cls) (hlink : (Cond.methodLink own index y).before args s = true) (hinst : (Cond.instanceMethod y).before args s = true) (hsel : (Cond.selects C y y).before args s = true)
    (hcode : (Cond.codeWith y bytes maxL ret hh).before args s = true) (hy : y.cls ≠ "java/lang/invoke/MethodHandle" ∧ y.cls ≠ "java/lang/invoke/VarHandle")
    {W9 : Nat} {Pre : Pt → Array Value → Prop} {Post : Pt → Array Value → Option Value → Pt → Prop} {PostX : Pt → Array Value → Addr → Pt → Prop} (hK : vx_Back l R p e below s args y 3 W9 Pre Post PostX)
    {b : Addr} {cellB : Cell} (hcell : T.heap[b]? = some cellB) (hobj : cellB.vm.isStatics = false) (hcls : s.vm.findClass C = some cellB.cls)
    {g : JFrame} (hg : g.method = m) (hsize : g.locals.size = c.maxLocals) {argsL rest : List Value} (hlen : ∀ sig, parseMethodDescriptor y.desc = some sig → argsL.length = sig.parameters.length)
    (hstack : g.stack = argsL.reverse ++ .ref b :: rest) (hW : 2 * g.monitorRoom + (rest.map fun v => v.category).sum ≤ W9) (hdg : decode c.code g.pc = .ok (.invokevirtual index, 3))
    (hpre : ∀ vm₁, s.WarmedH vm₁ → Pre ⟨T.setVm vm₁, locs, cells, slots⟩ (Value.ref b :: argsL).toArray) :
    (∃ (v : Option Value) (vm₁ : Vm) (B : Pt), s.WarmedH vm₁ ∧ Stand p l e R s m args below meth c B.U B.locs B.cells B.slots ∧ Post ⟨T.setVm vm₁, locs, cells, slots⟩ (Value.ref b :: argsL).toArray v B ∧
      ∀ target, Steps p.tables e below (B.U.setTop { g with pc := g.pc + 3, stack := v.toList ++ rest }) target → Steps p.tables e below (T.setTop g) target) ∨
    (∃ (q : Addr) (vm₁ : Vm) (B : Pt), s.WarmedH vm₁ ∧ Stand p l e R s m args below meth c B.U B.locs B.cells B.slots ∧ PostX ⟨T.setVm vm₁, locs, cells, slots⟩ (Value.ref b :: argsL).toArray q B ∧
      Steps p.tables e below (T.setTop g) ((B.U.setTop { g with stack := rest }).pushFrame (.throwing q))) := by
  obtain ⟨mk, methM, hnamed, hmethM, hstM, habM⟩ := Cond.instanceMethod_spec hinst
  obtain ⟨m8, methM', cM, hn8, hmethM', -, -, -, -, -, -, hsigM⟩ := Cond.codeWith_spec hcode
  cases Option.some.inj (hn8.symm.trans hnamed)
  cases hmethM.symm.trans hmethM'
  obtain ⟨c2, r2, m2, q1, q2, q3, q4, kP, hkP, hkPi⟩ := Cond.selects_spec hsel
  cases hcls.symm.trans q1
  cases (State.methodFound?_of_named hnamed hy).symm.trans q2
  cases hnamed.symm.trans q3
  have hselP : selectMethod e.platform s.vm cellB.cls mk = .method mk := by rw [Launch.admits_selectMethod X.admits]; exact q4
  obtain ⟨vm₁, X₁, hstep₁⟩ := X.invokevirtual hexec hown hlink hnamed hmethM hstM hkP hkPi hy (a := b) (cell := cellB) hcell
    (fun z h => by rw [h] at hobj; cases hobj) hselP hmethM habM hkP hkPi (g := g) hg (argsL := argsL) (rest := rest) (hlen _ hsigM) hstack hdg
  rcases hK m meth c ⟨T.setVm vm₁, locs, cells, slots⟩ { g with stack := rest } (.invokevirtual index) mk (Value.ref b :: argsL).toArray X₁ hg hsize hdg hW (X₁.named hnamed) (hpre vm₁ X₁.warmed) with ⟨v, B, X', hpost, hsteps⟩ | ⟨q, B, X', hpost, hsteps⟩
  · exact Or.inl ⟨v, vm₁, B, X₁.warmed, X', hpost, fun target h => hstep₁ _ fun acts => by rw [doInvoke_state]; exact hsteps.trans h⟩
  · exact Or.inr ⟨q, vm₁, B, X₁.warmed, X', hpost, hstep₁ _ fun acts => by rw [doInvoke_state]; exact hsteps⟩
theorem vx_callSX (X : Stand p l e R s m args below meth c T locs cells slots) (hexec : p.tables.exec = Jvm.exec) {own : String} {index : Nat} {y : MethodName} {bytes : ByteArray} {maxL : Nat} {ret : Option FieldType} {hh : List (Nat × Nat × Nat × Nat)}
    (hown : s.vm.findClass own = some m.cls) (hlink : (Cond.methodLink own index y).before args s = true) (hstat : (Cond.static y).before args s = true) (hinit : (Cond.initialized y.cls).before args s = true)
    (hcode : (Cond.codeWith y bytes maxL ret hh).before args s = true) (hy : y.cls ≠ "java/lang/invoke/MethodHandle" ∧ y.cls ≠ "java/lang/invoke/VarHandle")
    {W9 : Nat} {Pre : Pt → Array Value → Prop} {Post : Pt → Array Value → Option Value → Pt → Prop} {PostX : Pt → Array Value → Addr → Pt → Prop} (hK : vx_Back l R p e below s args y 3 W9 Pre Post PostX)
    {g : JFrame} (hg : g.method = m) (hsize : g.locals.size = c.maxLocals) {argsL rest : List Value} (hlen : ∀ sig, parseMethodDescriptor y.desc = some sig → argsL.length = sig.parameters.length)
    (hstack : g.stack = argsL.reverse ++ rest) (hW : 2 * g.monitorRoom + (rest.map fun v => v.category).sum ≤ W9) (hdg : decode c.code g.pc = .ok (.invokestatic index, 3))
    (hpre : ∀ vm₁, s.WarmedH vm₁ → Pre ⟨T.setVm vm₁, locs, cells, slots⟩ argsL.toArray) :
    (∃ (v : Option Value) (vm₁ : Vm) (B : Pt), s.WarmedH vm₁ ∧ Stand p l e R s m args below meth c B.U B.locs B.cells B.slots ∧ Post ⟨T.setVm vm₁, locs, cells, slots⟩ argsL.toArray v B ∧
      ∀ target, Steps p.tables e below (B.U.setTop { g with pc := g.pc + 3, stack := v.toList ++ rest }) target → Steps p.tables e below (T.setTop g) target) ∨
    (∃ (q : Addr) (vm₁ : Vm) (B : Pt), s.WarmedH vm₁ ∧ Stand p l e R s m args below meth c B.U B.locs B.cells B.slots ∧ PostX ⟨T.setVm vm₁, locs, cells, slots⟩ argsL.toArray q B ∧
      Steps p.tables e below (T.setTop g) ((B.U.setTop { g with stack := rest }).pushFrame (.throwing q))) := by
  obtain ⟨mk, methM, cM, hnamed, hmethM, -, -, -, -, -, -, hsigM⟩ := Cond.codeWith_spec hcode
  have hstatic : methM.isStatic = true := Cond.static_spec hnamed hmethM hstat
  obtain ⟨kP, hkP, -⟩ := className_of_methodNamed hnamed
  have hinitP : kP.init = .initialized := Cond.initialized_spec (findClass_of_methodNamed hnamed) hkP hinit
  obtain ⟨vm₁, X₁, hstep₁⟩ := X.invokestatic hexec hown hlink hnamed hmethM hstatic hkP hinitP hy (g := g) hg (argsL := argsL) (rest := rest) (hlen _ hsigM) hstack hdg
  rcases hK m meth c ⟨T.setVm vm₁, locs, cells, slots⟩ { g with stack := rest } (.invokestatic index) mk argsL.toArray X₁ hg hsize hdg hW (X₁.named hnamed) (hpre vm₁ X₁.warmed) with ⟨v, B, X', hpost, hsteps⟩ | ⟨q, B, X', hpost, hsteps⟩
  · exact Or.inl ⟨v, vm₁, B, X₁.warmed, X', hpost, fun target h => hstep₁ _ fun acts => by rw [doInvoke_state]; exact hsteps.trans h⟩
  · exact Or.inr ⟨q, vm₁, B, X₁.warmed, X', hpost, hstep₁ _ fun acts => by rw [doInvoke_state]; exact hsteps⟩
theorem vx_callVW (X : Stand p l e R s m args below meth c T locs cells slots) (hexec : p.tables.exec = Jvm.exec) {own C : String} {index : Nat} {y : MethodName} {bytes : ByteArray} {maxL : Nat} {ret : Option FieldType} {hh : List (Nat × Nat × Nat × Nat)}
    (hown : s.vm.findClass own = some m.cls) (hlink : (Cond.methodLink own index y).before args s = true) (hinst : (Cond.instanceMethod y).before args s = true) (hsel : (Cond.selects C y y).before args s = true)
    (hcode : (Cond.codeWith y bytes maxL ret hh).before args s = true) (hy : y.cls ≠ "java/lang/invoke/MethodHandle" ∧ y.cls ≠ "java/lang/invoke/VarHandle")
    {W9 : Nat} {Pre : Pt → Array Value → Prop} {Post : Pt → Array Value → Option Value → Pt → Prop} (hK : Back l R p e below s args y 3 W9 Pre Post)
    {b : Addr} {cellB : Cell} (hcell : T.heap[b]? = some cellB) (hobj : cellB.vm.isStatics = false) (hcls : s.vm.findClass C = some cellB.cls)
    {g : JFrame} (hg : g.method = m) (hsize : g.locals.size = c.maxLocals) {argsL rest : List Value} (hlen : ∀ sig, parseMethodDescriptor y.desc = some sig → argsL.length = sig.parameters.length)
    (hstack : g.stack = argsL.reverse ++ .ref b :: rest) (hW : 2 * g.monitorRoom + (rest.map fun v => v.category).sum ≤ W9) (hdg : decode c.code g.pc = .ok (.invokevirtual index, 3))
    (hpre : ∀ vm₁, s.WarmedH vm₁ → Pre ⟨T.setVm vm₁, locs, cells, slots⟩ (Value.ref b :: argsL).toArray) :
    ∃ (v : Option Value) (vm₁ : Vm) (B : Pt), s.WarmedH vm₁ ∧ Stand p l e R s m args below meth c B.U B.locs B.cells B.slots ∧ Post ⟨T.setVm vm₁, locs, cells, slots⟩ (Value.ref b :: argsL).toArray v B ∧
      ∀ target, Steps p.tables e below (B.U.setTop { g with pc := g.pc + 3, stack := v.toList ++ rest }) target → Steps p.tables e below (T.setTop g) target := by
  obtain ⟨mk, methM, hnamed, hmethM, hstM, habM⟩ := Cond.instanceMethod_spec hinst
  obtain ⟨m8, methM', cM, hn8, hmethM', -, -, -, -, -, -, hsigM⟩ := Cond.codeWith_spec hcode
  cases Option.some.inj (hn8.symm.trans hnamed)
  cases hmethM.symm.trans hmethM'
  obtain ⟨c2, r2, m2, q1, q2, q3, q4, kP, hkP, hkPi⟩ := Cond.selects_spec hsel
  cases hcls.symm.trans q1
  cases (State.methodFound?_of_named hnamed hy).symm.trans q2
  cases hnamed.symm.trans q3
  have hselP : selectMethod e.platform s.vm cellB.cls mk = .method mk := by rw [Launch.admits_selectMethod X.admits]; exact q4
  obtain ⟨vm₁, X₁, hstep₁⟩ := X.invokevirtual hexec hown hlink hnamed hmethM hstM hkP hkPi hy (a := b) (cell := cellB) hcell
    (fun z h => by rw [h] at hobj; cases hobj) hselP hmethM habM hkP hkPi (g := g) hg (argsL := argsL) (rest := rest) (hlen _ hsigM) hstack hdg
  obtain ⟨v, B, X', hpost, hsteps⟩ := hK m meth c ⟨T.setVm vm₁, locs, cells, slots⟩ { g with stack := rest } (.invokevirtual index) mk (Value.ref b :: argsL).toArray X₁ hg hsize hdg hW (X₁.named hnamed) (hpre vm₁ X₁.warmed)
  exact ⟨v, vm₁, B, X₁.warmed, X', hpost, fun target h => hstep₁ _ fun acts => by rw [doInvoke_state]; exact hsteps.trans h⟩
abbrev vx_CVW (R : Room) (s : State) (args : Array Value) (own C : String) (index : Nat) (y : MethodName) (bytes : ByteArray) (maxL : Nat) (ret : Option FieldType) (hh : List (Nat × Nat × Nat × Nat)) (ws : List Cond) (rm : Room) (mc ms n : Nat) : Prop :=
  (rm.cells = mc ∧ rm.slots = ms ∧ rm.frames + 1 ≤ R.frames ∧ 8 + (maxL + 11) + rm.locals ≤ R.locals ∧ (∀ w ∈ ws, ∀ (a' : Array Value) (U : State), s.WarmedH U.vm → w.before a' U = true) ∧ Cond.codeWith y bytes maxL ret hh ∈ ws) ∧
  (Cond.codeWith y bytes maxL ret hh).before args s = true ∧ (Cond.initialized y.cls).before args s = true ∧ (y.cls ≠ "java/lang/invoke/MethodHandle" ∧ y.cls ≠ "java/lang/invoke/VarHandle") ∧
  (∀ sig, parseMethodDescriptor y.desc = some sig → n = sig.parameters.length) ∧ (Cond.methodLink own index y).before args s = true ∧ (Cond.instanceMethod y).before args s = true ∧ (Cond.selects C y y).before args s = true
theorem vx_cwVW {own C : String} {index maxL mc ms : Nat} {y : MethodName} {bytes : ByteArray} {ret : Option FieldType} {hh : List (Nat × Nat × Nat × Nat)} {Ts ws ws' : List Cond} {rm : Room} (n : Nat) (ht : ∀ w ∈ Ts, w.before args s = true) (hT : GoodIn Ts (wsV own index C y ws)) (hw : ws = Cond.codeWith y bytes maxL ret hh :: ws') (hrc : rm.cells = mc) (hrs : rm.slots = ms)
    (hd : y.cls = C ∧ y.cls ≠ "java/lang/invoke/MethodHandle" ∧ y.cls ≠ "java/lang/invoke/VarHandle" ∧ (parseMethodDescriptor y.desc).map (fun d => d.parameters.length) = some n) (hR : rm.frames + 1 ≤ R.frames ∧ 8 + (maxL + 11) + rm.locals ≤ R.locals) :
    vx_CVW R s args own C index y bytes maxL ret hh ws rm mc ms n := by
  obtain ⟨hC, hd⟩ := hd
  subst hC
  have ok : ∀ w ∈ wsV own index y.cls y ws, w.before args s = true := fun w h => ht w (hT w h).1
  have hG : GoodIn Ts ws := fun w h => hT w (by unfold wsV; exact List.mem_append_right _ h)
  have hc : Cond.codeWith y bytes maxL ret hh ∈ ws := by rw [hw]; exact List.mem_cons_self
  refine ⟨⟨hrc, hrs, hR.1, hR.2, pay_in ht hG, hc⟩, ht _ (hG _ hc).1, ok _ (by simp [wsV]), ⟨hd.1, hd.2.1⟩, fun sig h => ?_, ok _ (by simp [wsV]), ok _ (by simp [wsV]), ok _ (by simp [wsV])⟩
  have h2 := hd.2.2
  rw [h] at h2
  exact (Option.some.inj h2).symm
theorem vx_runVW {y : MethodName} {bytes cc : ByteArray} {maxL nL mc ms n index : Nat} {ret : Option FieldType} {hh : List (Nat × Nat × Nat × Nat)} {ws : List Cond} {rm : Room} {Pc : Array Value → State → Prop} {Qc : Array Value → State → Outcome → State → Prop} {free : Addr → Prop} {Ts : List Cond} {own C : String} {b : Addr} {As rest : List Value} {g : JFrame}
    (S : CallFix p m c cc nL s args Ts own) (hM : Met l y ws rm Pc Qc mc ms free) (cw : vx_CVW R s args own C index y bytes maxL ret hh ws rm mc ms n) (hp : PreV s H C b Pc As)
    (hg : g.method = m) (hn : As.length = n) (hsize : g.locals.size = nL) (hstack : g.stack = As.reverse ++ .ref b :: rest) (hW : 2 * g.monitorRoom + (rest.map fun v => v.category).sum ≤ 8) (hdg : decode cc g.pc = .ok (.invokevirtual index, 3)) (hf : cells + mc ≤ R.cells ∧ slots + ms ≤ R.slots) :
    va_Run p l e R s m args below meth c H locs cells slots mc ms g rest (Qc (Value.ref b :: As).toArray) free := by
  obtain ⟨⟨hrc, hrs, hfr, hlo, hws, hcw⟩, hcode, hini, hy, hlen, hl, hin, hse⟩ := cw
  have hK : Back l R p e below s args y 3 8 (PreOf R mc ms Pc) (PostOf Qc mc ms free) := va_backW (hh := hh) (bytes := bytes) (maxL := maxL) (ret := ret) hM hp.1 hrc hrs hfr hlo hws hcw (fun a' U hW => word_at hW (Or.inl (by first | rfl | simp [Cond.onTables, Cond.keeps, Cond.steady])) hini)
  obtain ⟨hx, hb, hml, ho, -⟩ := S
  obtain ⟨-, ⟨cellB, hcB, hoB, hclB⟩, hPc⟩ := hp
  intro T hT X
  obtain ⟨v, vm₁, ⟨U', l2, c2, s2⟩, hW₁, X', ⟨g', mk, t, L, e1, e2, hq, h1, hL, h2, h3⟩, st⟩ := vx_callVW X hx (C := C) (hh := hh) (bytes := bytes) (maxL := maxL) (ret := ret) ho hl hin hse hcode hy hK (by rw [hT]; exact hcB) hoB hclB hg (hsize.trans hml.symm) (argsL := As) (rest := rest) (fun sig h => hn.trans (hlen sig h)) hstack hW (by rw [hb]; exact hdg)
    (fun vm₁ hW₁ => ⟨hf.1, hf.2, hPc (T.setVm vm₁) hT hW₁⟩)
  dsimp only [Pt.U, Pt.locs, Pt.cells, Pt.slots] at X' e1 e2 h1 h2 h3 st
  subst h1; subst h2; subst h3
  exact ⟨v, (T.setVm vm₁).calling g' mk (Value.ref b :: As).toArray, t, U', L, hT, X', hL, e1, e2, hq, st⟩
section
variable {y : MethodName} {bytes cc : ByteArray} {maxL nL mc ms n index : Nat} {ret : Option FieldType} {ws : List Cond} {rm : Room} {Pc : Array Value → State → Prop} {Qc : Array Value → State → Outcome → State → Prop} {XC : String → State → State → Prop} {free : Addr → Prop} {Ts : List Cond} {own C : String} {b : Addr} {As rest : List Value} {g : JFrame}
theorem vx_runVX {hh : List (Nat × Nat × Nat × Nat)} (S : CallFix p m c cc nL s args Ts own) (hM : vx_Met l y ws rm Pc Qc XC mc ms free) (cw : vx_CVW R s args own C index y bytes maxL ret hh ws rm mc ms n) (hp : PreV s H C b Pc As)
    (hg : g.method = m) (hn : As.length = n) (hsize : g.locals.size = nL) (hstack : g.stack = As.reverse ++ .ref b :: rest) (hW : 2 * g.monitorRoom + (rest.map fun v => v.category).sum ≤ 8) (hdg : decode cc g.pc = .ok (.invokevirtual index, 3)) (hf : cells + mc ≤ R.cells ∧ slots + ms ≤ R.slots) :
    vx_Run p l e R s m args below meth c H locs cells slots mc ms g rest (Qc (Value.ref b :: As).toArray) XC free := by
  obtain ⟨⟨hrc, hrs, hfr, hlo, hws, hcw⟩, hcode, hini, hy, hlen, hl, hin, hse⟩ := cw
  have hK : vx_Back l R p e below s args y 3 8 (PreOf R mc ms Pc) (PostOf Qc mc ms free) (vx_Post XC mc ms free) := vx_backW (hh := hh) (bytes := bytes) (maxL := maxL) (ret := ret) hM hp.1 hrc hrs hfr hlo hws hcw (fun a' U hW => word_at hW (Or.inl (by first | rfl | simp [Cond.onTables, Cond.keeps, Cond.steady])) hini)
  obtain ⟨hx, hb, hml, ho, -⟩ := S
  obtain ⟨-, ⟨cellB, hcB, hoB, hclB⟩, hPc⟩ := hp
  intro T hT X
  rcases vx_callVX X hx (C := C) (hh := hh) (bytes := bytes) (maxL := maxL) (ret := ret) ho hl hin hse hcode hy hK (by rw [hT]; exact hcB) hoB hclB hg (hsize.trans hml.symm) (argsL := As) (rest := rest) (fun sig h => hn.trans (hlen sig h)) hstack hW (by rw [hb]; exact hdg)
    (fun vm₁ hW₁ => ⟨hf.1, hf.2, hPc (T.setVm vm₁) hT hW₁⟩) with ⟨v, vm₁, ⟨U', l2, c2, s2⟩, hW₁, X', ⟨g', mk, t, L, e1, e2, hq, h1, hL, h2, h3⟩, st⟩ | ⟨q, vm₁, ⟨U', l2, c2, s2⟩, hW₁, X', ⟨g', mk, t, L, E, ce, e1, e2, hq, hce, hcv, hcl, h1, hL, h2, h3⟩, st⟩
  · dsimp only [Pt.U, Pt.locs, Pt.cells, Pt.slots] at X' e1 e2 h1 h2 h3 st
    subst h1; subst h2; subst h3
    exact Or.inl ⟨v, (T.setVm vm₁).calling g' mk (Value.ref b :: As).toArray, t, U', L, hT, X', hL, e1, e2, hq, st⟩
  · dsimp only [Pt.U, Pt.locs, Pt.cells, Pt.slots] at X' e1 e2 h1 h2 h3 st hcl
    subst h1; subst h2; subst h3
    exact Or.inr ⟨q, (T.setVm vm₁).calling g' mk (Value.ref b :: As).toArray, t, U', L, E, ce, hT, X', hL, e1, e2, hq, hce, hcv, vx_cls hW₁ hcl, st⟩
theorem vx_runSX {hh : List (Nat × Nat × Nat × Nat)} (S : CallFix p m c cc nL s args Ts own) (hM : vx_Met l y ws rm Pc Qc XC mc ms free) (cw : vx_CSW R s args own index y bytes maxL ret hh ws rm mc ms n) (hp : PreS s H Pc As)
    (hg : g.method = m) (hn : As.length = n) (hsize : g.locals.size = nL) (hstack : g.stack = As.reverse ++ rest) (hW : 2 * g.monitorRoom + (rest.map fun v => v.category).sum ≤ 8) (hdg : decode cc g.pc = .ok (.invokestatic index, 3)) (hf : cells + mc ≤ R.cells ∧ slots + ms ≤ R.slots) :
    vx_Run p l e R s m args below meth c H locs cells slots mc ms g rest (Qc As.toArray) XC free := by
  obtain ⟨⟨hrc, hrs, hfr, hlo, hws, hcw⟩, hcode, hini, hy, hlen, hl, hstt⟩ := cw
  have hK : vx_Back l R p e below s args y 3 8 (PreOf R mc ms Pc) (PostOf Qc mc ms free) (vx_Post XC mc ms free) := vx_backW (hh := hh) (bytes := bytes) (maxL := maxL) (ret := ret) hM hp.1 hrc hrs hfr hlo hws hcw (fun a' U hW => word_at hW (Or.inl (by first | rfl | simp [Cond.onTables, Cond.keeps, Cond.steady])) hini)
  obtain ⟨hx, hb, hml, ho, -⟩ := S
  intro T hT X
  rcases vx_callSX X hx (hh := hh) (bytes := bytes) (maxL := maxL) (ret := ret) ho hl hstt hini hcode hy hK hg (hsize.trans hml.symm) (argsL := As) (rest := rest) (fun sig h => hn.trans (hlen sig h)) hstack hW (by rw [hb]; exact hdg)
    (fun vm₁ hW₁ => ⟨hf.1, hf.2, hp.2 (T.setVm vm₁) hT hW₁⟩) with ⟨v, vm₁, ⟨U', l2, c2, s2⟩, hW₁, X', ⟨g', mk, t, L, e1, e2, hq, h1, hL, h2, h3⟩, st⟩ | ⟨q, vm₁, ⟨U', l2, c2, s2⟩, hW₁, X', ⟨g', mk, t, L, E, ce, e1, e2, hq, hce, hcv, hcl, h1, hL, h2, h3⟩, st⟩
  · dsimp only [Pt.U, Pt.locs, Pt.cells, Pt.slots] at X' e1 e2 h1 h2 h3 st
    subst h1; subst h2; subst h3
    exact Or.inl ⟨v, (T.setVm vm₁).calling g' mk As.toArray, t, U', L, hT, X', hL, e1, e2, hq, st⟩
  · dsimp only [Pt.U, Pt.locs, Pt.cells, Pt.slots] at X' e1 e2 h1 h2 h3 st hcl
    subst h1; subst h2; subst h3
    exact Or.inr ⟨q, (T.setVm vm₁).calling g' mk As.toArray, t, U', L, E, ce, hT, X', hL, e1, e2, hq, hce, hcv, vx_cls hW₁ hcl, st⟩
end
end VXH
theorem vx_ofWH {l : Launch} {y : MethodName} {ws ws' : List Cond} {rm : Room} {Pc : Array Value → State → Prop} {Qc : Array Value → State → Outcome → State → Prop} {XC : String → State → State → Prop} {mc ms : Nat} {free : Addr → Prop} {cc : ByteArray} {maxL : Nat} {ret : Option FieldType} {hh : List (Nat × Nat × Nat × Nat)}
    (hy : plainName y.cls = true) (hw : ws = Cond.codeWith y cc maxL ret hh :: ws')
    (body : ∀ p e s m args below meth c s₁, BodyLoose p l y (headSpec ws rm) cc maxL ret e s m args below meth c s₁ → c.maxLocals = maxL → Pc args s →
      W p l e (headSpec ws rm).room s m args below meth c s.heap [] 0 0 (vx_MQ below Qc XC args s mc ms free) (entryFrame m args maxL)) : vx_Met l y ws rm Pc Qc XC mc ms free := by
  refine MetFree.of_bodyS (code := cc) (maxLocals := maxL) (ret := ret) hy ?_ ?_
  · intro args s m h hn
    obtain ⟨m9, meth, c, hn9, h1, h2, h3, h4, -, h5, h6, -⟩ := Cond.codeWith_spec (atoms_spec (ws := ws) h _ (by rw [hw]; exact List.mem_cons_self))
    cases hn.symm.trans hn9
    exact ⟨meth, c, h1, h2, h3, h4, h5, h6⟩
  · intro p e s m args below meth c s₁ B hml hP _
    have hh0 : s₁.heap = s.heap := by rw [B.state]; rfl
    obtain ⟨t, a1, o, b1, b2, b3⟩ := body p e s m args below meth c s₁ B hml hP s₁ hh0 (Stand.of_body B)
    exact ⟨t, o, a1, b1, b2, b3⟩
/-! ===== END ===== -/
end
section
/-! ===== BEGIN printed: names, fields, word lists, decode rows ===== -/
def RX0 : String := "IcePad$Aircraft"
def TX0 : u_T := fun k => match k with
  | 0 => ("IcePad$Aircraft", "span", "I", true)
  | 1 => ("IcePad$Aircraft", "slot", "I", true)
  | 2 => ("IcePad$Aircraft", "duty", "I", true)
  | 3 => ("IcePad$Aircraft", "state", "I", false)
  | 4 => ("IcePad$Aircraft", "leftMinute", "I", false)
  | 5 => ("IcePad$Aircraft", "treatments", "I", false)
  | 6 => ("IcePad$Aircraft", "litresOn", "I", false)
  | 7 => ("IcePad$Aircraft", "pad", "I", false)
  | 8 => ("IcePad$Aircraft", "fluid", "I", false)
  | 9 => ("IcePad$Aircraft", "strength", "I", false)
  | 10 => ("IcePad$Aircraft", "clockBegan", "I", false)
  | _ => ("IcePad$Aircraft", "cleanMinute", "I", false)
def tyX0 : Nat → FieldType := fun k => match k with
  | 0 => .int
  | 1 => .int
  | 2 => .int
  | 3 => .int
  | 4 => .int
  | 5 => .int
  | 6 => .int
  | 7 => .int
  | 8 => .int
  | 9 => .int
  | 10 => .int
  | _ => .int
abbrev wsX00 : List Cond := u_ws RX0 TX0 12
theorem nmX0 : ∀ a, a < 12 → ∀ b, b < 12 → a ≠ b → (TX0 a).2.1 ≠ (TX0 b).2.1 := by decide +kernel
theorem tyX0_ok : ∀ k, k < 12 → parseFieldDescriptor (TX0 k).2.2.1 = some (tyX0 k) := by decide +kernel
abbrev cX0_init : ByteArray := prog_2_method_1_code
def yX0_init : MethodName := ⟨RX0, "<init>", "(III)V"⟩
abbrev cX0_isOver : ByteArray := prog_2_method_2_code
def yX0_isOver : MethodName := ⟨RX0, "isOver", "()Z"⟩
abbrev cX0_beginTreatment : ByteArray := prog_2_method_3_code
def yX0_beginTreatment : MethodName := ⟨RX0, "beginTreatment", "(III)I"⟩
def RX1 : String := "IcePad$Basin"
def TX1 : u_T := fun k => match k with
  | 0 => ("IcePad$Basin", "litres", "I", false)
  | 1 => ("IcePad$Basin", "cleaned", "I", false)
  | 2 => ("IcePad$Basin", "river", "I", false)
  | 3 => ("IcePad$Basin", "permitADay", "I", false)
  | 4 => ("IcePad$Basin", "riverDay", "I", false)
  | _ => ("IcePad$Basin", "riverThatDay", "I", false)
def tyX1 : Nat → FieldType := fun k => match k with
  | 0 => .int
  | 1 => .int
  | 2 => .int
  | 3 => .int
  | 4 => .int
  | _ => .int
abbrev wsX10 : List Cond := u_ws RX1 TX1 6
theorem nmX1 : ∀ a, a < 6 → ∀ b, b < 6 → a ≠ b → (TX1 a).2.1 ≠ (TX1 b).2.1 := by decide +kernel
theorem tyX1_ok : ∀ k, k < 6 → parseFieldDescriptor (TX1 k).2.2.1 = some (tyX1 k) := by decide +kernel
abbrev cX1_init : ByteArray := prog_3_method_1_code
def yX1_init : MethodName := ⟨RX1, "<init>", "()V"⟩
abbrev cX1_riverOn : ByteArray := prog_3_method_2_code
def yX1_riverOn : MethodName := ⟨RX1, "riverOn", "(I)I"⟩
abbrev cX1_cleanMinute : ByteArray := prog_3_method_3_code
def yX1_cleanMinute : MethodName := ⟨RX1, "cleanMinute", "()V"⟩
def RX2 : String := "IcePad$Fluids"
def TX2 : u_T := fun k => match k with
  | 0 => ("IcePad$Fluids", "tanks", "[I", true)
  | 1 => ("IcePad$Fluids", "minutes", "[[I", true)
  | _ => ("IcePad$Fluids", "supplied", "I", false)
def tyX2 : Nat → FieldType := fun k => match k with
  | 0 => .array .int
  | 1 => .array (.array .int)
  | _ => .int
abbrev wsX20 : List Cond := u_ws RX2 TX2 3
theorem nmX2 : ∀ a, a < 3 → ∀ b, b < 3 → a ≠ b → (TX2 a).2.1 ≠ (TX2 b).2.1 := by decide +kernel
theorem tyX2_ok : ∀ k, k < 3 → parseFieldDescriptor (TX2 k).2.2.1 = some (tyX2 k) := by decide +kernel
abbrev cX2_init : ByteArray := prog_4_method_1_code
def yX2_init : MethodName := ⟨RX2, "<init>", "()V"⟩
abbrev cX2_inTanks : ByteArray := prog_4_method_2_code
def yX2_inTanks : MethodName := ⟨RX2, "inTanks", "()I"⟩
abbrev cX2_holdsFor : ByteArray := prog_4_method_3_code
def yX2_holdsFor : MethodName := ⟨RX2, "holdsFor", "(IILIcePad$Weather;)D"⟩
def RX3 : String := "IcePad$Runway"
def TX3 : u_T := fun k => match k with
  | 0 => ("IcePad$Runway", "thirds", "[LIcePad$Third;", true)
  | 1 => ("IcePad$Runway", "closedUpTo", "I", false)
  | 2 => ("IcePad$Runway", "ploughs", "I", false)
  | _ => ("IcePad$Runway", "heap", "I", false)
def tyX3 : Nat → FieldType := fun k => match k with
  | 0 => .array (.object "IcePad$Third")
  | 1 => .int
  | 2 => .int
  | _ => .int
abbrev wsX30 : List Cond := u_ws RX3 TX3 4
theorem nmX3 : ∀ a, a < 4 → ∀ b, b < 4 → a ≠ b → (TX3 a).2.1 ≠ (TX3 b).2.1 := by decide +kernel
theorem tyX3_ok : ∀ k, k < 4 → parseFieldDescriptor (TX3 k).2.2.1 = some (tyX3 k) := by decide +kernel
abbrev cX3_init : ByteArray := prog_5_method_1_code
def yX3_init : MethodName := ⟨RX3, "<init>", "()V"⟩
abbrev cX3_isClosedAt : ByteArray := prog_5_method_2_code
def yX3_isClosedAt : MethodName := ⟨RX3, "isClosedAt", "(I)Z"⟩
abbrev cX3_codesSufficeAt : ByteArray := prog_5_method_3_code
def yX3_codesSufficeAt : MethodName := ⟨RX3, "codesSufficeAt", "(ILIcePad$Weather;)Z"⟩
abbrev cX3_isUsableAt : ByteArray := prog_5_method_4_code
def yX3_isUsableAt : MethodName := ⟨RX3, "isUsableAt", "(ILIcePad$Weather;)Z"⟩
abbrev cX3_liveMinute : ByteArray := prog_5_method_5_code
def yX3_liveMinute : MethodName := ⟨RX3, "liveMinute", "(ILIcePad$Weather;)V"⟩
abbrev cX3_plough : ByteArray := prog_5_method_6_code
def yX3_plough : MethodName := ⟨RX3, "plough", "()V"⟩
def RX4 : String := "IcePad$Third"
def TX4 : u_T := fun k => match k with
  | 0 => ("IcePad$Third", "cover", "I", false)
  | 1 => ("IcePad$Third", "depth", "I", false)
  | 2 => ("IcePad$Third", "sprayedUpTo", "I", false)
  | 3 => ("IcePad$Third", "reportMinute", "I", false)
  | _ => ("IcePad$Third", "reportCode", "I", false)
def tyX4 : Nat → FieldType := fun k => match k with
  | 0 => .int
  | 1 => .int
  | 2 => .int
  | 3 => .int
  | _ => .int
abbrev wsX40 : List Cond := u_ws RX4 TX4 5
theorem nmX4 : ∀ a, a < 5 → ∀ b, b < 5 → a ≠ b → (TX4 a).2.1 ≠ (TX4 b).2.1 := by decide +kernel
theorem tyX4_ok : ∀ k, k < 5 → parseFieldDescriptor (TX4 k).2.2.1 = some (tyX4 k) := by decide +kernel
abbrev cX4_init : ByteArray := prog_6_method_1_code
def yX4_init : MethodName := ⟨RX4, "<init>", "()V"⟩
abbrev cX4_isSprayedAt : ByteArray := prog_6_method_2_code
def yX4_isSprayedAt : MethodName := ⟨RX4, "isSprayedAt", "(I)Z"⟩
abbrev cX4_codeOfWhatLies : ByteArray := prog_6_method_3_code
def yX4_codeOfWhatLies : MethodName := ⟨RX4, "codeOfWhatLies", "(LIcePad$Weather;)I"⟩
abbrev cX4_codeAt : ByteArray := prog_6_method_4_code
def yX4_codeAt : MethodName := ⟨RX4, "codeAt", "(ILIcePad$Weather;)I"⟩
abbrev cX4_liveMinute : ByteArray := prog_6_method_5_code
def yX4_liveMinute : MethodName := ⟨RX4, "liveMinute", "(ILIcePad$Weather;)V"⟩
abbrev cX4_snowOn : ByteArray := prog_6_method_6_code
def yX4_snowOn : MethodName := ⟨RX4, "snowOn", "(I)V"⟩
abbrev cX4_rainOn : ByteArray := prog_6_method_7_code
def yX4_rainOn : MethodName := ⟨RX4, "rainOn", "(IZ)V"⟩
abbrev cX4_iceOver : ByteArray := prog_6_method_8_code
def yX4_iceOver : MethodName := ⟨RX4, "iceOver", "()V"⟩
abbrev cX4_melt : ByteArray := prog_6_method_9_code
def yX4_melt : MethodName := ⟨RX4, "melt", "()V"⟩
abbrev cX4_addDepth : ByteArray := prog_6_method_10_code
def yX4_addDepth : MethodName := ⟨RX4, "addDepth", "(I)V"⟩
abbrev cX4_ploughUpTo : ByteArray := prog_6_method_11_code
def yX4_ploughUpTo : MethodName := ⟨RX4, "ploughUpTo", "(I)I"⟩
abbrev cX4_wetIfBare : ByteArray := prog_6_method_12_code
def yX4_wetIfBare : MethodName := ⟨RX4, "wetIfBare", "()V"⟩
def RX5 : String := "IcePad$Weather"
def TX5 : u_T := fun k => match k with
  | 0 => ("IcePad$Weather", "temperature", "I", false)
  | 1 => ("IcePad$Weather", "fall", "I", false)
  | 2 => ("IcePad$Weather", "rate", "I", false)
  | _ => ("IcePad$Weather", "wind", "I", false)
def tyX5 : Nat → FieldType := fun k => match k with
  | 0 => .int
  | 1 => .int
  | 2 => .int
  | _ => .int
abbrev wsX50 : List Cond := u_ws RX5 TX5 4
theorem nmX5 : ∀ a, a < 4 → ∀ b, b < 4 → a ≠ b → (TX5 a).2.1 ≠ (TX5 b).2.1 := by decide +kernel
theorem tyX5_ok : ∀ k, k < 4 → parseFieldDescriptor (TX5 k).2.2.1 = some (tyX5 k) := by decide +kernel
abbrev cX5_init : ByteArray := prog_7_method_1_code
def yX5_init : MethodName := ⟨RX5, "<init>", "()V"⟩
abbrev cX5_codeNeeded : ByteArray := prog_7_method_2_code
def yX5_codeNeeded : MethodName := ⟨RX5, "codeNeeded", "()I"⟩
abbrev cX5_holdFactor : ByteArray := prog_7_method_3_code
def yX5_holdFactor : MethodName := ⟨RX5, "holdFactor", "()D"⟩
def RX6 : String := "IcePad"
def TX6 : u_T := fun k => match k with
  | 0 => ("IcePad", "sky", "LIcePad$Weather;", true)
  | 1 => ("IcePad", "runway", "LIcePad$Runway;", true)
  | 2 => ("IcePad", "fluids", "LIcePad$Fluids;", true)
  | 3 => ("IcePad", "basin", "LIcePad$Basin;", true)
  | 4 => ("IcePad", "fleet", "[LIcePad$Aircraft;", true)
  | 5 => ("IcePad", "fleetSize", "I", false)
  | _ => ("IcePad", "minute", "I", false)
def tyX6 : Nat → FieldType := fun k => match k with
  | 0 => .object "IcePad$Weather"
  | 1 => .object "IcePad$Runway"
  | 2 => .object "IcePad$Fluids"
  | 3 => .object "IcePad$Basin"
  | 4 => .array (.object "IcePad$Aircraft")
  | 5 => .int
  | _ => .int
abbrev wsX60 : List Cond := u_ws RX6 TX6 7
theorem nmX6 : ∀ a, a < 7 → ∀ b, b < 7 → a ≠ b → (TX6 a).2.1 ≠ (TX6 b).2.1 := by decide +kernel
theorem tyX6_ok : ∀ k, k < 7 → parseFieldDescriptor (TX6 k).2.2.1 = some (tyX6 k) := by decide +kernel
abbrev cX6_init : ByteArray := prog_1_method_1_code
def yX6_init : MethodName := ⟨RX6, "<init>", "()V"⟩
abbrev cX6_weather : ByteArray := prog_1_method_2_code
def yX6_weather : MethodName := ⟨RX6, "weather", "(IIII)V"⟩
abbrev cX6_spray : ByteArray := prog_1_method_3_code
def yX6_spray : MethodName := ⟨RX6, "spray", "(I)I"⟩
abbrev cX6_close : ByteArray := prog_1_method_4_code
def yX6_close : MethodName := ⟨RX6, "close", "(II)I"⟩
abbrev cX6_pilot : ByteArray := prog_1_method_5_code
def yX6_pilot : MethodName := ⟨RX6, "pilot", "(II)I"⟩
abbrev cX6_supply : ByteArray := prog_1_method_6_code
def yX6_supply : MethodName := ⟨RX6, "supply", "(II)I"⟩
abbrev cX6_table : ByteArray := prog_1_method_7_code
def yX6_table : MethodName := ⟨RX6, "table", "(III)I"⟩
abbrev cX6_aircraft : ByteArray := prog_1_method_8_code
def yX6_aircraft : MethodName := ⟨RX6, "aircraft", "(III)I"⟩
abbrev cX6_treat : ByteArray := prog_1_method_9_code
def yX6_treat : MethodName := ⟨RX6, "treat", "(IIIII)I"⟩
abbrev cX6_cancel : ByteArray := prog_1_method_10_code
def yX6_cancel : MethodName := ⟨RX6, "cancel", "(I)I"⟩
abbrev cX6_permit : ByteArray := prog_1_method_11_code
def yX6_permit : MethodName := ⟨RX6, "permit", "(I)I"⟩
abbrev cX6_release : ByteArray := prog_1_method_12_code
def yX6_release : MethodName := ⟨RX6, "release", "(I)I"⟩
abbrev cX6_pass : ByteArray := prog_1_method_13_code
def yX6_pass : MethodName := ⟨RX6, "pass", "(I)I"⟩
abbrev cX6_code : ByteArray := prog_1_method_14_code
def yX6_code : MethodName := ⟨RX6, "code", "(I)I"⟩
abbrev cX6_thirdOf : ByteArray := prog_1_method_15_code
def yX6_thirdOf : MethodName := ⟨RX6, "thirdOf", "(II)I"⟩
abbrev cX6_isGood : ByteArray := prog_1_method_16_code
def yX6_isGood : MethodName := ⟨RX6, "isGood", "()Z"⟩
abbrev cX6_aircraftOf : ByteArray := prog_1_method_17_code
def yX6_aircraftOf : MethodName := ⟨RX6, "aircraftOf", "(II)I"⟩
abbrev cX6_clock : ByteArray := prog_1_method_18_code
def yX6_clock : MethodName := ⟨RX6, "clock", "(I)D"⟩
abbrev cX6_whyNot : ByteArray := prog_1_method_19_code
def yX6_whyNot : MethodName := ⟨RX6, "whyNot", "(I)I"⟩
abbrev cX6_queue : ByteArray := prog_1_method_20_code
def yX6_queue : MethodName := ⟨RX6, "queue", "(I)I"⟩
abbrev cX6_sum : ByteArray := prog_1_method_21_code
def yX6_sum : MethodName := ⟨RX6, "sum", "(I)I"⟩
abbrev cX6_liveMinute : ByteArray := prog_1_method_22_code
def yX6_liveMinute : MethodName := ⟨RX6, "liveMinute", "()V"⟩
abbrev cX6_endTreatments : ByteArray := prog_1_method_23_code
def yX6_endTreatments : MethodName := ⟨RX6, "endTreatments", "()V"⟩
abbrev cX6_cancelBehindDuty : ByteArray := prog_1_method_24_code
def yX6_cancelBehindDuty : MethodName := ⟨RX6, "cancelBehindDuty", "()V"⟩
abbrev cX6_sendBackWithoutClock : ByteArray := prog_1_method_25_code
def yX6_sendBackWithoutClock : MethodName := ⟨RX6, "sendBackWithoutClock", "()V"⟩
abbrev cX6_letOneLeave : ByteArray := prog_1_method_26_code
def yX6_letOneLeave : MethodName := ⟨RX6, "letOneLeave", "()V"⟩
abbrev cX6_padIsFree : ByteArray := prog_1_method_27_code
def yX6_padIsFree : MethodName := ⟨RX6, "padIsFree", "(I)Z"⟩
abbrev cX6_placeInQueue : ByteArray := prog_1_method_28_code
def yX6_placeInQueue : MethodName := ⟨RX6, "placeInQueue", "(I)I"⟩
abbrev cX6_goesAhead : ByteArray := prog_1_method_29_code
def yX6_goesAhead : MethodName := ⟨RX6, "goesAhead", "(II)Z"⟩
abbrev cX6_clockLeft : ByteArray := prog_1_method_30_code
def yX6_clockLeft : MethodName := ⟨RX6, "clockLeft", "(LIcePad$Aircraft;)D"⟩
abbrev cX6_litresOnFleet : ByteArray := prog_1_method_31_code
def yX6_litresOnFleet : MethodName := ⟨RX6, "litresOnFleet", "()I"⟩
abbrev cX6_requireIndex : ByteArray := prog_1_method_32_code
def yX6_requireIndex : MethodName := ⟨RX6, "requireIndex", "(II)V"⟩
abbrev cX6_requireRange : ByteArray := prog_1_method_33_code
def yX6_requireRange : MethodName := ⟨RX6, "requireRange", "(III)V"⟩
abbrev cX6_requireStrength : ByteArray := prog_1_method_34_code
def yX6_requireStrength : MethodName := ⟨RX6, "requireStrength", "(I)V"⟩
abbrev cX6_requirePossible : ByteArray := prog_1_method_35_code
def yX6_requirePossible : MethodName := ⟨RX6, "requirePossible", "(Z)V"⟩
def RX7 : String := "IcePadModel"
def TX7 : u_T := fun k => match k with
  | 0 => ("IcePadModel", "thrown", "I", false)
  | 1 => ("IcePadModel", "now", "I", false)
  | 2 => ("IcePadModel", "temperature", "I", false)
  | 3 => ("IcePadModel", "fall", "I", false)
  | 4 => ("IcePadModel", "rate", "I", false)
  | 5 => ("IcePadModel", "wind", "I", false)
  | 6 => ("IcePadModel", "covers", "[I", true)
  | 7 => ("IcePadModel", "depths", "[I", true)
  | 8 => ("IcePadModel", "sprayedTo", "[I", true)
  | 9 => ("IcePadModel", "reported", "[I", true)
  | 10 => ("IcePadModel", "reportedAt", "[I", true)
  | 11 => ("IcePadModel", "closedTo", "I", false)
  | 12 => ("IcePadModel", "ploughs", "I", false)
  | 13 => ("IcePadModel", "tanks", "[I", true)
  | 14 => ("IcePadModel", "tables", "[I", true)
  | 15 => ("IcePadModel", "many", "I", false)
  | 16 => ("IcePadModel", "spans", "[I", true)
  | 17 => ("IcePadModel", "slots", "[I", true)
  | 18 => ("IcePadModel", "duties", "[I", true)
  | 19 => ("IcePadModel", "states", "[I", true)
  | 20 => ("IcePadModel", "leftAt", "[I", true)
  | 21 => ("IcePadModel", "treatments", "[I", true)
  | 22 => ("IcePadModel", "litresOn", "[I", true)
  | 23 => ("IcePadModel", "padOf", "[I", true)
  | 24 => ("IcePadModel", "cleanAt", "[I", true)
  | 25 => ("IcePadModel", "begun", "[I", true)
  | 26 => ("IcePadModel", "fluidOf", "[I", true)
  | 27 => ("IcePadModel", "strengthOf", "[I", true)
  | 28 => ("IcePadModel", "supplied", "I", false)
  | 29 => ("IcePadModel", "basin", "I", false)
  | 30 => ("IcePadModel", "cleaned", "I", false)
  | 31 => ("IcePadModel", "released", "I", false)
  | 32 => ("IcePadModel", "releasedToday", "I", false)
  | 33 => ("IcePadModel", "permitNow", "I", false)
  | _ => ("IcePadModel", "heap", "I", false)
def tyX7 : Nat → FieldType := fun k => match k with
  | 0 => .int
  | 1 => .int
  | 2 => .int
  | 3 => .int
  | 4 => .int
  | 5 => .int
  | 6 => .array .int
  | 7 => .array .int
  | 8 => .array .int
  | 9 => .array .int
  | 10 => .array .int
  | 11 => .int
  | 12 => .int
  | 13 => .array .int
  | 14 => .array .int
  | 15 => .int
  | 16 => .array .int
  | 17 => .array .int
  | 18 => .array .int
  | 19 => .array .int
  | 20 => .array .int
  | 21 => .array .int
  | 22 => .array .int
  | 23 => .array .int
  | 24 => .array .int
  | 25 => .array .int
  | 26 => .array .int
  | 27 => .array .int
  | 28 => .int
  | 29 => .int
  | 30 => .int
  | 31 => .int
  | 32 => .int
  | 33 => .int
  | _ => .int
abbrev wsX70 : List Cond := u_ws RX7 TX7 35
theorem nmX7 : ∀ a, a < 35 → ∀ b, b < 35 → a ≠ b → (TX7 a).2.1 ≠ (TX7 b).2.1 := by decide +kernel
theorem tyX7_ok : ∀ k, k < 35 → parseFieldDescriptor (TX7 k).2.2.1 = some (tyX7 k) := by decide +kernel
abbrev cX7_init : ByteArray := prog_9_method_1_code
def yX7_init : MethodName := ⟨RX7, "<init>", "()V"⟩
abbrev cX7_thrown : ByteArray := prog_9_method_2_code
def yX7_thrown : MethodName := ⟨RX7, "thrown", "()I"⟩
abbrev cX7_in : ByteArray := prog_9_method_3_code
def yX7_in : MethodName := ⟨RX7, "in", "(III)Z"⟩
abbrev cX7_isThird : ByteArray := prog_9_method_4_code
def yX7_isThird : MethodName := ⟨RX7, "isThird", "(I)Z"⟩
abbrev cX7_isFluid : ByteArray := prog_9_method_5_code
def yX7_isFluid : MethodName := ⟨RX7, "isFluid", "(I)Z"⟩
abbrev cX7_isAircraft : ByteArray := prog_9_method_6_code
def yX7_isAircraft : MethodName := ⟨RX7, "isAircraft", "(I)Z"⟩
abbrev cX7_weather : ByteArray := prog_9_method_7_code
def yX7_weather : MethodName := ⟨RX7, "weather", "(IIII)V"⟩
abbrev cX7_spray : ByteArray := prog_9_method_8_code
def yX7_spray : MethodName := ⟨RX7, "spray", "(I)I"⟩
abbrev cX7_isSprayed : ByteArray := prog_9_method_9_code
def yX7_isSprayed : MethodName := ⟨RX7, "isSprayed", "(I)Z"⟩
abbrev cX7_close : ByteArray := prog_9_method_10_code
def yX7_close : MethodName := ⟨RX7, "close", "(II)I"⟩
abbrev cX7_isClosed : ByteArray := prog_9_method_11_code
def yX7_isClosed : MethodName := ⟨RX7, "isClosed", "()Z"⟩
abbrev cX7_lies : ByteArray := prog_9_method_12_code
def yX7_lies : MethodName := ⟨RX7, "lies", "(I)I"⟩
abbrev cX7_codeOf : ByteArray := prog_9_method_13_code
def yX7_codeOf : MethodName := ⟨RX7, "codeOf", "(I)I"⟩
abbrev cX7_pilot : ByteArray := prog_9_method_14_code
def yX7_pilot : MethodName := ⟨RX7, "pilot", "(II)I"⟩
abbrev cX7_areEnough : ByteArray := prog_9_method_15_code
def yX7_areEnough : MethodName := ⟨RX7, "areEnough", "()Z"⟩
abbrev cX7_supply : ByteArray := prog_9_method_16_code
def yX7_supply : MethodName := ⟨RX7, "supply", "(II)I"⟩
abbrev cX7_table : ByteArray := prog_9_method_17_code
def yX7_table : MethodName := ⟨RX7, "table", "(III)I"⟩
abbrev cX7_aircraft : ByteArray := prog_9_method_18_code
def yX7_aircraft : MethodName := ⟨RX7, "aircraft", "(III)I"⟩
abbrev cX7_isFree : ByteArray := prog_9_method_19_code
def yX7_isFree : MethodName := ⟨RX7, "isFree", "(I)Z"⟩
abbrev cX7_treat : ByteArray := prog_9_method_20_code
def yX7_treat : MethodName := ⟨RX7, "treat", "(IIIII)I"⟩
abbrev cX7_cancel : ByteArray := prog_9_method_21_code
def yX7_cancel : MethodName := ⟨RX7, "cancel", "(I)I"⟩
abbrev cX7_cancels : ByteArray := prog_9_method_22_code
def yX7_cancels : MethodName := ⟨RX7, "cancels", "(I)V"⟩
abbrev cX7_permit : ByteArray := prog_9_method_23_code
def yX7_permit : MethodName := ⟨RX7, "permit", "(I)I"⟩
abbrev cX7_release : ByteArray := prog_9_method_24_code
def yX7_release : MethodName := ⟨RX7, "release", "(I)I"⟩
abbrev cX7_falls : ByteArray := prog_9_method_25_code
def yX7_falls : MethodName := ⟨RX7, "falls", "(I)V"⟩
abbrev cX7_ploughs : ByteArray := prog_9_method_26_code
def yX7_ploughs : MethodName := ⟨RX7, "ploughs", "()V"⟩
abbrev cX7_clockOf : ByteArray := prog_9_method_27_code
def yX7_clockOf : MethodName := ⟨RX7, "clockOf", "(I)D"⟩
abbrev cX7_goesOn : ByteArray := prog_9_method_28_code
def yX7_goesOn : MethodName := ⟨RX7, "goesOn", "(I)V"⟩
abbrev cX7_nextAfter : ByteArray := prog_9_method_29_code
def yX7_nextAfter : MethodName := ⟨RX7, "nextAfter", "(I)I"⟩
abbrev cX7_leaves : ByteArray := prog_9_method_30_code
def yX7_leaves : MethodName := ⟨RX7, "leaves", "()V"⟩
abbrev cX7_minute : ByteArray := prog_9_method_31_code
def yX7_minute : MethodName := ⟨RX7, "minute", "()V"⟩
abbrev cX7_pass : ByteArray := prog_9_method_32_code
def yX7_pass : MethodName := ⟨RX7, "pass", "(I)I"⟩
abbrev cX7_code : ByteArray := prog_9_method_33_code
def yX7_code : MethodName := ⟨RX7, "code", "(I)I"⟩
abbrev cX7_thirdOf : ByteArray := prog_9_method_34_code
def yX7_thirdOf : MethodName := ⟨RX7, "thirdOf", "(II)I"⟩
abbrev cX7_isGood : ByteArray := prog_9_method_35_code
def yX7_isGood : MethodName := ⟨RX7, "isGood", "()Z"⟩
abbrev cX7_aircraftOf : ByteArray := prog_9_method_36_code
def yX7_aircraftOf : MethodName := ⟨RX7, "aircraftOf", "(II)I"⟩
abbrev cX7_clock : ByteArray := prog_9_method_37_code
def yX7_clock : MethodName := ⟨RX7, "clock", "(I)D"⟩
abbrev cX7_whyNot : ByteArray := prog_9_method_38_code
def yX7_whyNot : MethodName := ⟨RX7, "whyNot", "(I)I"⟩
abbrev cX7_queue : ByteArray := prog_9_method_39_code
def yX7_queue : MethodName := ⟨RX7, "queue", "(I)I"⟩
abbrev cX7_sum : ByteArray := prog_9_method_40_code
def yX7_sum : MethodName := ⟨RX7, "sum", "(I)I"⟩
def RJ9 : String := "java/lang/Math"
def TJ9 : u_T := fun k => match k with
  | _ => ("", "", "", false)
def tyJ9 : Nat → FieldType := fun k => match k with
  | _ => .int
abbrev wsJ90 : List Cond := u_ws RJ9 TJ9 0
theorem nmJ9 : ∀ a, a < 0 → ∀ b, b < 0 → a ≠ b → (TJ9 a).2.1 ≠ (TJ9 b).2.1 := by decide +kernel
theorem tyJ9_ok : ∀ k, k < 0 → parseFieldDescriptor (TJ9 k).2.2.1 = some (tyJ9 k) := by decide +kernel
abbrev cJ9_max_7cf53 : ByteArray := prog_14_method_65_code
def yJ9_max_7cf53 : MethodName := ⟨RJ9, "max", "(II)I"⟩
abbrev cJ9_min_7cf53 : ByteArray := prog_14_method_69_code
def yJ9_min_7cf53 : MethodName := ⟨RJ9, "min", "(II)I"⟩
def RJ0 : String := "java/lang/String"
def TJ0 : u_T := fun k => match k with
  | _ => ("", "", "", false)
def tyJ0 : Nat → FieldType := fun k => match k with
  | _ => .int
abbrev wsJ00 : List Cond := u_ws RJ0 TJ0 0
theorem nmJ0 : ∀ a, a < 0 → ∀ b, b < 0 → a ≠ b → (TJ0 a).2.1 ≠ (TJ0 b).2.1 := by decide +kernel
theorem tyJ0_ok : ∀ k, k < 0 → parseFieldDescriptor (TJ0 k).2.2.1 = some (tyJ0 k) := by decide +kernel
def RL : String := "IcePadLaw"
abbrev cL_weather : ByteArray := method_3_code
def yL_weather : MethodName := ⟨RL, "weather", "(LIcePad;IIII)I"⟩
abbrev cL_spray : ByteArray := method_4_code
def yL_spray : MethodName := ⟨RL, "spray", "(LIcePad;I[J)I"⟩
abbrev cL_close : ByteArray := method_5_code
def yL_close : MethodName := ⟨RL, "close", "(LIcePad;II[J)I"⟩
abbrev cL_pilot : ByteArray := method_6_code
def yL_pilot : MethodName := ⟨RL, "pilot", "(LIcePad;II[J)I"⟩
abbrev cL_supply : ByteArray := method_7_code
def yL_supply : MethodName := ⟨RL, "supply", "(LIcePad;II[J)I"⟩
abbrev cL_table : ByteArray := method_8_code
def yL_table : MethodName := ⟨RL, "table", "(LIcePad;III[J)I"⟩
abbrev cL_aircraft : ByteArray := method_9_code
def yL_aircraft : MethodName := ⟨RL, "aircraft", "(LIcePad;III[J)I"⟩
abbrev cL_treat : ByteArray := method_10_code
def yL_treat : MethodName := ⟨RL, "treat", "(LIcePad;IIIII[J)I"⟩
abbrev cL_cancel : ByteArray := method_11_code
def yL_cancel : MethodName := ⟨RL, "cancel", "(LIcePad;I[J)I"⟩
abbrev cL_permit : ByteArray := method_12_code
def yL_permit : MethodName := ⟨RL, "permit", "(LIcePad;I[J)I"⟩
abbrev cL_release : ByteArray := method_13_code
def yL_release : MethodName := ⟨RL, "release", "(LIcePad;I[J)I"⟩
abbrev cL_pass : ByteArray := method_14_code
def yL_pass : MethodName := ⟨RL, "pass", "(LIcePad;I[J)I"⟩
abbrev cL_code : ByteArray := method_15_code
def yL_code : MethodName := ⟨RL, "code", "(LIcePad;I[J)I"⟩
abbrev cL_thirdOf : ByteArray := method_16_code
def yL_thirdOf : MethodName := ⟨RL, "thirdOf", "(LIcePad;II[J)I"⟩
abbrev cL_aircraftOf : ByteArray := method_17_code
def yL_aircraftOf : MethodName := ⟨RL, "aircraftOf", "(LIcePad;II[J)I"⟩
abbrev cL_clock : ByteArray := method_18_code
def yL_clock : MethodName := ⟨RL, "clock", "(LIcePad;I[D)I"⟩
abbrev cL_whyNot : ByteArray := method_19_code
def yL_whyNot : MethodName := ⟨RL, "whyNot", "(LIcePad;I[J)I"⟩
abbrev cL_queue : ByteArray := method_20_code
def yL_queue : MethodName := ⟨RL, "queue", "(LIcePad;I[J)I"⟩
abbrev cL_sum : ByteArray := method_21_code
def yL_sum : MethodName := ⟨RL, "sum", "(LIcePad;I[J)I"⟩
abbrev cL_law : ByteArray := code
def yL_law : MethodName := ⟨RL, "law", "([I)Z"⟩
def wsL_law0_r1 : List Cond := [Cond.classLink RL 8 RX6, Cond.instantiable RX6 7, Cond.initialized RX6, Cond.classLink RL 79 RX7, Cond.instantiable RX7 35, Cond.initialized RX7, Cond.arrayClass .long, Cond.arrayClass .double, Cond.methodLink RL 78 yX6_init, Cond.instanceMethod yX6_init, Cond.code yX6_init cX6_init 1 none, Cond.methodLink RX6 1 objectInit, Cond.instanceMethod objectInit, Cond.code objectInit ⟨#[0xb1]⟩ 1 none, Cond.classLink RX6 7 RX5, Cond.instantiable RX5 4, Cond.initialized RX5, Cond.fieldLink RX6 10 "IcePad" "sky" "LIcePad$Weather;", Cond.classLink RX6 16 RX3, Cond.instantiable RX3 4, Cond.initialized RX3, Cond.fieldLink RX6 19 "IcePad" "runway" "LIcePad$Runway;", Cond.classLink RX6 23 RX2, Cond.instantiable RX2 3]
def wsL_law0_r2 : List Cond := [Cond.initialized RX2, Cond.fieldLink RX6 26 "IcePad" "fluids" "LIcePad$Fluids;", Cond.classLink RX6 30 RX1, Cond.instantiable RX1 6, Cond.initialized RX1, Cond.fieldLink RX6 33 "IcePad" "basin" "LIcePad$Basin;", Cond.classLink RX6 37 RX0, Cond.fieldLink RX6 39 "IcePad" "fleet" "[LIcePad$Aircraft;", Cond.instanceMethod yX5_init, Cond.code yX5_init cX5_init 1 none, Cond.methodLink RX5 1 objectInit, Cond.methodLink RX6 18 yX3_init, Cond.instanceMethod yX3_init, Cond.code yX3_init cX3_init 2 none, Cond.methodLink RX3 3 objectInit, Cond.fieldLink RX3 9 "IcePad$Runway" "closedUpTo" "I", Cond.classLink RX3 15 RX4, Cond.fieldLink RX3 17 "IcePad$Runway" "thirds" "[LIcePad$Third;", Cond.instantiable RX4 5, Cond.initialized RX4, Cond.instanceMethod yX4_init, Cond.code yX4_init cX4_init 1 none, Cond.methodLink RX4 3 objectInit, Cond.fieldLink RX4 9 "IcePad$Third" "cover" "I"]
def wsL_law0_r3 : List Cond := [Cond.fieldLink RX4 15 "IcePad$Third" "sprayedUpTo" "I", Cond.fieldLink RX4 18 "IcePad$Third" "reportMinute" "I", Cond.methodLink RX6 25 yX2_init, Cond.instanceMethod yX2_init, Cond.code yX2_init cX2_init 3 none, Cond.methodLink RX2 3 objectInit, Cond.arrayClass .int, Cond.fieldLink RX2 9 "IcePad$Fluids" "tanks" "[I", Cond.classLink RX2 15 "[[I", Cond.fieldLink RX2 17 "IcePad$Fluids" "minutes" "[[I", Cond.methodLink RX2 20 Lib.Math.max.name, Cond.static Lib.Math.max.name, Cond.initialized "java/lang/Math", Cond.code Lib.Math.max.name Lib.Math.max.code 2 (some .int), Cond.instanceMethod yX1_init, Cond.code yX1_init cX1_init 1 none, Cond.methodLink RX1 3 objectInit, Cond.fieldLink RX1 9 "IcePad$Basin" "permitADay" "I", Cond.methodLink RL 81 yX7_init, Cond.instanceMethod yX7_init, Cond.code yX7_init cX7_init 3 none, Cond.methodLink RX7 1 objectInit, Cond.fieldLink RX7 7 "IcePadModel" "covers" "[I", Cond.fieldLink RX7 13 "IcePadModel" "depths" "[I"]
def wsL_law0_r4 : List Cond := [Cond.fieldLink RX7 16 "IcePadModel" "sprayedTo" "[I", Cond.fieldLink RX7 19 "IcePadModel" "reported" "[I", Cond.fieldLink RX7 22 "IcePadModel" "reportedAt" "[I", Cond.fieldLink RX7 25 "IcePadModel" "closedTo" "I", Cond.fieldLink RX7 29 "IcePadModel" "tanks" "[I", Cond.fieldLink RX7 32 "IcePadModel" "tables" "[I", Cond.fieldLink RX7 35 "IcePadModel" "spans" "[I", Cond.fieldLink RX7 38 "IcePadModel" "slots" "[I", Cond.fieldLink RX7 41 "IcePadModel" "duties" "[I", Cond.fieldLink RX7 44 "IcePadModel" "states" "[I", Cond.fieldLink RX7 47 "IcePadModel" "leftAt" "[I", Cond.fieldLink RX7 50 "IcePadModel" "treatments" "[I", Cond.fieldLink RX7 53 "IcePadModel" "litresOn" "[I", Cond.fieldLink RX7 56 "IcePadModel" "padOf" "[I", Cond.fieldLink RX7 59 "IcePadModel" "cleanAt" "[I", Cond.fieldLink RX7 62 "IcePadModel" "begun" "[I", Cond.fieldLink RX7 65 "IcePadModel" "fluidOf" "[I", Cond.fieldLink RX7 68 "IcePadModel" "strengthOf" "[I", Cond.fieldLink RX7 71 "IcePadModel" "permitNow" "I", Cond.methodLink RL 82 yL_weather, Cond.static yL_weather, Cond.initialized RL, Cond.codeWith yL_weather cL_weather 6 (some .int) [(0, 9, 12, 13)], Cond.classLink RL 13 "java/lang/IllegalArgumentException"]
def wsL_law0_r5 : List Cond := [Cond.methodLink RL 7 yX6_weather, Cond.instanceMethod yX6_weather, Cond.selects RX6 yX6_weather yX6_weather, Cond.code yX6_weather cX6_weather 5 none, Cond.fieldLink RX6 47 "IcePad$Weather" "temperature" "I", Cond.fieldLink RX6 51 "IcePad$Weather" "fall" "I", Cond.fieldLink RX6 54 "IcePad$Weather" "rate" "I", Cond.fieldLink RX6 57 "IcePad$Weather" "wind" "I", Cond.methodLink RX6 43 yX6_requireRange, Cond.static yX6_requireRange, Cond.code yX6_requireRange cX6_requireRange 3 none, Cond.classLink RX6 267 "java/lang/IllegalArgumentException", Cond.initialized "java/lang/IllegalArgumentException", Cond.methodLink RL 87 yX7_weather, Cond.instanceMethod yX7_weather, Cond.selects RX7 yX7_weather yX7_weather, Cond.code yX7_weather cX7_weather 5 none, Cond.fieldLink RX7 74 "IcePadModel" "thrown" "I", Cond.fieldLink RX7 84 "IcePadModel" "temperature" "I", Cond.fieldLink RX7 87 "IcePadModel" "fall" "I", Cond.fieldLink RX7 90 "IcePadModel" "rate" "I", Cond.fieldLink RX7 93 "IcePadModel" "wind" "I", Cond.methodLink RX7 77 yX7_in, Cond.static yX7_in]
def wsL_law0_r6 : List Cond := [Cond.code yX7_in cX7_in 3 (some .boolean), Cond.methodLink RL 88 yX7_thrown, Cond.instanceMethod yX7_thrown, Cond.selects RX7 yX7_thrown yX7_thrown, Cond.code yX7_thrown cX7_thrown 1 (some .int), Cond.methodLink RL 92 yL_spray, Cond.static yL_spray, Cond.codeWith yL_spray cL_spray 4 (some .int) [(0, 9, 12, 19)], Cond.classLink RL 19 "java/lang/IndexOutOfBoundsException", Cond.methodLink RL 15 yX6_spray, Cond.instanceMethod yX6_spray, Cond.selects RX6 yX6_spray yX6_spray, Cond.code yX6_spray cX6_spray 3 (some .int), Cond.fieldLink RX6 64 "IcePad" "minute" "I", Cond.fieldLink RX6 67 "IcePad$Runway" "thirds" "[LIcePad$Third;", Cond.fieldLink RX6 71 "IcePad$Third" "sprayedUpTo" "I", Cond.methodLink RX6 60 yX6_requireIndex, Cond.static yX6_requireIndex, Cond.code yX6_requireIndex cX6_requireIndex 2 none, Cond.classLink RX6 211 "java/lang/IndexOutOfBoundsException", Cond.initialized "java/lang/IndexOutOfBoundsException", Cond.methodLink RL 95 yX7_spray, Cond.instanceMethod yX7_spray, Cond.selects RX7 yX7_spray yX7_spray]
def wsL_law0_r7 : List Cond := [Cond.code yX7_spray cX7_spray 2 (some .int), Cond.fieldLink RX7 100 "IcePadModel" "now" "I", Cond.methodLink RX7 96 yX7_isThird, Cond.static yX7_isThird, Cond.code yX7_isThird cX7_isThird 1 (some .boolean), Cond.methodLink RL 96 yL_close, Cond.static yL_close, Cond.codeWith yL_close cL_close 5 (some .int) [(0, 10, 13, 13)], Cond.methodLink RL 21 yX6_close, Cond.instanceMethod yX6_close, Cond.selects RX6 yX6_close yX6_close, Cond.code yX6_close cX6_close 3 (some .int), Cond.fieldLink RX6 76 "IcePad$Runway" "closedUpTo" "I", Cond.fieldLink RX6 79 "IcePad$Runway" "ploughs" "I", Cond.methodLink RL 99 yX7_close, Cond.instanceMethod yX7_close, Cond.selects RX7 yX7_close yX7_close, Cond.code yX7_close cX7_close 3 (some .int), Cond.fieldLink RX7 103 "IcePadModel" "ploughs" "I", Cond.methodLink RL 100 yL_pilot, Cond.static yL_pilot, Cond.codeWith yL_pilot cL_pilot 5 (some .int) [(0, 10, 13, 19), (0, 10, 17, 13)], Cond.methodLink RL 25 yX6_pilot, Cond.instanceMethod yX6_pilot]
def wsL_law0_r8 : List Cond := [Cond.selects RX6 yX6_pilot yX6_pilot, Cond.code yX6_pilot cX6_pilot 4 (some .int), Cond.fieldLink RX6 82 "IcePad$Third" "reportMinute" "I", Cond.fieldLink RX6 85 "IcePad$Third" "reportCode" "I", Cond.methodLink RX6 88 yX4_codeAt, Cond.instanceMethod yX4_codeAt, Cond.selects RX4 yX4_codeAt yX4_codeAt, Cond.code yX4_codeAt cX4_codeAt 5 (some .int), Cond.fieldLink RX4 33 "IcePad$Third" "reportCode" "I", Cond.methodLink RX4 29 yX4_codeOfWhatLies, Cond.instanceMethod yX4_codeOfWhatLies, Cond.selects RX4 yX4_codeOfWhatLies yX4_codeOfWhatLies, Cond.code yX4_codeOfWhatLies cX4_codeOfWhatLies 3 (some .int), Cond.fieldLink RX4 21 "IcePad$Weather" "temperature" "I", Cond.fieldLink RX4 26 "IcePad$Third" "depth" "I", Cond.methodLink RL 102 yX7_pilot, Cond.instanceMethod yX7_pilot, Cond.selects RX7 yX7_pilot yX7_pilot, Cond.code yX7_pilot cX7_pilot 3 (some .int), Cond.methodLink RX7 110 yX7_codeOf, Cond.instanceMethod yX7_codeOf, Cond.selects RX7 yX7_codeOf yX7_codeOf, Cond.code yX7_codeOf cX7_codeOf 3 (some .int), Cond.methodLink RX7 106 yX7_lies]
def wsL_law0_r9 : List Cond := [Cond.instanceMethod yX7_lies, Cond.selects RX7 yX7_lies yX7_lies, Cond.code yX7_lies cX7_lies 2 (some .int), Cond.methodLink RL 103 yL_supply, Cond.static yL_supply, Cond.codeWith yL_supply cL_supply 5 (some .int) [(0, 10, 13, 19), (0, 10, 17, 13), (0, 10, 21, 31)], Cond.classLink RL 31 "java/lang/IllegalStateException", Cond.methodLink RL 28 yX6_supply, Cond.instanceMethod yX6_supply, Cond.selects RX6 yX6_supply yX6_supply, Cond.code yX6_supply cX6_supply 3 (some .int), Cond.fieldLink RX6 92 "IcePad$Fluids" "tanks" "[I", Cond.constant RX6 96 (100000), Cond.fieldLink RX6 101 "IcePad$Fluids" "supplied" "I", Cond.methodLink RX6 97 yX6_requirePossible, Cond.static yX6_requirePossible, Cond.code yX6_requirePossible cX6_requirePossible 1 none, Cond.classLink RX6 274 "java/lang/IllegalStateException", Cond.initialized "java/lang/IllegalStateException", Cond.methodLink RL 105 yX7_supply, Cond.instanceMethod yX7_supply, Cond.selects RX7 yX7_supply yX7_supply, Cond.code yX7_supply cX7_supply 3 (some .int), Cond.constant RX7 116 (100000)]
def wsL_law0_r10 : List Cond := [Cond.fieldLink RX7 117 "IcePadModel" "supplied" "I", Cond.methodLink RX7 113 yX7_isFluid, Cond.static yX7_isFluid, Cond.code yX7_isFluid cX7_isFluid 1 (some .boolean), Cond.methodLink RL 106 yL_table, Cond.static yL_table, Cond.codeWith yL_table cL_table 6 (some .int) [(0, 12, 15, 19), (0, 12, 19, 13)], Cond.methodLink RL 33 yX6_table, Cond.instanceMethod yX6_table, Cond.selects RX6 yX6_table yX6_table, Cond.code yX6_table cX6_table 5 (some .int), Cond.fieldLink RX6 104 "IcePad$Fluids" "minutes" "[[I", Cond.methodLink RL 109 yX7_table, Cond.instanceMethod yX7_table, Cond.selects RX7 yX7_table yX7_table, Cond.code yX7_table cX7_table 5 (some .int), Cond.methodLink RL 110 yL_aircraft, Cond.static yL_aircraft, Cond.codeWith yL_aircraft cL_aircraft 6 (some .int) [(0, 12, 15, 13), (0, 12, 19, 31)], Cond.methodLink RL 37 yX6_aircraft, Cond.instanceMethod yX6_aircraft, Cond.selects RX6 yX6_aircraft yX6_aircraft, Cond.code yX6_aircraft cX6_aircraft 5 (some .int), Cond.fieldLink RX6 108 "IcePad" "fleetSize" "I"]
def wsL_law0_r11 : List Cond := [Cond.instantiable RX0 12, Cond.initialized RX0, Cond.methodLink RX6 111 yX0_init, Cond.instanceMethod yX0_init, Cond.code yX0_init cX0_init 4 none, Cond.methodLink RX0 3 objectInit, Cond.fieldLink RX0 9 "IcePad$Aircraft" "state" "I", Cond.fieldLink RX0 15 "IcePad$Aircraft" "leftMinute" "I", Cond.fieldLink RX0 18 "IcePad$Aircraft" "span" "I", Cond.fieldLink RX0 21 "IcePad$Aircraft" "slot" "I", Cond.fieldLink RX0 24 "IcePad$Aircraft" "duty" "I", Cond.methodLink RL 112 yX7_aircraft, Cond.instanceMethod yX7_aircraft, Cond.selects RX7 yX7_aircraft yX7_aircraft, Cond.code yX7_aircraft cX7_aircraft 4 (some .int), Cond.fieldLink RX7 81 "IcePadModel" "many" "I", Cond.methodLink RL 113 yL_treat, Cond.static yL_treat, Cond.codeWith yL_treat cL_treat 8 (some .int) [(0, 16, 19, 19), (0, 16, 23, 13), (0, 16, 27, 31)], Cond.methodLink RL 40 yX6_treat, Cond.instanceMethod yX6_treat, Cond.selects RX6 yX6_treat yX6_treat, Cond.code yX6_treat cX6_treat 7 (some .int), Cond.fieldLink RX6 113 "IcePad" "PAD_SPANS" "[I"]
def wsL_law0_r12 : List Cond := [Cond.fieldLink RX6 120 "IcePad$Aircraft" "state" "I", Cond.fieldLink RX6 127 "IcePad$Aircraft" "span" "I", Cond.fieldLink RX6 130 "IcePad$Basin" "litres" "I", Cond.fieldLink RX6 137 "IcePad$Aircraft" "fluid" "I", Cond.fieldLink RX6 140 "IcePad$Aircraft" "strength" "I", Cond.fieldLink RX6 143 "IcePad$Aircraft" "cleanMinute" "I", Cond.methodLink RX6 116 yX6_requireStrength, Cond.static yX6_requireStrength, Cond.code yX6_requireStrength cX6_requireStrength 1 none, Cond.methodLink RX6 123 yX6_padIsFree, Cond.instanceMethod yX6_padIsFree, Cond.selects RX6 yX6_padIsFree yX6_padIsFree, Cond.code yX6_padIsFree cX6_padIsFree 3 (some .boolean), Cond.fieldLink RX6 195 "IcePad$Aircraft" "pad" "I", Cond.methodLink RX6 133 yX0_beginTreatment, Cond.instanceMethod yX0_beginTreatment, Cond.selects RX0 yX0_beginTreatment yX0_beginTreatment, Cond.code yX0_beginTreatment cX0_beginTreatment 5 (some .int), Cond.fieldLink RX0 27 "IcePad$Aircraft" "pad" "I", Cond.fieldLink RX0 30 "IcePad$Aircraft" "treatments" "I", Cond.fieldLink RX0 33 "IcePad$Aircraft" "litresOn" "I", Cond.fieldLink RX0 36 "IcePad$Aircraft" "clockBegan" "I", Cond.fieldLink RX0 39 "IcePad$Aircraft" "cleanMinute" "I", Cond.methodLink RL 116 yX7_treat]
def wsL_law0_r13 : List Cond := [Cond.instanceMethod yX7_treat, Cond.selects RX7 yX7_treat yX7_treat, Cond.code yX7_treat cX7_treat 7 (some .int), Cond.fieldLink RX7 126 "IcePadModel" "basin" "I", Cond.methodLink RX7 120 yX7_isAircraft, Cond.instanceMethod yX7_isAircraft, Cond.selects RX7 yX7_isAircraft yX7_isAircraft, Cond.code yX7_isAircraft cX7_isAircraft 2 (some .boolean), Cond.methodLink RX7 123 yX7_isFree, Cond.instanceMethod yX7_isFree, Cond.selects RX7 yX7_isFree yX7_isFree, Cond.code yX7_isFree cX7_isFree 4 (some .boolean), Cond.methodLink RL 117 yL_cancel, Cond.static yL_cancel, Cond.codeWith yL_cancel cL_cancel 4 (some .int) [(0, 9, 12, 19), (0, 9, 15, 31)], Cond.methodLink RL 44 yX6_cancel, Cond.instanceMethod yX6_cancel, Cond.selects RX6 yX6_cancel yX6_cancel, Cond.code yX6_cancel cX6_cancel 4 (some .int), Cond.methodLink RX6 146 yX0_isOver, Cond.instanceMethod yX0_isOver, Cond.selects RX0 yX0_isOver yX0_isOver, Cond.code yX0_isOver cX0_isOver 1 (some .boolean), Cond.methodLink RL 119 yX7_cancel]
def wsL_law0_r14 : List Cond := [Cond.instanceMethod yX7_cancel, Cond.selects RX7 yX7_cancel yX7_cancel, Cond.code yX7_cancel cX7_cancel 3 (some .int), Cond.methodLink RX7 129 yX7_cancels, Cond.instanceMethod yX7_cancels, Cond.selects RX7 yX7_cancels yX7_cancels, Cond.code yX7_cancels cX7_cancels 2 none, Cond.methodLink RL 120 yL_permit, Cond.static yL_permit, Cond.codeWith yL_permit cL_permit 4 (some .int) [(0, 9, 12, 13)], Cond.methodLink RL 47 yX6_permit, Cond.instanceMethod yX6_permit, Cond.selects RX6 yX6_permit yX6_permit, Cond.code yX6_permit cX6_permit 3 (some .int), Cond.fieldLink RX6 150 "IcePad$Basin" "permitADay" "I", Cond.methodLink RL 122 yX7_permit, Cond.instanceMethod yX7_permit, Cond.selects RX7 yX7_permit yX7_permit, Cond.code yX7_permit cX7_permit 3 (some .int), Cond.methodLink RL 123 yL_release, Cond.static yL_release, Cond.codeWith yL_release cL_release 4 (some .int) [(0, 9, 12, 13), (0, 9, 15, 31)], Cond.methodLink RL 50 yX6_release, Cond.instanceMethod yX6_release]
def wsL_law0_r15 : List Cond := [Cond.selects RX6 yX6_release yX6_release, Cond.code yX6_release cX6_release 4 (some .int), Cond.fieldLink RX6 157 "IcePad$Basin" "river" "I", Cond.fieldLink RX6 160 "IcePad$Basin" "riverDay" "I", Cond.fieldLink RX6 163 "IcePad$Basin" "riverThatDay" "I", Cond.methodLink RX6 153 yX1_riverOn, Cond.instanceMethod yX1_riverOn, Cond.selects RX1 yX1_riverOn yX1_riverOn, Cond.code yX1_riverOn cX1_riverOn 2 (some .int), Cond.fieldLink RX1 15 "IcePad$Basin" "riverDay" "I", Cond.fieldLink RX1 18 "IcePad$Basin" "riverThatDay" "I", Cond.methodLink RL 125 yX7_release, Cond.instanceMethod yX7_release, Cond.selects RX7 yX7_release yX7_release, Cond.code yX7_release cX7_release 2 (some .int), Cond.fieldLink RX7 133 "IcePadModel" "releasedToday" "I", Cond.fieldLink RX7 136 "IcePadModel" "released" "I", Cond.methodLink RL 126 yL_pass, Cond.static yL_pass, Cond.codeWith yL_pass cL_pass 4 (some .int) [(0, 9, 12, 13)], Cond.methodLink RL 53 yX6_pass, Cond.instanceMethod yX6_pass, Cond.selects RX6 yX6_pass yX6_pass, Cond.code yX6_pass cX6_pass 3 (some .int)]
def wsL_law0_r16 : List Cond := [Cond.methodLink RX6 166 yX6_liveMinute, Cond.instanceMethod yX6_liveMinute, Cond.selects RX6 yX6_liveMinute yX6_liveMinute, Cond.code yX6_liveMinute cX6_liveMinute 1 none, Cond.methodLink RX6 234 yX3_liveMinute, Cond.instanceMethod yX3_liveMinute, Cond.selects RX3 yX3_liveMinute yX3_liveMinute, Cond.code yX3_liveMinute cX3_liveMinute 4 none, Cond.methodLink RX3 40 yX4_liveMinute, Cond.instanceMethod yX4_liveMinute, Cond.selects RX4 yX4_liveMinute yX4_liveMinute, Cond.code yX4_liveMinute cX4_liveMinute 4 none, Cond.fieldLink RX4 40 "IcePad$Weather" "fall" "I", Cond.fieldLink RX4 43 "IcePad$Weather" "rate" "I", Cond.methodLink RX4 36 yX4_isSprayedAt, Cond.instanceMethod yX4_isSprayedAt, Cond.selects RX4 yX4_isSprayedAt yX4_isSprayedAt, Cond.code yX4_isSprayedAt cX4_isSprayedAt 2 (some .boolean), Cond.methodLink RX4 46 yX4_snowOn, Cond.instanceMethod yX4_snowOn, Cond.selects RX4 yX4_snowOn yX4_snowOn, Cond.code yX4_snowOn cX4_snowOn 2 none, Cond.methodLink RX4 60 yX4_addDepth, Cond.instanceMethod yX4_addDepth]
def wsL_law0_r17 : List Cond := [Cond.selects RX4 yX4_addDepth yX4_addDepth, Cond.code yX4_addDepth cX4_addDepth 2 none, Cond.methodLink RX4 63 Lib.Math.min.name, Cond.static Lib.Math.min.name, Cond.code Lib.Math.min.name Lib.Math.min.code 2 (some .int), Cond.methodLink RX4 50 yX4_rainOn, Cond.instanceMethod yX4_rainOn, Cond.selects RX4 yX4_rainOn yX4_rainOn, Cond.code yX4_rainOn cX4_rainOn 3 none, Cond.methodLink RX4 54 yX4_iceOver, Cond.instanceMethod yX4_iceOver, Cond.selects RX4 yX4_iceOver yX4_iceOver, Cond.code yX4_iceOver cX4_iceOver 1 none, Cond.methodLink RX4 57 yX4_melt, Cond.instanceMethod yX4_melt, Cond.selects RX4 yX4_melt yX4_melt, Cond.code yX4_melt cX4_melt 1 none, Cond.methodLink RX3 32 yX3_isClosedAt, Cond.instanceMethod yX3_isClosedAt, Cond.selects RX3 yX3_isClosedAt yX3_isClosedAt, Cond.code yX3_isClosedAt cX3_isClosedAt 2 (some .boolean), Cond.methodLink RX3 44 yX3_plough, Cond.instanceMethod yX3_plough, Cond.selects RX3 yX3_plough yX3_plough]
def wsL_law0_r18 : List Cond := [Cond.code yX3_plough cX3_plough 4 none, Cond.fieldLink RX3 47 "IcePad$Runway" "ploughs" "I", Cond.fieldLink RX3 54 "IcePad$Runway" "heap" "I", Cond.methodLink RX3 50 yX4_ploughUpTo, Cond.instanceMethod yX4_ploughUpTo, Cond.selects RX4 yX4_ploughUpTo yX4_ploughUpTo, Cond.code yX4_ploughUpTo cX4_ploughUpTo 3 (some .int), Cond.methodLink RX3 57 yX4_wetIfBare, Cond.instanceMethod yX4_wetIfBare, Cond.selects RX4 yX4_wetIfBare yX4_wetIfBare, Cond.code yX4_wetIfBare cX4_wetIfBare 1 none, Cond.methodLink RX6 237 yX6_endTreatments, Cond.instanceMethod yX6_endTreatments, Cond.selects RX6 yX6_endTreatments yX6_endTreatments, Cond.code yX6_endTreatments cX6_endTreatments 2 none, Cond.methodLink RX6 240 yX1_cleanMinute, Cond.instanceMethod yX1_cleanMinute, Cond.selects RX1 yX1_cleanMinute yX1_cleanMinute, Cond.code yX1_cleanMinute cX1_cleanMinute 2 none, Cond.fieldLink RX1 21 "IcePad$Basin" "litres" "I", Cond.methodLink RX1 24 Lib.Math.min.name, Cond.fieldLink RX1 30 "IcePad$Basin" "cleaned" "I", Cond.methodLink RX6 242 yX6_cancelBehindDuty, Cond.instanceMethod yX6_cancelBehindDuty]
def wsL_law0_r19 : List Cond := [Cond.selects RX6 yX6_cancelBehindDuty yX6_cancelBehindDuty, Cond.code yX6_cancelBehindDuty cX6_cancelBehindDuty 2 none, Cond.fieldLink RX6 251 "IcePad$Aircraft" "duty" "I", Cond.methodLink RX6 245 yX6_sendBackWithoutClock, Cond.instanceMethod yX6_sendBackWithoutClock, Cond.selects RX6 yX6_sendBackWithoutClock yX6_sendBackWithoutClock, Cond.code yX6_sendBackWithoutClock cX6_sendBackWithoutClock 2 none, Cond.methodLink RX6 198 yX6_clockLeft, Cond.instanceMethod yX6_clockLeft, Cond.selects RX6 yX6_clockLeft yX6_clockLeft, Cond.code yX6_clockLeft cX6_clockLeft 2 (some .double), Cond.fieldLink RX6 262 "IcePad$Aircraft" "clockBegan" "I", Cond.methodLink RX6 258 yX2_holdsFor, Cond.instanceMethod yX2_holdsFor, Cond.selects RX2 yX2_holdsFor yX2_holdsFor, Cond.code yX2_holdsFor cX2_holdsFor 4 (some .double), Cond.fieldLink RX2 26 "IcePad$Weather" "fall" "I", Cond.constantDouble RX2 32 (4696837146684686336), Cond.constantDouble RX2 34 (4636737291354636288), Cond.methodLink RX2 36 yX5_holdFactor, Cond.instanceMethod yX5_holdFactor, Cond.selects RX5 yX5_holdFactor yX5_holdFactor, Cond.code yX5_holdFactor cX5_holdFactor 1 (some .double), Cond.fieldLink RX5 13 "IcePad$Weather" "temperature" "I"]
def wsL_law0_r20 : List Cond := [Cond.constantDouble RX5 16 (4604930618986332160), Cond.constantDouble RX5 18 (4602678819172646912), Cond.methodLink RX6 182 yX3_isUsableAt, Cond.instanceMethod yX3_isUsableAt, Cond.selects RX3 yX3_isUsableAt yX3_isUsableAt, Cond.code yX3_isUsableAt cX3_isUsableAt 3 (some .boolean), Cond.methodLink RX3 36 yX3_codesSufficeAt, Cond.instanceMethod yX3_codesSufficeAt, Cond.selects RX3 yX3_codesSufficeAt yX3_codesSufficeAt, Cond.code yX3_codesSufficeAt cX3_codesSufficeAt 5 (some .boolean), Cond.methodLink RX3 22 yX5_codeNeeded, Cond.instanceMethod yX5_codeNeeded, Cond.selects RX5 yX5_codeNeeded yX5_codeNeeded, Cond.code yX5_codeNeeded cX5_codeNeeded 1 (some .int), Cond.fieldLink RX5 7 "IcePad$Weather" "wind" "I", Cond.methodLink RX3 28 yX4_codeAt, Cond.methodLink RX6 248 yX6_letOneLeave, Cond.instanceMethod yX6_letOneLeave, Cond.selects RX6 yX6_letOneLeave yX6_letOneLeave, Cond.code yX6_letOneLeave cX6_letOneLeave 4 none, Cond.fieldLink RX6 202 "IcePad$Aircraft" "slot" "I", Cond.fieldLink RX6 186 "IcePad$Aircraft" "leftMinute" "I", Cond.methodLink RX6 254 yX6_goesAhead, Cond.instanceMethod yX6_goesAhead]
def wsL_law0_r21 : List Cond := [Cond.selects RX6 yX6_goesAhead yX6_goesAhead, Cond.code yX6_goesAhead cX6_goesAhead 7 (some .boolean), Cond.methodLink RL 128 yX7_pass, Cond.instanceMethod yX7_pass, Cond.selects RX7 yX7_pass yX7_pass, Cond.code yX7_pass cX7_pass 3 (some .int), Cond.methodLink RX7 178 yX7_minute, Cond.instanceMethod yX7_minute, Cond.selects RX7 yX7_minute yX7_minute, Cond.code yX7_minute cX7_minute 3 none, Cond.fieldLink RX7 169 "IcePadModel" "cleaned" "I", Cond.methodLink RX7 157 yX7_falls, Cond.instanceMethod yX7_falls, Cond.selects RX7 yX7_falls yX7_falls, Cond.code yX7_falls cX7_falls 3 none, Cond.methodLink RX7 139 yX7_isSprayed, Cond.instanceMethod yX7_isSprayed, Cond.selects RX7 yX7_isSprayed yX7_isSprayed, Cond.code yX7_isSprayed cX7_isSprayed 2 (some .boolean), Cond.methodLink RX7 160 yX7_isClosed, Cond.instanceMethod yX7_isClosed, Cond.selects RX7 yX7_isClosed yX7_isClosed, Cond.code yX7_isClosed cX7_isClosed 1 (some .boolean), Cond.methodLink RX7 164 yX7_ploughs]
def wsL_law0_r22 : List Cond := [Cond.instanceMethod yX7_ploughs, Cond.selects RX7 yX7_ploughs yX7_ploughs, Cond.code yX7_ploughs cX7_ploughs 4 none, Cond.fieldLink RX7 142 "IcePadModel" "heap" "I", Cond.methodLink RX7 166 yX7_goesOn, Cond.instanceMethod yX7_goesOn, Cond.selects RX7 yX7_goesOn yX7_goesOn, Cond.code yX7_goesOn cX7_goesOn 2 none, Cond.methodLink RX7 153 yX7_clockOf, Cond.instanceMethod yX7_clockOf, Cond.selects RX7 yX7_clockOf yX7_clockOf, Cond.code yX7_clockOf cX7_clockOf 6 (some .double), Cond.constantDouble RX7 145 (4696837146684686336), Cond.constantDouble RX7 147 (4604930618986332160), Cond.constantDouble RX7 149 (4602678819172646912), Cond.constantDouble RX7 151 (4636737291354636288), Cond.methodLink RX7 172 yX7_areEnough, Cond.instanceMethod yX7_areEnough, Cond.selects RX7 yX7_areEnough yX7_areEnough, Cond.code yX7_areEnough cX7_areEnough 2 (some .boolean), Cond.methodLink RX7 175 yX7_leaves, Cond.instanceMethod yX7_leaves, Cond.selects RX7 yX7_leaves yX7_leaves, Cond.code yX7_leaves cX7_leaves 3 none]
def wsL_law0_r23 : List Cond := [Cond.methodLink RL 129 yL_code, Cond.static yL_code, Cond.codeWith yL_code cL_code 4 (some .int) [(0, 9, 12, 19)], Cond.methodLink RL 56 yX6_code, Cond.instanceMethod yX6_code, Cond.selects RX6 yX6_code yX6_code, Cond.code yX6_code cX6_code 2 (some .int), Cond.methodLink RL 131 yX7_code, Cond.instanceMethod yX7_code, Cond.selects RX7 yX7_code yX7_code, Cond.code yX7_code cX7_code 2 (some .int), Cond.methodLink RL 132 yL_thirdOf, Cond.static yL_thirdOf, Cond.codeWith yL_thirdOf cL_thirdOf 5 (some .int) [(0, 10, 13, 19), (0, 10, 17, 13)], Cond.methodLink RL 59 yX6_thirdOf, Cond.instanceMethod yX6_thirdOf, Cond.selects RX6 yX6_thirdOf yX6_thirdOf, Cond.code yX6_thirdOf cX6_thirdOf 4 (some .int), Cond.fieldLink RX6 169 "IcePad$Third" "cover" "I", Cond.fieldLink RX6 172 "IcePad$Third" "depth" "I", Cond.methodLink RX6 175 yX4_isSprayedAt, Cond.methodLink RX6 178 yX4_codeOfWhatLies, Cond.methodLink RL 134 yX7_thirdOf, Cond.instanceMethod yX7_thirdOf]
def wsL_law0_r24 : List Cond := [Cond.selects RX7 yX7_thirdOf yX7_thirdOf, Cond.code yX7_thirdOf cX7_thirdOf 3 (some .int), Cond.methodLink RL 135 yX6_isGood, Cond.instanceMethod yX6_isGood, Cond.selects RX6 yX6_isGood yX6_isGood, Cond.code yX6_isGood cX6_isGood 1 (some .boolean), Cond.methodLink RL 139 yX7_isGood, Cond.instanceMethod yX7_isGood, Cond.selects RX7 yX7_isGood yX7_isGood, Cond.code yX7_isGood cX7_isGood 1 (some .boolean), Cond.methodLink RL 140 yL_aircraftOf, Cond.static yL_aircraftOf, Cond.codeWith yL_aircraftOf cL_aircraftOf 5 (some .int) [(0, 10, 13, 19), (0, 10, 17, 13)], Cond.methodLink RL 62 yX6_aircraftOf, Cond.instanceMethod yX6_aircraftOf, Cond.selects RX6 yX6_aircraftOf yX6_aircraftOf, Cond.code yX6_aircraftOf cX6_aircraftOf 4 (some .int), Cond.fieldLink RX6 189 "IcePad$Aircraft" "treatments" "I", Cond.fieldLink RX6 192 "IcePad$Aircraft" "litresOn" "I", Cond.methodLink RL 142 yX7_aircraftOf, Cond.instanceMethod yX7_aircraftOf, Cond.selects RX7 yX7_aircraftOf yX7_aircraftOf, Cond.code yX7_aircraftOf cX7_aircraftOf 3 (some .int), Cond.methodLink RL 143 yL_clock]
def wsL_law0_r25 : List Cond := [Cond.static yL_clock, Cond.codeWith yL_clock cL_clock 4 (some .int) [(0, 8, 11, 19), (0, 8, 14, 31)], Cond.methodLink RL 65 yX6_clock, Cond.instanceMethod yX6_clock, Cond.selects RX6 yX6_clock yX6_clock, Cond.code yX6_clock cX6_clock 2 (some .double), Cond.methodLink RL 146 yX7_clock, Cond.instanceMethod yX7_clock, Cond.selects RX7 yX7_clock yX7_clock, Cond.code yX7_clock cX7_clock 2 (some .double), Cond.methodLink RL 147 yL_whyNot, Cond.static yL_whyNot, Cond.codeWith yL_whyNot cL_whyNot 4 (some .int) [(0, 9, 12, 19)], Cond.methodLink RL 69 yX6_whyNot, Cond.instanceMethod yX6_whyNot, Cond.selects RX6 yX6_whyNot yX6_whyNot, Cond.code yX6_whyNot cX6_whyNot 3 (some .int), Cond.methodLink RX6 205 yX3_isClosedAt, Cond.methodLink RX6 208 yX3_codesSufficeAt, Cond.methodLink RL 149 yX7_whyNot, Cond.instanceMethod yX7_whyNot, Cond.selects RX7 yX7_whyNot yX7_whyNot, Cond.code yX7_whyNot cX7_whyNot 2 (some .int), Cond.methodLink RL 150 yL_queue]
def wsL_law0_r26 : List Cond := [Cond.static yL_queue, Cond.codeWith yL_queue cL_queue 4 (some .int) [(0, 9, 12, 19)], Cond.methodLink RL 72 yX6_queue, Cond.instanceMethod yX6_queue, Cond.selects RX6 yX6_queue yX6_queue, Cond.code yX6_queue cX6_queue 3 (some .int), Cond.methodLink RX6 218 yX6_placeInQueue, Cond.instanceMethod yX6_placeInQueue, Cond.selects RX6 yX6_placeInQueue yX6_placeInQueue, Cond.code yX6_placeInQueue cX6_placeInQueue 4 (some .int), Cond.methodLink RL 152 yX7_queue, Cond.instanceMethod yX7_queue, Cond.selects RX7 yX7_queue yX7_queue, Cond.code yX7_queue cX7_queue 4 (some .int), Cond.methodLink RX7 181 yX7_nextAfter, Cond.instanceMethod yX7_nextAfter, Cond.selects RX7 yX7_nextAfter yX7_nextAfter, Cond.code yX7_nextAfter cX7_nextAfter 5 (some .int), Cond.methodLink RL 153 yL_sum, Cond.static yL_sum, Cond.codeWith yL_sum cL_sum 4 (some .int) [(0, 9, 12, 13)], Cond.methodLink RL 75 yX6_sum, Cond.instanceMethod yX6_sum, Cond.selects RX6 yX6_sum yX6_sum]
def wsL_law0_r27 : List Cond := [Cond.code yX6_sum cX6_sum 2 (some .int), Cond.fieldLink RX6 228 "IcePad$Basin" "cleaned" "I", Cond.fieldLink RX6 231 "IcePad$Runway" "heap" "I", Cond.methodLink RX6 221 yX2_inTanks, Cond.instanceMethod yX2_inTanks, Cond.selects RX2 yX2_inTanks yX2_inTanks, Cond.code yX2_inTanks cX2_inTanks 3 (some .int), Cond.methodLink RX6 225 yX6_litresOnFleet, Cond.instanceMethod yX6_litresOnFleet, Cond.selects RX6 yX6_litresOnFleet yX6_litresOnFleet, Cond.code yX6_litresOnFleet cX6_litresOnFleet 3 (some .int), Cond.methodLink RL 155 yX7_sum, Cond.instanceMethod yX7_sum, Cond.selects RX7 yX7_sum yX7_sum, Cond.code yX7_sum cX7_sum 4 (some .int)]
def wsL_law0 : List Cond := (wsL_law0_r1 ++ (wsL_law0_r2 ++ (wsL_law0_r3 ++ (wsL_law0_r4 ++ (wsL_law0_r5 ++ (wsL_law0_r6 ++ (wsL_law0_r7 ++ (wsL_law0_r8 ++ (wsL_law0_r9 ++ (wsL_law0_r10 ++ (wsL_law0_r11 ++ (wsL_law0_r12 ++ (wsL_law0_r13 ++ (wsL_law0_r14 ++ (wsL_law0_r15 ++ (wsL_law0_r16 ++ (wsL_law0_r17 ++ (wsL_law0_r18 ++ (wsL_law0_r19 ++ (wsL_law0_r20 ++ (wsL_law0_r21 ++ (wsL_law0_r22 ++ (wsL_law0_r23 ++ (wsL_law0_r24 ++ (wsL_law0_r25 ++ (wsL_law0_r26 ++ wsL_law0_r27)))))))))))))))))))))))))) ++ wsX60 ++ wsX70 ++ wsX50 ++ wsX30 ++ wsX20 ++ wsX10 ++ wsX40 ++ wsX00 ++ ([] : List Cond)
def wsL_law : List Cond := wsL_law0 ++ (vx_atS RX6 271 "java/lang/IllegalArgumentException" ["java/lang/RuntimeException", "java/lang/Exception"]).filter goodWord ++ (vx_atS RX6 215 "java/lang/IndexOutOfBoundsException" ["java/lang/RuntimeException", "java/lang/Exception"]).filter goodWord ++ (vx_atS RX6 278 "java/lang/IllegalStateException" ["java/lang/RuntimeException", "java/lang/Exception"]).filter goodWord
theorem inlX0 : ∀ w ∈ wsX00, w ∈ wsL_law := fun _ h => List.mem_append_left _ (List.mem_append_left _ (List.mem_append_left _ (List.mem_append_left _ (List.mem_append_right _ h))))
theorem inlX1 : ∀ w ∈ wsX10, w ∈ wsL_law := fun _ h => List.mem_append_left _ (List.mem_append_left _ (List.mem_append_left _ (List.mem_append_left _ (List.mem_append_left _ (List.mem_append_left _ (List.mem_append_right _ h))))))
theorem inlX2 : ∀ w ∈ wsX20, w ∈ wsL_law := fun _ h => List.mem_append_left _ (List.mem_append_left _ (List.mem_append_left _ (List.mem_append_left _ (List.mem_append_left _ (List.mem_append_left _ (List.mem_append_left _ (List.mem_append_right _ h)))))))
theorem inlX3 : ∀ w ∈ wsX30, w ∈ wsL_law := fun _ h => List.mem_append_left _ (List.mem_append_left _ (List.mem_append_left _ (List.mem_append_left _ (List.mem_append_left _ (List.mem_append_left _ (List.mem_append_left _ (List.mem_append_left _ (List.mem_append_right _ h))))))))
theorem inlX4 : ∀ w ∈ wsX40, w ∈ wsL_law := fun _ h => List.mem_append_left _ (List.mem_append_left _ (List.mem_append_left _ (List.mem_append_left _ (List.mem_append_left _ (List.mem_append_right _ h)))))
theorem inlX5 : ∀ w ∈ wsX50, w ∈ wsL_law := fun _ h => List.mem_append_left _ (List.mem_append_left _ (List.mem_append_left _ (List.mem_append_left _ (List.mem_append_left _ (List.mem_append_left _ (List.mem_append_left _ (List.mem_append_left _ (List.mem_append_left _ (List.mem_append_right _ h)))))))))
theorem inlX6 : ∀ w ∈ wsX60, w ∈ wsL_law := fun _ h => List.mem_append_left _ (List.mem_append_left _ (List.mem_append_left _ (List.mem_append_left _ (List.mem_append_left _ (List.mem_append_left _ (List.mem_append_left _ (List.mem_append_left _ (List.mem_append_left _ (List.mem_append_left _ (List.mem_append_left _ (List.mem_append_right _ h)))))))))))
theorem inlX7 : ∀ w ∈ wsX70, w ∈ wsL_law := fun _ h => List.mem_append_left _ (List.mem_append_left _ (List.mem_append_left _ (List.mem_append_left _ (List.mem_append_left _ (List.mem_append_left _ (List.mem_append_left _ (List.mem_append_left _ (List.mem_append_left _ (List.mem_append_left _ (List.mem_append_right _ h))))))))))
abbrev vwCl : List vw_C := [(RX0, TX0, 12), (RX1, TX1, 6), (RX2, TX2, 3), (RX3, TX3, 4), (RX4, TX4, 5), (RX5, TX5, 4), (RX6, TX6, 7), (RX7, TX7, 35)]
end
section
theorem dX0_init_0 : decode cX0_init 0 = .ok (.aload_n 0, 1) := by decide +kernel
theorem dX0_init_1 : decode cX0_init 1 = .ok (.invokespecial 3, 3) := by decide +kernel
theorem dX0_init_4 : decode cX0_init 4 = .ok (.aload_n 0, 1) := by decide +kernel
theorem dX0_init_5 : decode cX0_init 5 = .ok (.iconst 0, 1) := by decide +kernel
theorem dX0_init_6 : decode cX0_init 6 = .ok (.putfield 9, 3) := by decide +kernel
theorem dX0_init_9 : decode cX0_init 9 = .ok (.aload_n 0, 1) := by decide +kernel
theorem dX0_init_10 : decode cX0_init 10 = .ok (.iconst (-1), 1) := by decide +kernel
theorem dX0_init_11 : decode cX0_init 11 = .ok (.putfield 15, 3) := by decide +kernel
theorem dX0_init_14 : decode cX0_init 14 = .ok (.aload_n 0, 1) := by decide +kernel
theorem dX0_init_15 : decode cX0_init 15 = .ok (.iload_n 1, 1) := by decide +kernel
theorem dX0_init_16 : decode cX0_init 16 = .ok (.putfield 18, 3) := by decide +kernel
theorem dX0_init_19 : decode cX0_init 19 = .ok (.aload_n 0, 1) := by decide +kernel
theorem dX0_init_20 : decode cX0_init 20 = .ok (.iload_n 2, 1) := by decide +kernel
theorem dX0_init_21 : decode cX0_init 21 = .ok (.putfield 21, 3) := by decide +kernel
theorem dX0_init_24 : decode cX0_init 24 = .ok (.aload_n 0, 1) := by decide +kernel
theorem dX0_init_25 : decode cX0_init 25 = .ok (.iload_n 3, 1) := by decide +kernel
theorem dX0_init_26 : decode cX0_init 26 = .ok (.putfield 24, 3) := by decide +kernel
theorem dX0_init_29 : decode cX0_init 29 = .ok (.return_, 1) := by decide +kernel
theorem dX0_isOver_0 : decode cX0_isOver 0 = .ok (.aload_n 0, 1) := by decide +kernel
theorem dX0_isOver_1 : decode cX0_isOver 1 = .ok (.getfield 9, 3) := by decide +kernel
theorem dX0_isOver_4 : decode cX0_isOver 4 = .ok (.iconst 3, 1) := by decide +kernel
theorem dX0_isOver_5 : decode cX0_isOver 5 = .ok (.if_icmp .eq 11, 3) := by decide +kernel
theorem dX0_isOver_8 : decode cX0_isOver 8 = .ok (.aload_n 0, 1) := by decide +kernel
theorem dX0_isOver_9 : decode cX0_isOver 9 = .ok (.getfield 9, 3) := by decide +kernel
theorem dX0_isOver_12 : decode cX0_isOver 12 = .ok (.iconst 4, 1) := by decide +kernel
theorem dX0_isOver_13 : decode cX0_isOver 13 = .ok (.if_icmp .ne 7, 3) := by decide +kernel
theorem dX0_isOver_16 : decode cX0_isOver 16 = .ok (.iconst 1, 1) := by decide +kernel
theorem dX0_isOver_17 : decode cX0_isOver 17 = .ok (.goto 4, 3) := by decide +kernel
theorem dX0_isOver_20 : decode cX0_isOver 20 = .ok (.iconst 0, 1) := by decide +kernel
theorem dX0_isOver_21 : decode cX0_isOver 21 = .ok (.ireturn, 1) := by decide +kernel
theorem dX0_beginTreatment_0 : decode cX0_beginTreatment 0 = .ok (.iload_n 2, 1) := by decide +kernel
theorem dX0_beginTreatment_1 : decode cX0_beginTreatment 1 = .ok (.bipush 20, 2) := by decide +kernel
theorem dX0_beginTreatment_3 : decode cX0_beginTreatment 3 = .ok (.imul, 1) := by decide +kernel
theorem dX0_beginTreatment_4 : decode cX0_beginTreatment 4 = .ok (.bipush 100, 2) := by decide +kernel
theorem dX0_beginTreatment_6 : decode cX0_beginTreatment 6 = .ok (.idiv, 1) := by decide +kernel
theorem dX0_beginTreatment_7 : decode cX0_beginTreatment 7 = .ok (.istore 4, 2) := by decide +kernel
theorem dX0_beginTreatment_9 : decode cX0_beginTreatment 9 = .ok (.aload_n 0, 1) := by decide +kernel
theorem dX0_beginTreatment_10 : decode cX0_beginTreatment 10 = .ok (.iconst 1, 1) := by decide +kernel
theorem dX0_beginTreatment_11 : decode cX0_beginTreatment 11 = .ok (.putfield 9, 3) := by decide +kernel
theorem dX0_beginTreatment_14 : decode cX0_beginTreatment 14 = .ok (.aload_n 0, 1) := by decide +kernel
theorem dX0_beginTreatment_15 : decode cX0_beginTreatment 15 = .ok (.iload_n 1, 1) := by decide +kernel
theorem dX0_beginTreatment_16 : decode cX0_beginTreatment 16 = .ok (.putfield 27, 3) := by decide +kernel
theorem dX0_beginTreatment_19 : decode cX0_beginTreatment 19 = .ok (.aload_n 0, 1) := by decide +kernel
theorem dX0_beginTreatment_20 : decode cX0_beginTreatment 20 = .ok (.dup, 1) := by decide +kernel
theorem dX0_beginTreatment_21 : decode cX0_beginTreatment 21 = .ok (.getfield 30, 3) := by decide +kernel
theorem dX0_beginTreatment_24 : decode cX0_beginTreatment 24 = .ok (.iconst 1, 1) := by decide +kernel
theorem dX0_beginTreatment_25 : decode cX0_beginTreatment 25 = .ok (.iadd, 1) := by decide +kernel
theorem dX0_beginTreatment_26 : decode cX0_beginTreatment 26 = .ok (.putfield 30, 3) := by decide +kernel
theorem dX0_beginTreatment_29 : decode cX0_beginTreatment 29 = .ok (.aload_n 0, 1) := by decide +kernel
theorem dX0_beginTreatment_30 : decode cX0_beginTreatment 30 = .ok (.dup, 1) := by decide +kernel
theorem dX0_beginTreatment_31 : decode cX0_beginTreatment 31 = .ok (.getfield 33, 3) := by decide +kernel
theorem dX0_beginTreatment_34 : decode cX0_beginTreatment 34 = .ok (.iload 4, 2) := by decide +kernel
theorem dX0_beginTreatment_36 : decode cX0_beginTreatment 36 = .ok (.iadd, 1) := by decide +kernel
theorem dX0_beginTreatment_37 : decode cX0_beginTreatment 37 = .ok (.putfield 33, 3) := by decide +kernel
theorem dX0_beginTreatment_40 : decode cX0_beginTreatment 40 = .ok (.aload_n 0, 1) := by decide +kernel
theorem dX0_beginTreatment_41 : decode cX0_beginTreatment 41 = .ok (.iload_n 3, 1) := by decide +kernel
theorem dX0_beginTreatment_42 : decode cX0_beginTreatment 42 = .ok (.putfield 36, 3) := by decide +kernel
theorem dX0_beginTreatment_45 : decode cX0_beginTreatment 45 = .ok (.aload_n 0, 1) := by decide +kernel
theorem dX0_beginTreatment_46 : decode cX0_beginTreatment 46 = .ok (.iload_n 3, 1) := by decide +kernel
theorem dX0_beginTreatment_47 : decode cX0_beginTreatment 47 = .ok (.iconst 2, 1) := by decide +kernel
theorem dX0_beginTreatment_48 : decode cX0_beginTreatment 48 = .ok (.iadd, 1) := by decide +kernel
theorem dX0_beginTreatment_49 : decode cX0_beginTreatment 49 = .ok (.iload_n 2, 1) := by decide +kernel
theorem dX0_beginTreatment_50 : decode cX0_beginTreatment 50 = .ok (.bipush 100, 2) := by decide +kernel
theorem dX0_beginTreatment_52 : decode cX0_beginTreatment 52 = .ok (.idiv, 1) := by decide +kernel
theorem dX0_beginTreatment_53 : decode cX0_beginTreatment 53 = .ok (.iadd, 1) := by decide +kernel
theorem dX0_beginTreatment_54 : decode cX0_beginTreatment 54 = .ok (.putfield 39, 3) := by decide +kernel
theorem dX0_beginTreatment_57 : decode cX0_beginTreatment 57 = .ok (.iload_n 2, 1) := by decide +kernel
theorem dX0_beginTreatment_58 : decode cX0_beginTreatment 58 = .ok (.iload 4, 2) := by decide +kernel
theorem dX0_beginTreatment_60 : decode cX0_beginTreatment 60 = .ok (.isub, 1) := by decide +kernel
theorem dX0_beginTreatment_61 : decode cX0_beginTreatment 61 = .ok (.ireturn, 1) := by decide +kernel
theorem dX1_init_0 : decode cX1_init 0 = .ok (.aload_n 0, 1) := by decide +kernel
theorem dX1_init_1 : decode cX1_init 1 = .ok (.invokespecial 3, 3) := by decide +kernel
theorem dX1_init_4 : decode cX1_init 4 = .ok (.aload_n 0, 1) := by decide +kernel
theorem dX1_init_5 : decode cX1_init 5 = .ok (.sipush 500, 3) := by decide +kernel
theorem dX1_init_8 : decode cX1_init 8 = .ok (.putfield 9, 3) := by decide +kernel
theorem dX1_init_11 : decode cX1_init 11 = .ok (.return_, 1) := by decide +kernel
theorem dX1_riverOn_0 : decode cX1_riverOn 0 = .ok (.iload_n 1, 1) := by decide +kernel
theorem dX1_riverOn_1 : decode cX1_riverOn 1 = .ok (.aload_n 0, 1) := by decide +kernel
theorem dX1_riverOn_2 : decode cX1_riverOn 2 = .ok (.getfield 15, 3) := by decide +kernel
theorem dX1_riverOn_5 : decode cX1_riverOn 5 = .ok (.if_icmp .ne 10, 3) := by decide +kernel
theorem dX1_riverOn_8 : decode cX1_riverOn 8 = .ok (.aload_n 0, 1) := by decide +kernel
theorem dX1_riverOn_9 : decode cX1_riverOn 9 = .ok (.getfield 18, 3) := by decide +kernel
theorem dX1_riverOn_12 : decode cX1_riverOn 12 = .ok (.goto 4, 3) := by decide +kernel
theorem dX1_riverOn_15 : decode cX1_riverOn 15 = .ok (.iconst 0, 1) := by decide +kernel
theorem dX1_riverOn_16 : decode cX1_riverOn 16 = .ok (.ireturn, 1) := by decide +kernel
theorem dX1_cleanMinute_0 : decode cX1_cleanMinute 0 = .ok (.aload_n 0, 1) := by decide +kernel
theorem dX1_cleanMinute_1 : decode cX1_cleanMinute 1 = .ok (.getfield 21, 3) := by decide +kernel
theorem dX1_cleanMinute_4 : decode cX1_cleanMinute 4 = .ok (.iconst 3, 1) := by decide +kernel
theorem dX1_cleanMinute_5 : decode cX1_cleanMinute 5 = .ok (.invokestatic 24, 3) := by decide +kernel
theorem dX1_cleanMinute_8 : decode cX1_cleanMinute 8 = .ok (.istore_n 1, 1) := by decide +kernel
theorem dX1_cleanMinute_9 : decode cX1_cleanMinute 9 = .ok (.aload_n 0, 1) := by decide +kernel
theorem dX1_cleanMinute_10 : decode cX1_cleanMinute 10 = .ok (.dup, 1) := by decide +kernel
theorem dX1_cleanMinute_11 : decode cX1_cleanMinute 11 = .ok (.getfield 21, 3) := by decide +kernel
theorem dX1_cleanMinute_14 : decode cX1_cleanMinute 14 = .ok (.iload_n 1, 1) := by decide +kernel
theorem dX1_cleanMinute_15 : decode cX1_cleanMinute 15 = .ok (.isub, 1) := by decide +kernel
theorem dX1_cleanMinute_16 : decode cX1_cleanMinute 16 = .ok (.putfield 21, 3) := by decide +kernel
theorem dX1_cleanMinute_19 : decode cX1_cleanMinute 19 = .ok (.aload_n 0, 1) := by decide +kernel
theorem dX1_cleanMinute_20 : decode cX1_cleanMinute 20 = .ok (.dup, 1) := by decide +kernel
theorem dX1_cleanMinute_21 : decode cX1_cleanMinute 21 = .ok (.getfield 30, 3) := by decide +kernel
theorem dX1_cleanMinute_24 : decode cX1_cleanMinute 24 = .ok (.iload_n 1, 1) := by decide +kernel
theorem dX1_cleanMinute_25 : decode cX1_cleanMinute 25 = .ok (.iadd, 1) := by decide +kernel
theorem dX1_cleanMinute_26 : decode cX1_cleanMinute 26 = .ok (.putfield 30, 3) := by decide +kernel
theorem dX1_cleanMinute_29 : decode cX1_cleanMinute 29 = .ok (.return_, 1) := by decide +kernel
theorem dX2_init_0 : decode cX2_init 0 = .ok (.aload_n 0, 1) := by decide +kernel
theorem dX2_init_1 : decode cX2_init 1 = .ok (.invokespecial 3, 3) := by decide +kernel
theorem dX2_init_4 : decode cX2_init 4 = .ok (.aload_n 0, 1) := by decide +kernel
theorem dX2_init_5 : decode cX2_init 5 = .ok (.iconst 3, 1) := by decide +kernel
theorem dX2_init_6 : decode cX2_init 6 = .ok (.newarray .int, 2) := by decide +kernel
theorem dX2_init_8 : decode cX2_init 8 = .ok (.putfield 9, 3) := by decide +kernel
theorem dX2_init_11 : decode cX2_init 11 = .ok (.aload_n 0, 1) := by decide +kernel
theorem dX2_init_12 : decode cX2_init 12 = .ok (.iconst 3, 1) := by decide +kernel
theorem dX2_init_13 : decode cX2_init 13 = .ok (.iconst 4, 1) := by decide +kernel
theorem dX2_init_14 : decode cX2_init 14 = .ok (.multianewarray 15 2, 4) := by decide +kernel
theorem dX2_init_18 : decode cX2_init 18 = .ok (.putfield 17, 3) := by decide +kernel
theorem dX2_init_21 : decode cX2_init 21 = .ok (.iconst 0, 1) := by decide +kernel
theorem dX2_init_22 : decode cX2_init 22 = .ok (.istore_n 1, 1) := by decide +kernel
theorem dX2_init_23 : decode cX2_init 23 = .ok (.iload_n 1, 1) := by decide +kernel
theorem dX2_init_24 : decode cX2_init 24 = .ok (.iconst 3, 1) := by decide +kernel
theorem dX2_init_25 : decode cX2_init 25 = .ok (.if_icmp .ge 51, 3) := by decide +kernel
theorem dX2_init_28 : decode cX2_init 28 = .ok (.bipush 20, 2) := by decide +kernel
theorem dX2_init_30 : decode cX2_init 30 = .ok (.bipush 40, 2) := by decide +kernel
theorem dX2_init_32 : decode cX2_init 32 = .ok (.iload_n 1, 1) := by decide +kernel
theorem dX2_init_33 : decode cX2_init 33 = .ok (.imul, 1) := by decide +kernel
theorem dX2_init_34 : decode cX2_init 34 = .ok (.iadd, 1) := by decide +kernel
theorem dX2_init_35 : decode cX2_init 35 = .ok (.istore_n 2, 1) := by decide +kernel
theorem dX2_init_36 : decode cX2_init 36 = .ok (.aload_n 0, 1) := by decide +kernel
theorem dX2_init_37 : decode cX2_init 37 = .ok (.getfield 17, 3) := by decide +kernel
theorem dX2_init_40 : decode cX2_init 40 = .ok (.iload_n 1, 1) := by decide +kernel
theorem dX2_init_41 : decode cX2_init 41 = .ok (.aaload, 1) := by decide +kernel
theorem dX2_init_42 : decode cX2_init 42 = .ok (.iconst 1, 1) := by decide +kernel
theorem dX2_init_43 : decode cX2_init 43 = .ok (.iload_n 2, 1) := by decide +kernel
theorem dX2_init_44 : decode cX2_init 44 = .ok (.iastore, 1) := by decide +kernel
theorem dX2_init_45 : decode cX2_init 45 = .ok (.aload_n 0, 1) := by decide +kernel
theorem dX2_init_46 : decode cX2_init 46 = .ok (.getfield 17, 3) := by decide +kernel
theorem dX2_init_49 : decode cX2_init 49 = .ok (.iload_n 1, 1) := by decide +kernel
theorem dX2_init_50 : decode cX2_init 50 = .ok (.aaload, 1) := by decide +kernel
theorem dX2_init_51 : decode cX2_init 51 = .ok (.iconst 2, 1) := by decide +kernel
theorem dX2_init_52 : decode cX2_init 52 = .ok (.iload_n 2, 1) := by decide +kernel
theorem dX2_init_53 : decode cX2_init 53 = .ok (.bipush 30, 2) := by decide +kernel
theorem dX2_init_55 : decode cX2_init 55 = .ok (.isub, 1) := by decide +kernel
theorem dX2_init_56 : decode cX2_init 56 = .ok (.iconst 5, 1) := by decide +kernel
theorem dX2_init_57 : decode cX2_init 57 = .ok (.invokestatic 20, 3) := by decide +kernel
theorem dX2_init_60 : decode cX2_init 60 = .ok (.iastore, 1) := by decide +kernel
theorem dX2_init_61 : decode cX2_init 61 = .ok (.aload_n 0, 1) := by decide +kernel
theorem dX2_init_62 : decode cX2_init 62 = .ok (.getfield 17, 3) := by decide +kernel
theorem dX2_init_65 : decode cX2_init 65 = .ok (.iload_n 1, 1) := by decide +kernel
theorem dX2_init_66 : decode cX2_init 66 = .ok (.aaload, 1) := by decide +kernel
theorem dX2_init_67 : decode cX2_init 67 = .ok (.iconst 3, 1) := by decide +kernel
theorem dX2_init_68 : decode cX2_init 68 = .ok (.iload_n 2, 1) := by decide +kernel
theorem dX2_init_69 : decode cX2_init 69 = .ok (.iastore, 1) := by decide +kernel
theorem dX2_init_70 : decode cX2_init 70 = .ok (.iinc 1 1, 3) := by decide +kernel
theorem dX2_init_73 : decode cX2_init 73 = .ok (.goto (-50), 3) := by decide +kernel
theorem dX2_init_76 : decode cX2_init 76 = .ok (.return_, 1) := by decide +kernel
theorem dX2_inTanks_0 : decode cX2_inTanks 0 = .ok (.iconst 0, 1) := by decide +kernel
theorem dX2_inTanks_1 : decode cX2_inTanks 1 = .ok (.istore_n 1, 1) := by decide +kernel
theorem dX2_inTanks_2 : decode cX2_inTanks 2 = .ok (.iconst 0, 1) := by decide +kernel
theorem dX2_inTanks_3 : decode cX2_inTanks 3 = .ok (.istore_n 2, 1) := by decide +kernel
theorem dX2_inTanks_4 : decode cX2_inTanks 4 = .ok (.iload_n 2, 1) := by decide +kernel
theorem dX2_inTanks_5 : decode cX2_inTanks 5 = .ok (.aload_n 0, 1) := by decide +kernel
theorem dX2_inTanks_6 : decode cX2_inTanks 6 = .ok (.getfield 9, 3) := by decide +kernel
theorem dX2_inTanks_9 : decode cX2_inTanks 9 = .ok (.arraylength, 1) := by decide +kernel
theorem dX2_inTanks_10 : decode cX2_inTanks 10 = .ok (.if_icmp .ge 18, 3) := by decide +kernel
theorem dX2_inTanks_13 : decode cX2_inTanks 13 = .ok (.iload_n 1, 1) := by decide +kernel
theorem dX2_inTanks_14 : decode cX2_inTanks 14 = .ok (.aload_n 0, 1) := by decide +kernel
theorem dX2_inTanks_15 : decode cX2_inTanks 15 = .ok (.getfield 9, 3) := by decide +kernel
theorem dX2_inTanks_18 : decode cX2_inTanks 18 = .ok (.iload_n 2, 1) := by decide +kernel
theorem dX2_inTanks_19 : decode cX2_inTanks 19 = .ok (.iaload, 1) := by decide +kernel
theorem dX2_inTanks_20 : decode cX2_inTanks 20 = .ok (.iadd, 1) := by decide +kernel
theorem dX2_inTanks_21 : decode cX2_inTanks 21 = .ok (.istore_n 1, 1) := by decide +kernel
theorem dX2_inTanks_22 : decode cX2_inTanks 22 = .ok (.iinc 2 1, 3) := by decide +kernel
theorem dX2_inTanks_25 : decode cX2_inTanks 25 = .ok (.goto (-21), 3) := by decide +kernel
theorem dX2_inTanks_28 : decode cX2_inTanks 28 = .ok (.iload_n 1, 1) := by decide +kernel
theorem dX2_inTanks_29 : decode cX2_inTanks 29 = .ok (.ireturn, 1) := by decide +kernel
theorem dX2_holdsFor_0 : decode cX2_holdsFor 0 = .ok (.aload_n 3, 1) := by decide +kernel
theorem dX2_holdsFor_1 : decode cX2_holdsFor 1 = .ok (.getfield 26, 3) := by decide +kernel
theorem dX2_holdsFor_4 : decode cX2_holdsFor 4 = .ok (.ifCond .ne 7, 3) := by decide +kernel
theorem dX2_holdsFor_7 : decode cX2_holdsFor 7 = .ok (.ldc2_w 32, 3) := by decide +kernel
theorem dX2_holdsFor_10 : decode cX2_holdsFor 10 = .ok (.dreturn, 1) := by decide +kernel
theorem dX2_holdsFor_11 : decode cX2_holdsFor 11 = .ok (.aload_n 0, 1) := by decide +kernel
theorem dX2_holdsFor_12 : decode cX2_holdsFor 12 = .ok (.getfield 17, 3) := by decide +kernel
theorem dX2_holdsFor_15 : decode cX2_holdsFor 15 = .ok (.iload_n 1, 1) := by decide +kernel
theorem dX2_holdsFor_16 : decode cX2_holdsFor 16 = .ok (.aaload, 1) := by decide +kernel
theorem dX2_holdsFor_17 : decode cX2_holdsFor 17 = .ok (.aload_n 3, 1) := by decide +kernel
theorem dX2_holdsFor_18 : decode cX2_holdsFor 18 = .ok (.getfield 26, 3) := by decide +kernel
theorem dX2_holdsFor_21 : decode cX2_holdsFor 21 = .ok (.iaload, 1) := by decide +kernel
theorem dX2_holdsFor_22 : decode cX2_holdsFor 22 = .ok (.i2d, 1) := by decide +kernel
theorem dX2_holdsFor_23 : decode cX2_holdsFor 23 = .ok (.iload_n 2, 1) := by decide +kernel
theorem dX2_holdsFor_24 : decode cX2_holdsFor 24 = .ok (.i2d, 1) := by decide +kernel
theorem dX2_holdsFor_25 : decode cX2_holdsFor 25 = .ok (.ldc2_w 34, 3) := by decide +kernel
theorem dX2_holdsFor_28 : decode cX2_holdsFor 28 = .ok (.ddiv, 1) := by decide +kernel
theorem dX2_holdsFor_29 : decode cX2_holdsFor 29 = .ok (.dmul, 1) := by decide +kernel
theorem dX2_holdsFor_30 : decode cX2_holdsFor 30 = .ok (.aload_n 3, 1) := by decide +kernel
theorem dX2_holdsFor_31 : decode cX2_holdsFor 31 = .ok (.invokevirtual 36, 3) := by decide +kernel
theorem dX2_holdsFor_34 : decode cX2_holdsFor 34 = .ok (.dmul, 1) := by decide +kernel
theorem dX2_holdsFor_35 : decode cX2_holdsFor 35 = .ok (.dreturn, 1) := by decide +kernel
theorem dX3_init_0 : decode cX3_init 0 = .ok (.aload_n 0, 1) := by decide +kernel
theorem dX3_init_1 : decode cX3_init 1 = .ok (.invokespecial 3, 3) := by decide +kernel
theorem dX3_init_4 : decode cX3_init 4 = .ok (.aload_n 0, 1) := by decide +kernel
theorem dX3_init_5 : decode cX3_init 5 = .ok (.iconst (-1), 1) := by decide +kernel
theorem dX3_init_6 : decode cX3_init 6 = .ok (.putfield 9, 3) := by decide +kernel
theorem dX3_init_9 : decode cX3_init 9 = .ok (.aload_n 0, 1) := by decide +kernel
theorem dX3_init_10 : decode cX3_init 10 = .ok (.iconst 3, 1) := by decide +kernel
theorem dX3_init_11 : decode cX3_init 11 = .ok (.anewarray 15, 3) := by decide +kernel
theorem dX3_init_14 : decode cX3_init 14 = .ok (.putfield 17, 3) := by decide +kernel
theorem dX3_init_17 : decode cX3_init 17 = .ok (.iconst 0, 1) := by decide +kernel
theorem dX3_init_18 : decode cX3_init 18 = .ok (.istore_n 1, 1) := by decide +kernel
theorem dX3_init_19 : decode cX3_init 19 = .ok (.iload_n 1, 1) := by decide +kernel
theorem dX3_init_20 : decode cX3_init 20 = .ok (.aload_n 0, 1) := by decide +kernel
theorem dX3_init_21 : decode cX3_init 21 = .ok (.getfield 17, 3) := by decide +kernel
theorem dX3_init_24 : decode cX3_init 24 = .ok (.arraylength, 1) := by decide +kernel
theorem dX3_init_25 : decode cX3_init 25 = .ok (.if_icmp .ge 22, 3) := by decide +kernel
theorem dX3_init_28 : decode cX3_init 28 = .ok (.aload_n 0, 1) := by decide +kernel
theorem dX3_init_29 : decode cX3_init 29 = .ok (.getfield 17, 3) := by decide +kernel
theorem dX3_init_32 : decode cX3_init 32 = .ok (.iload_n 1, 1) := by decide +kernel
theorem dX3_init_33 : decode cX3_init 33 = .ok (.new 15, 3) := by decide +kernel
theorem dX3_init_36 : decode cX3_init 36 = .ok (.dup, 1) := by decide +kernel
theorem dX3_init_37 : decode cX3_init 37 = .ok (.invokespecial 21, 3) := by decide +kernel
theorem dX3_init_40 : decode cX3_init 40 = .ok (.aastore, 1) := by decide +kernel
theorem dX3_init_41 : decode cX3_init 41 = .ok (.iinc 1 1, 3) := by decide +kernel
theorem dX3_init_44 : decode cX3_init 44 = .ok (.goto (-25), 3) := by decide +kernel
theorem dX3_init_47 : decode cX3_init 47 = .ok (.return_, 1) := by decide +kernel
theorem dX3_isClosedAt_0 : decode cX3_isClosedAt 0 = .ok (.iload_n 1, 1) := by decide +kernel
theorem dX3_isClosedAt_1 : decode cX3_isClosedAt 1 = .ok (.aload_n 0, 1) := by decide +kernel
theorem dX3_isClosedAt_2 : decode cX3_isClosedAt 2 = .ok (.getfield 9, 3) := by decide +kernel
theorem dX3_isClosedAt_5 : decode cX3_isClosedAt 5 = .ok (.if_icmp .gt 7, 3) := by decide +kernel
theorem dX3_isClosedAt_8 : decode cX3_isClosedAt 8 = .ok (.iconst 1, 1) := by decide +kernel
theorem dX3_isClosedAt_9 : decode cX3_isClosedAt 9 = .ok (.goto 4, 3) := by decide +kernel
theorem dX3_isClosedAt_12 : decode cX3_isClosedAt 12 = .ok (.iconst 0, 1) := by decide +kernel
theorem dX3_isClosedAt_13 : decode cX3_isClosedAt 13 = .ok (.ireturn, 1) := by decide +kernel
theorem dX3_codesSufficeAt_0 : decode cX3_codesSufficeAt 0 = .ok (.aload_n 2, 1) := by decide +kernel
theorem dX3_codesSufficeAt_1 : decode cX3_codesSufficeAt 1 = .ok (.invokevirtual 22, 3) := by decide +kernel
theorem dX3_codesSufficeAt_4 : decode cX3_codesSufficeAt 4 = .ok (.istore_n 3, 1) := by decide +kernel
theorem dX3_codesSufficeAt_5 : decode cX3_codesSufficeAt 5 = .ok (.iconst 0, 1) := by decide +kernel
theorem dX3_codesSufficeAt_6 : decode cX3_codesSufficeAt 6 = .ok (.istore 4, 2) := by decide +kernel
theorem dX3_codesSufficeAt_8 : decode cX3_codesSufficeAt 8 = .ok (.iload 4, 2) := by decide +kernel
theorem dX3_codesSufficeAt_10 : decode cX3_codesSufficeAt 10 = .ok (.aload_n 0, 1) := by decide +kernel
theorem dX3_codesSufficeAt_11 : decode cX3_codesSufficeAt 11 = .ok (.getfield 17, 3) := by decide +kernel
theorem dX3_codesSufficeAt_14 : decode cX3_codesSufficeAt 14 = .ok (.arraylength, 1) := by decide +kernel
theorem dX3_codesSufficeAt_15 : decode cX3_codesSufficeAt 15 = .ok (.if_icmp .ge 27, 3) := by decide +kernel
theorem dX3_codesSufficeAt_18 : decode cX3_codesSufficeAt 18 = .ok (.aload_n 0, 1) := by decide +kernel
theorem dX3_codesSufficeAt_19 : decode cX3_codesSufficeAt 19 = .ok (.getfield 17, 3) := by decide +kernel
theorem dX3_codesSufficeAt_22 : decode cX3_codesSufficeAt 22 = .ok (.iload 4, 2) := by decide +kernel
theorem dX3_codesSufficeAt_24 : decode cX3_codesSufficeAt 24 = .ok (.aaload, 1) := by decide +kernel
theorem dX3_codesSufficeAt_25 : decode cX3_codesSufficeAt 25 = .ok (.iload_n 1, 1) := by decide +kernel
theorem dX3_codesSufficeAt_26 : decode cX3_codesSufficeAt 26 = .ok (.aload_n 2, 1) := by decide +kernel
theorem dX3_codesSufficeAt_27 : decode cX3_codesSufficeAt 27 = .ok (.invokevirtual 28, 3) := by decide +kernel
theorem dX3_codesSufficeAt_30 : decode cX3_codesSufficeAt 30 = .ok (.iload_n 3, 1) := by decide +kernel
theorem dX3_codesSufficeAt_31 : decode cX3_codesSufficeAt 31 = .ok (.if_icmp .ge 5, 3) := by decide +kernel
theorem dX3_codesSufficeAt_34 : decode cX3_codesSufficeAt 34 = .ok (.iconst 0, 1) := by decide +kernel
theorem dX3_codesSufficeAt_35 : decode cX3_codesSufficeAt 35 = .ok (.ireturn, 1) := by decide +kernel
theorem dX3_codesSufficeAt_36 : decode cX3_codesSufficeAt 36 = .ok (.iinc 4 1, 3) := by decide +kernel
theorem dX3_codesSufficeAt_39 : decode cX3_codesSufficeAt 39 = .ok (.goto (-31), 3) := by decide +kernel
theorem dX3_codesSufficeAt_42 : decode cX3_codesSufficeAt 42 = .ok (.iconst 1, 1) := by decide +kernel
theorem dX3_codesSufficeAt_43 : decode cX3_codesSufficeAt 43 = .ok (.ireturn, 1) := by decide +kernel
theorem dX3_isUsableAt_0 : decode cX3_isUsableAt 0 = .ok (.aload_n 0, 1) := by decide +kernel
theorem dX3_isUsableAt_1 : decode cX3_isUsableAt 1 = .ok (.iload_n 1, 1) := by decide +kernel
theorem dX3_isUsableAt_2 : decode cX3_isUsableAt 2 = .ok (.invokevirtual 32, 3) := by decide +kernel
theorem dX3_isUsableAt_5 : decode cX3_isUsableAt 5 = .ok (.ifCond .ne 16, 3) := by decide +kernel
theorem dX3_isUsableAt_8 : decode cX3_isUsableAt 8 = .ok (.aload_n 0, 1) := by decide +kernel
theorem dX3_isUsableAt_9 : decode cX3_isUsableAt 9 = .ok (.iload_n 1, 1) := by decide +kernel
theorem dX3_isUsableAt_10 : decode cX3_isUsableAt 10 = .ok (.aload_n 2, 1) := by decide +kernel
theorem dX3_isUsableAt_11 : decode cX3_isUsableAt 11 = .ok (.invokevirtual 36, 3) := by decide +kernel
theorem dX3_isUsableAt_14 : decode cX3_isUsableAt 14 = .ok (.ifCond .eq 7, 3) := by decide +kernel
theorem dX3_isUsableAt_17 : decode cX3_isUsableAt 17 = .ok (.iconst 1, 1) := by decide +kernel
theorem dX3_isUsableAt_18 : decode cX3_isUsableAt 18 = .ok (.goto 4, 3) := by decide +kernel
theorem dX3_isUsableAt_21 : decode cX3_isUsableAt 21 = .ok (.iconst 0, 1) := by decide +kernel
theorem dX3_isUsableAt_22 : decode cX3_isUsableAt 22 = .ok (.ireturn, 1) := by decide +kernel
theorem dX3_liveMinute_0 : decode cX3_liveMinute 0 = .ok (.iconst 0, 1) := by decide +kernel
theorem dX3_liveMinute_1 : decode cX3_liveMinute 1 = .ok (.istore_n 3, 1) := by decide +kernel
theorem dX3_liveMinute_2 : decode cX3_liveMinute 2 = .ok (.iload_n 3, 1) := by decide +kernel
theorem dX3_liveMinute_3 : decode cX3_liveMinute 3 = .ok (.aload_n 0, 1) := by decide +kernel
theorem dX3_liveMinute_4 : decode cX3_liveMinute 4 = .ok (.getfield 17, 3) := by decide +kernel
theorem dX3_liveMinute_7 : decode cX3_liveMinute 7 = .ok (.arraylength, 1) := by decide +kernel
theorem dX3_liveMinute_8 : decode cX3_liveMinute 8 = .ok (.if_icmp .ge 20, 3) := by decide +kernel
theorem dX3_liveMinute_11 : decode cX3_liveMinute 11 = .ok (.aload_n 0, 1) := by decide +kernel
theorem dX3_liveMinute_12 : decode cX3_liveMinute 12 = .ok (.getfield 17, 3) := by decide +kernel
theorem dX3_liveMinute_15 : decode cX3_liveMinute 15 = .ok (.iload_n 3, 1) := by decide +kernel
theorem dX3_liveMinute_16 : decode cX3_liveMinute 16 = .ok (.aaload, 1) := by decide +kernel
theorem dX3_liveMinute_17 : decode cX3_liveMinute 17 = .ok (.iload_n 1, 1) := by decide +kernel
theorem dX3_liveMinute_18 : decode cX3_liveMinute 18 = .ok (.aload_n 2, 1) := by decide +kernel
theorem dX3_liveMinute_19 : decode cX3_liveMinute 19 = .ok (.invokevirtual 40, 3) := by decide +kernel
theorem dX3_liveMinute_22 : decode cX3_liveMinute 22 = .ok (.iinc 3 1, 3) := by decide +kernel
theorem dX3_liveMinute_25 : decode cX3_liveMinute 25 = .ok (.goto (-23), 3) := by decide +kernel
theorem dX3_liveMinute_28 : decode cX3_liveMinute 28 = .ok (.aload_n 0, 1) := by decide +kernel
theorem dX3_liveMinute_29 : decode cX3_liveMinute 29 = .ok (.iload_n 1, 1) := by decide +kernel
theorem dX3_liveMinute_30 : decode cX3_liveMinute 30 = .ok (.invokevirtual 32, 3) := by decide +kernel
theorem dX3_liveMinute_33 : decode cX3_liveMinute 33 = .ok (.ifCond .eq 7, 3) := by decide +kernel
theorem dX3_liveMinute_36 : decode cX3_liveMinute 36 = .ok (.aload_n 0, 1) := by decide +kernel
theorem dX3_liveMinute_37 : decode cX3_liveMinute 37 = .ok (.invokevirtual 44, 3) := by decide +kernel
theorem dX3_liveMinute_40 : decode cX3_liveMinute 40 = .ok (.return_, 1) := by decide +kernel
theorem dX3_plough_0 : decode cX3_plough 0 = .ok (.aload_n 0, 1) := by decide +kernel
theorem dX3_plough_1 : decode cX3_plough 1 = .ok (.getfield 47, 3) := by decide +kernel
theorem dX3_plough_4 : decode cX3_plough 4 = .ok (.bipush 40, 2) := by decide +kernel
theorem dX3_plough_6 : decode cX3_plough 6 = .ok (.imul, 1) := by decide +kernel
theorem dX3_plough_7 : decode cX3_plough 7 = .ok (.istore_n 1, 1) := by decide +kernel
theorem dX3_plough_8 : decode cX3_plough 8 = .ok (.iconst 0, 1) := by decide +kernel
theorem dX3_plough_9 : decode cX3_plough 9 = .ok (.istore_n 2, 1) := by decide +kernel
theorem dX3_plough_10 : decode cX3_plough 10 = .ok (.iload_n 2, 1) := by decide +kernel
theorem dX3_plough_11 : decode cX3_plough 11 = .ok (.aload_n 0, 1) := by decide +kernel
theorem dX3_plough_12 : decode cX3_plough 12 = .ok (.getfield 17, 3) := by decide +kernel
theorem dX3_plough_15 : decode cX3_plough 15 = .ok (.arraylength, 1) := by decide +kernel
theorem dX3_plough_16 : decode cX3_plough 16 = .ok (.if_icmp .ge 43, 3) := by decide +kernel
theorem dX3_plough_19 : decode cX3_plough 19 = .ok (.aload_n 0, 1) := by decide +kernel
theorem dX3_plough_20 : decode cX3_plough 20 = .ok (.getfield 17, 3) := by decide +kernel
theorem dX3_plough_23 : decode cX3_plough 23 = .ok (.iload_n 2, 1) := by decide +kernel
theorem dX3_plough_24 : decode cX3_plough 24 = .ok (.aaload, 1) := by decide +kernel
theorem dX3_plough_25 : decode cX3_plough 25 = .ok (.iload_n 1, 1) := by decide +kernel
theorem dX3_plough_26 : decode cX3_plough 26 = .ok (.invokevirtual 50, 3) := by decide +kernel
theorem dX3_plough_29 : decode cX3_plough 29 = .ok (.istore_n 3, 1) := by decide +kernel
theorem dX3_plough_30 : decode cX3_plough 30 = .ok (.iload_n 1, 1) := by decide +kernel
theorem dX3_plough_31 : decode cX3_plough 31 = .ok (.iload_n 3, 1) := by decide +kernel
theorem dX3_plough_32 : decode cX3_plough 32 = .ok (.isub, 1) := by decide +kernel
theorem dX3_plough_33 : decode cX3_plough 33 = .ok (.istore_n 1, 1) := by decide +kernel
theorem dX3_plough_34 : decode cX3_plough 34 = .ok (.aload_n 0, 1) := by decide +kernel
theorem dX3_plough_35 : decode cX3_plough 35 = .ok (.dup, 1) := by decide +kernel
theorem dX3_plough_36 : decode cX3_plough 36 = .ok (.getfield 54, 3) := by decide +kernel
theorem dX3_plough_39 : decode cX3_plough 39 = .ok (.iload_n 3, 1) := by decide +kernel
theorem dX3_plough_40 : decode cX3_plough 40 = .ok (.iadd, 1) := by decide +kernel
theorem dX3_plough_41 : decode cX3_plough 41 = .ok (.putfield 54, 3) := by decide +kernel
theorem dX3_plough_44 : decode cX3_plough 44 = .ok (.aload_n 0, 1) := by decide +kernel
theorem dX3_plough_45 : decode cX3_plough 45 = .ok (.getfield 17, 3) := by decide +kernel
theorem dX3_plough_48 : decode cX3_plough 48 = .ok (.iload_n 2, 1) := by decide +kernel
theorem dX3_plough_49 : decode cX3_plough 49 = .ok (.aaload, 1) := by decide +kernel
theorem dX3_plough_50 : decode cX3_plough 50 = .ok (.invokevirtual 57, 3) := by decide +kernel
theorem dX3_plough_53 : decode cX3_plough 53 = .ok (.iinc 2 1, 3) := by decide +kernel
theorem dX3_plough_56 : decode cX3_plough 56 = .ok (.goto (-46), 3) := by decide +kernel
theorem dX3_plough_59 : decode cX3_plough 59 = .ok (.return_, 1) := by decide +kernel
theorem dX4_init_0 : decode cX4_init 0 = .ok (.aload_n 0, 1) := by decide +kernel
theorem dX4_init_1 : decode cX4_init 1 = .ok (.invokespecial 3, 3) := by decide +kernel
theorem dX4_init_4 : decode cX4_init 4 = .ok (.aload_n 0, 1) := by decide +kernel
theorem dX4_init_5 : decode cX4_init 5 = .ok (.iconst 0, 1) := by decide +kernel
theorem dX4_init_6 : decode cX4_init 6 = .ok (.putfield 9, 3) := by decide +kernel
theorem dX4_init_9 : decode cX4_init 9 = .ok (.aload_n 0, 1) := by decide +kernel
theorem dX4_init_10 : decode cX4_init 10 = .ok (.iconst (-1), 1) := by decide +kernel
theorem dX4_init_11 : decode cX4_init 11 = .ok (.putfield 15, 3) := by decide +kernel
theorem dX4_init_14 : decode cX4_init 14 = .ok (.aload_n 0, 1) := by decide +kernel
theorem dX4_init_15 : decode cX4_init 15 = .ok (.iconst (-1), 1) := by decide +kernel
theorem dX4_init_16 : decode cX4_init 16 = .ok (.putfield 18, 3) := by decide +kernel
theorem dX4_init_19 : decode cX4_init 19 = .ok (.return_, 1) := by decide +kernel
theorem dX4_isSprayedAt_0 : decode cX4_isSprayedAt 0 = .ok (.iload_n 1, 1) := by decide +kernel
theorem dX4_isSprayedAt_1 : decode cX4_isSprayedAt 1 = .ok (.aload_n 0, 1) := by decide +kernel
theorem dX4_isSprayedAt_2 : decode cX4_isSprayedAt 2 = .ok (.getfield 15, 3) := by decide +kernel
theorem dX4_isSprayedAt_5 : decode cX4_isSprayedAt 5 = .ok (.if_icmp .gt 7, 3) := by decide +kernel
theorem dX4_isSprayedAt_8 : decode cX4_isSprayedAt 8 = .ok (.iconst 1, 1) := by decide +kernel
theorem dX4_isSprayedAt_9 : decode cX4_isSprayedAt 9 = .ok (.goto 4, 3) := by decide +kernel
theorem dX4_isSprayedAt_12 : decode cX4_isSprayedAt 12 = .ok (.iconst 0, 1) := by decide +kernel
theorem dX4_isSprayedAt_13 : decode cX4_isSprayedAt 13 = .ok (.ireturn, 1) := by decide +kernel
theorem dX4_codeOfWhatLies_0 : decode cX4_codeOfWhatLies 0 = .ok (.aload_n 1, 1) := by decide +kernel
theorem dX4_codeOfWhatLies_1 : decode cX4_codeOfWhatLies 1 = .ok (.getfield 21, 3) := by decide +kernel
theorem dX4_codeOfWhatLies_4 : decode cX4_codeOfWhatLies 4 = .ok (.bipush (-30), 2) := by decide +kernel
theorem dX4_codeOfWhatLies_6 : decode cX4_codeOfWhatLies 6 = .ok (.if_icmp .ge 7, 3) := by decide +kernel
theorem dX4_codeOfWhatLies_9 : decode cX4_codeOfWhatLies 9 = .ok (.iconst 1, 1) := by decide +kernel
theorem dX4_codeOfWhatLies_10 : decode cX4_codeOfWhatLies 10 = .ok (.goto 4, 3) := by decide +kernel
theorem dX4_codeOfWhatLies_13 : decode cX4_codeOfWhatLies 13 = .ok (.iconst 0, 1) := by decide +kernel
theorem dX4_codeOfWhatLies_14 : decode cX4_codeOfWhatLies 14 = .ok (.istore_n 2, 1) := by decide +kernel
theorem dX4_codeOfWhatLies_15 : decode cX4_codeOfWhatLies 15 = .ok (.aload_n 0, 1) := by decide +kernel
theorem dX4_codeOfWhatLies_16 : decode cX4_codeOfWhatLies 16 = .ok (.getfield 9, 3) := by decide +kernel
theorem dX4_codeOfWhatLies_19 : decode cX4_codeOfWhatLies 19 = .ok (.tableswitch 60 0 2 #[25, 28, 30], 25) := by decide +kernel
theorem dX4_codeOfWhatLies_44 : decode cX4_codeOfWhatLies 44 = .ok (.bipush 6, 2) := by decide +kernel
theorem dX4_codeOfWhatLies_46 : decode cX4_codeOfWhatLies 46 = .ok (.ireturn, 1) := by decide +kernel
theorem dX4_codeOfWhatLies_47 : decode cX4_codeOfWhatLies 47 = .ok (.iconst 5, 1) := by decide +kernel
theorem dX4_codeOfWhatLies_48 : decode cX4_codeOfWhatLies 48 = .ok (.ireturn, 1) := by decide +kernel
theorem dX4_codeOfWhatLies_49 : decode cX4_codeOfWhatLies 49 = .ok (.aload_n 0, 1) := by decide +kernel
theorem dX4_codeOfWhatLies_50 : decode cX4_codeOfWhatLies 50 = .ok (.getfield 26, 3) := by decide +kernel
theorem dX4_codeOfWhatLies_53 : decode cX4_codeOfWhatLies 53 = .ok (.bipush 30, 2) := by decide +kernel
theorem dX4_codeOfWhatLies_55 : decode cX4_codeOfWhatLies 55 = .ok (.if_icmp .gt 9, 3) := by decide +kernel
theorem dX4_codeOfWhatLies_58 : decode cX4_codeOfWhatLies 58 = .ok (.iload_n 2, 1) := by decide +kernel
theorem dX4_codeOfWhatLies_59 : decode cX4_codeOfWhatLies 59 = .ok (.ifCond .eq 5, 3) := by decide +kernel
theorem dX4_codeOfWhatLies_62 : decode cX4_codeOfWhatLies 62 = .ok (.iconst 5, 1) := by decide +kernel
theorem dX4_codeOfWhatLies_63 : decode cX4_codeOfWhatLies 63 = .ok (.ireturn, 1) := by decide +kernel
theorem dX4_codeOfWhatLies_64 : decode cX4_codeOfWhatLies 64 = .ok (.aload_n 0, 1) := by decide +kernel
theorem dX4_codeOfWhatLies_65 : decode cX4_codeOfWhatLies 65 = .ok (.getfield 26, 3) := by decide +kernel
theorem dX4_codeOfWhatLies_68 : decode cX4_codeOfWhatLies 68 = .ok (.bipush 100, 2) := by decide +kernel
theorem dX4_codeOfWhatLies_70 : decode cX4_codeOfWhatLies 70 = .ok (.if_icmp .gt 7, 3) := by decide +kernel
theorem dX4_codeOfWhatLies_73 : decode cX4_codeOfWhatLies 73 = .ok (.iconst 3, 1) := by decide +kernel
theorem dX4_codeOfWhatLies_74 : decode cX4_codeOfWhatLies 74 = .ok (.goto 4, 3) := by decide +kernel
theorem dX4_codeOfWhatLies_77 : decode cX4_codeOfWhatLies 77 = .ok (.iconst 2, 1) := by decide +kernel
theorem dX4_codeOfWhatLies_78 : decode cX4_codeOfWhatLies 78 = .ok (.ireturn, 1) := by decide +kernel
theorem dX4_codeOfWhatLies_79 : decode cX4_codeOfWhatLies 79 = .ok (.iload_n 2, 1) := by decide +kernel
theorem dX4_codeOfWhatLies_80 : decode cX4_codeOfWhatLies 80 = .ok (.ifCond .eq 7, 3) := by decide +kernel
theorem dX4_codeOfWhatLies_83 : decode cX4_codeOfWhatLies 83 = .ok (.iconst 1, 1) := by decide +kernel
theorem dX4_codeOfWhatLies_84 : decode cX4_codeOfWhatLies 84 = .ok (.goto 4, 3) := by decide +kernel
theorem dX4_codeOfWhatLies_87 : decode cX4_codeOfWhatLies 87 = .ok (.iconst 0, 1) := by decide +kernel
theorem dX4_codeOfWhatLies_88 : decode cX4_codeOfWhatLies 88 = .ok (.ireturn, 1) := by decide +kernel
theorem dX4_codeAt_0 : decode cX4_codeAt 0 = .ok (.aload_n 0, 1) := by decide +kernel
theorem dX4_codeAt_1 : decode cX4_codeAt 1 = .ok (.aload_n 2, 1) := by decide +kernel
theorem dX4_codeAt_2 : decode cX4_codeAt 2 = .ok (.invokevirtual 29, 3) := by decide +kernel
theorem dX4_codeAt_5 : decode cX4_codeAt 5 = .ok (.istore_n 3, 1) := by decide +kernel
theorem dX4_codeAt_6 : decode cX4_codeAt 6 = .ok (.aload_n 0, 1) := by decide +kernel
theorem dX4_codeAt_7 : decode cX4_codeAt 7 = .ok (.getfield 18, 3) := by decide +kernel
theorem dX4_codeAt_10 : decode cX4_codeAt 10 = .ok (.iconst (-1), 1) := by decide +kernel
theorem dX4_codeAt_11 : decode cX4_codeAt 11 = .ok (.if_icmp .eq 18, 3) := by decide +kernel
theorem dX4_codeAt_14 : decode cX4_codeAt 14 = .ok (.iload_n 1, 1) := by decide +kernel
theorem dX4_codeAt_15 : decode cX4_codeAt 15 = .ok (.aload_n 0, 1) := by decide +kernel
theorem dX4_codeAt_16 : decode cX4_codeAt 16 = .ok (.getfield 18, 3) := by decide +kernel
theorem dX4_codeAt_19 : decode cX4_codeAt 19 = .ok (.isub, 1) := by decide +kernel
theorem dX4_codeAt_20 : decode cX4_codeAt 20 = .ok (.bipush 30, 2) := by decide +kernel
theorem dX4_codeAt_22 : decode cX4_codeAt 22 = .ok (.if_icmp .gt 7, 3) := by decide +kernel
theorem dX4_codeAt_25 : decode cX4_codeAt 25 = .ok (.iconst 1, 1) := by decide +kernel
theorem dX4_codeAt_26 : decode cX4_codeAt 26 = .ok (.goto 4, 3) := by decide +kernel
theorem dX4_codeAt_29 : decode cX4_codeAt 29 = .ok (.iconst 0, 1) := by decide +kernel
theorem dX4_codeAt_30 : decode cX4_codeAt 30 = .ok (.istore 4, 2) := by decide +kernel
theorem dX4_codeAt_32 : decode cX4_codeAt 32 = .ok (.iload 4, 2) := by decide +kernel
theorem dX4_codeAt_34 : decode cX4_codeAt 34 = .ok (.ifCond .eq 18, 3) := by decide +kernel
theorem dX4_codeAt_37 : decode cX4_codeAt 37 = .ok (.aload_n 0, 1) := by decide +kernel
theorem dX4_codeAt_38 : decode cX4_codeAt 38 = .ok (.getfield 33, 3) := by decide +kernel
theorem dX4_codeAt_41 : decode cX4_codeAt 41 = .ok (.iload_n 3, 1) := by decide +kernel
theorem dX4_codeAt_42 : decode cX4_codeAt 42 = .ok (.if_icmp .ge 10, 3) := by decide +kernel
theorem dX4_codeAt_45 : decode cX4_codeAt 45 = .ok (.aload_n 0, 1) := by decide +kernel
theorem dX4_codeAt_46 : decode cX4_codeAt 46 = .ok (.getfield 33, 3) := by decide +kernel
theorem dX4_codeAt_49 : decode cX4_codeAt 49 = .ok (.goto 4, 3) := by decide +kernel
theorem dX4_codeAt_52 : decode cX4_codeAt 52 = .ok (.iload_n 3, 1) := by decide +kernel
theorem dX4_codeAt_53 : decode cX4_codeAt 53 = .ok (.ireturn, 1) := by decide +kernel
theorem dX4_liveMinute_0 : decode cX4_liveMinute 0 = .ok (.aload_n 2, 1) := by decide +kernel
theorem dX4_liveMinute_1 : decode cX4_liveMinute 1 = .ok (.getfield 21, 3) := by decide +kernel
theorem dX4_liveMinute_4 : decode cX4_liveMinute 4 = .ok (.ifCond .ge 15, 3) := by decide +kernel
theorem dX4_liveMinute_7 : decode cX4_liveMinute 7 = .ok (.aload_n 0, 1) := by decide +kernel
theorem dX4_liveMinute_8 : decode cX4_liveMinute 8 = .ok (.iload_n 1, 1) := by decide +kernel
theorem dX4_liveMinute_9 : decode cX4_liveMinute 9 = .ok (.invokevirtual 36, 3) := by decide +kernel
theorem dX4_liveMinute_12 : decode cX4_liveMinute 12 = .ok (.ifCond .ne 7, 3) := by decide +kernel
theorem dX4_liveMinute_15 : decode cX4_liveMinute 15 = .ok (.iconst 1, 1) := by decide +kernel
theorem dX4_liveMinute_16 : decode cX4_liveMinute 16 = .ok (.goto 4, 3) := by decide +kernel
theorem dX4_liveMinute_19 : decode cX4_liveMinute 19 = .ok (.iconst 0, 1) := by decide +kernel
theorem dX4_liveMinute_20 : decode cX4_liveMinute 20 = .ok (.istore_n 3, 1) := by decide +kernel
theorem dX4_liveMinute_21 : decode cX4_liveMinute 21 = .ok (.aload_n 2, 1) := by decide +kernel
theorem dX4_liveMinute_22 : decode cX4_liveMinute 22 = .ok (.getfield 40, 3) := by decide +kernel
theorem dX4_liveMinute_25 : decode cX4_liveMinute 25 = .ok (.iconst 1, 1) := by decide +kernel
theorem dX4_liveMinute_26 : decode cX4_liveMinute 26 = .ok (.if_icmp .ne 14, 3) := by decide +kernel
theorem dX4_liveMinute_29 : decode cX4_liveMinute 29 = .ok (.aload_n 0, 1) := by decide +kernel
theorem dX4_liveMinute_30 : decode cX4_liveMinute 30 = .ok (.aload_n 2, 1) := by decide +kernel
theorem dX4_liveMinute_31 : decode cX4_liveMinute 31 = .ok (.getfield 43, 3) := by decide +kernel
theorem dX4_liveMinute_34 : decode cX4_liveMinute 34 = .ok (.invokevirtual 46, 3) := by decide +kernel
theorem dX4_liveMinute_37 : decode cX4_liveMinute 37 = .ok (.goto 39, 3) := by decide +kernel
theorem dX4_liveMinute_40 : decode cX4_liveMinute 40 = .ok (.aload_n 2, 1) := by decide +kernel
theorem dX4_liveMinute_41 : decode cX4_liveMinute 41 = .ok (.getfield 40, 3) := by decide +kernel
theorem dX4_liveMinute_44 : decode cX4_liveMinute 44 = .ok (.iconst 2, 1) := by decide +kernel
theorem dX4_liveMinute_45 : decode cX4_liveMinute 45 = .ok (.if_icmp .ne 15, 3) := by decide +kernel
theorem dX4_liveMinute_48 : decode cX4_liveMinute 48 = .ok (.aload_n 0, 1) := by decide +kernel
theorem dX4_liveMinute_49 : decode cX4_liveMinute 49 = .ok (.aload_n 2, 1) := by decide +kernel
theorem dX4_liveMinute_50 : decode cX4_liveMinute 50 = .ok (.getfield 43, 3) := by decide +kernel
theorem dX4_liveMinute_53 : decode cX4_liveMinute 53 = .ok (.iload_n 3, 1) := by decide +kernel
theorem dX4_liveMinute_54 : decode cX4_liveMinute 54 = .ok (.invokevirtual 50, 3) := by decide +kernel
theorem dX4_liveMinute_57 : decode cX4_liveMinute 57 = .ok (.goto 19, 3) := by decide +kernel
theorem dX4_liveMinute_60 : decode cX4_liveMinute 60 = .ok (.aload_n 2, 1) := by decide +kernel
theorem dX4_liveMinute_61 : decode cX4_liveMinute 61 = .ok (.getfield 40, 3) := by decide +kernel
theorem dX4_liveMinute_64 : decode cX4_liveMinute 64 = .ok (.iconst 3, 1) := by decide +kernel
theorem dX4_liveMinute_65 : decode cX4_liveMinute 65 = .ok (.if_icmp .ne 11, 3) := by decide +kernel
theorem dX4_liveMinute_68 : decode cX4_liveMinute 68 = .ok (.iload_n 3, 1) := by decide +kernel
theorem dX4_liveMinute_69 : decode cX4_liveMinute 69 = .ok (.ifCond .eq 7, 3) := by decide +kernel
theorem dX4_liveMinute_72 : decode cX4_liveMinute 72 = .ok (.aload_n 0, 1) := by decide +kernel
theorem dX4_liveMinute_73 : decode cX4_liveMinute 73 = .ok (.invokevirtual 54, 3) := by decide +kernel
theorem dX4_liveMinute_76 : decode cX4_liveMinute 76 = .ok (.aload_n 2, 1) := by decide +kernel
theorem dX4_liveMinute_77 : decode cX4_liveMinute 77 = .ok (.getfield 21, 3) := by decide +kernel
theorem dX4_liveMinute_80 : decode cX4_liveMinute 80 = .ok (.bipush 20, 2) := by decide +kernel
theorem dX4_liveMinute_82 : decode cX4_liveMinute 82 = .ok (.if_icmp .le 7, 3) := by decide +kernel
theorem dX4_liveMinute_85 : decode cX4_liveMinute 85 = .ok (.aload_n 0, 1) := by decide +kernel
theorem dX4_liveMinute_86 : decode cX4_liveMinute 86 = .ok (.invokevirtual 57, 3) := by decide +kernel
theorem dX4_liveMinute_89 : decode cX4_liveMinute 89 = .ok (.iload_n 3, 1) := by decide +kernel
theorem dX4_liveMinute_90 : decode cX4_liveMinute 90 = .ok (.ifCond .eq 15, 3) := by decide +kernel
theorem dX4_liveMinute_93 : decode cX4_liveMinute 93 = .ok (.aload_n 0, 1) := by decide +kernel
theorem dX4_liveMinute_94 : decode cX4_liveMinute 94 = .ok (.getfield 9, 3) := by decide +kernel
theorem dX4_liveMinute_97 : decode cX4_liveMinute 97 = .ok (.iconst 1, 1) := by decide +kernel
theorem dX4_liveMinute_98 : decode cX4_liveMinute 98 = .ok (.if_icmp .ne 7, 3) := by decide +kernel
theorem dX4_liveMinute_101 : decode cX4_liveMinute 101 = .ok (.aload_n 0, 1) := by decide +kernel
theorem dX4_liveMinute_102 : decode cX4_liveMinute 102 = .ok (.invokevirtual 54, 3) := by decide +kernel
theorem dX4_liveMinute_105 : decode cX4_liveMinute 105 = .ok (.return_, 1) := by decide +kernel
theorem dX4_snowOn_0 : decode cX4_snowOn 0 = .ok (.aload_n 0, 1) := by decide +kernel
theorem dX4_snowOn_1 : decode cX4_snowOn 1 = .ok (.getfield 9, 3) := by decide +kernel
theorem dX4_snowOn_4 : decode cX4_snowOn 4 = .ok (.iconst 3, 1) := by decide +kernel
theorem dX4_snowOn_5 : decode cX4_snowOn 5 = .ok (.if_icmp .eq 8, 3) := by decide +kernel
theorem dX4_snowOn_8 : decode cX4_snowOn 8 = .ok (.aload_n 0, 1) := by decide +kernel
theorem dX4_snowOn_9 : decode cX4_snowOn 9 = .ok (.iconst 2, 1) := by decide +kernel
theorem dX4_snowOn_10 : decode cX4_snowOn 10 = .ok (.putfield 9, 3) := by decide +kernel
theorem dX4_snowOn_13 : decode cX4_snowOn 13 = .ok (.aload_n 0, 1) := by decide +kernel
theorem dX4_snowOn_14 : decode cX4_snowOn 14 = .ok (.iload_n 1, 1) := by decide +kernel
theorem dX4_snowOn_15 : decode cX4_snowOn 15 = .ok (.invokevirtual 60, 3) := by decide +kernel
theorem dX4_snowOn_18 : decode cX4_snowOn 18 = .ok (.return_, 1) := by decide +kernel
theorem dX4_rainOn_0 : decode cX4_rainOn 0 = .ok (.iload_n 2, 1) := by decide +kernel
theorem dX4_rainOn_1 : decode cX4_rainOn 1 = .ok (.ifCond .eq 16, 3) := by decide +kernel
theorem dX4_rainOn_4 : decode cX4_rainOn 4 = .ok (.aload_n 0, 1) := by decide +kernel
theorem dX4_rainOn_5 : decode cX4_rainOn 5 = .ok (.iconst 3, 1) := by decide +kernel
theorem dX4_rainOn_6 : decode cX4_rainOn 6 = .ok (.putfield 9, 3) := by decide +kernel
theorem dX4_rainOn_9 : decode cX4_rainOn 9 = .ok (.aload_n 0, 1) := by decide +kernel
theorem dX4_rainOn_10 : decode cX4_rainOn 10 = .ok (.iload_n 1, 1) := by decide +kernel
theorem dX4_rainOn_11 : decode cX4_rainOn 11 = .ok (.invokevirtual 60, 3) := by decide +kernel
theorem dX4_rainOn_14 : decode cX4_rainOn 14 = .ok (.goto 20, 3) := by decide +kernel
theorem dX4_rainOn_17 : decode cX4_rainOn 17 = .ok (.aload_n 0, 1) := by decide +kernel
theorem dX4_rainOn_18 : decode cX4_rainOn 18 = .ok (.getfield 9, 3) := by decide +kernel
theorem dX4_rainOn_21 : decode cX4_rainOn 21 = .ok (.ifCond .ne 13, 3) := by decide +kernel
theorem dX4_rainOn_24 : decode cX4_rainOn 24 = .ok (.aload_n 0, 1) := by decide +kernel
theorem dX4_rainOn_25 : decode cX4_rainOn 25 = .ok (.iconst 1, 1) := by decide +kernel
theorem dX4_rainOn_26 : decode cX4_rainOn 26 = .ok (.putfield 9, 3) := by decide +kernel
theorem dX4_rainOn_29 : decode cX4_rainOn 29 = .ok (.aload_n 0, 1) := by decide +kernel
theorem dX4_rainOn_30 : decode cX4_rainOn 30 = .ok (.iconst 0, 1) := by decide +kernel
theorem dX4_rainOn_31 : decode cX4_rainOn 31 = .ok (.putfield 26, 3) := by decide +kernel
theorem dX4_rainOn_34 : decode cX4_rainOn 34 = .ok (.return_, 1) := by decide +kernel
theorem dX4_iceOver_0 : decode cX4_iceOver 0 = .ok (.aload_n 0, 1) := by decide +kernel
theorem dX4_iceOver_1 : decode cX4_iceOver 1 = .ok (.getfield 9, 3) := by decide +kernel
theorem dX4_iceOver_4 : decode cX4_iceOver 4 = .ok (.ifCond .eq 11, 3) := by decide +kernel
theorem dX4_iceOver_7 : decode cX4_iceOver 7 = .ok (.aload_n 0, 1) := by decide +kernel
theorem dX4_iceOver_8 : decode cX4_iceOver 8 = .ok (.getfield 9, 3) := by decide +kernel
theorem dX4_iceOver_11 : decode cX4_iceOver 11 = .ok (.iconst 1, 1) := by decide +kernel
theorem dX4_iceOver_12 : decode cX4_iceOver 12 = .ok (.if_icmp .ne 13, 3) := by decide +kernel
theorem dX4_iceOver_15 : decode cX4_iceOver 15 = .ok (.aload_n 0, 1) := by decide +kernel
theorem dX4_iceOver_16 : decode cX4_iceOver 16 = .ok (.iconst 3, 1) := by decide +kernel
theorem dX4_iceOver_17 : decode cX4_iceOver 17 = .ok (.putfield 9, 3) := by decide +kernel
theorem dX4_iceOver_20 : decode cX4_iceOver 20 = .ok (.aload_n 0, 1) := by decide +kernel
theorem dX4_iceOver_21 : decode cX4_iceOver 21 = .ok (.iconst 1, 1) := by decide +kernel
theorem dX4_iceOver_22 : decode cX4_iceOver 22 = .ok (.putfield 26, 3) := by decide +kernel
theorem dX4_iceOver_25 : decode cX4_iceOver 25 = .ok (.return_, 1) := by decide +kernel
theorem dX4_melt_0 : decode cX4_melt 0 = .ok (.aload_n 0, 1) := by decide +kernel
theorem dX4_melt_1 : decode cX4_melt 1 = .ok (.getfield 9, 3) := by decide +kernel
theorem dX4_melt_4 : decode cX4_melt 4 = .ok (.iconst 2, 1) := by decide +kernel
theorem dX4_melt_5 : decode cX4_melt 5 = .ok (.if_icmp .eq 12, 3) := by decide +kernel
theorem dX4_melt_8 : decode cX4_melt 8 = .ok (.aload_n 0, 1) := by decide +kernel
theorem dX4_melt_9 : decode cX4_melt 9 = .ok (.getfield 9, 3) := by decide +kernel
theorem dX4_melt_12 : decode cX4_melt 12 = .ok (.iconst 3, 1) := by decide +kernel
theorem dX4_melt_13 : decode cX4_melt 13 = .ok (.if_icmp .eq 4, 3) := by decide +kernel
theorem dX4_melt_16 : decode cX4_melt 16 = .ok (.return_, 1) := by decide +kernel
theorem dX4_melt_17 : decode cX4_melt 17 = .ok (.aload_n 0, 1) := by decide +kernel
theorem dX4_melt_18 : decode cX4_melt 18 = .ok (.dup, 1) := by decide +kernel
theorem dX4_melt_19 : decode cX4_melt 19 = .ok (.getfield 26, 3) := by decide +kernel
theorem dX4_melt_22 : decode cX4_melt 22 = .ok (.iconst 2, 1) := by decide +kernel
theorem dX4_melt_23 : decode cX4_melt 23 = .ok (.isub, 1) := by decide +kernel
theorem dX4_melt_24 : decode cX4_melt 24 = .ok (.putfield 26, 3) := by decide +kernel
theorem dX4_melt_27 : decode cX4_melt 27 = .ok (.aload_n 0, 1) := by decide +kernel
theorem dX4_melt_28 : decode cX4_melt 28 = .ok (.getfield 26, 3) := by decide +kernel
theorem dX4_melt_31 : decode cX4_melt 31 = .ok (.ifCond .gt 13, 3) := by decide +kernel
theorem dX4_melt_34 : decode cX4_melt 34 = .ok (.aload_n 0, 1) := by decide +kernel
theorem dX4_melt_35 : decode cX4_melt 35 = .ok (.iconst 1, 1) := by decide +kernel
theorem dX4_melt_36 : decode cX4_melt 36 = .ok (.putfield 9, 3) := by decide +kernel
theorem dX4_melt_39 : decode cX4_melt 39 = .ok (.aload_n 0, 1) := by decide +kernel
theorem dX4_melt_40 : decode cX4_melt 40 = .ok (.iconst 0, 1) := by decide +kernel
theorem dX4_melt_41 : decode cX4_melt 41 = .ok (.putfield 26, 3) := by decide +kernel
theorem dX4_melt_44 : decode cX4_melt 44 = .ok (.return_, 1) := by decide +kernel
theorem dX4_addDepth_0 : decode cX4_addDepth 0 = .ok (.aload_n 0, 1) := by decide +kernel
theorem dX4_addDepth_1 : decode cX4_addDepth 1 = .ok (.aload_n 0, 1) := by decide +kernel
theorem dX4_addDepth_2 : decode cX4_addDepth 2 = .ok (.getfield 26, 3) := by decide +kernel
theorem dX4_addDepth_5 : decode cX4_addDepth 5 = .ok (.iload_n 1, 1) := by decide +kernel
theorem dX4_addDepth_6 : decode cX4_addDepth 6 = .ok (.iadd, 1) := by decide +kernel
theorem dX4_addDepth_7 : decode cX4_addDepth 7 = .ok (.sipush 5000, 3) := by decide +kernel
theorem dX4_addDepth_10 : decode cX4_addDepth 10 = .ok (.invokestatic 63, 3) := by decide +kernel
theorem dX4_addDepth_13 : decode cX4_addDepth 13 = .ok (.putfield 26, 3) := by decide +kernel
theorem dX4_addDepth_16 : decode cX4_addDepth 16 = .ok (.return_, 1) := by decide +kernel
theorem dX4_ploughUpTo_0 : decode cX4_ploughUpTo 0 = .ok (.aload_n 0, 1) := by decide +kernel
theorem dX4_ploughUpTo_1 : decode cX4_ploughUpTo 1 = .ok (.getfield 9, 3) := by decide +kernel
theorem dX4_ploughUpTo_4 : decode cX4_ploughUpTo 4 = .ok (.iconst 2, 1) := by decide +kernel
theorem dX4_ploughUpTo_5 : decode cX4_ploughUpTo 5 = .ok (.if_icmp .eq 5, 3) := by decide +kernel
theorem dX4_ploughUpTo_8 : decode cX4_ploughUpTo 8 = .ok (.iconst 0, 1) := by decide +kernel
theorem dX4_ploughUpTo_9 : decode cX4_ploughUpTo 9 = .ok (.ireturn, 1) := by decide +kernel
theorem dX4_ploughUpTo_10 : decode cX4_ploughUpTo 10 = .ok (.aload_n 0, 1) := by decide +kernel
theorem dX4_ploughUpTo_11 : decode cX4_ploughUpTo 11 = .ok (.getfield 26, 3) := by decide +kernel
theorem dX4_ploughUpTo_14 : decode cX4_ploughUpTo 14 = .ok (.iload_n 1, 1) := by decide +kernel
theorem dX4_ploughUpTo_15 : decode cX4_ploughUpTo 15 = .ok (.invokestatic 63, 3) := by decide +kernel
theorem dX4_ploughUpTo_18 : decode cX4_ploughUpTo 18 = .ok (.istore_n 2, 1) := by decide +kernel
theorem dX4_ploughUpTo_19 : decode cX4_ploughUpTo 19 = .ok (.aload_n 0, 1) := by decide +kernel
theorem dX4_ploughUpTo_20 : decode cX4_ploughUpTo 20 = .ok (.dup, 1) := by decide +kernel
theorem dX4_ploughUpTo_21 : decode cX4_ploughUpTo 21 = .ok (.getfield 26, 3) := by decide +kernel
theorem dX4_ploughUpTo_24 : decode cX4_ploughUpTo 24 = .ok (.iload_n 2, 1) := by decide +kernel
theorem dX4_ploughUpTo_25 : decode cX4_ploughUpTo 25 = .ok (.isub, 1) := by decide +kernel
theorem dX4_ploughUpTo_26 : decode cX4_ploughUpTo 26 = .ok (.putfield 26, 3) := by decide +kernel
theorem dX4_ploughUpTo_29 : decode cX4_ploughUpTo 29 = .ok (.iload_n 2, 1) := by decide +kernel
theorem dX4_ploughUpTo_30 : decode cX4_ploughUpTo 30 = .ok (.ireturn, 1) := by decide +kernel
theorem dX4_wetIfBare_0 : decode cX4_wetIfBare 0 = .ok (.aload_n 0, 1) := by decide +kernel
theorem dX4_wetIfBare_1 : decode cX4_wetIfBare 1 = .ok (.getfield 9, 3) := by decide +kernel
theorem dX4_wetIfBare_4 : decode cX4_wetIfBare 4 = .ok (.iconst 2, 1) := by decide +kernel
theorem dX4_wetIfBare_5 : decode cX4_wetIfBare 5 = .ok (.if_icmp .ne 15, 3) := by decide +kernel
theorem dX4_wetIfBare_8 : decode cX4_wetIfBare 8 = .ok (.aload_n 0, 1) := by decide +kernel
theorem dX4_wetIfBare_9 : decode cX4_wetIfBare 9 = .ok (.getfield 26, 3) := by decide +kernel
theorem dX4_wetIfBare_12 : decode cX4_wetIfBare 12 = .ok (.ifCond .ne 8, 3) := by decide +kernel
theorem dX4_wetIfBare_15 : decode cX4_wetIfBare 15 = .ok (.aload_n 0, 1) := by decide +kernel
theorem dX4_wetIfBare_16 : decode cX4_wetIfBare 16 = .ok (.iconst 1, 1) := by decide +kernel
theorem dX4_wetIfBare_17 : decode cX4_wetIfBare 17 = .ok (.putfield 9, 3) := by decide +kernel
theorem dX4_wetIfBare_20 : decode cX4_wetIfBare 20 = .ok (.return_, 1) := by decide +kernel
theorem dX5_init_0 : decode cX5_init 0 = .ok (.aload_n 0, 1) := by decide +kernel
theorem dX5_init_1 : decode cX5_init 1 = .ok (.invokespecial 1, 3) := by decide +kernel
theorem dX5_init_4 : decode cX5_init 4 = .ok (.return_, 1) := by decide +kernel
theorem dX5_codeNeeded_0 : decode cX5_codeNeeded 0 = .ok (.aload_n 0, 1) := by decide +kernel
theorem dX5_codeNeeded_1 : decode cX5_codeNeeded 1 = .ok (.getfield 7, 3) := by decide +kernel
theorem dX5_codeNeeded_4 : decode cX5_codeNeeded 4 = .ok (.bipush 10, 2) := by decide +kernel
theorem dX5_codeNeeded_6 : decode cX5_codeNeeded 6 = .ok (.if_icmp .gt 5, 3) := by decide +kernel
theorem dX5_codeNeeded_9 : decode cX5_codeNeeded 9 = .ok (.iconst 1, 1) := by decide +kernel
theorem dX5_codeNeeded_10 : decode cX5_codeNeeded 10 = .ok (.ireturn, 1) := by decide +kernel
theorem dX5_codeNeeded_11 : decode cX5_codeNeeded 11 = .ok (.aload_n 0, 1) := by decide +kernel
theorem dX5_codeNeeded_12 : decode cX5_codeNeeded 12 = .ok (.getfield 7, 3) := by decide +kernel
theorem dX5_codeNeeded_15 : decode cX5_codeNeeded 15 = .ok (.bipush 20, 2) := by decide +kernel
theorem dX5_codeNeeded_17 : decode cX5_codeNeeded 17 = .ok (.if_icmp .gt 5, 3) := by decide +kernel
theorem dX5_codeNeeded_20 : decode cX5_codeNeeded 20 = .ok (.iconst 3, 1) := by decide +kernel
theorem dX5_codeNeeded_21 : decode cX5_codeNeeded 21 = .ok (.ireturn, 1) := by decide +kernel
theorem dX5_codeNeeded_22 : decode cX5_codeNeeded 22 = .ok (.aload_n 0, 1) := by decide +kernel
theorem dX5_codeNeeded_23 : decode cX5_codeNeeded 23 = .ok (.getfield 7, 3) := by decide +kernel
theorem dX5_codeNeeded_26 : decode cX5_codeNeeded 26 = .ok (.bipush 30, 2) := by decide +kernel
theorem dX5_codeNeeded_28 : decode cX5_codeNeeded 28 = .ok (.if_icmp .gt 7, 3) := by decide +kernel
theorem dX5_codeNeeded_31 : decode cX5_codeNeeded 31 = .ok (.iconst 5, 1) := by decide +kernel
theorem dX5_codeNeeded_32 : decode cX5_codeNeeded 32 = .ok (.goto 5, 3) := by decide +kernel
theorem dX5_codeNeeded_35 : decode cX5_codeNeeded 35 = .ok (.bipush 7, 2) := by decide +kernel
theorem dX5_codeNeeded_37 : decode cX5_codeNeeded 37 = .ok (.ireturn, 1) := by decide +kernel
theorem dX5_holdFactor_0 : decode cX5_holdFactor 0 = .ok (.aload_n 0, 1) := by decide +kernel
theorem dX5_holdFactor_1 : decode cX5_holdFactor 1 = .ok (.getfield 13, 3) := by decide +kernel
theorem dX5_holdFactor_4 : decode cX5_holdFactor 4 = .ok (.bipush (-30), 2) := by decide +kernel
theorem dX5_holdFactor_6 : decode cX5_holdFactor 6 = .ok (.if_icmp .lt 5, 3) := by decide +kernel
theorem dX5_holdFactor_9 : decode cX5_holdFactor 9 = .ok (.dconst 1, 1) := by decide +kernel
theorem dX5_holdFactor_10 : decode cX5_holdFactor 10 = .ok (.dreturn, 1) := by decide +kernel
theorem dX5_holdFactor_11 : decode cX5_holdFactor 11 = .ok (.aload_n 0, 1) := by decide +kernel
theorem dX5_holdFactor_12 : decode cX5_holdFactor 12 = .ok (.getfield 13, 3) := by decide +kernel
theorem dX5_holdFactor_15 : decode cX5_holdFactor 15 = .ok (.bipush (-100), 2) := by decide +kernel
theorem dX5_holdFactor_17 : decode cX5_holdFactor 17 = .ok (.if_icmp .lt 9, 3) := by decide +kernel
theorem dX5_holdFactor_20 : decode cX5_holdFactor 20 = .ok (.ldc2_w 16, 3) := by decide +kernel
theorem dX5_holdFactor_23 : decode cX5_holdFactor 23 = .ok (.goto 6, 3) := by decide +kernel
theorem dX5_holdFactor_26 : decode cX5_holdFactor 26 = .ok (.ldc2_w 18, 3) := by decide +kernel
theorem dX5_holdFactor_29 : decode cX5_holdFactor 29 = .ok (.dreturn, 1) := by decide +kernel
theorem dX6_init_0 : decode cX6_init 0 = .ok (.aload_n 0, 1) := by decide +kernel
theorem dX6_init_1 : decode cX6_init 1 = .ok (.invokespecial 1, 3) := by decide +kernel
theorem dX6_init_4 : decode cX6_init 4 = .ok (.aload_n 0, 1) := by decide +kernel
theorem dX6_init_5 : decode cX6_init 5 = .ok (.new 7, 3) := by decide +kernel
theorem dX6_init_8 : decode cX6_init 8 = .ok (.dup, 1) := by decide +kernel
theorem dX6_init_9 : decode cX6_init 9 = .ok (.invokespecial 9, 3) := by decide +kernel
theorem dX6_init_12 : decode cX6_init 12 = .ok (.putfield 10, 3) := by decide +kernel
theorem dX6_init_15 : decode cX6_init 15 = .ok (.aload_n 0, 1) := by decide +kernel
theorem dX6_init_16 : decode cX6_init 16 = .ok (.new 16, 3) := by decide +kernel
theorem dX6_init_19 : decode cX6_init 19 = .ok (.dup, 1) := by decide +kernel
theorem dX6_init_20 : decode cX6_init 20 = .ok (.invokespecial 18, 3) := by decide +kernel
theorem dX6_init_23 : decode cX6_init 23 = .ok (.putfield 19, 3) := by decide +kernel
theorem dX6_init_26 : decode cX6_init 26 = .ok (.aload_n 0, 1) := by decide +kernel
theorem dX6_init_27 : decode cX6_init 27 = .ok (.new 23, 3) := by decide +kernel
theorem dX6_init_30 : decode cX6_init 30 = .ok (.dup, 1) := by decide +kernel
theorem dX6_init_31 : decode cX6_init 31 = .ok (.invokespecial 25, 3) := by decide +kernel
theorem dX6_init_34 : decode cX6_init 34 = .ok (.putfield 26, 3) := by decide +kernel
theorem dX6_init_37 : decode cX6_init 37 = .ok (.aload_n 0, 1) := by decide +kernel
theorem dX6_init_38 : decode cX6_init 38 = .ok (.new 30, 3) := by decide +kernel
theorem dX6_init_41 : decode cX6_init 41 = .ok (.dup, 1) := by decide +kernel
theorem dX6_init_42 : decode cX6_init 42 = .ok (.invokespecial 32, 3) := by decide +kernel
theorem dX6_init_45 : decode cX6_init 45 = .ok (.putfield 33, 3) := by decide +kernel
theorem dX6_init_48 : decode cX6_init 48 = .ok (.aload_n 0, 1) := by decide +kernel
theorem dX6_init_49 : decode cX6_init 49 = .ok (.bipush 20, 2) := by decide +kernel
theorem dX6_init_51 : decode cX6_init 51 = .ok (.anewarray 37, 3) := by decide +kernel
theorem dX6_init_54 : decode cX6_init 54 = .ok (.putfield 39, 3) := by decide +kernel
theorem dX6_init_57 : decode cX6_init 57 = .ok (.return_, 1) := by decide +kernel
theorem dX6_weather_0 : decode cX6_weather 0 = .ok (.iload_n 1, 1) := by decide +kernel
theorem dX6_weather_1 : decode cX6_weather 1 = .ok (.sipush (-400), 3) := by decide +kernel
theorem dX6_weather_4 : decode cX6_weather 4 = .ok (.sipush 400, 3) := by decide +kernel
theorem dX6_weather_7 : decode cX6_weather 7 = .ok (.invokestatic 43, 3) := by decide +kernel
theorem dX6_weather_10 : decode cX6_weather 10 = .ok (.iload_n 2, 1) := by decide +kernel
theorem dX6_weather_11 : decode cX6_weather 11 = .ok (.iconst 0, 1) := by decide +kernel
theorem dX6_weather_12 : decode cX6_weather 12 = .ok (.iconst 3, 1) := by decide +kernel
theorem dX6_weather_13 : decode cX6_weather 13 = .ok (.invokestatic 43, 3) := by decide +kernel
theorem dX6_weather_16 : decode cX6_weather 16 = .ok (.iload_n 3, 1) := by decide +kernel
theorem dX6_weather_17 : decode cX6_weather 17 = .ok (.iconst 0, 1) := by decide +kernel
theorem dX6_weather_18 : decode cX6_weather 18 = .ok (.bipush 30, 2) := by decide +kernel
theorem dX6_weather_20 : decode cX6_weather 20 = .ok (.invokestatic 43, 3) := by decide +kernel
theorem dX6_weather_23 : decode cX6_weather 23 = .ok (.iload 4, 2) := by decide +kernel
theorem dX6_weather_25 : decode cX6_weather 25 = .ok (.iconst 0, 1) := by decide +kernel
theorem dX6_weather_26 : decode cX6_weather 26 = .ok (.bipush 60, 2) := by decide +kernel
theorem dX6_weather_28 : decode cX6_weather 28 = .ok (.invokestatic 43, 3) := by decide +kernel
theorem dX6_weather_31 : decode cX6_weather 31 = .ok (.aload_n 0, 1) := by decide +kernel
theorem dX6_weather_32 : decode cX6_weather 32 = .ok (.getfield 10, 3) := by decide +kernel
theorem dX6_weather_35 : decode cX6_weather 35 = .ok (.iload_n 1, 1) := by decide +kernel
theorem dX6_weather_36 : decode cX6_weather 36 = .ok (.putfield 47, 3) := by decide +kernel
theorem dX6_weather_39 : decode cX6_weather 39 = .ok (.aload_n 0, 1) := by decide +kernel
theorem dX6_weather_40 : decode cX6_weather 40 = .ok (.getfield 10, 3) := by decide +kernel
theorem dX6_weather_43 : decode cX6_weather 43 = .ok (.iload_n 2, 1) := by decide +kernel
theorem dX6_weather_44 : decode cX6_weather 44 = .ok (.putfield 51, 3) := by decide +kernel
theorem dX6_weather_47 : decode cX6_weather 47 = .ok (.aload_n 0, 1) := by decide +kernel
theorem dX6_weather_48 : decode cX6_weather 48 = .ok (.getfield 10, 3) := by decide +kernel
theorem dX6_weather_51 : decode cX6_weather 51 = .ok (.iload_n 3, 1) := by decide +kernel
theorem dX6_weather_52 : decode cX6_weather 52 = .ok (.putfield 54, 3) := by decide +kernel
theorem dX6_weather_55 : decode cX6_weather 55 = .ok (.aload_n 0, 1) := by decide +kernel
theorem dX6_weather_56 : decode cX6_weather 56 = .ok (.getfield 10, 3) := by decide +kernel
theorem dX6_weather_59 : decode cX6_weather 59 = .ok (.iload 4, 2) := by decide +kernel
theorem dX6_weather_61 : decode cX6_weather 61 = .ok (.putfield 57, 3) := by decide +kernel
theorem dX6_weather_64 : decode cX6_weather 64 = .ok (.return_, 1) := by decide +kernel
theorem dX6_spray_0 : decode cX6_spray 0 = .ok (.iload_n 1, 1) := by decide +kernel
theorem dX6_spray_1 : decode cX6_spray 1 = .ok (.iconst 3, 1) := by decide +kernel
theorem dX6_spray_2 : decode cX6_spray 2 = .ok (.invokestatic 60, 3) := by decide +kernel
theorem dX6_spray_5 : decode cX6_spray 5 = .ok (.aload_n 0, 1) := by decide +kernel
theorem dX6_spray_6 : decode cX6_spray 6 = .ok (.getfield 64, 3) := by decide +kernel
theorem dX6_spray_9 : decode cX6_spray 9 = .ok (.bipush 60, 2) := by decide +kernel
theorem dX6_spray_11 : decode cX6_spray 11 = .ok (.iadd, 1) := by decide +kernel
theorem dX6_spray_12 : decode cX6_spray 12 = .ok (.istore_n 2, 1) := by decide +kernel
theorem dX6_spray_13 : decode cX6_spray 13 = .ok (.aload_n 0, 1) := by decide +kernel
theorem dX6_spray_14 : decode cX6_spray 14 = .ok (.getfield 19, 3) := by decide +kernel
theorem dX6_spray_17 : decode cX6_spray 17 = .ok (.getfield 67, 3) := by decide +kernel
theorem dX6_spray_20 : decode cX6_spray 20 = .ok (.iload_n 1, 1) := by decide +kernel
theorem dX6_spray_21 : decode cX6_spray 21 = .ok (.aaload, 1) := by decide +kernel
theorem dX6_spray_22 : decode cX6_spray 22 = .ok (.iload_n 2, 1) := by decide +kernel
theorem dX6_spray_23 : decode cX6_spray 23 = .ok (.putfield 71, 3) := by decide +kernel
theorem dX6_spray_26 : decode cX6_spray 26 = .ok (.iload_n 2, 1) := by decide +kernel
theorem dX6_spray_27 : decode cX6_spray 27 = .ok (.ireturn, 1) := by decide +kernel
theorem dX6_close_0 : decode cX6_close 0 = .ok (.iload_n 1, 1) := by decide +kernel
theorem dX6_close_1 : decode cX6_close 1 = .ok (.iconst 1, 1) := by decide +kernel
theorem dX6_close_2 : decode cX6_close 2 = .ok (.sipush 500, 3) := by decide +kernel
theorem dX6_close_5 : decode cX6_close 5 = .ok (.invokestatic 43, 3) := by decide +kernel
theorem dX6_close_8 : decode cX6_close 8 = .ok (.iload_n 2, 1) := by decide +kernel
theorem dX6_close_9 : decode cX6_close 9 = .ok (.iconst 0, 1) := by decide +kernel
theorem dX6_close_10 : decode cX6_close 10 = .ok (.bipush 11, 2) := by decide +kernel
theorem dX6_close_12 : decode cX6_close 12 = .ok (.invokestatic 43, 3) := by decide +kernel
theorem dX6_close_15 : decode cX6_close 15 = .ok (.aload_n 0, 1) := by decide +kernel
theorem dX6_close_16 : decode cX6_close 16 = .ok (.getfield 19, 3) := by decide +kernel
theorem dX6_close_19 : decode cX6_close 19 = .ok (.aload_n 0, 1) := by decide +kernel
theorem dX6_close_20 : decode cX6_close 20 = .ok (.getfield 64, 3) := by decide +kernel
theorem dX6_close_23 : decode cX6_close 23 = .ok (.iload_n 1, 1) := by decide +kernel
theorem dX6_close_24 : decode cX6_close 24 = .ok (.iadd, 1) := by decide +kernel
theorem dX6_close_25 : decode cX6_close 25 = .ok (.putfield 76, 3) := by decide +kernel
theorem dX6_close_28 : decode cX6_close 28 = .ok (.aload_n 0, 1) := by decide +kernel
theorem dX6_close_29 : decode cX6_close 29 = .ok (.getfield 19, 3) := by decide +kernel
theorem dX6_close_32 : decode cX6_close 32 = .ok (.iload_n 2, 1) := by decide +kernel
theorem dX6_close_33 : decode cX6_close 33 = .ok (.putfield 79, 3) := by decide +kernel
theorem dX6_close_36 : decode cX6_close 36 = .ok (.aload_n 0, 1) := by decide +kernel
theorem dX6_close_37 : decode cX6_close 37 = .ok (.getfield 19, 3) := by decide +kernel
theorem dX6_close_40 : decode cX6_close 40 = .ok (.getfield 76, 3) := by decide +kernel
theorem dX6_close_43 : decode cX6_close 43 = .ok (.ireturn, 1) := by decide +kernel
theorem dX6_pilot_0 : decode cX6_pilot 0 = .ok (.iload_n 1, 1) := by decide +kernel
theorem dX6_pilot_1 : decode cX6_pilot 1 = .ok (.iconst 3, 1) := by decide +kernel
theorem dX6_pilot_2 : decode cX6_pilot 2 = .ok (.invokestatic 60, 3) := by decide +kernel
theorem dX6_pilot_5 : decode cX6_pilot 5 = .ok (.iload_n 2, 1) := by decide +kernel
theorem dX6_pilot_6 : decode cX6_pilot 6 = .ok (.iconst 0, 1) := by decide +kernel
theorem dX6_pilot_7 : decode cX6_pilot 7 = .ok (.bipush 6, 2) := by decide +kernel
theorem dX6_pilot_9 : decode cX6_pilot 9 = .ok (.invokestatic 43, 3) := by decide +kernel
theorem dX6_pilot_12 : decode cX6_pilot 12 = .ok (.aload_n 0, 1) := by decide +kernel
theorem dX6_pilot_13 : decode cX6_pilot 13 = .ok (.getfield 19, 3) := by decide +kernel
theorem dX6_pilot_16 : decode cX6_pilot 16 = .ok (.getfield 67, 3) := by decide +kernel
theorem dX6_pilot_19 : decode cX6_pilot 19 = .ok (.iload_n 1, 1) := by decide +kernel
theorem dX6_pilot_20 : decode cX6_pilot 20 = .ok (.aaload, 1) := by decide +kernel
theorem dX6_pilot_21 : decode cX6_pilot 21 = .ok (.astore_n 3, 1) := by decide +kernel
theorem dX6_pilot_22 : decode cX6_pilot 22 = .ok (.aload_n 3, 1) := by decide +kernel
theorem dX6_pilot_23 : decode cX6_pilot 23 = .ok (.aload_n 0, 1) := by decide +kernel
theorem dX6_pilot_24 : decode cX6_pilot 24 = .ok (.getfield 64, 3) := by decide +kernel
theorem dX6_pilot_27 : decode cX6_pilot 27 = .ok (.putfield 82, 3) := by decide +kernel
theorem dX6_pilot_30 : decode cX6_pilot 30 = .ok (.aload_n 3, 1) := by decide +kernel
theorem dX6_pilot_31 : decode cX6_pilot 31 = .ok (.iload_n 2, 1) := by decide +kernel
theorem dX6_pilot_32 : decode cX6_pilot 32 = .ok (.putfield 85, 3) := by decide +kernel
theorem dX6_pilot_35 : decode cX6_pilot 35 = .ok (.aload_n 3, 1) := by decide +kernel
theorem dX6_pilot_36 : decode cX6_pilot 36 = .ok (.aload_n 0, 1) := by decide +kernel
theorem dX6_pilot_37 : decode cX6_pilot 37 = .ok (.getfield 64, 3) := by decide +kernel
theorem dX6_pilot_40 : decode cX6_pilot 40 = .ok (.aload_n 0, 1) := by decide +kernel
theorem dX6_pilot_41 : decode cX6_pilot 41 = .ok (.getfield 10, 3) := by decide +kernel
theorem dX6_pilot_44 : decode cX6_pilot 44 = .ok (.invokevirtual 88, 3) := by decide +kernel
theorem dX6_pilot_47 : decode cX6_pilot 47 = .ok (.ireturn, 1) := by decide +kernel
theorem dX6_supply_0 : decode cX6_supply 0 = .ok (.iload_n 1, 1) := by decide +kernel
theorem dX6_supply_1 : decode cX6_supply 1 = .ok (.iconst 3, 1) := by decide +kernel
theorem dX6_supply_2 : decode cX6_supply 2 = .ok (.invokestatic 60, 3) := by decide +kernel
theorem dX6_supply_5 : decode cX6_supply 5 = .ok (.iload_n 2, 1) := by decide +kernel
theorem dX6_supply_6 : decode cX6_supply 6 = .ok (.iconst 1, 1) := by decide +kernel
theorem dX6_supply_7 : decode cX6_supply 7 = .ok (.sipush 10000, 3) := by decide +kernel
theorem dX6_supply_10 : decode cX6_supply 10 = .ok (.invokestatic 43, 3) := by decide +kernel
theorem dX6_supply_13 : decode cX6_supply 13 = .ok (.aload_n 0, 1) := by decide +kernel
theorem dX6_supply_14 : decode cX6_supply 14 = .ok (.getfield 26, 3) := by decide +kernel
theorem dX6_supply_17 : decode cX6_supply 17 = .ok (.getfield 92, 3) := by decide +kernel
theorem dX6_supply_20 : decode cX6_supply 20 = .ok (.iload_n 1, 1) := by decide +kernel
theorem dX6_supply_21 : decode cX6_supply 21 = .ok (.iaload, 1) := by decide +kernel
theorem dX6_supply_22 : decode cX6_supply 22 = .ok (.iload_n 2, 1) := by decide +kernel
theorem dX6_supply_23 : decode cX6_supply 23 = .ok (.iadd, 1) := by decide +kernel
theorem dX6_supply_24 : decode cX6_supply 24 = .ok (.ldc 96, 2) := by decide +kernel
theorem dX6_supply_26 : decode cX6_supply 26 = .ok (.if_icmp .gt 7, 3) := by decide +kernel
theorem dX6_supply_29 : decode cX6_supply 29 = .ok (.iconst 1, 1) := by decide +kernel
theorem dX6_supply_30 : decode cX6_supply 30 = .ok (.goto 4, 3) := by decide +kernel
theorem dX6_supply_33 : decode cX6_supply 33 = .ok (.iconst 0, 1) := by decide +kernel
theorem dX6_supply_34 : decode cX6_supply 34 = .ok (.invokestatic 97, 3) := by decide +kernel
theorem dX6_supply_37 : decode cX6_supply 37 = .ok (.aload_n 0, 1) := by decide +kernel
theorem dX6_supply_38 : decode cX6_supply 38 = .ok (.getfield 26, 3) := by decide +kernel
theorem dX6_supply_41 : decode cX6_supply 41 = .ok (.getfield 92, 3) := by decide +kernel
theorem dX6_supply_44 : decode cX6_supply 44 = .ok (.iload_n 1, 1) := by decide +kernel
theorem dX6_supply_45 : decode cX6_supply 45 = .ok (.dup2, 1) := by decide +kernel
theorem dX6_supply_46 : decode cX6_supply 46 = .ok (.iaload, 1) := by decide +kernel
theorem dX6_supply_47 : decode cX6_supply 47 = .ok (.iload_n 2, 1) := by decide +kernel
theorem dX6_supply_48 : decode cX6_supply 48 = .ok (.iadd, 1) := by decide +kernel
theorem dX6_supply_49 : decode cX6_supply 49 = .ok (.iastore, 1) := by decide +kernel
theorem dX6_supply_50 : decode cX6_supply 50 = .ok (.aload_n 0, 1) := by decide +kernel
theorem dX6_supply_51 : decode cX6_supply 51 = .ok (.getfield 26, 3) := by decide +kernel
theorem dX6_supply_54 : decode cX6_supply 54 = .ok (.dup, 1) := by decide +kernel
theorem dX6_supply_55 : decode cX6_supply 55 = .ok (.getfield 101, 3) := by decide +kernel
theorem dX6_supply_58 : decode cX6_supply 58 = .ok (.iload_n 2, 1) := by decide +kernel
theorem dX6_supply_59 : decode cX6_supply 59 = .ok (.iadd, 1) := by decide +kernel
theorem dX6_supply_60 : decode cX6_supply 60 = .ok (.putfield 101, 3) := by decide +kernel
theorem dX6_supply_63 : decode cX6_supply 63 = .ok (.aload_n 0, 1) := by decide +kernel
theorem dX6_supply_64 : decode cX6_supply 64 = .ok (.getfield 26, 3) := by decide +kernel
theorem dX6_supply_67 : decode cX6_supply 67 = .ok (.getfield 92, 3) := by decide +kernel
theorem dX6_supply_70 : decode cX6_supply 70 = .ok (.iload_n 1, 1) := by decide +kernel
theorem dX6_supply_71 : decode cX6_supply 71 = .ok (.iaload, 1) := by decide +kernel
theorem dX6_supply_72 : decode cX6_supply 72 = .ok (.ireturn, 1) := by decide +kernel
theorem dX6_table_0 : decode cX6_table 0 = .ok (.iload_n 1, 1) := by decide +kernel
theorem dX6_table_1 : decode cX6_table 1 = .ok (.iconst 3, 1) := by decide +kernel
theorem dX6_table_2 : decode cX6_table 2 = .ok (.invokestatic 60, 3) := by decide +kernel
theorem dX6_table_5 : decode cX6_table 5 = .ok (.iload_n 2, 1) := by decide +kernel
theorem dX6_table_6 : decode cX6_table 6 = .ok (.iconst 1, 1) := by decide +kernel
theorem dX6_table_7 : decode cX6_table 7 = .ok (.iconst 3, 1) := by decide +kernel
theorem dX6_table_8 : decode cX6_table 8 = .ok (.invokestatic 43, 3) := by decide +kernel
theorem dX6_table_11 : decode cX6_table 11 = .ok (.iload_n 3, 1) := by decide +kernel
theorem dX6_table_12 : decode cX6_table 12 = .ok (.iconst 1, 1) := by decide +kernel
theorem dX6_table_13 : decode cX6_table 13 = .ok (.sipush 1000, 3) := by decide +kernel
theorem dX6_table_16 : decode cX6_table 16 = .ok (.invokestatic 43, 3) := by decide +kernel
theorem dX6_table_19 : decode cX6_table 19 = .ok (.aload_n 0, 1) := by decide +kernel
theorem dX6_table_20 : decode cX6_table 20 = .ok (.getfield 26, 3) := by decide +kernel
theorem dX6_table_23 : decode cX6_table 23 = .ok (.getfield 104, 3) := by decide +kernel
theorem dX6_table_26 : decode cX6_table 26 = .ok (.iload_n 1, 1) := by decide +kernel
theorem dX6_table_27 : decode cX6_table 27 = .ok (.aaload, 1) := by decide +kernel
theorem dX6_table_28 : decode cX6_table 28 = .ok (.iload_n 2, 1) := by decide +kernel
theorem dX6_table_29 : decode cX6_table 29 = .ok (.iaload, 1) := by decide +kernel
theorem dX6_table_30 : decode cX6_table 30 = .ok (.istore 4, 2) := by decide +kernel
theorem dX6_table_32 : decode cX6_table 32 = .ok (.aload_n 0, 1) := by decide +kernel
theorem dX6_table_33 : decode cX6_table 33 = .ok (.getfield 26, 3) := by decide +kernel
theorem dX6_table_36 : decode cX6_table 36 = .ok (.getfield 104, 3) := by decide +kernel
theorem dX6_table_39 : decode cX6_table 39 = .ok (.iload_n 1, 1) := by decide +kernel
theorem dX6_table_40 : decode cX6_table 40 = .ok (.aaload, 1) := by decide +kernel
theorem dX6_table_41 : decode cX6_table 41 = .ok (.iload_n 2, 1) := by decide +kernel
theorem dX6_table_42 : decode cX6_table 42 = .ok (.iload_n 3, 1) := by decide +kernel
theorem dX6_table_43 : decode cX6_table 43 = .ok (.iastore, 1) := by decide +kernel
theorem dX6_table_44 : decode cX6_table 44 = .ok (.iload 4, 2) := by decide +kernel
theorem dX6_table_46 : decode cX6_table 46 = .ok (.ireturn, 1) := by decide +kernel
theorem dX6_aircraft_0 : decode cX6_aircraft 0 = .ok (.iload_n 1, 1) := by decide +kernel
theorem dX6_aircraft_1 : decode cX6_aircraft 1 = .ok (.bipush 10, 2) := by decide +kernel
theorem dX6_aircraft_3 : decode cX6_aircraft 3 = .ok (.bipush 80, 2) := by decide +kernel
theorem dX6_aircraft_5 : decode cX6_aircraft 5 = .ok (.invokestatic 43, 3) := by decide +kernel
theorem dX6_aircraft_8 : decode cX6_aircraft 8 = .ok (.iload_n 2, 1) := by decide +kernel
theorem dX6_aircraft_9 : decode cX6_aircraft 9 = .ok (.iconst 0, 1) := by decide +kernel
theorem dX6_aircraft_10 : decode cX6_aircraft 10 = .ok (.sipush 2000, 3) := by decide +kernel
theorem dX6_aircraft_13 : decode cX6_aircraft 13 = .ok (.invokestatic 43, 3) := by decide +kernel
theorem dX6_aircraft_16 : decode cX6_aircraft 16 = .ok (.iload_n 3, 1) := by decide +kernel
theorem dX6_aircraft_17 : decode cX6_aircraft 17 = .ok (.iconst 0, 1) := by decide +kernel
theorem dX6_aircraft_18 : decode cX6_aircraft 18 = .ok (.sipush 2000, 3) := by decide +kernel
theorem dX6_aircraft_21 : decode cX6_aircraft 21 = .ok (.invokestatic 43, 3) := by decide +kernel
theorem dX6_aircraft_24 : decode cX6_aircraft 24 = .ok (.aload_n 0, 1) := by decide +kernel
theorem dX6_aircraft_25 : decode cX6_aircraft 25 = .ok (.getfield 108, 3) := by decide +kernel
theorem dX6_aircraft_28 : decode cX6_aircraft 28 = .ok (.bipush 20, 2) := by decide +kernel
theorem dX6_aircraft_30 : decode cX6_aircraft 30 = .ok (.if_icmp .ge 7, 3) := by decide +kernel
theorem dX6_aircraft_33 : decode cX6_aircraft 33 = .ok (.iconst 1, 1) := by decide +kernel
theorem dX6_aircraft_34 : decode cX6_aircraft 34 = .ok (.goto 4, 3) := by decide +kernel
theorem dX6_aircraft_37 : decode cX6_aircraft 37 = .ok (.iconst 0, 1) := by decide +kernel
theorem dX6_aircraft_38 : decode cX6_aircraft 38 = .ok (.invokestatic 97, 3) := by decide +kernel
theorem dX6_aircraft_41 : decode cX6_aircraft 41 = .ok (.aload_n 0, 1) := by decide +kernel
theorem dX6_aircraft_42 : decode cX6_aircraft 42 = .ok (.getfield 108, 3) := by decide +kernel
theorem dX6_aircraft_45 : decode cX6_aircraft 45 = .ok (.istore 4, 2) := by decide +kernel
theorem dX6_aircraft_47 : decode cX6_aircraft 47 = .ok (.aload_n 0, 1) := by decide +kernel
theorem dX6_aircraft_48 : decode cX6_aircraft 48 = .ok (.getfield 39, 3) := by decide +kernel
theorem dX6_aircraft_51 : decode cX6_aircraft 51 = .ok (.iload 4, 2) := by decide +kernel
theorem dX6_aircraft_53 : decode cX6_aircraft 53 = .ok (.new 37, 3) := by decide +kernel
theorem dX6_aircraft_56 : decode cX6_aircraft 56 = .ok (.dup, 1) := by decide +kernel
theorem dX6_aircraft_57 : decode cX6_aircraft 57 = .ok (.iload_n 1, 1) := by decide +kernel
theorem dX6_aircraft_58 : decode cX6_aircraft 58 = .ok (.aload_n 0, 1) := by decide +kernel
theorem dX6_aircraft_59 : decode cX6_aircraft 59 = .ok (.getfield 64, 3) := by decide +kernel
theorem dX6_aircraft_62 : decode cX6_aircraft 62 = .ok (.iload_n 2, 1) := by decide +kernel
theorem dX6_aircraft_63 : decode cX6_aircraft 63 = .ok (.iadd, 1) := by decide +kernel
theorem dX6_aircraft_64 : decode cX6_aircraft 64 = .ok (.aload_n 0, 1) := by decide +kernel
theorem dX6_aircraft_65 : decode cX6_aircraft 65 = .ok (.getfield 64, 3) := by decide +kernel
theorem dX6_aircraft_68 : decode cX6_aircraft 68 = .ok (.iload_n 3, 1) := by decide +kernel
theorem dX6_aircraft_69 : decode cX6_aircraft 69 = .ok (.iadd, 1) := by decide +kernel
theorem dX6_aircraft_70 : decode cX6_aircraft 70 = .ok (.invokespecial 111, 3) := by decide +kernel
theorem dX6_aircraft_73 : decode cX6_aircraft 73 = .ok (.aastore, 1) := by decide +kernel
theorem dX6_aircraft_74 : decode cX6_aircraft 74 = .ok (.aload_n 0, 1) := by decide +kernel
theorem dX6_aircraft_75 : decode cX6_aircraft 75 = .ok (.dup, 1) := by decide +kernel
theorem dX6_aircraft_76 : decode cX6_aircraft 76 = .ok (.getfield 108, 3) := by decide +kernel
theorem dX6_aircraft_79 : decode cX6_aircraft 79 = .ok (.iconst 1, 1) := by decide +kernel
theorem dX6_aircraft_80 : decode cX6_aircraft 80 = .ok (.iadd, 1) := by decide +kernel
theorem dX6_aircraft_81 : decode cX6_aircraft 81 = .ok (.putfield 108, 3) := by decide +kernel
theorem dX6_aircraft_84 : decode cX6_aircraft 84 = .ok (.iload 4, 2) := by decide +kernel
theorem dX6_aircraft_86 : decode cX6_aircraft 86 = .ok (.ireturn, 1) := by decide +kernel
theorem dX6_treat_0 : decode cX6_treat 0 = .ok (.iload_n 1, 1) := by decide +kernel
theorem dX6_treat_1 : decode cX6_treat 1 = .ok (.aload_n 0, 1) := by decide +kernel
theorem dX6_treat_2 : decode cX6_treat 2 = .ok (.getfield 108, 3) := by decide +kernel
theorem dX6_treat_5 : decode cX6_treat 5 = .ok (.invokestatic 60, 3) := by decide +kernel
theorem dX6_treat_8 : decode cX6_treat 8 = .ok (.iload_n 2, 1) := by decide +kernel
theorem dX6_treat_9 : decode cX6_treat 9 = .ok (.getstatic 113, 3) := by decide +kernel
theorem dX6_treat_12 : decode cX6_treat 12 = .ok (.arraylength, 1) := by decide +kernel
theorem dX6_treat_13 : decode cX6_treat 13 = .ok (.invokestatic 60, 3) := by decide +kernel
theorem dX6_treat_16 : decode cX6_treat 16 = .ok (.iload_n 3, 1) := by decide +kernel
theorem dX6_treat_17 : decode cX6_treat 17 = .ok (.iconst 3, 1) := by decide +kernel
theorem dX6_treat_18 : decode cX6_treat 18 = .ok (.invokestatic 60, 3) := by decide +kernel
theorem dX6_treat_21 : decode cX6_treat 21 = .ok (.iload 4, 2) := by decide +kernel
theorem dX6_treat_23 : decode cX6_treat 23 = .ok (.bipush 10, 2) := by decide +kernel
theorem dX6_treat_25 : decode cX6_treat 25 = .ok (.sipush 2000, 3) := by decide +kernel
theorem dX6_treat_28 : decode cX6_treat 28 = .ok (.invokestatic 43, 3) := by decide +kernel
theorem dX6_treat_31 : decode cX6_treat 31 = .ok (.iload 5, 2) := by decide +kernel
theorem dX6_treat_33 : decode cX6_treat 33 = .ok (.invokestatic 116, 3) := by decide +kernel
theorem dX6_treat_36 : decode cX6_treat 36 = .ok (.aload_n 0, 1) := by decide +kernel
theorem dX6_treat_37 : decode cX6_treat 37 = .ok (.getfield 39, 3) := by decide +kernel
theorem dX6_treat_40 : decode cX6_treat 40 = .ok (.iload_n 1, 1) := by decide +kernel
theorem dX6_treat_41 : decode cX6_treat 41 = .ok (.aaload, 1) := by decide +kernel
theorem dX6_treat_42 : decode cX6_treat 42 = .ok (.astore 6, 2) := by decide +kernel
theorem dX6_treat_44 : decode cX6_treat 44 = .ok (.aload 6, 2) := by decide +kernel
theorem dX6_treat_46 : decode cX6_treat 46 = .ok (.getfield 120, 3) := by decide +kernel
theorem dX6_treat_49 : decode cX6_treat 49 = .ok (.ifCond .eq 12, 3) := by decide +kernel
theorem dX6_treat_52 : decode cX6_treat 52 = .ok (.aload 6, 2) := by decide +kernel
theorem dX6_treat_54 : decode cX6_treat 54 = .ok (.getfield 120, 3) := by decide +kernel
theorem dX6_treat_57 : decode cX6_treat 57 = .ok (.iconst 2, 1) := by decide +kernel
theorem dX6_treat_58 : decode cX6_treat 58 = .ok (.if_icmp .ne 7, 3) := by decide +kernel
theorem dX6_treat_61 : decode cX6_treat 61 = .ok (.iconst 1, 1) := by decide +kernel
theorem dX6_treat_62 : decode cX6_treat 62 = .ok (.goto 4, 3) := by decide +kernel
theorem dX6_treat_65 : decode cX6_treat 65 = .ok (.iconst 0, 1) := by decide +kernel
theorem dX6_treat_66 : decode cX6_treat 66 = .ok (.invokestatic 97, 3) := by decide +kernel
theorem dX6_treat_69 : decode cX6_treat 69 = .ok (.aload_n 0, 1) := by decide +kernel
theorem dX6_treat_70 : decode cX6_treat 70 = .ok (.iload_n 2, 1) := by decide +kernel
theorem dX6_treat_71 : decode cX6_treat 71 = .ok (.invokevirtual 123, 3) := by decide +kernel
theorem dX6_treat_74 : decode cX6_treat 74 = .ok (.ifCond .eq 20, 3) := by decide +kernel
theorem dX6_treat_77 : decode cX6_treat 77 = .ok (.aload 6, 2) := by decide +kernel
theorem dX6_treat_79 : decode cX6_treat 79 = .ok (.getfield 127, 3) := by decide +kernel
theorem dX6_treat_82 : decode cX6_treat 82 = .ok (.getstatic 113, 3) := by decide +kernel
theorem dX6_treat_85 : decode cX6_treat 85 = .ok (.iload_n 2, 1) := by decide +kernel
theorem dX6_treat_86 : decode cX6_treat 86 = .ok (.iaload, 1) := by decide +kernel
theorem dX6_treat_87 : decode cX6_treat 87 = .ok (.if_icmp .gt 7, 3) := by decide +kernel
theorem dX6_treat_90 : decode cX6_treat 90 = .ok (.iconst 1, 1) := by decide +kernel
theorem dX6_treat_91 : decode cX6_treat 91 = .ok (.goto 4, 3) := by decide +kernel
theorem dX6_treat_94 : decode cX6_treat 94 = .ok (.iconst 0, 1) := by decide +kernel
theorem dX6_treat_95 : decode cX6_treat 95 = .ok (.invokestatic 97, 3) := by decide +kernel
theorem dX6_treat_98 : decode cX6_treat 98 = .ok (.iload 4, 2) := by decide +kernel
theorem dX6_treat_100 : decode cX6_treat 100 = .ok (.aload_n 0, 1) := by decide +kernel
theorem dX6_treat_101 : decode cX6_treat 101 = .ok (.getfield 26, 3) := by decide +kernel
theorem dX6_treat_104 : decode cX6_treat 104 = .ok (.getfield 92, 3) := by decide +kernel
theorem dX6_treat_107 : decode cX6_treat 107 = .ok (.iload_n 3, 1) := by decide +kernel
theorem dX6_treat_108 : decode cX6_treat 108 = .ok (.iaload, 1) := by decide +kernel
theorem dX6_treat_109 : decode cX6_treat 109 = .ok (.if_icmp .gt 7, 3) := by decide +kernel
theorem dX6_treat_112 : decode cX6_treat 112 = .ok (.iconst 1, 1) := by decide +kernel
theorem dX6_treat_113 : decode cX6_treat 113 = .ok (.goto 4, 3) := by decide +kernel
theorem dX6_treat_116 : decode cX6_treat 116 = .ok (.iconst 0, 1) := by decide +kernel
theorem dX6_treat_117 : decode cX6_treat 117 = .ok (.invokestatic 97, 3) := by decide +kernel
theorem dX6_treat_120 : decode cX6_treat 120 = .ok (.aload_n 0, 1) := by decide +kernel
theorem dX6_treat_121 : decode cX6_treat 121 = .ok (.getfield 26, 3) := by decide +kernel
theorem dX6_treat_124 : decode cX6_treat 124 = .ok (.getfield 92, 3) := by decide +kernel
theorem dX6_treat_127 : decode cX6_treat 127 = .ok (.iload_n 3, 1) := by decide +kernel
theorem dX6_treat_128 : decode cX6_treat 128 = .ok (.dup2, 1) := by decide +kernel
theorem dX6_treat_129 : decode cX6_treat 129 = .ok (.iaload, 1) := by decide +kernel
theorem dX6_treat_130 : decode cX6_treat 130 = .ok (.iload 4, 2) := by decide +kernel
theorem dX6_treat_132 : decode cX6_treat 132 = .ok (.isub, 1) := by decide +kernel
theorem dX6_treat_133 : decode cX6_treat 133 = .ok (.iastore, 1) := by decide +kernel
theorem dX6_treat_134 : decode cX6_treat 134 = .ok (.aload_n 0, 1) := by decide +kernel
theorem dX6_treat_135 : decode cX6_treat 135 = .ok (.getfield 33, 3) := by decide +kernel
theorem dX6_treat_138 : decode cX6_treat 138 = .ok (.dup, 1) := by decide +kernel
theorem dX6_treat_139 : decode cX6_treat 139 = .ok (.getfield 130, 3) := by decide +kernel
theorem dX6_treat_142 : decode cX6_treat 142 = .ok (.aload 6, 2) := by decide +kernel
theorem dX6_treat_144 : decode cX6_treat 144 = .ok (.iload_n 2, 1) := by decide +kernel
theorem dX6_treat_145 : decode cX6_treat 145 = .ok (.iload 4, 2) := by decide +kernel
theorem dX6_treat_147 : decode cX6_treat 147 = .ok (.aload_n 0, 1) := by decide +kernel
theorem dX6_treat_148 : decode cX6_treat 148 = .ok (.getfield 64, 3) := by decide +kernel
theorem dX6_treat_151 : decode cX6_treat 151 = .ok (.invokevirtual 133, 3) := by decide +kernel
theorem dX6_treat_154 : decode cX6_treat 154 = .ok (.iadd, 1) := by decide +kernel
theorem dX6_treat_155 : decode cX6_treat 155 = .ok (.putfield 130, 3) := by decide +kernel
theorem dX6_treat_158 : decode cX6_treat 158 = .ok (.aload 6, 2) := by decide +kernel
theorem dX6_treat_160 : decode cX6_treat 160 = .ok (.iload_n 3, 1) := by decide +kernel
theorem dX6_treat_161 : decode cX6_treat 161 = .ok (.putfield 137, 3) := by decide +kernel
theorem dX6_treat_164 : decode cX6_treat 164 = .ok (.aload 6, 2) := by decide +kernel
theorem dX6_treat_166 : decode cX6_treat 166 = .ok (.iload 5, 2) := by decide +kernel
theorem dX6_treat_168 : decode cX6_treat 168 = .ok (.putfield 140, 3) := by decide +kernel
theorem dX6_treat_171 : decode cX6_treat 171 = .ok (.aload 6, 2) := by decide +kernel
theorem dX6_treat_173 : decode cX6_treat 173 = .ok (.getfield 143, 3) := by decide +kernel
theorem dX6_treat_176 : decode cX6_treat 176 = .ok (.ireturn, 1) := by decide +kernel
theorem dX6_cancel_0 : decode cX6_cancel 0 = .ok (.iload_n 1, 1) := by decide +kernel
theorem dX6_cancel_1 : decode cX6_cancel 1 = .ok (.aload_n 0, 1) := by decide +kernel
theorem dX6_cancel_2 : decode cX6_cancel 2 = .ok (.getfield 108, 3) := by decide +kernel
theorem dX6_cancel_5 : decode cX6_cancel 5 = .ok (.invokestatic 60, 3) := by decide +kernel
theorem dX6_cancel_8 : decode cX6_cancel 8 = .ok (.aload_n 0, 1) := by decide +kernel
theorem dX6_cancel_9 : decode cX6_cancel 9 = .ok (.getfield 39, 3) := by decide +kernel
theorem dX6_cancel_12 : decode cX6_cancel 12 = .ok (.iload_n 1, 1) := by decide +kernel
theorem dX6_cancel_13 : decode cX6_cancel 13 = .ok (.aaload, 1) := by decide +kernel
theorem dX6_cancel_14 : decode cX6_cancel 14 = .ok (.astore_n 2, 1) := by decide +kernel
theorem dX6_cancel_15 : decode cX6_cancel 15 = .ok (.aload_n 2, 1) := by decide +kernel
theorem dX6_cancel_16 : decode cX6_cancel 16 = .ok (.invokevirtual 146, 3) := by decide +kernel
theorem dX6_cancel_19 : decode cX6_cancel 19 = .ok (.ifCond .ne 7, 3) := by decide +kernel
theorem dX6_cancel_22 : decode cX6_cancel 22 = .ok (.iconst 1, 1) := by decide +kernel
theorem dX6_cancel_23 : decode cX6_cancel 23 = .ok (.goto 4, 3) := by decide +kernel
theorem dX6_cancel_26 : decode cX6_cancel 26 = .ok (.iconst 0, 1) := by decide +kernel
theorem dX6_cancel_27 : decode cX6_cancel 27 = .ok (.invokestatic 97, 3) := by decide +kernel
theorem dX6_cancel_30 : decode cX6_cancel 30 = .ok (.aload_n 2, 1) := by decide +kernel
theorem dX6_cancel_31 : decode cX6_cancel 31 = .ok (.getfield 120, 3) := by decide +kernel
theorem dX6_cancel_34 : decode cX6_cancel 34 = .ok (.istore_n 3, 1) := by decide +kernel
theorem dX6_cancel_35 : decode cX6_cancel 35 = .ok (.aload_n 2, 1) := by decide +kernel
theorem dX6_cancel_36 : decode cX6_cancel 36 = .ok (.iconst 4, 1) := by decide +kernel
theorem dX6_cancel_37 : decode cX6_cancel 37 = .ok (.putfield 120, 3) := by decide +kernel
theorem dX6_cancel_40 : decode cX6_cancel 40 = .ok (.iload_n 3, 1) := by decide +kernel
theorem dX6_cancel_41 : decode cX6_cancel 41 = .ok (.ireturn, 1) := by decide +kernel
theorem dX6_permit_0 : decode cX6_permit 0 = .ok (.iload_n 1, 1) := by decide +kernel
theorem dX6_permit_1 : decode cX6_permit 1 = .ok (.iconst 0, 1) := by decide +kernel
theorem dX6_permit_2 : decode cX6_permit 2 = .ok (.ldc 96, 2) := by decide +kernel
theorem dX6_permit_4 : decode cX6_permit 4 = .ok (.invokestatic 43, 3) := by decide +kernel
theorem dX6_permit_7 : decode cX6_permit 7 = .ok (.aload_n 0, 1) := by decide +kernel
theorem dX6_permit_8 : decode cX6_permit 8 = .ok (.getfield 33, 3) := by decide +kernel
theorem dX6_permit_11 : decode cX6_permit 11 = .ok (.getfield 150, 3) := by decide +kernel
theorem dX6_permit_14 : decode cX6_permit 14 = .ok (.istore_n 2, 1) := by decide +kernel
theorem dX6_permit_15 : decode cX6_permit 15 = .ok (.aload_n 0, 1) := by decide +kernel
theorem dX6_permit_16 : decode cX6_permit 16 = .ok (.getfield 33, 3) := by decide +kernel
theorem dX6_permit_19 : decode cX6_permit 19 = .ok (.iload_n 1, 1) := by decide +kernel
theorem dX6_permit_20 : decode cX6_permit 20 = .ok (.putfield 150, 3) := by decide +kernel
theorem dX6_permit_23 : decode cX6_permit 23 = .ok (.iload_n 2, 1) := by decide +kernel
theorem dX6_permit_24 : decode cX6_permit 24 = .ok (.ireturn, 1) := by decide +kernel
theorem dX6_release_0 : decode cX6_release 0 = .ok (.iload_n 1, 1) := by decide +kernel
theorem dX6_release_1 : decode cX6_release 1 = .ok (.iconst 1, 1) := by decide +kernel
theorem dX6_release_2 : decode cX6_release 2 = .ok (.ldc 96, 2) := by decide +kernel
theorem dX6_release_4 : decode cX6_release 4 = .ok (.invokestatic 43, 3) := by decide +kernel
theorem dX6_release_7 : decode cX6_release 7 = .ok (.aload_n 0, 1) := by decide +kernel
theorem dX6_release_8 : decode cX6_release 8 = .ok (.getfield 64, 3) := by decide +kernel
theorem dX6_release_11 : decode cX6_release 11 = .ok (.sipush 1440, 3) := by decide +kernel
theorem dX6_release_14 : decode cX6_release 14 = .ok (.idiv, 1) := by decide +kernel
theorem dX6_release_15 : decode cX6_release 15 = .ok (.istore_n 2, 1) := by decide +kernel
theorem dX6_release_16 : decode cX6_release 16 = .ok (.aload_n 0, 1) := by decide +kernel
theorem dX6_release_17 : decode cX6_release 17 = .ok (.getfield 33, 3) := by decide +kernel
theorem dX6_release_20 : decode cX6_release 20 = .ok (.iload_n 2, 1) := by decide +kernel
theorem dX6_release_21 : decode cX6_release 21 = .ok (.invokevirtual 153, 3) := by decide +kernel
theorem dX6_release_24 : decode cX6_release 24 = .ok (.iload_n 1, 1) := by decide +kernel
theorem dX6_release_25 : decode cX6_release 25 = .ok (.iadd, 1) := by decide +kernel
theorem dX6_release_26 : decode cX6_release 26 = .ok (.istore_n 3, 1) := by decide +kernel
theorem dX6_release_27 : decode cX6_release 27 = .ok (.iload_n 1, 1) := by decide +kernel
theorem dX6_release_28 : decode cX6_release 28 = .ok (.aload_n 0, 1) := by decide +kernel
theorem dX6_release_29 : decode cX6_release 29 = .ok (.getfield 33, 3) := by decide +kernel
theorem dX6_release_32 : decode cX6_release 32 = .ok (.getfield 130, 3) := by decide +kernel
theorem dX6_release_35 : decode cX6_release 35 = .ok (.if_icmp .gt 18, 3) := by decide +kernel
theorem dX6_release_38 : decode cX6_release 38 = .ok (.iload_n 3, 1) := by decide +kernel
theorem dX6_release_39 : decode cX6_release 39 = .ok (.aload_n 0, 1) := by decide +kernel
theorem dX6_release_40 : decode cX6_release 40 = .ok (.getfield 33, 3) := by decide +kernel
theorem dX6_release_43 : decode cX6_release 43 = .ok (.getfield 150, 3) := by decide +kernel
theorem dX6_release_46 : decode cX6_release 46 = .ok (.if_icmp .gt 7, 3) := by decide +kernel
theorem dX6_release_49 : decode cX6_release 49 = .ok (.iconst 1, 1) := by decide +kernel
theorem dX6_release_50 : decode cX6_release 50 = .ok (.goto 4, 3) := by decide +kernel
theorem dX6_release_53 : decode cX6_release 53 = .ok (.iconst 0, 1) := by decide +kernel
theorem dX6_release_54 : decode cX6_release 54 = .ok (.invokestatic 97, 3) := by decide +kernel
theorem dX6_release_57 : decode cX6_release 57 = .ok (.aload_n 0, 1) := by decide +kernel
theorem dX6_release_58 : decode cX6_release 58 = .ok (.getfield 33, 3) := by decide +kernel
theorem dX6_release_61 : decode cX6_release 61 = .ok (.dup, 1) := by decide +kernel
theorem dX6_release_62 : decode cX6_release 62 = .ok (.getfield 130, 3) := by decide +kernel
theorem dX6_release_65 : decode cX6_release 65 = .ok (.iload_n 1, 1) := by decide +kernel
theorem dX6_release_66 : decode cX6_release 66 = .ok (.isub, 1) := by decide +kernel
theorem dX6_release_67 : decode cX6_release 67 = .ok (.putfield 130, 3) := by decide +kernel
theorem dX6_release_70 : decode cX6_release 70 = .ok (.aload_n 0, 1) := by decide +kernel
theorem dX6_release_71 : decode cX6_release 71 = .ok (.getfield 33, 3) := by decide +kernel
theorem dX6_release_74 : decode cX6_release 74 = .ok (.dup, 1) := by decide +kernel
theorem dX6_release_75 : decode cX6_release 75 = .ok (.getfield 157, 3) := by decide +kernel
theorem dX6_release_78 : decode cX6_release 78 = .ok (.iload_n 1, 1) := by decide +kernel
theorem dX6_release_79 : decode cX6_release 79 = .ok (.iadd, 1) := by decide +kernel
theorem dX6_release_80 : decode cX6_release 80 = .ok (.putfield 157, 3) := by decide +kernel
theorem dX6_release_83 : decode cX6_release 83 = .ok (.aload_n 0, 1) := by decide +kernel
theorem dX6_release_84 : decode cX6_release 84 = .ok (.getfield 33, 3) := by decide +kernel
theorem dX6_release_87 : decode cX6_release 87 = .ok (.iload_n 2, 1) := by decide +kernel
theorem dX6_release_88 : decode cX6_release 88 = .ok (.putfield 160, 3) := by decide +kernel
theorem dX6_release_91 : decode cX6_release 91 = .ok (.aload_n 0, 1) := by decide +kernel
theorem dX6_release_92 : decode cX6_release 92 = .ok (.getfield 33, 3) := by decide +kernel
theorem dX6_release_95 : decode cX6_release 95 = .ok (.iload_n 3, 1) := by decide +kernel
theorem dX6_release_96 : decode cX6_release 96 = .ok (.putfield 163, 3) := by decide +kernel
theorem dX6_release_99 : decode cX6_release 99 = .ok (.iload_n 3, 1) := by decide +kernel
theorem dX6_release_100 : decode cX6_release 100 = .ok (.ireturn, 1) := by decide +kernel
theorem dX6_pass_0 : decode cX6_pass 0 = .ok (.iload_n 1, 1) := by decide +kernel
theorem dX6_pass_1 : decode cX6_pass 1 = .ok (.iconst 1, 1) := by decide +kernel
theorem dX6_pass_2 : decode cX6_pass 2 = .ok (.sipush 500, 3) := by decide +kernel
theorem dX6_pass_5 : decode cX6_pass 5 = .ok (.invokestatic 43, 3) := by decide +kernel
theorem dX6_pass_8 : decode cX6_pass 8 = .ok (.iconst 0, 1) := by decide +kernel
theorem dX6_pass_9 : decode cX6_pass 9 = .ok (.istore_n 2, 1) := by decide +kernel
theorem dX6_pass_10 : decode cX6_pass 10 = .ok (.iload_n 2, 1) := by decide +kernel
theorem dX6_pass_11 : decode cX6_pass 11 = .ok (.iload_n 1, 1) := by decide +kernel
theorem dX6_pass_12 : decode cX6_pass 12 = .ok (.if_icmp .ge 13, 3) := by decide +kernel
theorem dX6_pass_15 : decode cX6_pass 15 = .ok (.aload_n 0, 1) := by decide +kernel
theorem dX6_pass_16 : decode cX6_pass 16 = .ok (.invokevirtual 166, 3) := by decide +kernel
theorem dX6_pass_19 : decode cX6_pass 19 = .ok (.iinc 2 1, 3) := by decide +kernel
theorem dX6_pass_22 : decode cX6_pass 22 = .ok (.goto (-12), 3) := by decide +kernel
theorem dX6_pass_25 : decode cX6_pass 25 = .ok (.aload_n 0, 1) := by decide +kernel
theorem dX6_pass_26 : decode cX6_pass 26 = .ok (.getfield 64, 3) := by decide +kernel
theorem dX6_pass_29 : decode cX6_pass 29 = .ok (.ireturn, 1) := by decide +kernel
theorem dX6_code_0 : decode cX6_code 0 = .ok (.iload_n 1, 1) := by decide +kernel
theorem dX6_code_1 : decode cX6_code 1 = .ok (.iconst 3, 1) := by decide +kernel
theorem dX6_code_2 : decode cX6_code 2 = .ok (.invokestatic 60, 3) := by decide +kernel
theorem dX6_code_5 : decode cX6_code 5 = .ok (.aload_n 0, 1) := by decide +kernel
theorem dX6_code_6 : decode cX6_code 6 = .ok (.getfield 19, 3) := by decide +kernel
theorem dX6_code_9 : decode cX6_code 9 = .ok (.getfield 67, 3) := by decide +kernel
theorem dX6_code_12 : decode cX6_code 12 = .ok (.iload_n 1, 1) := by decide +kernel
theorem dX6_code_13 : decode cX6_code 13 = .ok (.aaload, 1) := by decide +kernel
theorem dX6_code_14 : decode cX6_code 14 = .ok (.aload_n 0, 1) := by decide +kernel
theorem dX6_code_15 : decode cX6_code 15 = .ok (.getfield 64, 3) := by decide +kernel
theorem dX6_code_18 : decode cX6_code 18 = .ok (.aload_n 0, 1) := by decide +kernel
theorem dX6_code_19 : decode cX6_code 19 = .ok (.getfield 10, 3) := by decide +kernel
theorem dX6_code_22 : decode cX6_code 22 = .ok (.invokevirtual 88, 3) := by decide +kernel
theorem dX6_code_25 : decode cX6_code 25 = .ok (.ireturn, 1) := by decide +kernel
theorem dX6_thirdOf_0 : decode cX6_thirdOf 0 = .ok (.iload_n 1, 1) := by decide +kernel
theorem dX6_thirdOf_1 : decode cX6_thirdOf 1 = .ok (.iconst 3, 1) := by decide +kernel
theorem dX6_thirdOf_2 : decode cX6_thirdOf 2 = .ok (.invokestatic 60, 3) := by decide +kernel
theorem dX6_thirdOf_5 : decode cX6_thirdOf 5 = .ok (.iload_n 2, 1) := by decide +kernel
theorem dX6_thirdOf_6 : decode cX6_thirdOf 6 = .ok (.iconst 0, 1) := by decide +kernel
theorem dX6_thirdOf_7 : decode cX6_thirdOf 7 = .ok (.iconst 3, 1) := by decide +kernel
theorem dX6_thirdOf_8 : decode cX6_thirdOf 8 = .ok (.invokestatic 43, 3) := by decide +kernel
theorem dX6_thirdOf_11 : decode cX6_thirdOf 11 = .ok (.aload_n 0, 1) := by decide +kernel
theorem dX6_thirdOf_12 : decode cX6_thirdOf 12 = .ok (.getfield 19, 3) := by decide +kernel
theorem dX6_thirdOf_15 : decode cX6_thirdOf 15 = .ok (.getfield 67, 3) := by decide +kernel
theorem dX6_thirdOf_18 : decode cX6_thirdOf 18 = .ok (.iload_n 1, 1) := by decide +kernel
theorem dX6_thirdOf_19 : decode cX6_thirdOf 19 = .ok (.aaload, 1) := by decide +kernel
theorem dX6_thirdOf_20 : decode cX6_thirdOf 20 = .ok (.astore_n 3, 1) := by decide +kernel
theorem dX6_thirdOf_21 : decode cX6_thirdOf 21 = .ok (.iload_n 2, 1) := by decide +kernel
theorem dX6_thirdOf_22 : decode cX6_thirdOf 22 = .ok (.tableswitch 53 0 2 #[26, 31, 36], 26) := by decide +kernel
theorem dX6_thirdOf_48 : decode cX6_thirdOf 48 = .ok (.aload_n 3, 1) := by decide +kernel
theorem dX6_thirdOf_49 : decode cX6_thirdOf 49 = .ok (.getfield 169, 3) := by decide +kernel
theorem dX6_thirdOf_52 : decode cX6_thirdOf 52 = .ok (.ireturn, 1) := by decide +kernel
theorem dX6_thirdOf_53 : decode cX6_thirdOf 53 = .ok (.aload_n 3, 1) := by decide +kernel
theorem dX6_thirdOf_54 : decode cX6_thirdOf 54 = .ok (.getfield 172, 3) := by decide +kernel
theorem dX6_thirdOf_57 : decode cX6_thirdOf 57 = .ok (.ireturn, 1) := by decide +kernel
theorem dX6_thirdOf_58 : decode cX6_thirdOf 58 = .ok (.aload_n 3, 1) := by decide +kernel
theorem dX6_thirdOf_59 : decode cX6_thirdOf 59 = .ok (.aload_n 0, 1) := by decide +kernel
theorem dX6_thirdOf_60 : decode cX6_thirdOf 60 = .ok (.getfield 64, 3) := by decide +kernel
theorem dX6_thirdOf_63 : decode cX6_thirdOf 63 = .ok (.invokevirtual 175, 3) := by decide +kernel
theorem dX6_thirdOf_66 : decode cX6_thirdOf 66 = .ok (.ifCond .eq 7, 3) := by decide +kernel
theorem dX6_thirdOf_69 : decode cX6_thirdOf 69 = .ok (.iconst 1, 1) := by decide +kernel
theorem dX6_thirdOf_70 : decode cX6_thirdOf 70 = .ok (.goto 4, 3) := by decide +kernel
theorem dX6_thirdOf_73 : decode cX6_thirdOf 73 = .ok (.iconst 0, 1) := by decide +kernel
theorem dX6_thirdOf_74 : decode cX6_thirdOf 74 = .ok (.ireturn, 1) := by decide +kernel
theorem dX6_thirdOf_75 : decode cX6_thirdOf 75 = .ok (.aload_n 3, 1) := by decide +kernel
theorem dX6_thirdOf_76 : decode cX6_thirdOf 76 = .ok (.aload_n 0, 1) := by decide +kernel
theorem dX6_thirdOf_77 : decode cX6_thirdOf 77 = .ok (.getfield 10, 3) := by decide +kernel
theorem dX6_thirdOf_80 : decode cX6_thirdOf 80 = .ok (.invokevirtual 178, 3) := by decide +kernel
theorem dX6_thirdOf_83 : decode cX6_thirdOf 83 = .ok (.ireturn, 1) := by decide +kernel
theorem dX6_isGood_0 : decode cX6_isGood 0 = .ok (.aload_n 0, 1) := by decide +kernel
theorem dX6_isGood_1 : decode cX6_isGood 1 = .ok (.getfield 19, 3) := by decide +kernel
theorem dX6_isGood_4 : decode cX6_isGood 4 = .ok (.aload_n 0, 1) := by decide +kernel
theorem dX6_isGood_5 : decode cX6_isGood 5 = .ok (.getfield 64, 3) := by decide +kernel
theorem dX6_isGood_8 : decode cX6_isGood 8 = .ok (.aload_n 0, 1) := by decide +kernel
theorem dX6_isGood_9 : decode cX6_isGood 9 = .ok (.getfield 10, 3) := by decide +kernel
theorem dX6_isGood_12 : decode cX6_isGood 12 = .ok (.invokevirtual 182, 3) := by decide +kernel
theorem dX6_isGood_15 : decode cX6_isGood 15 = .ok (.ireturn, 1) := by decide +kernel
theorem dX6_aircraftOf_0 : decode cX6_aircraftOf 0 = .ok (.iload_n 1, 1) := by decide +kernel
theorem dX6_aircraftOf_1 : decode cX6_aircraftOf 1 = .ok (.aload_n 0, 1) := by decide +kernel
theorem dX6_aircraftOf_2 : decode cX6_aircraftOf 2 = .ok (.getfield 108, 3) := by decide +kernel
theorem dX6_aircraftOf_5 : decode cX6_aircraftOf 5 = .ok (.invokestatic 60, 3) := by decide +kernel
theorem dX6_aircraftOf_8 : decode cX6_aircraftOf 8 = .ok (.iload_n 2, 1) := by decide +kernel
theorem dX6_aircraftOf_9 : decode cX6_aircraftOf 9 = .ok (.iconst 0, 1) := by decide +kernel
theorem dX6_aircraftOf_10 : decode cX6_aircraftOf 10 = .ok (.iconst 4, 1) := by decide +kernel
theorem dX6_aircraftOf_11 : decode cX6_aircraftOf 11 = .ok (.invokestatic 43, 3) := by decide +kernel
theorem dX6_aircraftOf_14 : decode cX6_aircraftOf 14 = .ok (.aload_n 0, 1) := by decide +kernel
theorem dX6_aircraftOf_15 : decode cX6_aircraftOf 15 = .ok (.getfield 39, 3) := by decide +kernel
theorem dX6_aircraftOf_18 : decode cX6_aircraftOf 18 = .ok (.iload_n 1, 1) := by decide +kernel
theorem dX6_aircraftOf_19 : decode cX6_aircraftOf 19 = .ok (.aaload, 1) := by decide +kernel
theorem dX6_aircraftOf_20 : decode cX6_aircraftOf 20 = .ok (.astore_n 3, 1) := by decide +kernel
theorem dX6_aircraftOf_21 : decode cX6_aircraftOf 21 = .ok (.iload_n 2, 1) := by decide +kernel
theorem dX6_aircraftOf_22 : decode cX6_aircraftOf 22 = .ok (.tableswitch 50 0 3 #[30, 35, 40, 45], 30) := by decide +kernel
theorem dX6_aircraftOf_52 : decode cX6_aircraftOf 52 = .ok (.aload_n 3, 1) := by decide +kernel
theorem dX6_aircraftOf_53 : decode cX6_aircraftOf 53 = .ok (.getfield 120, 3) := by decide +kernel
theorem dX6_aircraftOf_56 : decode cX6_aircraftOf 56 = .ok (.ireturn, 1) := by decide +kernel
theorem dX6_aircraftOf_57 : decode cX6_aircraftOf 57 = .ok (.aload_n 3, 1) := by decide +kernel
theorem dX6_aircraftOf_58 : decode cX6_aircraftOf 58 = .ok (.getfield 186, 3) := by decide +kernel
theorem dX6_aircraftOf_61 : decode cX6_aircraftOf 61 = .ok (.ireturn, 1) := by decide +kernel
theorem dX6_aircraftOf_62 : decode cX6_aircraftOf 62 = .ok (.aload_n 3, 1) := by decide +kernel
theorem dX6_aircraftOf_63 : decode cX6_aircraftOf 63 = .ok (.getfield 189, 3) := by decide +kernel
theorem dX6_aircraftOf_66 : decode cX6_aircraftOf 66 = .ok (.ireturn, 1) := by decide +kernel
theorem dX6_aircraftOf_67 : decode cX6_aircraftOf 67 = .ok (.aload_n 3, 1) := by decide +kernel
theorem dX6_aircraftOf_68 : decode cX6_aircraftOf 68 = .ok (.getfield 192, 3) := by decide +kernel
theorem dX6_aircraftOf_71 : decode cX6_aircraftOf 71 = .ok (.ireturn, 1) := by decide +kernel
theorem dX6_aircraftOf_72 : decode cX6_aircraftOf 72 = .ok (.aload_n 3, 1) := by decide +kernel
theorem dX6_aircraftOf_73 : decode cX6_aircraftOf 73 = .ok (.getfield 120, 3) := by decide +kernel
theorem dX6_aircraftOf_76 : decode cX6_aircraftOf 76 = .ok (.iconst 1, 1) := by decide +kernel
theorem dX6_aircraftOf_77 : decode cX6_aircraftOf 77 = .ok (.if_icmp .ne 10, 3) := by decide +kernel
theorem dX6_aircraftOf_80 : decode cX6_aircraftOf 80 = .ok (.aload_n 3, 1) := by decide +kernel
theorem dX6_aircraftOf_81 : decode cX6_aircraftOf 81 = .ok (.getfield 195, 3) := by decide +kernel
theorem dX6_aircraftOf_84 : decode cX6_aircraftOf 84 = .ok (.goto 4, 3) := by decide +kernel
theorem dX6_aircraftOf_87 : decode cX6_aircraftOf 87 = .ok (.iconst (-1), 1) := by decide +kernel
theorem dX6_aircraftOf_88 : decode cX6_aircraftOf 88 = .ok (.ireturn, 1) := by decide +kernel
theorem dX6_clock_0 : decode cX6_clock 0 = .ok (.iload_n 1, 1) := by decide +kernel
theorem dX6_clock_1 : decode cX6_clock 1 = .ok (.aload_n 0, 1) := by decide +kernel
theorem dX6_clock_2 : decode cX6_clock 2 = .ok (.getfield 108, 3) := by decide +kernel
theorem dX6_clock_5 : decode cX6_clock 5 = .ok (.invokestatic 60, 3) := by decide +kernel
theorem dX6_clock_8 : decode cX6_clock 8 = .ok (.aload_n 0, 1) := by decide +kernel
theorem dX6_clock_9 : decode cX6_clock 9 = .ok (.getfield 39, 3) := by decide +kernel
theorem dX6_clock_12 : decode cX6_clock 12 = .ok (.iload_n 1, 1) := by decide +kernel
theorem dX6_clock_13 : decode cX6_clock 13 = .ok (.aaload, 1) := by decide +kernel
theorem dX6_clock_14 : decode cX6_clock 14 = .ok (.getfield 189, 3) := by decide +kernel
theorem dX6_clock_17 : decode cX6_clock 17 = .ok (.ifCond .le 7, 3) := by decide +kernel
theorem dX6_clock_20 : decode cX6_clock 20 = .ok (.iconst 1, 1) := by decide +kernel
theorem dX6_clock_21 : decode cX6_clock 21 = .ok (.goto 4, 3) := by decide +kernel
theorem dX6_clock_24 : decode cX6_clock 24 = .ok (.iconst 0, 1) := by decide +kernel
theorem dX6_clock_25 : decode cX6_clock 25 = .ok (.invokestatic 97, 3) := by decide +kernel
theorem dX6_clock_28 : decode cX6_clock 28 = .ok (.aload_n 0, 1) := by decide +kernel
theorem dX6_clock_29 : decode cX6_clock 29 = .ok (.aload_n 0, 1) := by decide +kernel
theorem dX6_clock_30 : decode cX6_clock 30 = .ok (.getfield 39, 3) := by decide +kernel
theorem dX6_clock_33 : decode cX6_clock 33 = .ok (.iload_n 1, 1) := by decide +kernel
theorem dX6_clock_34 : decode cX6_clock 34 = .ok (.aaload, 1) := by decide +kernel
theorem dX6_clock_35 : decode cX6_clock 35 = .ok (.invokevirtual 198, 3) := by decide +kernel
theorem dX6_clock_38 : decode cX6_clock 38 = .ok (.dreturn, 1) := by decide +kernel
theorem dX6_whyNot_0 : decode cX6_whyNot 0 = .ok (.iload_n 1, 1) := by decide +kernel
theorem dX6_whyNot_1 : decode cX6_whyNot 1 = .ok (.aload_n 0, 1) := by decide +kernel
theorem dX6_whyNot_2 : decode cX6_whyNot 2 = .ok (.getfield 108, 3) := by decide +kernel
theorem dX6_whyNot_5 : decode cX6_whyNot 5 = .ok (.invokestatic 60, 3) := by decide +kernel
theorem dX6_whyNot_8 : decode cX6_whyNot 8 = .ok (.aload_n 0, 1) := by decide +kernel
theorem dX6_whyNot_9 : decode cX6_whyNot 9 = .ok (.getfield 39, 3) := by decide +kernel
theorem dX6_whyNot_12 : decode cX6_whyNot 12 = .ok (.iload_n 1, 1) := by decide +kernel
theorem dX6_whyNot_13 : decode cX6_whyNot 13 = .ok (.aaload, 1) := by decide +kernel
theorem dX6_whyNot_14 : decode cX6_whyNot 14 = .ok (.astore_n 2, 1) := by decide +kernel
theorem dX6_whyNot_15 : decode cX6_whyNot 15 = .ok (.aload_n 2, 1) := by decide +kernel
theorem dX6_whyNot_16 : decode cX6_whyNot 16 = .ok (.getfield 120, 3) := by decide +kernel
theorem dX6_whyNot_19 : decode cX6_whyNot 19 = .ok (.iconst 2, 1) := by decide +kernel
theorem dX6_whyNot_20 : decode cX6_whyNot 20 = .ok (.if_icmp .eq 5, 3) := by decide +kernel
theorem dX6_whyNot_23 : decode cX6_whyNot 23 = .ok (.iconst 1, 1) := by decide +kernel
theorem dX6_whyNot_24 : decode cX6_whyNot 24 = .ok (.ireturn, 1) := by decide +kernel
theorem dX6_whyNot_25 : decode cX6_whyNot 25 = .ok (.aload_n 2, 1) := by decide +kernel
theorem dX6_whyNot_26 : decode cX6_whyNot 26 = .ok (.getfield 202, 3) := by decide +kernel
theorem dX6_whyNot_29 : decode cX6_whyNot 29 = .ok (.aload_n 0, 1) := by decide +kernel
theorem dX6_whyNot_30 : decode cX6_whyNot 30 = .ok (.getfield 64, 3) := by decide +kernel
theorem dX6_whyNot_33 : decode cX6_whyNot 33 = .ok (.if_icmp .le 5, 3) := by decide +kernel
theorem dX6_whyNot_36 : decode cX6_whyNot 36 = .ok (.iconst 2, 1) := by decide +kernel
theorem dX6_whyNot_37 : decode cX6_whyNot 37 = .ok (.ireturn, 1) := by decide +kernel
theorem dX6_whyNot_38 : decode cX6_whyNot 38 = .ok (.aload_n 0, 1) := by decide +kernel
theorem dX6_whyNot_39 : decode cX6_whyNot 39 = .ok (.aload_n 2, 1) := by decide +kernel
theorem dX6_whyNot_40 : decode cX6_whyNot 40 = .ok (.invokevirtual 198, 3) := by decide +kernel
theorem dX6_whyNot_43 : decode cX6_whyNot 43 = .ok (.dconst 0, 1) := by decide +kernel
theorem dX6_whyNot_44 : decode cX6_whyNot 44 = .ok (.dcmp .g, 1) := by decide +kernel
theorem dX6_whyNot_45 : decode cX6_whyNot 45 = .ok (.ifCond .ge 5, 3) := by decide +kernel
theorem dX6_whyNot_48 : decode cX6_whyNot 48 = .ok (.iconst 3, 1) := by decide +kernel
theorem dX6_whyNot_49 : decode cX6_whyNot 49 = .ok (.ireturn, 1) := by decide +kernel
theorem dX6_whyNot_50 : decode cX6_whyNot 50 = .ok (.aload_n 0, 1) := by decide +kernel
theorem dX6_whyNot_51 : decode cX6_whyNot 51 = .ok (.getfield 19, 3) := by decide +kernel
theorem dX6_whyNot_54 : decode cX6_whyNot 54 = .ok (.aload_n 0, 1) := by decide +kernel
theorem dX6_whyNot_55 : decode cX6_whyNot 55 = .ok (.getfield 64, 3) := by decide +kernel
theorem dX6_whyNot_58 : decode cX6_whyNot 58 = .ok (.invokevirtual 205, 3) := by decide +kernel
theorem dX6_whyNot_61 : decode cX6_whyNot 61 = .ok (.ifCond .eq 5, 3) := by decide +kernel
theorem dX6_whyNot_64 : decode cX6_whyNot 64 = .ok (.iconst 4, 1) := by decide +kernel
theorem dX6_whyNot_65 : decode cX6_whyNot 65 = .ok (.ireturn, 1) := by decide +kernel
theorem dX6_whyNot_66 : decode cX6_whyNot 66 = .ok (.aload_n 0, 1) := by decide +kernel
theorem dX6_whyNot_67 : decode cX6_whyNot 67 = .ok (.getfield 19, 3) := by decide +kernel
theorem dX6_whyNot_70 : decode cX6_whyNot 70 = .ok (.aload_n 0, 1) := by decide +kernel
theorem dX6_whyNot_71 : decode cX6_whyNot 71 = .ok (.getfield 64, 3) := by decide +kernel
theorem dX6_whyNot_74 : decode cX6_whyNot 74 = .ok (.aload_n 0, 1) := by decide +kernel
theorem dX6_whyNot_75 : decode cX6_whyNot 75 = .ok (.getfield 10, 3) := by decide +kernel
theorem dX6_whyNot_78 : decode cX6_whyNot 78 = .ok (.invokevirtual 208, 3) := by decide +kernel
theorem dX6_whyNot_81 : decode cX6_whyNot 81 = .ok (.ifCond .eq 7, 3) := by decide +kernel
theorem dX6_whyNot_84 : decode cX6_whyNot 84 = .ok (.iconst 0, 1) := by decide +kernel
theorem dX6_whyNot_85 : decode cX6_whyNot 85 = .ok (.goto 4, 3) := by decide +kernel
theorem dX6_whyNot_88 : decode cX6_whyNot 88 = .ok (.iconst 5, 1) := by decide +kernel
theorem dX6_whyNot_89 : decode cX6_whyNot 89 = .ok (.ireturn, 1) := by decide +kernel
theorem dX6_queue_0 : decode cX6_queue 0 = .ok (.iload_n 1, 1) := by decide +kernel
theorem dX6_queue_1 : decode cX6_queue 1 = .ok (.ifCond .ge 13, 3) := by decide +kernel
theorem dX6_queue_4 : decode cX6_queue 4 = .ok (.new 211, 3) := by decide +kernel
theorem dX6_queue_7 : decode cX6_queue 7 = .ok (.dup, 1) := by decide +kernel
theorem dX6_queue_8 : decode cX6_queue 8 = .ok (.ldc 213, 2) := by decide +kernel
theorem dX6_queue_10 : decode cX6_queue 10 = .ok (.invokespecial 215, 3) := by decide +kernel
theorem dX6_queue_13 : decode cX6_queue 13 = .ok (.athrow, 1) := by decide +kernel
theorem dX6_queue_14 : decode cX6_queue 14 = .ok (.iconst 0, 1) := by decide +kernel
theorem dX6_queue_15 : decode cX6_queue 15 = .ok (.istore_n 2, 1) := by decide +kernel
theorem dX6_queue_16 : decode cX6_queue 16 = .ok (.iload_n 2, 1) := by decide +kernel
theorem dX6_queue_17 : decode cX6_queue 17 = .ok (.aload_n 0, 1) := by decide +kernel
theorem dX6_queue_18 : decode cX6_queue 18 = .ok (.getfield 108, 3) := by decide +kernel
theorem dX6_queue_21 : decode cX6_queue 21 = .ok (.if_icmp .ge 33, 3) := by decide +kernel
theorem dX6_queue_24 : decode cX6_queue 24 = .ok (.aload_n 0, 1) := by decide +kernel
theorem dX6_queue_25 : decode cX6_queue 25 = .ok (.getfield 39, 3) := by decide +kernel
theorem dX6_queue_28 : decode cX6_queue 28 = .ok (.iload_n 2, 1) := by decide +kernel
theorem dX6_queue_29 : decode cX6_queue 29 = .ok (.aaload, 1) := by decide +kernel
theorem dX6_queue_30 : decode cX6_queue 30 = .ok (.getfield 120, 3) := by decide +kernel
theorem dX6_queue_33 : decode cX6_queue 33 = .ok (.iconst 2, 1) := by decide +kernel
theorem dX6_queue_34 : decode cX6_queue 34 = .ok (.if_icmp .ne 14, 3) := by decide +kernel
theorem dX6_queue_37 : decode cX6_queue 37 = .ok (.aload_n 0, 1) := by decide +kernel
theorem dX6_queue_38 : decode cX6_queue 38 = .ok (.iload_n 2, 1) := by decide +kernel
theorem dX6_queue_39 : decode cX6_queue 39 = .ok (.invokevirtual 218, 3) := by decide +kernel
theorem dX6_queue_42 : decode cX6_queue 42 = .ok (.iload_n 1, 1) := by decide +kernel
theorem dX6_queue_43 : decode cX6_queue 43 = .ok (.if_icmp .ne 5, 3) := by decide +kernel
theorem dX6_queue_46 : decode cX6_queue 46 = .ok (.iload_n 2, 1) := by decide +kernel
theorem dX6_queue_47 : decode cX6_queue 47 = .ok (.ireturn, 1) := by decide +kernel
theorem dX6_queue_48 : decode cX6_queue 48 = .ok (.iinc 2 1, 3) := by decide +kernel
theorem dX6_queue_51 : decode cX6_queue 51 = .ok (.goto (-35), 3) := by decide +kernel
theorem dX6_queue_54 : decode cX6_queue 54 = .ok (.iconst (-1), 1) := by decide +kernel
theorem dX6_queue_55 : decode cX6_queue 55 = .ok (.ireturn, 1) := by decide +kernel
theorem dX6_sum_0 : decode cX6_sum 0 = .ok (.iload_n 1, 1) := by decide +kernel
theorem dX6_sum_1 : decode cX6_sum 1 = .ok (.iconst 0, 1) := by decide +kernel
theorem dX6_sum_2 : decode cX6_sum 2 = .ok (.bipush 6, 2) := by decide +kernel
theorem dX6_sum_4 : decode cX6_sum 4 = .ok (.invokestatic 43, 3) := by decide +kernel
theorem dX6_sum_7 : decode cX6_sum 7 = .ok (.iload_n 1, 1) := by decide +kernel
theorem dX6_sum_8 : decode cX6_sum 8 = .ok (.tableswitch 85 0 5 #[40, 48, 56, 61, 69, 77], 40) := by decide +kernel
theorem dX6_sum_48 : decode cX6_sum 48 = .ok (.aload_n 0, 1) := by decide +kernel
theorem dX6_sum_49 : decode cX6_sum 49 = .ok (.getfield 26, 3) := by decide +kernel
theorem dX6_sum_52 : decode cX6_sum 52 = .ok (.getfield 101, 3) := by decide +kernel
theorem dX6_sum_55 : decode cX6_sum 55 = .ok (.ireturn, 1) := by decide +kernel
theorem dX6_sum_56 : decode cX6_sum 56 = .ok (.aload_n 0, 1) := by decide +kernel
theorem dX6_sum_57 : decode cX6_sum 57 = .ok (.getfield 26, 3) := by decide +kernel
theorem dX6_sum_60 : decode cX6_sum 60 = .ok (.invokevirtual 221, 3) := by decide +kernel
theorem dX6_sum_63 : decode cX6_sum 63 = .ok (.ireturn, 1) := by decide +kernel
theorem dX6_sum_64 : decode cX6_sum 64 = .ok (.aload_n 0, 1) := by decide +kernel
theorem dX6_sum_65 : decode cX6_sum 65 = .ok (.invokevirtual 225, 3) := by decide +kernel
theorem dX6_sum_68 : decode cX6_sum 68 = .ok (.ireturn, 1) := by decide +kernel
theorem dX6_sum_69 : decode cX6_sum 69 = .ok (.aload_n 0, 1) := by decide +kernel
theorem dX6_sum_70 : decode cX6_sum 70 = .ok (.getfield 33, 3) := by decide +kernel
theorem dX6_sum_73 : decode cX6_sum 73 = .ok (.getfield 130, 3) := by decide +kernel
theorem dX6_sum_76 : decode cX6_sum 76 = .ok (.ireturn, 1) := by decide +kernel
theorem dX6_sum_77 : decode cX6_sum 77 = .ok (.aload_n 0, 1) := by decide +kernel
theorem dX6_sum_78 : decode cX6_sum 78 = .ok (.getfield 33, 3) := by decide +kernel
theorem dX6_sum_81 : decode cX6_sum 81 = .ok (.getfield 228, 3) := by decide +kernel
theorem dX6_sum_84 : decode cX6_sum 84 = .ok (.ireturn, 1) := by decide +kernel
theorem dX6_sum_85 : decode cX6_sum 85 = .ok (.aload_n 0, 1) := by decide +kernel
theorem dX6_sum_86 : decode cX6_sum 86 = .ok (.getfield 33, 3) := by decide +kernel
theorem dX6_sum_89 : decode cX6_sum 89 = .ok (.getfield 157, 3) := by decide +kernel
theorem dX6_sum_92 : decode cX6_sum 92 = .ok (.ireturn, 1) := by decide +kernel
theorem dX6_sum_93 : decode cX6_sum 93 = .ok (.aload_n 0, 1) := by decide +kernel
theorem dX6_sum_94 : decode cX6_sum 94 = .ok (.getfield 19, 3) := by decide +kernel
theorem dX6_sum_97 : decode cX6_sum 97 = .ok (.getfield 231, 3) := by decide +kernel
theorem dX6_sum_100 : decode cX6_sum 100 = .ok (.ireturn, 1) := by decide +kernel
theorem dX6_liveMinute_0 : decode cX6_liveMinute 0 = .ok (.aload_n 0, 1) := by decide +kernel
theorem dX6_liveMinute_1 : decode cX6_liveMinute 1 = .ok (.dup, 1) := by decide +kernel
theorem dX6_liveMinute_2 : decode cX6_liveMinute 2 = .ok (.getfield 64, 3) := by decide +kernel
theorem dX6_liveMinute_5 : decode cX6_liveMinute 5 = .ok (.iconst 1, 1) := by decide +kernel
theorem dX6_liveMinute_6 : decode cX6_liveMinute 6 = .ok (.iadd, 1) := by decide +kernel
theorem dX6_liveMinute_7 : decode cX6_liveMinute 7 = .ok (.putfield 64, 3) := by decide +kernel
theorem dX6_liveMinute_10 : decode cX6_liveMinute 10 = .ok (.aload_n 0, 1) := by decide +kernel
theorem dX6_liveMinute_11 : decode cX6_liveMinute 11 = .ok (.getfield 19, 3) := by decide +kernel
theorem dX6_liveMinute_14 : decode cX6_liveMinute 14 = .ok (.aload_n 0, 1) := by decide +kernel
theorem dX6_liveMinute_15 : decode cX6_liveMinute 15 = .ok (.getfield 64, 3) := by decide +kernel
theorem dX6_liveMinute_18 : decode cX6_liveMinute 18 = .ok (.aload_n 0, 1) := by decide +kernel
theorem dX6_liveMinute_19 : decode cX6_liveMinute 19 = .ok (.getfield 10, 3) := by decide +kernel
theorem dX6_liveMinute_22 : decode cX6_liveMinute 22 = .ok (.invokevirtual 234, 3) := by decide +kernel
theorem dX6_liveMinute_25 : decode cX6_liveMinute 25 = .ok (.aload_n 0, 1) := by decide +kernel
theorem dX6_liveMinute_26 : decode cX6_liveMinute 26 = .ok (.invokevirtual 237, 3) := by decide +kernel
theorem dX6_liveMinute_29 : decode cX6_liveMinute 29 = .ok (.aload_n 0, 1) := by decide +kernel
theorem dX6_liveMinute_30 : decode cX6_liveMinute 30 = .ok (.getfield 33, 3) := by decide +kernel
theorem dX6_liveMinute_33 : decode cX6_liveMinute 33 = .ok (.invokevirtual 240, 3) := by decide +kernel
theorem dX6_liveMinute_36 : decode cX6_liveMinute 36 = .ok (.aload_n 0, 1) := by decide +kernel
theorem dX6_liveMinute_37 : decode cX6_liveMinute 37 = .ok (.invokevirtual 242, 3) := by decide +kernel
theorem dX6_liveMinute_40 : decode cX6_liveMinute 40 = .ok (.aload_n 0, 1) := by decide +kernel
theorem dX6_liveMinute_41 : decode cX6_liveMinute 41 = .ok (.invokevirtual 245, 3) := by decide +kernel
theorem dX6_liveMinute_44 : decode cX6_liveMinute 44 = .ok (.aload_n 0, 1) := by decide +kernel
theorem dX6_liveMinute_45 : decode cX6_liveMinute 45 = .ok (.getfield 19, 3) := by decide +kernel
theorem dX6_liveMinute_48 : decode cX6_liveMinute 48 = .ok (.aload_n 0, 1) := by decide +kernel
theorem dX6_liveMinute_49 : decode cX6_liveMinute 49 = .ok (.getfield 64, 3) := by decide +kernel
theorem dX6_liveMinute_52 : decode cX6_liveMinute 52 = .ok (.aload_n 0, 1) := by decide +kernel
theorem dX6_liveMinute_53 : decode cX6_liveMinute 53 = .ok (.getfield 10, 3) := by decide +kernel
theorem dX6_liveMinute_56 : decode cX6_liveMinute 56 = .ok (.invokevirtual 182, 3) := by decide +kernel
theorem dX6_liveMinute_59 : decode cX6_liveMinute 59 = .ok (.ifCond .eq 7, 3) := by decide +kernel
theorem dX6_liveMinute_62 : decode cX6_liveMinute 62 = .ok (.aload_n 0, 1) := by decide +kernel
theorem dX6_liveMinute_63 : decode cX6_liveMinute 63 = .ok (.invokevirtual 248, 3) := by decide +kernel
theorem dX6_liveMinute_66 : decode cX6_liveMinute 66 = .ok (.return_, 1) := by decide +kernel
theorem dX6_endTreatments_0 : decode cX6_endTreatments 0 = .ok (.iconst 0, 1) := by decide +kernel
theorem dX6_endTreatments_1 : decode cX6_endTreatments 1 = .ok (.istore_n 1, 1) := by decide +kernel
theorem dX6_endTreatments_2 : decode cX6_endTreatments 2 = .ok (.iload_n 1, 1) := by decide +kernel
theorem dX6_endTreatments_3 : decode cX6_endTreatments 3 = .ok (.aload_n 0, 1) := by decide +kernel
theorem dX6_endTreatments_4 : decode cX6_endTreatments 4 = .ok (.getfield 108, 3) := by decide +kernel
theorem dX6_endTreatments_7 : decode cX6_endTreatments 7 = .ok (.if_icmp .ge 48, 3) := by decide +kernel
theorem dX6_endTreatments_10 : decode cX6_endTreatments 10 = .ok (.aload_n 0, 1) := by decide +kernel
theorem dX6_endTreatments_11 : decode cX6_endTreatments 11 = .ok (.getfield 39, 3) := by decide +kernel
theorem dX6_endTreatments_14 : decode cX6_endTreatments 14 = .ok (.iload_n 1, 1) := by decide +kernel
theorem dX6_endTreatments_15 : decode cX6_endTreatments 15 = .ok (.aaload, 1) := by decide +kernel
theorem dX6_endTreatments_16 : decode cX6_endTreatments 16 = .ok (.getfield 120, 3) := by decide +kernel
theorem dX6_endTreatments_19 : decode cX6_endTreatments 19 = .ok (.iconst 1, 1) := by decide +kernel
theorem dX6_endTreatments_20 : decode cX6_endTreatments 20 = .ok (.if_icmp .ne 29, 3) := by decide +kernel
theorem dX6_endTreatments_23 : decode cX6_endTreatments 23 = .ok (.aload_n 0, 1) := by decide +kernel
theorem dX6_endTreatments_24 : decode cX6_endTreatments 24 = .ok (.getfield 39, 3) := by decide +kernel
theorem dX6_endTreatments_27 : decode cX6_endTreatments 27 = .ok (.iload_n 1, 1) := by decide +kernel
theorem dX6_endTreatments_28 : decode cX6_endTreatments 28 = .ok (.aaload, 1) := by decide +kernel
theorem dX6_endTreatments_29 : decode cX6_endTreatments 29 = .ok (.getfield 143, 3) := by decide +kernel
theorem dX6_endTreatments_32 : decode cX6_endTreatments 32 = .ok (.aload_n 0, 1) := by decide +kernel
theorem dX6_endTreatments_33 : decode cX6_endTreatments 33 = .ok (.getfield 64, 3) := by decide +kernel
theorem dX6_endTreatments_36 : decode cX6_endTreatments 36 = .ok (.if_icmp .gt 13, 3) := by decide +kernel
theorem dX6_endTreatments_39 : decode cX6_endTreatments 39 = .ok (.aload_n 0, 1) := by decide +kernel
theorem dX6_endTreatments_40 : decode cX6_endTreatments 40 = .ok (.getfield 39, 3) := by decide +kernel
theorem dX6_endTreatments_43 : decode cX6_endTreatments 43 = .ok (.iload_n 1, 1) := by decide +kernel
theorem dX6_endTreatments_44 : decode cX6_endTreatments 44 = .ok (.aaload, 1) := by decide +kernel
theorem dX6_endTreatments_45 : decode cX6_endTreatments 45 = .ok (.iconst 2, 1) := by decide +kernel
theorem dX6_endTreatments_46 : decode cX6_endTreatments 46 = .ok (.putfield 120, 3) := by decide +kernel
theorem dX6_endTreatments_49 : decode cX6_endTreatments 49 = .ok (.iinc 1 1, 3) := by decide +kernel
theorem dX6_endTreatments_52 : decode cX6_endTreatments 52 = .ok (.goto (-50), 3) := by decide +kernel
theorem dX6_endTreatments_55 : decode cX6_endTreatments 55 = .ok (.return_, 1) := by decide +kernel
theorem dX6_cancelBehindDuty_0 : decode cX6_cancelBehindDuty 0 = .ok (.iconst 0, 1) := by decide +kernel
theorem dX6_cancelBehindDuty_1 : decode cX6_cancelBehindDuty 1 = .ok (.istore_n 1, 1) := by decide +kernel
theorem dX6_cancelBehindDuty_2 : decode cX6_cancelBehindDuty 2 = .ok (.iload_n 1, 1) := by decide +kernel
theorem dX6_cancelBehindDuty_3 : decode cX6_cancelBehindDuty 3 = .ok (.aload_n 0, 1) := by decide +kernel
theorem dX6_cancelBehindDuty_4 : decode cX6_cancelBehindDuty 4 = .ok (.getfield 108, 3) := by decide +kernel
theorem dX6_cancelBehindDuty_7 : decode cX6_cancelBehindDuty 7 = .ok (.if_icmp .ge 47, 3) := by decide +kernel
theorem dX6_cancelBehindDuty_10 : decode cX6_cancelBehindDuty 10 = .ok (.aload_n 0, 1) := by decide +kernel
theorem dX6_cancelBehindDuty_11 : decode cX6_cancelBehindDuty 11 = .ok (.getfield 39, 3) := by decide +kernel
theorem dX6_cancelBehindDuty_14 : decode cX6_cancelBehindDuty 14 = .ok (.iload_n 1, 1) := by decide +kernel
theorem dX6_cancelBehindDuty_15 : decode cX6_cancelBehindDuty 15 = .ok (.aaload, 1) := by decide +kernel
theorem dX6_cancelBehindDuty_16 : decode cX6_cancelBehindDuty 16 = .ok (.invokevirtual 146, 3) := by decide +kernel
theorem dX6_cancelBehindDuty_19 : decode cX6_cancelBehindDuty 19 = .ok (.ifCond .ne 29, 3) := by decide +kernel
theorem dX6_cancelBehindDuty_22 : decode cX6_cancelBehindDuty 22 = .ok (.aload_n 0, 1) := by decide +kernel
theorem dX6_cancelBehindDuty_23 : decode cX6_cancelBehindDuty 23 = .ok (.getfield 39, 3) := by decide +kernel
theorem dX6_cancelBehindDuty_26 : decode cX6_cancelBehindDuty 26 = .ok (.iload_n 1, 1) := by decide +kernel
theorem dX6_cancelBehindDuty_27 : decode cX6_cancelBehindDuty 27 = .ok (.aaload, 1) := by decide +kernel
theorem dX6_cancelBehindDuty_28 : decode cX6_cancelBehindDuty 28 = .ok (.getfield 251, 3) := by decide +kernel
theorem dX6_cancelBehindDuty_31 : decode cX6_cancelBehindDuty 31 = .ok (.aload_n 0, 1) := by decide +kernel
theorem dX6_cancelBehindDuty_32 : decode cX6_cancelBehindDuty 32 = .ok (.getfield 64, 3) := by decide +kernel
theorem dX6_cancelBehindDuty_35 : decode cX6_cancelBehindDuty 35 = .ok (.if_icmp .ge 13, 3) := by decide +kernel
theorem dX6_cancelBehindDuty_38 : decode cX6_cancelBehindDuty 38 = .ok (.aload_n 0, 1) := by decide +kernel
theorem dX6_cancelBehindDuty_39 : decode cX6_cancelBehindDuty 39 = .ok (.getfield 39, 3) := by decide +kernel
theorem dX6_cancelBehindDuty_42 : decode cX6_cancelBehindDuty 42 = .ok (.iload_n 1, 1) := by decide +kernel
theorem dX6_cancelBehindDuty_43 : decode cX6_cancelBehindDuty 43 = .ok (.aaload, 1) := by decide +kernel
theorem dX6_cancelBehindDuty_44 : decode cX6_cancelBehindDuty 44 = .ok (.iconst 4, 1) := by decide +kernel
theorem dX6_cancelBehindDuty_45 : decode cX6_cancelBehindDuty 45 = .ok (.putfield 120, 3) := by decide +kernel
theorem dX6_cancelBehindDuty_48 : decode cX6_cancelBehindDuty 48 = .ok (.iinc 1 1, 3) := by decide +kernel
theorem dX6_cancelBehindDuty_51 : decode cX6_cancelBehindDuty 51 = .ok (.goto (-49), 3) := by decide +kernel
theorem dX6_cancelBehindDuty_54 : decode cX6_cancelBehindDuty 54 = .ok (.return_, 1) := by decide +kernel
theorem dX6_sendBackWithoutClock_0 : decode cX6_sendBackWithoutClock 0 = .ok (.iconst 0, 1) := by decide +kernel
theorem dX6_sendBackWithoutClock_1 : decode cX6_sendBackWithoutClock 1 = .ok (.istore_n 1, 1) := by decide +kernel
theorem dX6_sendBackWithoutClock_2 : decode cX6_sendBackWithoutClock 2 = .ok (.iload_n 1, 1) := by decide +kernel
theorem dX6_sendBackWithoutClock_3 : decode cX6_sendBackWithoutClock 3 = .ok (.aload_n 0, 1) := by decide +kernel
theorem dX6_sendBackWithoutClock_4 : decode cX6_sendBackWithoutClock 4 = .ok (.getfield 108, 3) := by decide +kernel
theorem dX6_sendBackWithoutClock_7 : decode cX6_sendBackWithoutClock 7 = .ok (.if_icmp .ge 47, 3) := by decide +kernel
theorem dX6_sendBackWithoutClock_10 : decode cX6_sendBackWithoutClock 10 = .ok (.aload_n 0, 1) := by decide +kernel
theorem dX6_sendBackWithoutClock_11 : decode cX6_sendBackWithoutClock 11 = .ok (.getfield 39, 3) := by decide +kernel
theorem dX6_sendBackWithoutClock_14 : decode cX6_sendBackWithoutClock 14 = .ok (.iload_n 1, 1) := by decide +kernel
theorem dX6_sendBackWithoutClock_15 : decode cX6_sendBackWithoutClock 15 = .ok (.aaload, 1) := by decide +kernel
theorem dX6_sendBackWithoutClock_16 : decode cX6_sendBackWithoutClock 16 = .ok (.getfield 120, 3) := by decide +kernel
theorem dX6_sendBackWithoutClock_19 : decode cX6_sendBackWithoutClock 19 = .ok (.iconst 2, 1) := by decide +kernel
theorem dX6_sendBackWithoutClock_20 : decode cX6_sendBackWithoutClock 20 = .ok (.if_icmp .ne 28, 3) := by decide +kernel
theorem dX6_sendBackWithoutClock_23 : decode cX6_sendBackWithoutClock 23 = .ok (.aload_n 0, 1) := by decide +kernel
theorem dX6_sendBackWithoutClock_24 : decode cX6_sendBackWithoutClock 24 = .ok (.aload_n 0, 1) := by decide +kernel
theorem dX6_sendBackWithoutClock_25 : decode cX6_sendBackWithoutClock 25 = .ok (.getfield 39, 3) := by decide +kernel
theorem dX6_sendBackWithoutClock_28 : decode cX6_sendBackWithoutClock 28 = .ok (.iload_n 1, 1) := by decide +kernel
theorem dX6_sendBackWithoutClock_29 : decode cX6_sendBackWithoutClock 29 = .ok (.aaload, 1) := by decide +kernel
theorem dX6_sendBackWithoutClock_30 : decode cX6_sendBackWithoutClock 30 = .ok (.invokevirtual 198, 3) := by decide +kernel
theorem dX6_sendBackWithoutClock_33 : decode cX6_sendBackWithoutClock 33 = .ok (.dconst 0, 1) := by decide +kernel
theorem dX6_sendBackWithoutClock_34 : decode cX6_sendBackWithoutClock 34 = .ok (.dcmp .g, 1) := by decide +kernel
theorem dX6_sendBackWithoutClock_35 : decode cX6_sendBackWithoutClock 35 = .ok (.ifCond .ge 13, 3) := by decide +kernel
theorem dX6_sendBackWithoutClock_38 : decode cX6_sendBackWithoutClock 38 = .ok (.aload_n 0, 1) := by decide +kernel
theorem dX6_sendBackWithoutClock_39 : decode cX6_sendBackWithoutClock 39 = .ok (.getfield 39, 3) := by decide +kernel
theorem dX6_sendBackWithoutClock_42 : decode cX6_sendBackWithoutClock 42 = .ok (.iload_n 1, 1) := by decide +kernel
theorem dX6_sendBackWithoutClock_43 : decode cX6_sendBackWithoutClock 43 = .ok (.aaload, 1) := by decide +kernel
theorem dX6_sendBackWithoutClock_44 : decode cX6_sendBackWithoutClock 44 = .ok (.iconst 0, 1) := by decide +kernel
theorem dX6_sendBackWithoutClock_45 : decode cX6_sendBackWithoutClock 45 = .ok (.putfield 120, 3) := by decide +kernel
theorem dX6_sendBackWithoutClock_48 : decode cX6_sendBackWithoutClock 48 = .ok (.iinc 1 1, 3) := by decide +kernel
theorem dX6_sendBackWithoutClock_51 : decode cX6_sendBackWithoutClock 51 = .ok (.goto (-49), 3) := by decide +kernel
theorem dX6_sendBackWithoutClock_54 : decode cX6_sendBackWithoutClock 54 = .ok (.return_, 1) := by decide +kernel
theorem dX6_letOneLeave_0 : decode cX6_letOneLeave 0 = .ok (.iconst (-1), 1) := by decide +kernel
theorem dX6_letOneLeave_1 : decode cX6_letOneLeave 1 = .ok (.istore_n 1, 1) := by decide +kernel
theorem dX6_letOneLeave_2 : decode cX6_letOneLeave 2 = .ok (.iconst 0, 1) := by decide +kernel
theorem dX6_letOneLeave_3 : decode cX6_letOneLeave 3 = .ok (.istore_n 2, 1) := by decide +kernel
theorem dX6_letOneLeave_4 : decode cX6_letOneLeave 4 = .ok (.iload_n 2, 1) := by decide +kernel
theorem dX6_letOneLeave_5 : decode cX6_letOneLeave 5 = .ok (.aload_n 0, 1) := by decide +kernel
theorem dX6_letOneLeave_6 : decode cX6_letOneLeave 6 = .ok (.getfield 108, 3) := by decide +kernel
theorem dX6_letOneLeave_9 : decode cX6_letOneLeave 9 = .ok (.if_icmp .ge 64, 3) := by decide +kernel
theorem dX6_letOneLeave_12 : decode cX6_letOneLeave 12 = .ok (.aload_n 0, 1) := by decide +kernel
theorem dX6_letOneLeave_13 : decode cX6_letOneLeave 13 = .ok (.getfield 39, 3) := by decide +kernel
theorem dX6_letOneLeave_16 : decode cX6_letOneLeave 16 = .ok (.iload_n 2, 1) := by decide +kernel
theorem dX6_letOneLeave_17 : decode cX6_letOneLeave 17 = .ok (.aaload, 1) := by decide +kernel
theorem dX6_letOneLeave_18 : decode cX6_letOneLeave 18 = .ok (.getfield 120, 3) := by decide +kernel
theorem dX6_letOneLeave_21 : decode cX6_letOneLeave 21 = .ok (.iconst 2, 1) := by decide +kernel
theorem dX6_letOneLeave_22 : decode cX6_letOneLeave 22 = .ok (.if_icmp .ne 23, 3) := by decide +kernel
theorem dX6_letOneLeave_25 : decode cX6_letOneLeave 25 = .ok (.aload_n 0, 1) := by decide +kernel
theorem dX6_letOneLeave_26 : decode cX6_letOneLeave 26 = .ok (.getfield 39, 3) := by decide +kernel
theorem dX6_letOneLeave_29 : decode cX6_letOneLeave 29 = .ok (.iload_n 2, 1) := by decide +kernel
theorem dX6_letOneLeave_30 : decode cX6_letOneLeave 30 = .ok (.aaload, 1) := by decide +kernel
theorem dX6_letOneLeave_31 : decode cX6_letOneLeave 31 = .ok (.getfield 202, 3) := by decide +kernel
theorem dX6_letOneLeave_34 : decode cX6_letOneLeave 34 = .ok (.aload_n 0, 1) := by decide +kernel
theorem dX6_letOneLeave_35 : decode cX6_letOneLeave 35 = .ok (.getfield 64, 3) := by decide +kernel
theorem dX6_letOneLeave_38 : decode cX6_letOneLeave 38 = .ok (.if_icmp .gt 7, 3) := by decide +kernel
theorem dX6_letOneLeave_41 : decode cX6_letOneLeave 41 = .ok (.iconst 1, 1) := by decide +kernel
theorem dX6_letOneLeave_42 : decode cX6_letOneLeave 42 = .ok (.goto 4, 3) := by decide +kernel
theorem dX6_letOneLeave_45 : decode cX6_letOneLeave 45 = .ok (.iconst 0, 1) := by decide +kernel
theorem dX6_letOneLeave_46 : decode cX6_letOneLeave 46 = .ok (.istore_n 3, 1) := by decide +kernel
theorem dX6_letOneLeave_47 : decode cX6_letOneLeave 47 = .ok (.iload_n 3, 1) := by decide +kernel
theorem dX6_letOneLeave_48 : decode cX6_letOneLeave 48 = .ok (.ifCond .eq 19, 3) := by decide +kernel
theorem dX6_letOneLeave_51 : decode cX6_letOneLeave 51 = .ok (.iload_n 1, 1) := by decide +kernel
theorem dX6_letOneLeave_52 : decode cX6_letOneLeave 52 = .ok (.iconst (-1), 1) := by decide +kernel
theorem dX6_letOneLeave_53 : decode cX6_letOneLeave 53 = .ok (.if_icmp .eq 12, 3) := by decide +kernel
theorem dX6_letOneLeave_56 : decode cX6_letOneLeave 56 = .ok (.aload_n 0, 1) := by decide +kernel
theorem dX6_letOneLeave_57 : decode cX6_letOneLeave 57 = .ok (.iload_n 2, 1) := by decide +kernel
theorem dX6_letOneLeave_58 : decode cX6_letOneLeave 58 = .ok (.iload_n 1, 1) := by decide +kernel
theorem dX6_letOneLeave_59 : decode cX6_letOneLeave 59 = .ok (.invokevirtual 254, 3) := by decide +kernel
theorem dX6_letOneLeave_62 : decode cX6_letOneLeave 62 = .ok (.ifCond .eq 5, 3) := by decide +kernel
theorem dX6_letOneLeave_65 : decode cX6_letOneLeave 65 = .ok (.iload_n 2, 1) := by decide +kernel
theorem dX6_letOneLeave_66 : decode cX6_letOneLeave 66 = .ok (.istore_n 1, 1) := by decide +kernel
theorem dX6_letOneLeave_67 : decode cX6_letOneLeave 67 = .ok (.iinc 2 1, 3) := by decide +kernel
theorem dX6_letOneLeave_70 : decode cX6_letOneLeave 70 = .ok (.goto (-66), 3) := by decide +kernel
theorem dX6_letOneLeave_73 : decode cX6_letOneLeave 73 = .ok (.iload_n 1, 1) := by decide +kernel
theorem dX6_letOneLeave_74 : decode cX6_letOneLeave 74 = .ok (.iconst (-1), 1) := by decide +kernel
theorem dX6_letOneLeave_75 : decode cX6_letOneLeave 75 = .ok (.if_icmp .eq 26, 3) := by decide +kernel
theorem dX6_letOneLeave_78 : decode cX6_letOneLeave 78 = .ok (.aload_n 0, 1) := by decide +kernel
theorem dX6_letOneLeave_79 : decode cX6_letOneLeave 79 = .ok (.getfield 39, 3) := by decide +kernel
theorem dX6_letOneLeave_82 : decode cX6_letOneLeave 82 = .ok (.iload_n 1, 1) := by decide +kernel
theorem dX6_letOneLeave_83 : decode cX6_letOneLeave 83 = .ok (.aaload, 1) := by decide +kernel
theorem dX6_letOneLeave_84 : decode cX6_letOneLeave 84 = .ok (.iconst 3, 1) := by decide +kernel
theorem dX6_letOneLeave_85 : decode cX6_letOneLeave 85 = .ok (.putfield 120, 3) := by decide +kernel
theorem dX6_letOneLeave_88 : decode cX6_letOneLeave 88 = .ok (.aload_n 0, 1) := by decide +kernel
theorem dX6_letOneLeave_89 : decode cX6_letOneLeave 89 = .ok (.getfield 39, 3) := by decide +kernel
theorem dX6_letOneLeave_92 : decode cX6_letOneLeave 92 = .ok (.iload_n 1, 1) := by decide +kernel
theorem dX6_letOneLeave_93 : decode cX6_letOneLeave 93 = .ok (.aaload, 1) := by decide +kernel
theorem dX6_letOneLeave_94 : decode cX6_letOneLeave 94 = .ok (.aload_n 0, 1) := by decide +kernel
theorem dX6_letOneLeave_95 : decode cX6_letOneLeave 95 = .ok (.getfield 64, 3) := by decide +kernel
theorem dX6_letOneLeave_98 : decode cX6_letOneLeave 98 = .ok (.putfield 186, 3) := by decide +kernel
theorem dX6_letOneLeave_101 : decode cX6_letOneLeave 101 = .ok (.return_, 1) := by decide +kernel
theorem dX6_padIsFree_0 : decode cX6_padIsFree 0 = .ok (.iconst 0, 1) := by decide +kernel
theorem dX6_padIsFree_1 : decode cX6_padIsFree 1 = .ok (.istore_n 2, 1) := by decide +kernel
theorem dX6_padIsFree_2 : decode cX6_padIsFree 2 = .ok (.iload_n 2, 1) := by decide +kernel
theorem dX6_padIsFree_3 : decode cX6_padIsFree 3 = .ok (.aload_n 0, 1) := by decide +kernel
theorem dX6_padIsFree_4 : decode cX6_padIsFree 4 = .ok (.getfield 108, 3) := by decide +kernel
theorem dX6_padIsFree_7 : decode cX6_padIsFree 7 = .ok (.if_icmp .ge 37, 3) := by decide +kernel
theorem dX6_padIsFree_10 : decode cX6_padIsFree 10 = .ok (.aload_n 0, 1) := by decide +kernel
theorem dX6_padIsFree_11 : decode cX6_padIsFree 11 = .ok (.getfield 39, 3) := by decide +kernel
theorem dX6_padIsFree_14 : decode cX6_padIsFree 14 = .ok (.iload_n 2, 1) := by decide +kernel
theorem dX6_padIsFree_15 : decode cX6_padIsFree 15 = .ok (.aaload, 1) := by decide +kernel
theorem dX6_padIsFree_16 : decode cX6_padIsFree 16 = .ok (.getfield 120, 3) := by decide +kernel
theorem dX6_padIsFree_19 : decode cX6_padIsFree 19 = .ok (.iconst 1, 1) := by decide +kernel
theorem dX6_padIsFree_20 : decode cX6_padIsFree 20 = .ok (.if_icmp .ne 18, 3) := by decide +kernel
theorem dX6_padIsFree_23 : decode cX6_padIsFree 23 = .ok (.aload_n 0, 1) := by decide +kernel
theorem dX6_padIsFree_24 : decode cX6_padIsFree 24 = .ok (.getfield 39, 3) := by decide +kernel
theorem dX6_padIsFree_27 : decode cX6_padIsFree 27 = .ok (.iload_n 2, 1) := by decide +kernel
theorem dX6_padIsFree_28 : decode cX6_padIsFree 28 = .ok (.aaload, 1) := by decide +kernel
theorem dX6_padIsFree_29 : decode cX6_padIsFree 29 = .ok (.getfield 195, 3) := by decide +kernel
theorem dX6_padIsFree_32 : decode cX6_padIsFree 32 = .ok (.iload_n 1, 1) := by decide +kernel
theorem dX6_padIsFree_33 : decode cX6_padIsFree 33 = .ok (.if_icmp .ne 5, 3) := by decide +kernel
theorem dX6_padIsFree_36 : decode cX6_padIsFree 36 = .ok (.iconst 0, 1) := by decide +kernel
theorem dX6_padIsFree_37 : decode cX6_padIsFree 37 = .ok (.ireturn, 1) := by decide +kernel
theorem dX6_padIsFree_38 : decode cX6_padIsFree 38 = .ok (.iinc 2 1, 3) := by decide +kernel
theorem dX6_padIsFree_41 : decode cX6_padIsFree 41 = .ok (.goto (-39), 3) := by decide +kernel
theorem dX6_padIsFree_44 : decode cX6_padIsFree 44 = .ok (.iconst 1, 1) := by decide +kernel
theorem dX6_padIsFree_45 : decode cX6_padIsFree 45 = .ok (.ireturn, 1) := by decide +kernel
theorem dX6_placeInQueue_0 : decode cX6_placeInQueue 0 = .ok (.iconst 0, 1) := by decide +kernel
theorem dX6_placeInQueue_1 : decode cX6_placeInQueue 1 = .ok (.istore_n 2, 1) := by decide +kernel
theorem dX6_placeInQueue_2 : decode cX6_placeInQueue 2 = .ok (.iconst 0, 1) := by decide +kernel
theorem dX6_placeInQueue_3 : decode cX6_placeInQueue 3 = .ok (.istore_n 3, 1) := by decide +kernel
theorem dX6_placeInQueue_4 : decode cX6_placeInQueue 4 = .ok (.iload_n 3, 1) := by decide +kernel
theorem dX6_placeInQueue_5 : decode cX6_placeInQueue 5 = .ok (.aload_n 0, 1) := by decide +kernel
theorem dX6_placeInQueue_6 : decode cX6_placeInQueue 6 = .ok (.getfield 108, 3) := by decide +kernel
theorem dX6_placeInQueue_9 : decode cX6_placeInQueue 9 = .ok (.if_icmp .ge 39, 3) := by decide +kernel
theorem dX6_placeInQueue_12 : decode cX6_placeInQueue 12 = .ok (.iload_n 3, 1) := by decide +kernel
theorem dX6_placeInQueue_13 : decode cX6_placeInQueue 13 = .ok (.iload_n 1, 1) := by decide +kernel
theorem dX6_placeInQueue_14 : decode cX6_placeInQueue 14 = .ok (.if_icmp .eq 28, 3) := by decide +kernel
theorem dX6_placeInQueue_17 : decode cX6_placeInQueue 17 = .ok (.aload_n 0, 1) := by decide +kernel
theorem dX6_placeInQueue_18 : decode cX6_placeInQueue 18 = .ok (.getfield 39, 3) := by decide +kernel
theorem dX6_placeInQueue_21 : decode cX6_placeInQueue 21 = .ok (.iload_n 3, 1) := by decide +kernel
theorem dX6_placeInQueue_22 : decode cX6_placeInQueue 22 = .ok (.aaload, 1) := by decide +kernel
theorem dX6_placeInQueue_23 : decode cX6_placeInQueue 23 = .ok (.getfield 120, 3) := by decide +kernel
theorem dX6_placeInQueue_26 : decode cX6_placeInQueue 26 = .ok (.iconst 2, 1) := by decide +kernel
theorem dX6_placeInQueue_27 : decode cX6_placeInQueue 27 = .ok (.if_icmp .ne 15, 3) := by decide +kernel
theorem dX6_placeInQueue_30 : decode cX6_placeInQueue 30 = .ok (.aload_n 0, 1) := by decide +kernel
theorem dX6_placeInQueue_31 : decode cX6_placeInQueue 31 = .ok (.iload_n 3, 1) := by decide +kernel
theorem dX6_placeInQueue_32 : decode cX6_placeInQueue 32 = .ok (.iload_n 1, 1) := by decide +kernel
theorem dX6_placeInQueue_33 : decode cX6_placeInQueue 33 = .ok (.invokevirtual 254, 3) := by decide +kernel
theorem dX6_placeInQueue_36 : decode cX6_placeInQueue 36 = .ok (.ifCond .eq 6, 3) := by decide +kernel
theorem dX6_placeInQueue_39 : decode cX6_placeInQueue 39 = .ok (.iinc 2 1, 3) := by decide +kernel
theorem dX6_placeInQueue_42 : decode cX6_placeInQueue 42 = .ok (.iinc 3 1, 3) := by decide +kernel
theorem dX6_placeInQueue_45 : decode cX6_placeInQueue 45 = .ok (.goto (-41), 3) := by decide +kernel
theorem dX6_placeInQueue_48 : decode cX6_placeInQueue 48 = .ok (.iload_n 2, 1) := by decide +kernel
theorem dX6_placeInQueue_49 : decode cX6_placeInQueue 49 = .ok (.ireturn, 1) := by decide +kernel
theorem dX6_goesAhead_0 : decode cX6_goesAhead 0 = .ok (.aload_n 0, 1) := by decide +kernel
theorem dX6_goesAhead_1 : decode cX6_goesAhead 1 = .ok (.aload_n 0, 1) := by decide +kernel
theorem dX6_goesAhead_2 : decode cX6_goesAhead 2 = .ok (.getfield 39, 3) := by decide +kernel
theorem dX6_goesAhead_5 : decode cX6_goesAhead 5 = .ok (.iload_n 1, 1) := by decide +kernel
theorem dX6_goesAhead_6 : decode cX6_goesAhead 6 = .ok (.aaload, 1) := by decide +kernel
theorem dX6_goesAhead_7 : decode cX6_goesAhead 7 = .ok (.invokevirtual 198, 3) := by decide +kernel
theorem dX6_goesAhead_10 : decode cX6_goesAhead 10 = .ok (.dstore_n 3, 1) := by decide +kernel
theorem dX6_goesAhead_11 : decode cX6_goesAhead 11 = .ok (.aload_n 0, 1) := by decide +kernel
theorem dX6_goesAhead_12 : decode cX6_goesAhead 12 = .ok (.aload_n 0, 1) := by decide +kernel
theorem dX6_goesAhead_13 : decode cX6_goesAhead 13 = .ok (.getfield 39, 3) := by decide +kernel
theorem dX6_goesAhead_16 : decode cX6_goesAhead 16 = .ok (.iload_n 2, 1) := by decide +kernel
theorem dX6_goesAhead_17 : decode cX6_goesAhead 17 = .ok (.aaload, 1) := by decide +kernel
theorem dX6_goesAhead_18 : decode cX6_goesAhead 18 = .ok (.invokevirtual 198, 3) := by decide +kernel
theorem dX6_goesAhead_21 : decode cX6_goesAhead 21 = .ok (.dstore 5, 2) := by decide +kernel
theorem dX6_goesAhead_23 : decode cX6_goesAhead 23 = .ok (.dload_n 3, 1) := by decide +kernel
theorem dX6_goesAhead_24 : decode cX6_goesAhead 24 = .ok (.dload 5, 2) := by decide +kernel
theorem dX6_goesAhead_26 : decode cX6_goesAhead 26 = .ok (.dcmp .g, 1) := by decide +kernel
theorem dX6_goesAhead_27 : decode cX6_goesAhead 27 = .ok (.ifCond .lt 15, 3) := by decide +kernel
theorem dX6_goesAhead_30 : decode cX6_goesAhead 30 = .ok (.dload_n 3, 1) := by decide +kernel
theorem dX6_goesAhead_31 : decode cX6_goesAhead 31 = .ok (.dload 5, 2) := by decide +kernel
theorem dX6_goesAhead_33 : decode cX6_goesAhead 33 = .ok (.dcmp .l, 1) := by decide +kernel
theorem dX6_goesAhead_34 : decode cX6_goesAhead 34 = .ok (.ifCond .ne 12, 3) := by decide +kernel
theorem dX6_goesAhead_37 : decode cX6_goesAhead 37 = .ok (.iload_n 1, 1) := by decide +kernel
theorem dX6_goesAhead_38 : decode cX6_goesAhead 38 = .ok (.iload_n 2, 1) := by decide +kernel
theorem dX6_goesAhead_39 : decode cX6_goesAhead 39 = .ok (.if_icmp .ge 7, 3) := by decide +kernel
theorem dX6_goesAhead_42 : decode cX6_goesAhead 42 = .ok (.iconst 1, 1) := by decide +kernel
theorem dX6_goesAhead_43 : decode cX6_goesAhead 43 = .ok (.goto 4, 3) := by decide +kernel
theorem dX6_goesAhead_46 : decode cX6_goesAhead 46 = .ok (.iconst 0, 1) := by decide +kernel
theorem dX6_goesAhead_47 : decode cX6_goesAhead 47 = .ok (.ireturn, 1) := by decide +kernel
theorem dX6_clockLeft_0 : decode cX6_clockLeft 0 = .ok (.aload_n 0, 1) := by decide +kernel
theorem dX6_clockLeft_1 : decode cX6_clockLeft 1 = .ok (.getfield 26, 3) := by decide +kernel
theorem dX6_clockLeft_4 : decode cX6_clockLeft 4 = .ok (.aload_n 1, 1) := by decide +kernel
theorem dX6_clockLeft_5 : decode cX6_clockLeft 5 = .ok (.getfield 137, 3) := by decide +kernel
theorem dX6_clockLeft_8 : decode cX6_clockLeft 8 = .ok (.aload_n 1, 1) := by decide +kernel
theorem dX6_clockLeft_9 : decode cX6_clockLeft 9 = .ok (.getfield 140, 3) := by decide +kernel
theorem dX6_clockLeft_12 : decode cX6_clockLeft 12 = .ok (.aload_n 0, 1) := by decide +kernel
theorem dX6_clockLeft_13 : decode cX6_clockLeft 13 = .ok (.getfield 10, 3) := by decide +kernel
theorem dX6_clockLeft_16 : decode cX6_clockLeft 16 = .ok (.invokevirtual 258, 3) := by decide +kernel
theorem dX6_clockLeft_19 : decode cX6_clockLeft 19 = .ok (.aload_n 0, 1) := by decide +kernel
theorem dX6_clockLeft_20 : decode cX6_clockLeft 20 = .ok (.getfield 64, 3) := by decide +kernel
theorem dX6_clockLeft_23 : decode cX6_clockLeft 23 = .ok (.aload_n 1, 1) := by decide +kernel
theorem dX6_clockLeft_24 : decode cX6_clockLeft 24 = .ok (.getfield 262, 3) := by decide +kernel
theorem dX6_clockLeft_27 : decode cX6_clockLeft 27 = .ok (.isub, 1) := by decide +kernel
theorem dX6_clockLeft_28 : decode cX6_clockLeft 28 = .ok (.i2d, 1) := by decide +kernel
theorem dX6_clockLeft_29 : decode cX6_clockLeft 29 = .ok (.dsub, 1) := by decide +kernel
theorem dX6_clockLeft_30 : decode cX6_clockLeft 30 = .ok (.dreturn, 1) := by decide +kernel
theorem dX6_litresOnFleet_0 : decode cX6_litresOnFleet 0 = .ok (.iconst 0, 1) := by decide +kernel
theorem dX6_litresOnFleet_1 : decode cX6_litresOnFleet 1 = .ok (.istore_n 1, 1) := by decide +kernel
theorem dX6_litresOnFleet_2 : decode cX6_litresOnFleet 2 = .ok (.iconst 0, 1) := by decide +kernel
theorem dX6_litresOnFleet_3 : decode cX6_litresOnFleet 3 = .ok (.istore_n 2, 1) := by decide +kernel
theorem dX6_litresOnFleet_4 : decode cX6_litresOnFleet 4 = .ok (.iload_n 2, 1) := by decide +kernel
theorem dX6_litresOnFleet_5 : decode cX6_litresOnFleet 5 = .ok (.aload_n 0, 1) := by decide +kernel
theorem dX6_litresOnFleet_6 : decode cX6_litresOnFleet 6 = .ok (.getfield 108, 3) := by decide +kernel
theorem dX6_litresOnFleet_9 : decode cX6_litresOnFleet 9 = .ok (.if_icmp .ge 21, 3) := by decide +kernel
theorem dX6_litresOnFleet_12 : decode cX6_litresOnFleet 12 = .ok (.iload_n 1, 1) := by decide +kernel
theorem dX6_litresOnFleet_13 : decode cX6_litresOnFleet 13 = .ok (.aload_n 0, 1) := by decide +kernel
theorem dX6_litresOnFleet_14 : decode cX6_litresOnFleet 14 = .ok (.getfield 39, 3) := by decide +kernel
theorem dX6_litresOnFleet_17 : decode cX6_litresOnFleet 17 = .ok (.iload_n 2, 1) := by decide +kernel
theorem dX6_litresOnFleet_18 : decode cX6_litresOnFleet 18 = .ok (.aaload, 1) := by decide +kernel
theorem dX6_litresOnFleet_19 : decode cX6_litresOnFleet 19 = .ok (.getfield 192, 3) := by decide +kernel
theorem dX6_litresOnFleet_22 : decode cX6_litresOnFleet 22 = .ok (.iadd, 1) := by decide +kernel
theorem dX6_litresOnFleet_23 : decode cX6_litresOnFleet 23 = .ok (.istore_n 1, 1) := by decide +kernel
theorem dX6_litresOnFleet_24 : decode cX6_litresOnFleet 24 = .ok (.iinc 2 1, 3) := by decide +kernel
theorem dX6_litresOnFleet_27 : decode cX6_litresOnFleet 27 = .ok (.goto (-23), 3) := by decide +kernel
theorem dX6_litresOnFleet_30 : decode cX6_litresOnFleet 30 = .ok (.iload_n 1, 1) := by decide +kernel
theorem dX6_litresOnFleet_31 : decode cX6_litresOnFleet 31 = .ok (.ireturn, 1) := by decide +kernel
theorem dX6_requireIndex_0 : decode cX6_requireIndex 0 = .ok (.iload_n 0, 1) := by decide +kernel
theorem dX6_requireIndex_1 : decode cX6_requireIndex 1 = .ok (.ifCond .lt 8, 3) := by decide +kernel
theorem dX6_requireIndex_4 : decode cX6_requireIndex 4 = .ok (.iload_n 0, 1) := by decide +kernel
theorem dX6_requireIndex_5 : decode cX6_requireIndex 5 = .ok (.iload_n 1, 1) := by decide +kernel
theorem dX6_requireIndex_6 : decode cX6_requireIndex 6 = .ok (.if_icmp .lt 14, 3) := by decide +kernel
theorem dX6_requireIndex_9 : decode cX6_requireIndex 9 = .ok (.new 211, 3) := by decide +kernel
theorem dX6_requireIndex_12 : decode cX6_requireIndex 12 = .ok (.dup, 1) := by decide +kernel
theorem dX6_requireIndex_13 : decode cX6_requireIndex 13 = .ok (.ldc_w 265, 3) := by decide +kernel
theorem dX6_requireIndex_16 : decode cX6_requireIndex 16 = .ok (.invokespecial 215, 3) := by decide +kernel
theorem dX6_requireIndex_19 : decode cX6_requireIndex 19 = .ok (.athrow, 1) := by decide +kernel
theorem dX6_requireIndex_20 : decode cX6_requireIndex 20 = .ok (.return_, 1) := by decide +kernel
theorem dX6_requireRange_0 : decode cX6_requireRange 0 = .ok (.iload_n 0, 1) := by decide +kernel
theorem dX6_requireRange_1 : decode cX6_requireRange 1 = .ok (.iload_n 1, 1) := by decide +kernel
theorem dX6_requireRange_2 : decode cX6_requireRange 2 = .ok (.if_icmp .lt 8, 3) := by decide +kernel
theorem dX6_requireRange_5 : decode cX6_requireRange 5 = .ok (.iload_n 0, 1) := by decide +kernel
theorem dX6_requireRange_6 : decode cX6_requireRange 6 = .ok (.iload_n 2, 1) := by decide +kernel
theorem dX6_requireRange_7 : decode cX6_requireRange 7 = .ok (.if_icmp .le 14, 3) := by decide +kernel
theorem dX6_requireRange_10 : decode cX6_requireRange 10 = .ok (.new 267, 3) := by decide +kernel
theorem dX6_requireRange_13 : decode cX6_requireRange 13 = .ok (.dup, 1) := by decide +kernel
theorem dX6_requireRange_14 : decode cX6_requireRange 14 = .ok (.ldc_w 269, 3) := by decide +kernel
theorem dX6_requireRange_17 : decode cX6_requireRange 17 = .ok (.invokespecial 271, 3) := by decide +kernel
theorem dX6_requireRange_20 : decode cX6_requireRange 20 = .ok (.athrow, 1) := by decide +kernel
theorem dX6_requireRange_21 : decode cX6_requireRange 21 = .ok (.return_, 1) := by decide +kernel
theorem dX6_requireStrength_0 : decode cX6_requireStrength 0 = .ok (.iload_n 0, 1) := by decide +kernel
theorem dX6_requireStrength_1 : decode cX6_requireStrength 1 = .ok (.bipush 50, 2) := by decide +kernel
theorem dX6_requireStrength_3 : decode cX6_requireStrength 3 = .ok (.if_icmp .eq 26, 3) := by decide +kernel
theorem dX6_requireStrength_6 : decode cX6_requireStrength 6 = .ok (.iload_n 0, 1) := by decide +kernel
theorem dX6_requireStrength_7 : decode cX6_requireStrength 7 = .ok (.bipush 75, 2) := by decide +kernel
theorem dX6_requireStrength_9 : decode cX6_requireStrength 9 = .ok (.if_icmp .eq 20, 3) := by decide +kernel
theorem dX6_requireStrength_12 : decode cX6_requireStrength 12 = .ok (.iload_n 0, 1) := by decide +kernel
theorem dX6_requireStrength_13 : decode cX6_requireStrength 13 = .ok (.bipush 100, 2) := by decide +kernel
theorem dX6_requireStrength_15 : decode cX6_requireStrength 15 = .ok (.if_icmp .eq 14, 3) := by decide +kernel
theorem dX6_requireStrength_18 : decode cX6_requireStrength 18 = .ok (.new 267, 3) := by decide +kernel
theorem dX6_requireStrength_21 : decode cX6_requireStrength 21 = .ok (.dup, 1) := by decide +kernel
theorem dX6_requireStrength_22 : decode cX6_requireStrength 22 = .ok (.ldc_w 272, 3) := by decide +kernel
theorem dX6_requireStrength_25 : decode cX6_requireStrength 25 = .ok (.invokespecial 271, 3) := by decide +kernel
theorem dX6_requireStrength_28 : decode cX6_requireStrength 28 = .ok (.athrow, 1) := by decide +kernel
theorem dX6_requireStrength_29 : decode cX6_requireStrength 29 = .ok (.return_, 1) := by decide +kernel
theorem dX6_requirePossible_0 : decode cX6_requirePossible 0 = .ok (.iload_n 0, 1) := by decide +kernel
theorem dX6_requirePossible_1 : decode cX6_requirePossible 1 = .ok (.ifCond .ne 14, 3) := by decide +kernel
theorem dX6_requirePossible_4 : decode cX6_requirePossible 4 = .ok (.new 274, 3) := by decide +kernel
theorem dX6_requirePossible_7 : decode cX6_requirePossible 7 = .ok (.dup, 1) := by decide +kernel
theorem dX6_requirePossible_8 : decode cX6_requirePossible 8 = .ok (.ldc_w 276, 3) := by decide +kernel
theorem dX6_requirePossible_11 : decode cX6_requirePossible 11 = .ok (.invokespecial 278, 3) := by decide +kernel
theorem dX6_requirePossible_14 : decode cX6_requirePossible 14 = .ok (.athrow, 1) := by decide +kernel
theorem dX6_requirePossible_15 : decode cX6_requirePossible 15 = .ok (.return_, 1) := by decide +kernel
theorem dX7_init_0 : decode cX7_init 0 = .ok (.aload_n 0, 1) := by decide +kernel
theorem dX7_init_1 : decode cX7_init 1 = .ok (.invokespecial 1, 3) := by decide +kernel
theorem dX7_init_4 : decode cX7_init 4 = .ok (.aload_n 0, 1) := by decide +kernel
theorem dX7_init_5 : decode cX7_init 5 = .ok (.iconst 3, 1) := by decide +kernel
theorem dX7_init_6 : decode cX7_init 6 = .ok (.newarray .int, 2) := by decide +kernel
theorem dX7_init_8 : decode cX7_init 8 = .ok (.putfield 7, 3) := by decide +kernel
theorem dX7_init_11 : decode cX7_init 11 = .ok (.aload_n 0, 1) := by decide +kernel
theorem dX7_init_12 : decode cX7_init 12 = .ok (.iconst 3, 1) := by decide +kernel
theorem dX7_init_13 : decode cX7_init 13 = .ok (.newarray .int, 2) := by decide +kernel
theorem dX7_init_15 : decode cX7_init 15 = .ok (.putfield 13, 3) := by decide +kernel
theorem dX7_init_18 : decode cX7_init 18 = .ok (.aload_n 0, 1) := by decide +kernel
theorem dX7_init_19 : decode cX7_init 19 = .ok (.iconst 3, 1) := by decide +kernel
theorem dX7_init_20 : decode cX7_init 20 = .ok (.newarray .int, 2) := by decide +kernel
theorem dX7_init_22 : decode cX7_init 22 = .ok (.putfield 16, 3) := by decide +kernel
theorem dX7_init_25 : decode cX7_init 25 = .ok (.aload_n 0, 1) := by decide +kernel
theorem dX7_init_26 : decode cX7_init 26 = .ok (.iconst 3, 1) := by decide +kernel
theorem dX7_init_27 : decode cX7_init 27 = .ok (.newarray .int, 2) := by decide +kernel
theorem dX7_init_29 : decode cX7_init 29 = .ok (.putfield 19, 3) := by decide +kernel
theorem dX7_init_32 : decode cX7_init 32 = .ok (.aload_n 0, 1) := by decide +kernel
theorem dX7_init_33 : decode cX7_init 33 = .ok (.iconst 3, 1) := by decide +kernel
theorem dX7_init_34 : decode cX7_init 34 = .ok (.newarray .int, 2) := by decide +kernel
theorem dX7_init_36 : decode cX7_init 36 = .ok (.putfield 22, 3) := by decide +kernel
theorem dX7_init_39 : decode cX7_init 39 = .ok (.aload_n 0, 1) := by decide +kernel
theorem dX7_init_40 : decode cX7_init 40 = .ok (.iconst (-1), 1) := by decide +kernel
theorem dX7_init_41 : decode cX7_init 41 = .ok (.putfield 25, 3) := by decide +kernel
theorem dX7_init_44 : decode cX7_init 44 = .ok (.aload_n 0, 1) := by decide +kernel
theorem dX7_init_45 : decode cX7_init 45 = .ok (.iconst 3, 1) := by decide +kernel
theorem dX7_init_46 : decode cX7_init 46 = .ok (.newarray .int, 2) := by decide +kernel
theorem dX7_init_48 : decode cX7_init 48 = .ok (.putfield 29, 3) := by decide +kernel
theorem dX7_init_51 : decode cX7_init 51 = .ok (.aload_n 0, 1) := by decide +kernel
theorem dX7_init_52 : decode cX7_init 52 = .ok (.bipush 12, 2) := by decide +kernel
theorem dX7_init_54 : decode cX7_init 54 = .ok (.newarray .int, 2) := by decide +kernel
theorem dX7_init_56 : decode cX7_init 56 = .ok (.putfield 32, 3) := by decide +kernel
theorem dX7_init_59 : decode cX7_init 59 = .ok (.aload_n 0, 1) := by decide +kernel
theorem dX7_init_60 : decode cX7_init 60 = .ok (.bipush 20, 2) := by decide +kernel
theorem dX7_init_62 : decode cX7_init 62 = .ok (.newarray .int, 2) := by decide +kernel
theorem dX7_init_64 : decode cX7_init 64 = .ok (.putfield 35, 3) := by decide +kernel
theorem dX7_init_67 : decode cX7_init 67 = .ok (.aload_n 0, 1) := by decide +kernel
theorem dX7_init_68 : decode cX7_init 68 = .ok (.bipush 20, 2) := by decide +kernel
theorem dX7_init_70 : decode cX7_init 70 = .ok (.newarray .int, 2) := by decide +kernel
theorem dX7_init_72 : decode cX7_init 72 = .ok (.putfield 38, 3) := by decide +kernel
theorem dX7_init_75 : decode cX7_init 75 = .ok (.aload_n 0, 1) := by decide +kernel
theorem dX7_init_76 : decode cX7_init 76 = .ok (.bipush 20, 2) := by decide +kernel
theorem dX7_init_78 : decode cX7_init 78 = .ok (.newarray .int, 2) := by decide +kernel
theorem dX7_init_80 : decode cX7_init 80 = .ok (.putfield 41, 3) := by decide +kernel
theorem dX7_init_83 : decode cX7_init 83 = .ok (.aload_n 0, 1) := by decide +kernel
theorem dX7_init_84 : decode cX7_init 84 = .ok (.bipush 20, 2) := by decide +kernel
theorem dX7_init_86 : decode cX7_init 86 = .ok (.newarray .int, 2) := by decide +kernel
theorem dX7_init_88 : decode cX7_init 88 = .ok (.putfield 44, 3) := by decide +kernel
theorem dX7_init_91 : decode cX7_init 91 = .ok (.aload_n 0, 1) := by decide +kernel
theorem dX7_init_92 : decode cX7_init 92 = .ok (.bipush 20, 2) := by decide +kernel
theorem dX7_init_94 : decode cX7_init 94 = .ok (.newarray .int, 2) := by decide +kernel
theorem dX7_init_96 : decode cX7_init 96 = .ok (.putfield 47, 3) := by decide +kernel
theorem dX7_init_99 : decode cX7_init 99 = .ok (.aload_n 0, 1) := by decide +kernel
theorem dX7_init_100 : decode cX7_init 100 = .ok (.bipush 20, 2) := by decide +kernel
theorem dX7_init_102 : decode cX7_init 102 = .ok (.newarray .int, 2) := by decide +kernel
theorem dX7_init_104 : decode cX7_init 104 = .ok (.putfield 50, 3) := by decide +kernel
theorem dX7_init_107 : decode cX7_init 107 = .ok (.aload_n 0, 1) := by decide +kernel
theorem dX7_init_108 : decode cX7_init 108 = .ok (.bipush 20, 2) := by decide +kernel
theorem dX7_init_110 : decode cX7_init 110 = .ok (.newarray .int, 2) := by decide +kernel
theorem dX7_init_112 : decode cX7_init 112 = .ok (.putfield 53, 3) := by decide +kernel
theorem dX7_init_115 : decode cX7_init 115 = .ok (.aload_n 0, 1) := by decide +kernel
theorem dX7_init_116 : decode cX7_init 116 = .ok (.bipush 20, 2) := by decide +kernel
theorem dX7_init_118 : decode cX7_init 118 = .ok (.newarray .int, 2) := by decide +kernel
theorem dX7_init_120 : decode cX7_init 120 = .ok (.putfield 56, 3) := by decide +kernel
theorem dX7_init_123 : decode cX7_init 123 = .ok (.aload_n 0, 1) := by decide +kernel
theorem dX7_init_124 : decode cX7_init 124 = .ok (.bipush 20, 2) := by decide +kernel
theorem dX7_init_126 : decode cX7_init 126 = .ok (.newarray .int, 2) := by decide +kernel
theorem dX7_init_128 : decode cX7_init 128 = .ok (.putfield 59, 3) := by decide +kernel
theorem dX7_init_131 : decode cX7_init 131 = .ok (.aload_n 0, 1) := by decide +kernel
theorem dX7_init_132 : decode cX7_init 132 = .ok (.bipush 20, 2) := by decide +kernel
theorem dX7_init_134 : decode cX7_init 134 = .ok (.newarray .int, 2) := by decide +kernel
theorem dX7_init_136 : decode cX7_init 136 = .ok (.putfield 62, 3) := by decide +kernel
theorem dX7_init_139 : decode cX7_init 139 = .ok (.aload_n 0, 1) := by decide +kernel
theorem dX7_init_140 : decode cX7_init 140 = .ok (.bipush 20, 2) := by decide +kernel
theorem dX7_init_142 : decode cX7_init 142 = .ok (.newarray .int, 2) := by decide +kernel
theorem dX7_init_144 : decode cX7_init 144 = .ok (.putfield 65, 3) := by decide +kernel
theorem dX7_init_147 : decode cX7_init 147 = .ok (.aload_n 0, 1) := by decide +kernel
theorem dX7_init_148 : decode cX7_init 148 = .ok (.bipush 20, 2) := by decide +kernel
theorem dX7_init_150 : decode cX7_init 150 = .ok (.newarray .int, 2) := by decide +kernel
theorem dX7_init_152 : decode cX7_init 152 = .ok (.putfield 68, 3) := by decide +kernel
theorem dX7_init_155 : decode cX7_init 155 = .ok (.aload_n 0, 1) := by decide +kernel
theorem dX7_init_156 : decode cX7_init 156 = .ok (.sipush 500, 3) := by decide +kernel
theorem dX7_init_159 : decode cX7_init 159 = .ok (.putfield 71, 3) := by decide +kernel
theorem dX7_init_162 : decode cX7_init 162 = .ok (.iconst 0, 1) := by decide +kernel
theorem dX7_init_163 : decode cX7_init 163 = .ok (.istore_n 1, 1) := by decide +kernel
theorem dX7_init_164 : decode cX7_init 164 = .ok (.iload_n 1, 1) := by decide +kernel
theorem dX7_init_165 : decode cX7_init 165 = .ok (.iconst 3, 1) := by decide +kernel
theorem dX7_init_166 : decode cX7_init 166 = .ok (.if_icmp .ge 24, 3) := by decide +kernel
theorem dX7_init_169 : decode cX7_init 169 = .ok (.aload_n 0, 1) := by decide +kernel
theorem dX7_init_170 : decode cX7_init 170 = .ok (.getfield 16, 3) := by decide +kernel
theorem dX7_init_173 : decode cX7_init 173 = .ok (.iload_n 1, 1) := by decide +kernel
theorem dX7_init_174 : decode cX7_init 174 = .ok (.iconst (-1), 1) := by decide +kernel
theorem dX7_init_175 : decode cX7_init 175 = .ok (.iastore, 1) := by decide +kernel
theorem dX7_init_176 : decode cX7_init 176 = .ok (.aload_n 0, 1) := by decide +kernel
theorem dX7_init_177 : decode cX7_init 177 = .ok (.getfield 22, 3) := by decide +kernel
theorem dX7_init_180 : decode cX7_init 180 = .ok (.iload_n 1, 1) := by decide +kernel
theorem dX7_init_181 : decode cX7_init 181 = .ok (.bipush (-100), 2) := by decide +kernel
theorem dX7_init_183 : decode cX7_init 183 = .ok (.iastore, 1) := by decide +kernel
theorem dX7_init_184 : decode cX7_init 184 = .ok (.iinc 1 1, 3) := by decide +kernel
theorem dX7_init_187 : decode cX7_init 187 = .ok (.goto (-23), 3) := by decide +kernel
theorem dX7_init_190 : decode cX7_init 190 = .ok (.iconst 0, 1) := by decide +kernel
theorem dX7_init_191 : decode cX7_init 191 = .ok (.istore_n 1, 1) := by decide +kernel
theorem dX7_init_192 : decode cX7_init 192 = .ok (.iload_n 1, 1) := by decide +kernel
theorem dX7_init_193 : decode cX7_init 193 = .ok (.iconst 3, 1) := by decide +kernel
theorem dX7_init_194 : decode cX7_init 194 = .ok (.if_icmp .ge 65, 3) := by decide +kernel
theorem dX7_init_197 : decode cX7_init 197 = .ok (.bipush 20, 2) := by decide +kernel
theorem dX7_init_199 : decode cX7_init 199 = .ok (.bipush 40, 2) := by decide +kernel
theorem dX7_init_201 : decode cX7_init 201 = .ok (.iload_n 1, 1) := by decide +kernel
theorem dX7_init_202 : decode cX7_init 202 = .ok (.imul, 1) := by decide +kernel
theorem dX7_init_203 : decode cX7_init 203 = .ok (.iadd, 1) := by decide +kernel
theorem dX7_init_204 : decode cX7_init 204 = .ok (.istore_n 2, 1) := by decide +kernel
theorem dX7_init_205 : decode cX7_init 205 = .ok (.aload_n 0, 1) := by decide +kernel
theorem dX7_init_206 : decode cX7_init 206 = .ok (.getfield 32, 3) := by decide +kernel
theorem dX7_init_209 : decode cX7_init 209 = .ok (.iconst 4, 1) := by decide +kernel
theorem dX7_init_210 : decode cX7_init 210 = .ok (.iload_n 1, 1) := by decide +kernel
theorem dX7_init_211 : decode cX7_init 211 = .ok (.imul, 1) := by decide +kernel
theorem dX7_init_212 : decode cX7_init 212 = .ok (.iconst 1, 1) := by decide +kernel
theorem dX7_init_213 : decode cX7_init 213 = .ok (.iadd, 1) := by decide +kernel
theorem dX7_init_214 : decode cX7_init 214 = .ok (.iload_n 2, 1) := by decide +kernel
theorem dX7_init_215 : decode cX7_init 215 = .ok (.iastore, 1) := by decide +kernel
theorem dX7_init_216 : decode cX7_init 216 = .ok (.aload_n 0, 1) := by decide +kernel
theorem dX7_init_217 : decode cX7_init 217 = .ok (.getfield 32, 3) := by decide +kernel
theorem dX7_init_220 : decode cX7_init 220 = .ok (.iconst 4, 1) := by decide +kernel
theorem dX7_init_221 : decode cX7_init 221 = .ok (.iload_n 1, 1) := by decide +kernel
theorem dX7_init_222 : decode cX7_init 222 = .ok (.imul, 1) := by decide +kernel
theorem dX7_init_223 : decode cX7_init 223 = .ok (.iconst 3, 1) := by decide +kernel
theorem dX7_init_224 : decode cX7_init 224 = .ok (.iadd, 1) := by decide +kernel
theorem dX7_init_225 : decode cX7_init 225 = .ok (.iload_n 2, 1) := by decide +kernel
theorem dX7_init_226 : decode cX7_init 226 = .ok (.iastore, 1) := by decide +kernel
theorem dX7_init_227 : decode cX7_init 227 = .ok (.aload_n 0, 1) := by decide +kernel
theorem dX7_init_228 : decode cX7_init 228 = .ok (.getfield 32, 3) := by decide +kernel
theorem dX7_init_231 : decode cX7_init 231 = .ok (.iconst 4, 1) := by decide +kernel
theorem dX7_init_232 : decode cX7_init 232 = .ok (.iload_n 1, 1) := by decide +kernel
theorem dX7_init_233 : decode cX7_init 233 = .ok (.imul, 1) := by decide +kernel
theorem dX7_init_234 : decode cX7_init 234 = .ok (.iconst 2, 1) := by decide +kernel
theorem dX7_init_235 : decode cX7_init 235 = .ok (.iadd, 1) := by decide +kernel
theorem dX7_init_236 : decode cX7_init 236 = .ok (.iload_n 2, 1) := by decide +kernel
theorem dX7_init_237 : decode cX7_init 237 = .ok (.bipush 30, 2) := by decide +kernel
theorem dX7_init_239 : decode cX7_init 239 = .ok (.isub, 1) := by decide +kernel
theorem dX7_init_240 : decode cX7_init 240 = .ok (.iconst 5, 1) := by decide +kernel
theorem dX7_init_241 : decode cX7_init 241 = .ok (.if_icmp .ge 7, 3) := by decide +kernel
theorem dX7_init_244 : decode cX7_init 244 = .ok (.iconst 5, 1) := by decide +kernel
theorem dX7_init_245 : decode cX7_init 245 = .ok (.goto 7, 3) := by decide +kernel
theorem dX7_init_248 : decode cX7_init 248 = .ok (.iload_n 2, 1) := by decide +kernel
theorem dX7_init_249 : decode cX7_init 249 = .ok (.bipush 30, 2) := by decide +kernel
theorem dX7_init_251 : decode cX7_init 251 = .ok (.isub, 1) := by decide +kernel
theorem dX7_init_252 : decode cX7_init 252 = .ok (.iastore, 1) := by decide +kernel
theorem dX7_init_253 : decode cX7_init 253 = .ok (.iinc 1 1, 3) := by decide +kernel
theorem dX7_init_256 : decode cX7_init 256 = .ok (.goto (-64), 3) := by decide +kernel
theorem dX7_init_259 : decode cX7_init 259 = .ok (.return_, 1) := by decide +kernel
theorem dX7_thrown_0 : decode cX7_thrown 0 = .ok (.aload_n 0, 1) := by decide +kernel
theorem dX7_thrown_1 : decode cX7_thrown 1 = .ok (.getfield 74, 3) := by decide +kernel
theorem dX7_thrown_4 : decode cX7_thrown 4 = .ok (.ireturn, 1) := by decide +kernel
theorem dX7_in_0 : decode cX7_in 0 = .ok (.iload_n 0, 1) := by decide +kernel
theorem dX7_in_1 : decode cX7_in 1 = .ok (.iload_n 1, 1) := by decide +kernel
theorem dX7_in_2 : decode cX7_in 2 = .ok (.if_icmp .lt 12, 3) := by decide +kernel
theorem dX7_in_5 : decode cX7_in 5 = .ok (.iload_n 0, 1) := by decide +kernel
theorem dX7_in_6 : decode cX7_in 6 = .ok (.iload_n 2, 1) := by decide +kernel
theorem dX7_in_7 : decode cX7_in 7 = .ok (.if_icmp .gt 7, 3) := by decide +kernel
theorem dX7_in_10 : decode cX7_in 10 = .ok (.iconst 1, 1) := by decide +kernel
theorem dX7_in_11 : decode cX7_in 11 = .ok (.goto 4, 3) := by decide +kernel
theorem dX7_in_14 : decode cX7_in 14 = .ok (.iconst 0, 1) := by decide +kernel
theorem dX7_in_15 : decode cX7_in 15 = .ok (.ireturn, 1) := by decide +kernel
theorem dX7_isThird_0 : decode cX7_isThird 0 = .ok (.iload_n 0, 1) := by decide +kernel
theorem dX7_isThird_1 : decode cX7_isThird 1 = .ok (.iconst 0, 1) := by decide +kernel
theorem dX7_isThird_2 : decode cX7_isThird 2 = .ok (.iconst 2, 1) := by decide +kernel
theorem dX7_isThird_3 : decode cX7_isThird 3 = .ok (.invokestatic 77, 3) := by decide +kernel
theorem dX7_isThird_6 : decode cX7_isThird 6 = .ok (.ireturn, 1) := by decide +kernel
theorem dX7_isFluid_0 : decode cX7_isFluid 0 = .ok (.iload_n 0, 1) := by decide +kernel
theorem dX7_isFluid_1 : decode cX7_isFluid 1 = .ok (.iconst 0, 1) := by decide +kernel
theorem dX7_isFluid_2 : decode cX7_isFluid 2 = .ok (.iconst 2, 1) := by decide +kernel
theorem dX7_isFluid_3 : decode cX7_isFluid 3 = .ok (.invokestatic 77, 3) := by decide +kernel
theorem dX7_isFluid_6 : decode cX7_isFluid 6 = .ok (.ireturn, 1) := by decide +kernel
theorem dX7_isAircraft_0 : decode cX7_isAircraft 0 = .ok (.iload_n 1, 1) := by decide +kernel
theorem dX7_isAircraft_1 : decode cX7_isAircraft 1 = .ok (.iconst 0, 1) := by decide +kernel
theorem dX7_isAircraft_2 : decode cX7_isAircraft 2 = .ok (.aload_n 0, 1) := by decide +kernel
theorem dX7_isAircraft_3 : decode cX7_isAircraft 3 = .ok (.getfield 81, 3) := by decide +kernel
theorem dX7_isAircraft_6 : decode cX7_isAircraft 6 = .ok (.iconst 1, 1) := by decide +kernel
theorem dX7_isAircraft_7 : decode cX7_isAircraft 7 = .ok (.isub, 1) := by decide +kernel
theorem dX7_isAircraft_8 : decode cX7_isAircraft 8 = .ok (.invokestatic 77, 3) := by decide +kernel
theorem dX7_isAircraft_11 : decode cX7_isAircraft 11 = .ok (.ireturn, 1) := by decide +kernel
theorem dX7_weather_0 : decode cX7_weather 0 = .ok (.aload_n 0, 1) := by decide +kernel
theorem dX7_weather_1 : decode cX7_weather 1 = .ok (.iload_n 1, 1) := by decide +kernel
theorem dX7_weather_2 : decode cX7_weather 2 = .ok (.sipush (-400), 3) := by decide +kernel
theorem dX7_weather_5 : decode cX7_weather 5 = .ok (.sipush 400, 3) := by decide +kernel
theorem dX7_weather_8 : decode cX7_weather 8 = .ok (.invokestatic 77, 3) := by decide +kernel
theorem dX7_weather_11 : decode cX7_weather 11 = .ok (.ifCond .eq 37, 3) := by decide +kernel
theorem dX7_weather_14 : decode cX7_weather 14 = .ok (.iload_n 2, 1) := by decide +kernel
theorem dX7_weather_15 : decode cX7_weather 15 = .ok (.iconst 0, 1) := by decide +kernel
theorem dX7_weather_16 : decode cX7_weather 16 = .ok (.iconst 3, 1) := by decide +kernel
theorem dX7_weather_17 : decode cX7_weather 17 = .ok (.invokestatic 77, 3) := by decide +kernel
theorem dX7_weather_20 : decode cX7_weather 20 = .ok (.ifCond .eq 28, 3) := by decide +kernel
theorem dX7_weather_23 : decode cX7_weather 23 = .ok (.iload_n 3, 1) := by decide +kernel
theorem dX7_weather_24 : decode cX7_weather 24 = .ok (.iconst 0, 1) := by decide +kernel
theorem dX7_weather_25 : decode cX7_weather 25 = .ok (.bipush 30, 2) := by decide +kernel
theorem dX7_weather_27 : decode cX7_weather 27 = .ok (.invokestatic 77, 3) := by decide +kernel
theorem dX7_weather_30 : decode cX7_weather 30 = .ok (.ifCond .eq 18, 3) := by decide +kernel
theorem dX7_weather_33 : decode cX7_weather 33 = .ok (.iload 4, 2) := by decide +kernel
theorem dX7_weather_35 : decode cX7_weather 35 = .ok (.iconst 0, 1) := by decide +kernel
theorem dX7_weather_36 : decode cX7_weather 36 = .ok (.bipush 60, 2) := by decide +kernel
theorem dX7_weather_38 : decode cX7_weather 38 = .ok (.invokestatic 77, 3) := by decide +kernel
theorem dX7_weather_41 : decode cX7_weather 41 = .ok (.ifCond .eq 7, 3) := by decide +kernel
theorem dX7_weather_44 : decode cX7_weather 44 = .ok (.iconst 0, 1) := by decide +kernel
theorem dX7_weather_45 : decode cX7_weather 45 = .ok (.goto 4, 3) := by decide +kernel
theorem dX7_weather_48 : decode cX7_weather 48 = .ok (.iconst 1, 1) := by decide +kernel
theorem dX7_weather_49 : decode cX7_weather 49 = .ok (.putfield 74, 3) := by decide +kernel
theorem dX7_weather_52 : decode cX7_weather 52 = .ok (.aload_n 0, 1) := by decide +kernel
theorem dX7_weather_53 : decode cX7_weather 53 = .ok (.getfield 74, 3) := by decide +kernel
theorem dX7_weather_56 : decode cX7_weather 56 = .ok (.ifCond .ne 24, 3) := by decide +kernel
theorem dX7_weather_59 : decode cX7_weather 59 = .ok (.aload_n 0, 1) := by decide +kernel
theorem dX7_weather_60 : decode cX7_weather 60 = .ok (.iload_n 1, 1) := by decide +kernel
theorem dX7_weather_61 : decode cX7_weather 61 = .ok (.putfield 84, 3) := by decide +kernel
theorem dX7_weather_64 : decode cX7_weather 64 = .ok (.aload_n 0, 1) := by decide +kernel
theorem dX7_weather_65 : decode cX7_weather 65 = .ok (.iload_n 2, 1) := by decide +kernel
theorem dX7_weather_66 : decode cX7_weather 66 = .ok (.putfield 87, 3) := by decide +kernel
theorem dX7_weather_69 : decode cX7_weather 69 = .ok (.aload_n 0, 1) := by decide +kernel
theorem dX7_weather_70 : decode cX7_weather 70 = .ok (.iload_n 3, 1) := by decide +kernel
theorem dX7_weather_71 : decode cX7_weather 71 = .ok (.putfield 90, 3) := by decide +kernel
theorem dX7_weather_74 : decode cX7_weather 74 = .ok (.aload_n 0, 1) := by decide +kernel
theorem dX7_weather_75 : decode cX7_weather 75 = .ok (.iload 4, 2) := by decide +kernel
theorem dX7_weather_77 : decode cX7_weather 77 = .ok (.putfield 93, 3) := by decide +kernel
theorem dX7_weather_80 : decode cX7_weather 80 = .ok (.return_, 1) := by decide +kernel
theorem dX7_spray_0 : decode cX7_spray 0 = .ok (.aload_n 0, 1) := by decide +kernel
theorem dX7_spray_1 : decode cX7_spray 1 = .ok (.iload_n 1, 1) := by decide +kernel
theorem dX7_spray_2 : decode cX7_spray 2 = .ok (.invokestatic 96, 3) := by decide +kernel
theorem dX7_spray_5 : decode cX7_spray 5 = .ok (.ifCond .eq 7, 3) := by decide +kernel
theorem dX7_spray_8 : decode cX7_spray 8 = .ok (.iconst 0, 1) := by decide +kernel
theorem dX7_spray_9 : decode cX7_spray 9 = .ok (.goto 4, 3) := by decide +kernel
theorem dX7_spray_12 : decode cX7_spray 12 = .ok (.iconst 1, 1) := by decide +kernel
theorem dX7_spray_13 : decode cX7_spray 13 = .ok (.putfield 74, 3) := by decide +kernel
theorem dX7_spray_16 : decode cX7_spray 16 = .ok (.aload_n 0, 1) := by decide +kernel
theorem dX7_spray_17 : decode cX7_spray 17 = .ok (.getfield 74, 3) := by decide +kernel
theorem dX7_spray_20 : decode cX7_spray 20 = .ok (.ifCond .le 5, 3) := by decide +kernel
theorem dX7_spray_23 : decode cX7_spray 23 = .ok (.iconst 0, 1) := by decide +kernel
theorem dX7_spray_24 : decode cX7_spray 24 = .ok (.ireturn, 1) := by decide +kernel
theorem dX7_spray_25 : decode cX7_spray 25 = .ok (.aload_n 0, 1) := by decide +kernel
theorem dX7_spray_26 : decode cX7_spray 26 = .ok (.getfield 16, 3) := by decide +kernel
theorem dX7_spray_29 : decode cX7_spray 29 = .ok (.iload_n 1, 1) := by decide +kernel
theorem dX7_spray_30 : decode cX7_spray 30 = .ok (.aload_n 0, 1) := by decide +kernel
theorem dX7_spray_31 : decode cX7_spray 31 = .ok (.getfield 100, 3) := by decide +kernel
theorem dX7_spray_34 : decode cX7_spray 34 = .ok (.bipush 60, 2) := by decide +kernel
theorem dX7_spray_36 : decode cX7_spray 36 = .ok (.iadd, 1) := by decide +kernel
theorem dX7_spray_37 : decode cX7_spray 37 = .ok (.iastore, 1) := by decide +kernel
theorem dX7_spray_38 : decode cX7_spray 38 = .ok (.aload_n 0, 1) := by decide +kernel
theorem dX7_spray_39 : decode cX7_spray 39 = .ok (.getfield 100, 3) := by decide +kernel
theorem dX7_spray_42 : decode cX7_spray 42 = .ok (.bipush 60, 2) := by decide +kernel
theorem dX7_spray_44 : decode cX7_spray 44 = .ok (.iadd, 1) := by decide +kernel
theorem dX7_spray_45 : decode cX7_spray 45 = .ok (.ireturn, 1) := by decide +kernel
theorem dX7_isSprayed_0 : decode cX7_isSprayed 0 = .ok (.aload_n 0, 1) := by decide +kernel
theorem dX7_isSprayed_1 : decode cX7_isSprayed 1 = .ok (.getfield 16, 3) := by decide +kernel
theorem dX7_isSprayed_4 : decode cX7_isSprayed 4 = .ok (.iload_n 1, 1) := by decide +kernel
theorem dX7_isSprayed_5 : decode cX7_isSprayed 5 = .ok (.iaload, 1) := by decide +kernel
theorem dX7_isSprayed_6 : decode cX7_isSprayed 6 = .ok (.aload_n 0, 1) := by decide +kernel
theorem dX7_isSprayed_7 : decode cX7_isSprayed 7 = .ok (.getfield 100, 3) := by decide +kernel
theorem dX7_isSprayed_10 : decode cX7_isSprayed 10 = .ok (.if_icmp .lt 7, 3) := by decide +kernel
theorem dX7_isSprayed_13 : decode cX7_isSprayed 13 = .ok (.iconst 1, 1) := by decide +kernel
theorem dX7_isSprayed_14 : decode cX7_isSprayed 14 = .ok (.goto 4, 3) := by decide +kernel
theorem dX7_isSprayed_17 : decode cX7_isSprayed 17 = .ok (.iconst 0, 1) := by decide +kernel
theorem dX7_isSprayed_18 : decode cX7_isSprayed 18 = .ok (.ireturn, 1) := by decide +kernel
theorem dX7_close_0 : decode cX7_close 0 = .ok (.aload_n 0, 1) := by decide +kernel
theorem dX7_close_1 : decode cX7_close 1 = .ok (.iload_n 1, 1) := by decide +kernel
theorem dX7_close_2 : decode cX7_close 2 = .ok (.iconst 1, 1) := by decide +kernel
theorem dX7_close_3 : decode cX7_close 3 = .ok (.sipush 500, 3) := by decide +kernel
theorem dX7_close_6 : decode cX7_close 6 = .ok (.invokestatic 77, 3) := by decide +kernel
theorem dX7_close_9 : decode cX7_close 9 = .ok (.ifCond .eq 17, 3) := by decide +kernel
theorem dX7_close_12 : decode cX7_close 12 = .ok (.iload_n 2, 1) := by decide +kernel
theorem dX7_close_13 : decode cX7_close 13 = .ok (.iconst 0, 1) := by decide +kernel
theorem dX7_close_14 : decode cX7_close 14 = .ok (.bipush 11, 2) := by decide +kernel
theorem dX7_close_16 : decode cX7_close 16 = .ok (.invokestatic 77, 3) := by decide +kernel
theorem dX7_close_19 : decode cX7_close 19 = .ok (.ifCond .eq 7, 3) := by decide +kernel
theorem dX7_close_22 : decode cX7_close 22 = .ok (.iconst 0, 1) := by decide +kernel
theorem dX7_close_23 : decode cX7_close 23 = .ok (.goto 4, 3) := by decide +kernel
end
section
theorem dX7_close_26 : decode cX7_close 26 = .ok (.iconst 1, 1) := by decide +kernel
theorem dX7_close_27 : decode cX7_close 27 = .ok (.putfield 74, 3) := by decide +kernel
theorem dX7_close_30 : decode cX7_close 30 = .ok (.aload_n 0, 1) := by decide +kernel
theorem dX7_close_31 : decode cX7_close 31 = .ok (.getfield 74, 3) := by decide +kernel
theorem dX7_close_34 : decode cX7_close 34 = .ok (.ifCond .le 5, 3) := by decide +kernel
theorem dX7_close_37 : decode cX7_close 37 = .ok (.iconst 0, 1) := by decide +kernel
theorem dX7_close_38 : decode cX7_close 38 = .ok (.ireturn, 1) := by decide +kernel
theorem dX7_close_39 : decode cX7_close 39 = .ok (.aload_n 0, 1) := by decide +kernel
theorem dX7_close_40 : decode cX7_close 40 = .ok (.aload_n 0, 1) := by decide +kernel
theorem dX7_close_41 : decode cX7_close 41 = .ok (.getfield 100, 3) := by decide +kernel
theorem dX7_close_44 : decode cX7_close 44 = .ok (.iload_n 1, 1) := by decide +kernel
theorem dX7_close_45 : decode cX7_close 45 = .ok (.iadd, 1) := by decide +kernel
theorem dX7_close_46 : decode cX7_close 46 = .ok (.putfield 25, 3) := by decide +kernel
theorem dX7_close_49 : decode cX7_close 49 = .ok (.aload_n 0, 1) := by decide +kernel
theorem dX7_close_50 : decode cX7_close 50 = .ok (.iload_n 2, 1) := by decide +kernel
theorem dX7_close_51 : decode cX7_close 51 = .ok (.putfield 103, 3) := by decide +kernel
theorem dX7_close_54 : decode cX7_close 54 = .ok (.aload_n 0, 1) := by decide +kernel
theorem dX7_close_55 : decode cX7_close 55 = .ok (.getfield 25, 3) := by decide +kernel
theorem dX7_close_58 : decode cX7_close 58 = .ok (.ireturn, 1) := by decide +kernel
theorem dX7_isClosed_0 : decode cX7_isClosed 0 = .ok (.aload_n 0, 1) := by decide +kernel
theorem dX7_isClosed_1 : decode cX7_isClosed 1 = .ok (.getfield 100, 3) := by decide +kernel
theorem dX7_isClosed_4 : decode cX7_isClosed 4 = .ok (.aload_n 0, 1) := by decide +kernel
theorem dX7_isClosed_5 : decode cX7_isClosed 5 = .ok (.getfield 25, 3) := by decide +kernel
theorem dX7_isClosed_8 : decode cX7_isClosed 8 = .ok (.if_icmp .gt 7, 3) := by decide +kernel
theorem dX7_isClosed_11 : decode cX7_isClosed 11 = .ok (.iconst 1, 1) := by decide +kernel
theorem dX7_isClosed_12 : decode cX7_isClosed 12 = .ok (.goto 4, 3) := by decide +kernel
theorem dX7_isClosed_15 : decode cX7_isClosed 15 = .ok (.iconst 0, 1) := by decide +kernel
theorem dX7_isClosed_16 : decode cX7_isClosed 16 = .ok (.ireturn, 1) := by decide +kernel
theorem dX7_lies_0 : decode cX7_lies 0 = .ok (.aload_n 0, 1) := by decide +kernel
theorem dX7_lies_1 : decode cX7_lies 1 = .ok (.getfield 7, 3) := by decide +kernel
theorem dX7_lies_4 : decode cX7_lies 4 = .ok (.iload_n 1, 1) := by decide +kernel
theorem dX7_lies_5 : decode cX7_lies 5 = .ok (.iaload, 1) := by decide +kernel
theorem dX7_lies_6 : decode cX7_lies 6 = .ok (.ifCond .eq 13, 3) := by decide +kernel
theorem dX7_lies_9 : decode cX7_lies 9 = .ok (.aload_n 0, 1) := by decide +kernel
theorem dX7_lies_10 : decode cX7_lies 10 = .ok (.getfield 7, 3) := by decide +kernel
theorem dX7_lies_13 : decode cX7_lies 13 = .ok (.iload_n 1, 1) := by decide +kernel
theorem dX7_lies_14 : decode cX7_lies 14 = .ok (.iaload, 1) := by decide +kernel
theorem dX7_lies_15 : decode cX7_lies 15 = .ok (.iconst 1, 1) := by decide +kernel
theorem dX7_lies_16 : decode cX7_lies 16 = .ok (.if_icmp .ne 19, 3) := by decide +kernel
theorem dX7_lies_19 : decode cX7_lies 19 = .ok (.aload_n 0, 1) := by decide +kernel
theorem dX7_lies_20 : decode cX7_lies 20 = .ok (.getfield 7, 3) := by decide +kernel
theorem dX7_lies_23 : decode cX7_lies 23 = .ok (.iload_n 1, 1) := by decide +kernel
theorem dX7_lies_24 : decode cX7_lies 24 = .ok (.iaload, 1) := by decide +kernel
theorem dX7_lies_25 : decode cX7_lies 25 = .ok (.ifCond .ne 8, 3) := by decide +kernel
theorem dX7_lies_28 : decode cX7_lies 28 = .ok (.bipush 6, 2) := by decide +kernel
theorem dX7_lies_30 : decode cX7_lies 30 = .ok (.goto 4, 3) := by decide +kernel
theorem dX7_lies_33 : decode cX7_lies 33 = .ok (.iconst 5, 1) := by decide +kernel
theorem dX7_lies_34 : decode cX7_lies 34 = .ok (.ireturn, 1) := by decide +kernel
theorem dX7_lies_35 : decode cX7_lies 35 = .ok (.aload_n 0, 1) := by decide +kernel
theorem dX7_lies_36 : decode cX7_lies 36 = .ok (.getfield 7, 3) := by decide +kernel
theorem dX7_lies_39 : decode cX7_lies 39 = .ok (.iload_n 1, 1) := by decide +kernel
theorem dX7_lies_40 : decode cX7_lies 40 = .ok (.iaload, 1) := by decide +kernel
theorem dX7_lies_41 : decode cX7_lies 41 = .ok (.iconst 3, 1) := by decide +kernel
theorem dX7_lies_42 : decode cX7_lies 42 = .ok (.if_icmp .ne 18, 3) := by decide +kernel
theorem dX7_lies_45 : decode cX7_lies 45 = .ok (.aload_n 0, 1) := by decide +kernel
theorem dX7_lies_46 : decode cX7_lies 46 = .ok (.getfield 84, 3) := by decide +kernel
theorem dX7_lies_49 : decode cX7_lies 49 = .ok (.bipush (-30), 2) := by decide +kernel
theorem dX7_lies_51 : decode cX7_lies 51 = .ok (.if_icmp .ge 7, 3) := by decide +kernel
theorem dX7_lies_54 : decode cX7_lies 54 = .ok (.iconst 1, 1) := by decide +kernel
theorem dX7_lies_55 : decode cX7_lies 55 = .ok (.goto 4, 3) := by decide +kernel
theorem dX7_lies_58 : decode cX7_lies 58 = .ok (.iconst 0, 1) := by decide +kernel
theorem dX7_lies_59 : decode cX7_lies 59 = .ok (.ireturn, 1) := by decide +kernel
theorem dX7_lies_60 : decode cX7_lies 60 = .ok (.aload_n 0, 1) := by decide +kernel
theorem dX7_lies_61 : decode cX7_lies 61 = .ok (.getfield 13, 3) := by decide +kernel
theorem dX7_lies_64 : decode cX7_lies 64 = .ok (.iload_n 1, 1) := by decide +kernel
theorem dX7_lies_65 : decode cX7_lies 65 = .ok (.iaload, 1) := by decide +kernel
theorem dX7_lies_66 : decode cX7_lies 66 = .ok (.bipush 30, 2) := by decide +kernel
theorem dX7_lies_68 : decode cX7_lies 68 = .ok (.if_icmp .gt 16, 3) := by decide +kernel
theorem dX7_lies_71 : decode cX7_lies 71 = .ok (.aload_n 0, 1) := by decide +kernel
theorem dX7_lies_72 : decode cX7_lies 72 = .ok (.getfield 84, 3) := by decide +kernel
theorem dX7_lies_75 : decode cX7_lies 75 = .ok (.bipush (-30), 2) := by decide +kernel
theorem dX7_lies_77 : decode cX7_lies 77 = .ok (.if_icmp .ge 7, 3) := by decide +kernel
theorem dX7_lies_80 : decode cX7_lies 80 = .ok (.iconst 5, 1) := by decide +kernel
theorem dX7_lies_81 : decode cX7_lies 81 = .ok (.goto 19, 3) := by decide +kernel
theorem dX7_lies_84 : decode cX7_lies 84 = .ok (.aload_n 0, 1) := by decide +kernel
theorem dX7_lies_85 : decode cX7_lies 85 = .ok (.getfield 13, 3) := by decide +kernel
theorem dX7_lies_88 : decode cX7_lies 88 = .ok (.iload_n 1, 1) := by decide +kernel
theorem dX7_lies_89 : decode cX7_lies 89 = .ok (.iaload, 1) := by decide +kernel
theorem dX7_lies_90 : decode cX7_lies 90 = .ok (.bipush 100, 2) := by decide +kernel
theorem dX7_lies_92 : decode cX7_lies 92 = .ok (.if_icmp .gt 7, 3) := by decide +kernel
theorem dX7_lies_95 : decode cX7_lies 95 = .ok (.iconst 3, 1) := by decide +kernel
theorem dX7_lies_96 : decode cX7_lies 96 = .ok (.goto 4, 3) := by decide +kernel
theorem dX7_lies_99 : decode cX7_lies 99 = .ok (.iconst 2, 1) := by decide +kernel
theorem dX7_lies_100 : decode cX7_lies 100 = .ok (.ireturn, 1) := by decide +kernel
theorem dX7_codeOf_0 : decode cX7_codeOf 0 = .ok (.aload_n 0, 1) := by decide +kernel
theorem dX7_codeOf_1 : decode cX7_codeOf 1 = .ok (.iload_n 1, 1) := by decide +kernel
theorem dX7_codeOf_2 : decode cX7_codeOf 2 = .ok (.invokevirtual 106, 3) := by decide +kernel
theorem dX7_codeOf_5 : decode cX7_codeOf 5 = .ok (.istore_n 2, 1) := by decide +kernel
theorem dX7_codeOf_6 : decode cX7_codeOf 6 = .ok (.aload_n 0, 1) := by decide +kernel
theorem dX7_codeOf_7 : decode cX7_codeOf 7 = .ok (.getfield 100, 3) := by decide +kernel
theorem dX7_codeOf_10 : decode cX7_codeOf 10 = .ok (.aload_n 0, 1) := by decide +kernel
theorem dX7_codeOf_11 : decode cX7_codeOf 11 = .ok (.getfield 22, 3) := by decide +kernel
theorem dX7_codeOf_14 : decode cX7_codeOf 14 = .ok (.iload_n 1, 1) := by decide +kernel
theorem dX7_codeOf_15 : decode cX7_codeOf 15 = .ok (.iaload, 1) := by decide +kernel
theorem dX7_codeOf_16 : decode cX7_codeOf 16 = .ok (.isub, 1) := by decide +kernel
theorem dX7_codeOf_17 : decode cX7_codeOf 17 = .ok (.bipush 30, 2) := by decide +kernel
theorem dX7_codeOf_19 : decode cX7_codeOf 19 = .ok (.if_icmp .gt 22, 3) := by decide +kernel
theorem dX7_codeOf_22 : decode cX7_codeOf 22 = .ok (.aload_n 0, 1) := by decide +kernel
theorem dX7_codeOf_23 : decode cX7_codeOf 23 = .ok (.getfield 19, 3) := by decide +kernel
theorem dX7_codeOf_26 : decode cX7_codeOf 26 = .ok (.iload_n 1, 1) := by decide +kernel
theorem dX7_codeOf_27 : decode cX7_codeOf 27 = .ok (.iaload, 1) := by decide +kernel
theorem dX7_codeOf_28 : decode cX7_codeOf 28 = .ok (.iload_n 2, 1) := by decide +kernel
theorem dX7_codeOf_29 : decode cX7_codeOf 29 = .ok (.if_icmp .ge 12, 3) := by decide +kernel
theorem dX7_codeOf_32 : decode cX7_codeOf 32 = .ok (.aload_n 0, 1) := by decide +kernel
theorem dX7_codeOf_33 : decode cX7_codeOf 33 = .ok (.getfield 19, 3) := by decide +kernel
theorem dX7_codeOf_36 : decode cX7_codeOf 36 = .ok (.iload_n 1, 1) := by decide +kernel
theorem dX7_codeOf_37 : decode cX7_codeOf 37 = .ok (.iaload, 1) := by decide +kernel
theorem dX7_codeOf_38 : decode cX7_codeOf 38 = .ok (.goto 4, 3) := by decide +kernel
theorem dX7_codeOf_41 : decode cX7_codeOf 41 = .ok (.iload_n 2, 1) := by decide +kernel
theorem dX7_codeOf_42 : decode cX7_codeOf 42 = .ok (.ireturn, 1) := by decide +kernel
theorem dX7_pilot_0 : decode cX7_pilot 0 = .ok (.aload_n 0, 1) := by decide +kernel
theorem dX7_pilot_1 : decode cX7_pilot 1 = .ok (.iload_n 1, 1) := by decide +kernel
theorem dX7_pilot_2 : decode cX7_pilot 2 = .ok (.invokestatic 96, 3) := by decide +kernel
theorem dX7_pilot_5 : decode cX7_pilot 5 = .ok (.ifCond .ne 7, 3) := by decide +kernel
theorem dX7_pilot_8 : decode cX7_pilot 8 = .ok (.iconst 1, 1) := by decide +kernel
theorem dX7_pilot_9 : decode cX7_pilot 9 = .ok (.goto 18, 3) := by decide +kernel
theorem dX7_pilot_12 : decode cX7_pilot 12 = .ok (.iload_n 2, 1) := by decide +kernel
theorem dX7_pilot_13 : decode cX7_pilot 13 = .ok (.iconst 0, 1) := by decide +kernel
theorem dX7_pilot_14 : decode cX7_pilot 14 = .ok (.bipush 6, 2) := by decide +kernel
theorem dX7_pilot_16 : decode cX7_pilot 16 = .ok (.invokestatic 77, 3) := by decide +kernel
theorem dX7_pilot_19 : decode cX7_pilot 19 = .ok (.ifCond .eq 7, 3) := by decide +kernel
theorem dX7_pilot_22 : decode cX7_pilot 22 = .ok (.iconst 0, 1) := by decide +kernel
theorem dX7_pilot_23 : decode cX7_pilot 23 = .ok (.goto 4, 3) := by decide +kernel
theorem dX7_pilot_26 : decode cX7_pilot 26 = .ok (.iconst 2, 1) := by decide +kernel
theorem dX7_pilot_27 : decode cX7_pilot 27 = .ok (.putfield 74, 3) := by decide +kernel
theorem dX7_pilot_30 : decode cX7_pilot 30 = .ok (.aload_n 0, 1) := by decide +kernel
theorem dX7_pilot_31 : decode cX7_pilot 31 = .ok (.getfield 74, 3) := by decide +kernel
theorem dX7_pilot_34 : decode cX7_pilot 34 = .ok (.ifCond .le 5, 3) := by decide +kernel
theorem dX7_pilot_37 : decode cX7_pilot 37 = .ok (.iconst 0, 1) := by decide +kernel
theorem dX7_pilot_38 : decode cX7_pilot 38 = .ok (.ireturn, 1) := by decide +kernel
theorem dX7_pilot_39 : decode cX7_pilot 39 = .ok (.aload_n 0, 1) := by decide +kernel
theorem dX7_pilot_40 : decode cX7_pilot 40 = .ok (.getfield 19, 3) := by decide +kernel
theorem dX7_pilot_43 : decode cX7_pilot 43 = .ok (.iload_n 1, 1) := by decide +kernel
theorem dX7_pilot_44 : decode cX7_pilot 44 = .ok (.iload_n 2, 1) := by decide +kernel
theorem dX7_pilot_45 : decode cX7_pilot 45 = .ok (.iastore, 1) := by decide +kernel
theorem dX7_pilot_46 : decode cX7_pilot 46 = .ok (.aload_n 0, 1) := by decide +kernel
theorem dX7_pilot_47 : decode cX7_pilot 47 = .ok (.getfield 22, 3) := by decide +kernel
theorem dX7_pilot_50 : decode cX7_pilot 50 = .ok (.iload_n 1, 1) := by decide +kernel
theorem dX7_pilot_51 : decode cX7_pilot 51 = .ok (.aload_n 0, 1) := by decide +kernel
theorem dX7_pilot_52 : decode cX7_pilot 52 = .ok (.getfield 100, 3) := by decide +kernel
theorem dX7_pilot_55 : decode cX7_pilot 55 = .ok (.iastore, 1) := by decide +kernel
theorem dX7_pilot_56 : decode cX7_pilot 56 = .ok (.aload_n 0, 1) := by decide +kernel
theorem dX7_pilot_57 : decode cX7_pilot 57 = .ok (.iload_n 1, 1) := by decide +kernel
theorem dX7_pilot_58 : decode cX7_pilot 58 = .ok (.invokevirtual 110, 3) := by decide +kernel
theorem dX7_pilot_61 : decode cX7_pilot 61 = .ok (.ireturn, 1) := by decide +kernel
theorem dX7_areEnough_0 : decode cX7_areEnough 0 = .ok (.aload_n 0, 1) := by decide +kernel
theorem dX7_areEnough_1 : decode cX7_areEnough 1 = .ok (.getfield 93, 3) := by decide +kernel
theorem dX7_areEnough_4 : decode cX7_areEnough 4 = .ok (.bipush 10, 2) := by decide +kernel
theorem dX7_areEnough_6 : decode cX7_areEnough 6 = .ok (.if_icmp .gt 7, 3) := by decide +kernel
theorem dX7_areEnough_9 : decode cX7_areEnough 9 = .ok (.iconst 1, 1) := by decide +kernel
theorem dX7_areEnough_10 : decode cX7_areEnough 10 = .ok (.goto 31, 3) := by decide +kernel
theorem dX7_areEnough_13 : decode cX7_areEnough 13 = .ok (.aload_n 0, 1) := by decide +kernel
theorem dX7_areEnough_14 : decode cX7_areEnough 14 = .ok (.getfield 93, 3) := by decide +kernel
theorem dX7_areEnough_17 : decode cX7_areEnough 17 = .ok (.bipush 20, 2) := by decide +kernel
theorem dX7_areEnough_19 : decode cX7_areEnough 19 = .ok (.if_icmp .gt 7, 3) := by decide +kernel
theorem dX7_areEnough_22 : decode cX7_areEnough 22 = .ok (.iconst 3, 1) := by decide +kernel
theorem dX7_areEnough_23 : decode cX7_areEnough 23 = .ok (.goto 18, 3) := by decide +kernel
theorem dX7_areEnough_26 : decode cX7_areEnough 26 = .ok (.aload_n 0, 1) := by decide +kernel
theorem dX7_areEnough_27 : decode cX7_areEnough 27 = .ok (.getfield 93, 3) := by decide +kernel
theorem dX7_areEnough_30 : decode cX7_areEnough 30 = .ok (.bipush 30, 2) := by decide +kernel
theorem dX7_areEnough_32 : decode cX7_areEnough 32 = .ok (.if_icmp .gt 7, 3) := by decide +kernel
theorem dX7_areEnough_35 : decode cX7_areEnough 35 = .ok (.iconst 5, 1) := by decide +kernel
theorem dX7_areEnough_36 : decode cX7_areEnough 36 = .ok (.goto 5, 3) := by decide +kernel
theorem dX7_areEnough_39 : decode cX7_areEnough 39 = .ok (.bipush 7, 2) := by decide +kernel
theorem dX7_areEnough_41 : decode cX7_areEnough 41 = .ok (.istore_n 1, 1) := by decide +kernel
theorem dX7_areEnough_42 : decode cX7_areEnough 42 = .ok (.aload_n 0, 1) := by decide +kernel
theorem dX7_areEnough_43 : decode cX7_areEnough 43 = .ok (.iconst 0, 1) := by decide +kernel
theorem dX7_areEnough_44 : decode cX7_areEnough 44 = .ok (.invokevirtual 110, 3) := by decide +kernel
theorem dX7_areEnough_47 : decode cX7_areEnough 47 = .ok (.iload_n 1, 1) := by decide +kernel
theorem dX7_areEnough_48 : decode cX7_areEnough 48 = .ok (.if_icmp .lt 25, 3) := by decide +kernel
theorem dX7_areEnough_51 : decode cX7_areEnough 51 = .ok (.aload_n 0, 1) := by decide +kernel
theorem dX7_areEnough_52 : decode cX7_areEnough 52 = .ok (.iconst 1, 1) := by decide +kernel
theorem dX7_areEnough_53 : decode cX7_areEnough 53 = .ok (.invokevirtual 110, 3) := by decide +kernel
theorem dX7_areEnough_56 : decode cX7_areEnough 56 = .ok (.iload_n 1, 1) := by decide +kernel
theorem dX7_areEnough_57 : decode cX7_areEnough 57 = .ok (.if_icmp .lt 16, 3) := by decide +kernel
theorem dX7_areEnough_60 : decode cX7_areEnough 60 = .ok (.aload_n 0, 1) := by decide +kernel
theorem dX7_areEnough_61 : decode cX7_areEnough 61 = .ok (.iconst 2, 1) := by decide +kernel
theorem dX7_areEnough_62 : decode cX7_areEnough 62 = .ok (.invokevirtual 110, 3) := by decide +kernel
theorem dX7_areEnough_65 : decode cX7_areEnough 65 = .ok (.iload_n 1, 1) := by decide +kernel
theorem dX7_areEnough_66 : decode cX7_areEnough 66 = .ok (.if_icmp .lt 7, 3) := by decide +kernel
theorem dX7_areEnough_69 : decode cX7_areEnough 69 = .ok (.iconst 1, 1) := by decide +kernel
theorem dX7_areEnough_70 : decode cX7_areEnough 70 = .ok (.goto 4, 3) := by decide +kernel
theorem dX7_areEnough_73 : decode cX7_areEnough 73 = .ok (.iconst 0, 1) := by decide +kernel
theorem dX7_areEnough_74 : decode cX7_areEnough 74 = .ok (.ireturn, 1) := by decide +kernel
theorem dX7_supply_0 : decode cX7_supply 0 = .ok (.aload_n 0, 1) := by decide +kernel
theorem dX7_supply_1 : decode cX7_supply 1 = .ok (.iload_n 1, 1) := by decide +kernel
theorem dX7_supply_2 : decode cX7_supply 2 = .ok (.invokestatic 113, 3) := by decide +kernel
theorem dX7_supply_5 : decode cX7_supply 5 = .ok (.ifCond .ne 7, 3) := by decide +kernel
theorem dX7_supply_8 : decode cX7_supply 8 = .ok (.iconst 1, 1) := by decide +kernel
theorem dX7_supply_9 : decode cX7_supply 9 = .ok (.goto 36, 3) := by decide +kernel
theorem dX7_supply_12 : decode cX7_supply 12 = .ok (.iload_n 2, 1) := by decide +kernel
theorem dX7_supply_13 : decode cX7_supply 13 = .ok (.iconst 1, 1) := by decide +kernel
theorem dX7_supply_14 : decode cX7_supply 14 = .ok (.sipush 10000, 3) := by decide +kernel
theorem dX7_supply_17 : decode cX7_supply 17 = .ok (.invokestatic 77, 3) := by decide +kernel
theorem dX7_supply_20 : decode cX7_supply 20 = .ok (.ifCond .ne 7, 3) := by decide +kernel
theorem dX7_supply_23 : decode cX7_supply 23 = .ok (.iconst 2, 1) := by decide +kernel
theorem dX7_supply_24 : decode cX7_supply 24 = .ok (.goto 21, 3) := by decide +kernel
theorem dX7_supply_27 : decode cX7_supply 27 = .ok (.aload_n 0, 1) := by decide +kernel
theorem dX7_supply_28 : decode cX7_supply 28 = .ok (.getfield 29, 3) := by decide +kernel
theorem dX7_supply_31 : decode cX7_supply 31 = .ok (.iload_n 1, 1) := by decide +kernel
theorem dX7_supply_32 : decode cX7_supply 32 = .ok (.iaload, 1) := by decide +kernel
theorem dX7_supply_33 : decode cX7_supply 33 = .ok (.iload_n 2, 1) := by decide +kernel
theorem dX7_supply_34 : decode cX7_supply 34 = .ok (.iadd, 1) := by decide +kernel
theorem dX7_supply_35 : decode cX7_supply 35 = .ok (.ldc 116, 2) := by decide +kernel
theorem dX7_supply_37 : decode cX7_supply 37 = .ok (.if_icmp .le 7, 3) := by decide +kernel
theorem dX7_supply_40 : decode cX7_supply 40 = .ok (.iconst 3, 1) := by decide +kernel
theorem dX7_supply_41 : decode cX7_supply 41 = .ok (.goto 4, 3) := by decide +kernel
theorem dX7_supply_44 : decode cX7_supply 44 = .ok (.iconst 0, 1) := by decide +kernel
theorem dX7_supply_45 : decode cX7_supply 45 = .ok (.putfield 74, 3) := by decide +kernel
theorem dX7_supply_48 : decode cX7_supply 48 = .ok (.aload_n 0, 1) := by decide +kernel
theorem dX7_supply_49 : decode cX7_supply 49 = .ok (.getfield 74, 3) := by decide +kernel
theorem dX7_supply_52 : decode cX7_supply 52 = .ok (.ifCond .le 5, 3) := by decide +kernel
theorem dX7_supply_55 : decode cX7_supply 55 = .ok (.iconst 0, 1) := by decide +kernel
theorem dX7_supply_56 : decode cX7_supply 56 = .ok (.ireturn, 1) := by decide +kernel
theorem dX7_supply_57 : decode cX7_supply 57 = .ok (.aload_n 0, 1) := by decide +kernel
theorem dX7_supply_58 : decode cX7_supply 58 = .ok (.getfield 29, 3) := by decide +kernel
theorem dX7_supply_61 : decode cX7_supply 61 = .ok (.iload_n 1, 1) := by decide +kernel
theorem dX7_supply_62 : decode cX7_supply 62 = .ok (.dup2, 1) := by decide +kernel
theorem dX7_supply_63 : decode cX7_supply 63 = .ok (.iaload, 1) := by decide +kernel
theorem dX7_supply_64 : decode cX7_supply 64 = .ok (.iload_n 2, 1) := by decide +kernel
theorem dX7_supply_65 : decode cX7_supply 65 = .ok (.iadd, 1) := by decide +kernel
theorem dX7_supply_66 : decode cX7_supply 66 = .ok (.iastore, 1) := by decide +kernel
theorem dX7_supply_67 : decode cX7_supply 67 = .ok (.aload_n 0, 1) := by decide +kernel
theorem dX7_supply_68 : decode cX7_supply 68 = .ok (.dup, 1) := by decide +kernel
theorem dX7_supply_69 : decode cX7_supply 69 = .ok (.getfield 117, 3) := by decide +kernel
theorem dX7_supply_72 : decode cX7_supply 72 = .ok (.iload_n 2, 1) := by decide +kernel
theorem dX7_supply_73 : decode cX7_supply 73 = .ok (.iadd, 1) := by decide +kernel
theorem dX7_supply_74 : decode cX7_supply 74 = .ok (.putfield 117, 3) := by decide +kernel
theorem dX7_supply_77 : decode cX7_supply 77 = .ok (.aload_n 0, 1) := by decide +kernel
theorem dX7_supply_78 : decode cX7_supply 78 = .ok (.getfield 29, 3) := by decide +kernel
theorem dX7_supply_81 : decode cX7_supply 81 = .ok (.iload_n 1, 1) := by decide +kernel
theorem dX7_supply_82 : decode cX7_supply 82 = .ok (.iaload, 1) := by decide +kernel
theorem dX7_supply_83 : decode cX7_supply 83 = .ok (.ireturn, 1) := by decide +kernel
theorem dX7_table_0 : decode cX7_table 0 = .ok (.aload_n 0, 1) := by decide +kernel
theorem dX7_table_1 : decode cX7_table 1 = .ok (.iload_n 1, 1) := by decide +kernel
theorem dX7_table_2 : decode cX7_table 2 = .ok (.invokestatic 113, 3) := by decide +kernel
theorem dX7_table_5 : decode cX7_table 5 = .ok (.ifCond .ne 7, 3) := by decide +kernel
theorem dX7_table_8 : decode cX7_table 8 = .ok (.iconst 1, 1) := by decide +kernel
theorem dX7_table_9 : decode cX7_table 9 = .ok (.goto 28, 3) := by decide +kernel
theorem dX7_table_12 : decode cX7_table 12 = .ok (.iload_n 2, 1) := by decide +kernel
theorem dX7_table_13 : decode cX7_table 13 = .ok (.iconst 1, 1) := by decide +kernel
theorem dX7_table_14 : decode cX7_table 14 = .ok (.iconst 3, 1) := by decide +kernel
theorem dX7_table_15 : decode cX7_table 15 = .ok (.invokestatic 77, 3) := by decide +kernel
theorem dX7_table_18 : decode cX7_table 18 = .ok (.ifCond .eq 18, 3) := by decide +kernel
theorem dX7_table_21 : decode cX7_table 21 = .ok (.iload_n 3, 1) := by decide +kernel
theorem dX7_table_22 : decode cX7_table 22 = .ok (.iconst 1, 1) := by decide +kernel
theorem dX7_table_23 : decode cX7_table 23 = .ok (.sipush 1000, 3) := by decide +kernel
theorem dX7_table_26 : decode cX7_table 26 = .ok (.invokestatic 77, 3) := by decide +kernel
theorem dX7_table_29 : decode cX7_table 29 = .ok (.ifCond .eq 7, 3) := by decide +kernel
theorem dX7_table_32 : decode cX7_table 32 = .ok (.iconst 0, 1) := by decide +kernel
theorem dX7_table_33 : decode cX7_table 33 = .ok (.goto 4, 3) := by decide +kernel
theorem dX7_table_36 : decode cX7_table 36 = .ok (.iconst 2, 1) := by decide +kernel
theorem dX7_table_37 : decode cX7_table 37 = .ok (.putfield 74, 3) := by decide +kernel
theorem dX7_table_40 : decode cX7_table 40 = .ok (.aload_n 0, 1) := by decide +kernel
theorem dX7_table_41 : decode cX7_table 41 = .ok (.getfield 74, 3) := by decide +kernel
theorem dX7_table_44 : decode cX7_table 44 = .ok (.ifCond .le 5, 3) := by decide +kernel
theorem dX7_table_47 : decode cX7_table 47 = .ok (.iconst 0, 1) := by decide +kernel
theorem dX7_table_48 : decode cX7_table 48 = .ok (.ireturn, 1) := by decide +kernel
theorem dX7_table_49 : decode cX7_table 49 = .ok (.aload_n 0, 1) := by decide +kernel
theorem dX7_table_50 : decode cX7_table 50 = .ok (.getfield 32, 3) := by decide +kernel
theorem dX7_table_53 : decode cX7_table 53 = .ok (.iconst 4, 1) := by decide +kernel
theorem dX7_table_54 : decode cX7_table 54 = .ok (.iload_n 1, 1) := by decide +kernel
theorem dX7_table_55 : decode cX7_table 55 = .ok (.imul, 1) := by decide +kernel
theorem dX7_table_56 : decode cX7_table 56 = .ok (.iload_n 2, 1) := by decide +kernel
theorem dX7_table_57 : decode cX7_table 57 = .ok (.iadd, 1) := by decide +kernel
theorem dX7_table_58 : decode cX7_table 58 = .ok (.iaload, 1) := by decide +kernel
theorem dX7_table_59 : decode cX7_table 59 = .ok (.istore 4, 2) := by decide +kernel
theorem dX7_table_61 : decode cX7_table 61 = .ok (.aload_n 0, 1) := by decide +kernel
theorem dX7_table_62 : decode cX7_table 62 = .ok (.getfield 32, 3) := by decide +kernel
theorem dX7_table_65 : decode cX7_table 65 = .ok (.iconst 4, 1) := by decide +kernel
theorem dX7_table_66 : decode cX7_table 66 = .ok (.iload_n 1, 1) := by decide +kernel
theorem dX7_table_67 : decode cX7_table 67 = .ok (.imul, 1) := by decide +kernel
theorem dX7_table_68 : decode cX7_table 68 = .ok (.iload_n 2, 1) := by decide +kernel
theorem dX7_table_69 : decode cX7_table 69 = .ok (.iadd, 1) := by decide +kernel
theorem dX7_table_70 : decode cX7_table 70 = .ok (.iload_n 3, 1) := by decide +kernel
theorem dX7_table_71 : decode cX7_table 71 = .ok (.iastore, 1) := by decide +kernel
theorem dX7_table_72 : decode cX7_table 72 = .ok (.iload 4, 2) := by decide +kernel
theorem dX7_table_74 : decode cX7_table 74 = .ok (.ireturn, 1) := by decide +kernel
theorem dX7_aircraft_0 : decode cX7_aircraft 0 = .ok (.aload_n 0, 1) := by decide +kernel
theorem dX7_aircraft_1 : decode cX7_aircraft 1 = .ok (.iload_n 1, 1) := by decide +kernel
theorem dX7_aircraft_2 : decode cX7_aircraft 2 = .ok (.bipush 10, 2) := by decide +kernel
theorem dX7_aircraft_4 : decode cX7_aircraft 4 = .ok (.bipush 80, 2) := by decide +kernel
theorem dX7_aircraft_6 : decode cX7_aircraft 6 = .ok (.invokestatic 77, 3) := by decide +kernel
theorem dX7_aircraft_9 : decode cX7_aircraft 9 = .ok (.ifCond .eq 25, 3) := by decide +kernel
theorem dX7_aircraft_12 : decode cX7_aircraft 12 = .ok (.iload_n 2, 1) := by decide +kernel
theorem dX7_aircraft_13 : decode cX7_aircraft 13 = .ok (.iconst 0, 1) := by decide +kernel
theorem dX7_aircraft_14 : decode cX7_aircraft 14 = .ok (.sipush 2000, 3) := by decide +kernel
theorem dX7_aircraft_17 : decode cX7_aircraft 17 = .ok (.invokestatic 77, 3) := by decide +kernel
theorem dX7_aircraft_20 : decode cX7_aircraft 20 = .ok (.ifCond .eq 14, 3) := by decide +kernel
theorem dX7_aircraft_23 : decode cX7_aircraft 23 = .ok (.iload_n 3, 1) := by decide +kernel
theorem dX7_aircraft_24 : decode cX7_aircraft 24 = .ok (.iconst 0, 1) := by decide +kernel
theorem dX7_aircraft_25 : decode cX7_aircraft 25 = .ok (.sipush 2000, 3) := by decide +kernel
theorem dX7_aircraft_28 : decode cX7_aircraft 28 = .ok (.invokestatic 77, 3) := by decide +kernel
theorem dX7_aircraft_31 : decode cX7_aircraft 31 = .ok (.ifCond .ne 7, 3) := by decide +kernel
theorem dX7_aircraft_34 : decode cX7_aircraft 34 = .ok (.iconst 1, 1) := by decide +kernel
theorem dX7_aircraft_35 : decode cX7_aircraft 35 = .ok (.goto 17, 3) := by decide +kernel
theorem dX7_aircraft_38 : decode cX7_aircraft 38 = .ok (.aload_n 0, 1) := by decide +kernel
theorem dX7_aircraft_39 : decode cX7_aircraft 39 = .ok (.getfield 81, 3) := by decide +kernel
theorem dX7_aircraft_42 : decode cX7_aircraft 42 = .ok (.bipush 20, 2) := by decide +kernel
theorem dX7_aircraft_44 : decode cX7_aircraft 44 = .ok (.if_icmp .ne 7, 3) := by decide +kernel
theorem dX7_aircraft_47 : decode cX7_aircraft 47 = .ok (.iconst 2, 1) := by decide +kernel
theorem dX7_aircraft_48 : decode cX7_aircraft 48 = .ok (.goto 4, 3) := by decide +kernel
theorem dX7_aircraft_51 : decode cX7_aircraft 51 = .ok (.iconst 0, 1) := by decide +kernel
theorem dX7_aircraft_52 : decode cX7_aircraft 52 = .ok (.putfield 74, 3) := by decide +kernel
theorem dX7_aircraft_55 : decode cX7_aircraft 55 = .ok (.aload_n 0, 1) := by decide +kernel
theorem dX7_aircraft_56 : decode cX7_aircraft 56 = .ok (.getfield 74, 3) := by decide +kernel
theorem dX7_aircraft_59 : decode cX7_aircraft 59 = .ok (.ifCond .le 5, 3) := by decide +kernel
theorem dX7_aircraft_62 : decode cX7_aircraft 62 = .ok (.iconst 0, 1) := by decide +kernel
theorem dX7_aircraft_63 : decode cX7_aircraft 63 = .ok (.ireturn, 1) := by decide +kernel
theorem dX7_aircraft_64 : decode cX7_aircraft 64 = .ok (.aload_n 0, 1) := by decide +kernel
theorem dX7_aircraft_65 : decode cX7_aircraft 65 = .ok (.getfield 35, 3) := by decide +kernel
theorem dX7_aircraft_68 : decode cX7_aircraft 68 = .ok (.aload_n 0, 1) := by decide +kernel
theorem dX7_aircraft_69 : decode cX7_aircraft 69 = .ok (.getfield 81, 3) := by decide +kernel
theorem dX7_aircraft_72 : decode cX7_aircraft 72 = .ok (.iload_n 1, 1) := by decide +kernel
theorem dX7_aircraft_73 : decode cX7_aircraft 73 = .ok (.iastore, 1) := by decide +kernel
theorem dX7_aircraft_74 : decode cX7_aircraft 74 = .ok (.aload_n 0, 1) := by decide +kernel
theorem dX7_aircraft_75 : decode cX7_aircraft 75 = .ok (.getfield 38, 3) := by decide +kernel
theorem dX7_aircraft_78 : decode cX7_aircraft 78 = .ok (.aload_n 0, 1) := by decide +kernel
theorem dX7_aircraft_79 : decode cX7_aircraft 79 = .ok (.getfield 81, 3) := by decide +kernel
theorem dX7_aircraft_82 : decode cX7_aircraft 82 = .ok (.aload_n 0, 1) := by decide +kernel
theorem dX7_aircraft_83 : decode cX7_aircraft 83 = .ok (.getfield 100, 3) := by decide +kernel
theorem dX7_aircraft_86 : decode cX7_aircraft 86 = .ok (.iload_n 2, 1) := by decide +kernel
theorem dX7_aircraft_87 : decode cX7_aircraft 87 = .ok (.iadd, 1) := by decide +kernel
theorem dX7_aircraft_88 : decode cX7_aircraft 88 = .ok (.iastore, 1) := by decide +kernel
theorem dX7_aircraft_89 : decode cX7_aircraft 89 = .ok (.aload_n 0, 1) := by decide +kernel
theorem dX7_aircraft_90 : decode cX7_aircraft 90 = .ok (.getfield 41, 3) := by decide +kernel
theorem dX7_aircraft_93 : decode cX7_aircraft 93 = .ok (.aload_n 0, 1) := by decide +kernel
theorem dX7_aircraft_94 : decode cX7_aircraft 94 = .ok (.getfield 81, 3) := by decide +kernel
theorem dX7_aircraft_97 : decode cX7_aircraft 97 = .ok (.aload_n 0, 1) := by decide +kernel
theorem dX7_aircraft_98 : decode cX7_aircraft 98 = .ok (.getfield 100, 3) := by decide +kernel
theorem dX7_aircraft_101 : decode cX7_aircraft 101 = .ok (.iload_n 3, 1) := by decide +kernel
theorem dX7_aircraft_102 : decode cX7_aircraft 102 = .ok (.iadd, 1) := by decide +kernel
theorem dX7_aircraft_103 : decode cX7_aircraft 103 = .ok (.iastore, 1) := by decide +kernel
theorem dX7_aircraft_104 : decode cX7_aircraft 104 = .ok (.aload_n 0, 1) := by decide +kernel
theorem dX7_aircraft_105 : decode cX7_aircraft 105 = .ok (.getfield 47, 3) := by decide +kernel
theorem dX7_aircraft_108 : decode cX7_aircraft 108 = .ok (.aload_n 0, 1) := by decide +kernel
theorem dX7_aircraft_109 : decode cX7_aircraft 109 = .ok (.getfield 81, 3) := by decide +kernel
theorem dX7_aircraft_112 : decode cX7_aircraft 112 = .ok (.iconst (-1), 1) := by decide +kernel
theorem dX7_aircraft_113 : decode cX7_aircraft 113 = .ok (.iastore, 1) := by decide +kernel
theorem dX7_aircraft_114 : decode cX7_aircraft 114 = .ok (.aload_n 0, 1) := by decide +kernel
theorem dX7_aircraft_115 : decode cX7_aircraft 115 = .ok (.getfield 56, 3) := by decide +kernel
theorem dX7_aircraft_118 : decode cX7_aircraft 118 = .ok (.aload_n 0, 1) := by decide +kernel
theorem dX7_aircraft_119 : decode cX7_aircraft 119 = .ok (.getfield 81, 3) := by decide +kernel
theorem dX7_aircraft_122 : decode cX7_aircraft 122 = .ok (.iconst (-1), 1) := by decide +kernel
theorem dX7_aircraft_123 : decode cX7_aircraft 123 = .ok (.iastore, 1) := by decide +kernel
theorem dX7_aircraft_124 : decode cX7_aircraft 124 = .ok (.aload_n 0, 1) := by decide +kernel
theorem dX7_aircraft_125 : decode cX7_aircraft 125 = .ok (.dup, 1) := by decide +kernel
theorem dX7_aircraft_126 : decode cX7_aircraft 126 = .ok (.getfield 81, 3) := by decide +kernel
theorem dX7_aircraft_129 : decode cX7_aircraft 129 = .ok (.iconst 1, 1) := by decide +kernel
theorem dX7_aircraft_130 : decode cX7_aircraft 130 = .ok (.iadd, 1) := by decide +kernel
theorem dX7_aircraft_131 : decode cX7_aircraft 131 = .ok (.putfield 81, 3) := by decide +kernel
theorem dX7_aircraft_134 : decode cX7_aircraft 134 = .ok (.aload_n 0, 1) := by decide +kernel
theorem dX7_aircraft_135 : decode cX7_aircraft 135 = .ok (.getfield 81, 3) := by decide +kernel
theorem dX7_aircraft_138 : decode cX7_aircraft 138 = .ok (.iconst 1, 1) := by decide +kernel
theorem dX7_aircraft_139 : decode cX7_aircraft 139 = .ok (.isub, 1) := by decide +kernel
theorem dX7_aircraft_140 : decode cX7_aircraft 140 = .ok (.ireturn, 1) := by decide +kernel
theorem dX7_isFree_0 : decode cX7_isFree 0 = .ok (.iconst 1, 1) := by decide +kernel
theorem dX7_isFree_1 : decode cX7_isFree 1 = .ok (.istore_n 2, 1) := by decide +kernel
theorem dX7_isFree_2 : decode cX7_isFree 2 = .ok (.iconst 0, 1) := by decide +kernel
theorem dX7_isFree_3 : decode cX7_isFree 3 = .ok (.istore_n 3, 1) := by decide +kernel
theorem dX7_isFree_4 : decode cX7_isFree 4 = .ok (.iload_n 3, 1) := by decide +kernel
theorem dX7_isFree_5 : decode cX7_isFree 5 = .ok (.aload_n 0, 1) := by decide +kernel
theorem dX7_isFree_6 : decode cX7_isFree 6 = .ok (.getfield 81, 3) := by decide +kernel
theorem dX7_isFree_9 : decode cX7_isFree 9 = .ok (.if_icmp .ge 29, 3) := by decide +kernel
theorem dX7_isFree_12 : decode cX7_isFree 12 = .ok (.iload_n 2, 1) := by decide +kernel
theorem dX7_isFree_13 : decode cX7_isFree 13 = .ok (.ifCond .eq 17, 3) := by decide +kernel
theorem dX7_isFree_16 : decode cX7_isFree 16 = .ok (.aload_n 0, 1) := by decide +kernel
theorem dX7_isFree_17 : decode cX7_isFree 17 = .ok (.getfield 56, 3) := by decide +kernel
theorem dX7_isFree_20 : decode cX7_isFree 20 = .ok (.iload_n 3, 1) := by decide +kernel
theorem dX7_isFree_21 : decode cX7_isFree 21 = .ok (.iaload, 1) := by decide +kernel
theorem dX7_isFree_22 : decode cX7_isFree 22 = .ok (.iload_n 1, 1) := by decide +kernel
theorem dX7_isFree_23 : decode cX7_isFree 23 = .ok (.if_icmp .eq 7, 3) := by decide +kernel
theorem dX7_isFree_26 : decode cX7_isFree 26 = .ok (.iconst 1, 1) := by decide +kernel
theorem dX7_isFree_27 : decode cX7_isFree 27 = .ok (.goto 4, 3) := by decide +kernel
theorem dX7_isFree_30 : decode cX7_isFree 30 = .ok (.iconst 0, 1) := by decide +kernel
theorem dX7_isFree_31 : decode cX7_isFree 31 = .ok (.istore_n 2, 1) := by decide +kernel
theorem dX7_isFree_32 : decode cX7_isFree 32 = .ok (.iinc 3 1, 3) := by decide +kernel
theorem dX7_isFree_35 : decode cX7_isFree 35 = .ok (.goto (-31), 3) := by decide +kernel
theorem dX7_isFree_38 : decode cX7_isFree 38 = .ok (.iload_n 2, 1) := by decide +kernel
theorem dX7_isFree_39 : decode cX7_isFree 39 = .ok (.ireturn, 1) := by decide +kernel
theorem dX7_treat_0 : decode cX7_treat 0 = .ok (.aload_n 0, 1) := by decide +kernel
theorem dX7_treat_1 : decode cX7_treat 1 = .ok (.aload_n 0, 1) := by decide +kernel
theorem dX7_treat_2 : decode cX7_treat 2 = .ok (.iload_n 1, 1) := by decide +kernel
theorem dX7_treat_3 : decode cX7_treat 3 = .ok (.invokevirtual 120, 3) := by decide +kernel
theorem dX7_treat_6 : decode cX7_treat 6 = .ok (.ifCond .eq 19, 3) := by decide +kernel
theorem dX7_treat_9 : decode cX7_treat 9 = .ok (.iload_n 2, 1) := by decide +kernel
theorem dX7_treat_10 : decode cX7_treat 10 = .ok (.iconst 0, 1) := by decide +kernel
theorem dX7_treat_11 : decode cX7_treat 11 = .ok (.iconst 2, 1) := by decide +kernel
theorem dX7_treat_12 : decode cX7_treat 12 = .ok (.invokestatic 77, 3) := by decide +kernel
theorem dX7_treat_15 : decode cX7_treat 15 = .ok (.ifCond .eq 10, 3) := by decide +kernel
theorem dX7_treat_18 : decode cX7_treat 18 = .ok (.iload_n 3, 1) := by decide +kernel
theorem dX7_treat_19 : decode cX7_treat 19 = .ok (.invokestatic 113, 3) := by decide +kernel
theorem dX7_treat_22 : decode cX7_treat 22 = .ok (.ifCond .ne 7, 3) := by decide +kernel
theorem dX7_treat_25 : decode cX7_treat 25 = .ok (.iconst 1, 1) := by decide +kernel
theorem dX7_treat_26 : decode cX7_treat 26 = .ok (.goto 42, 3) := by decide +kernel
theorem dX7_treat_29 : decode cX7_treat 29 = .ok (.iload 4, 2) := by decide +kernel
theorem dX7_treat_31 : decode cX7_treat 31 = .ok (.bipush 10, 2) := by decide +kernel
theorem dX7_treat_33 : decode cX7_treat 33 = .ok (.sipush 2000, 3) := by decide +kernel
theorem dX7_treat_36 : decode cX7_treat 36 = .ok (.invokestatic 77, 3) := by decide +kernel
theorem dX7_treat_39 : decode cX7_treat 39 = .ok (.ifCond .eq 24, 3) := by decide +kernel
theorem dX7_treat_42 : decode cX7_treat 42 = .ok (.iload 5, 2) := by decide +kernel
theorem dX7_treat_44 : decode cX7_treat 44 = .ok (.bipush 50, 2) := by decide +kernel
theorem dX7_treat_46 : decode cX7_treat 46 = .ok (.if_icmp .eq 21, 3) := by decide +kernel
theorem dX7_treat_49 : decode cX7_treat 49 = .ok (.iload 5, 2) := by decide +kernel
theorem dX7_treat_51 : decode cX7_treat 51 = .ok (.bipush 75, 2) := by decide +kernel
theorem dX7_treat_53 : decode cX7_treat 53 = .ok (.if_icmp .eq 14, 3) := by decide +kernel
theorem dX7_treat_56 : decode cX7_treat 56 = .ok (.iload 5, 2) := by decide +kernel
theorem dX7_treat_58 : decode cX7_treat 58 = .ok (.bipush 100, 2) := by decide +kernel
theorem dX7_treat_60 : decode cX7_treat 60 = .ok (.if_icmp .eq 7, 3) := by decide +kernel
theorem dX7_treat_63 : decode cX7_treat 63 = .ok (.iconst 2, 1) := by decide +kernel
theorem dX7_treat_64 : decode cX7_treat 64 = .ok (.goto 4, 3) := by decide +kernel
theorem dX7_treat_67 : decode cX7_treat 67 = .ok (.iconst 0, 1) := by decide +kernel
theorem dX7_treat_68 : decode cX7_treat 68 = .ok (.putfield 74, 3) := by decide +kernel
theorem dX7_treat_71 : decode cX7_treat 71 = .ok (.aload_n 0, 1) := by decide +kernel
theorem dX7_treat_72 : decode cX7_treat 72 = .ok (.getfield 74, 3) := by decide +kernel
theorem dX7_treat_75 : decode cX7_treat 75 = .ok (.ifCond .le 5, 3) := by decide +kernel
theorem dX7_treat_78 : decode cX7_treat 78 = .ok (.iconst 0, 1) := by decide +kernel
theorem dX7_treat_79 : decode cX7_treat 79 = .ok (.ireturn, 1) := by decide +kernel
theorem dX7_treat_80 : decode cX7_treat 80 = .ok (.aload_n 0, 1) := by decide +kernel
theorem dX7_treat_81 : decode cX7_treat 81 = .ok (.getfield 44, 3) := by decide +kernel
theorem dX7_treat_84 : decode cX7_treat 84 = .ok (.iload_n 1, 1) := by decide +kernel
theorem dX7_treat_85 : decode cX7_treat 85 = .ok (.iaload, 1) := by decide +kernel
theorem dX7_treat_86 : decode cX7_treat 86 = .ok (.ifCond .eq 13, 3) := by decide +kernel
theorem dX7_treat_89 : decode cX7_treat 89 = .ok (.aload_n 0, 1) := by decide +kernel
theorem dX7_treat_90 : decode cX7_treat 90 = .ok (.getfield 44, 3) := by decide +kernel
theorem dX7_treat_93 : decode cX7_treat 93 = .ok (.iload_n 1, 1) := by decide +kernel
theorem dX7_treat_94 : decode cX7_treat 94 = .ok (.iaload, 1) := by decide +kernel
theorem dX7_treat_95 : decode cX7_treat 95 = .ok (.iconst 2, 1) := by decide +kernel
theorem dX7_treat_96 : decode cX7_treat 96 = .ok (.if_icmp .ne 42, 3) := by decide +kernel
theorem dX7_treat_99 : decode cX7_treat 99 = .ok (.aload_n 0, 1) := by decide +kernel
theorem dX7_treat_100 : decode cX7_treat 100 = .ok (.iload_n 2, 1) := by decide +kernel
theorem dX7_treat_101 : decode cX7_treat 101 = .ok (.invokevirtual 123, 3) := by decide +kernel
theorem dX7_treat_104 : decode cX7_treat 104 = .ok (.ifCond .eq 34, 3) := by decide +kernel
theorem dX7_treat_107 : decode cX7_treat 107 = .ok (.aload_n 0, 1) := by decide +kernel
theorem dX7_treat_108 : decode cX7_treat 108 = .ok (.getfield 35, 3) := by decide +kernel
theorem dX7_treat_111 : decode cX7_treat 111 = .ok (.iload_n 1, 1) := by decide +kernel
theorem dX7_treat_112 : decode cX7_treat 112 = .ok (.iaload, 1) := by decide +kernel
theorem dX7_treat_113 : decode cX7_treat 113 = .ok (.bipush 40, 2) := by decide +kernel
theorem dX7_treat_115 : decode cX7_treat 115 = .ok (.bipush 20, 2) := by decide +kernel
theorem dX7_treat_117 : decode cX7_treat 117 = .ok (.iload_n 2, 1) := by decide +kernel
theorem dX7_treat_118 : decode cX7_treat 118 = .ok (.imul, 1) := by decide +kernel
theorem dX7_treat_119 : decode cX7_treat 119 = .ok (.iadd, 1) := by decide +kernel
theorem dX7_treat_120 : decode cX7_treat 120 = .ok (.if_icmp .gt 18, 3) := by decide +kernel
theorem dX7_treat_123 : decode cX7_treat 123 = .ok (.aload_n 0, 1) := by decide +kernel
theorem dX7_treat_124 : decode cX7_treat 124 = .ok (.getfield 29, 3) := by decide +kernel
theorem dX7_treat_127 : decode cX7_treat 127 = .ok (.iload_n 3, 1) := by decide +kernel
theorem dX7_treat_128 : decode cX7_treat 128 = .ok (.iaload, 1) := by decide +kernel
theorem dX7_treat_129 : decode cX7_treat 129 = .ok (.iload 4, 2) := by decide +kernel
theorem dX7_treat_131 : decode cX7_treat 131 = .ok (.if_icmp .lt 7, 3) := by decide +kernel
theorem dX7_treat_134 : decode cX7_treat 134 = .ok (.iconst 1, 1) := by decide +kernel
theorem dX7_treat_135 : decode cX7_treat 135 = .ok (.goto 4, 3) := by decide +kernel
theorem dX7_treat_138 : decode cX7_treat 138 = .ok (.iconst 0, 1) := by decide +kernel
theorem dX7_treat_139 : decode cX7_treat 139 = .ok (.istore 6, 2) := by decide +kernel
theorem dX7_treat_141 : decode cX7_treat 141 = .ok (.aload_n 0, 1) := by decide +kernel
theorem dX7_treat_142 : decode cX7_treat 142 = .ok (.iload 6, 2) := by decide +kernel
theorem dX7_treat_144 : decode cX7_treat 144 = .ok (.ifCond .eq 7, 3) := by decide +kernel
theorem dX7_treat_147 : decode cX7_treat 147 = .ok (.iconst 0, 1) := by decide +kernel
theorem dX7_treat_148 : decode cX7_treat 148 = .ok (.goto 4, 3) := by decide +kernel
theorem dX7_treat_151 : decode cX7_treat 151 = .ok (.iconst 3, 1) := by decide +kernel
theorem dX7_treat_152 : decode cX7_treat 152 = .ok (.putfield 74, 3) := by decide +kernel
theorem dX7_treat_155 : decode cX7_treat 155 = .ok (.aload_n 0, 1) := by decide +kernel
theorem dX7_treat_156 : decode cX7_treat 156 = .ok (.getfield 74, 3) := by decide +kernel
theorem dX7_treat_159 : decode cX7_treat 159 = .ok (.ifCond .le 5, 3) := by decide +kernel
theorem dX7_treat_162 : decode cX7_treat 162 = .ok (.iconst 0, 1) := by decide +kernel
theorem dX7_treat_163 : decode cX7_treat 163 = .ok (.ireturn, 1) := by decide +kernel
theorem dX7_treat_164 : decode cX7_treat 164 = .ok (.aload_n 0, 1) := by decide +kernel
theorem dX7_treat_165 : decode cX7_treat 165 = .ok (.getfield 44, 3) := by decide +kernel
theorem dX7_treat_168 : decode cX7_treat 168 = .ok (.iload_n 1, 1) := by decide +kernel
theorem dX7_treat_169 : decode cX7_treat 169 = .ok (.iconst 1, 1) := by decide +kernel
theorem dX7_treat_170 : decode cX7_treat 170 = .ok (.iastore, 1) := by decide +kernel
theorem dX7_treat_171 : decode cX7_treat 171 = .ok (.aload_n 0, 1) := by decide +kernel
theorem dX7_treat_172 : decode cX7_treat 172 = .ok (.getfield 56, 3) := by decide +kernel
theorem dX7_treat_175 : decode cX7_treat 175 = .ok (.iload_n 1, 1) := by decide +kernel
theorem dX7_treat_176 : decode cX7_treat 176 = .ok (.iload_n 2, 1) := by decide +kernel
theorem dX7_treat_177 : decode cX7_treat 177 = .ok (.iastore, 1) := by decide +kernel
theorem dX7_treat_178 : decode cX7_treat 178 = .ok (.aload_n 0, 1) := by decide +kernel
theorem dX7_treat_179 : decode cX7_treat 179 = .ok (.getfield 59, 3) := by decide +kernel
theorem dX7_treat_182 : decode cX7_treat 182 = .ok (.iload_n 1, 1) := by decide +kernel
theorem dX7_treat_183 : decode cX7_treat 183 = .ok (.aload_n 0, 1) := by decide +kernel
theorem dX7_treat_184 : decode cX7_treat 184 = .ok (.getfield 100, 3) := by decide +kernel
theorem dX7_treat_187 : decode cX7_treat 187 = .ok (.iconst 2, 1) := by decide +kernel
theorem dX7_treat_188 : decode cX7_treat 188 = .ok (.iadd, 1) := by decide +kernel
theorem dX7_treat_189 : decode cX7_treat 189 = .ok (.iload 4, 2) := by decide +kernel
theorem dX7_treat_191 : decode cX7_treat 191 = .ok (.bipush 100, 2) := by decide +kernel
theorem dX7_treat_193 : decode cX7_treat 193 = .ok (.idiv, 1) := by decide +kernel
theorem dX7_treat_194 : decode cX7_treat 194 = .ok (.iadd, 1) := by decide +kernel
theorem dX7_treat_195 : decode cX7_treat 195 = .ok (.iastore, 1) := by decide +kernel
theorem dX7_treat_196 : decode cX7_treat 196 = .ok (.aload_n 0, 1) := by decide +kernel
theorem dX7_treat_197 : decode cX7_treat 197 = .ok (.getfield 62, 3) := by decide +kernel
theorem dX7_treat_200 : decode cX7_treat 200 = .ok (.iload_n 1, 1) := by decide +kernel
theorem dX7_treat_201 : decode cX7_treat 201 = .ok (.aload_n 0, 1) := by decide +kernel
theorem dX7_treat_202 : decode cX7_treat 202 = .ok (.getfield 100, 3) := by decide +kernel
theorem dX7_treat_205 : decode cX7_treat 205 = .ok (.iastore, 1) := by decide +kernel
theorem dX7_treat_206 : decode cX7_treat 206 = .ok (.aload_n 0, 1) := by decide +kernel
theorem dX7_treat_207 : decode cX7_treat 207 = .ok (.getfield 65, 3) := by decide +kernel
theorem dX7_treat_210 : decode cX7_treat 210 = .ok (.iload_n 1, 1) := by decide +kernel
theorem dX7_treat_211 : decode cX7_treat 211 = .ok (.iload_n 3, 1) := by decide +kernel
theorem dX7_treat_212 : decode cX7_treat 212 = .ok (.iastore, 1) := by decide +kernel
theorem dX7_treat_213 : decode cX7_treat 213 = .ok (.aload_n 0, 1) := by decide +kernel
theorem dX7_treat_214 : decode cX7_treat 214 = .ok (.getfield 68, 3) := by decide +kernel
theorem dX7_treat_217 : decode cX7_treat 217 = .ok (.iload_n 1, 1) := by decide +kernel
theorem dX7_treat_218 : decode cX7_treat 218 = .ok (.iload 5, 2) := by decide +kernel
theorem dX7_treat_220 : decode cX7_treat 220 = .ok (.iastore, 1) := by decide +kernel
theorem dX7_treat_221 : decode cX7_treat 221 = .ok (.aload_n 0, 1) := by decide +kernel
theorem dX7_treat_222 : decode cX7_treat 222 = .ok (.getfield 50, 3) := by decide +kernel
theorem dX7_treat_225 : decode cX7_treat 225 = .ok (.iload_n 1, 1) := by decide +kernel
theorem dX7_treat_226 : decode cX7_treat 226 = .ok (.dup2, 1) := by decide +kernel
theorem dX7_treat_227 : decode cX7_treat 227 = .ok (.iaload, 1) := by decide +kernel
theorem dX7_treat_228 : decode cX7_treat 228 = .ok (.iconst 1, 1) := by decide +kernel
theorem dX7_treat_229 : decode cX7_treat 229 = .ok (.iadd, 1) := by decide +kernel
theorem dX7_treat_230 : decode cX7_treat 230 = .ok (.iastore, 1) := by decide +kernel
theorem dX7_treat_231 : decode cX7_treat 231 = .ok (.aload_n 0, 1) := by decide +kernel
theorem dX7_treat_232 : decode cX7_treat 232 = .ok (.getfield 29, 3) := by decide +kernel
theorem dX7_treat_235 : decode cX7_treat 235 = .ok (.iload_n 3, 1) := by decide +kernel
theorem dX7_treat_236 : decode cX7_treat 236 = .ok (.dup2, 1) := by decide +kernel
theorem dX7_treat_237 : decode cX7_treat 237 = .ok (.iaload, 1) := by decide +kernel
theorem dX7_treat_238 : decode cX7_treat 238 = .ok (.iload 4, 2) := by decide +kernel
theorem dX7_treat_240 : decode cX7_treat 240 = .ok (.isub, 1) := by decide +kernel
theorem dX7_treat_241 : decode cX7_treat 241 = .ok (.iastore, 1) := by decide +kernel
theorem dX7_treat_242 : decode cX7_treat 242 = .ok (.aload_n 0, 1) := by decide +kernel
theorem dX7_treat_243 : decode cX7_treat 243 = .ok (.getfield 53, 3) := by decide +kernel
theorem dX7_treat_246 : decode cX7_treat 246 = .ok (.iload_n 1, 1) := by decide +kernel
theorem dX7_treat_247 : decode cX7_treat 247 = .ok (.dup2, 1) := by decide +kernel
theorem dX7_treat_248 : decode cX7_treat 248 = .ok (.iaload, 1) := by decide +kernel
theorem dX7_treat_249 : decode cX7_treat 249 = .ok (.iload 4, 2) := by decide +kernel
theorem dX7_treat_251 : decode cX7_treat 251 = .ok (.bipush 20, 2) := by decide +kernel
theorem dX7_treat_253 : decode cX7_treat 253 = .ok (.imul, 1) := by decide +kernel
theorem dX7_treat_254 : decode cX7_treat 254 = .ok (.bipush 100, 2) := by decide +kernel
theorem dX7_treat_256 : decode cX7_treat 256 = .ok (.idiv, 1) := by decide +kernel
theorem dX7_treat_257 : decode cX7_treat 257 = .ok (.iadd, 1) := by decide +kernel
theorem dX7_treat_258 : decode cX7_treat 258 = .ok (.iastore, 1) := by decide +kernel
theorem dX7_treat_259 : decode cX7_treat 259 = .ok (.aload_n 0, 1) := by decide +kernel
theorem dX7_treat_260 : decode cX7_treat 260 = .ok (.dup, 1) := by decide +kernel
theorem dX7_treat_261 : decode cX7_treat 261 = .ok (.getfield 126, 3) := by decide +kernel
theorem dX7_treat_264 : decode cX7_treat 264 = .ok (.iload 4, 2) := by decide +kernel
theorem dX7_treat_266 : decode cX7_treat 266 = .ok (.iload 4, 2) := by decide +kernel
theorem dX7_treat_268 : decode cX7_treat 268 = .ok (.bipush 20, 2) := by decide +kernel
theorem dX7_treat_270 : decode cX7_treat 270 = .ok (.imul, 1) := by decide +kernel
theorem dX7_treat_271 : decode cX7_treat 271 = .ok (.bipush 100, 2) := by decide +kernel
theorem dX7_treat_273 : decode cX7_treat 273 = .ok (.idiv, 1) := by decide +kernel
theorem dX7_treat_274 : decode cX7_treat 274 = .ok (.isub, 1) := by decide +kernel
theorem dX7_treat_275 : decode cX7_treat 275 = .ok (.iadd, 1) := by decide +kernel
theorem dX7_treat_276 : decode cX7_treat 276 = .ok (.putfield 126, 3) := by decide +kernel
theorem dX7_treat_279 : decode cX7_treat 279 = .ok (.aload_n 0, 1) := by decide +kernel
theorem dX7_treat_280 : decode cX7_treat 280 = .ok (.getfield 59, 3) := by decide +kernel
theorem dX7_treat_283 : decode cX7_treat 283 = .ok (.iload_n 1, 1) := by decide +kernel
theorem dX7_treat_284 : decode cX7_treat 284 = .ok (.iaload, 1) := by decide +kernel
theorem dX7_treat_285 : decode cX7_treat 285 = .ok (.ireturn, 1) := by decide +kernel
theorem dX7_cancel_0 : decode cX7_cancel 0 = .ok (.aload_n 0, 1) := by decide +kernel
theorem dX7_cancel_1 : decode cX7_cancel 1 = .ok (.aload_n 0, 1) := by decide +kernel
theorem dX7_cancel_2 : decode cX7_cancel 2 = .ok (.iload_n 1, 1) := by decide +kernel
theorem dX7_cancel_3 : decode cX7_cancel 3 = .ok (.invokevirtual 120, 3) := by decide +kernel
theorem dX7_cancel_6 : decode cX7_cancel 6 = .ok (.ifCond .ne 7, 3) := by decide +kernel
theorem dX7_cancel_9 : decode cX7_cancel 9 = .ok (.iconst 1, 1) := by decide +kernel
theorem dX7_cancel_10 : decode cX7_cancel 10 = .ok (.goto 28, 3) := by decide +kernel
theorem dX7_cancel_13 : decode cX7_cancel 13 = .ok (.aload_n 0, 1) := by decide +kernel
theorem dX7_cancel_14 : decode cX7_cancel 14 = .ok (.getfield 44, 3) := by decide +kernel
theorem dX7_cancel_17 : decode cX7_cancel 17 = .ok (.iload_n 1, 1) := by decide +kernel
theorem dX7_cancel_18 : decode cX7_cancel 18 = .ok (.iaload, 1) := by decide +kernel
theorem dX7_cancel_19 : decode cX7_cancel 19 = .ok (.iconst 3, 1) := by decide +kernel
theorem dX7_cancel_20 : decode cX7_cancel 20 = .ok (.if_icmp .eq 13, 3) := by decide +kernel
theorem dX7_cancel_23 : decode cX7_cancel 23 = .ok (.aload_n 0, 1) := by decide +kernel
theorem dX7_cancel_24 : decode cX7_cancel 24 = .ok (.getfield 44, 3) := by decide +kernel
theorem dX7_cancel_27 : decode cX7_cancel 27 = .ok (.iload_n 1, 1) := by decide +kernel
theorem dX7_cancel_28 : decode cX7_cancel 28 = .ok (.iaload, 1) := by decide +kernel
theorem dX7_cancel_29 : decode cX7_cancel 29 = .ok (.iconst 4, 1) := by decide +kernel
theorem dX7_cancel_30 : decode cX7_cancel 30 = .ok (.if_icmp .ne 7, 3) := by decide +kernel
theorem dX7_cancel_33 : decode cX7_cancel 33 = .ok (.iconst 2, 1) := by decide +kernel
theorem dX7_cancel_34 : decode cX7_cancel 34 = .ok (.goto 4, 3) := by decide +kernel
theorem dX7_cancel_37 : decode cX7_cancel 37 = .ok (.iconst 0, 1) := by decide +kernel
theorem dX7_cancel_38 : decode cX7_cancel 38 = .ok (.putfield 74, 3) := by decide +kernel
theorem dX7_cancel_41 : decode cX7_cancel 41 = .ok (.aload_n 0, 1) := by decide +kernel
theorem dX7_cancel_42 : decode cX7_cancel 42 = .ok (.getfield 74, 3) := by decide +kernel
theorem dX7_cancel_45 : decode cX7_cancel 45 = .ok (.ifCond .le 5, 3) := by decide +kernel
theorem dX7_cancel_48 : decode cX7_cancel 48 = .ok (.iconst 0, 1) := by decide +kernel
theorem dX7_cancel_49 : decode cX7_cancel 49 = .ok (.ireturn, 1) := by decide +kernel
theorem dX7_cancel_50 : decode cX7_cancel 50 = .ok (.aload_n 0, 1) := by decide +kernel
theorem dX7_cancel_51 : decode cX7_cancel 51 = .ok (.getfield 44, 3) := by decide +kernel
theorem dX7_cancel_54 : decode cX7_cancel 54 = .ok (.iload_n 1, 1) := by decide +kernel
theorem dX7_cancel_55 : decode cX7_cancel 55 = .ok (.iaload, 1) := by decide +kernel
theorem dX7_cancel_56 : decode cX7_cancel 56 = .ok (.istore_n 2, 1) := by decide +kernel
theorem dX7_cancel_57 : decode cX7_cancel 57 = .ok (.aload_n 0, 1) := by decide +kernel
theorem dX7_cancel_58 : decode cX7_cancel 58 = .ok (.iload_n 1, 1) := by decide +kernel
theorem dX7_cancel_59 : decode cX7_cancel 59 = .ok (.invokevirtual 129, 3) := by decide +kernel
theorem dX7_cancel_62 : decode cX7_cancel 62 = .ok (.iload_n 2, 1) := by decide +kernel
theorem dX7_cancel_63 : decode cX7_cancel 63 = .ok (.ireturn, 1) := by decide +kernel
theorem dX7_cancels_0 : decode cX7_cancels 0 = .ok (.aload_n 0, 1) := by decide +kernel
theorem dX7_cancels_1 : decode cX7_cancels 1 = .ok (.getfield 44, 3) := by decide +kernel
theorem dX7_cancels_4 : decode cX7_cancels 4 = .ok (.iload_n 1, 1) := by decide +kernel
theorem dX7_cancels_5 : decode cX7_cancels 5 = .ok (.iconst 4, 1) := by decide +kernel
theorem dX7_cancels_6 : decode cX7_cancels 6 = .ok (.iastore, 1) := by decide +kernel
theorem dX7_cancels_7 : decode cX7_cancels 7 = .ok (.aload_n 0, 1) := by decide +kernel
theorem dX7_cancels_8 : decode cX7_cancels 8 = .ok (.getfield 56, 3) := by decide +kernel
theorem dX7_cancels_11 : decode cX7_cancels 11 = .ok (.iload_n 1, 1) := by decide +kernel
theorem dX7_cancels_12 : decode cX7_cancels 12 = .ok (.iconst (-1), 1) := by decide +kernel
theorem dX7_cancels_13 : decode cX7_cancels 13 = .ok (.iastore, 1) := by decide +kernel
theorem dX7_cancels_14 : decode cX7_cancels 14 = .ok (.return_, 1) := by decide +kernel
theorem dX7_permit_0 : decode cX7_permit 0 = .ok (.aload_n 0, 1) := by decide +kernel
theorem dX7_permit_1 : decode cX7_permit 1 = .ok (.iload_n 1, 1) := by decide +kernel
theorem dX7_permit_2 : decode cX7_permit 2 = .ok (.iconst 0, 1) := by decide +kernel
theorem dX7_permit_3 : decode cX7_permit 3 = .ok (.ldc 116, 2) := by decide +kernel
theorem dX7_permit_5 : decode cX7_permit 5 = .ok (.invokestatic 77, 3) := by decide +kernel
theorem dX7_permit_8 : decode cX7_permit 8 = .ok (.ifCond .eq 7, 3) := by decide +kernel
theorem dX7_permit_11 : decode cX7_permit 11 = .ok (.iconst 0, 1) := by decide +kernel
theorem dX7_permit_12 : decode cX7_permit 12 = .ok (.goto 4, 3) := by decide +kernel
theorem dX7_permit_15 : decode cX7_permit 15 = .ok (.iconst 1, 1) := by decide +kernel
theorem dX7_permit_16 : decode cX7_permit 16 = .ok (.putfield 74, 3) := by decide +kernel
theorem dX7_permit_19 : decode cX7_permit 19 = .ok (.aload_n 0, 1) := by decide +kernel
theorem dX7_permit_20 : decode cX7_permit 20 = .ok (.getfield 74, 3) := by decide +kernel
theorem dX7_permit_23 : decode cX7_permit 23 = .ok (.ifCond .le 5, 3) := by decide +kernel
theorem dX7_permit_26 : decode cX7_permit 26 = .ok (.iconst 0, 1) := by decide +kernel
theorem dX7_permit_27 : decode cX7_permit 27 = .ok (.ireturn, 1) := by decide +kernel
theorem dX7_permit_28 : decode cX7_permit 28 = .ok (.aload_n 0, 1) := by decide +kernel
theorem dX7_permit_29 : decode cX7_permit 29 = .ok (.getfield 71, 3) := by decide +kernel
theorem dX7_permit_32 : decode cX7_permit 32 = .ok (.istore_n 2, 1) := by decide +kernel
theorem dX7_permit_33 : decode cX7_permit 33 = .ok (.aload_n 0, 1) := by decide +kernel
theorem dX7_permit_34 : decode cX7_permit 34 = .ok (.iload_n 1, 1) := by decide +kernel
theorem dX7_permit_35 : decode cX7_permit 35 = .ok (.putfield 71, 3) := by decide +kernel
theorem dX7_permit_38 : decode cX7_permit 38 = .ok (.iload_n 2, 1) := by decide +kernel
theorem dX7_permit_39 : decode cX7_permit 39 = .ok (.ireturn, 1) := by decide +kernel
theorem dX7_release_0 : decode cX7_release 0 = .ok (.aload_n 0, 1) := by decide +kernel
theorem dX7_release_1 : decode cX7_release 1 = .ok (.iload_n 1, 1) := by decide +kernel
theorem dX7_release_2 : decode cX7_release 2 = .ok (.iconst 1, 1) := by decide +kernel
theorem dX7_release_3 : decode cX7_release 3 = .ok (.ldc 116, 2) := by decide +kernel
theorem dX7_release_5 : decode cX7_release 5 = .ok (.invokestatic 77, 3) := by decide +kernel
theorem dX7_release_8 : decode cX7_release 8 = .ok (.ifCond .ne 7, 3) := by decide +kernel
theorem dX7_release_11 : decode cX7_release 11 = .ok (.iconst 1, 1) := by decide +kernel
theorem dX7_release_12 : decode cX7_release 12 = .ok (.goto 29, 3) := by decide +kernel
theorem dX7_release_15 : decode cX7_release 15 = .ok (.iload_n 1, 1) := by decide +kernel
theorem dX7_release_16 : decode cX7_release 16 = .ok (.aload_n 0, 1) := by decide +kernel
theorem dX7_release_17 : decode cX7_release 17 = .ok (.getfield 126, 3) := by decide +kernel
theorem dX7_release_20 : decode cX7_release 20 = .ok (.if_icmp .gt 16, 3) := by decide +kernel
theorem dX7_release_23 : decode cX7_release 23 = .ok (.aload_n 0, 1) := by decide +kernel
theorem dX7_release_24 : decode cX7_release 24 = .ok (.getfield 133, 3) := by decide +kernel
theorem dX7_release_27 : decode cX7_release 27 = .ok (.iload_n 1, 1) := by decide +kernel
theorem dX7_release_28 : decode cX7_release 28 = .ok (.iadd, 1) := by decide +kernel
theorem dX7_release_29 : decode cX7_release 29 = .ok (.aload_n 0, 1) := by decide +kernel
theorem dX7_release_30 : decode cX7_release 30 = .ok (.getfield 71, 3) := by decide +kernel
theorem dX7_release_33 : decode cX7_release 33 = .ok (.if_icmp .le 7, 3) := by decide +kernel
theorem dX7_release_36 : decode cX7_release 36 = .ok (.iconst 2, 1) := by decide +kernel
theorem dX7_release_37 : decode cX7_release 37 = .ok (.goto 4, 3) := by decide +kernel
theorem dX7_release_40 : decode cX7_release 40 = .ok (.iconst 0, 1) := by decide +kernel
theorem dX7_release_41 : decode cX7_release 41 = .ok (.putfield 74, 3) := by decide +kernel
theorem dX7_release_44 : decode cX7_release 44 = .ok (.aload_n 0, 1) := by decide +kernel
theorem dX7_release_45 : decode cX7_release 45 = .ok (.getfield 74, 3) := by decide +kernel
theorem dX7_release_48 : decode cX7_release 48 = .ok (.ifCond .le 5, 3) := by decide +kernel
theorem dX7_release_51 : decode cX7_release 51 = .ok (.iconst 0, 1) := by decide +kernel
theorem dX7_release_52 : decode cX7_release 52 = .ok (.ireturn, 1) := by decide +kernel
theorem dX7_release_53 : decode cX7_release 53 = .ok (.aload_n 0, 1) := by decide +kernel
theorem dX7_release_54 : decode cX7_release 54 = .ok (.dup, 1) := by decide +kernel
theorem dX7_release_55 : decode cX7_release 55 = .ok (.getfield 126, 3) := by decide +kernel
theorem dX7_release_58 : decode cX7_release 58 = .ok (.iload_n 1, 1) := by decide +kernel
theorem dX7_release_59 : decode cX7_release 59 = .ok (.isub, 1) := by decide +kernel
theorem dX7_release_60 : decode cX7_release 60 = .ok (.putfield 126, 3) := by decide +kernel
theorem dX7_release_63 : decode cX7_release 63 = .ok (.aload_n 0, 1) := by decide +kernel
theorem dX7_release_64 : decode cX7_release 64 = .ok (.dup, 1) := by decide +kernel
theorem dX7_release_65 : decode cX7_release 65 = .ok (.getfield 136, 3) := by decide +kernel
theorem dX7_release_68 : decode cX7_release 68 = .ok (.iload_n 1, 1) := by decide +kernel
theorem dX7_release_69 : decode cX7_release 69 = .ok (.iadd, 1) := by decide +kernel
theorem dX7_release_70 : decode cX7_release 70 = .ok (.putfield 136, 3) := by decide +kernel
theorem dX7_release_73 : decode cX7_release 73 = .ok (.aload_n 0, 1) := by decide +kernel
theorem dX7_release_74 : decode cX7_release 74 = .ok (.dup, 1) := by decide +kernel
theorem dX7_release_75 : decode cX7_release 75 = .ok (.getfield 133, 3) := by decide +kernel
theorem dX7_release_78 : decode cX7_release 78 = .ok (.iload_n 1, 1) := by decide +kernel
theorem dX7_release_79 : decode cX7_release 79 = .ok (.iadd, 1) := by decide +kernel
theorem dX7_release_80 : decode cX7_release 80 = .ok (.putfield 133, 3) := by decide +kernel
theorem dX7_release_83 : decode cX7_release 83 = .ok (.aload_n 0, 1) := by decide +kernel
theorem dX7_release_84 : decode cX7_release 84 = .ok (.getfield 133, 3) := by decide +kernel
theorem dX7_release_87 : decode cX7_release 87 = .ok (.ireturn, 1) := by decide +kernel
theorem dX7_falls_0 : decode cX7_falls 0 = .ok (.aload_n 0, 1) := by decide +kernel
theorem dX7_falls_1 : decode cX7_falls 1 = .ok (.getfield 84, 3) := by decide +kernel
theorem dX7_falls_4 : decode cX7_falls 4 = .ok (.ifCond .ge 15, 3) := by decide +kernel
theorem dX7_falls_7 : decode cX7_falls 7 = .ok (.aload_n 0, 1) := by decide +kernel
theorem dX7_falls_8 : decode cX7_falls 8 = .ok (.iload_n 1, 1) := by decide +kernel
theorem dX7_falls_9 : decode cX7_falls 9 = .ok (.invokevirtual 139, 3) := by decide +kernel
theorem dX7_falls_12 : decode cX7_falls 12 = .ok (.ifCond .ne 7, 3) := by decide +kernel
theorem dX7_falls_15 : decode cX7_falls 15 = .ok (.iconst 1, 1) := by decide +kernel
theorem dX7_falls_16 : decode cX7_falls 16 = .ok (.goto 4, 3) := by decide +kernel
theorem dX7_falls_19 : decode cX7_falls 19 = .ok (.iconst 0, 1) := by decide +kernel
theorem dX7_falls_20 : decode cX7_falls 20 = .ok (.istore_n 2, 1) := by decide +kernel
theorem dX7_falls_21 : decode cX7_falls 21 = .ok (.aload_n 0, 1) := by decide +kernel
theorem dX7_falls_22 : decode cX7_falls 22 = .ok (.getfield 87, 3) := by decide +kernel
theorem dX7_falls_25 : decode cX7_falls 25 = .ok (.iconst 1, 1) := by decide +kernel
theorem dX7_falls_26 : decode cX7_falls 26 = .ok (.if_icmp .ne 40, 3) := by decide +kernel
theorem dX7_falls_29 : decode cX7_falls 29 = .ok (.aload_n 0, 1) := by decide +kernel
theorem dX7_falls_30 : decode cX7_falls 30 = .ok (.getfield 7, 3) := by decide +kernel
theorem dX7_falls_33 : decode cX7_falls 33 = .ok (.iload_n 1, 1) := by decide +kernel
theorem dX7_falls_34 : decode cX7_falls 34 = .ok (.aload_n 0, 1) := by decide +kernel
theorem dX7_falls_35 : decode cX7_falls 35 = .ok (.getfield 7, 3) := by decide +kernel
theorem dX7_falls_38 : decode cX7_falls 38 = .ok (.iload_n 1, 1) := by decide +kernel
theorem dX7_falls_39 : decode cX7_falls 39 = .ok (.iaload, 1) := by decide +kernel
theorem dX7_falls_40 : decode cX7_falls 40 = .ok (.iconst 3, 1) := by decide +kernel
theorem dX7_falls_41 : decode cX7_falls 41 = .ok (.if_icmp .ne 7, 3) := by decide +kernel
theorem dX7_falls_44 : decode cX7_falls 44 = .ok (.iconst 3, 1) := by decide +kernel
theorem dX7_falls_45 : decode cX7_falls 45 = .ok (.goto 4, 3) := by decide +kernel
theorem dX7_falls_48 : decode cX7_falls 48 = .ok (.iconst 2, 1) := by decide +kernel
theorem dX7_falls_49 : decode cX7_falls 49 = .ok (.iastore, 1) := by decide +kernel
theorem dX7_falls_50 : decode cX7_falls 50 = .ok (.aload_n 0, 1) := by decide +kernel
theorem dX7_falls_51 : decode cX7_falls 51 = .ok (.getfield 13, 3) := by decide +kernel
theorem dX7_falls_54 : decode cX7_falls 54 = .ok (.iload_n 1, 1) := by decide +kernel
theorem dX7_falls_55 : decode cX7_falls 55 = .ok (.dup2, 1) := by decide +kernel
theorem dX7_falls_56 : decode cX7_falls 56 = .ok (.iaload, 1) := by decide +kernel
theorem dX7_falls_57 : decode cX7_falls 57 = .ok (.aload_n 0, 1) := by decide +kernel
theorem dX7_falls_58 : decode cX7_falls 58 = .ok (.getfield 90, 3) := by decide +kernel
theorem dX7_falls_61 : decode cX7_falls 61 = .ok (.iadd, 1) := by decide +kernel
theorem dX7_falls_62 : decode cX7_falls 62 = .ok (.iastore, 1) := by decide +kernel
theorem dX7_falls_63 : decode cX7_falls 63 = .ok (.goto 101, 3) := by decide +kernel
theorem dX7_falls_66 : decode cX7_falls 66 = .ok (.aload_n 0, 1) := by decide +kernel
theorem dX7_falls_67 : decode cX7_falls 67 = .ok (.getfield 87, 3) := by decide +kernel
theorem dX7_falls_70 : decode cX7_falls 70 = .ok (.iconst 2, 1) := by decide +kernel
theorem dX7_falls_71 : decode cX7_falls 71 = .ok (.if_icmp .ne 30, 3) := by decide +kernel
theorem dX7_falls_74 : decode cX7_falls 74 = .ok (.iload_n 2, 1) := by decide +kernel
theorem dX7_falls_75 : decode cX7_falls 75 = .ok (.ifCond .eq 26, 3) := by decide +kernel
theorem dX7_falls_78 : decode cX7_falls 78 = .ok (.aload_n 0, 1) := by decide +kernel
theorem dX7_falls_79 : decode cX7_falls 79 = .ok (.getfield 7, 3) := by decide +kernel
theorem dX7_falls_82 : decode cX7_falls 82 = .ok (.iload_n 1, 1) := by decide +kernel
theorem dX7_falls_83 : decode cX7_falls 83 = .ok (.iconst 3, 1) := by decide +kernel
theorem dX7_falls_84 : decode cX7_falls 84 = .ok (.iastore, 1) := by decide +kernel
theorem dX7_falls_85 : decode cX7_falls 85 = .ok (.aload_n 0, 1) := by decide +kernel
theorem dX7_falls_86 : decode cX7_falls 86 = .ok (.getfield 13, 3) := by decide +kernel
theorem dX7_falls_89 : decode cX7_falls 89 = .ok (.iload_n 1, 1) := by decide +kernel
theorem dX7_falls_90 : decode cX7_falls 90 = .ok (.dup2, 1) := by decide +kernel
theorem dX7_falls_91 : decode cX7_falls 91 = .ok (.iaload, 1) := by decide +kernel
theorem dX7_falls_92 : decode cX7_falls 92 = .ok (.aload_n 0, 1) := by decide +kernel
theorem dX7_falls_93 : decode cX7_falls 93 = .ok (.getfield 90, 3) := by decide +kernel
theorem dX7_falls_96 : decode cX7_falls 96 = .ok (.iadd, 1) := by decide +kernel
theorem dX7_falls_97 : decode cX7_falls 97 = .ok (.iastore, 1) := by decide +kernel
theorem dX7_falls_98 : decode cX7_falls 98 = .ok (.goto 66, 3) := by decide +kernel
theorem dX7_falls_101 : decode cX7_falls 101 = .ok (.aload_n 0, 1) := by decide +kernel
theorem dX7_falls_102 : decode cX7_falls 102 = .ok (.getfield 87, 3) := by decide +kernel
theorem dX7_falls_105 : decode cX7_falls 105 = .ok (.iconst 2, 1) := by decide +kernel
theorem dX7_falls_106 : decode cX7_falls 106 = .ok (.if_icmp .ne 22, 3) := by decide +kernel
theorem dX7_falls_109 : decode cX7_falls 109 = .ok (.aload_n 0, 1) := by decide +kernel
theorem dX7_falls_110 : decode cX7_falls 110 = .ok (.getfield 7, 3) := by decide +kernel
theorem dX7_falls_113 : decode cX7_falls 113 = .ok (.iload_n 1, 1) := by decide +kernel
theorem dX7_falls_114 : decode cX7_falls 114 = .ok (.iaload, 1) := by decide +kernel
theorem dX7_falls_115 : decode cX7_falls 115 = .ok (.ifCond .ne 13, 3) := by decide +kernel
theorem dX7_falls_118 : decode cX7_falls 118 = .ok (.aload_n 0, 1) := by decide +kernel
theorem dX7_falls_119 : decode cX7_falls 119 = .ok (.getfield 7, 3) := by decide +kernel
theorem dX7_falls_122 : decode cX7_falls 122 = .ok (.iload_n 1, 1) := by decide +kernel
theorem dX7_falls_123 : decode cX7_falls 123 = .ok (.iconst 1, 1) := by decide +kernel
theorem dX7_falls_124 : decode cX7_falls 124 = .ok (.iastore, 1) := by decide +kernel
theorem dX7_falls_125 : decode cX7_falls 125 = .ok (.goto 39, 3) := by decide +kernel
theorem dX7_falls_128 : decode cX7_falls 128 = .ok (.aload_n 0, 1) := by decide +kernel
theorem dX7_falls_129 : decode cX7_falls 129 = .ok (.getfield 87, 3) := by decide +kernel
theorem dX7_falls_132 : decode cX7_falls 132 = .ok (.iconst 3, 1) := by decide +kernel
theorem dX7_falls_133 : decode cX7_falls 133 = .ok (.if_icmp .ne 31, 3) := by decide +kernel
theorem dX7_falls_136 : decode cX7_falls 136 = .ok (.iload_n 2, 1) := by decide +kernel
theorem dX7_falls_137 : decode cX7_falls 137 = .ok (.ifCond .eq 27, 3) := by decide +kernel
theorem dX7_falls_140 : decode cX7_falls 140 = .ok (.aload_n 0, 1) := by decide +kernel
theorem dX7_falls_141 : decode cX7_falls 141 = .ok (.getfield 7, 3) := by decide +kernel
theorem dX7_falls_144 : decode cX7_falls 144 = .ok (.iload_n 1, 1) := by decide +kernel
theorem dX7_falls_145 : decode cX7_falls 145 = .ok (.iaload, 1) := by decide +kernel
theorem dX7_falls_146 : decode cX7_falls 146 = .ok (.iconst 2, 1) := by decide +kernel
theorem dX7_falls_147 : decode cX7_falls 147 = .ok (.if_icmp .ge 17, 3) := by decide +kernel
theorem dX7_falls_150 : decode cX7_falls 150 = .ok (.aload_n 0, 1) := by decide +kernel
theorem dX7_falls_151 : decode cX7_falls 151 = .ok (.getfield 7, 3) := by decide +kernel
theorem dX7_falls_154 : decode cX7_falls 154 = .ok (.iload_n 1, 1) := by decide +kernel
theorem dX7_falls_155 : decode cX7_falls 155 = .ok (.iconst 3, 1) := by decide +kernel
theorem dX7_falls_156 : decode cX7_falls 156 = .ok (.iastore, 1) := by decide +kernel
theorem dX7_falls_157 : decode cX7_falls 157 = .ok (.aload_n 0, 1) := by decide +kernel
theorem dX7_falls_158 : decode cX7_falls 158 = .ok (.getfield 13, 3) := by decide +kernel
theorem dX7_falls_161 : decode cX7_falls 161 = .ok (.iload_n 1, 1) := by decide +kernel
theorem dX7_falls_162 : decode cX7_falls 162 = .ok (.iconst 1, 1) := by decide +kernel
theorem dX7_falls_163 : decode cX7_falls 163 = .ok (.iastore, 1) := by decide +kernel
theorem dX7_falls_164 : decode cX7_falls 164 = .ok (.aload_n 0, 1) := by decide +kernel
theorem dX7_falls_165 : decode cX7_falls 165 = .ok (.getfield 13, 3) := by decide +kernel
theorem dX7_falls_168 : decode cX7_falls 168 = .ok (.iload_n 1, 1) := by decide +kernel
theorem dX7_falls_169 : decode cX7_falls 169 = .ok (.aload_n 0, 1) := by decide +kernel
theorem dX7_falls_170 : decode cX7_falls 170 = .ok (.getfield 13, 3) := by decide +kernel
theorem dX7_falls_173 : decode cX7_falls 173 = .ok (.iload_n 1, 1) := by decide +kernel
theorem dX7_falls_174 : decode cX7_falls 174 = .ok (.iaload, 1) := by decide +kernel
theorem dX7_falls_175 : decode cX7_falls 175 = .ok (.sipush 5000, 3) := by decide +kernel
theorem dX7_falls_178 : decode cX7_falls 178 = .ok (.if_icmp .le 9, 3) := by decide +kernel
theorem dX7_falls_181 : decode cX7_falls 181 = .ok (.sipush 5000, 3) := by decide +kernel
theorem dX7_falls_184 : decode cX7_falls 184 = .ok (.goto 9, 3) := by decide +kernel
theorem dX7_falls_187 : decode cX7_falls 187 = .ok (.aload_n 0, 1) := by decide +kernel
theorem dX7_falls_188 : decode cX7_falls 188 = .ok (.getfield 13, 3) := by decide +kernel
theorem dX7_falls_191 : decode cX7_falls 191 = .ok (.iload_n 1, 1) := by decide +kernel
theorem dX7_falls_192 : decode cX7_falls 192 = .ok (.iaload, 1) := by decide +kernel
theorem dX7_falls_193 : decode cX7_falls 193 = .ok (.iastore, 1) := by decide +kernel
theorem dX7_falls_194 : decode cX7_falls 194 = .ok (.aload_n 0, 1) := by decide +kernel
theorem dX7_falls_195 : decode cX7_falls 195 = .ok (.getfield 84, 3) := by decide +kernel
theorem dX7_falls_198 : decode cX7_falls 198 = .ok (.bipush 20, 2) := by decide +kernel
theorem dX7_falls_200 : decode cX7_falls 200 = .ok (.if_icmp .le 66, 3) := by decide +kernel
theorem dX7_falls_203 : decode cX7_falls 203 = .ok (.aload_n 0, 1) := by decide +kernel
theorem dX7_falls_204 : decode cX7_falls 204 = .ok (.getfield 7, 3) := by decide +kernel
theorem dX7_falls_207 : decode cX7_falls 207 = .ok (.iload_n 1, 1) := by decide +kernel
theorem dX7_falls_208 : decode cX7_falls 208 = .ok (.iaload, 1) := by decide +kernel
theorem dX7_falls_209 : decode cX7_falls 209 = .ok (.iconst 2, 1) := by decide +kernel
theorem dX7_falls_210 : decode cX7_falls 210 = .ok (.if_icmp .lt 56, 3) := by decide +kernel
theorem dX7_falls_213 : decode cX7_falls 213 = .ok (.aload_n 0, 1) := by decide +kernel
theorem dX7_falls_214 : decode cX7_falls 214 = .ok (.getfield 13, 3) := by decide +kernel
theorem dX7_falls_217 : decode cX7_falls 217 = .ok (.iload_n 1, 1) := by decide +kernel
theorem dX7_falls_218 : decode cX7_falls 218 = .ok (.aload_n 0, 1) := by decide +kernel
theorem dX7_falls_219 : decode cX7_falls 219 = .ok (.getfield 13, 3) := by decide +kernel
theorem dX7_falls_222 : decode cX7_falls 222 = .ok (.iload_n 1, 1) := by decide +kernel
theorem dX7_falls_223 : decode cX7_falls 223 = .ok (.iaload, 1) := by decide +kernel
theorem dX7_falls_224 : decode cX7_falls 224 = .ok (.iconst 2, 1) := by decide +kernel
theorem dX7_falls_225 : decode cX7_falls 225 = .ok (.if_icmp .ge 7, 3) := by decide +kernel
theorem dX7_falls_228 : decode cX7_falls 228 = .ok (.iconst 0, 1) := by decide +kernel
theorem dX7_falls_229 : decode cX7_falls 229 = .ok (.goto 11, 3) := by decide +kernel
theorem dX7_falls_232 : decode cX7_falls 232 = .ok (.aload_n 0, 1) := by decide +kernel
theorem dX7_falls_233 : decode cX7_falls 233 = .ok (.getfield 13, 3) := by decide +kernel
theorem dX7_falls_236 : decode cX7_falls 236 = .ok (.iload_n 1, 1) := by decide +kernel
theorem dX7_falls_237 : decode cX7_falls 237 = .ok (.iaload, 1) := by decide +kernel
theorem dX7_falls_238 : decode cX7_falls 238 = .ok (.iconst 2, 1) := by decide +kernel
theorem dX7_falls_239 : decode cX7_falls 239 = .ok (.isub, 1) := by decide +kernel
theorem dX7_falls_240 : decode cX7_falls 240 = .ok (.iastore, 1) := by decide +kernel
theorem dX7_falls_241 : decode cX7_falls 241 = .ok (.aload_n 0, 1) := by decide +kernel
theorem dX7_falls_242 : decode cX7_falls 242 = .ok (.getfield 7, 3) := by decide +kernel
theorem dX7_falls_245 : decode cX7_falls 245 = .ok (.iload_n 1, 1) := by decide +kernel
theorem dX7_falls_246 : decode cX7_falls 246 = .ok (.aload_n 0, 1) := by decide +kernel
theorem dX7_falls_247 : decode cX7_falls 247 = .ok (.getfield 13, 3) := by decide +kernel
theorem dX7_falls_250 : decode cX7_falls 250 = .ok (.iload_n 1, 1) := by decide +kernel
theorem dX7_falls_251 : decode cX7_falls 251 = .ok (.iaload, 1) := by decide +kernel
theorem dX7_falls_252 : decode cX7_falls 252 = .ok (.ifCond .ne 7, 3) := by decide +kernel
theorem dX7_falls_255 : decode cX7_falls 255 = .ok (.iconst 1, 1) := by decide +kernel
theorem dX7_falls_256 : decode cX7_falls 256 = .ok (.goto 9, 3) := by decide +kernel
theorem dX7_falls_259 : decode cX7_falls 259 = .ok (.aload_n 0, 1) := by decide +kernel
theorem dX7_falls_260 : decode cX7_falls 260 = .ok (.getfield 7, 3) := by decide +kernel
theorem dX7_falls_263 : decode cX7_falls 263 = .ok (.iload_n 1, 1) := by decide +kernel
theorem dX7_falls_264 : decode cX7_falls 264 = .ok (.iaload, 1) := by decide +kernel
theorem dX7_falls_265 : decode cX7_falls 265 = .ok (.iastore, 1) := by decide +kernel
theorem dX7_falls_266 : decode cX7_falls 266 = .ok (.iload_n 2, 1) := by decide +kernel
theorem dX7_falls_267 : decode cX7_falls 267 = .ok (.ifCond .eq 27, 3) := by decide +kernel
theorem dX7_falls_270 : decode cX7_falls 270 = .ok (.aload_n 0, 1) := by decide +kernel
theorem dX7_falls_271 : decode cX7_falls 271 = .ok (.getfield 7, 3) := by decide +kernel
theorem dX7_falls_274 : decode cX7_falls 274 = .ok (.iload_n 1, 1) := by decide +kernel
theorem dX7_falls_275 : decode cX7_falls 275 = .ok (.iaload, 1) := by decide +kernel
theorem dX7_falls_276 : decode cX7_falls 276 = .ok (.iconst 1, 1) := by decide +kernel
theorem dX7_falls_277 : decode cX7_falls 277 = .ok (.if_icmp .ne 17, 3) := by decide +kernel
theorem dX7_falls_280 : decode cX7_falls 280 = .ok (.aload_n 0, 1) := by decide +kernel
theorem dX7_falls_281 : decode cX7_falls 281 = .ok (.getfield 7, 3) := by decide +kernel
theorem dX7_falls_284 : decode cX7_falls 284 = .ok (.iload_n 1, 1) := by decide +kernel
theorem dX7_falls_285 : decode cX7_falls 285 = .ok (.iconst 3, 1) := by decide +kernel
theorem dX7_falls_286 : decode cX7_falls 286 = .ok (.iastore, 1) := by decide +kernel
theorem dX7_falls_287 : decode cX7_falls 287 = .ok (.aload_n 0, 1) := by decide +kernel
theorem dX7_falls_288 : decode cX7_falls 288 = .ok (.getfield 13, 3) := by decide +kernel
theorem dX7_falls_291 : decode cX7_falls 291 = .ok (.iload_n 1, 1) := by decide +kernel
theorem dX7_falls_292 : decode cX7_falls 292 = .ok (.iconst 1, 1) := by decide +kernel
theorem dX7_falls_293 : decode cX7_falls 293 = .ok (.iastore, 1) := by decide +kernel
theorem dX7_falls_294 : decode cX7_falls 294 = .ok (.return_, 1) := by decide +kernel
theorem dX7_ploughs_0 : decode cX7_ploughs 0 = .ok (.bipush 40, 2) := by decide +kernel
theorem dX7_ploughs_2 : decode cX7_ploughs 2 = .ok (.aload_n 0, 1) := by decide +kernel
theorem dX7_ploughs_3 : decode cX7_ploughs 3 = .ok (.getfield 103, 3) := by decide +kernel
theorem dX7_ploughs_6 : decode cX7_ploughs 6 = .ok (.imul, 1) := by decide +kernel
theorem dX7_ploughs_7 : decode cX7_ploughs 7 = .ok (.istore_n 1, 1) := by decide +kernel
theorem dX7_ploughs_8 : decode cX7_ploughs 8 = .ok (.iconst 0, 1) := by decide +kernel
theorem dX7_ploughs_9 : decode cX7_ploughs 9 = .ok (.istore_n 2, 1) := by decide +kernel
theorem dX7_ploughs_10 : decode cX7_ploughs 10 = .ok (.iload_n 2, 1) := by decide +kernel
theorem dX7_ploughs_11 : decode cX7_ploughs 11 = .ok (.iconst 3, 1) := by decide +kernel
theorem dX7_ploughs_12 : decode cX7_ploughs 12 = .ok (.if_icmp .ge 84, 3) := by decide +kernel
theorem dX7_ploughs_15 : decode cX7_ploughs 15 = .ok (.aload_n 0, 1) := by decide +kernel
theorem dX7_ploughs_16 : decode cX7_ploughs 16 = .ok (.getfield 7, 3) := by decide +kernel
theorem dX7_ploughs_19 : decode cX7_ploughs 19 = .ok (.iload_n 2, 1) := by decide +kernel
theorem dX7_ploughs_20 : decode cX7_ploughs 20 = .ok (.iaload, 1) := by decide +kernel
theorem dX7_ploughs_21 : decode cX7_ploughs 21 = .ok (.iconst 2, 1) := by decide +kernel
theorem dX7_ploughs_22 : decode cX7_ploughs 22 = .ok (.if_icmp .ne 68, 3) := by decide +kernel
theorem dX7_ploughs_25 : decode cX7_ploughs 25 = .ok (.aload_n 0, 1) := by decide +kernel
theorem dX7_ploughs_26 : decode cX7_ploughs 26 = .ok (.getfield 13, 3) := by decide +kernel
theorem dX7_ploughs_29 : decode cX7_ploughs 29 = .ok (.iload_n 2, 1) := by decide +kernel
theorem dX7_ploughs_30 : decode cX7_ploughs 30 = .ok (.iaload, 1) := by decide +kernel
theorem dX7_ploughs_31 : decode cX7_ploughs 31 = .ok (.iload_n 1, 1) := by decide +kernel
theorem dX7_ploughs_32 : decode cX7_ploughs 32 = .ok (.if_icmp .ge 12, 3) := by decide +kernel
theorem dX7_ploughs_35 : decode cX7_ploughs 35 = .ok (.aload_n 0, 1) := by decide +kernel
theorem dX7_ploughs_36 : decode cX7_ploughs 36 = .ok (.getfield 13, 3) := by decide +kernel
theorem dX7_ploughs_39 : decode cX7_ploughs 39 = .ok (.iload_n 2, 1) := by decide +kernel
theorem dX7_ploughs_40 : decode cX7_ploughs 40 = .ok (.iaload, 1) := by decide +kernel
theorem dX7_ploughs_41 : decode cX7_ploughs 41 = .ok (.goto 4, 3) := by decide +kernel
theorem dX7_ploughs_44 : decode cX7_ploughs 44 = .ok (.iload_n 1, 1) := by decide +kernel
theorem dX7_ploughs_45 : decode cX7_ploughs 45 = .ok (.istore_n 3, 1) := by decide +kernel
theorem dX7_ploughs_46 : decode cX7_ploughs 46 = .ok (.aload_n 0, 1) := by decide +kernel
theorem dX7_ploughs_47 : decode cX7_ploughs 47 = .ok (.getfield 13, 3) := by decide +kernel
theorem dX7_ploughs_50 : decode cX7_ploughs 50 = .ok (.iload_n 2, 1) := by decide +kernel
theorem dX7_ploughs_51 : decode cX7_ploughs 51 = .ok (.dup2, 1) := by decide +kernel
theorem dX7_ploughs_52 : decode cX7_ploughs 52 = .ok (.iaload, 1) := by decide +kernel
theorem dX7_ploughs_53 : decode cX7_ploughs 53 = .ok (.iload_n 3, 1) := by decide +kernel
theorem dX7_ploughs_54 : decode cX7_ploughs 54 = .ok (.isub, 1) := by decide +kernel
theorem dX7_ploughs_55 : decode cX7_ploughs 55 = .ok (.iastore, 1) := by decide +kernel
theorem dX7_ploughs_56 : decode cX7_ploughs 56 = .ok (.iload_n 1, 1) := by decide +kernel
theorem dX7_ploughs_57 : decode cX7_ploughs 57 = .ok (.iload_n 3, 1) := by decide +kernel
theorem dX7_ploughs_58 : decode cX7_ploughs 58 = .ok (.isub, 1) := by decide +kernel
theorem dX7_ploughs_59 : decode cX7_ploughs 59 = .ok (.istore_n 1, 1) := by decide +kernel
theorem dX7_ploughs_60 : decode cX7_ploughs 60 = .ok (.aload_n 0, 1) := by decide +kernel
theorem dX7_ploughs_61 : decode cX7_ploughs 61 = .ok (.dup, 1) := by decide +kernel
theorem dX7_ploughs_62 : decode cX7_ploughs 62 = .ok (.getfield 142, 3) := by decide +kernel
theorem dX7_ploughs_65 : decode cX7_ploughs 65 = .ok (.iload_n 3, 1) := by decide +kernel
theorem dX7_ploughs_66 : decode cX7_ploughs 66 = .ok (.iadd, 1) := by decide +kernel
theorem dX7_ploughs_67 : decode cX7_ploughs 67 = .ok (.putfield 142, 3) := by decide +kernel
theorem dX7_ploughs_70 : decode cX7_ploughs 70 = .ok (.aload_n 0, 1) := by decide +kernel
theorem dX7_ploughs_71 : decode cX7_ploughs 71 = .ok (.getfield 7, 3) := by decide +kernel
theorem dX7_ploughs_74 : decode cX7_ploughs 74 = .ok (.iload_n 2, 1) := by decide +kernel
theorem dX7_ploughs_75 : decode cX7_ploughs 75 = .ok (.aload_n 0, 1) := by decide +kernel
theorem dX7_ploughs_76 : decode cX7_ploughs 76 = .ok (.getfield 13, 3) := by decide +kernel
theorem dX7_ploughs_79 : decode cX7_ploughs 79 = .ok (.iload_n 2, 1) := by decide +kernel
theorem dX7_ploughs_80 : decode cX7_ploughs 80 = .ok (.iaload, 1) := by decide +kernel
theorem dX7_ploughs_81 : decode cX7_ploughs 81 = .ok (.ifCond .ne 7, 3) := by decide +kernel
theorem dX7_ploughs_84 : decode cX7_ploughs 84 = .ok (.iconst 1, 1) := by decide +kernel
theorem dX7_ploughs_85 : decode cX7_ploughs 85 = .ok (.goto 4, 3) := by decide +kernel
theorem dX7_ploughs_88 : decode cX7_ploughs 88 = .ok (.iconst 2, 1) := by decide +kernel
theorem dX7_ploughs_89 : decode cX7_ploughs 89 = .ok (.iastore, 1) := by decide +kernel
theorem dX7_ploughs_90 : decode cX7_ploughs 90 = .ok (.iinc 2 1, 3) := by decide +kernel
theorem dX7_ploughs_93 : decode cX7_ploughs 93 = .ok (.goto (-83), 3) := by decide +kernel
theorem dX7_ploughs_96 : decode cX7_ploughs 96 = .ok (.return_, 1) := by decide +kernel
theorem dX7_clockOf_0 : decode cX7_clockOf 0 = .ok (.ldc2_w 145, 3) := by decide +kernel
theorem dX7_clockOf_3 : decode cX7_clockOf 3 = .ok (.dstore_n 2, 1) := by decide +kernel
theorem dX7_clockOf_4 : decode cX7_clockOf 4 = .ok (.aload_n 0, 1) := by decide +kernel
theorem dX7_clockOf_5 : decode cX7_clockOf 5 = .ok (.getfield 87, 3) := by decide +kernel
theorem dX7_clockOf_8 : decode cX7_clockOf 8 = .ok (.ifCond .eq 71, 3) := by decide +kernel
theorem dX7_clockOf_11 : decode cX7_clockOf 11 = .ok (.aload_n 0, 1) := by decide +kernel
theorem dX7_clockOf_12 : decode cX7_clockOf 12 = .ok (.getfield 84, 3) := by decide +kernel
theorem dX7_clockOf_15 : decode cX7_clockOf 15 = .ok (.bipush (-30), 2) := by decide +kernel
theorem dX7_clockOf_17 : decode cX7_clockOf 17 = .ok (.if_icmp .lt 7, 3) := by decide +kernel
theorem dX7_clockOf_20 : decode cX7_clockOf 20 = .ok (.dconst 1, 1) := by decide +kernel
theorem dX7_clockOf_21 : decode cX7_clockOf 21 = .ok (.goto 21, 3) := by decide +kernel
theorem dX7_clockOf_24 : decode cX7_clockOf 24 = .ok (.aload_n 0, 1) := by decide +kernel
theorem dX7_clockOf_25 : decode cX7_clockOf 25 = .ok (.getfield 84, 3) := by decide +kernel
theorem dX7_clockOf_28 : decode cX7_clockOf 28 = .ok (.bipush (-100), 2) := by decide +kernel
theorem dX7_clockOf_30 : decode cX7_clockOf 30 = .ok (.if_icmp .lt 9, 3) := by decide +kernel
theorem dX7_clockOf_33 : decode cX7_clockOf 33 = .ok (.ldc2_w 147, 3) := by decide +kernel
theorem dX7_clockOf_36 : decode cX7_clockOf 36 = .ok (.goto 6, 3) := by decide +kernel
theorem dX7_clockOf_39 : decode cX7_clockOf 39 = .ok (.ldc2_w 149, 3) := by decide +kernel
theorem dX7_clockOf_42 : decode cX7_clockOf 42 = .ok (.dstore 4, 2) := by decide +kernel
theorem dX7_clockOf_44 : decode cX7_clockOf 44 = .ok (.aload_n 0, 1) := by decide +kernel
theorem dX7_clockOf_45 : decode cX7_clockOf 45 = .ok (.getfield 32, 3) := by decide +kernel
theorem dX7_clockOf_48 : decode cX7_clockOf 48 = .ok (.iconst 4, 1) := by decide +kernel
theorem dX7_clockOf_49 : decode cX7_clockOf 49 = .ok (.aload_n 0, 1) := by decide +kernel
theorem dX7_clockOf_50 : decode cX7_clockOf 50 = .ok (.getfield 65, 3) := by decide +kernel
theorem dX7_clockOf_53 : decode cX7_clockOf 53 = .ok (.iload_n 1, 1) := by decide +kernel
theorem dX7_clockOf_54 : decode cX7_clockOf 54 = .ok (.iaload, 1) := by decide +kernel
theorem dX7_clockOf_55 : decode cX7_clockOf 55 = .ok (.imul, 1) := by decide +kernel
theorem dX7_clockOf_56 : decode cX7_clockOf 56 = .ok (.aload_n 0, 1) := by decide +kernel
theorem dX7_clockOf_57 : decode cX7_clockOf 57 = .ok (.getfield 87, 3) := by decide +kernel
theorem dX7_clockOf_60 : decode cX7_clockOf 60 = .ok (.iadd, 1) := by decide +kernel
theorem dX7_clockOf_61 : decode cX7_clockOf 61 = .ok (.iaload, 1) := by decide +kernel
theorem dX7_clockOf_62 : decode cX7_clockOf 62 = .ok (.i2d, 1) := by decide +kernel
theorem dX7_clockOf_63 : decode cX7_clockOf 63 = .ok (.aload_n 0, 1) := by decide +kernel
theorem dX7_clockOf_64 : decode cX7_clockOf 64 = .ok (.getfield 68, 3) := by decide +kernel
theorem dX7_clockOf_67 : decode cX7_clockOf 67 = .ok (.iload_n 1, 1) := by decide +kernel
theorem dX7_clockOf_68 : decode cX7_clockOf 68 = .ok (.iaload, 1) := by decide +kernel
theorem dX7_clockOf_69 : decode cX7_clockOf 69 = .ok (.i2d, 1) := by decide +kernel
theorem dX7_clockOf_70 : decode cX7_clockOf 70 = .ok (.ldc2_w 151, 3) := by decide +kernel
theorem dX7_clockOf_73 : decode cX7_clockOf 73 = .ok (.ddiv, 1) := by decide +kernel
theorem dX7_clockOf_74 : decode cX7_clockOf 74 = .ok (.dmul, 1) := by decide +kernel
theorem dX7_clockOf_75 : decode cX7_clockOf 75 = .ok (.dload 4, 2) := by decide +kernel
theorem dX7_clockOf_77 : decode cX7_clockOf 77 = .ok (.dmul, 1) := by decide +kernel
theorem dX7_clockOf_78 : decode cX7_clockOf 78 = .ok (.dstore_n 2, 1) := by decide +kernel
theorem dX7_clockOf_79 : decode cX7_clockOf 79 = .ok (.dload_n 2, 1) := by decide +kernel
theorem dX7_clockOf_80 : decode cX7_clockOf 80 = .ok (.aload_n 0, 1) := by decide +kernel
theorem dX7_clockOf_81 : decode cX7_clockOf 81 = .ok (.getfield 100, 3) := by decide +kernel
theorem dX7_clockOf_84 : decode cX7_clockOf 84 = .ok (.aload_n 0, 1) := by decide +kernel
theorem dX7_clockOf_85 : decode cX7_clockOf 85 = .ok (.getfield 62, 3) := by decide +kernel
theorem dX7_clockOf_88 : decode cX7_clockOf 88 = .ok (.iload_n 1, 1) := by decide +kernel
theorem dX7_clockOf_89 : decode cX7_clockOf 89 = .ok (.iaload, 1) := by decide +kernel
theorem dX7_clockOf_90 : decode cX7_clockOf 90 = .ok (.isub, 1) := by decide +kernel
theorem dX7_clockOf_91 : decode cX7_clockOf 91 = .ok (.i2d, 1) := by decide +kernel
theorem dX7_clockOf_92 : decode cX7_clockOf 92 = .ok (.dsub, 1) := by decide +kernel
theorem dX7_clockOf_93 : decode cX7_clockOf 93 = .ok (.dreturn, 1) := by decide +kernel
theorem dX7_goesOn_0 : decode cX7_goesOn 0 = .ok (.aload_n 0, 1) := by decide +kernel
theorem dX7_goesOn_1 : decode cX7_goesOn 1 = .ok (.getfield 44, 3) := by decide +kernel
theorem dX7_goesOn_4 : decode cX7_goesOn 4 = .ok (.iload_n 1, 1) := by decide +kernel
theorem dX7_goesOn_5 : decode cX7_goesOn 5 = .ok (.iaload, 1) := by decide +kernel
theorem dX7_goesOn_6 : decode cX7_goesOn 6 = .ok (.iconst 1, 1) := by decide +kernel
theorem dX7_goesOn_7 : decode cX7_goesOn 7 = .ok (.if_icmp .ne 30, 3) := by decide +kernel
theorem dX7_goesOn_10 : decode cX7_goesOn 10 = .ok (.aload_n 0, 1) := by decide +kernel
theorem dX7_goesOn_11 : decode cX7_goesOn 11 = .ok (.getfield 100, 3) := by decide +kernel
theorem dX7_goesOn_14 : decode cX7_goesOn 14 = .ok (.aload_n 0, 1) := by decide +kernel
theorem dX7_goesOn_15 : decode cX7_goesOn 15 = .ok (.getfield 59, 3) := by decide +kernel
theorem dX7_goesOn_18 : decode cX7_goesOn 18 = .ok (.iload_n 1, 1) := by decide +kernel
theorem dX7_goesOn_19 : decode cX7_goesOn 19 = .ok (.iaload, 1) := by decide +kernel
theorem dX7_goesOn_20 : decode cX7_goesOn 20 = .ok (.if_icmp .lt 17, 3) := by decide +kernel
theorem dX7_goesOn_23 : decode cX7_goesOn 23 = .ok (.aload_n 0, 1) := by decide +kernel
theorem dX7_goesOn_24 : decode cX7_goesOn 24 = .ok (.getfield 44, 3) := by decide +kernel
theorem dX7_goesOn_27 : decode cX7_goesOn 27 = .ok (.iload_n 1, 1) := by decide +kernel
theorem dX7_goesOn_28 : decode cX7_goesOn 28 = .ok (.iconst 2, 1) := by decide +kernel
theorem dX7_goesOn_29 : decode cX7_goesOn 29 = .ok (.iastore, 1) := by decide +kernel
theorem dX7_goesOn_30 : decode cX7_goesOn 30 = .ok (.aload_n 0, 1) := by decide +kernel
theorem dX7_goesOn_31 : decode cX7_goesOn 31 = .ok (.getfield 56, 3) := by decide +kernel
theorem dX7_goesOn_34 : decode cX7_goesOn 34 = .ok (.iload_n 1, 1) := by decide +kernel
theorem dX7_goesOn_35 : decode cX7_goesOn 35 = .ok (.iconst (-1), 1) := by decide +kernel
theorem dX7_goesOn_36 : decode cX7_goesOn 36 = .ok (.iastore, 1) := by decide +kernel
theorem dX7_goesOn_37 : decode cX7_goesOn 37 = .ok (.return_, 1) := by decide +kernel
theorem dX7_nextAfter_0 : decode cX7_nextAfter 0 = .ok (.iconst (-1), 1) := by decide +kernel
theorem dX7_nextAfter_1 : decode cX7_nextAfter 1 = .ok (.istore_n 2, 1) := by decide +kernel
theorem dX7_nextAfter_2 : decode cX7_nextAfter 2 = .ok (.iconst 0, 1) := by decide +kernel
theorem dX7_nextAfter_3 : decode cX7_nextAfter 3 = .ok (.istore_n 3, 1) := by decide +kernel
theorem dX7_nextAfter_4 : decode cX7_nextAfter 4 = .ok (.iload_n 3, 1) := by decide +kernel
theorem dX7_nextAfter_5 : decode cX7_nextAfter 5 = .ok (.aload_n 0, 1) := by decide +kernel
theorem dX7_nextAfter_6 : decode cX7_nextAfter 6 = .ok (.getfield 81, 3) := by decide +kernel
theorem dX7_nextAfter_9 : decode cX7_nextAfter 9 = .ok (.if_icmp .ge 94, 3) := by decide +kernel
theorem dX7_nextAfter_12 : decode cX7_nextAfter 12 = .ok (.iload_n 1, 1) := by decide +kernel
theorem dX7_nextAfter_13 : decode cX7_nextAfter 13 = .ok (.iconst (-1), 1) := by decide +kernel
theorem dX7_nextAfter_14 : decode cX7_nextAfter 14 = .ok (.if_icmp .eq 36, 3) := by decide +kernel
theorem dX7_nextAfter_17 : decode cX7_nextAfter 17 = .ok (.aload_n 0, 1) := by decide +kernel
theorem dX7_nextAfter_18 : decode cX7_nextAfter 18 = .ok (.iload_n 3, 1) := by decide +kernel
theorem dX7_nextAfter_19 : decode cX7_nextAfter 19 = .ok (.invokevirtual 153, 3) := by decide +kernel
theorem dX7_nextAfter_22 : decode cX7_nextAfter 22 = .ok (.aload_n 0, 1) := by decide +kernel
theorem dX7_nextAfter_23 : decode cX7_nextAfter 23 = .ok (.iload_n 1, 1) := by decide +kernel
theorem dX7_nextAfter_24 : decode cX7_nextAfter 24 = .ok (.invokevirtual 153, 3) := by decide +kernel
theorem dX7_nextAfter_27 : decode cX7_nextAfter 27 = .ok (.dcmp .l, 1) := by decide +kernel
theorem dX7_nextAfter_28 : decode cX7_nextAfter 28 = .ok (.ifCond .gt 22, 3) := by decide +kernel
theorem dX7_nextAfter_31 : decode cX7_nextAfter 31 = .ok (.aload_n 0, 1) := by decide +kernel
theorem dX7_nextAfter_32 : decode cX7_nextAfter 32 = .ok (.iload_n 3, 1) := by decide +kernel
theorem dX7_nextAfter_33 : decode cX7_nextAfter 33 = .ok (.invokevirtual 153, 3) := by decide +kernel
theorem dX7_nextAfter_36 : decode cX7_nextAfter 36 = .ok (.aload_n 0, 1) := by decide +kernel
theorem dX7_nextAfter_37 : decode cX7_nextAfter 37 = .ok (.iload_n 1, 1) := by decide +kernel
theorem dX7_nextAfter_38 : decode cX7_nextAfter 38 = .ok (.invokevirtual 153, 3) := by decide +kernel
theorem dX7_nextAfter_41 : decode cX7_nextAfter 41 = .ok (.dcmp .l, 1) := by decide +kernel
theorem dX7_nextAfter_42 : decode cX7_nextAfter 42 = .ok (.ifCond .ne 12, 3) := by decide +kernel
theorem dX7_nextAfter_45 : decode cX7_nextAfter 45 = .ok (.iload_n 3, 1) := by decide +kernel
theorem dX7_nextAfter_46 : decode cX7_nextAfter 46 = .ok (.iload_n 1, 1) := by decide +kernel
theorem dX7_nextAfter_47 : decode cX7_nextAfter 47 = .ok (.if_icmp .le 7, 3) := by decide +kernel
theorem dX7_nextAfter_50 : decode cX7_nextAfter 50 = .ok (.iconst 1, 1) := by decide +kernel
theorem dX7_nextAfter_51 : decode cX7_nextAfter 51 = .ok (.goto 4, 3) := by decide +kernel
theorem dX7_nextAfter_54 : decode cX7_nextAfter 54 = .ok (.iconst 0, 1) := by decide +kernel
theorem dX7_nextAfter_55 : decode cX7_nextAfter 55 = .ok (.istore 4, 2) := by decide +kernel
theorem dX7_nextAfter_57 : decode cX7_nextAfter 57 = .ok (.aload_n 0, 1) := by decide +kernel
theorem dX7_nextAfter_58 : decode cX7_nextAfter 58 = .ok (.getfield 44, 3) := by decide +kernel
theorem dX7_nextAfter_61 : decode cX7_nextAfter 61 = .ok (.iload_n 3, 1) := by decide +kernel
theorem dX7_nextAfter_62 : decode cX7_nextAfter 62 = .ok (.iaload, 1) := by decide +kernel
theorem dX7_nextAfter_63 : decode cX7_nextAfter 63 = .ok (.iconst 2, 1) := by decide +kernel
theorem dX7_nextAfter_64 : decode cX7_nextAfter 64 = .ok (.if_icmp .ne 31, 3) := by decide +kernel
theorem dX7_nextAfter_67 : decode cX7_nextAfter 67 = .ok (.iload 4, 2) := by decide +kernel
theorem dX7_nextAfter_69 : decode cX7_nextAfter 69 = .ok (.ifCond .eq 26, 3) := by decide +kernel
theorem dX7_nextAfter_72 : decode cX7_nextAfter 72 = .ok (.iload_n 2, 1) := by decide +kernel
theorem dX7_nextAfter_73 : decode cX7_nextAfter 73 = .ok (.iconst (-1), 1) := by decide +kernel
theorem dX7_nextAfter_74 : decode cX7_nextAfter 74 = .ok (.if_icmp .eq 17, 3) := by decide +kernel
theorem dX7_nextAfter_77 : decode cX7_nextAfter 77 = .ok (.aload_n 0, 1) := by decide +kernel
theorem dX7_nextAfter_78 : decode cX7_nextAfter 78 = .ok (.iload_n 3, 1) := by decide +kernel
theorem dX7_nextAfter_79 : decode cX7_nextAfter 79 = .ok (.invokevirtual 153, 3) := by decide +kernel
theorem dX7_nextAfter_82 : decode cX7_nextAfter 82 = .ok (.aload_n 0, 1) := by decide +kernel
theorem dX7_nextAfter_83 : decode cX7_nextAfter 83 = .ok (.iload_n 2, 1) := by decide +kernel
theorem dX7_nextAfter_84 : decode cX7_nextAfter 84 = .ok (.invokevirtual 153, 3) := by decide +kernel
theorem dX7_nextAfter_87 : decode cX7_nextAfter 87 = .ok (.dcmp .g, 1) := by decide +kernel
theorem dX7_nextAfter_88 : decode cX7_nextAfter 88 = .ok (.ifCond .ge 7, 3) := by decide +kernel
theorem dX7_nextAfter_91 : decode cX7_nextAfter 91 = .ok (.iload_n 3, 1) := by decide +kernel
theorem dX7_nextAfter_92 : decode cX7_nextAfter 92 = .ok (.goto 4, 3) := by decide +kernel
theorem dX7_nextAfter_95 : decode cX7_nextAfter 95 = .ok (.iload_n 2, 1) := by decide +kernel
theorem dX7_nextAfter_96 : decode cX7_nextAfter 96 = .ok (.istore_n 2, 1) := by decide +kernel
theorem dX7_nextAfter_97 : decode cX7_nextAfter 97 = .ok (.iinc 3 1, 3) := by decide +kernel
theorem dX7_nextAfter_100 : decode cX7_nextAfter 100 = .ok (.goto (-96), 3) := by decide +kernel
theorem dX7_nextAfter_103 : decode cX7_nextAfter 103 = .ok (.iload_n 2, 1) := by decide +kernel
theorem dX7_nextAfter_104 : decode cX7_nextAfter 104 = .ok (.ireturn, 1) := by decide +kernel
theorem dX7_leaves_0 : decode cX7_leaves 0 = .ok (.iconst (-1), 1) := by decide +kernel
theorem dX7_leaves_1 : decode cX7_leaves 1 = .ok (.istore_n 1, 1) := by decide +kernel
theorem dX7_leaves_2 : decode cX7_leaves 2 = .ok (.iconst 0, 1) := by decide +kernel
theorem dX7_leaves_3 : decode cX7_leaves 3 = .ok (.istore_n 2, 1) := by decide +kernel
theorem dX7_leaves_4 : decode cX7_leaves 4 = .ok (.iload_n 2, 1) := by decide +kernel
theorem dX7_leaves_5 : decode cX7_leaves 5 = .ok (.aload_n 0, 1) := by decide +kernel
theorem dX7_leaves_6 : decode cX7_leaves 6 = .ok (.getfield 81, 3) := by decide +kernel
theorem dX7_leaves_9 : decode cX7_leaves 9 = .ok (.if_icmp .ge 57, 3) := by decide +kernel
theorem dX7_leaves_12 : decode cX7_leaves 12 = .ok (.aload_n 0, 1) := by decide +kernel
theorem dX7_leaves_13 : decode cX7_leaves 13 = .ok (.getfield 44, 3) := by decide +kernel
theorem dX7_leaves_16 : decode cX7_leaves 16 = .ok (.iload_n 2, 1) := by decide +kernel
theorem dX7_leaves_17 : decode cX7_leaves 17 = .ok (.iaload, 1) := by decide +kernel
theorem dX7_leaves_18 : decode cX7_leaves 18 = .ok (.iconst 2, 1) := by decide +kernel
theorem dX7_leaves_19 : decode cX7_leaves 19 = .ok (.if_icmp .ne 39, 3) := by decide +kernel
theorem dX7_leaves_22 : decode cX7_leaves 22 = .ok (.aload_n 0, 1) := by decide +kernel
theorem dX7_leaves_23 : decode cX7_leaves 23 = .ok (.getfield 38, 3) := by decide +kernel
theorem dX7_leaves_26 : decode cX7_leaves 26 = .ok (.iload_n 2, 1) := by decide +kernel
theorem dX7_leaves_27 : decode cX7_leaves 27 = .ok (.iaload, 1) := by decide +kernel
theorem dX7_leaves_28 : decode cX7_leaves 28 = .ok (.aload_n 0, 1) := by decide +kernel
theorem dX7_leaves_29 : decode cX7_leaves 29 = .ok (.getfield 100, 3) := by decide +kernel
theorem dX7_leaves_32 : decode cX7_leaves 32 = .ok (.if_icmp .gt 26, 3) := by decide +kernel
theorem dX7_leaves_35 : decode cX7_leaves 35 = .ok (.iload_n 1, 1) := by decide +kernel
theorem dX7_leaves_36 : decode cX7_leaves 36 = .ok (.iconst (-1), 1) := by decide +kernel
theorem dX7_leaves_37 : decode cX7_leaves 37 = .ok (.if_icmp .eq 17, 3) := by decide +kernel
theorem dX7_leaves_40 : decode cX7_leaves 40 = .ok (.aload_n 0, 1) := by decide +kernel
theorem dX7_leaves_41 : decode cX7_leaves 41 = .ok (.iload_n 2, 1) := by decide +kernel
theorem dX7_leaves_42 : decode cX7_leaves 42 = .ok (.invokevirtual 153, 3) := by decide +kernel
theorem dX7_leaves_45 : decode cX7_leaves 45 = .ok (.aload_n 0, 1) := by decide +kernel
theorem dX7_leaves_46 : decode cX7_leaves 46 = .ok (.iload_n 1, 1) := by decide +kernel
theorem dX7_leaves_47 : decode cX7_leaves 47 = .ok (.invokevirtual 153, 3) := by decide +kernel
theorem dX7_leaves_50 : decode cX7_leaves 50 = .ok (.dcmp .g, 1) := by decide +kernel
theorem dX7_leaves_51 : decode cX7_leaves 51 = .ok (.ifCond .ge 7, 3) := by decide +kernel
theorem dX7_leaves_54 : decode cX7_leaves 54 = .ok (.iload_n 2, 1) := by decide +kernel
theorem dX7_leaves_55 : decode cX7_leaves 55 = .ok (.goto 4, 3) := by decide +kernel
theorem dX7_leaves_58 : decode cX7_leaves 58 = .ok (.iload_n 1, 1) := by decide +kernel
theorem dX7_leaves_59 : decode cX7_leaves 59 = .ok (.istore_n 1, 1) := by decide +kernel
theorem dX7_leaves_60 : decode cX7_leaves 60 = .ok (.iinc 2 1, 3) := by decide +kernel
theorem dX7_leaves_63 : decode cX7_leaves 63 = .ok (.goto (-59), 3) := by decide +kernel
theorem dX7_leaves_66 : decode cX7_leaves 66 = .ok (.iload_n 1, 1) := by decide +kernel
theorem dX7_leaves_67 : decode cX7_leaves 67 = .ok (.iconst (-1), 1) := by decide +kernel
theorem dX7_leaves_68 : decode cX7_leaves 68 = .ok (.if_icmp .eq 20, 3) := by decide +kernel
theorem dX7_leaves_71 : decode cX7_leaves 71 = .ok (.aload_n 0, 1) := by decide +kernel
theorem dX7_leaves_72 : decode cX7_leaves 72 = .ok (.getfield 44, 3) := by decide +kernel
theorem dX7_leaves_75 : decode cX7_leaves 75 = .ok (.iload_n 1, 1) := by decide +kernel
theorem dX7_leaves_76 : decode cX7_leaves 76 = .ok (.iconst 3, 1) := by decide +kernel
theorem dX7_leaves_77 : decode cX7_leaves 77 = .ok (.iastore, 1) := by decide +kernel
theorem dX7_leaves_78 : decode cX7_leaves 78 = .ok (.aload_n 0, 1) := by decide +kernel
theorem dX7_leaves_79 : decode cX7_leaves 79 = .ok (.getfield 47, 3) := by decide +kernel
theorem dX7_leaves_82 : decode cX7_leaves 82 = .ok (.iload_n 1, 1) := by decide +kernel
theorem dX7_leaves_83 : decode cX7_leaves 83 = .ok (.aload_n 0, 1) := by decide +kernel
theorem dX7_leaves_84 : decode cX7_leaves 84 = .ok (.getfield 100, 3) := by decide +kernel
theorem dX7_leaves_87 : decode cX7_leaves 87 = .ok (.iastore, 1) := by decide +kernel
theorem dX7_leaves_88 : decode cX7_leaves 88 = .ok (.return_, 1) := by decide +kernel
theorem dX7_minute_0 : decode cX7_minute 0 = .ok (.aload_n 0, 1) := by decide +kernel
theorem dX7_minute_1 : decode cX7_minute 1 = .ok (.dup, 1) := by decide +kernel
theorem dX7_minute_2 : decode cX7_minute 2 = .ok (.getfield 100, 3) := by decide +kernel
theorem dX7_minute_5 : decode cX7_minute 5 = .ok (.iconst 1, 1) := by decide +kernel
theorem dX7_minute_6 : decode cX7_minute 6 = .ok (.iadd, 1) := by decide +kernel
theorem dX7_minute_7 : decode cX7_minute 7 = .ok (.putfield 100, 3) := by decide +kernel
theorem dX7_minute_10 : decode cX7_minute 10 = .ok (.aload_n 0, 1) := by decide +kernel
theorem dX7_minute_11 : decode cX7_minute 11 = .ok (.aload_n 0, 1) := by decide +kernel
theorem dX7_minute_12 : decode cX7_minute 12 = .ok (.getfield 100, 3) := by decide +kernel
theorem dX7_minute_15 : decode cX7_minute 15 = .ok (.sipush 1440, 3) := by decide +kernel
theorem dX7_minute_18 : decode cX7_minute 18 = .ok (.irem, 1) := by decide +kernel
theorem dX7_minute_19 : decode cX7_minute 19 = .ok (.ifCond .ne 7, 3) := by decide +kernel
theorem dX7_minute_22 : decode cX7_minute 22 = .ok (.iconst 0, 1) := by decide +kernel
theorem dX7_minute_23 : decode cX7_minute 23 = .ok (.goto 7, 3) := by decide +kernel
theorem dX7_minute_26 : decode cX7_minute 26 = .ok (.aload_n 0, 1) := by decide +kernel
theorem dX7_minute_27 : decode cX7_minute 27 = .ok (.getfield 133, 3) := by decide +kernel
theorem dX7_minute_30 : decode cX7_minute 30 = .ok (.putfield 133, 3) := by decide +kernel
theorem dX7_minute_33 : decode cX7_minute 33 = .ok (.iconst 0, 1) := by decide +kernel
theorem dX7_minute_34 : decode cX7_minute 34 = .ok (.istore_n 1, 1) := by decide +kernel
theorem dX7_minute_35 : decode cX7_minute 35 = .ok (.iload_n 1, 1) := by decide +kernel
theorem dX7_minute_36 : decode cX7_minute 36 = .ok (.iconst 3, 1) := by decide +kernel
theorem dX7_minute_37 : decode cX7_minute 37 = .ok (.if_icmp .ge 14, 3) := by decide +kernel
theorem dX7_minute_40 : decode cX7_minute 40 = .ok (.aload_n 0, 1) := by decide +kernel
theorem dX7_minute_41 : decode cX7_minute 41 = .ok (.iload_n 1, 1) := by decide +kernel
theorem dX7_minute_42 : decode cX7_minute 42 = .ok (.invokevirtual 157, 3) := by decide +kernel
theorem dX7_minute_45 : decode cX7_minute 45 = .ok (.iinc 1 1, 3) := by decide +kernel
theorem dX7_minute_48 : decode cX7_minute 48 = .ok (.goto (-13), 3) := by decide +kernel
theorem dX7_minute_51 : decode cX7_minute 51 = .ok (.aload_n 0, 1) := by decide +kernel
theorem dX7_minute_52 : decode cX7_minute 52 = .ok (.invokevirtual 160, 3) := by decide +kernel
theorem dX7_minute_55 : decode cX7_minute 55 = .ok (.ifCond .eq 7, 3) := by decide +kernel
theorem dX7_minute_58 : decode cX7_minute 58 = .ok (.aload_n 0, 1) := by decide +kernel
theorem dX7_minute_59 : decode cX7_minute 59 = .ok (.invokevirtual 164, 3) := by decide +kernel
theorem dX7_minute_62 : decode cX7_minute 62 = .ok (.iconst 0, 1) := by decide +kernel
theorem dX7_minute_63 : decode cX7_minute 63 = .ok (.istore_n 1, 1) := by decide +kernel
theorem dX7_minute_64 : decode cX7_minute 64 = .ok (.iload_n 1, 1) := by decide +kernel
theorem dX7_minute_65 : decode cX7_minute 65 = .ok (.aload_n 0, 1) := by decide +kernel
theorem dX7_minute_66 : decode cX7_minute 66 = .ok (.getfield 81, 3) := by decide +kernel
theorem dX7_minute_69 : decode cX7_minute 69 = .ok (.if_icmp .ge 14, 3) := by decide +kernel
theorem dX7_minute_72 : decode cX7_minute 72 = .ok (.aload_n 0, 1) := by decide +kernel
theorem dX7_minute_73 : decode cX7_minute 73 = .ok (.iload_n 1, 1) := by decide +kernel
theorem dX7_minute_74 : decode cX7_minute 74 = .ok (.invokevirtual 166, 3) := by decide +kernel
theorem dX7_minute_77 : decode cX7_minute 77 = .ok (.iinc 1 1, 3) := by decide +kernel
theorem dX7_minute_80 : decode cX7_minute 80 = .ok (.goto (-16), 3) := by decide +kernel
theorem dX7_minute_83 : decode cX7_minute 83 = .ok (.aload_n 0, 1) := by decide +kernel
theorem dX7_minute_84 : decode cX7_minute 84 = .ok (.getfield 126, 3) := by decide +kernel
theorem dX7_minute_87 : decode cX7_minute 87 = .ok (.iconst 3, 1) := by decide +kernel
theorem dX7_minute_88 : decode cX7_minute 88 = .ok (.if_icmp .ge 10, 3) := by decide +kernel
theorem dX7_minute_91 : decode cX7_minute 91 = .ok (.aload_n 0, 1) := by decide +kernel
theorem dX7_minute_92 : decode cX7_minute 92 = .ok (.getfield 126, 3) := by decide +kernel
theorem dX7_minute_95 : decode cX7_minute 95 = .ok (.goto 4, 3) := by decide +kernel
theorem dX7_minute_98 : decode cX7_minute 98 = .ok (.iconst 3, 1) := by decide +kernel
theorem dX7_minute_99 : decode cX7_minute 99 = .ok (.istore_n 1, 1) := by decide +kernel
theorem dX7_minute_100 : decode cX7_minute 100 = .ok (.aload_n 0, 1) := by decide +kernel
theorem dX7_minute_101 : decode cX7_minute 101 = .ok (.dup, 1) := by decide +kernel
theorem dX7_minute_102 : decode cX7_minute 102 = .ok (.getfield 126, 3) := by decide +kernel
theorem dX7_minute_105 : decode cX7_minute 105 = .ok (.iload_n 1, 1) := by decide +kernel
theorem dX7_minute_106 : decode cX7_minute 106 = .ok (.isub, 1) := by decide +kernel
theorem dX7_minute_107 : decode cX7_minute 107 = .ok (.putfield 126, 3) := by decide +kernel
theorem dX7_minute_110 : decode cX7_minute 110 = .ok (.aload_n 0, 1) := by decide +kernel
theorem dX7_minute_111 : decode cX7_minute 111 = .ok (.dup, 1) := by decide +kernel
theorem dX7_minute_112 : decode cX7_minute 112 = .ok (.getfield 169, 3) := by decide +kernel
theorem dX7_minute_115 : decode cX7_minute 115 = .ok (.iload_n 1, 1) := by decide +kernel
theorem dX7_minute_116 : decode cX7_minute 116 = .ok (.iadd, 1) := by decide +kernel
theorem dX7_minute_117 : decode cX7_minute 117 = .ok (.putfield 169, 3) := by decide +kernel
theorem dX7_minute_120 : decode cX7_minute 120 = .ok (.iconst 0, 1) := by decide +kernel
theorem dX7_minute_121 : decode cX7_minute 121 = .ok (.istore_n 2, 1) := by decide +kernel
theorem dX7_minute_122 : decode cX7_minute 122 = .ok (.iload_n 2, 1) := by decide +kernel
theorem dX7_minute_123 : decode cX7_minute 123 = .ok (.aload_n 0, 1) := by decide +kernel
theorem dX7_minute_124 : decode cX7_minute 124 = .ok (.getfield 81, 3) := by decide +kernel
theorem dX7_minute_127 : decode cX7_minute 127 = .ok (.if_icmp .ge 47, 3) := by decide +kernel
theorem dX7_minute_130 : decode cX7_minute 130 = .ok (.aload_n 0, 1) := by decide +kernel
theorem dX7_minute_131 : decode cX7_minute 131 = .ok (.getfield 44, 3) := by decide +kernel
theorem dX7_minute_134 : decode cX7_minute 134 = .ok (.iload_n 2, 1) := by decide +kernel
theorem dX7_minute_135 : decode cX7_minute 135 = .ok (.iaload, 1) := by decide +kernel
theorem dX7_minute_136 : decode cX7_minute 136 = .ok (.iconst 3, 1) := by decide +kernel
theorem dX7_minute_137 : decode cX7_minute 137 = .ok (.if_icmp .eq 31, 3) := by decide +kernel
theorem dX7_minute_140 : decode cX7_minute 140 = .ok (.aload_n 0, 1) := by decide +kernel
theorem dX7_minute_141 : decode cX7_minute 141 = .ok (.getfield 44, 3) := by decide +kernel
theorem dX7_minute_144 : decode cX7_minute 144 = .ok (.iload_n 2, 1) := by decide +kernel
theorem dX7_minute_145 : decode cX7_minute 145 = .ok (.iaload, 1) := by decide +kernel
theorem dX7_minute_146 : decode cX7_minute 146 = .ok (.iconst 4, 1) := by decide +kernel
theorem dX7_minute_147 : decode cX7_minute 147 = .ok (.if_icmp .eq 21, 3) := by decide +kernel
theorem dX7_minute_150 : decode cX7_minute 150 = .ok (.aload_n 0, 1) := by decide +kernel
theorem dX7_minute_151 : decode cX7_minute 151 = .ok (.getfield 41, 3) := by decide +kernel
theorem dX7_minute_154 : decode cX7_minute 154 = .ok (.iload_n 2, 1) := by decide +kernel
theorem dX7_minute_155 : decode cX7_minute 155 = .ok (.iaload, 1) := by decide +kernel
theorem dX7_minute_156 : decode cX7_minute 156 = .ok (.aload_n 0, 1) := by decide +kernel
theorem dX7_minute_157 : decode cX7_minute 157 = .ok (.getfield 100, 3) := by decide +kernel
theorem dX7_minute_160 : decode cX7_minute 160 = .ok (.if_icmp .ge 8, 3) := by decide +kernel
theorem dX7_minute_163 : decode cX7_minute 163 = .ok (.aload_n 0, 1) := by decide +kernel
theorem dX7_minute_164 : decode cX7_minute 164 = .ok (.iload_n 2, 1) := by decide +kernel
theorem dX7_minute_165 : decode cX7_minute 165 = .ok (.invokevirtual 129, 3) := by decide +kernel
theorem dX7_minute_168 : decode cX7_minute 168 = .ok (.iinc 2 1, 3) := by decide +kernel
theorem dX7_minute_171 : decode cX7_minute 171 = .ok (.goto (-49), 3) := by decide +kernel
theorem dX7_minute_174 : decode cX7_minute 174 = .ok (.iconst 0, 1) := by decide +kernel
theorem dX7_minute_175 : decode cX7_minute 175 = .ok (.istore_n 2, 1) := by decide +kernel
theorem dX7_minute_176 : decode cX7_minute 176 = .ok (.iload_n 2, 1) := by decide +kernel
theorem dX7_minute_177 : decode cX7_minute 177 = .ok (.aload_n 0, 1) := by decide +kernel
theorem dX7_minute_178 : decode cX7_minute 178 = .ok (.getfield 81, 3) := by decide +kernel
theorem dX7_minute_181 : decode cX7_minute 181 = .ok (.if_icmp .ge 45, 3) := by decide +kernel
theorem dX7_minute_184 : decode cX7_minute 184 = .ok (.aload_n 0, 1) := by decide +kernel
theorem dX7_minute_185 : decode cX7_minute 185 = .ok (.getfield 44, 3) := by decide +kernel
theorem dX7_minute_188 : decode cX7_minute 188 = .ok (.iload_n 2, 1) := by decide +kernel
theorem dX7_minute_189 : decode cX7_minute 189 = .ok (.aload_n 0, 1) := by decide +kernel
theorem dX7_minute_190 : decode cX7_minute 190 = .ok (.getfield 44, 3) := by decide +kernel
theorem dX7_minute_193 : decode cX7_minute 193 = .ok (.iload_n 2, 1) := by decide +kernel
theorem dX7_minute_194 : decode cX7_minute 194 = .ok (.iaload, 1) := by decide +kernel
theorem dX7_minute_195 : decode cX7_minute 195 = .ok (.iconst 2, 1) := by decide +kernel
theorem dX7_minute_196 : decode cX7_minute 196 = .ok (.if_icmp .ne 17, 3) := by decide +kernel
theorem dX7_minute_199 : decode cX7_minute 199 = .ok (.aload_n 0, 1) := by decide +kernel
theorem dX7_minute_200 : decode cX7_minute 200 = .ok (.iload_n 2, 1) := by decide +kernel
theorem dX7_minute_201 : decode cX7_minute 201 = .ok (.invokevirtual 153, 3) := by decide +kernel
theorem dX7_minute_204 : decode cX7_minute 204 = .ok (.dconst 0, 1) := by decide +kernel
theorem dX7_minute_205 : decode cX7_minute 205 = .ok (.dcmp .g, 1) := by decide +kernel
theorem dX7_minute_206 : decode cX7_minute 206 = .ok (.ifCond .ge 7, 3) := by decide +kernel
theorem dX7_minute_209 : decode cX7_minute 209 = .ok (.iconst 0, 1) := by decide +kernel
theorem dX7_minute_210 : decode cX7_minute 210 = .ok (.goto 9, 3) := by decide +kernel
theorem dX7_minute_213 : decode cX7_minute 213 = .ok (.aload_n 0, 1) := by decide +kernel
theorem dX7_minute_214 : decode cX7_minute 214 = .ok (.getfield 44, 3) := by decide +kernel
theorem dX7_minute_217 : decode cX7_minute 217 = .ok (.iload_n 2, 1) := by decide +kernel
theorem dX7_minute_218 : decode cX7_minute 218 = .ok (.iaload, 1) := by decide +kernel
theorem dX7_minute_219 : decode cX7_minute 219 = .ok (.iastore, 1) := by decide +kernel
theorem dX7_minute_220 : decode cX7_minute 220 = .ok (.iinc 2 1, 3) := by decide +kernel
theorem dX7_minute_223 : decode cX7_minute 223 = .ok (.goto (-47), 3) := by decide +kernel
theorem dX7_minute_226 : decode cX7_minute 226 = .ok (.aload_n 0, 1) := by decide +kernel
theorem dX7_minute_227 : decode cX7_minute 227 = .ok (.invokevirtual 160, 3) := by decide +kernel
theorem dX7_minute_230 : decode cX7_minute 230 = .ok (.ifCond .ne 14, 3) := by decide +kernel
theorem dX7_minute_233 : decode cX7_minute 233 = .ok (.aload_n 0, 1) := by decide +kernel
theorem dX7_minute_234 : decode cX7_minute 234 = .ok (.invokevirtual 172, 3) := by decide +kernel
theorem dX7_minute_237 : decode cX7_minute 237 = .ok (.ifCond .eq 7, 3) := by decide +kernel
theorem dX7_minute_240 : decode cX7_minute 240 = .ok (.aload_n 0, 1) := by decide +kernel
theorem dX7_minute_241 : decode cX7_minute 241 = .ok (.invokevirtual 175, 3) := by decide +kernel
theorem dX7_minute_244 : decode cX7_minute 244 = .ok (.return_, 1) := by decide +kernel
theorem dX7_pass_0 : decode cX7_pass 0 = .ok (.aload_n 0, 1) := by decide +kernel
theorem dX7_pass_1 : decode cX7_pass 1 = .ok (.iload_n 1, 1) := by decide +kernel
theorem dX7_pass_2 : decode cX7_pass 2 = .ok (.iconst 1, 1) := by decide +kernel
theorem dX7_pass_3 : decode cX7_pass 3 = .ok (.sipush 500, 3) := by decide +kernel
theorem dX7_pass_6 : decode cX7_pass 6 = .ok (.invokestatic 77, 3) := by decide +kernel
theorem dX7_pass_9 : decode cX7_pass 9 = .ok (.ifCond .eq 7, 3) := by decide +kernel
theorem dX7_pass_12 : decode cX7_pass 12 = .ok (.iconst 0, 1) := by decide +kernel
theorem dX7_pass_13 : decode cX7_pass 13 = .ok (.goto 4, 3) := by decide +kernel
theorem dX7_pass_16 : decode cX7_pass 16 = .ok (.iconst 1, 1) := by decide +kernel
theorem dX7_pass_17 : decode cX7_pass 17 = .ok (.putfield 74, 3) := by decide +kernel
theorem dX7_pass_20 : decode cX7_pass 20 = .ok (.iconst 0, 1) := by decide +kernel
theorem dX7_pass_21 : decode cX7_pass 21 = .ok (.istore_n 2, 1) := by decide +kernel
theorem dX7_pass_22 : decode cX7_pass 22 = .ok (.iload_n 2, 1) := by decide +kernel
theorem dX7_pass_23 : decode cX7_pass 23 = .ok (.iload_n 1, 1) := by decide +kernel
theorem dX7_pass_24 : decode cX7_pass 24 = .ok (.if_icmp .ge 20, 3) := by decide +kernel
theorem dX7_pass_27 : decode cX7_pass 27 = .ok (.aload_n 0, 1) := by decide +kernel
theorem dX7_pass_28 : decode cX7_pass 28 = .ok (.getfield 74, 3) := by decide +kernel
theorem dX7_pass_31 : decode cX7_pass 31 = .ok (.ifCond .ne 13, 3) := by decide +kernel
theorem dX7_pass_34 : decode cX7_pass 34 = .ok (.aload_n 0, 1) := by decide +kernel
theorem dX7_pass_35 : decode cX7_pass 35 = .ok (.invokevirtual 178, 3) := by decide +kernel
theorem dX7_pass_38 : decode cX7_pass 38 = .ok (.iinc 2 1, 3) := by decide +kernel
theorem dX7_pass_41 : decode cX7_pass 41 = .ok (.goto (-19), 3) := by decide +kernel
theorem dX7_pass_44 : decode cX7_pass 44 = .ok (.aload_n 0, 1) := by decide +kernel
theorem dX7_pass_45 : decode cX7_pass 45 = .ok (.getfield 74, 3) := by decide +kernel
theorem dX7_pass_48 : decode cX7_pass 48 = .ok (.ifCond .le 7, 3) := by decide +kernel
theorem dX7_pass_51 : decode cX7_pass 51 = .ok (.iconst 0, 1) := by decide +kernel
theorem dX7_pass_52 : decode cX7_pass 52 = .ok (.goto 7, 3) := by decide +kernel
theorem dX7_pass_55 : decode cX7_pass 55 = .ok (.aload_n 0, 1) := by decide +kernel
theorem dX7_pass_56 : decode cX7_pass 56 = .ok (.getfield 100, 3) := by decide +kernel
theorem dX7_pass_59 : decode cX7_pass 59 = .ok (.ireturn, 1) := by decide +kernel
theorem dX7_code_0 : decode cX7_code 0 = .ok (.aload_n 0, 1) := by decide +kernel
theorem dX7_code_1 : decode cX7_code 1 = .ok (.iload_n 1, 1) := by decide +kernel
theorem dX7_code_2 : decode cX7_code 2 = .ok (.invokestatic 96, 3) := by decide +kernel
theorem dX7_code_5 : decode cX7_code 5 = .ok (.ifCond .eq 7, 3) := by decide +kernel
theorem dX7_code_8 : decode cX7_code 8 = .ok (.iconst 0, 1) := by decide +kernel
theorem dX7_code_9 : decode cX7_code 9 = .ok (.goto 4, 3) := by decide +kernel
theorem dX7_code_12 : decode cX7_code 12 = .ok (.iconst 1, 1) := by decide +kernel
theorem dX7_code_13 : decode cX7_code 13 = .ok (.putfield 74, 3) := by decide +kernel
theorem dX7_code_16 : decode cX7_code 16 = .ok (.aload_n 0, 1) := by decide +kernel
theorem dX7_code_17 : decode cX7_code 17 = .ok (.getfield 74, 3) := by decide +kernel
theorem dX7_code_20 : decode cX7_code 20 = .ok (.ifCond .le 7, 3) := by decide +kernel
theorem dX7_code_23 : decode cX7_code 23 = .ok (.iconst 0, 1) := by decide +kernel
theorem dX7_code_24 : decode cX7_code 24 = .ok (.goto 8, 3) := by decide +kernel
theorem dX7_code_27 : decode cX7_code 27 = .ok (.aload_n 0, 1) := by decide +kernel
theorem dX7_code_28 : decode cX7_code 28 = .ok (.iload_n 1, 1) := by decide +kernel
theorem dX7_code_29 : decode cX7_code 29 = .ok (.invokevirtual 110, 3) := by decide +kernel
theorem dX7_code_32 : decode cX7_code 32 = .ok (.ireturn, 1) := by decide +kernel
theorem dX7_thirdOf_0 : decode cX7_thirdOf 0 = .ok (.aload_n 0, 1) := by decide +kernel
theorem dX7_thirdOf_1 : decode cX7_thirdOf 1 = .ok (.iload_n 1, 1) := by decide +kernel
theorem dX7_thirdOf_2 : decode cX7_thirdOf 2 = .ok (.invokestatic 96, 3) := by decide +kernel
theorem dX7_thirdOf_5 : decode cX7_thirdOf 5 = .ok (.ifCond .ne 7, 3) := by decide +kernel
theorem dX7_thirdOf_8 : decode cX7_thirdOf 8 = .ok (.iconst 1, 1) := by decide +kernel
theorem dX7_thirdOf_9 : decode cX7_thirdOf 9 = .ok (.goto 17, 3) := by decide +kernel
theorem dX7_thirdOf_12 : decode cX7_thirdOf 12 = .ok (.iload_n 2, 1) := by decide +kernel
theorem dX7_thirdOf_13 : decode cX7_thirdOf 13 = .ok (.iconst 0, 1) := by decide +kernel
theorem dX7_thirdOf_14 : decode cX7_thirdOf 14 = .ok (.iconst 3, 1) := by decide +kernel
theorem dX7_thirdOf_15 : decode cX7_thirdOf 15 = .ok (.invokestatic 77, 3) := by decide +kernel
theorem dX7_thirdOf_18 : decode cX7_thirdOf 18 = .ok (.ifCond .eq 7, 3) := by decide +kernel
theorem dX7_thirdOf_21 : decode cX7_thirdOf 21 = .ok (.iconst 0, 1) := by decide +kernel
theorem dX7_thirdOf_22 : decode cX7_thirdOf 22 = .ok (.goto 4, 3) := by decide +kernel
theorem dX7_thirdOf_25 : decode cX7_thirdOf 25 = .ok (.iconst 2, 1) := by decide +kernel
theorem dX7_thirdOf_26 : decode cX7_thirdOf 26 = .ok (.putfield 74, 3) := by decide +kernel
theorem dX7_thirdOf_29 : decode cX7_thirdOf 29 = .ok (.aload_n 0, 1) := by decide +kernel
theorem dX7_thirdOf_30 : decode cX7_thirdOf 30 = .ok (.getfield 74, 3) := by decide +kernel
theorem dX7_thirdOf_33 : decode cX7_thirdOf 33 = .ok (.ifCond .le 5, 3) := by decide +kernel
theorem dX7_thirdOf_36 : decode cX7_thirdOf 36 = .ok (.iconst 0, 1) := by decide +kernel
theorem dX7_thirdOf_37 : decode cX7_thirdOf 37 = .ok (.ireturn, 1) := by decide +kernel
theorem dX7_thirdOf_38 : decode cX7_thirdOf 38 = .ok (.iload_n 2, 1) := by decide +kernel
theorem dX7_thirdOf_39 : decode cX7_thirdOf 39 = .ok (.ifCond .ne 12, 3) := by decide +kernel
theorem dX7_thirdOf_42 : decode cX7_thirdOf 42 = .ok (.aload_n 0, 1) := by decide +kernel
theorem dX7_thirdOf_43 : decode cX7_thirdOf 43 = .ok (.getfield 7, 3) := by decide +kernel
theorem dX7_thirdOf_46 : decode cX7_thirdOf 46 = .ok (.iload_n 1, 1) := by decide +kernel
theorem dX7_thirdOf_47 : decode cX7_thirdOf 47 = .ok (.iaload, 1) := by decide +kernel
theorem dX7_thirdOf_48 : decode cX7_thirdOf 48 = .ok (.goto 43, 3) := by decide +kernel
theorem dX7_thirdOf_51 : decode cX7_thirdOf 51 = .ok (.iload_n 2, 1) := by decide +kernel
theorem dX7_thirdOf_52 : decode cX7_thirdOf 52 = .ok (.iconst 1, 1) := by decide +kernel
theorem dX7_thirdOf_53 : decode cX7_thirdOf 53 = .ok (.if_icmp .ne 12, 3) := by decide +kernel
theorem dX7_thirdOf_56 : decode cX7_thirdOf 56 = .ok (.aload_n 0, 1) := by decide +kernel
theorem dX7_thirdOf_57 : decode cX7_thirdOf 57 = .ok (.getfield 13, 3) := by decide +kernel
theorem dX7_thirdOf_60 : decode cX7_thirdOf 60 = .ok (.iload_n 1, 1) := by decide +kernel
theorem dX7_thirdOf_61 : decode cX7_thirdOf 61 = .ok (.iaload, 1) := by decide +kernel
theorem dX7_thirdOf_62 : decode cX7_thirdOf 62 = .ok (.goto 29, 3) := by decide +kernel
theorem dX7_thirdOf_65 : decode cX7_thirdOf 65 = .ok (.iload_n 2, 1) := by decide +kernel
theorem dX7_thirdOf_66 : decode cX7_thirdOf 66 = .ok (.iconst 2, 1) := by decide +kernel
theorem dX7_thirdOf_67 : decode cX7_thirdOf 67 = .ok (.if_icmp .ne 19, 3) := by decide +kernel
theorem dX7_thirdOf_70 : decode cX7_thirdOf 70 = .ok (.aload_n 0, 1) := by decide +kernel
theorem dX7_thirdOf_71 : decode cX7_thirdOf 71 = .ok (.iload_n 1, 1) := by decide +kernel
theorem dX7_thirdOf_72 : decode cX7_thirdOf 72 = .ok (.invokevirtual 139, 3) := by decide +kernel
theorem dX7_thirdOf_75 : decode cX7_thirdOf 75 = .ok (.ifCond .eq 7, 3) := by decide +kernel
theorem dX7_thirdOf_78 : decode cX7_thirdOf 78 = .ok (.iconst 1, 1) := by decide +kernel
theorem dX7_thirdOf_79 : decode cX7_thirdOf 79 = .ok (.goto 12, 3) := by decide +kernel
theorem dX7_thirdOf_82 : decode cX7_thirdOf 82 = .ok (.iconst 0, 1) := by decide +kernel
theorem dX7_thirdOf_83 : decode cX7_thirdOf 83 = .ok (.goto 8, 3) := by decide +kernel
theorem dX7_thirdOf_86 : decode cX7_thirdOf 86 = .ok (.aload_n 0, 1) := by decide +kernel
theorem dX7_thirdOf_87 : decode cX7_thirdOf 87 = .ok (.iload_n 1, 1) := by decide +kernel
theorem dX7_thirdOf_88 : decode cX7_thirdOf 88 = .ok (.invokevirtual 106, 3) := by decide +kernel
theorem dX7_thirdOf_91 : decode cX7_thirdOf 91 = .ok (.ireturn, 1) := by decide +kernel
theorem dX7_isGood_0 : decode cX7_isGood 0 = .ok (.aload_n 0, 1) := by decide +kernel
theorem dX7_isGood_1 : decode cX7_isGood 1 = .ok (.iconst 0, 1) := by decide +kernel
theorem dX7_isGood_2 : decode cX7_isGood 2 = .ok (.putfield 74, 3) := by decide +kernel
theorem dX7_isGood_5 : decode cX7_isGood 5 = .ok (.aload_n 0, 1) := by decide +kernel
theorem dX7_isGood_6 : decode cX7_isGood 6 = .ok (.invokevirtual 160, 3) := by decide +kernel
theorem dX7_isGood_9 : decode cX7_isGood 9 = .ok (.ifCond .ne 14, 3) := by decide +kernel
theorem dX7_isGood_12 : decode cX7_isGood 12 = .ok (.aload_n 0, 1) := by decide +kernel
theorem dX7_isGood_13 : decode cX7_isGood 13 = .ok (.invokevirtual 172, 3) := by decide +kernel
theorem dX7_isGood_16 : decode cX7_isGood 16 = .ok (.ifCond .eq 7, 3) := by decide +kernel
theorem dX7_isGood_19 : decode cX7_isGood 19 = .ok (.iconst 1, 1) := by decide +kernel
theorem dX7_isGood_20 : decode cX7_isGood 20 = .ok (.goto 4, 3) := by decide +kernel
theorem dX7_isGood_23 : decode cX7_isGood 23 = .ok (.iconst 0, 1) := by decide +kernel
theorem dX7_isGood_24 : decode cX7_isGood 24 = .ok (.ireturn, 1) := by decide +kernel
theorem dX7_aircraftOf_0 : decode cX7_aircraftOf 0 = .ok (.aload_n 0, 1) := by decide +kernel
theorem dX7_aircraftOf_1 : decode cX7_aircraftOf 1 = .ok (.aload_n 0, 1) := by decide +kernel
theorem dX7_aircraftOf_2 : decode cX7_aircraftOf 2 = .ok (.iload_n 1, 1) := by decide +kernel
theorem dX7_aircraftOf_3 : decode cX7_aircraftOf 3 = .ok (.invokevirtual 120, 3) := by decide +kernel
theorem dX7_aircraftOf_6 : decode cX7_aircraftOf 6 = .ok (.ifCond .ne 7, 3) := by decide +kernel
theorem dX7_aircraftOf_9 : decode cX7_aircraftOf 9 = .ok (.iconst 1, 1) := by decide +kernel
theorem dX7_aircraftOf_10 : decode cX7_aircraftOf 10 = .ok (.goto 17, 3) := by decide +kernel
theorem dX7_aircraftOf_13 : decode cX7_aircraftOf 13 = .ok (.iload_n 2, 1) := by decide +kernel
theorem dX7_aircraftOf_14 : decode cX7_aircraftOf 14 = .ok (.iconst 0, 1) := by decide +kernel
theorem dX7_aircraftOf_15 : decode cX7_aircraftOf 15 = .ok (.iconst 4, 1) := by decide +kernel
theorem dX7_aircraftOf_16 : decode cX7_aircraftOf 16 = .ok (.invokestatic 77, 3) := by decide +kernel
theorem dX7_aircraftOf_19 : decode cX7_aircraftOf 19 = .ok (.ifCond .eq 7, 3) := by decide +kernel
theorem dX7_aircraftOf_22 : decode cX7_aircraftOf 22 = .ok (.iconst 0, 1) := by decide +kernel
theorem dX7_aircraftOf_23 : decode cX7_aircraftOf 23 = .ok (.goto 4, 3) := by decide +kernel
theorem dX7_aircraftOf_26 : decode cX7_aircraftOf 26 = .ok (.iconst 2, 1) := by decide +kernel
theorem dX7_aircraftOf_27 : decode cX7_aircraftOf 27 = .ok (.putfield 74, 3) := by decide +kernel
theorem dX7_aircraftOf_30 : decode cX7_aircraftOf 30 = .ok (.aload_n 0, 1) := by decide +kernel
theorem dX7_aircraftOf_31 : decode cX7_aircraftOf 31 = .ok (.getfield 74, 3) := by decide +kernel
theorem dX7_aircraftOf_34 : decode cX7_aircraftOf 34 = .ok (.ifCond .le 5, 3) := by decide +kernel
theorem dX7_aircraftOf_37 : decode cX7_aircraftOf 37 = .ok (.iconst 0, 1) := by decide +kernel
theorem dX7_aircraftOf_38 : decode cX7_aircraftOf 38 = .ok (.ireturn, 1) := by decide +kernel
theorem dX7_aircraftOf_39 : decode cX7_aircraftOf 39 = .ok (.iload_n 2, 1) := by decide +kernel
theorem dX7_aircraftOf_40 : decode cX7_aircraftOf 40 = .ok (.iconst 2, 1) := by decide +kernel
theorem dX7_aircraftOf_41 : decode cX7_aircraftOf 41 = .ok (.if_icmp .ge 23, 3) := by decide +kernel
theorem dX7_aircraftOf_44 : decode cX7_aircraftOf 44 = .ok (.iload_n 2, 1) := by decide +kernel
theorem dX7_aircraftOf_45 : decode cX7_aircraftOf 45 = .ok (.ifCond .ne 12, 3) := by decide +kernel
theorem dX7_aircraftOf_48 : decode cX7_aircraftOf 48 = .ok (.aload_n 0, 1) := by decide +kernel
theorem dX7_aircraftOf_49 : decode cX7_aircraftOf 49 = .ok (.getfield 44, 3) := by decide +kernel
theorem dX7_aircraftOf_52 : decode cX7_aircraftOf 52 = .ok (.iload_n 1, 1) := by decide +kernel
theorem dX7_aircraftOf_53 : decode cX7_aircraftOf 53 = .ok (.iaload, 1) := by decide +kernel
theorem dX7_aircraftOf_54 : decode cX7_aircraftOf 54 = .ok (.goto 9, 3) := by decide +kernel
theorem dX7_aircraftOf_57 : decode cX7_aircraftOf 57 = .ok (.aload_n 0, 1) := by decide +kernel
theorem dX7_aircraftOf_58 : decode cX7_aircraftOf 58 = .ok (.getfield 47, 3) := by decide +kernel
theorem dX7_aircraftOf_61 : decode cX7_aircraftOf 61 = .ok (.iload_n 1, 1) := by decide +kernel
theorem dX7_aircraftOf_62 : decode cX7_aircraftOf 62 = .ok (.iaload, 1) := by decide +kernel
theorem dX7_aircraftOf_63 : decode cX7_aircraftOf 63 = .ok (.ireturn, 1) := by decide +kernel
theorem dX7_aircraftOf_64 : decode cX7_aircraftOf 64 = .ok (.iload_n 2, 1) := by decide +kernel
theorem dX7_aircraftOf_65 : decode cX7_aircraftOf 65 = .ok (.iconst 2, 1) := by decide +kernel
theorem dX7_aircraftOf_66 : decode cX7_aircraftOf 66 = .ok (.if_icmp .ne 12, 3) := by decide +kernel
theorem dX7_aircraftOf_69 : decode cX7_aircraftOf 69 = .ok (.aload_n 0, 1) := by decide +kernel
theorem dX7_aircraftOf_70 : decode cX7_aircraftOf 70 = .ok (.getfield 50, 3) := by decide +kernel
theorem dX7_aircraftOf_73 : decode cX7_aircraftOf 73 = .ok (.iload_n 1, 1) := by decide +kernel
theorem dX7_aircraftOf_74 : decode cX7_aircraftOf 74 = .ok (.iaload, 1) := by decide +kernel
theorem dX7_aircraftOf_75 : decode cX7_aircraftOf 75 = .ok (.goto 23, 3) := by decide +kernel
theorem dX7_aircraftOf_78 : decode cX7_aircraftOf 78 = .ok (.iload_n 2, 1) := by decide +kernel
theorem dX7_aircraftOf_79 : decode cX7_aircraftOf 79 = .ok (.iconst 3, 1) := by decide +kernel
theorem dX7_aircraftOf_80 : decode cX7_aircraftOf 80 = .ok (.if_icmp .ne 12, 3) := by decide +kernel
theorem dX7_aircraftOf_83 : decode cX7_aircraftOf 83 = .ok (.aload_n 0, 1) := by decide +kernel
theorem dX7_aircraftOf_84 : decode cX7_aircraftOf 84 = .ok (.getfield 53, 3) := by decide +kernel
theorem dX7_aircraftOf_87 : decode cX7_aircraftOf 87 = .ok (.iload_n 1, 1) := by decide +kernel
theorem dX7_aircraftOf_88 : decode cX7_aircraftOf 88 = .ok (.iaload, 1) := by decide +kernel
theorem dX7_aircraftOf_89 : decode cX7_aircraftOf 89 = .ok (.goto 9, 3) := by decide +kernel
theorem dX7_aircraftOf_92 : decode cX7_aircraftOf 92 = .ok (.aload_n 0, 1) := by decide +kernel
theorem dX7_aircraftOf_93 : decode cX7_aircraftOf 93 = .ok (.getfield 56, 3) := by decide +kernel
theorem dX7_aircraftOf_96 : decode cX7_aircraftOf 96 = .ok (.iload_n 1, 1) := by decide +kernel
theorem dX7_aircraftOf_97 : decode cX7_aircraftOf 97 = .ok (.iaload, 1) := by decide +kernel
theorem dX7_aircraftOf_98 : decode cX7_aircraftOf 98 = .ok (.ireturn, 1) := by decide +kernel
theorem dX7_clock_0 : decode cX7_clock 0 = .ok (.aload_n 0, 1) := by decide +kernel
theorem dX7_clock_1 : decode cX7_clock 1 = .ok (.aload_n 0, 1) := by decide +kernel
theorem dX7_clock_2 : decode cX7_clock 2 = .ok (.iload_n 1, 1) := by decide +kernel
theorem dX7_clock_3 : decode cX7_clock 3 = .ok (.invokevirtual 120, 3) := by decide +kernel
theorem dX7_clock_6 : decode cX7_clock 6 = .ok (.ifCond .ne 7, 3) := by decide +kernel
theorem dX7_clock_9 : decode cX7_clock 9 = .ok (.iconst 1, 1) := by decide +kernel
theorem dX7_clock_10 : decode cX7_clock 10 = .ok (.goto 17, 3) := by decide +kernel
theorem dX7_clock_13 : decode cX7_clock 13 = .ok (.aload_n 0, 1) := by decide +kernel
theorem dX7_clock_14 : decode cX7_clock 14 = .ok (.getfield 50, 3) := by decide +kernel
theorem dX7_clock_17 : decode cX7_clock 17 = .ok (.iload_n 1, 1) := by decide +kernel
theorem dX7_clock_18 : decode cX7_clock 18 = .ok (.iaload, 1) := by decide +kernel
theorem dX7_clock_19 : decode cX7_clock 19 = .ok (.ifCond .ne 7, 3) := by decide +kernel
theorem dX7_clock_22 : decode cX7_clock 22 = .ok (.iconst 2, 1) := by decide +kernel
theorem dX7_clock_23 : decode cX7_clock 23 = .ok (.goto 4, 3) := by decide +kernel
theorem dX7_clock_26 : decode cX7_clock 26 = .ok (.iconst 0, 1) := by decide +kernel
theorem dX7_clock_27 : decode cX7_clock 27 = .ok (.putfield 74, 3) := by decide +kernel
theorem dX7_clock_30 : decode cX7_clock 30 = .ok (.aload_n 0, 1) := by decide +kernel
theorem dX7_clock_31 : decode cX7_clock 31 = .ok (.getfield 74, 3) := by decide +kernel
theorem dX7_clock_34 : decode cX7_clock 34 = .ok (.ifCond .le 7, 3) := by decide +kernel
theorem dX7_clock_37 : decode cX7_clock 37 = .ok (.dconst 0, 1) := by decide +kernel
theorem dX7_clock_38 : decode cX7_clock 38 = .ok (.goto 8, 3) := by decide +kernel
theorem dX7_clock_41 : decode cX7_clock 41 = .ok (.aload_n 0, 1) := by decide +kernel
theorem dX7_clock_42 : decode cX7_clock 42 = .ok (.iload_n 1, 1) := by decide +kernel
theorem dX7_clock_43 : decode cX7_clock 43 = .ok (.invokevirtual 153, 3) := by decide +kernel
theorem dX7_clock_46 : decode cX7_clock 46 = .ok (.dreturn, 1) := by decide +kernel
theorem dX7_whyNot_0 : decode cX7_whyNot 0 = .ok (.aload_n 0, 1) := by decide +kernel
theorem dX7_whyNot_1 : decode cX7_whyNot 1 = .ok (.aload_n 0, 1) := by decide +kernel
theorem dX7_whyNot_2 : decode cX7_whyNot 2 = .ok (.iload_n 1, 1) := by decide +kernel
theorem dX7_whyNot_3 : decode cX7_whyNot 3 = .ok (.invokevirtual 120, 3) := by decide +kernel
theorem dX7_whyNot_6 : decode cX7_whyNot 6 = .ok (.ifCond .eq 7, 3) := by decide +kernel
theorem dX7_whyNot_9 : decode cX7_whyNot 9 = .ok (.iconst 0, 1) := by decide +kernel
theorem dX7_whyNot_10 : decode cX7_whyNot 10 = .ok (.goto 4, 3) := by decide +kernel
theorem dX7_whyNot_13 : decode cX7_whyNot 13 = .ok (.iconst 1, 1) := by decide +kernel
theorem dX7_whyNot_14 : decode cX7_whyNot 14 = .ok (.putfield 74, 3) := by decide +kernel
theorem dX7_whyNot_17 : decode cX7_whyNot 17 = .ok (.aload_n 0, 1) := by decide +kernel
theorem dX7_whyNot_18 : decode cX7_whyNot 18 = .ok (.getfield 74, 3) := by decide +kernel
theorem dX7_whyNot_21 : decode cX7_whyNot 21 = .ok (.ifCond .le 5, 3) := by decide +kernel
theorem dX7_whyNot_24 : decode cX7_whyNot 24 = .ok (.iconst 0, 1) := by decide +kernel
theorem dX7_whyNot_25 : decode cX7_whyNot 25 = .ok (.ireturn, 1) := by decide +kernel
theorem dX7_whyNot_26 : decode cX7_whyNot 26 = .ok (.aload_n 0, 1) := by decide +kernel
theorem dX7_whyNot_27 : decode cX7_whyNot 27 = .ok (.getfield 44, 3) := by decide +kernel
theorem dX7_whyNot_30 : decode cX7_whyNot 30 = .ok (.iload_n 1, 1) := by decide +kernel
theorem dX7_whyNot_31 : decode cX7_whyNot 31 = .ok (.iaload, 1) := by decide +kernel
theorem dX7_whyNot_32 : decode cX7_whyNot 32 = .ok (.iconst 2, 1) := by decide +kernel
theorem dX7_whyNot_33 : decode cX7_whyNot 33 = .ok (.if_icmp .eq 5, 3) := by decide +kernel
theorem dX7_whyNot_36 : decode cX7_whyNot 36 = .ok (.iconst 1, 1) := by decide +kernel
theorem dX7_whyNot_37 : decode cX7_whyNot 37 = .ok (.ireturn, 1) := by decide +kernel
theorem dX7_whyNot_38 : decode cX7_whyNot 38 = .ok (.aload_n 0, 1) := by decide +kernel
theorem dX7_whyNot_39 : decode cX7_whyNot 39 = .ok (.getfield 38, 3) := by decide +kernel
theorem dX7_whyNot_42 : decode cX7_whyNot 42 = .ok (.iload_n 1, 1) := by decide +kernel
theorem dX7_whyNot_43 : decode cX7_whyNot 43 = .ok (.iaload, 1) := by decide +kernel
theorem dX7_whyNot_44 : decode cX7_whyNot 44 = .ok (.aload_n 0, 1) := by decide +kernel
theorem dX7_whyNot_45 : decode cX7_whyNot 45 = .ok (.getfield 100, 3) := by decide +kernel
theorem dX7_whyNot_48 : decode cX7_whyNot 48 = .ok (.if_icmp .le 7, 3) := by decide +kernel
theorem dX7_whyNot_51 : decode cX7_whyNot 51 = .ok (.iconst 2, 1) := by decide +kernel
theorem dX7_whyNot_52 : decode cX7_whyNot 52 = .ok (.goto 40, 3) := by decide +kernel
theorem dX7_whyNot_55 : decode cX7_whyNot 55 = .ok (.aload_n 0, 1) := by decide +kernel
theorem dX7_whyNot_56 : decode cX7_whyNot 56 = .ok (.iload_n 1, 1) := by decide +kernel
theorem dX7_whyNot_57 : decode cX7_whyNot 57 = .ok (.invokevirtual 153, 3) := by decide +kernel
theorem dX7_whyNot_60 : decode cX7_whyNot 60 = .ok (.dconst 0, 1) := by decide +kernel
theorem dX7_whyNot_61 : decode cX7_whyNot 61 = .ok (.dcmp .g, 1) := by decide +kernel
theorem dX7_whyNot_62 : decode cX7_whyNot 62 = .ok (.ifCond .ge 7, 3) := by decide +kernel
theorem dX7_whyNot_65 : decode cX7_whyNot 65 = .ok (.iconst 3, 1) := by decide +kernel
theorem dX7_whyNot_66 : decode cX7_whyNot 66 = .ok (.goto 26, 3) := by decide +kernel
theorem dX7_whyNot_69 : decode cX7_whyNot 69 = .ok (.aload_n 0, 1) := by decide +kernel
theorem dX7_whyNot_70 : decode cX7_whyNot 70 = .ok (.invokevirtual 160, 3) := by decide +kernel
theorem dX7_whyNot_73 : decode cX7_whyNot 73 = .ok (.ifCond .eq 7, 3) := by decide +kernel
theorem dX7_whyNot_76 : decode cX7_whyNot 76 = .ok (.iconst 4, 1) := by decide +kernel
theorem dX7_whyNot_77 : decode cX7_whyNot 77 = .ok (.goto 15, 3) := by decide +kernel
theorem dX7_whyNot_80 : decode cX7_whyNot 80 = .ok (.aload_n 0, 1) := by decide +kernel
theorem dX7_whyNot_81 : decode cX7_whyNot 81 = .ok (.invokevirtual 172, 3) := by decide +kernel
theorem dX7_whyNot_84 : decode cX7_whyNot 84 = .ok (.ifCond .eq 7, 3) := by decide +kernel
theorem dX7_whyNot_87 : decode cX7_whyNot 87 = .ok (.iconst 0, 1) := by decide +kernel
theorem dX7_whyNot_88 : decode cX7_whyNot 88 = .ok (.goto 4, 3) := by decide +kernel
theorem dX7_whyNot_91 : decode cX7_whyNot 91 = .ok (.iconst 5, 1) := by decide +kernel
theorem dX7_whyNot_92 : decode cX7_whyNot 92 = .ok (.ireturn, 1) := by decide +kernel
theorem dX7_queue_0 : decode cX7_queue 0 = .ok (.aload_n 0, 1) := by decide +kernel
theorem dX7_queue_1 : decode cX7_queue 1 = .ok (.iload_n 1, 1) := by decide +kernel
theorem dX7_queue_2 : decode cX7_queue 2 = .ok (.ifCond .lt 7, 3) := by decide +kernel
theorem dX7_queue_5 : decode cX7_queue 5 = .ok (.iconst 0, 1) := by decide +kernel
theorem dX7_queue_6 : decode cX7_queue 6 = .ok (.goto 4, 3) := by decide +kernel
theorem dX7_queue_9 : decode cX7_queue 9 = .ok (.iconst 1, 1) := by decide +kernel
theorem dX7_queue_10 : decode cX7_queue 10 = .ok (.putfield 74, 3) := by decide +kernel
theorem dX7_queue_13 : decode cX7_queue 13 = .ok (.aload_n 0, 1) := by decide +kernel
theorem dX7_queue_14 : decode cX7_queue 14 = .ok (.getfield 74, 3) := by decide +kernel
theorem dX7_queue_17 : decode cX7_queue 17 = .ok (.ifCond .le 7, 3) := by decide +kernel
theorem dX7_queue_20 : decode cX7_queue 20 = .ok (.iconst (-1), 1) := by decide +kernel
theorem dX7_queue_21 : decode cX7_queue 21 = .ok (.goto 8, 3) := by decide +kernel
theorem dX7_queue_24 : decode cX7_queue 24 = .ok (.aload_n 0, 1) := by decide +kernel
theorem dX7_queue_25 : decode cX7_queue 25 = .ok (.iconst (-1), 1) := by decide +kernel
theorem dX7_queue_26 : decode cX7_queue 26 = .ok (.invokevirtual 181, 3) := by decide +kernel
theorem dX7_queue_29 : decode cX7_queue 29 = .ok (.istore_n 2, 1) := by decide +kernel
theorem dX7_queue_30 : decode cX7_queue 30 = .ok (.iconst 0, 1) := by decide +kernel
theorem dX7_queue_31 : decode cX7_queue 31 = .ok (.istore_n 3, 1) := by decide +kernel
theorem dX7_queue_32 : decode cX7_queue 32 = .ok (.iload_n 3, 1) := by decide +kernel
theorem dX7_queue_33 : decode cX7_queue 33 = .ok (.iload_n 1, 1) := by decide +kernel
theorem dX7_queue_34 : decode cX7_queue 34 = .ok (.if_icmp .ge 27, 3) := by decide +kernel
theorem dX7_queue_37 : decode cX7_queue 37 = .ok (.iload_n 2, 1) := by decide +kernel
theorem dX7_queue_38 : decode cX7_queue 38 = .ok (.iconst (-1), 1) := by decide +kernel
theorem dX7_queue_39 : decode cX7_queue 39 = .ok (.if_icmp .eq 22, 3) := by decide +kernel
theorem dX7_queue_42 : decode cX7_queue 42 = .ok (.aload_n 0, 1) := by decide +kernel
theorem dX7_queue_43 : decode cX7_queue 43 = .ok (.getfield 74, 3) := by decide +kernel
theorem dX7_queue_46 : decode cX7_queue 46 = .ok (.ifCond .ne 15, 3) := by decide +kernel
theorem dX7_queue_49 : decode cX7_queue 49 = .ok (.aload_n 0, 1) := by decide +kernel
theorem dX7_queue_50 : decode cX7_queue 50 = .ok (.iload_n 2, 1) := by decide +kernel
theorem dX7_queue_51 : decode cX7_queue 51 = .ok (.invokevirtual 181, 3) := by decide +kernel
theorem dX7_queue_54 : decode cX7_queue 54 = .ok (.istore_n 2, 1) := by decide +kernel
theorem dX7_queue_55 : decode cX7_queue 55 = .ok (.iinc 3 1, 3) := by decide +kernel
theorem dX7_queue_58 : decode cX7_queue 58 = .ok (.goto (-26), 3) := by decide +kernel
theorem dX7_queue_61 : decode cX7_queue 61 = .ok (.aload_n 0, 1) := by decide +kernel
theorem dX7_queue_62 : decode cX7_queue 62 = .ok (.getfield 74, 3) := by decide +kernel
theorem dX7_queue_65 : decode cX7_queue 65 = .ok (.ifCond .le 7, 3) := by decide +kernel
theorem dX7_queue_68 : decode cX7_queue 68 = .ok (.iconst 0, 1) := by decide +kernel
theorem dX7_queue_69 : decode cX7_queue 69 = .ok (.goto 4, 3) := by decide +kernel
theorem dX7_queue_72 : decode cX7_queue 72 = .ok (.iload_n 2, 1) := by decide +kernel
theorem dX7_queue_73 : decode cX7_queue 73 = .ok (.ireturn, 1) := by decide +kernel
theorem dX7_sum_0 : decode cX7_sum 0 = .ok (.aload_n 0, 1) := by decide +kernel
theorem dX7_sum_1 : decode cX7_sum 1 = .ok (.iload_n 1, 1) := by decide +kernel
theorem dX7_sum_2 : decode cX7_sum 2 = .ok (.iconst 0, 1) := by decide +kernel
theorem dX7_sum_3 : decode cX7_sum 3 = .ok (.bipush 6, 2) := by decide +kernel
theorem dX7_sum_5 : decode cX7_sum 5 = .ok (.invokestatic 77, 3) := by decide +kernel
theorem dX7_sum_8 : decode cX7_sum 8 = .ok (.ifCond .eq 7, 3) := by decide +kernel
theorem dX7_sum_11 : decode cX7_sum 11 = .ok (.iconst 0, 1) := by decide +kernel
theorem dX7_sum_12 : decode cX7_sum 12 = .ok (.goto 4, 3) := by decide +kernel
theorem dX7_sum_15 : decode cX7_sum 15 = .ok (.iconst 1, 1) := by decide +kernel
theorem dX7_sum_16 : decode cX7_sum 16 = .ok (.putfield 74, 3) := by decide +kernel
theorem dX7_sum_19 : decode cX7_sum 19 = .ok (.aload_n 0, 1) := by decide +kernel
theorem dX7_sum_20 : decode cX7_sum 20 = .ok (.getfield 74, 3) := by decide +kernel
theorem dX7_sum_23 : decode cX7_sum 23 = .ok (.ifCond .le 5, 3) := by decide +kernel
theorem dX7_sum_26 : decode cX7_sum 26 = .ok (.iconst 0, 1) := by decide +kernel
theorem dX7_sum_27 : decode cX7_sum 27 = .ok (.ireturn, 1) := by decide +kernel
theorem dX7_sum_28 : decode cX7_sum 28 = .ok (.iconst 0, 1) := by decide +kernel
theorem dX7_sum_29 : decode cX7_sum 29 = .ok (.istore_n 2, 1) := by decide +kernel
theorem dX7_sum_30 : decode cX7_sum 30 = .ok (.iconst 0, 1) := by decide +kernel
theorem dX7_sum_31 : decode cX7_sum 31 = .ok (.istore_n 3, 1) := by decide +kernel
theorem dX7_sum_32 : decode cX7_sum 32 = .ok (.iload_n 3, 1) := by decide +kernel
theorem dX7_sum_33 : decode cX7_sum 33 = .ok (.aload_n 0, 1) := by decide +kernel
theorem dX7_sum_34 : decode cX7_sum 34 = .ok (.getfield 81, 3) := by decide +kernel
theorem dX7_sum_37 : decode cX7_sum 37 = .ok (.if_icmp .ge 18, 3) := by decide +kernel
theorem dX7_sum_40 : decode cX7_sum 40 = .ok (.iload_n 2, 1) := by decide +kernel
theorem dX7_sum_41 : decode cX7_sum 41 = .ok (.aload_n 0, 1) := by decide +kernel
theorem dX7_sum_42 : decode cX7_sum 42 = .ok (.getfield 53, 3) := by decide +kernel
theorem dX7_sum_45 : decode cX7_sum 45 = .ok (.iload_n 3, 1) := by decide +kernel
theorem dX7_sum_46 : decode cX7_sum 46 = .ok (.iaload, 1) := by decide +kernel
theorem dX7_sum_47 : decode cX7_sum 47 = .ok (.iadd, 1) := by decide +kernel
theorem dX7_sum_48 : decode cX7_sum 48 = .ok (.istore_n 2, 1) := by decide +kernel
theorem dX7_sum_49 : decode cX7_sum 49 = .ok (.iinc 3 1, 3) := by decide +kernel
theorem dX7_sum_52 : decode cX7_sum 52 = .ok (.goto (-20), 3) := by decide +kernel
theorem dX7_sum_55 : decode cX7_sum 55 = .ok (.iload_n 1, 1) := by decide +kernel
theorem dX7_sum_56 : decode cX7_sum 56 = .ok (.iconst 3, 1) := by decide +kernel
theorem dX7_sum_57 : decode cX7_sum 57 = .ok (.if_icmp .ge 44, 3) := by decide +kernel
theorem dX7_sum_60 : decode cX7_sum 60 = .ok (.iload_n 1, 1) := by decide +kernel
theorem dX7_sum_61 : decode cX7_sum 61 = .ok (.ifCond .ne 10, 3) := by decide +kernel
theorem dX7_sum_64 : decode cX7_sum 64 = .ok (.aload_n 0, 1) := by decide +kernel
theorem dX7_sum_65 : decode cX7_sum 65 = .ok (.getfield 117, 3) := by decide +kernel
theorem dX7_sum_68 : decode cX7_sum 68 = .ok (.goto 32, 3) := by decide +kernel
theorem dX7_sum_71 : decode cX7_sum 71 = .ok (.iload_n 1, 1) := by decide +kernel
theorem dX7_sum_72 : decode cX7_sum 72 = .ok (.iconst 1, 1) := by decide +kernel
theorem dX7_sum_73 : decode cX7_sum 73 = .ok (.if_icmp .ne 26, 3) := by decide +kernel
theorem dX7_sum_76 : decode cX7_sum 76 = .ok (.aload_n 0, 1) := by decide +kernel
theorem dX7_sum_77 : decode cX7_sum 77 = .ok (.getfield 29, 3) := by decide +kernel
theorem dX7_sum_80 : decode cX7_sum 80 = .ok (.iconst 0, 1) := by decide +kernel
theorem dX7_sum_81 : decode cX7_sum 81 = .ok (.iaload, 1) := by decide +kernel
theorem dX7_sum_82 : decode cX7_sum 82 = .ok (.aload_n 0, 1) := by decide +kernel
theorem dX7_sum_83 : decode cX7_sum 83 = .ok (.getfield 29, 3) := by decide +kernel
theorem dX7_sum_86 : decode cX7_sum 86 = .ok (.iconst 1, 1) := by decide +kernel
theorem dX7_sum_87 : decode cX7_sum 87 = .ok (.iaload, 1) := by decide +kernel
theorem dX7_sum_88 : decode cX7_sum 88 = .ok (.iadd, 1) := by decide +kernel
theorem dX7_sum_89 : decode cX7_sum 89 = .ok (.aload_n 0, 1) := by decide +kernel
theorem dX7_sum_90 : decode cX7_sum 90 = .ok (.getfield 29, 3) := by decide +kernel
theorem dX7_sum_93 : decode cX7_sum 93 = .ok (.iconst 2, 1) := by decide +kernel
theorem dX7_sum_94 : decode cX7_sum 94 = .ok (.iaload, 1) := by decide +kernel
theorem dX7_sum_95 : decode cX7_sum 95 = .ok (.iadd, 1) := by decide +kernel
theorem dX7_sum_96 : decode cX7_sum 96 = .ok (.goto 4, 3) := by decide +kernel
theorem dX7_sum_99 : decode cX7_sum 99 = .ok (.iload_n 2, 1) := by decide +kernel
theorem dX7_sum_100 : decode cX7_sum 100 = .ok (.ireturn, 1) := by decide +kernel
theorem dX7_sum_101 : decode cX7_sum 101 = .ok (.iload_n 1, 1) := by decide +kernel
theorem dX7_sum_102 : decode cX7_sum 102 = .ok (.iconst 3, 1) := by decide +kernel
theorem dX7_sum_103 : decode cX7_sum 103 = .ok (.if_icmp .ne 10, 3) := by decide +kernel
theorem dX7_sum_106 : decode cX7_sum 106 = .ok (.aload_n 0, 1) := by decide +kernel
theorem dX7_sum_107 : decode cX7_sum 107 = .ok (.getfield 126, 3) := by decide +kernel
theorem dX7_sum_110 : decode cX7_sum 110 = .ok (.goto 31, 3) := by decide +kernel
theorem dX7_sum_113 : decode cX7_sum 113 = .ok (.iload_n 1, 1) := by decide +kernel
theorem dX7_sum_114 : decode cX7_sum 114 = .ok (.iconst 4, 1) := by decide +kernel
theorem dX7_sum_115 : decode cX7_sum 115 = .ok (.if_icmp .ne 10, 3) := by decide +kernel
theorem dX7_sum_118 : decode cX7_sum 118 = .ok (.aload_n 0, 1) := by decide +kernel
theorem dX7_sum_119 : decode cX7_sum 119 = .ok (.getfield 169, 3) := by decide +kernel
theorem dX7_sum_122 : decode cX7_sum 122 = .ok (.goto 19, 3) := by decide +kernel
theorem dX7_sum_125 : decode cX7_sum 125 = .ok (.iload_n 1, 1) := by decide +kernel
theorem dX7_sum_126 : decode cX7_sum 126 = .ok (.iconst 5, 1) := by decide +kernel
theorem dX7_sum_127 : decode cX7_sum 127 = .ok (.if_icmp .ne 10, 3) := by decide +kernel
theorem dX7_sum_130 : decode cX7_sum 130 = .ok (.aload_n 0, 1) := by decide +kernel
theorem dX7_sum_131 : decode cX7_sum 131 = .ok (.getfield 136, 3) := by decide +kernel
theorem dX7_sum_134 : decode cX7_sum 134 = .ok (.goto 7, 3) := by decide +kernel
theorem dX7_sum_137 : decode cX7_sum 137 = .ok (.aload_n 0, 1) := by decide +kernel
theorem dX7_sum_138 : decode cX7_sum 138 = .ok (.getfield 142, 3) := by decide +kernel
theorem dX7_sum_141 : decode cX7_sum 141 = .ok (.ireturn, 1) := by decide +kernel
theorem dJ9_max_7cf53_0 : decode cJ9_max_7cf53 0 = .ok (.iload_n 0, 1) := by decide +kernel
theorem dJ9_max_7cf53_1 : decode cJ9_max_7cf53 1 = .ok (.iload_n 1, 1) := by decide +kernel
theorem dJ9_max_7cf53_2 : decode cJ9_max_7cf53 2 = .ok (.if_icmp .lt 7, 3) := by decide +kernel
theorem dJ9_max_7cf53_5 : decode cJ9_max_7cf53 5 = .ok (.iload_n 0, 1) := by decide +kernel
theorem dJ9_max_7cf53_6 : decode cJ9_max_7cf53 6 = .ok (.goto 4, 3) := by decide +kernel
theorem dJ9_max_7cf53_9 : decode cJ9_max_7cf53 9 = .ok (.iload_n 1, 1) := by decide +kernel
theorem dJ9_max_7cf53_10 : decode cJ9_max_7cf53 10 = .ok (.ireturn, 1) := by decide +kernel
theorem dJ9_min_7cf53_0 : decode cJ9_min_7cf53 0 = .ok (.iload_n 0, 1) := by decide +kernel
theorem dJ9_min_7cf53_1 : decode cJ9_min_7cf53 1 = .ok (.iload_n 1, 1) := by decide +kernel
theorem dJ9_min_7cf53_2 : decode cJ9_min_7cf53 2 = .ok (.if_icmp .gt 7, 3) := by decide +kernel
theorem dJ9_min_7cf53_5 : decode cJ9_min_7cf53 5 = .ok (.iload_n 0, 1) := by decide +kernel
theorem dJ9_min_7cf53_6 : decode cJ9_min_7cf53 6 = .ok (.goto 4, 3) := by decide +kernel
theorem dJ9_min_7cf53_9 : decode cJ9_min_7cf53 9 = .ok (.iload_n 1, 1) := by decide +kernel
theorem dJ9_min_7cf53_10 : decode cJ9_min_7cf53 10 = .ok (.ireturn, 1) := by decide +kernel
theorem dL_weather_0 : decode cL_weather 0 = .ok (.aload_n 0, 1) := by decide +kernel
theorem dL_weather_1 : decode cL_weather 1 = .ok (.iload_n 1, 1) := by decide +kernel
theorem dL_weather_2 : decode cL_weather 2 = .ok (.iload_n 2, 1) := by decide +kernel
theorem dL_weather_3 : decode cL_weather 3 = .ok (.iload_n 3, 1) := by decide +kernel
theorem dL_weather_4 : decode cL_weather 4 = .ok (.iload 4, 2) := by decide +kernel
theorem dL_weather_6 : decode cL_weather 6 = .ok (.invokevirtual 7, 3) := by decide +kernel
theorem dL_weather_9 : decode cL_weather 9 = .ok (.goto 7, 3) := by decide +kernel
theorem dL_weather_12 : decode cL_weather 12 = .ok (.astore 5, 2) := by decide +kernel
theorem dL_weather_14 : decode cL_weather 14 = .ok (.iconst 1, 1) := by decide +kernel
theorem dL_weather_15 : decode cL_weather 15 = .ok (.ireturn, 1) := by decide +kernel
theorem dL_weather_16 : decode cL_weather 16 = .ok (.iconst 0, 1) := by decide +kernel
theorem dL_weather_17 : decode cL_weather 17 = .ok (.ireturn, 1) := by decide +kernel
theorem dL_spray_0 : decode cL_spray 0 = .ok (.aload_n 2, 1) := by decide +kernel
theorem dL_spray_1 : decode cL_spray 1 = .ok (.iconst 0, 1) := by decide +kernel
theorem dL_spray_2 : decode cL_spray 2 = .ok (.aload_n 0, 1) := by decide +kernel
theorem dL_spray_3 : decode cL_spray 3 = .ok (.iload_n 1, 1) := by decide +kernel
theorem dL_spray_4 : decode cL_spray 4 = .ok (.invokevirtual 15, 3) := by decide +kernel
theorem dL_spray_7 : decode cL_spray 7 = .ok (.i2l, 1) := by decide +kernel
theorem dL_spray_8 : decode cL_spray 8 = .ok (.lastore, 1) := by decide +kernel
theorem dL_spray_9 : decode cL_spray 9 = .ok (.goto 6, 3) := by decide +kernel
theorem dL_spray_12 : decode cL_spray 12 = .ok (.astore_n 3, 1) := by decide +kernel
theorem dL_spray_13 : decode cL_spray 13 = .ok (.iconst 1, 1) := by decide +kernel
theorem dL_spray_14 : decode cL_spray 14 = .ok (.ireturn, 1) := by decide +kernel
theorem dL_spray_15 : decode cL_spray 15 = .ok (.iconst 0, 1) := by decide +kernel
theorem dL_spray_16 : decode cL_spray 16 = .ok (.ireturn, 1) := by decide +kernel
theorem dL_close_0 : decode cL_close 0 = .ok (.aload_n 3, 1) := by decide +kernel
theorem dL_close_1 : decode cL_close 1 = .ok (.iconst 0, 1) := by decide +kernel
theorem dL_close_2 : decode cL_close 2 = .ok (.aload_n 0, 1) := by decide +kernel
theorem dL_close_3 : decode cL_close 3 = .ok (.iload_n 1, 1) := by decide +kernel
theorem dL_close_4 : decode cL_close 4 = .ok (.iload_n 2, 1) := by decide +kernel
theorem dL_close_5 : decode cL_close 5 = .ok (.invokevirtual 21, 3) := by decide +kernel
theorem dL_close_8 : decode cL_close 8 = .ok (.i2l, 1) := by decide +kernel
theorem dL_close_9 : decode cL_close 9 = .ok (.lastore, 1) := by decide +kernel
theorem dL_close_10 : decode cL_close 10 = .ok (.goto 7, 3) := by decide +kernel
theorem dL_close_13 : decode cL_close 13 = .ok (.astore 4, 2) := by decide +kernel
theorem dL_close_15 : decode cL_close 15 = .ok (.iconst 1, 1) := by decide +kernel
theorem dL_close_16 : decode cL_close 16 = .ok (.ireturn, 1) := by decide +kernel
theorem dL_close_17 : decode cL_close 17 = .ok (.iconst 0, 1) := by decide +kernel
theorem dL_close_18 : decode cL_close 18 = .ok (.ireturn, 1) := by decide +kernel
theorem dL_pilot_0 : decode cL_pilot 0 = .ok (.aload_n 3, 1) := by decide +kernel
theorem dL_pilot_1 : decode cL_pilot 1 = .ok (.iconst 0, 1) := by decide +kernel
theorem dL_pilot_2 : decode cL_pilot 2 = .ok (.aload_n 0, 1) := by decide +kernel
theorem dL_pilot_3 : decode cL_pilot 3 = .ok (.iload_n 1, 1) := by decide +kernel
theorem dL_pilot_4 : decode cL_pilot 4 = .ok (.iload_n 2, 1) := by decide +kernel
theorem dL_pilot_5 : decode cL_pilot 5 = .ok (.invokevirtual 25, 3) := by decide +kernel
theorem dL_pilot_8 : decode cL_pilot 8 = .ok (.i2l, 1) := by decide +kernel
theorem dL_pilot_9 : decode cL_pilot 9 = .ok (.lastore, 1) := by decide +kernel
theorem dL_pilot_10 : decode cL_pilot 10 = .ok (.goto 11, 3) := by decide +kernel
theorem dL_pilot_13 : decode cL_pilot 13 = .ok (.astore 4, 2) := by decide +kernel
theorem dL_pilot_15 : decode cL_pilot 15 = .ok (.iconst 1, 1) := by decide +kernel
theorem dL_pilot_16 : decode cL_pilot 16 = .ok (.ireturn, 1) := by decide +kernel
theorem dL_pilot_17 : decode cL_pilot 17 = .ok (.astore 4, 2) := by decide +kernel
theorem dL_pilot_19 : decode cL_pilot 19 = .ok (.iconst 2, 1) := by decide +kernel
theorem dL_pilot_20 : decode cL_pilot 20 = .ok (.ireturn, 1) := by decide +kernel
theorem dL_pilot_21 : decode cL_pilot 21 = .ok (.iconst 0, 1) := by decide +kernel
theorem dL_pilot_22 : decode cL_pilot 22 = .ok (.ireturn, 1) := by decide +kernel
theorem dL_supply_0 : decode cL_supply 0 = .ok (.aload_n 3, 1) := by decide +kernel
theorem dL_supply_1 : decode cL_supply 1 = .ok (.iconst 0, 1) := by decide +kernel
theorem dL_supply_2 : decode cL_supply 2 = .ok (.aload_n 0, 1) := by decide +kernel
theorem dL_supply_3 : decode cL_supply 3 = .ok (.iload_n 1, 1) := by decide +kernel
theorem dL_supply_4 : decode cL_supply 4 = .ok (.iload_n 2, 1) := by decide +kernel
theorem dL_supply_5 : decode cL_supply 5 = .ok (.invokevirtual 28, 3) := by decide +kernel
theorem dL_supply_8 : decode cL_supply 8 = .ok (.i2l, 1) := by decide +kernel
theorem dL_supply_9 : decode cL_supply 9 = .ok (.lastore, 1) := by decide +kernel
theorem dL_supply_10 : decode cL_supply 10 = .ok (.goto 15, 3) := by decide +kernel
theorem dL_supply_13 : decode cL_supply 13 = .ok (.astore 4, 2) := by decide +kernel
theorem dL_supply_15 : decode cL_supply 15 = .ok (.iconst 1, 1) := by decide +kernel
theorem dL_supply_16 : decode cL_supply 16 = .ok (.ireturn, 1) := by decide +kernel
theorem dL_supply_17 : decode cL_supply 17 = .ok (.astore 4, 2) := by decide +kernel
theorem dL_supply_19 : decode cL_supply 19 = .ok (.iconst 2, 1) := by decide +kernel
theorem dL_supply_20 : decode cL_supply 20 = .ok (.ireturn, 1) := by decide +kernel
theorem dL_supply_21 : decode cL_supply 21 = .ok (.astore 4, 2) := by decide +kernel
theorem dL_supply_23 : decode cL_supply 23 = .ok (.iconst 3, 1) := by decide +kernel
theorem dL_supply_24 : decode cL_supply 24 = .ok (.ireturn, 1) := by decide +kernel
theorem dL_supply_25 : decode cL_supply 25 = .ok (.iconst 0, 1) := by decide +kernel
theorem dL_supply_26 : decode cL_supply 26 = .ok (.ireturn, 1) := by decide +kernel
theorem dL_table_0 : decode cL_table 0 = .ok (.aload 4, 2) := by decide +kernel
theorem dL_table_2 : decode cL_table 2 = .ok (.iconst 0, 1) := by decide +kernel
theorem dL_table_3 : decode cL_table 3 = .ok (.aload_n 0, 1) := by decide +kernel
theorem dL_table_4 : decode cL_table 4 = .ok (.iload_n 1, 1) := by decide +kernel
theorem dL_table_5 : decode cL_table 5 = .ok (.iload_n 2, 1) := by decide +kernel
theorem dL_table_6 : decode cL_table 6 = .ok (.iload_n 3, 1) := by decide +kernel
theorem dL_table_7 : decode cL_table 7 = .ok (.invokevirtual 33, 3) := by decide +kernel
theorem dL_table_10 : decode cL_table 10 = .ok (.i2l, 1) := by decide +kernel
theorem dL_table_11 : decode cL_table 11 = .ok (.lastore, 1) := by decide +kernel
theorem dL_table_12 : decode cL_table 12 = .ok (.goto 11, 3) := by decide +kernel
theorem dL_table_15 : decode cL_table 15 = .ok (.astore 5, 2) := by decide +kernel
theorem dL_table_17 : decode cL_table 17 = .ok (.iconst 1, 1) := by decide +kernel
theorem dL_table_18 : decode cL_table 18 = .ok (.ireturn, 1) := by decide +kernel
theorem dL_table_19 : decode cL_table 19 = .ok (.astore 5, 2) := by decide +kernel
theorem dL_table_21 : decode cL_table 21 = .ok (.iconst 2, 1) := by decide +kernel
theorem dL_table_22 : decode cL_table 22 = .ok (.ireturn, 1) := by decide +kernel
theorem dL_table_23 : decode cL_table 23 = .ok (.iconst 0, 1) := by decide +kernel
theorem dL_table_24 : decode cL_table 24 = .ok (.ireturn, 1) := by decide +kernel
theorem dL_aircraft_0 : decode cL_aircraft 0 = .ok (.aload 4, 2) := by decide +kernel
theorem dL_aircraft_2 : decode cL_aircraft 2 = .ok (.iconst 0, 1) := by decide +kernel
theorem dL_aircraft_3 : decode cL_aircraft 3 = .ok (.aload_n 0, 1) := by decide +kernel
theorem dL_aircraft_4 : decode cL_aircraft 4 = .ok (.iload_n 1, 1) := by decide +kernel
theorem dL_aircraft_5 : decode cL_aircraft 5 = .ok (.iload_n 2, 1) := by decide +kernel
theorem dL_aircraft_6 : decode cL_aircraft 6 = .ok (.iload_n 3, 1) := by decide +kernel
theorem dL_aircraft_7 : decode cL_aircraft 7 = .ok (.invokevirtual 37, 3) := by decide +kernel
theorem dL_aircraft_10 : decode cL_aircraft 10 = .ok (.i2l, 1) := by decide +kernel
theorem dL_aircraft_11 : decode cL_aircraft 11 = .ok (.lastore, 1) := by decide +kernel
theorem dL_aircraft_12 : decode cL_aircraft 12 = .ok (.goto 11, 3) := by decide +kernel
theorem dL_aircraft_15 : decode cL_aircraft 15 = .ok (.astore 5, 2) := by decide +kernel
theorem dL_aircraft_17 : decode cL_aircraft 17 = .ok (.iconst 1, 1) := by decide +kernel
theorem dL_aircraft_18 : decode cL_aircraft 18 = .ok (.ireturn, 1) := by decide +kernel
theorem dL_aircraft_19 : decode cL_aircraft 19 = .ok (.astore 5, 2) := by decide +kernel
theorem dL_aircraft_21 : decode cL_aircraft 21 = .ok (.iconst 2, 1) := by decide +kernel
theorem dL_aircraft_22 : decode cL_aircraft 22 = .ok (.ireturn, 1) := by decide +kernel
theorem dL_aircraft_23 : decode cL_aircraft 23 = .ok (.iconst 0, 1) := by decide +kernel
theorem dL_aircraft_24 : decode cL_aircraft 24 = .ok (.ireturn, 1) := by decide +kernel
theorem dL_treat_0 : decode cL_treat 0 = .ok (.aload 6, 2) := by decide +kernel
theorem dL_treat_2 : decode cL_treat 2 = .ok (.iconst 0, 1) := by decide +kernel
theorem dL_treat_3 : decode cL_treat 3 = .ok (.aload_n 0, 1) := by decide +kernel
theorem dL_treat_4 : decode cL_treat 4 = .ok (.iload_n 1, 1) := by decide +kernel
theorem dL_treat_5 : decode cL_treat 5 = .ok (.iload_n 2, 1) := by decide +kernel
theorem dL_treat_6 : decode cL_treat 6 = .ok (.iload_n 3, 1) := by decide +kernel
theorem dL_treat_7 : decode cL_treat 7 = .ok (.iload 4, 2) := by decide +kernel
theorem dL_treat_9 : decode cL_treat 9 = .ok (.iload 5, 2) := by decide +kernel
theorem dL_treat_11 : decode cL_treat 11 = .ok (.invokevirtual 40, 3) := by decide +kernel
theorem dL_treat_14 : decode cL_treat 14 = .ok (.i2l, 1) := by decide +kernel
theorem dL_treat_15 : decode cL_treat 15 = .ok (.lastore, 1) := by decide +kernel
theorem dL_treat_16 : decode cL_treat 16 = .ok (.goto 15, 3) := by decide +kernel
theorem dL_treat_19 : decode cL_treat 19 = .ok (.astore 7, 2) := by decide +kernel
theorem dL_treat_21 : decode cL_treat 21 = .ok (.iconst 1, 1) := by decide +kernel
theorem dL_treat_22 : decode cL_treat 22 = .ok (.ireturn, 1) := by decide +kernel
theorem dL_treat_23 : decode cL_treat 23 = .ok (.astore 7, 2) := by decide +kernel
theorem dL_treat_25 : decode cL_treat 25 = .ok (.iconst 2, 1) := by decide +kernel
theorem dL_treat_26 : decode cL_treat 26 = .ok (.ireturn, 1) := by decide +kernel
theorem dL_treat_27 : decode cL_treat 27 = .ok (.astore 7, 2) := by decide +kernel
theorem dL_treat_29 : decode cL_treat 29 = .ok (.iconst 3, 1) := by decide +kernel
theorem dL_treat_30 : decode cL_treat 30 = .ok (.ireturn, 1) := by decide +kernel
theorem dL_treat_31 : decode cL_treat 31 = .ok (.iconst 0, 1) := by decide +kernel
theorem dL_treat_32 : decode cL_treat 32 = .ok (.ireturn, 1) := by decide +kernel
theorem dL_cancel_0 : decode cL_cancel 0 = .ok (.aload_n 2, 1) := by decide +kernel
theorem dL_cancel_1 : decode cL_cancel 1 = .ok (.iconst 0, 1) := by decide +kernel
theorem dL_cancel_2 : decode cL_cancel 2 = .ok (.aload_n 0, 1) := by decide +kernel
theorem dL_cancel_3 : decode cL_cancel 3 = .ok (.iload_n 1, 1) := by decide +kernel
theorem dL_cancel_4 : decode cL_cancel 4 = .ok (.invokevirtual 44, 3) := by decide +kernel
theorem dL_cancel_7 : decode cL_cancel 7 = .ok (.i2l, 1) := by decide +kernel
theorem dL_cancel_8 : decode cL_cancel 8 = .ok (.lastore, 1) := by decide +kernel
theorem dL_cancel_9 : decode cL_cancel 9 = .ok (.goto 9, 3) := by decide +kernel
theorem dL_cancel_12 : decode cL_cancel 12 = .ok (.astore_n 3, 1) := by decide +kernel
theorem dL_cancel_13 : decode cL_cancel 13 = .ok (.iconst 1, 1) := by decide +kernel
theorem dL_cancel_14 : decode cL_cancel 14 = .ok (.ireturn, 1) := by decide +kernel
theorem dL_cancel_15 : decode cL_cancel 15 = .ok (.astore_n 3, 1) := by decide +kernel
theorem dL_cancel_16 : decode cL_cancel 16 = .ok (.iconst 2, 1) := by decide +kernel
theorem dL_cancel_17 : decode cL_cancel 17 = .ok (.ireturn, 1) := by decide +kernel
theorem dL_cancel_18 : decode cL_cancel 18 = .ok (.iconst 0, 1) := by decide +kernel
theorem dL_cancel_19 : decode cL_cancel 19 = .ok (.ireturn, 1) := by decide +kernel
theorem dL_permit_0 : decode cL_permit 0 = .ok (.aload_n 2, 1) := by decide +kernel
theorem dL_permit_1 : decode cL_permit 1 = .ok (.iconst 0, 1) := by decide +kernel
theorem dL_permit_2 : decode cL_permit 2 = .ok (.aload_n 0, 1) := by decide +kernel
theorem dL_permit_3 : decode cL_permit 3 = .ok (.iload_n 1, 1) := by decide +kernel
theorem dL_permit_4 : decode cL_permit 4 = .ok (.invokevirtual 47, 3) := by decide +kernel
theorem dL_permit_7 : decode cL_permit 7 = .ok (.i2l, 1) := by decide +kernel
theorem dL_permit_8 : decode cL_permit 8 = .ok (.lastore, 1) := by decide +kernel
theorem dL_permit_9 : decode cL_permit 9 = .ok (.goto 6, 3) := by decide +kernel
theorem dL_permit_12 : decode cL_permit 12 = .ok (.astore_n 3, 1) := by decide +kernel
theorem dL_permit_13 : decode cL_permit 13 = .ok (.iconst 1, 1) := by decide +kernel
theorem dL_permit_14 : decode cL_permit 14 = .ok (.ireturn, 1) := by decide +kernel
theorem dL_permit_15 : decode cL_permit 15 = .ok (.iconst 0, 1) := by decide +kernel
theorem dL_permit_16 : decode cL_permit 16 = .ok (.ireturn, 1) := by decide +kernel
theorem dL_release_0 : decode cL_release 0 = .ok (.aload_n 2, 1) := by decide +kernel
theorem dL_release_1 : decode cL_release 1 = .ok (.iconst 0, 1) := by decide +kernel
theorem dL_release_2 : decode cL_release 2 = .ok (.aload_n 0, 1) := by decide +kernel
theorem dL_release_3 : decode cL_release 3 = .ok (.iload_n 1, 1) := by decide +kernel
theorem dL_release_4 : decode cL_release 4 = .ok (.invokevirtual 50, 3) := by decide +kernel
theorem dL_release_7 : decode cL_release 7 = .ok (.i2l, 1) := by decide +kernel
theorem dL_release_8 : decode cL_release 8 = .ok (.lastore, 1) := by decide +kernel
theorem dL_release_9 : decode cL_release 9 = .ok (.goto 9, 3) := by decide +kernel
theorem dL_release_12 : decode cL_release 12 = .ok (.astore_n 3, 1) := by decide +kernel
theorem dL_release_13 : decode cL_release 13 = .ok (.iconst 1, 1) := by decide +kernel
theorem dL_release_14 : decode cL_release 14 = .ok (.ireturn, 1) := by decide +kernel
theorem dL_release_15 : decode cL_release 15 = .ok (.astore_n 3, 1) := by decide +kernel
theorem dL_release_16 : decode cL_release 16 = .ok (.iconst 2, 1) := by decide +kernel
theorem dL_release_17 : decode cL_release 17 = .ok (.ireturn, 1) := by decide +kernel
theorem dL_release_18 : decode cL_release 18 = .ok (.iconst 0, 1) := by decide +kernel
theorem dL_release_19 : decode cL_release 19 = .ok (.ireturn, 1) := by decide +kernel
theorem dL_pass_0 : decode cL_pass 0 = .ok (.aload_n 2, 1) := by decide +kernel
theorem dL_pass_1 : decode cL_pass 1 = .ok (.iconst 0, 1) := by decide +kernel
theorem dL_pass_2 : decode cL_pass 2 = .ok (.aload_n 0, 1) := by decide +kernel
theorem dL_pass_3 : decode cL_pass 3 = .ok (.iload_n 1, 1) := by decide +kernel
theorem dL_pass_4 : decode cL_pass 4 = .ok (.invokevirtual 53, 3) := by decide +kernel
theorem dL_pass_7 : decode cL_pass 7 = .ok (.i2l, 1) := by decide +kernel
theorem dL_pass_8 : decode cL_pass 8 = .ok (.lastore, 1) := by decide +kernel
theorem dL_pass_9 : decode cL_pass 9 = .ok (.goto 6, 3) := by decide +kernel
theorem dL_pass_12 : decode cL_pass 12 = .ok (.astore_n 3, 1) := by decide +kernel
theorem dL_pass_13 : decode cL_pass 13 = .ok (.iconst 1, 1) := by decide +kernel
theorem dL_pass_14 : decode cL_pass 14 = .ok (.ireturn, 1) := by decide +kernel
theorem dL_pass_15 : decode cL_pass 15 = .ok (.iconst 0, 1) := by decide +kernel
theorem dL_pass_16 : decode cL_pass 16 = .ok (.ireturn, 1) := by decide +kernel
theorem dL_code_0 : decode cL_code 0 = .ok (.aload_n 2, 1) := by decide +kernel
theorem dL_code_1 : decode cL_code 1 = .ok (.iconst 0, 1) := by decide +kernel
theorem dL_code_2 : decode cL_code 2 = .ok (.aload_n 0, 1) := by decide +kernel
theorem dL_code_3 : decode cL_code 3 = .ok (.iload_n 1, 1) := by decide +kernel
theorem dL_code_4 : decode cL_code 4 = .ok (.invokevirtual 56, 3) := by decide +kernel
theorem dL_code_7 : decode cL_code 7 = .ok (.i2l, 1) := by decide +kernel
theorem dL_code_8 : decode cL_code 8 = .ok (.lastore, 1) := by decide +kernel
theorem dL_code_9 : decode cL_code 9 = .ok (.goto 6, 3) := by decide +kernel
theorem dL_code_12 : decode cL_code 12 = .ok (.astore_n 3, 1) := by decide +kernel
theorem dL_code_13 : decode cL_code 13 = .ok (.iconst 1, 1) := by decide +kernel
theorem dL_code_14 : decode cL_code 14 = .ok (.ireturn, 1) := by decide +kernel
theorem dL_code_15 : decode cL_code 15 = .ok (.iconst 0, 1) := by decide +kernel
theorem dL_code_16 : decode cL_code 16 = .ok (.ireturn, 1) := by decide +kernel
theorem dL_thirdOf_0 : decode cL_thirdOf 0 = .ok (.aload_n 3, 1) := by decide +kernel
theorem dL_thirdOf_1 : decode cL_thirdOf 1 = .ok (.iconst 0, 1) := by decide +kernel
theorem dL_thirdOf_2 : decode cL_thirdOf 2 = .ok (.aload_n 0, 1) := by decide +kernel
theorem dL_thirdOf_3 : decode cL_thirdOf 3 = .ok (.iload_n 1, 1) := by decide +kernel
theorem dL_thirdOf_4 : decode cL_thirdOf 4 = .ok (.iload_n 2, 1) := by decide +kernel
theorem dL_thirdOf_5 : decode cL_thirdOf 5 = .ok (.invokevirtual 59, 3) := by decide +kernel
theorem dL_thirdOf_8 : decode cL_thirdOf 8 = .ok (.i2l, 1) := by decide +kernel
theorem dL_thirdOf_9 : decode cL_thirdOf 9 = .ok (.lastore, 1) := by decide +kernel
theorem dL_thirdOf_10 : decode cL_thirdOf 10 = .ok (.goto 11, 3) := by decide +kernel
theorem dL_thirdOf_13 : decode cL_thirdOf 13 = .ok (.astore 4, 2) := by decide +kernel
theorem dL_thirdOf_15 : decode cL_thirdOf 15 = .ok (.iconst 1, 1) := by decide +kernel
theorem dL_thirdOf_16 : decode cL_thirdOf 16 = .ok (.ireturn, 1) := by decide +kernel
theorem dL_thirdOf_17 : decode cL_thirdOf 17 = .ok (.astore 4, 2) := by decide +kernel
theorem dL_thirdOf_19 : decode cL_thirdOf 19 = .ok (.iconst 2, 1) := by decide +kernel
theorem dL_thirdOf_20 : decode cL_thirdOf 20 = .ok (.ireturn, 1) := by decide +kernel
theorem dL_thirdOf_21 : decode cL_thirdOf 21 = .ok (.iconst 0, 1) := by decide +kernel
theorem dL_thirdOf_22 : decode cL_thirdOf 22 = .ok (.ireturn, 1) := by decide +kernel
theorem dL_aircraftOf_0 : decode cL_aircraftOf 0 = .ok (.aload_n 3, 1) := by decide +kernel
theorem dL_aircraftOf_1 : decode cL_aircraftOf 1 = .ok (.iconst 0, 1) := by decide +kernel
theorem dL_aircraftOf_2 : decode cL_aircraftOf 2 = .ok (.aload_n 0, 1) := by decide +kernel
theorem dL_aircraftOf_3 : decode cL_aircraftOf 3 = .ok (.iload_n 1, 1) := by decide +kernel
theorem dL_aircraftOf_4 : decode cL_aircraftOf 4 = .ok (.iload_n 2, 1) := by decide +kernel
theorem dL_aircraftOf_5 : decode cL_aircraftOf 5 = .ok (.invokevirtual 62, 3) := by decide +kernel
theorem dL_aircraftOf_8 : decode cL_aircraftOf 8 = .ok (.i2l, 1) := by decide +kernel
theorem dL_aircraftOf_9 : decode cL_aircraftOf 9 = .ok (.lastore, 1) := by decide +kernel
theorem dL_aircraftOf_10 : decode cL_aircraftOf 10 = .ok (.goto 11, 3) := by decide +kernel
theorem dL_aircraftOf_13 : decode cL_aircraftOf 13 = .ok (.astore 4, 2) := by decide +kernel
theorem dL_aircraftOf_15 : decode cL_aircraftOf 15 = .ok (.iconst 1, 1) := by decide +kernel
theorem dL_aircraftOf_16 : decode cL_aircraftOf 16 = .ok (.ireturn, 1) := by decide +kernel
theorem dL_aircraftOf_17 : decode cL_aircraftOf 17 = .ok (.astore 4, 2) := by decide +kernel
theorem dL_aircraftOf_19 : decode cL_aircraftOf 19 = .ok (.iconst 2, 1) := by decide +kernel
theorem dL_aircraftOf_20 : decode cL_aircraftOf 20 = .ok (.ireturn, 1) := by decide +kernel
theorem dL_aircraftOf_21 : decode cL_aircraftOf 21 = .ok (.iconst 0, 1) := by decide +kernel
theorem dL_aircraftOf_22 : decode cL_aircraftOf 22 = .ok (.ireturn, 1) := by decide +kernel
theorem dL_clock_0 : decode cL_clock 0 = .ok (.aload_n 2, 1) := by decide +kernel
theorem dL_clock_1 : decode cL_clock 1 = .ok (.iconst 0, 1) := by decide +kernel
theorem dL_clock_2 : decode cL_clock 2 = .ok (.aload_n 0, 1) := by decide +kernel
theorem dL_clock_3 : decode cL_clock 3 = .ok (.iload_n 1, 1) := by decide +kernel
theorem dL_clock_4 : decode cL_clock 4 = .ok (.invokevirtual 65, 3) := by decide +kernel
theorem dL_clock_7 : decode cL_clock 7 = .ok (.dastore, 1) := by decide +kernel
theorem dL_clock_8 : decode cL_clock 8 = .ok (.goto 9, 3) := by decide +kernel
theorem dL_clock_11 : decode cL_clock 11 = .ok (.astore_n 3, 1) := by decide +kernel
theorem dL_clock_12 : decode cL_clock 12 = .ok (.iconst 1, 1) := by decide +kernel
theorem dL_clock_13 : decode cL_clock 13 = .ok (.ireturn, 1) := by decide +kernel
theorem dL_clock_14 : decode cL_clock 14 = .ok (.astore_n 3, 1) := by decide +kernel
theorem dL_clock_15 : decode cL_clock 15 = .ok (.iconst 2, 1) := by decide +kernel
theorem dL_clock_16 : decode cL_clock 16 = .ok (.ireturn, 1) := by decide +kernel
theorem dL_clock_17 : decode cL_clock 17 = .ok (.iconst 0, 1) := by decide +kernel
theorem dL_clock_18 : decode cL_clock 18 = .ok (.ireturn, 1) := by decide +kernel
theorem dL_whyNot_0 : decode cL_whyNot 0 = .ok (.aload_n 2, 1) := by decide +kernel
theorem dL_whyNot_1 : decode cL_whyNot 1 = .ok (.iconst 0, 1) := by decide +kernel
theorem dL_whyNot_2 : decode cL_whyNot 2 = .ok (.aload_n 0, 1) := by decide +kernel
theorem dL_whyNot_3 : decode cL_whyNot 3 = .ok (.iload_n 1, 1) := by decide +kernel
theorem dL_whyNot_4 : decode cL_whyNot 4 = .ok (.invokevirtual 69, 3) := by decide +kernel
theorem dL_whyNot_7 : decode cL_whyNot 7 = .ok (.i2l, 1) := by decide +kernel
theorem dL_whyNot_8 : decode cL_whyNot 8 = .ok (.lastore, 1) := by decide +kernel
theorem dL_whyNot_9 : decode cL_whyNot 9 = .ok (.goto 6, 3) := by decide +kernel
theorem dL_whyNot_12 : decode cL_whyNot 12 = .ok (.astore_n 3, 1) := by decide +kernel
theorem dL_whyNot_13 : decode cL_whyNot 13 = .ok (.iconst 1, 1) := by decide +kernel
theorem dL_whyNot_14 : decode cL_whyNot 14 = .ok (.ireturn, 1) := by decide +kernel
theorem dL_whyNot_15 : decode cL_whyNot 15 = .ok (.iconst 0, 1) := by decide +kernel
theorem dL_whyNot_16 : decode cL_whyNot 16 = .ok (.ireturn, 1) := by decide +kernel
theorem dL_queue_0 : decode cL_queue 0 = .ok (.aload_n 2, 1) := by decide +kernel
theorem dL_queue_1 : decode cL_queue 1 = .ok (.iconst 0, 1) := by decide +kernel
theorem dL_queue_2 : decode cL_queue 2 = .ok (.aload_n 0, 1) := by decide +kernel
theorem dL_queue_3 : decode cL_queue 3 = .ok (.iload_n 1, 1) := by decide +kernel
theorem dL_queue_4 : decode cL_queue 4 = .ok (.invokevirtual 72, 3) := by decide +kernel
theorem dL_queue_7 : decode cL_queue 7 = .ok (.i2l, 1) := by decide +kernel
theorem dL_queue_8 : decode cL_queue 8 = .ok (.lastore, 1) := by decide +kernel
theorem dL_queue_9 : decode cL_queue 9 = .ok (.goto 6, 3) := by decide +kernel
theorem dL_queue_12 : decode cL_queue 12 = .ok (.astore_n 3, 1) := by decide +kernel
theorem dL_queue_13 : decode cL_queue 13 = .ok (.iconst 1, 1) := by decide +kernel
theorem dL_queue_14 : decode cL_queue 14 = .ok (.ireturn, 1) := by decide +kernel
theorem dL_queue_15 : decode cL_queue 15 = .ok (.iconst 0, 1) := by decide +kernel
theorem dL_queue_16 : decode cL_queue 16 = .ok (.ireturn, 1) := by decide +kernel
theorem dL_sum_0 : decode cL_sum 0 = .ok (.aload_n 2, 1) := by decide +kernel
theorem dL_sum_1 : decode cL_sum 1 = .ok (.iconst 0, 1) := by decide +kernel
theorem dL_sum_2 : decode cL_sum 2 = .ok (.aload_n 0, 1) := by decide +kernel
theorem dL_sum_3 : decode cL_sum 3 = .ok (.iload_n 1, 1) := by decide +kernel
theorem dL_sum_4 : decode cL_sum 4 = .ok (.invokevirtual 75, 3) := by decide +kernel
theorem dL_sum_7 : decode cL_sum 7 = .ok (.i2l, 1) := by decide +kernel
theorem dL_sum_8 : decode cL_sum 8 = .ok (.lastore, 1) := by decide +kernel
theorem dL_sum_9 : decode cL_sum 9 = .ok (.goto 6, 3) := by decide +kernel
theorem dL_sum_12 : decode cL_sum 12 = .ok (.astore_n 3, 1) := by decide +kernel
theorem dL_sum_13 : decode cL_sum 13 = .ok (.iconst 1, 1) := by decide +kernel
theorem dL_sum_14 : decode cL_sum 14 = .ok (.ireturn, 1) := by decide +kernel
theorem dL_sum_15 : decode cL_sum 15 = .ok (.iconst 0, 1) := by decide +kernel
theorem dL_sum_16 : decode cL_sum 16 = .ok (.ireturn, 1) := by decide +kernel
end
section
theorem dL_law_0 : decode cL_law 0 = .ok (.new 8, 3) := by decide +kernel
theorem dL_law_3 : decode cL_law 3 = .ok (.dup, 1) := by decide +kernel
theorem dL_law_4 : decode cL_law 4 = .ok (.invokespecial 78, 3) := by decide +kernel
theorem dL_law_7 : decode cL_law 7 = .ok (.astore_n 1, 1) := by decide +kernel
theorem dL_law_8 : decode cL_law 8 = .ok (.new 79, 3) := by decide +kernel
theorem dL_law_11 : decode cL_law 11 = .ok (.dup, 1) := by decide +kernel
theorem dL_law_12 : decode cL_law 12 = .ok (.invokespecial 81, 3) := by decide +kernel
theorem dL_law_15 : decode cL_law 15 = .ok (.astore_n 2, 1) := by decide +kernel
theorem dL_law_16 : decode cL_law 16 = .ok (.iconst 1, 1) := by decide +kernel
theorem dL_law_17 : decode cL_law 17 = .ok (.newarray .long, 2) := by decide +kernel
theorem dL_law_19 : decode cL_law 19 = .ok (.astore_n 3, 1) := by decide +kernel
theorem dL_law_20 : decode cL_law 20 = .ok (.iconst 1, 1) := by decide +kernel
theorem dL_law_21 : decode cL_law 21 = .ok (.newarray .double, 2) := by decide +kernel
theorem dL_law_23 : decode cL_law 23 = .ok (.astore 4, 2) := by decide +kernel
theorem dL_law_25 : decode cL_law 25 = .ok (.iconst 0, 1) := by decide +kernel
theorem dL_law_26 : decode cL_law 26 = .ok (.istore 5, 2) := by decide +kernel
theorem dL_law_28 : decode cL_law 28 = .ok (.iload 5, 2) := by decide +kernel
theorem dL_law_30 : decode cL_law 30 = .ok (.aload_n 0, 1) := by decide +kernel
theorem dL_law_31 : decode cL_law 31 = .ok (.arraylength, 1) := by decide +kernel
theorem dL_law_32 : decode cL_law 32 = .ok (.bipush 6, 2) := by decide +kernel
theorem dL_law_34 : decode cL_law 34 = .ok (.isub, 1) := by decide +kernel
theorem dL_law_35 : decode cL_law 35 = .ok (.if_icmp .gt 1381, 3) := by decide +kernel
theorem dL_law_38 : decode cL_law 38 = .ok (.aload_n 0, 1) := by decide +kernel
theorem dL_law_39 : decode cL_law 39 = .ok (.iload 5, 2) := by decide +kernel
theorem dL_law_41 : decode cL_law 41 = .ok (.iaload, 1) := by decide +kernel
theorem dL_law_42 : decode cL_law 42 = .ok (.bipush 31, 2) := by decide +kernel
theorem dL_law_44 : decode cL_law 44 = .ok (.iand, 1) := by decide +kernel
theorem dL_law_45 : decode cL_law 45 = .ok (.tableswitch 1365 0 19 #[95, 167, 223, 291, 359, 427, 507, 587, 691, 747, 803, 859, 915, 971, 1039, 1052, 1120, 1197, 1253, 1309], 95) := by decide +kernel
theorem dL_law_140 : decode cL_law 140 = .ok (.aload_n 1, 1) := by decide +kernel
theorem dL_law_141 : decode cL_law 141 = .ok (.aload_n 0, 1) := by decide +kernel
theorem dL_law_142 : decode cL_law 142 = .ok (.iload 5, 2) := by decide +kernel
theorem dL_law_144 : decode cL_law 144 = .ok (.iconst 1, 1) := by decide +kernel
theorem dL_law_145 : decode cL_law 145 = .ok (.iadd, 1) := by decide +kernel
theorem dL_law_146 : decode cL_law 146 = .ok (.iaload, 1) := by decide +kernel
theorem dL_law_147 : decode cL_law 147 = .ok (.aload_n 0, 1) := by decide +kernel
theorem dL_law_148 : decode cL_law 148 = .ok (.iload 5, 2) := by decide +kernel
theorem dL_law_150 : decode cL_law 150 = .ok (.iconst 2, 1) := by decide +kernel
theorem dL_law_151 : decode cL_law 151 = .ok (.iadd, 1) := by decide +kernel
theorem dL_law_152 : decode cL_law 152 = .ok (.iaload, 1) := by decide +kernel
theorem dL_law_153 : decode cL_law 153 = .ok (.aload_n 0, 1) := by decide +kernel
theorem dL_law_154 : decode cL_law 154 = .ok (.iload 5, 2) := by decide +kernel
theorem dL_law_156 : decode cL_law 156 = .ok (.iconst 3, 1) := by decide +kernel
theorem dL_law_157 : decode cL_law 157 = .ok (.iadd, 1) := by decide +kernel
theorem dL_law_158 : decode cL_law 158 = .ok (.iaload, 1) := by decide +kernel
theorem dL_law_159 : decode cL_law 159 = .ok (.aload_n 0, 1) := by decide +kernel
theorem dL_law_160 : decode cL_law 160 = .ok (.iload 5, 2) := by decide +kernel
theorem dL_law_162 : decode cL_law 162 = .ok (.iconst 4, 1) := by decide +kernel
theorem dL_law_163 : decode cL_law 163 = .ok (.iadd, 1) := by decide +kernel
theorem dL_law_164 : decode cL_law 164 = .ok (.iaload, 1) := by decide +kernel
theorem dL_law_165 : decode cL_law 165 = .ok (.invokestatic 82, 3) := by decide +kernel
theorem dL_law_168 : decode cL_law 168 = .ok (.istore 6, 2) := by decide +kernel
theorem dL_law_170 : decode cL_law 170 = .ok (.aload_n 2, 1) := by decide +kernel
theorem dL_law_171 : decode cL_law 171 = .ok (.aload_n 0, 1) := by decide +kernel
theorem dL_law_172 : decode cL_law 172 = .ok (.iload 5, 2) := by decide +kernel
theorem dL_law_174 : decode cL_law 174 = .ok (.iconst 1, 1) := by decide +kernel
theorem dL_law_175 : decode cL_law 175 = .ok (.iadd, 1) := by decide +kernel
theorem dL_law_176 : decode cL_law 176 = .ok (.iaload, 1) := by decide +kernel
theorem dL_law_177 : decode cL_law 177 = .ok (.aload_n 0, 1) := by decide +kernel
theorem dL_law_178 : decode cL_law 178 = .ok (.iload 5, 2) := by decide +kernel
theorem dL_law_180 : decode cL_law 180 = .ok (.iconst 2, 1) := by decide +kernel
theorem dL_law_181 : decode cL_law 181 = .ok (.iadd, 1) := by decide +kernel
theorem dL_law_182 : decode cL_law 182 = .ok (.iaload, 1) := by decide +kernel
theorem dL_law_183 : decode cL_law 183 = .ok (.aload_n 0, 1) := by decide +kernel
theorem dL_law_184 : decode cL_law 184 = .ok (.iload 5, 2) := by decide +kernel
theorem dL_law_186 : decode cL_law 186 = .ok (.iconst 3, 1) := by decide +kernel
theorem dL_law_187 : decode cL_law 187 = .ok (.iadd, 1) := by decide +kernel
theorem dL_law_188 : decode cL_law 188 = .ok (.iaload, 1) := by decide +kernel
theorem dL_law_189 : decode cL_law 189 = .ok (.aload_n 0, 1) := by decide +kernel
theorem dL_law_190 : decode cL_law 190 = .ok (.iload 5, 2) := by decide +kernel
theorem dL_law_192 : decode cL_law 192 = .ok (.iconst 4, 1) := by decide +kernel
theorem dL_law_193 : decode cL_law 193 = .ok (.iadd, 1) := by decide +kernel
theorem dL_law_194 : decode cL_law 194 = .ok (.iaload, 1) := by decide +kernel
theorem dL_law_195 : decode cL_law 195 = .ok (.invokevirtual 87, 3) := by decide +kernel
theorem dL_law_198 : decode cL_law 198 = .ok (.aload_n 2, 1) := by decide +kernel
theorem dL_law_199 : decode cL_law 199 = .ok (.invokevirtual 88, 3) := by decide +kernel
theorem dL_law_202 : decode cL_law 202 = .ok (.iload 6, 2) := by decide +kernel
theorem dL_law_204 : decode cL_law 204 = .ok (.if_icmp .eq 5, 3) := by decide +kernel
theorem dL_law_207 : decode cL_law 207 = .ok (.iconst 0, 1) := by decide +kernel
theorem dL_law_208 : decode cL_law 208 = .ok (.ireturn, 1) := by decide +kernel
theorem dL_law_209 : decode cL_law 209 = .ok (.goto 1201, 3) := by decide +kernel
theorem dL_law_212 : decode cL_law 212 = .ok (.aload_n 1, 1) := by decide +kernel
theorem dL_law_213 : decode cL_law 213 = .ok (.aload_n 0, 1) := by decide +kernel
theorem dL_law_214 : decode cL_law 214 = .ok (.iload 5, 2) := by decide +kernel
theorem dL_law_216 : decode cL_law 216 = .ok (.iconst 1, 1) := by decide +kernel
theorem dL_law_217 : decode cL_law 217 = .ok (.iadd, 1) := by decide +kernel
theorem dL_law_218 : decode cL_law 218 = .ok (.iaload, 1) := by decide +kernel
theorem dL_law_219 : decode cL_law 219 = .ok (.aload_n 3, 1) := by decide +kernel
theorem dL_law_220 : decode cL_law 220 = .ok (.invokestatic 92, 3) := by decide +kernel
theorem dL_law_223 : decode cL_law 223 = .ok (.istore 6, 2) := by decide +kernel
theorem dL_law_225 : decode cL_law 225 = .ok (.aload_n 2, 1) := by decide +kernel
theorem dL_law_226 : decode cL_law 226 = .ok (.aload_n 0, 1) := by decide +kernel
theorem dL_law_227 : decode cL_law 227 = .ok (.iload 5, 2) := by decide +kernel
theorem dL_law_229 : decode cL_law 229 = .ok (.iconst 1, 1) := by decide +kernel
theorem dL_law_230 : decode cL_law 230 = .ok (.iadd, 1) := by decide +kernel
theorem dL_law_231 : decode cL_law 231 = .ok (.iaload, 1) := by decide +kernel
theorem dL_law_232 : decode cL_law 232 = .ok (.invokevirtual 95, 3) := by decide +kernel
theorem dL_law_235 : decode cL_law 235 = .ok (.istore 7, 2) := by decide +kernel
theorem dL_law_237 : decode cL_law 237 = .ok (.aload_n 2, 1) := by decide +kernel
theorem dL_law_238 : decode cL_law 238 = .ok (.invokevirtual 88, 3) := by decide +kernel
theorem dL_law_241 : decode cL_law 241 = .ok (.iload 6, 2) := by decide +kernel
theorem dL_law_243 : decode cL_law 243 = .ok (.if_icmp .eq 5, 3) := by decide +kernel
theorem dL_law_246 : decode cL_law 246 = .ok (.iconst 0, 1) := by decide +kernel
theorem dL_law_247 : decode cL_law 247 = .ok (.ireturn, 1) := by decide +kernel
theorem dL_law_248 : decode cL_law 248 = .ok (.iload 6, 2) := by decide +kernel
theorem dL_law_250 : decode cL_law 250 = .ok (.ifCond .ne 15, 3) := by decide +kernel
theorem dL_law_253 : decode cL_law 253 = .ok (.aload_n 3, 1) := by decide +kernel
theorem dL_law_254 : decode cL_law 254 = .ok (.iconst 0, 1) := by decide +kernel
theorem dL_law_255 : decode cL_law 255 = .ok (.laload, 1) := by decide +kernel
theorem dL_law_256 : decode cL_law 256 = .ok (.iload 7, 2) := by decide +kernel
theorem dL_law_258 : decode cL_law 258 = .ok (.i2l, 1) := by decide +kernel
theorem dL_law_259 : decode cL_law 259 = .ok (.lcmp, 1) := by decide +kernel
theorem dL_law_260 : decode cL_law 260 = .ok (.ifCond .eq 5, 3) := by decide +kernel
theorem dL_law_263 : decode cL_law 263 = .ok (.iconst 0, 1) := by decide +kernel
theorem dL_law_264 : decode cL_law 264 = .ok (.ireturn, 1) := by decide +kernel
theorem dL_law_265 : decode cL_law 265 = .ok (.goto 1145, 3) := by decide +kernel
theorem dL_law_268 : decode cL_law 268 = .ok (.aload_n 1, 1) := by decide +kernel
theorem dL_law_269 : decode cL_law 269 = .ok (.aload_n 0, 1) := by decide +kernel
theorem dL_law_270 : decode cL_law 270 = .ok (.iload 5, 2) := by decide +kernel
theorem dL_law_272 : decode cL_law 272 = .ok (.iconst 1, 1) := by decide +kernel
theorem dL_law_273 : decode cL_law 273 = .ok (.iadd, 1) := by decide +kernel
theorem dL_law_274 : decode cL_law 274 = .ok (.iaload, 1) := by decide +kernel
theorem dL_law_275 : decode cL_law 275 = .ok (.aload_n 0, 1) := by decide +kernel
theorem dL_law_276 : decode cL_law 276 = .ok (.iload 5, 2) := by decide +kernel
theorem dL_law_278 : decode cL_law 278 = .ok (.iconst 2, 1) := by decide +kernel
theorem dL_law_279 : decode cL_law 279 = .ok (.iadd, 1) := by decide +kernel
theorem dL_law_280 : decode cL_law 280 = .ok (.iaload, 1) := by decide +kernel
theorem dL_law_281 : decode cL_law 281 = .ok (.aload_n 3, 1) := by decide +kernel
theorem dL_law_282 : decode cL_law 282 = .ok (.invokestatic 96, 3) := by decide +kernel
theorem dL_law_285 : decode cL_law 285 = .ok (.istore 6, 2) := by decide +kernel
theorem dL_law_287 : decode cL_law 287 = .ok (.aload_n 2, 1) := by decide +kernel
theorem dL_law_288 : decode cL_law 288 = .ok (.aload_n 0, 1) := by decide +kernel
theorem dL_law_289 : decode cL_law 289 = .ok (.iload 5, 2) := by decide +kernel
theorem dL_law_291 : decode cL_law 291 = .ok (.iconst 1, 1) := by decide +kernel
theorem dL_law_292 : decode cL_law 292 = .ok (.iadd, 1) := by decide +kernel
theorem dL_law_293 : decode cL_law 293 = .ok (.iaload, 1) := by decide +kernel
theorem dL_law_294 : decode cL_law 294 = .ok (.aload_n 0, 1) := by decide +kernel
theorem dL_law_295 : decode cL_law 295 = .ok (.iload 5, 2) := by decide +kernel
theorem dL_law_297 : decode cL_law 297 = .ok (.iconst 2, 1) := by decide +kernel
theorem dL_law_298 : decode cL_law 298 = .ok (.iadd, 1) := by decide +kernel
theorem dL_law_299 : decode cL_law 299 = .ok (.iaload, 1) := by decide +kernel
theorem dL_law_300 : decode cL_law 300 = .ok (.invokevirtual 99, 3) := by decide +kernel
theorem dL_law_303 : decode cL_law 303 = .ok (.istore 7, 2) := by decide +kernel
theorem dL_law_305 : decode cL_law 305 = .ok (.aload_n 2, 1) := by decide +kernel
theorem dL_law_306 : decode cL_law 306 = .ok (.invokevirtual 88, 3) := by decide +kernel
theorem dL_law_309 : decode cL_law 309 = .ok (.iload 6, 2) := by decide +kernel
theorem dL_law_311 : decode cL_law 311 = .ok (.if_icmp .eq 5, 3) := by decide +kernel
theorem dL_law_314 : decode cL_law 314 = .ok (.iconst 0, 1) := by decide +kernel
theorem dL_law_315 : decode cL_law 315 = .ok (.ireturn, 1) := by decide +kernel
theorem dL_law_316 : decode cL_law 316 = .ok (.iload 6, 2) := by decide +kernel
theorem dL_law_318 : decode cL_law 318 = .ok (.ifCond .ne 15, 3) := by decide +kernel
theorem dL_law_321 : decode cL_law 321 = .ok (.aload_n 3, 1) := by decide +kernel
theorem dL_law_322 : decode cL_law 322 = .ok (.iconst 0, 1) := by decide +kernel
theorem dL_law_323 : decode cL_law 323 = .ok (.laload, 1) := by decide +kernel
theorem dL_law_324 : decode cL_law 324 = .ok (.iload 7, 2) := by decide +kernel
theorem dL_law_326 : decode cL_law 326 = .ok (.i2l, 1) := by decide +kernel
theorem dL_law_327 : decode cL_law 327 = .ok (.lcmp, 1) := by decide +kernel
theorem dL_law_328 : decode cL_law 328 = .ok (.ifCond .eq 5, 3) := by decide +kernel
theorem dL_law_331 : decode cL_law 331 = .ok (.iconst 0, 1) := by decide +kernel
theorem dL_law_332 : decode cL_law 332 = .ok (.ireturn, 1) := by decide +kernel
theorem dL_law_333 : decode cL_law 333 = .ok (.goto 1077, 3) := by decide +kernel
theorem dL_law_336 : decode cL_law 336 = .ok (.aload_n 1, 1) := by decide +kernel
theorem dL_law_337 : decode cL_law 337 = .ok (.aload_n 0, 1) := by decide +kernel
theorem dL_law_338 : decode cL_law 338 = .ok (.iload 5, 2) := by decide +kernel
theorem dL_law_340 : decode cL_law 340 = .ok (.iconst 1, 1) := by decide +kernel
theorem dL_law_341 : decode cL_law 341 = .ok (.iadd, 1) := by decide +kernel
theorem dL_law_342 : decode cL_law 342 = .ok (.iaload, 1) := by decide +kernel
theorem dL_law_343 : decode cL_law 343 = .ok (.aload_n 0, 1) := by decide +kernel
theorem dL_law_344 : decode cL_law 344 = .ok (.iload 5, 2) := by decide +kernel
theorem dL_law_346 : decode cL_law 346 = .ok (.iconst 2, 1) := by decide +kernel
theorem dL_law_347 : decode cL_law 347 = .ok (.iadd, 1) := by decide +kernel
theorem dL_law_348 : decode cL_law 348 = .ok (.iaload, 1) := by decide +kernel
theorem dL_law_349 : decode cL_law 349 = .ok (.aload_n 3, 1) := by decide +kernel
theorem dL_law_350 : decode cL_law 350 = .ok (.invokestatic 100, 3) := by decide +kernel
theorem dL_law_353 : decode cL_law 353 = .ok (.istore 6, 2) := by decide +kernel
theorem dL_law_355 : decode cL_law 355 = .ok (.aload_n 2, 1) := by decide +kernel
theorem dL_law_356 : decode cL_law 356 = .ok (.aload_n 0, 1) := by decide +kernel
theorem dL_law_357 : decode cL_law 357 = .ok (.iload 5, 2) := by decide +kernel
theorem dL_law_359 : decode cL_law 359 = .ok (.iconst 1, 1) := by decide +kernel
theorem dL_law_360 : decode cL_law 360 = .ok (.iadd, 1) := by decide +kernel
theorem dL_law_361 : decode cL_law 361 = .ok (.iaload, 1) := by decide +kernel
theorem dL_law_362 : decode cL_law 362 = .ok (.aload_n 0, 1) := by decide +kernel
theorem dL_law_363 : decode cL_law 363 = .ok (.iload 5, 2) := by decide +kernel
theorem dL_law_365 : decode cL_law 365 = .ok (.iconst 2, 1) := by decide +kernel
theorem dL_law_366 : decode cL_law 366 = .ok (.iadd, 1) := by decide +kernel
theorem dL_law_367 : decode cL_law 367 = .ok (.iaload, 1) := by decide +kernel
theorem dL_law_368 : decode cL_law 368 = .ok (.invokevirtual 102, 3) := by decide +kernel
theorem dL_law_371 : decode cL_law 371 = .ok (.istore 7, 2) := by decide +kernel
theorem dL_law_373 : decode cL_law 373 = .ok (.aload_n 2, 1) := by decide +kernel
theorem dL_law_374 : decode cL_law 374 = .ok (.invokevirtual 88, 3) := by decide +kernel
theorem dL_law_377 : decode cL_law 377 = .ok (.iload 6, 2) := by decide +kernel
theorem dL_law_379 : decode cL_law 379 = .ok (.if_icmp .eq 5, 3) := by decide +kernel
theorem dL_law_382 : decode cL_law 382 = .ok (.iconst 0, 1) := by decide +kernel
theorem dL_law_383 : decode cL_law 383 = .ok (.ireturn, 1) := by decide +kernel
theorem dL_law_384 : decode cL_law 384 = .ok (.iload 6, 2) := by decide +kernel
theorem dL_law_386 : decode cL_law 386 = .ok (.ifCond .ne 15, 3) := by decide +kernel
theorem dL_law_389 : decode cL_law 389 = .ok (.aload_n 3, 1) := by decide +kernel
theorem dL_law_390 : decode cL_law 390 = .ok (.iconst 0, 1) := by decide +kernel
theorem dL_law_391 : decode cL_law 391 = .ok (.laload, 1) := by decide +kernel
theorem dL_law_392 : decode cL_law 392 = .ok (.iload 7, 2) := by decide +kernel
theorem dL_law_394 : decode cL_law 394 = .ok (.i2l, 1) := by decide +kernel
theorem dL_law_395 : decode cL_law 395 = .ok (.lcmp, 1) := by decide +kernel
theorem dL_law_396 : decode cL_law 396 = .ok (.ifCond .eq 5, 3) := by decide +kernel
theorem dL_law_399 : decode cL_law 399 = .ok (.iconst 0, 1) := by decide +kernel
theorem dL_law_400 : decode cL_law 400 = .ok (.ireturn, 1) := by decide +kernel
theorem dL_law_401 : decode cL_law 401 = .ok (.goto 1009, 3) := by decide +kernel
theorem dL_law_404 : decode cL_law 404 = .ok (.aload_n 1, 1) := by decide +kernel
theorem dL_law_405 : decode cL_law 405 = .ok (.aload_n 0, 1) := by decide +kernel
theorem dL_law_406 : decode cL_law 406 = .ok (.iload 5, 2) := by decide +kernel
theorem dL_law_408 : decode cL_law 408 = .ok (.iconst 1, 1) := by decide +kernel
theorem dL_law_409 : decode cL_law 409 = .ok (.iadd, 1) := by decide +kernel
theorem dL_law_410 : decode cL_law 410 = .ok (.iaload, 1) := by decide +kernel
theorem dL_law_411 : decode cL_law 411 = .ok (.aload_n 0, 1) := by decide +kernel
theorem dL_law_412 : decode cL_law 412 = .ok (.iload 5, 2) := by decide +kernel
theorem dL_law_414 : decode cL_law 414 = .ok (.iconst 2, 1) := by decide +kernel
theorem dL_law_415 : decode cL_law 415 = .ok (.iadd, 1) := by decide +kernel
theorem dL_law_416 : decode cL_law 416 = .ok (.iaload, 1) := by decide +kernel
theorem dL_law_417 : decode cL_law 417 = .ok (.aload_n 3, 1) := by decide +kernel
theorem dL_law_418 : decode cL_law 418 = .ok (.invokestatic 103, 3) := by decide +kernel
theorem dL_law_421 : decode cL_law 421 = .ok (.istore 6, 2) := by decide +kernel
theorem dL_law_423 : decode cL_law 423 = .ok (.aload_n 2, 1) := by decide +kernel
theorem dL_law_424 : decode cL_law 424 = .ok (.aload_n 0, 1) := by decide +kernel
theorem dL_law_425 : decode cL_law 425 = .ok (.iload 5, 2) := by decide +kernel
theorem dL_law_427 : decode cL_law 427 = .ok (.iconst 1, 1) := by decide +kernel
theorem dL_law_428 : decode cL_law 428 = .ok (.iadd, 1) := by decide +kernel
theorem dL_law_429 : decode cL_law 429 = .ok (.iaload, 1) := by decide +kernel
theorem dL_law_430 : decode cL_law 430 = .ok (.aload_n 0, 1) := by decide +kernel
theorem dL_law_431 : decode cL_law 431 = .ok (.iload 5, 2) := by decide +kernel
theorem dL_law_433 : decode cL_law 433 = .ok (.iconst 2, 1) := by decide +kernel
theorem dL_law_434 : decode cL_law 434 = .ok (.iadd, 1) := by decide +kernel
theorem dL_law_435 : decode cL_law 435 = .ok (.iaload, 1) := by decide +kernel
theorem dL_law_436 : decode cL_law 436 = .ok (.invokevirtual 105, 3) := by decide +kernel
theorem dL_law_439 : decode cL_law 439 = .ok (.istore 7, 2) := by decide +kernel
theorem dL_law_441 : decode cL_law 441 = .ok (.aload_n 2, 1) := by decide +kernel
theorem dL_law_442 : decode cL_law 442 = .ok (.invokevirtual 88, 3) := by decide +kernel
theorem dL_law_445 : decode cL_law 445 = .ok (.iload 6, 2) := by decide +kernel
theorem dL_law_447 : decode cL_law 447 = .ok (.if_icmp .eq 5, 3) := by decide +kernel
theorem dL_law_450 : decode cL_law 450 = .ok (.iconst 0, 1) := by decide +kernel
theorem dL_law_451 : decode cL_law 451 = .ok (.ireturn, 1) := by decide +kernel
theorem dL_law_452 : decode cL_law 452 = .ok (.iload 6, 2) := by decide +kernel
theorem dL_law_454 : decode cL_law 454 = .ok (.ifCond .ne 15, 3) := by decide +kernel
theorem dL_law_457 : decode cL_law 457 = .ok (.aload_n 3, 1) := by decide +kernel
theorem dL_law_458 : decode cL_law 458 = .ok (.iconst 0, 1) := by decide +kernel
theorem dL_law_459 : decode cL_law 459 = .ok (.laload, 1) := by decide +kernel
theorem dL_law_460 : decode cL_law 460 = .ok (.iload 7, 2) := by decide +kernel
theorem dL_law_462 : decode cL_law 462 = .ok (.i2l, 1) := by decide +kernel
theorem dL_law_463 : decode cL_law 463 = .ok (.lcmp, 1) := by decide +kernel
theorem dL_law_464 : decode cL_law 464 = .ok (.ifCond .eq 5, 3) := by decide +kernel
theorem dL_law_467 : decode cL_law 467 = .ok (.iconst 0, 1) := by decide +kernel
theorem dL_law_468 : decode cL_law 468 = .ok (.ireturn, 1) := by decide +kernel
theorem dL_law_469 : decode cL_law 469 = .ok (.goto 941, 3) := by decide +kernel
theorem dL_law_472 : decode cL_law 472 = .ok (.aload_n 1, 1) := by decide +kernel
theorem dL_law_473 : decode cL_law 473 = .ok (.aload_n 0, 1) := by decide +kernel
theorem dL_law_474 : decode cL_law 474 = .ok (.iload 5, 2) := by decide +kernel
theorem dL_law_476 : decode cL_law 476 = .ok (.iconst 1, 1) := by decide +kernel
theorem dL_law_477 : decode cL_law 477 = .ok (.iadd, 1) := by decide +kernel
theorem dL_law_478 : decode cL_law 478 = .ok (.iaload, 1) := by decide +kernel
theorem dL_law_479 : decode cL_law 479 = .ok (.aload_n 0, 1) := by decide +kernel
theorem dL_law_480 : decode cL_law 480 = .ok (.iload 5, 2) := by decide +kernel
theorem dL_law_482 : decode cL_law 482 = .ok (.iconst 2, 1) := by decide +kernel
theorem dL_law_483 : decode cL_law 483 = .ok (.iadd, 1) := by decide +kernel
theorem dL_law_484 : decode cL_law 484 = .ok (.iaload, 1) := by decide +kernel
theorem dL_law_485 : decode cL_law 485 = .ok (.aload_n 0, 1) := by decide +kernel
theorem dL_law_486 : decode cL_law 486 = .ok (.iload 5, 2) := by decide +kernel
theorem dL_law_488 : decode cL_law 488 = .ok (.iconst 3, 1) := by decide +kernel
theorem dL_law_489 : decode cL_law 489 = .ok (.iadd, 1) := by decide +kernel
theorem dL_law_490 : decode cL_law 490 = .ok (.iaload, 1) := by decide +kernel
theorem dL_law_491 : decode cL_law 491 = .ok (.aload_n 3, 1) := by decide +kernel
theorem dL_law_492 : decode cL_law 492 = .ok (.invokestatic 106, 3) := by decide +kernel
theorem dL_law_495 : decode cL_law 495 = .ok (.istore 6, 2) := by decide +kernel
theorem dL_law_497 : decode cL_law 497 = .ok (.aload_n 2, 1) := by decide +kernel
theorem dL_law_498 : decode cL_law 498 = .ok (.aload_n 0, 1) := by decide +kernel
theorem dL_law_499 : decode cL_law 499 = .ok (.iload 5, 2) := by decide +kernel
theorem dL_law_501 : decode cL_law 501 = .ok (.iconst 1, 1) := by decide +kernel
theorem dL_law_502 : decode cL_law 502 = .ok (.iadd, 1) := by decide +kernel
theorem dL_law_503 : decode cL_law 503 = .ok (.iaload, 1) := by decide +kernel
theorem dL_law_504 : decode cL_law 504 = .ok (.aload_n 0, 1) := by decide +kernel
theorem dL_law_505 : decode cL_law 505 = .ok (.iload 5, 2) := by decide +kernel
theorem dL_law_507 : decode cL_law 507 = .ok (.iconst 2, 1) := by decide +kernel
theorem dL_law_508 : decode cL_law 508 = .ok (.iadd, 1) := by decide +kernel
theorem dL_law_509 : decode cL_law 509 = .ok (.iaload, 1) := by decide +kernel
theorem dL_law_510 : decode cL_law 510 = .ok (.aload_n 0, 1) := by decide +kernel
theorem dL_law_511 : decode cL_law 511 = .ok (.iload 5, 2) := by decide +kernel
theorem dL_law_513 : decode cL_law 513 = .ok (.iconst 3, 1) := by decide +kernel
theorem dL_law_514 : decode cL_law 514 = .ok (.iadd, 1) := by decide +kernel
theorem dL_law_515 : decode cL_law 515 = .ok (.iaload, 1) := by decide +kernel
theorem dL_law_516 : decode cL_law 516 = .ok (.invokevirtual 109, 3) := by decide +kernel
theorem dL_law_519 : decode cL_law 519 = .ok (.istore 7, 2) := by decide +kernel
theorem dL_law_521 : decode cL_law 521 = .ok (.aload_n 2, 1) := by decide +kernel
theorem dL_law_522 : decode cL_law 522 = .ok (.invokevirtual 88, 3) := by decide +kernel
theorem dL_law_525 : decode cL_law 525 = .ok (.iload 6, 2) := by decide +kernel
theorem dL_law_527 : decode cL_law 527 = .ok (.if_icmp .eq 5, 3) := by decide +kernel
theorem dL_law_530 : decode cL_law 530 = .ok (.iconst 0, 1) := by decide +kernel
theorem dL_law_531 : decode cL_law 531 = .ok (.ireturn, 1) := by decide +kernel
theorem dL_law_532 : decode cL_law 532 = .ok (.iload 6, 2) := by decide +kernel
theorem dL_law_534 : decode cL_law 534 = .ok (.ifCond .ne 15, 3) := by decide +kernel
theorem dL_law_537 : decode cL_law 537 = .ok (.aload_n 3, 1) := by decide +kernel
theorem dL_law_538 : decode cL_law 538 = .ok (.iconst 0, 1) := by decide +kernel
theorem dL_law_539 : decode cL_law 539 = .ok (.laload, 1) := by decide +kernel
theorem dL_law_540 : decode cL_law 540 = .ok (.iload 7, 2) := by decide +kernel
theorem dL_law_542 : decode cL_law 542 = .ok (.i2l, 1) := by decide +kernel
theorem dL_law_543 : decode cL_law 543 = .ok (.lcmp, 1) := by decide +kernel
theorem dL_law_544 : decode cL_law 544 = .ok (.ifCond .eq 5, 3) := by decide +kernel
theorem dL_law_547 : decode cL_law 547 = .ok (.iconst 0, 1) := by decide +kernel
theorem dL_law_548 : decode cL_law 548 = .ok (.ireturn, 1) := by decide +kernel
theorem dL_law_549 : decode cL_law 549 = .ok (.goto 861, 3) := by decide +kernel
theorem dL_law_552 : decode cL_law 552 = .ok (.aload_n 1, 1) := by decide +kernel
theorem dL_law_553 : decode cL_law 553 = .ok (.aload_n 0, 1) := by decide +kernel
theorem dL_law_554 : decode cL_law 554 = .ok (.iload 5, 2) := by decide +kernel
theorem dL_law_556 : decode cL_law 556 = .ok (.iconst 1, 1) := by decide +kernel
theorem dL_law_557 : decode cL_law 557 = .ok (.iadd, 1) := by decide +kernel
theorem dL_law_558 : decode cL_law 558 = .ok (.iaload, 1) := by decide +kernel
theorem dL_law_559 : decode cL_law 559 = .ok (.aload_n 0, 1) := by decide +kernel
theorem dL_law_560 : decode cL_law 560 = .ok (.iload 5, 2) := by decide +kernel
theorem dL_law_562 : decode cL_law 562 = .ok (.iconst 2, 1) := by decide +kernel
theorem dL_law_563 : decode cL_law 563 = .ok (.iadd, 1) := by decide +kernel
theorem dL_law_564 : decode cL_law 564 = .ok (.iaload, 1) := by decide +kernel
theorem dL_law_565 : decode cL_law 565 = .ok (.aload_n 0, 1) := by decide +kernel
theorem dL_law_566 : decode cL_law 566 = .ok (.iload 5, 2) := by decide +kernel
theorem dL_law_568 : decode cL_law 568 = .ok (.iconst 3, 1) := by decide +kernel
theorem dL_law_569 : decode cL_law 569 = .ok (.iadd, 1) := by decide +kernel
theorem dL_law_570 : decode cL_law 570 = .ok (.iaload, 1) := by decide +kernel
theorem dL_law_571 : decode cL_law 571 = .ok (.aload_n 3, 1) := by decide +kernel
theorem dL_law_572 : decode cL_law 572 = .ok (.invokestatic 110, 3) := by decide +kernel
theorem dL_law_575 : decode cL_law 575 = .ok (.istore 6, 2) := by decide +kernel
theorem dL_law_577 : decode cL_law 577 = .ok (.aload_n 2, 1) := by decide +kernel
theorem dL_law_578 : decode cL_law 578 = .ok (.aload_n 0, 1) := by decide +kernel
theorem dL_law_579 : decode cL_law 579 = .ok (.iload 5, 2) := by decide +kernel
theorem dL_law_581 : decode cL_law 581 = .ok (.iconst 1, 1) := by decide +kernel
theorem dL_law_582 : decode cL_law 582 = .ok (.iadd, 1) := by decide +kernel
theorem dL_law_583 : decode cL_law 583 = .ok (.iaload, 1) := by decide +kernel
theorem dL_law_584 : decode cL_law 584 = .ok (.aload_n 0, 1) := by decide +kernel
theorem dL_law_585 : decode cL_law 585 = .ok (.iload 5, 2) := by decide +kernel
theorem dL_law_587 : decode cL_law 587 = .ok (.iconst 2, 1) := by decide +kernel
theorem dL_law_588 : decode cL_law 588 = .ok (.iadd, 1) := by decide +kernel
theorem dL_law_589 : decode cL_law 589 = .ok (.iaload, 1) := by decide +kernel
theorem dL_law_590 : decode cL_law 590 = .ok (.aload_n 0, 1) := by decide +kernel
theorem dL_law_591 : decode cL_law 591 = .ok (.iload 5, 2) := by decide +kernel
theorem dL_law_593 : decode cL_law 593 = .ok (.iconst 3, 1) := by decide +kernel
theorem dL_law_594 : decode cL_law 594 = .ok (.iadd, 1) := by decide +kernel
theorem dL_law_595 : decode cL_law 595 = .ok (.iaload, 1) := by decide +kernel
theorem dL_law_596 : decode cL_law 596 = .ok (.invokevirtual 112, 3) := by decide +kernel
theorem dL_law_599 : decode cL_law 599 = .ok (.istore 7, 2) := by decide +kernel
theorem dL_law_601 : decode cL_law 601 = .ok (.aload_n 2, 1) := by decide +kernel
theorem dL_law_602 : decode cL_law 602 = .ok (.invokevirtual 88, 3) := by decide +kernel
theorem dL_law_605 : decode cL_law 605 = .ok (.iload 6, 2) := by decide +kernel
theorem dL_law_607 : decode cL_law 607 = .ok (.if_icmp .eq 5, 3) := by decide +kernel
theorem dL_law_610 : decode cL_law 610 = .ok (.iconst 0, 1) := by decide +kernel
theorem dL_law_611 : decode cL_law 611 = .ok (.ireturn, 1) := by decide +kernel
theorem dL_law_612 : decode cL_law 612 = .ok (.iload 6, 2) := by decide +kernel
theorem dL_law_614 : decode cL_law 614 = .ok (.ifCond .ne 15, 3) := by decide +kernel
theorem dL_law_617 : decode cL_law 617 = .ok (.aload_n 3, 1) := by decide +kernel
theorem dL_law_618 : decode cL_law 618 = .ok (.iconst 0, 1) := by decide +kernel
theorem dL_law_619 : decode cL_law 619 = .ok (.laload, 1) := by decide +kernel
theorem dL_law_620 : decode cL_law 620 = .ok (.iload 7, 2) := by decide +kernel
theorem dL_law_622 : decode cL_law 622 = .ok (.i2l, 1) := by decide +kernel
theorem dL_law_623 : decode cL_law 623 = .ok (.lcmp, 1) := by decide +kernel
theorem dL_law_624 : decode cL_law 624 = .ok (.ifCond .eq 5, 3) := by decide +kernel
theorem dL_law_627 : decode cL_law 627 = .ok (.iconst 0, 1) := by decide +kernel
theorem dL_law_628 : decode cL_law 628 = .ok (.ireturn, 1) := by decide +kernel
theorem dL_law_629 : decode cL_law 629 = .ok (.goto 781, 3) := by decide +kernel
theorem dL_law_632 : decode cL_law 632 = .ok (.aload_n 1, 1) := by decide +kernel
theorem dL_law_633 : decode cL_law 633 = .ok (.aload_n 0, 1) := by decide +kernel
theorem dL_law_634 : decode cL_law 634 = .ok (.iload 5, 2) := by decide +kernel
theorem dL_law_636 : decode cL_law 636 = .ok (.iconst 1, 1) := by decide +kernel
theorem dL_law_637 : decode cL_law 637 = .ok (.iadd, 1) := by decide +kernel
theorem dL_law_638 : decode cL_law 638 = .ok (.iaload, 1) := by decide +kernel
theorem dL_law_639 : decode cL_law 639 = .ok (.aload_n 0, 1) := by decide +kernel
theorem dL_law_640 : decode cL_law 640 = .ok (.iload 5, 2) := by decide +kernel
theorem dL_law_642 : decode cL_law 642 = .ok (.iconst 2, 1) := by decide +kernel
theorem dL_law_643 : decode cL_law 643 = .ok (.iadd, 1) := by decide +kernel
theorem dL_law_644 : decode cL_law 644 = .ok (.iaload, 1) := by decide +kernel
theorem dL_law_645 : decode cL_law 645 = .ok (.aload_n 0, 1) := by decide +kernel
theorem dL_law_646 : decode cL_law 646 = .ok (.iload 5, 2) := by decide +kernel
theorem dL_law_648 : decode cL_law 648 = .ok (.iconst 3, 1) := by decide +kernel
theorem dL_law_649 : decode cL_law 649 = .ok (.iadd, 1) := by decide +kernel
theorem dL_law_650 : decode cL_law 650 = .ok (.iaload, 1) := by decide +kernel
theorem dL_law_651 : decode cL_law 651 = .ok (.aload_n 0, 1) := by decide +kernel
theorem dL_law_652 : decode cL_law 652 = .ok (.iload 5, 2) := by decide +kernel
theorem dL_law_654 : decode cL_law 654 = .ok (.iconst 4, 1) := by decide +kernel
theorem dL_law_655 : decode cL_law 655 = .ok (.iadd, 1) := by decide +kernel
theorem dL_law_656 : decode cL_law 656 = .ok (.iaload, 1) := by decide +kernel
theorem dL_law_657 : decode cL_law 657 = .ok (.aload_n 0, 1) := by decide +kernel
theorem dL_law_658 : decode cL_law 658 = .ok (.iload 5, 2) := by decide +kernel
theorem dL_law_660 : decode cL_law 660 = .ok (.iconst 5, 1) := by decide +kernel
theorem dL_law_661 : decode cL_law 661 = .ok (.iadd, 1) := by decide +kernel
theorem dL_law_662 : decode cL_law 662 = .ok (.iaload, 1) := by decide +kernel
theorem dL_law_663 : decode cL_law 663 = .ok (.aload_n 3, 1) := by decide +kernel
theorem dL_law_664 : decode cL_law 664 = .ok (.invokestatic 113, 3) := by decide +kernel
theorem dL_law_667 : decode cL_law 667 = .ok (.istore 6, 2) := by decide +kernel
theorem dL_law_669 : decode cL_law 669 = .ok (.aload_n 2, 1) := by decide +kernel
theorem dL_law_670 : decode cL_law 670 = .ok (.aload_n 0, 1) := by decide +kernel
theorem dL_law_671 : decode cL_law 671 = .ok (.iload 5, 2) := by decide +kernel
theorem dL_law_673 : decode cL_law 673 = .ok (.iconst 1, 1) := by decide +kernel
theorem dL_law_674 : decode cL_law 674 = .ok (.iadd, 1) := by decide +kernel
theorem dL_law_675 : decode cL_law 675 = .ok (.iaload, 1) := by decide +kernel
theorem dL_law_676 : decode cL_law 676 = .ok (.aload_n 0, 1) := by decide +kernel
theorem dL_law_677 : decode cL_law 677 = .ok (.iload 5, 2) := by decide +kernel
theorem dL_law_679 : decode cL_law 679 = .ok (.iconst 2, 1) := by decide +kernel
theorem dL_law_680 : decode cL_law 680 = .ok (.iadd, 1) := by decide +kernel
theorem dL_law_681 : decode cL_law 681 = .ok (.iaload, 1) := by decide +kernel
theorem dL_law_682 : decode cL_law 682 = .ok (.aload_n 0, 1) := by decide +kernel
theorem dL_law_683 : decode cL_law 683 = .ok (.iload 5, 2) := by decide +kernel
theorem dL_law_685 : decode cL_law 685 = .ok (.iconst 3, 1) := by decide +kernel
theorem dL_law_686 : decode cL_law 686 = .ok (.iadd, 1) := by decide +kernel
theorem dL_law_687 : decode cL_law 687 = .ok (.iaload, 1) := by decide +kernel
theorem dL_law_688 : decode cL_law 688 = .ok (.aload_n 0, 1) := by decide +kernel
theorem dL_law_689 : decode cL_law 689 = .ok (.iload 5, 2) := by decide +kernel
theorem dL_law_691 : decode cL_law 691 = .ok (.iconst 4, 1) := by decide +kernel
theorem dL_law_692 : decode cL_law 692 = .ok (.iadd, 1) := by decide +kernel
theorem dL_law_693 : decode cL_law 693 = .ok (.iaload, 1) := by decide +kernel
theorem dL_law_694 : decode cL_law 694 = .ok (.aload_n 0, 1) := by decide +kernel
theorem dL_law_695 : decode cL_law 695 = .ok (.iload 5, 2) := by decide +kernel
theorem dL_law_697 : decode cL_law 697 = .ok (.iconst 5, 1) := by decide +kernel
theorem dL_law_698 : decode cL_law 698 = .ok (.iadd, 1) := by decide +kernel
theorem dL_law_699 : decode cL_law 699 = .ok (.iaload, 1) := by decide +kernel
theorem dL_law_700 : decode cL_law 700 = .ok (.invokevirtual 116, 3) := by decide +kernel
theorem dL_law_703 : decode cL_law 703 = .ok (.istore 7, 2) := by decide +kernel
theorem dL_law_705 : decode cL_law 705 = .ok (.aload_n 2, 1) := by decide +kernel
theorem dL_law_706 : decode cL_law 706 = .ok (.invokevirtual 88, 3) := by decide +kernel
theorem dL_law_709 : decode cL_law 709 = .ok (.iload 6, 2) := by decide +kernel
theorem dL_law_711 : decode cL_law 711 = .ok (.if_icmp .eq 5, 3) := by decide +kernel
theorem dL_law_714 : decode cL_law 714 = .ok (.iconst 0, 1) := by decide +kernel
theorem dL_law_715 : decode cL_law 715 = .ok (.ireturn, 1) := by decide +kernel
theorem dL_law_716 : decode cL_law 716 = .ok (.iload 6, 2) := by decide +kernel
theorem dL_law_718 : decode cL_law 718 = .ok (.ifCond .ne 15, 3) := by decide +kernel
theorem dL_law_721 : decode cL_law 721 = .ok (.aload_n 3, 1) := by decide +kernel
theorem dL_law_722 : decode cL_law 722 = .ok (.iconst 0, 1) := by decide +kernel
theorem dL_law_723 : decode cL_law 723 = .ok (.laload, 1) := by decide +kernel
theorem dL_law_724 : decode cL_law 724 = .ok (.iload 7, 2) := by decide +kernel
theorem dL_law_726 : decode cL_law 726 = .ok (.i2l, 1) := by decide +kernel
theorem dL_law_727 : decode cL_law 727 = .ok (.lcmp, 1) := by decide +kernel
theorem dL_law_728 : decode cL_law 728 = .ok (.ifCond .eq 5, 3) := by decide +kernel
theorem dL_law_731 : decode cL_law 731 = .ok (.iconst 0, 1) := by decide +kernel
theorem dL_law_732 : decode cL_law 732 = .ok (.ireturn, 1) := by decide +kernel
theorem dL_law_733 : decode cL_law 733 = .ok (.goto 677, 3) := by decide +kernel
theorem dL_law_736 : decode cL_law 736 = .ok (.aload_n 1, 1) := by decide +kernel
theorem dL_law_737 : decode cL_law 737 = .ok (.aload_n 0, 1) := by decide +kernel
theorem dL_law_738 : decode cL_law 738 = .ok (.iload 5, 2) := by decide +kernel
theorem dL_law_740 : decode cL_law 740 = .ok (.iconst 1, 1) := by decide +kernel
theorem dL_law_741 : decode cL_law 741 = .ok (.iadd, 1) := by decide +kernel
theorem dL_law_742 : decode cL_law 742 = .ok (.iaload, 1) := by decide +kernel
theorem dL_law_743 : decode cL_law 743 = .ok (.aload_n 3, 1) := by decide +kernel
theorem dL_law_744 : decode cL_law 744 = .ok (.invokestatic 117, 3) := by decide +kernel
theorem dL_law_747 : decode cL_law 747 = .ok (.istore 6, 2) := by decide +kernel
theorem dL_law_749 : decode cL_law 749 = .ok (.aload_n 2, 1) := by decide +kernel
theorem dL_law_750 : decode cL_law 750 = .ok (.aload_n 0, 1) := by decide +kernel
theorem dL_law_751 : decode cL_law 751 = .ok (.iload 5, 2) := by decide +kernel
theorem dL_law_753 : decode cL_law 753 = .ok (.iconst 1, 1) := by decide +kernel
theorem dL_law_754 : decode cL_law 754 = .ok (.iadd, 1) := by decide +kernel
theorem dL_law_755 : decode cL_law 755 = .ok (.iaload, 1) := by decide +kernel
theorem dL_law_756 : decode cL_law 756 = .ok (.invokevirtual 119, 3) := by decide +kernel
theorem dL_law_759 : decode cL_law 759 = .ok (.istore 7, 2) := by decide +kernel
theorem dL_law_761 : decode cL_law 761 = .ok (.aload_n 2, 1) := by decide +kernel
theorem dL_law_762 : decode cL_law 762 = .ok (.invokevirtual 88, 3) := by decide +kernel
theorem dL_law_765 : decode cL_law 765 = .ok (.iload 6, 2) := by decide +kernel
theorem dL_law_767 : decode cL_law 767 = .ok (.if_icmp .eq 5, 3) := by decide +kernel
theorem dL_law_770 : decode cL_law 770 = .ok (.iconst 0, 1) := by decide +kernel
theorem dL_law_771 : decode cL_law 771 = .ok (.ireturn, 1) := by decide +kernel
theorem dL_law_772 : decode cL_law 772 = .ok (.iload 6, 2) := by decide +kernel
theorem dL_law_774 : decode cL_law 774 = .ok (.ifCond .ne 15, 3) := by decide +kernel
theorem dL_law_777 : decode cL_law 777 = .ok (.aload_n 3, 1) := by decide +kernel
theorem dL_law_778 : decode cL_law 778 = .ok (.iconst 0, 1) := by decide +kernel
theorem dL_law_779 : decode cL_law 779 = .ok (.laload, 1) := by decide +kernel
theorem dL_law_780 : decode cL_law 780 = .ok (.iload 7, 2) := by decide +kernel
theorem dL_law_782 : decode cL_law 782 = .ok (.i2l, 1) := by decide +kernel
theorem dL_law_783 : decode cL_law 783 = .ok (.lcmp, 1) := by decide +kernel
theorem dL_law_784 : decode cL_law 784 = .ok (.ifCond .eq 5, 3) := by decide +kernel
theorem dL_law_787 : decode cL_law 787 = .ok (.iconst 0, 1) := by decide +kernel
theorem dL_law_788 : decode cL_law 788 = .ok (.ireturn, 1) := by decide +kernel
theorem dL_law_789 : decode cL_law 789 = .ok (.goto 621, 3) := by decide +kernel
theorem dL_law_792 : decode cL_law 792 = .ok (.aload_n 1, 1) := by decide +kernel
theorem dL_law_793 : decode cL_law 793 = .ok (.aload_n 0, 1) := by decide +kernel
theorem dL_law_794 : decode cL_law 794 = .ok (.iload 5, 2) := by decide +kernel
theorem dL_law_796 : decode cL_law 796 = .ok (.iconst 1, 1) := by decide +kernel
theorem dL_law_797 : decode cL_law 797 = .ok (.iadd, 1) := by decide +kernel
theorem dL_law_798 : decode cL_law 798 = .ok (.iaload, 1) := by decide +kernel
theorem dL_law_799 : decode cL_law 799 = .ok (.aload_n 3, 1) := by decide +kernel
theorem dL_law_800 : decode cL_law 800 = .ok (.invokestatic 120, 3) := by decide +kernel
theorem dL_law_803 : decode cL_law 803 = .ok (.istore 6, 2) := by decide +kernel
theorem dL_law_805 : decode cL_law 805 = .ok (.aload_n 2, 1) := by decide +kernel
theorem dL_law_806 : decode cL_law 806 = .ok (.aload_n 0, 1) := by decide +kernel
theorem dL_law_807 : decode cL_law 807 = .ok (.iload 5, 2) := by decide +kernel
theorem dL_law_809 : decode cL_law 809 = .ok (.iconst 1, 1) := by decide +kernel
theorem dL_law_810 : decode cL_law 810 = .ok (.iadd, 1) := by decide +kernel
theorem dL_law_811 : decode cL_law 811 = .ok (.iaload, 1) := by decide +kernel
theorem dL_law_812 : decode cL_law 812 = .ok (.invokevirtual 122, 3) := by decide +kernel
theorem dL_law_815 : decode cL_law 815 = .ok (.istore 7, 2) := by decide +kernel
theorem dL_law_817 : decode cL_law 817 = .ok (.aload_n 2, 1) := by decide +kernel
theorem dL_law_818 : decode cL_law 818 = .ok (.invokevirtual 88, 3) := by decide +kernel
theorem dL_law_821 : decode cL_law 821 = .ok (.iload 6, 2) := by decide +kernel
theorem dL_law_823 : decode cL_law 823 = .ok (.if_icmp .eq 5, 3) := by decide +kernel
theorem dL_law_826 : decode cL_law 826 = .ok (.iconst 0, 1) := by decide +kernel
theorem dL_law_827 : decode cL_law 827 = .ok (.ireturn, 1) := by decide +kernel
theorem dL_law_828 : decode cL_law 828 = .ok (.iload 6, 2) := by decide +kernel
theorem dL_law_830 : decode cL_law 830 = .ok (.ifCond .ne 15, 3) := by decide +kernel
theorem dL_law_833 : decode cL_law 833 = .ok (.aload_n 3, 1) := by decide +kernel
theorem dL_law_834 : decode cL_law 834 = .ok (.iconst 0, 1) := by decide +kernel
theorem dL_law_835 : decode cL_law 835 = .ok (.laload, 1) := by decide +kernel
theorem dL_law_836 : decode cL_law 836 = .ok (.iload 7, 2) := by decide +kernel
theorem dL_law_838 : decode cL_law 838 = .ok (.i2l, 1) := by decide +kernel
theorem dL_law_839 : decode cL_law 839 = .ok (.lcmp, 1) := by decide +kernel
theorem dL_law_840 : decode cL_law 840 = .ok (.ifCond .eq 5, 3) := by decide +kernel
theorem dL_law_843 : decode cL_law 843 = .ok (.iconst 0, 1) := by decide +kernel
theorem dL_law_844 : decode cL_law 844 = .ok (.ireturn, 1) := by decide +kernel
theorem dL_law_845 : decode cL_law 845 = .ok (.goto 565, 3) := by decide +kernel
theorem dL_law_848 : decode cL_law 848 = .ok (.aload_n 1, 1) := by decide +kernel
theorem dL_law_849 : decode cL_law 849 = .ok (.aload_n 0, 1) := by decide +kernel
theorem dL_law_850 : decode cL_law 850 = .ok (.iload 5, 2) := by decide +kernel
theorem dL_law_852 : decode cL_law 852 = .ok (.iconst 1, 1) := by decide +kernel
theorem dL_law_853 : decode cL_law 853 = .ok (.iadd, 1) := by decide +kernel
theorem dL_law_854 : decode cL_law 854 = .ok (.iaload, 1) := by decide +kernel
theorem dL_law_855 : decode cL_law 855 = .ok (.aload_n 3, 1) := by decide +kernel
theorem dL_law_856 : decode cL_law 856 = .ok (.invokestatic 123, 3) := by decide +kernel
theorem dL_law_859 : decode cL_law 859 = .ok (.istore 6, 2) := by decide +kernel
theorem dL_law_861 : decode cL_law 861 = .ok (.aload_n 2, 1) := by decide +kernel
theorem dL_law_862 : decode cL_law 862 = .ok (.aload_n 0, 1) := by decide +kernel
theorem dL_law_863 : decode cL_law 863 = .ok (.iload 5, 2) := by decide +kernel
theorem dL_law_865 : decode cL_law 865 = .ok (.iconst 1, 1) := by decide +kernel
theorem dL_law_866 : decode cL_law 866 = .ok (.iadd, 1) := by decide +kernel
theorem dL_law_867 : decode cL_law 867 = .ok (.iaload, 1) := by decide +kernel
theorem dL_law_868 : decode cL_law 868 = .ok (.invokevirtual 125, 3) := by decide +kernel
theorem dL_law_871 : decode cL_law 871 = .ok (.istore 7, 2) := by decide +kernel
theorem dL_law_873 : decode cL_law 873 = .ok (.aload_n 2, 1) := by decide +kernel
theorem dL_law_874 : decode cL_law 874 = .ok (.invokevirtual 88, 3) := by decide +kernel
theorem dL_law_877 : decode cL_law 877 = .ok (.iload 6, 2) := by decide +kernel
theorem dL_law_879 : decode cL_law 879 = .ok (.if_icmp .eq 5, 3) := by decide +kernel
theorem dL_law_882 : decode cL_law 882 = .ok (.iconst 0, 1) := by decide +kernel
theorem dL_law_883 : decode cL_law 883 = .ok (.ireturn, 1) := by decide +kernel
theorem dL_law_884 : decode cL_law 884 = .ok (.iload 6, 2) := by decide +kernel
theorem dL_law_886 : decode cL_law 886 = .ok (.ifCond .ne 15, 3) := by decide +kernel
theorem dL_law_889 : decode cL_law 889 = .ok (.aload_n 3, 1) := by decide +kernel
theorem dL_law_890 : decode cL_law 890 = .ok (.iconst 0, 1) := by decide +kernel
theorem dL_law_891 : decode cL_law 891 = .ok (.laload, 1) := by decide +kernel
theorem dL_law_892 : decode cL_law 892 = .ok (.iload 7, 2) := by decide +kernel
theorem dL_law_894 : decode cL_law 894 = .ok (.i2l, 1) := by decide +kernel
theorem dL_law_895 : decode cL_law 895 = .ok (.lcmp, 1) := by decide +kernel
theorem dL_law_896 : decode cL_law 896 = .ok (.ifCond .eq 5, 3) := by decide +kernel
theorem dL_law_899 : decode cL_law 899 = .ok (.iconst 0, 1) := by decide +kernel
theorem dL_law_900 : decode cL_law 900 = .ok (.ireturn, 1) := by decide +kernel
theorem dL_law_901 : decode cL_law 901 = .ok (.goto 509, 3) := by decide +kernel
theorem dL_law_904 : decode cL_law 904 = .ok (.aload_n 1, 1) := by decide +kernel
theorem dL_law_905 : decode cL_law 905 = .ok (.aload_n 0, 1) := by decide +kernel
theorem dL_law_906 : decode cL_law 906 = .ok (.iload 5, 2) := by decide +kernel
theorem dL_law_908 : decode cL_law 908 = .ok (.iconst 1, 1) := by decide +kernel
theorem dL_law_909 : decode cL_law 909 = .ok (.iadd, 1) := by decide +kernel
theorem dL_law_910 : decode cL_law 910 = .ok (.iaload, 1) := by decide +kernel
theorem dL_law_911 : decode cL_law 911 = .ok (.aload_n 3, 1) := by decide +kernel
theorem dL_law_912 : decode cL_law 912 = .ok (.invokestatic 126, 3) := by decide +kernel
theorem dL_law_915 : decode cL_law 915 = .ok (.istore 6, 2) := by decide +kernel
theorem dL_law_917 : decode cL_law 917 = .ok (.aload_n 2, 1) := by decide +kernel
theorem dL_law_918 : decode cL_law 918 = .ok (.aload_n 0, 1) := by decide +kernel
theorem dL_law_919 : decode cL_law 919 = .ok (.iload 5, 2) := by decide +kernel
theorem dL_law_921 : decode cL_law 921 = .ok (.iconst 1, 1) := by decide +kernel
theorem dL_law_922 : decode cL_law 922 = .ok (.iadd, 1) := by decide +kernel
theorem dL_law_923 : decode cL_law 923 = .ok (.iaload, 1) := by decide +kernel
theorem dL_law_924 : decode cL_law 924 = .ok (.invokevirtual 128, 3) := by decide +kernel
theorem dL_law_927 : decode cL_law 927 = .ok (.istore 7, 2) := by decide +kernel
theorem dL_law_929 : decode cL_law 929 = .ok (.aload_n 2, 1) := by decide +kernel
theorem dL_law_930 : decode cL_law 930 = .ok (.invokevirtual 88, 3) := by decide +kernel
theorem dL_law_933 : decode cL_law 933 = .ok (.iload 6, 2) := by decide +kernel
theorem dL_law_935 : decode cL_law 935 = .ok (.if_icmp .eq 5, 3) := by decide +kernel
theorem dL_law_938 : decode cL_law 938 = .ok (.iconst 0, 1) := by decide +kernel
theorem dL_law_939 : decode cL_law 939 = .ok (.ireturn, 1) := by decide +kernel
theorem dL_law_940 : decode cL_law 940 = .ok (.iload 6, 2) := by decide +kernel
theorem dL_law_942 : decode cL_law 942 = .ok (.ifCond .ne 15, 3) := by decide +kernel
theorem dL_law_945 : decode cL_law 945 = .ok (.aload_n 3, 1) := by decide +kernel
theorem dL_law_946 : decode cL_law 946 = .ok (.iconst 0, 1) := by decide +kernel
theorem dL_law_947 : decode cL_law 947 = .ok (.laload, 1) := by decide +kernel
theorem dL_law_948 : decode cL_law 948 = .ok (.iload 7, 2) := by decide +kernel
theorem dL_law_950 : decode cL_law 950 = .ok (.i2l, 1) := by decide +kernel
theorem dL_law_951 : decode cL_law 951 = .ok (.lcmp, 1) := by decide +kernel
theorem dL_law_952 : decode cL_law 952 = .ok (.ifCond .eq 5, 3) := by decide +kernel
theorem dL_law_955 : decode cL_law 955 = .ok (.iconst 0, 1) := by decide +kernel
theorem dL_law_956 : decode cL_law 956 = .ok (.ireturn, 1) := by decide +kernel
theorem dL_law_957 : decode cL_law 957 = .ok (.goto 453, 3) := by decide +kernel
theorem dL_law_960 : decode cL_law 960 = .ok (.aload_n 1, 1) := by decide +kernel
theorem dL_law_961 : decode cL_law 961 = .ok (.aload_n 0, 1) := by decide +kernel
theorem dL_law_962 : decode cL_law 962 = .ok (.iload 5, 2) := by decide +kernel
theorem dL_law_964 : decode cL_law 964 = .ok (.iconst 1, 1) := by decide +kernel
theorem dL_law_965 : decode cL_law 965 = .ok (.iadd, 1) := by decide +kernel
theorem dL_law_966 : decode cL_law 966 = .ok (.iaload, 1) := by decide +kernel
theorem dL_law_967 : decode cL_law 967 = .ok (.aload_n 3, 1) := by decide +kernel
theorem dL_law_968 : decode cL_law 968 = .ok (.invokestatic 129, 3) := by decide +kernel
theorem dL_law_971 : decode cL_law 971 = .ok (.istore 6, 2) := by decide +kernel
theorem dL_law_973 : decode cL_law 973 = .ok (.aload_n 2, 1) := by decide +kernel
theorem dL_law_974 : decode cL_law 974 = .ok (.aload_n 0, 1) := by decide +kernel
theorem dL_law_975 : decode cL_law 975 = .ok (.iload 5, 2) := by decide +kernel
theorem dL_law_977 : decode cL_law 977 = .ok (.iconst 1, 1) := by decide +kernel
theorem dL_law_978 : decode cL_law 978 = .ok (.iadd, 1) := by decide +kernel
theorem dL_law_979 : decode cL_law 979 = .ok (.iaload, 1) := by decide +kernel
theorem dL_law_980 : decode cL_law 980 = .ok (.invokevirtual 131, 3) := by decide +kernel
theorem dL_law_983 : decode cL_law 983 = .ok (.istore 7, 2) := by decide +kernel
theorem dL_law_985 : decode cL_law 985 = .ok (.aload_n 2, 1) := by decide +kernel
theorem dL_law_986 : decode cL_law 986 = .ok (.invokevirtual 88, 3) := by decide +kernel
theorem dL_law_989 : decode cL_law 989 = .ok (.iload 6, 2) := by decide +kernel
theorem dL_law_991 : decode cL_law 991 = .ok (.if_icmp .eq 5, 3) := by decide +kernel
theorem dL_law_994 : decode cL_law 994 = .ok (.iconst 0, 1) := by decide +kernel
theorem dL_law_995 : decode cL_law 995 = .ok (.ireturn, 1) := by decide +kernel
theorem dL_law_996 : decode cL_law 996 = .ok (.iload 6, 2) := by decide +kernel
theorem dL_law_998 : decode cL_law 998 = .ok (.ifCond .ne 15, 3) := by decide +kernel
theorem dL_law_1001 : decode cL_law 1001 = .ok (.aload_n 3, 1) := by decide +kernel
theorem dL_law_1002 : decode cL_law 1002 = .ok (.iconst 0, 1) := by decide +kernel
theorem dL_law_1003 : decode cL_law 1003 = .ok (.laload, 1) := by decide +kernel
theorem dL_law_1004 : decode cL_law 1004 = .ok (.iload 7, 2) := by decide +kernel
theorem dL_law_1006 : decode cL_law 1006 = .ok (.i2l, 1) := by decide +kernel
theorem dL_law_1007 : decode cL_law 1007 = .ok (.lcmp, 1) := by decide +kernel
theorem dL_law_1008 : decode cL_law 1008 = .ok (.ifCond .eq 5, 3) := by decide +kernel
theorem dL_law_1011 : decode cL_law 1011 = .ok (.iconst 0, 1) := by decide +kernel
theorem dL_law_1012 : decode cL_law 1012 = .ok (.ireturn, 1) := by decide +kernel
theorem dL_law_1013 : decode cL_law 1013 = .ok (.goto 397, 3) := by decide +kernel
theorem dL_law_1016 : decode cL_law 1016 = .ok (.aload_n 1, 1) := by decide +kernel
theorem dL_law_1017 : decode cL_law 1017 = .ok (.aload_n 0, 1) := by decide +kernel
theorem dL_law_1018 : decode cL_law 1018 = .ok (.iload 5, 2) := by decide +kernel
theorem dL_law_1020 : decode cL_law 1020 = .ok (.iconst 1, 1) := by decide +kernel
theorem dL_law_1021 : decode cL_law 1021 = .ok (.iadd, 1) := by decide +kernel
theorem dL_law_1022 : decode cL_law 1022 = .ok (.iaload, 1) := by decide +kernel
theorem dL_law_1023 : decode cL_law 1023 = .ok (.aload_n 0, 1) := by decide +kernel
theorem dL_law_1024 : decode cL_law 1024 = .ok (.iload 5, 2) := by decide +kernel
theorem dL_law_1026 : decode cL_law 1026 = .ok (.iconst 2, 1) := by decide +kernel
theorem dL_law_1027 : decode cL_law 1027 = .ok (.iadd, 1) := by decide +kernel
theorem dL_law_1028 : decode cL_law 1028 = .ok (.iaload, 1) := by decide +kernel
theorem dL_law_1029 : decode cL_law 1029 = .ok (.aload_n 3, 1) := by decide +kernel
theorem dL_law_1030 : decode cL_law 1030 = .ok (.invokestatic 132, 3) := by decide +kernel
theorem dL_law_1033 : decode cL_law 1033 = .ok (.istore 6, 2) := by decide +kernel
theorem dL_law_1035 : decode cL_law 1035 = .ok (.aload_n 2, 1) := by decide +kernel
theorem dL_law_1036 : decode cL_law 1036 = .ok (.aload_n 0, 1) := by decide +kernel
theorem dL_law_1037 : decode cL_law 1037 = .ok (.iload 5, 2) := by decide +kernel
theorem dL_law_1039 : decode cL_law 1039 = .ok (.iconst 1, 1) := by decide +kernel
theorem dL_law_1040 : decode cL_law 1040 = .ok (.iadd, 1) := by decide +kernel
theorem dL_law_1041 : decode cL_law 1041 = .ok (.iaload, 1) := by decide +kernel
theorem dL_law_1042 : decode cL_law 1042 = .ok (.aload_n 0, 1) := by decide +kernel
theorem dL_law_1043 : decode cL_law 1043 = .ok (.iload 5, 2) := by decide +kernel
theorem dL_law_1045 : decode cL_law 1045 = .ok (.iconst 2, 1) := by decide +kernel
theorem dL_law_1046 : decode cL_law 1046 = .ok (.iadd, 1) := by decide +kernel
theorem dL_law_1047 : decode cL_law 1047 = .ok (.iaload, 1) := by decide +kernel
theorem dL_law_1048 : decode cL_law 1048 = .ok (.invokevirtual 134, 3) := by decide +kernel
theorem dL_law_1051 : decode cL_law 1051 = .ok (.istore 7, 2) := by decide +kernel
theorem dL_law_1053 : decode cL_law 1053 = .ok (.aload_n 2, 1) := by decide +kernel
theorem dL_law_1054 : decode cL_law 1054 = .ok (.invokevirtual 88, 3) := by decide +kernel
theorem dL_law_1057 : decode cL_law 1057 = .ok (.iload 6, 2) := by decide +kernel
theorem dL_law_1059 : decode cL_law 1059 = .ok (.if_icmp .eq 5, 3) := by decide +kernel
theorem dL_law_1062 : decode cL_law 1062 = .ok (.iconst 0, 1) := by decide +kernel
theorem dL_law_1063 : decode cL_law 1063 = .ok (.ireturn, 1) := by decide +kernel
theorem dL_law_1064 : decode cL_law 1064 = .ok (.iload 6, 2) := by decide +kernel
theorem dL_law_1066 : decode cL_law 1066 = .ok (.ifCond .ne 15, 3) := by decide +kernel
theorem dL_law_1069 : decode cL_law 1069 = .ok (.aload_n 3, 1) := by decide +kernel
theorem dL_law_1070 : decode cL_law 1070 = .ok (.iconst 0, 1) := by decide +kernel
theorem dL_law_1071 : decode cL_law 1071 = .ok (.laload, 1) := by decide +kernel
theorem dL_law_1072 : decode cL_law 1072 = .ok (.iload 7, 2) := by decide +kernel
theorem dL_law_1074 : decode cL_law 1074 = .ok (.i2l, 1) := by decide +kernel
theorem dL_law_1075 : decode cL_law 1075 = .ok (.lcmp, 1) := by decide +kernel
theorem dL_law_1076 : decode cL_law 1076 = .ok (.ifCond .eq 5, 3) := by decide +kernel
theorem dL_law_1079 : decode cL_law 1079 = .ok (.iconst 0, 1) := by decide +kernel
theorem dL_law_1080 : decode cL_law 1080 = .ok (.ireturn, 1) := by decide +kernel
theorem dL_law_1081 : decode cL_law 1081 = .ok (.goto 329, 3) := by decide +kernel
theorem dL_law_1084 : decode cL_law 1084 = .ok (.aload_n 1, 1) := by decide +kernel
theorem dL_law_1085 : decode cL_law 1085 = .ok (.invokevirtual 135, 3) := by decide +kernel
theorem dL_law_1088 : decode cL_law 1088 = .ok (.aload_n 2, 1) := by decide +kernel
theorem dL_law_1089 : decode cL_law 1089 = .ok (.invokevirtual 139, 3) := by decide +kernel
theorem dL_law_1092 : decode cL_law 1092 = .ok (.if_icmp .eq 318, 3) := by decide +kernel
theorem dL_law_1095 : decode cL_law 1095 = .ok (.iconst 0, 1) := by decide +kernel
theorem dL_law_1096 : decode cL_law 1096 = .ok (.ireturn, 1) := by decide +kernel
theorem dL_law_1097 : decode cL_law 1097 = .ok (.aload_n 1, 1) := by decide +kernel
theorem dL_law_1098 : decode cL_law 1098 = .ok (.aload_n 0, 1) := by decide +kernel
theorem dL_law_1099 : decode cL_law 1099 = .ok (.iload 5, 2) := by decide +kernel
theorem dL_law_1101 : decode cL_law 1101 = .ok (.iconst 1, 1) := by decide +kernel
theorem dL_law_1102 : decode cL_law 1102 = .ok (.iadd, 1) := by decide +kernel
theorem dL_law_1103 : decode cL_law 1103 = .ok (.iaload, 1) := by decide +kernel
theorem dL_law_1104 : decode cL_law 1104 = .ok (.aload_n 0, 1) := by decide +kernel
theorem dL_law_1105 : decode cL_law 1105 = .ok (.iload 5, 2) := by decide +kernel
theorem dL_law_1107 : decode cL_law 1107 = .ok (.iconst 2, 1) := by decide +kernel
theorem dL_law_1108 : decode cL_law 1108 = .ok (.iadd, 1) := by decide +kernel
theorem dL_law_1109 : decode cL_law 1109 = .ok (.iaload, 1) := by decide +kernel
theorem dL_law_1110 : decode cL_law 1110 = .ok (.aload_n 3, 1) := by decide +kernel
theorem dL_law_1111 : decode cL_law 1111 = .ok (.invokestatic 140, 3) := by decide +kernel
theorem dL_law_1114 : decode cL_law 1114 = .ok (.istore 6, 2) := by decide +kernel
theorem dL_law_1116 : decode cL_law 1116 = .ok (.aload_n 2, 1) := by decide +kernel
theorem dL_law_1117 : decode cL_law 1117 = .ok (.aload_n 0, 1) := by decide +kernel
theorem dL_law_1118 : decode cL_law 1118 = .ok (.iload 5, 2) := by decide +kernel
theorem dL_law_1120 : decode cL_law 1120 = .ok (.iconst 1, 1) := by decide +kernel
theorem dL_law_1121 : decode cL_law 1121 = .ok (.iadd, 1) := by decide +kernel
theorem dL_law_1122 : decode cL_law 1122 = .ok (.iaload, 1) := by decide +kernel
theorem dL_law_1123 : decode cL_law 1123 = .ok (.aload_n 0, 1) := by decide +kernel
theorem dL_law_1124 : decode cL_law 1124 = .ok (.iload 5, 2) := by decide +kernel
theorem dL_law_1126 : decode cL_law 1126 = .ok (.iconst 2, 1) := by decide +kernel
theorem dL_law_1127 : decode cL_law 1127 = .ok (.iadd, 1) := by decide +kernel
theorem dL_law_1128 : decode cL_law 1128 = .ok (.iaload, 1) := by decide +kernel
theorem dL_law_1129 : decode cL_law 1129 = .ok (.invokevirtual 142, 3) := by decide +kernel
theorem dL_law_1132 : decode cL_law 1132 = .ok (.istore 7, 2) := by decide +kernel
theorem dL_law_1134 : decode cL_law 1134 = .ok (.aload_n 2, 1) := by decide +kernel
theorem dL_law_1135 : decode cL_law 1135 = .ok (.invokevirtual 88, 3) := by decide +kernel
theorem dL_law_1138 : decode cL_law 1138 = .ok (.iload 6, 2) := by decide +kernel
theorem dL_law_1140 : decode cL_law 1140 = .ok (.if_icmp .eq 5, 3) := by decide +kernel
theorem dL_law_1143 : decode cL_law 1143 = .ok (.iconst 0, 1) := by decide +kernel
theorem dL_law_1144 : decode cL_law 1144 = .ok (.ireturn, 1) := by decide +kernel
theorem dL_law_1145 : decode cL_law 1145 = .ok (.iload 6, 2) := by decide +kernel
theorem dL_law_1147 : decode cL_law 1147 = .ok (.ifCond .ne 15, 3) := by decide +kernel
theorem dL_law_1150 : decode cL_law 1150 = .ok (.aload_n 3, 1) := by decide +kernel
theorem dL_law_1151 : decode cL_law 1151 = .ok (.iconst 0, 1) := by decide +kernel
theorem dL_law_1152 : decode cL_law 1152 = .ok (.laload, 1) := by decide +kernel
theorem dL_law_1153 : decode cL_law 1153 = .ok (.iload 7, 2) := by decide +kernel
theorem dL_law_1155 : decode cL_law 1155 = .ok (.i2l, 1) := by decide +kernel
theorem dL_law_1156 : decode cL_law 1156 = .ok (.lcmp, 1) := by decide +kernel
theorem dL_law_1157 : decode cL_law 1157 = .ok (.ifCond .eq 5, 3) := by decide +kernel
theorem dL_law_1160 : decode cL_law 1160 = .ok (.iconst 0, 1) := by decide +kernel
theorem dL_law_1161 : decode cL_law 1161 = .ok (.ireturn, 1) := by decide +kernel
theorem dL_law_1162 : decode cL_law 1162 = .ok (.goto 248, 3) := by decide +kernel
theorem dL_law_1165 : decode cL_law 1165 = .ok (.aload_n 1, 1) := by decide +kernel
theorem dL_law_1166 : decode cL_law 1166 = .ok (.aload_n 0, 1) := by decide +kernel
theorem dL_law_1167 : decode cL_law 1167 = .ok (.iload 5, 2) := by decide +kernel
theorem dL_law_1169 : decode cL_law 1169 = .ok (.iconst 1, 1) := by decide +kernel
theorem dL_law_1170 : decode cL_law 1170 = .ok (.iadd, 1) := by decide +kernel
theorem dL_law_1171 : decode cL_law 1171 = .ok (.iaload, 1) := by decide +kernel
theorem dL_law_1172 : decode cL_law 1172 = .ok (.aload 4, 2) := by decide +kernel
theorem dL_law_1174 : decode cL_law 1174 = .ok (.invokestatic 143, 3) := by decide +kernel
theorem dL_law_1177 : decode cL_law 1177 = .ok (.istore 6, 2) := by decide +kernel
theorem dL_law_1179 : decode cL_law 1179 = .ok (.aload_n 2, 1) := by decide +kernel
theorem dL_law_1180 : decode cL_law 1180 = .ok (.aload_n 0, 1) := by decide +kernel
theorem dL_law_1181 : decode cL_law 1181 = .ok (.iload 5, 2) := by decide +kernel
theorem dL_law_1183 : decode cL_law 1183 = .ok (.iconst 1, 1) := by decide +kernel
theorem dL_law_1184 : decode cL_law 1184 = .ok (.iadd, 1) := by decide +kernel
theorem dL_law_1185 : decode cL_law 1185 = .ok (.iaload, 1) := by decide +kernel
theorem dL_law_1186 : decode cL_law 1186 = .ok (.invokevirtual 146, 3) := by decide +kernel
theorem dL_law_1189 : decode cL_law 1189 = .ok (.dstore 7, 2) := by decide +kernel
theorem dL_law_1191 : decode cL_law 1191 = .ok (.aload_n 2, 1) := by decide +kernel
theorem dL_law_1192 : decode cL_law 1192 = .ok (.invokevirtual 88, 3) := by decide +kernel
theorem dL_law_1195 : decode cL_law 1195 = .ok (.iload 6, 2) := by decide +kernel
theorem dL_law_1197 : decode cL_law 1197 = .ok (.if_icmp .eq 5, 3) := by decide +kernel
theorem dL_law_1200 : decode cL_law 1200 = .ok (.iconst 0, 1) := by decide +kernel
theorem dL_law_1201 : decode cL_law 1201 = .ok (.ireturn, 1) := by decide +kernel
theorem dL_law_1202 : decode cL_law 1202 = .ok (.iload 6, 2) := by decide +kernel
theorem dL_law_1204 : decode cL_law 1204 = .ok (.ifCond .ne 35, 3) := by decide +kernel
theorem dL_law_1207 : decode cL_law 1207 = .ok (.aload 4, 2) := by decide +kernel
theorem dL_law_1209 : decode cL_law 1209 = .ok (.iconst 0, 1) := by decide +kernel
theorem dL_law_1210 : decode cL_law 1210 = .ok (.daload, 1) := by decide +kernel
theorem dL_law_1211 : decode cL_law 1211 = .ok (.dload 7, 2) := by decide +kernel
theorem dL_law_1213 : decode cL_law 1213 = .ok (.dcmp .l, 1) := by decide +kernel
theorem dL_law_1214 : decode cL_law 1214 = .ok (.ifCond .eq 25, 3) := by decide +kernel
theorem dL_law_1217 : decode cL_law 1217 = .ok (.aload 4, 2) := by decide +kernel
theorem dL_law_1219 : decode cL_law 1219 = .ok (.iconst 0, 1) := by decide +kernel
theorem dL_law_1220 : decode cL_law 1220 = .ok (.daload, 1) := by decide +kernel
theorem dL_law_1221 : decode cL_law 1221 = .ok (.aload 4, 2) := by decide +kernel
theorem dL_law_1223 : decode cL_law 1223 = .ok (.iconst 0, 1) := by decide +kernel
theorem dL_law_1224 : decode cL_law 1224 = .ok (.daload, 1) := by decide +kernel
theorem dL_law_1225 : decode cL_law 1225 = .ok (.dcmp .l, 1) := by decide +kernel
theorem dL_law_1226 : decode cL_law 1226 = .ok (.ifCond .eq 11, 3) := by decide +kernel
theorem dL_law_1229 : decode cL_law 1229 = .ok (.dload 7, 2) := by decide +kernel
theorem dL_law_1231 : decode cL_law 1231 = .ok (.dload 7, 2) := by decide +kernel
theorem dL_law_1233 : decode cL_law 1233 = .ok (.dcmp .l, 1) := by decide +kernel
theorem dL_law_1234 : decode cL_law 1234 = .ok (.ifCond .ne 5, 3) := by decide +kernel
theorem dL_law_1237 : decode cL_law 1237 = .ok (.iconst 0, 1) := by decide +kernel
theorem dL_law_1238 : decode cL_law 1238 = .ok (.ireturn, 1) := by decide +kernel
theorem dL_law_1239 : decode cL_law 1239 = .ok (.goto 171, 3) := by decide +kernel
theorem dL_law_1242 : decode cL_law 1242 = .ok (.aload_n 1, 1) := by decide +kernel
theorem dL_law_1243 : decode cL_law 1243 = .ok (.aload_n 0, 1) := by decide +kernel
theorem dL_law_1244 : decode cL_law 1244 = .ok (.iload 5, 2) := by decide +kernel
theorem dL_law_1246 : decode cL_law 1246 = .ok (.iconst 1, 1) := by decide +kernel
theorem dL_law_1247 : decode cL_law 1247 = .ok (.iadd, 1) := by decide +kernel
theorem dL_law_1248 : decode cL_law 1248 = .ok (.iaload, 1) := by decide +kernel
theorem dL_law_1249 : decode cL_law 1249 = .ok (.aload_n 3, 1) := by decide +kernel
theorem dL_law_1250 : decode cL_law 1250 = .ok (.invokestatic 147, 3) := by decide +kernel
theorem dL_law_1253 : decode cL_law 1253 = .ok (.istore 6, 2) := by decide +kernel
theorem dL_law_1255 : decode cL_law 1255 = .ok (.aload_n 2, 1) := by decide +kernel
theorem dL_law_1256 : decode cL_law 1256 = .ok (.aload_n 0, 1) := by decide +kernel
theorem dL_law_1257 : decode cL_law 1257 = .ok (.iload 5, 2) := by decide +kernel
theorem dL_law_1259 : decode cL_law 1259 = .ok (.iconst 1, 1) := by decide +kernel
theorem dL_law_1260 : decode cL_law 1260 = .ok (.iadd, 1) := by decide +kernel
theorem dL_law_1261 : decode cL_law 1261 = .ok (.iaload, 1) := by decide +kernel
theorem dL_law_1262 : decode cL_law 1262 = .ok (.invokevirtual 149, 3) := by decide +kernel
theorem dL_law_1265 : decode cL_law 1265 = .ok (.istore 7, 2) := by decide +kernel
theorem dL_law_1267 : decode cL_law 1267 = .ok (.aload_n 2, 1) := by decide +kernel
theorem dL_law_1268 : decode cL_law 1268 = .ok (.invokevirtual 88, 3) := by decide +kernel
theorem dL_law_1271 : decode cL_law 1271 = .ok (.iload 6, 2) := by decide +kernel
theorem dL_law_1273 : decode cL_law 1273 = .ok (.if_icmp .eq 5, 3) := by decide +kernel
theorem dL_law_1276 : decode cL_law 1276 = .ok (.iconst 0, 1) := by decide +kernel
theorem dL_law_1277 : decode cL_law 1277 = .ok (.ireturn, 1) := by decide +kernel
theorem dL_law_1278 : decode cL_law 1278 = .ok (.iload 6, 2) := by decide +kernel
theorem dL_law_1280 : decode cL_law 1280 = .ok (.ifCond .ne 15, 3) := by decide +kernel
theorem dL_law_1283 : decode cL_law 1283 = .ok (.aload_n 3, 1) := by decide +kernel
theorem dL_law_1284 : decode cL_law 1284 = .ok (.iconst 0, 1) := by decide +kernel
theorem dL_law_1285 : decode cL_law 1285 = .ok (.laload, 1) := by decide +kernel
theorem dL_law_1286 : decode cL_law 1286 = .ok (.iload 7, 2) := by decide +kernel
theorem dL_law_1288 : decode cL_law 1288 = .ok (.i2l, 1) := by decide +kernel
theorem dL_law_1289 : decode cL_law 1289 = .ok (.lcmp, 1) := by decide +kernel
theorem dL_law_1290 : decode cL_law 1290 = .ok (.ifCond .eq 5, 3) := by decide +kernel
theorem dL_law_1293 : decode cL_law 1293 = .ok (.iconst 0, 1) := by decide +kernel
theorem dL_law_1294 : decode cL_law 1294 = .ok (.ireturn, 1) := by decide +kernel
theorem dL_law_1295 : decode cL_law 1295 = .ok (.goto 115, 3) := by decide +kernel
theorem dL_law_1298 : decode cL_law 1298 = .ok (.aload_n 1, 1) := by decide +kernel
theorem dL_law_1299 : decode cL_law 1299 = .ok (.aload_n 0, 1) := by decide +kernel
theorem dL_law_1300 : decode cL_law 1300 = .ok (.iload 5, 2) := by decide +kernel
theorem dL_law_1302 : decode cL_law 1302 = .ok (.iconst 1, 1) := by decide +kernel
theorem dL_law_1303 : decode cL_law 1303 = .ok (.iadd, 1) := by decide +kernel
theorem dL_law_1304 : decode cL_law 1304 = .ok (.iaload, 1) := by decide +kernel
theorem dL_law_1305 : decode cL_law 1305 = .ok (.aload_n 3, 1) := by decide +kernel
theorem dL_law_1306 : decode cL_law 1306 = .ok (.invokestatic 150, 3) := by decide +kernel
theorem dL_law_1309 : decode cL_law 1309 = .ok (.istore 6, 2) := by decide +kernel
theorem dL_law_1311 : decode cL_law 1311 = .ok (.aload_n 2, 1) := by decide +kernel
theorem dL_law_1312 : decode cL_law 1312 = .ok (.aload_n 0, 1) := by decide +kernel
theorem dL_law_1313 : decode cL_law 1313 = .ok (.iload 5, 2) := by decide +kernel
theorem dL_law_1315 : decode cL_law 1315 = .ok (.iconst 1, 1) := by decide +kernel
theorem dL_law_1316 : decode cL_law 1316 = .ok (.iadd, 1) := by decide +kernel
theorem dL_law_1317 : decode cL_law 1317 = .ok (.iaload, 1) := by decide +kernel
theorem dL_law_1318 : decode cL_law 1318 = .ok (.invokevirtual 152, 3) := by decide +kernel
theorem dL_law_1321 : decode cL_law 1321 = .ok (.istore 7, 2) := by decide +kernel
theorem dL_law_1323 : decode cL_law 1323 = .ok (.aload_n 2, 1) := by decide +kernel
theorem dL_law_1324 : decode cL_law 1324 = .ok (.invokevirtual 88, 3) := by decide +kernel
theorem dL_law_1327 : decode cL_law 1327 = .ok (.iload 6, 2) := by decide +kernel
theorem dL_law_1329 : decode cL_law 1329 = .ok (.if_icmp .eq 5, 3) := by decide +kernel
theorem dL_law_1332 : decode cL_law 1332 = .ok (.iconst 0, 1) := by decide +kernel
theorem dL_law_1333 : decode cL_law 1333 = .ok (.ireturn, 1) := by decide +kernel
theorem dL_law_1334 : decode cL_law 1334 = .ok (.iload 6, 2) := by decide +kernel
theorem dL_law_1336 : decode cL_law 1336 = .ok (.ifCond .ne 15, 3) := by decide +kernel
theorem dL_law_1339 : decode cL_law 1339 = .ok (.aload_n 3, 1) := by decide +kernel
theorem dL_law_1340 : decode cL_law 1340 = .ok (.iconst 0, 1) := by decide +kernel
theorem dL_law_1341 : decode cL_law 1341 = .ok (.laload, 1) := by decide +kernel
theorem dL_law_1342 : decode cL_law 1342 = .ok (.iload 7, 2) := by decide +kernel
theorem dL_law_1344 : decode cL_law 1344 = .ok (.i2l, 1) := by decide +kernel
theorem dL_law_1345 : decode cL_law 1345 = .ok (.lcmp, 1) := by decide +kernel
theorem dL_law_1346 : decode cL_law 1346 = .ok (.ifCond .eq 5, 3) := by decide +kernel
theorem dL_law_1349 : decode cL_law 1349 = .ok (.iconst 0, 1) := by decide +kernel
theorem dL_law_1350 : decode cL_law 1350 = .ok (.ireturn, 1) := by decide +kernel
theorem dL_law_1351 : decode cL_law 1351 = .ok (.goto 59, 3) := by decide +kernel
theorem dL_law_1354 : decode cL_law 1354 = .ok (.aload_n 1, 1) := by decide +kernel
theorem dL_law_1355 : decode cL_law 1355 = .ok (.aload_n 0, 1) := by decide +kernel
theorem dL_law_1356 : decode cL_law 1356 = .ok (.iload 5, 2) := by decide +kernel
theorem dL_law_1358 : decode cL_law 1358 = .ok (.iconst 1, 1) := by decide +kernel
theorem dL_law_1359 : decode cL_law 1359 = .ok (.iadd, 1) := by decide +kernel
theorem dL_law_1360 : decode cL_law 1360 = .ok (.iaload, 1) := by decide +kernel
theorem dL_law_1361 : decode cL_law 1361 = .ok (.aload_n 3, 1) := by decide +kernel
theorem dL_law_1362 : decode cL_law 1362 = .ok (.invokestatic 153, 3) := by decide +kernel
theorem dL_law_1365 : decode cL_law 1365 = .ok (.istore 6, 2) := by decide +kernel
theorem dL_law_1367 : decode cL_law 1367 = .ok (.aload_n 2, 1) := by decide +kernel
theorem dL_law_1368 : decode cL_law 1368 = .ok (.aload_n 0, 1) := by decide +kernel
theorem dL_law_1369 : decode cL_law 1369 = .ok (.iload 5, 2) := by decide +kernel
theorem dL_law_1371 : decode cL_law 1371 = .ok (.iconst 1, 1) := by decide +kernel
theorem dL_law_1372 : decode cL_law 1372 = .ok (.iadd, 1) := by decide +kernel
theorem dL_law_1373 : decode cL_law 1373 = .ok (.iaload, 1) := by decide +kernel
theorem dL_law_1374 : decode cL_law 1374 = .ok (.invokevirtual 155, 3) := by decide +kernel
theorem dL_law_1377 : decode cL_law 1377 = .ok (.istore 7, 2) := by decide +kernel
theorem dL_law_1379 : decode cL_law 1379 = .ok (.aload_n 2, 1) := by decide +kernel
theorem dL_law_1380 : decode cL_law 1380 = .ok (.invokevirtual 88, 3) := by decide +kernel
theorem dL_law_1383 : decode cL_law 1383 = .ok (.iload 6, 2) := by decide +kernel
theorem dL_law_1385 : decode cL_law 1385 = .ok (.if_icmp .eq 5, 3) := by decide +kernel
theorem dL_law_1388 : decode cL_law 1388 = .ok (.iconst 0, 1) := by decide +kernel
theorem dL_law_1389 : decode cL_law 1389 = .ok (.ireturn, 1) := by decide +kernel
theorem dL_law_1390 : decode cL_law 1390 = .ok (.iload 6, 2) := by decide +kernel
theorem dL_law_1392 : decode cL_law 1392 = .ok (.ifCond .ne 15, 3) := by decide +kernel
theorem dL_law_1395 : decode cL_law 1395 = .ok (.aload_n 3, 1) := by decide +kernel
theorem dL_law_1396 : decode cL_law 1396 = .ok (.iconst 0, 1) := by decide +kernel
theorem dL_law_1397 : decode cL_law 1397 = .ok (.laload, 1) := by decide +kernel
theorem dL_law_1398 : decode cL_law 1398 = .ok (.iload 7, 2) := by decide +kernel
theorem dL_law_1400 : decode cL_law 1400 = .ok (.i2l, 1) := by decide +kernel
theorem dL_law_1401 : decode cL_law 1401 = .ok (.lcmp, 1) := by decide +kernel
theorem dL_law_1402 : decode cL_law 1402 = .ok (.ifCond .eq 5, 3) := by decide +kernel
theorem dL_law_1405 : decode cL_law 1405 = .ok (.iconst 0, 1) := by decide +kernel
theorem dL_law_1406 : decode cL_law 1406 = .ok (.ireturn, 1) := by decide +kernel
theorem dL_law_1407 : decode cL_law 1407 = .ok (.goto 3, 3) := by decide +kernel
theorem dL_law_1410 : decode cL_law 1410 = .ok (.iinc 5 6, 3) := by decide +kernel
theorem dL_law_1413 : decode cL_law 1413 = .ok (.goto (-1385), 3) := by decide +kernel
theorem dL_law_1416 : decode cL_law 1416 = .ok (.iconst 1, 1) := by decide +kernel
theorem dL_law_1417 : decode cL_law 1417 = .ok (.ireturn, 1) := by decide +kernel
end
section
/-! the words of the tables by their places (by program) -/
theorem wL_r1 : ∀ w ∈ wsL_law0_r1, w ∈ wsL_law := fun _ h => (List.mem_append_left _ (List.mem_append_left _ (List.mem_append_left _ (List.mem_append_left _ (List.mem_append_left _ (List.mem_append_left _ (List.mem_append_left _ (List.mem_append_left _ (List.mem_append_left _ (List.mem_append_left _ (List.mem_append_left _ (List.mem_append_left _ (List.mem_append_left _ h)))))))))))))
theorem wL_r2 : ∀ w ∈ wsL_law0_r2, w ∈ wsL_law := fun _ h => (List.mem_append_left _ (List.mem_append_left _ (List.mem_append_left _ (List.mem_append_left _ (List.mem_append_left _ (List.mem_append_left _ (List.mem_append_left _ (List.mem_append_left _ (List.mem_append_left _ (List.mem_append_left _ (List.mem_append_left _ (List.mem_append_left _ (List.mem_append_right _ (List.mem_append_left _ h))))))))))))))
theorem wL_r3 : ∀ w ∈ wsL_law0_r3, w ∈ wsL_law := fun _ h => (List.mem_append_left _ (List.mem_append_left _ (List.mem_append_left _ (List.mem_append_left _ (List.mem_append_left _ (List.mem_append_left _ (List.mem_append_left _ (List.mem_append_left _ (List.mem_append_left _ (List.mem_append_left _ (List.mem_append_left _ (List.mem_append_left _ (List.mem_append_right _ (List.mem_append_right _ (List.mem_append_left _ h)))))))))))))))
theorem wL_r4 : ∀ w ∈ wsL_law0_r4, w ∈ wsL_law := fun _ h => (List.mem_append_left _ (List.mem_append_left _ (List.mem_append_left _ (List.mem_append_left _ (List.mem_append_left _ (List.mem_append_left _ (List.mem_append_left _ (List.mem_append_left _ (List.mem_append_left _ (List.mem_append_left _ (List.mem_append_left _ (List.mem_append_left _ (List.mem_append_right _ (List.mem_append_right _ (List.mem_append_right _ (List.mem_append_left _ h))))))))))))))))
theorem wL_r5 : ∀ w ∈ wsL_law0_r5, w ∈ wsL_law := fun _ h => (List.mem_append_left _ (List.mem_append_left _ (List.mem_append_left _ (List.mem_append_left _ (List.mem_append_left _ (List.mem_append_left _ (List.mem_append_left _ (List.mem_append_left _ (List.mem_append_left _ (List.mem_append_left _ (List.mem_append_left _ (List.mem_append_left _ (List.mem_append_right _ (List.mem_append_right _ (List.mem_append_right _ (List.mem_append_right _ (List.mem_append_left _ h)))))))))))))))))
theorem wL_r6 : ∀ w ∈ wsL_law0_r6, w ∈ wsL_law := fun _ h => (List.mem_append_left _ (List.mem_append_left _ (List.mem_append_left _ (List.mem_append_left _ (List.mem_append_left _ (List.mem_append_left _ (List.mem_append_left _ (List.mem_append_left _ (List.mem_append_left _ (List.mem_append_left _ (List.mem_append_left _ (List.mem_append_left _ (List.mem_append_right _ (List.mem_append_right _ (List.mem_append_right _ (List.mem_append_right _ (List.mem_append_right _ (List.mem_append_left _ h))))))))))))))))))
theorem wL_r7 : ∀ w ∈ wsL_law0_r7, w ∈ wsL_law := fun _ h => (List.mem_append_left _ (List.mem_append_left _ (List.mem_append_left _ (List.mem_append_left _ (List.mem_append_left _ (List.mem_append_left _ (List.mem_append_left _ (List.mem_append_left _ (List.mem_append_left _ (List.mem_append_left _ (List.mem_append_left _ (List.mem_append_left _ (List.mem_append_right _ (List.mem_append_right _ (List.mem_append_right _ (List.mem_append_right _ (List.mem_append_right _ (List.mem_append_right _ (List.mem_append_left _ h)))))))))))))))))))
theorem wL_r8 : ∀ w ∈ wsL_law0_r8, w ∈ wsL_law := fun _ h => (List.mem_append_left _ (List.mem_append_left _ (List.mem_append_left _ (List.mem_append_left _ (List.mem_append_left _ (List.mem_append_left _ (List.mem_append_left _ (List.mem_append_left _ (List.mem_append_left _ (List.mem_append_left _ (List.mem_append_left _ (List.mem_append_left _ (List.mem_append_right _ (List.mem_append_right _ (List.mem_append_right _ (List.mem_append_right _ (List.mem_append_right _ (List.mem_append_right _ (List.mem_append_right _ (List.mem_append_left _ h))))))))))))))))))))
theorem wL_r9 : ∀ w ∈ wsL_law0_r9, w ∈ wsL_law := fun _ h => (List.mem_append_left _ (List.mem_append_left _ (List.mem_append_left _ (List.mem_append_left _ (List.mem_append_left _ (List.mem_append_left _ (List.mem_append_left _ (List.mem_append_left _ (List.mem_append_left _ (List.mem_append_left _ (List.mem_append_left _ (List.mem_append_left _ (List.mem_append_right _ (List.mem_append_right _ (List.mem_append_right _ (List.mem_append_right _ (List.mem_append_right _ (List.mem_append_right _ (List.mem_append_right _ (List.mem_append_right _ (List.mem_append_left _ h)))))))))))))))))))))
theorem wL_r10 : ∀ w ∈ wsL_law0_r10, w ∈ wsL_law := fun _ h => (List.mem_append_left _ (List.mem_append_left _ (List.mem_append_left _ (List.mem_append_left _ (List.mem_append_left _ (List.mem_append_left _ (List.mem_append_left _ (List.mem_append_left _ (List.mem_append_left _ (List.mem_append_left _ (List.mem_append_left _ (List.mem_append_left _ (List.mem_append_right _ (List.mem_append_right _ (List.mem_append_right _ (List.mem_append_right _ (List.mem_append_right _ (List.mem_append_right _ (List.mem_append_right _ (List.mem_append_right _ (List.mem_append_right _ (List.mem_append_left _ h))))))))))))))))))))))
theorem wL_r11 : ∀ w ∈ wsL_law0_r11, w ∈ wsL_law := fun _ h => (List.mem_append_left _ (List.mem_append_left _ (List.mem_append_left _ (List.mem_append_left _ (List.mem_append_left _ (List.mem_append_left _ (List.mem_append_left _ (List.mem_append_left _ (List.mem_append_left _ (List.mem_append_left _ (List.mem_append_left _ (List.mem_append_left _ (List.mem_append_right _ (List.mem_append_right _ (List.mem_append_right _ (List.mem_append_right _ (List.mem_append_right _ (List.mem_append_right _ (List.mem_append_right _ (List.mem_append_right _ (List.mem_append_right _ (List.mem_append_right _ (List.mem_append_left _ h)))))))))))))))))))))))
theorem wL_r12 : ∀ w ∈ wsL_law0_r12, w ∈ wsL_law := fun _ h => (List.mem_append_left _ (List.mem_append_left _ (List.mem_append_left _ (List.mem_append_left _ (List.mem_append_left _ (List.mem_append_left _ (List.mem_append_left _ (List.mem_append_left _ (List.mem_append_left _ (List.mem_append_left _ (List.mem_append_left _ (List.mem_append_left _ (List.mem_append_right _ (List.mem_append_right _ (List.mem_append_right _ (List.mem_append_right _ (List.mem_append_right _ (List.mem_append_right _ (List.mem_append_right _ (List.mem_append_right _ (List.mem_append_right _ (List.mem_append_right _ (List.mem_append_right _ (List.mem_append_left _ h))))))))))))))))))))))))
theorem wL_r13 : ∀ w ∈ wsL_law0_r13, w ∈ wsL_law := fun _ h => (List.mem_append_left _ (List.mem_append_left _ (List.mem_append_left _ (List.mem_append_left _ (List.mem_append_left _ (List.mem_append_left _ (List.mem_append_left _ (List.mem_append_left _ (List.mem_append_left _ (List.mem_append_left _ (List.mem_append_left _ (List.mem_append_left _ (List.mem_append_right _ (List.mem_append_right _ (List.mem_append_right _ (List.mem_append_right _ (List.mem_append_right _ (List.mem_append_right _ (List.mem_append_right _ (List.mem_append_right _ (List.mem_append_right _ (List.mem_append_right _ (List.mem_append_right _ (List.mem_append_right _ (List.mem_append_left _ h)))))))))))))))))))))))))
theorem wL_r14 : ∀ w ∈ wsL_law0_r14, w ∈ wsL_law := fun _ h => (List.mem_append_left _ (List.mem_append_left _ (List.mem_append_left _ (List.mem_append_left _ (List.mem_append_left _ (List.mem_append_left _ (List.mem_append_left _ (List.mem_append_left _ (List.mem_append_left _ (List.mem_append_left _ (List.mem_append_left _ (List.mem_append_left _ (List.mem_append_right _ (List.mem_append_right _ (List.mem_append_right _ (List.mem_append_right _ (List.mem_append_right _ (List.mem_append_right _ (List.mem_append_right _ (List.mem_append_right _ (List.mem_append_right _ (List.mem_append_right _ (List.mem_append_right _ (List.mem_append_right _ (List.mem_append_right _ (List.mem_append_left _ h))))))))))))))))))))))))))
theorem wL_r15 : ∀ w ∈ wsL_law0_r15, w ∈ wsL_law := fun _ h => (List.mem_append_left _ (List.mem_append_left _ (List.mem_append_left _ (List.mem_append_left _ (List.mem_append_left _ (List.mem_append_left _ (List.mem_append_left _ (List.mem_append_left _ (List.mem_append_left _ (List.mem_append_left _ (List.mem_append_left _ (List.mem_append_left _ (List.mem_append_right _ (List.mem_append_right _ (List.mem_append_right _ (List.mem_append_right _ (List.mem_append_right _ (List.mem_append_right _ (List.mem_append_right _ (List.mem_append_right _ (List.mem_append_right _ (List.mem_append_right _ (List.mem_append_right _ (List.mem_append_right _ (List.mem_append_right _ (List.mem_append_right _ (List.mem_append_left _ h)))))))))))))))))))))))))))
theorem wL_r16 : ∀ w ∈ wsL_law0_r16, w ∈ wsL_law := fun _ h => (List.mem_append_left _ (List.mem_append_left _ (List.mem_append_left _ (List.mem_append_left _ (List.mem_append_left _ (List.mem_append_left _ (List.mem_append_left _ (List.mem_append_left _ (List.mem_append_left _ (List.mem_append_left _ (List.mem_append_left _ (List.mem_append_left _ (List.mem_append_right _ (List.mem_append_right _ (List.mem_append_right _ (List.mem_append_right _ (List.mem_append_right _ (List.mem_append_right _ (List.mem_append_right _ (List.mem_append_right _ (List.mem_append_right _ (List.mem_append_right _ (List.mem_append_right _ (List.mem_append_right _ (List.mem_append_right _ (List.mem_append_right _ (List.mem_append_right _ (List.mem_append_left _ h))))))))))))))))))))))))))))
theorem wL_r17 : ∀ w ∈ wsL_law0_r17, w ∈ wsL_law := fun _ h => (List.mem_append_left _ (List.mem_append_left _ (List.mem_append_left _ (List.mem_append_left _ (List.mem_append_left _ (List.mem_append_left _ (List.mem_append_left _ (List.mem_append_left _ (List.mem_append_left _ (List.mem_append_left _ (List.mem_append_left _ (List.mem_append_left _ (List.mem_append_right _ (List.mem_append_right _ (List.mem_append_right _ (List.mem_append_right _ (List.mem_append_right _ (List.mem_append_right _ (List.mem_append_right _ (List.mem_append_right _ (List.mem_append_right _ (List.mem_append_right _ (List.mem_append_right _ (List.mem_append_right _ (List.mem_append_right _ (List.mem_append_right _ (List.mem_append_right _ (List.mem_append_right _ (List.mem_append_left _ h)))))))))))))))))))))))))))))
theorem wL_r18 : ∀ w ∈ wsL_law0_r18, w ∈ wsL_law := fun _ h => (List.mem_append_left _ (List.mem_append_left _ (List.mem_append_left _ (List.mem_append_left _ (List.mem_append_left _ (List.mem_append_left _ (List.mem_append_left _ (List.mem_append_left _ (List.mem_append_left _ (List.mem_append_left _ (List.mem_append_left _ (List.mem_append_left _ (List.mem_append_right _ (List.mem_append_right _ (List.mem_append_right _ (List.mem_append_right _ (List.mem_append_right _ (List.mem_append_right _ (List.mem_append_right _ (List.mem_append_right _ (List.mem_append_right _ (List.mem_append_right _ (List.mem_append_right _ (List.mem_append_right _ (List.mem_append_right _ (List.mem_append_right _ (List.mem_append_right _ (List.mem_append_right _ (List.mem_append_right _ (List.mem_append_left _ h))))))))))))))))))))))))))))))
theorem wL_r19 : ∀ w ∈ wsL_law0_r19, w ∈ wsL_law := fun _ h => (List.mem_append_left _ (List.mem_append_left _ (List.mem_append_left _ (List.mem_append_left _ (List.mem_append_left _ (List.mem_append_left _ (List.mem_append_left _ (List.mem_append_left _ (List.mem_append_left _ (List.mem_append_left _ (List.mem_append_left _ (List.mem_append_left _ (List.mem_append_right _ (List.mem_append_right _ (List.mem_append_right _ (List.mem_append_right _ (List.mem_append_right _ (List.mem_append_right _ (List.mem_append_right _ (List.mem_append_right _ (List.mem_append_right _ (List.mem_append_right _ (List.mem_append_right _ (List.mem_append_right _ (List.mem_append_right _ (List.mem_append_right _ (List.mem_append_right _ (List.mem_append_right _ (List.mem_append_right _ (List.mem_append_right _ (List.mem_append_left _ h)))))))))))))))))))))))))))))))
theorem wL_r20 : ∀ w ∈ wsL_law0_r20, w ∈ wsL_law := fun _ h => (List.mem_append_left _ (List.mem_append_left _ (List.mem_append_left _ (List.mem_append_left _ (List.mem_append_left _ (List.mem_append_left _ (List.mem_append_left _ (List.mem_append_left _ (List.mem_append_left _ (List.mem_append_left _ (List.mem_append_left _ (List.mem_append_left _ (List.mem_append_right _ (List.mem_append_right _ (List.mem_append_right _ (List.mem_append_right _ (List.mem_append_right _ (List.mem_append_right _ (List.mem_append_right _ (List.mem_append_right _ (List.mem_append_right _ (List.mem_append_right _ (List.mem_append_right _ (List.mem_append_right _ (List.mem_append_right _ (List.mem_append_right _ (List.mem_append_right _ (List.mem_append_right _ (List.mem_append_right _ (List.mem_append_right _ (List.mem_append_right _ (List.mem_append_left _ h))))))))))))))))))))))))))))))))
theorem wL_r21 : ∀ w ∈ wsL_law0_r21, w ∈ wsL_law := fun _ h => (List.mem_append_left _ (List.mem_append_left _ (List.mem_append_left _ (List.mem_append_left _ (List.mem_append_left _ (List.mem_append_left _ (List.mem_append_left _ (List.mem_append_left _ (List.mem_append_left _ (List.mem_append_left _ (List.mem_append_left _ (List.mem_append_left _ (List.mem_append_right _ (List.mem_append_right _ (List.mem_append_right _ (List.mem_append_right _ (List.mem_append_right _ (List.mem_append_right _ (List.mem_append_right _ (List.mem_append_right _ (List.mem_append_right _ (List.mem_append_right _ (List.mem_append_right _ (List.mem_append_right _ (List.mem_append_right _ (List.mem_append_right _ (List.mem_append_right _ (List.mem_append_right _ (List.mem_append_right _ (List.mem_append_right _ (List.mem_append_right _ (List.mem_append_right _ (List.mem_append_left _ h)))))))))))))))))))))))))))))))))
theorem wL_r22 : ∀ w ∈ wsL_law0_r22, w ∈ wsL_law := fun _ h => (List.mem_append_left _ (List.mem_append_left _ (List.mem_append_left _ (List.mem_append_left _ (List.mem_append_left _ (List.mem_append_left _ (List.mem_append_left _ (List.mem_append_left _ (List.mem_append_left _ (List.mem_append_left _ (List.mem_append_left _ (List.mem_append_left _ (List.mem_append_right _ (List.mem_append_right _ (List.mem_append_right _ (List.mem_append_right _ (List.mem_append_right _ (List.mem_append_right _ (List.mem_append_right _ (List.mem_append_right _ (List.mem_append_right _ (List.mem_append_right _ (List.mem_append_right _ (List.mem_append_right _ (List.mem_append_right _ (List.mem_append_right _ (List.mem_append_right _ (List.mem_append_right _ (List.mem_append_right _ (List.mem_append_right _ (List.mem_append_right _ (List.mem_append_right _ (List.mem_append_right _ (List.mem_append_left _ h))))))))))))))))))))))))))))))))))
theorem wL_r23 : ∀ w ∈ wsL_law0_r23, w ∈ wsL_law := fun _ h => (List.mem_append_left _ (List.mem_append_left _ (List.mem_append_left _ (List.mem_append_left _ (List.mem_append_left _ (List.mem_append_left _ (List.mem_append_left _ (List.mem_append_left _ (List.mem_append_left _ (List.mem_append_left _ (List.mem_append_left _ (List.mem_append_left _ (List.mem_append_right _ (List.mem_append_right _ (List.mem_append_right _ (List.mem_append_right _ (List.mem_append_right _ (List.mem_append_right _ (List.mem_append_right _ (List.mem_append_right _ (List.mem_append_right _ (List.mem_append_right _ (List.mem_append_right _ (List.mem_append_right _ (List.mem_append_right _ (List.mem_append_right _ (List.mem_append_right _ (List.mem_append_right _ (List.mem_append_right _ (List.mem_append_right _ (List.mem_append_right _ (List.mem_append_right _ (List.mem_append_right _ (List.mem_append_right _ (List.mem_append_left _ h)))))))))))))))))))))))))))))))))))
theorem wL_r24 : ∀ w ∈ wsL_law0_r24, w ∈ wsL_law := fun _ h => (List.mem_append_left _ (List.mem_append_left _ (List.mem_append_left _ (List.mem_append_left _ (List.mem_append_left _ (List.mem_append_left _ (List.mem_append_left _ (List.mem_append_left _ (List.mem_append_left _ (List.mem_append_left _ (List.mem_append_left _ (List.mem_append_left _ (List.mem_append_right _ (List.mem_append_right _ (List.mem_append_right _ (List.mem_append_right _ (List.mem_append_right _ (List.mem_append_right _ (List.mem_append_right _ (List.mem_append_right _ (List.mem_append_right _ (List.mem_append_right _ (List.mem_append_right _ (List.mem_append_right _ (List.mem_append_right _ (List.mem_append_right _ (List.mem_append_right _ (List.mem_append_right _ (List.mem_append_right _ (List.mem_append_right _ (List.mem_append_right _ (List.mem_append_right _ (List.mem_append_right _ (List.mem_append_right _ (List.mem_append_right _ (List.mem_append_left _ h))))))))))))))))))))))))))))))))))))
theorem wL_r25 : ∀ w ∈ wsL_law0_r25, w ∈ wsL_law := fun _ h => (List.mem_append_left _ (List.mem_append_left _ (List.mem_append_left _ (List.mem_append_left _ (List.mem_append_left _ (List.mem_append_left _ (List.mem_append_left _ (List.mem_append_left _ (List.mem_append_left _ (List.mem_append_left _ (List.mem_append_left _ (List.mem_append_left _ (List.mem_append_right _ (List.mem_append_right _ (List.mem_append_right _ (List.mem_append_right _ (List.mem_append_right _ (List.mem_append_right _ (List.mem_append_right _ (List.mem_append_right _ (List.mem_append_right _ (List.mem_append_right _ (List.mem_append_right _ (List.mem_append_right _ (List.mem_append_right _ (List.mem_append_right _ (List.mem_append_right _ (List.mem_append_right _ (List.mem_append_right _ (List.mem_append_right _ (List.mem_append_right _ (List.mem_append_right _ (List.mem_append_right _ (List.mem_append_right _ (List.mem_append_right _ (List.mem_append_right _ (List.mem_append_left _ h)))))))))))))))))))))))))))))))))))))
theorem wL_r26 : ∀ w ∈ wsL_law0_r26, w ∈ wsL_law := fun _ h => (List.mem_append_left _ (List.mem_append_left _ (List.mem_append_left _ (List.mem_append_left _ (List.mem_append_left _ (List.mem_append_left _ (List.mem_append_left _ (List.mem_append_left _ (List.mem_append_left _ (List.mem_append_left _ (List.mem_append_left _ (List.mem_append_left _ (List.mem_append_right _ (List.mem_append_right _ (List.mem_append_right _ (List.mem_append_right _ (List.mem_append_right _ (List.mem_append_right _ (List.mem_append_right _ (List.mem_append_right _ (List.mem_append_right _ (List.mem_append_right _ (List.mem_append_right _ (List.mem_append_right _ (List.mem_append_right _ (List.mem_append_right _ (List.mem_append_right _ (List.mem_append_right _ (List.mem_append_right _ (List.mem_append_right _ (List.mem_append_right _ (List.mem_append_right _ (List.mem_append_right _ (List.mem_append_right _ (List.mem_append_right _ (List.mem_append_right _ (List.mem_append_right _ (List.mem_append_left _ h))))))))))))))))))))))))))))))))))))))
theorem wL_r27 : ∀ w ∈ wsL_law0_r27, w ∈ wsL_law := fun _ h => (List.mem_append_left _ (List.mem_append_left _ (List.mem_append_left _ (List.mem_append_left _ (List.mem_append_left _ (List.mem_append_left _ (List.mem_append_left _ (List.mem_append_left _ (List.mem_append_left _ (List.mem_append_left _ (List.mem_append_left _ (List.mem_append_left _ (List.mem_append_right _ (List.mem_append_right _ (List.mem_append_right _ (List.mem_append_right _ (List.mem_append_right _ (List.mem_append_right _ (List.mem_append_right _ (List.mem_append_right _ (List.mem_append_right _ (List.mem_append_right _ (List.mem_append_right _ (List.mem_append_right _ (List.mem_append_right _ (List.mem_append_right _ (List.mem_append_right _ (List.mem_append_right _ (List.mem_append_right _ (List.mem_append_right _ (List.mem_append_right _ (List.mem_append_right _ (List.mem_append_right _ (List.mem_append_right _ (List.mem_append_right _ (List.mem_append_right _ (List.mem_append_right _ (List.mem_append_right _ h))))))))))))))))))))))))))))))))))))))
theorem m_cl_L_8 : Cond.classLink RL 8 RX6 ∈ wsL_law := wL_r1 _ (List.mem_of_getElem? (i := 0) rfl)
theorem m_ib_X6 : Cond.instantiable RX6 7 ∈ wsL_law := wL_r1 _ (List.mem_of_getElem? (i := 1) rfl)
theorem m_ini_X6 : Cond.initialized RX6 ∈ wsL_law := wL_r1 _ (List.mem_of_getElem? (i := 2) rfl)
theorem m_cl_L_79 : Cond.classLink RL 79 RX7 ∈ wsL_law := wL_r1 _ (List.mem_of_getElem? (i := 3) rfl)
theorem m_ib_X7 : Cond.instantiable RX7 35 ∈ wsL_law := wL_r1 _ (List.mem_of_getElem? (i := 4) rfl)
theorem m_ini_X7 : Cond.initialized RX7 ∈ wsL_law := wL_r1 _ (List.mem_of_getElem? (i := 5) rfl)
theorem m_ac__long : Cond.arrayClass .long ∈ wsL_law := wL_r1 _ (List.mem_of_getElem? (i := 6) rfl)
theorem m_ac__double : Cond.arrayClass .double ∈ wsL_law := wL_r1 _ (List.mem_of_getElem? (i := 7) rfl)
theorem m_ml_L_78 : Cond.methodLink RL 78 yX6_init ∈ wsL_law := wL_r1 _ (List.mem_of_getElem? (i := 8) rfl)
theorem m_im_X6_init : Cond.instanceMethod yX6_init ∈ wsL_law := wL_r1 _ (List.mem_of_getElem? (i := 9) rfl)
theorem m_co_X6_init : Cond.code yX6_init cX6_init 1 none ∈ wsL_law := wL_r1 _ (List.mem_of_getElem? (i := 10) rfl)
theorem m_ml_X6_1 : Cond.methodLink RX6 1 objectInit ∈ wsL_law := wL_r1 _ (List.mem_of_getElem? (i := 11) rfl)
theorem m_im_objectInit : Cond.instanceMethod objectInit ∈ wsL_law := wL_r1 _ (List.mem_of_getElem? (i := 12) rfl)
theorem m_co_objectInit : Cond.code objectInit ⟨#[0xb1]⟩ 1 none ∈ wsL_law := wL_r1 _ (List.mem_of_getElem? (i := 13) rfl)
theorem m_cl_X6_7 : Cond.classLink RX6 7 RX5 ∈ wsL_law := wL_r1 _ (List.mem_of_getElem? (i := 14) rfl)
theorem m_ib_X5 : Cond.instantiable RX5 4 ∈ wsL_law := wL_r1 _ (List.mem_of_getElem? (i := 15) rfl)
theorem m_ini_X5 : Cond.initialized RX5 ∈ wsL_law := wL_r1 _ (List.mem_of_getElem? (i := 16) rfl)
theorem m_fl_X6_10 : Cond.fieldLink RX6 10 "IcePad" "sky" "LIcePad$Weather;" ∈ wsL_law := wL_r1 _ (List.mem_of_getElem? (i := 17) rfl)
theorem m_cl_X6_16 : Cond.classLink RX6 16 RX3 ∈ wsL_law := wL_r1 _ (List.mem_of_getElem? (i := 18) rfl)
theorem m_ib_X3 : Cond.instantiable RX3 4 ∈ wsL_law := wL_r1 _ (List.mem_of_getElem? (i := 19) rfl)
theorem m_ini_X3 : Cond.initialized RX3 ∈ wsL_law := wL_r1 _ (List.mem_of_getElem? (i := 20) rfl)
theorem m_fl_X6_19 : Cond.fieldLink RX6 19 "IcePad" "runway" "LIcePad$Runway;" ∈ wsL_law := wL_r1 _ (List.mem_of_getElem? (i := 21) rfl)
theorem m_cl_X6_23 : Cond.classLink RX6 23 RX2 ∈ wsL_law := wL_r1 _ (List.mem_of_getElem? (i := 22) rfl)
theorem m_ib_X2 : Cond.instantiable RX2 3 ∈ wsL_law := wL_r1 _ (List.mem_of_getElem? (i := 23) rfl)
theorem m_ini_X2 : Cond.initialized RX2 ∈ wsL_law := wL_r2 _ (List.mem_of_getElem? (i := 0) rfl)
theorem m_fl_X6_26 : Cond.fieldLink RX6 26 "IcePad" "fluids" "LIcePad$Fluids;" ∈ wsL_law := wL_r2 _ (List.mem_of_getElem? (i := 1) rfl)
theorem m_cl_X6_30 : Cond.classLink RX6 30 RX1 ∈ wsL_law := wL_r2 _ (List.mem_of_getElem? (i := 2) rfl)
theorem m_ib_X1 : Cond.instantiable RX1 6 ∈ wsL_law := wL_r2 _ (List.mem_of_getElem? (i := 3) rfl)
theorem m_ini_X1 : Cond.initialized RX1 ∈ wsL_law := wL_r2 _ (List.mem_of_getElem? (i := 4) rfl)
theorem m_fl_X6_33 : Cond.fieldLink RX6 33 "IcePad" "basin" "LIcePad$Basin;" ∈ wsL_law := wL_r2 _ (List.mem_of_getElem? (i := 5) rfl)
theorem m_cl_X6_37 : Cond.classLink RX6 37 RX0 ∈ wsL_law := wL_r2 _ (List.mem_of_getElem? (i := 6) rfl)
theorem m_fl_X6_39 : Cond.fieldLink RX6 39 "IcePad" "fleet" "[LIcePad$Aircraft;" ∈ wsL_law := wL_r2 _ (List.mem_of_getElem? (i := 7) rfl)
theorem m_im_X5_init : Cond.instanceMethod yX5_init ∈ wsL_law := wL_r2 _ (List.mem_of_getElem? (i := 8) rfl)
theorem m_co_X5_init : Cond.code yX5_init cX5_init 1 none ∈ wsL_law := wL_r2 _ (List.mem_of_getElem? (i := 9) rfl)
theorem m_ml_X5_1 : Cond.methodLink RX5 1 objectInit ∈ wsL_law := wL_r2 _ (List.mem_of_getElem? (i := 10) rfl)
theorem m_ml_X6_18 : Cond.methodLink RX6 18 yX3_init ∈ wsL_law := wL_r2 _ (List.mem_of_getElem? (i := 11) rfl)
theorem m_im_X3_init : Cond.instanceMethod yX3_init ∈ wsL_law := wL_r2 _ (List.mem_of_getElem? (i := 12) rfl)
theorem m_co_X3_init : Cond.code yX3_init cX3_init 2 none ∈ wsL_law := wL_r2 _ (List.mem_of_getElem? (i := 13) rfl)
theorem m_ml_X3_3 : Cond.methodLink RX3 3 objectInit ∈ wsL_law := wL_r2 _ (List.mem_of_getElem? (i := 14) rfl)
theorem m_fl_X3_9 : Cond.fieldLink RX3 9 "IcePad$Runway" "closedUpTo" "I" ∈ wsL_law := wL_r2 _ (List.mem_of_getElem? (i := 15) rfl)
theorem m_cl_X3_15 : Cond.classLink RX3 15 RX4 ∈ wsL_law := wL_r2 _ (List.mem_of_getElem? (i := 16) rfl)
theorem m_fl_X3_17 : Cond.fieldLink RX3 17 "IcePad$Runway" "thirds" "[LIcePad$Third;" ∈ wsL_law := wL_r2 _ (List.mem_of_getElem? (i := 17) rfl)
theorem m_ib_X4 : Cond.instantiable RX4 5 ∈ wsL_law := wL_r2 _ (List.mem_of_getElem? (i := 18) rfl)
theorem m_ini_X4 : Cond.initialized RX4 ∈ wsL_law := wL_r2 _ (List.mem_of_getElem? (i := 19) rfl)
theorem m_im_X4_init : Cond.instanceMethod yX4_init ∈ wsL_law := wL_r2 _ (List.mem_of_getElem? (i := 20) rfl)
theorem m_co_X4_init : Cond.code yX4_init cX4_init 1 none ∈ wsL_law := wL_r2 _ (List.mem_of_getElem? (i := 21) rfl)
theorem m_ml_X4_3 : Cond.methodLink RX4 3 objectInit ∈ wsL_law := wL_r2 _ (List.mem_of_getElem? (i := 22) rfl)
theorem m_fl_X4_9 : Cond.fieldLink RX4 9 "IcePad$Third" "cover" "I" ∈ wsL_law := wL_r2 _ (List.mem_of_getElem? (i := 23) rfl)
theorem m_fl_X4_15 : Cond.fieldLink RX4 15 "IcePad$Third" "sprayedUpTo" "I" ∈ wsL_law := wL_r3 _ (List.mem_of_getElem? (i := 0) rfl)
theorem m_fl_X4_18 : Cond.fieldLink RX4 18 "IcePad$Third" "reportMinute" "I" ∈ wsL_law := wL_r3 _ (List.mem_of_getElem? (i := 1) rfl)
theorem m_ml_X6_25 : Cond.methodLink RX6 25 yX2_init ∈ wsL_law := wL_r3 _ (List.mem_of_getElem? (i := 2) rfl)
theorem m_im_X2_init : Cond.instanceMethod yX2_init ∈ wsL_law := wL_r3 _ (List.mem_of_getElem? (i := 3) rfl)
theorem m_co_X2_init : Cond.code yX2_init cX2_init 3 none ∈ wsL_law := wL_r3 _ (List.mem_of_getElem? (i := 4) rfl)
theorem m_ml_X2_3 : Cond.methodLink RX2 3 objectInit ∈ wsL_law := wL_r3 _ (List.mem_of_getElem? (i := 5) rfl)
theorem m_ac__int : Cond.arrayClass .int ∈ wsL_law := wL_r3 _ (List.mem_of_getElem? (i := 6) rfl)
theorem m_fl_X2_9 : Cond.fieldLink RX2 9 "IcePad$Fluids" "tanks" "[I" ∈ wsL_law := wL_r3 _ (List.mem_of_getElem? (i := 7) rfl)
theorem m_cl_X2_15 : Cond.classLink RX2 15 "[[I" ∈ wsL_law := wL_r3 _ (List.mem_of_getElem? (i := 8) rfl)
theorem m_fl_X2_17 : Cond.fieldLink RX2 17 "IcePad$Fluids" "minutes" "[[I" ∈ wsL_law := wL_r3 _ (List.mem_of_getElem? (i := 9) rfl)
theorem m_ml_X2_20 : Cond.methodLink RX2 20 Lib.Math.max.name ∈ wsL_law := wL_r3 _ (List.mem_of_getElem? (i := 10) rfl)
theorem m_st_Lib_Math_max_name : Cond.static Lib.Math.max.name ∈ wsL_law := wL_r3 _ (List.mem_of_getElem? (i := 11) rfl)
theorem m_ini__java_lang_Math_ : Cond.initialized "java/lang/Math" ∈ wsL_law := wL_r3 _ (List.mem_of_getElem? (i := 12) rfl)
theorem m_co_Lib_Math_max_name : Cond.code Lib.Math.max.name Lib.Math.max.code 2 (some .int) ∈ wsL_law := wL_r3 _ (List.mem_of_getElem? (i := 13) rfl)
theorem m_im_X1_init : Cond.instanceMethod yX1_init ∈ wsL_law := wL_r3 _ (List.mem_of_getElem? (i := 14) rfl)
theorem m_co_X1_init : Cond.code yX1_init cX1_init 1 none ∈ wsL_law := wL_r3 _ (List.mem_of_getElem? (i := 15) rfl)
theorem m_ml_X1_3 : Cond.methodLink RX1 3 objectInit ∈ wsL_law := wL_r3 _ (List.mem_of_getElem? (i := 16) rfl)
theorem m_fl_X1_9 : Cond.fieldLink RX1 9 "IcePad$Basin" "permitADay" "I" ∈ wsL_law := wL_r3 _ (List.mem_of_getElem? (i := 17) rfl)
theorem m_ml_L_81 : Cond.methodLink RL 81 yX7_init ∈ wsL_law := wL_r3 _ (List.mem_of_getElem? (i := 18) rfl)
theorem m_im_X7_init : Cond.instanceMethod yX7_init ∈ wsL_law := wL_r3 _ (List.mem_of_getElem? (i := 19) rfl)
theorem m_co_X7_init : Cond.code yX7_init cX7_init 3 none ∈ wsL_law := wL_r3 _ (List.mem_of_getElem? (i := 20) rfl)
theorem m_ml_X7_1 : Cond.methodLink RX7 1 objectInit ∈ wsL_law := wL_r3 _ (List.mem_of_getElem? (i := 21) rfl)
theorem m_fl_X7_7 : Cond.fieldLink RX7 7 "IcePadModel" "covers" "[I" ∈ wsL_law := wL_r3 _ (List.mem_of_getElem? (i := 22) rfl)
theorem m_fl_X7_13 : Cond.fieldLink RX7 13 "IcePadModel" "depths" "[I" ∈ wsL_law := wL_r3 _ (List.mem_of_getElem? (i := 23) rfl)
theorem m_fl_X7_16 : Cond.fieldLink RX7 16 "IcePadModel" "sprayedTo" "[I" ∈ wsL_law := wL_r4 _ (List.mem_of_getElem? (i := 0) rfl)
theorem m_fl_X7_19 : Cond.fieldLink RX7 19 "IcePadModel" "reported" "[I" ∈ wsL_law := wL_r4 _ (List.mem_of_getElem? (i := 1) rfl)
theorem m_fl_X7_22 : Cond.fieldLink RX7 22 "IcePadModel" "reportedAt" "[I" ∈ wsL_law := wL_r4 _ (List.mem_of_getElem? (i := 2) rfl)
theorem m_fl_X7_25 : Cond.fieldLink RX7 25 "IcePadModel" "closedTo" "I" ∈ wsL_law := wL_r4 _ (List.mem_of_getElem? (i := 3) rfl)
theorem m_fl_X7_29 : Cond.fieldLink RX7 29 "IcePadModel" "tanks" "[I" ∈ wsL_law := wL_r4 _ (List.mem_of_getElem? (i := 4) rfl)
theorem m_fl_X7_32 : Cond.fieldLink RX7 32 "IcePadModel" "tables" "[I" ∈ wsL_law := wL_r4 _ (List.mem_of_getElem? (i := 5) rfl)
theorem m_fl_X7_35 : Cond.fieldLink RX7 35 "IcePadModel" "spans" "[I" ∈ wsL_law := wL_r4 _ (List.mem_of_getElem? (i := 6) rfl)
theorem m_fl_X7_38 : Cond.fieldLink RX7 38 "IcePadModel" "slots" "[I" ∈ wsL_law := wL_r4 _ (List.mem_of_getElem? (i := 7) rfl)
theorem m_fl_X7_41 : Cond.fieldLink RX7 41 "IcePadModel" "duties" "[I" ∈ wsL_law := wL_r4 _ (List.mem_of_getElem? (i := 8) rfl)
theorem m_fl_X7_44 : Cond.fieldLink RX7 44 "IcePadModel" "states" "[I" ∈ wsL_law := wL_r4 _ (List.mem_of_getElem? (i := 9) rfl)
theorem m_fl_X7_47 : Cond.fieldLink RX7 47 "IcePadModel" "leftAt" "[I" ∈ wsL_law := wL_r4 _ (List.mem_of_getElem? (i := 10) rfl)
theorem m_fl_X7_50 : Cond.fieldLink RX7 50 "IcePadModel" "treatments" "[I" ∈ wsL_law := wL_r4 _ (List.mem_of_getElem? (i := 11) rfl)
theorem m_fl_X7_53 : Cond.fieldLink RX7 53 "IcePadModel" "litresOn" "[I" ∈ wsL_law := wL_r4 _ (List.mem_of_getElem? (i := 12) rfl)
theorem m_fl_X7_56 : Cond.fieldLink RX7 56 "IcePadModel" "padOf" "[I" ∈ wsL_law := wL_r4 _ (List.mem_of_getElem? (i := 13) rfl)
theorem m_fl_X7_59 : Cond.fieldLink RX7 59 "IcePadModel" "cleanAt" "[I" ∈ wsL_law := wL_r4 _ (List.mem_of_getElem? (i := 14) rfl)
theorem m_fl_X7_62 : Cond.fieldLink RX7 62 "IcePadModel" "begun" "[I" ∈ wsL_law := wL_r4 _ (List.mem_of_getElem? (i := 15) rfl)
theorem m_fl_X7_65 : Cond.fieldLink RX7 65 "IcePadModel" "fluidOf" "[I" ∈ wsL_law := wL_r4 _ (List.mem_of_getElem? (i := 16) rfl)
theorem m_fl_X7_68 : Cond.fieldLink RX7 68 "IcePadModel" "strengthOf" "[I" ∈ wsL_law := wL_r4 _ (List.mem_of_getElem? (i := 17) rfl)
theorem m_fl_X7_71 : Cond.fieldLink RX7 71 "IcePadModel" "permitNow" "I" ∈ wsL_law := wL_r4 _ (List.mem_of_getElem? (i := 18) rfl)
theorem m_ml_L_82 : Cond.methodLink RL 82 yL_weather ∈ wsL_law := wL_r4 _ (List.mem_of_getElem? (i := 19) rfl)
theorem m_st_L_weather : Cond.static yL_weather ∈ wsL_law := wL_r4 _ (List.mem_of_getElem? (i := 20) rfl)
theorem m_ini_L : Cond.initialized RL ∈ wsL_law := wL_r4 _ (List.mem_of_getElem? (i := 21) rfl)
theorem m_cw_L_weather : Cond.codeWith yL_weather cL_weather 6 (some .int) [(0, 9, 12, 13)] ∈ wsL_law := wL_r4 _ (List.mem_of_getElem? (i := 22) rfl)
theorem m_cl_L_13 : Cond.classLink RL 13 "java/lang/IllegalArgumentException" ∈ wsL_law := wL_r4 _ (List.mem_of_getElem? (i := 23) rfl)
theorem m_ml_L_7 : Cond.methodLink RL 7 yX6_weather ∈ wsL_law := wL_r5 _ (List.mem_of_getElem? (i := 0) rfl)
theorem m_im_X6_weather : Cond.instanceMethod yX6_weather ∈ wsL_law := wL_r5 _ (List.mem_of_getElem? (i := 1) rfl)
theorem m_se_X6_weather : Cond.selects RX6 yX6_weather yX6_weather ∈ wsL_law := wL_r5 _ (List.mem_of_getElem? (i := 2) rfl)
theorem m_co_X6_weather : Cond.code yX6_weather cX6_weather 5 none ∈ wsL_law := wL_r5 _ (List.mem_of_getElem? (i := 3) rfl)
theorem m_fl_X6_47 : Cond.fieldLink RX6 47 "IcePad$Weather" "temperature" "I" ∈ wsL_law := wL_r5 _ (List.mem_of_getElem? (i := 4) rfl)
theorem m_fl_X6_51 : Cond.fieldLink RX6 51 "IcePad$Weather" "fall" "I" ∈ wsL_law := wL_r5 _ (List.mem_of_getElem? (i := 5) rfl)
theorem m_fl_X6_54 : Cond.fieldLink RX6 54 "IcePad$Weather" "rate" "I" ∈ wsL_law := wL_r5 _ (List.mem_of_getElem? (i := 6) rfl)
theorem m_fl_X6_57 : Cond.fieldLink RX6 57 "IcePad$Weather" "wind" "I" ∈ wsL_law := wL_r5 _ (List.mem_of_getElem? (i := 7) rfl)
theorem m_ml_X6_43 : Cond.methodLink RX6 43 yX6_requireRange ∈ wsL_law := wL_r5 _ (List.mem_of_getElem? (i := 8) rfl)
theorem m_st_X6_requireRange : Cond.static yX6_requireRange ∈ wsL_law := wL_r5 _ (List.mem_of_getElem? (i := 9) rfl)
theorem m_co_X6_requireRange : Cond.code yX6_requireRange cX6_requireRange 3 none ∈ wsL_law := wL_r5 _ (List.mem_of_getElem? (i := 10) rfl)
theorem m_cl_X6_267 : Cond.classLink RX6 267 "java/lang/IllegalArgumentException" ∈ wsL_law := wL_r5 _ (List.mem_of_getElem? (i := 11) rfl)
theorem m_ini__java_lang_IllegalArgumentException_ : Cond.initialized "java/lang/IllegalArgumentException" ∈ wsL_law := wL_r5 _ (List.mem_of_getElem? (i := 12) rfl)
theorem m_ml_L_87 : Cond.methodLink RL 87 yX7_weather ∈ wsL_law := wL_r5 _ (List.mem_of_getElem? (i := 13) rfl)
theorem m_im_X7_weather : Cond.instanceMethod yX7_weather ∈ wsL_law := wL_r5 _ (List.mem_of_getElem? (i := 14) rfl)
theorem m_se_X7_weather : Cond.selects RX7 yX7_weather yX7_weather ∈ wsL_law := wL_r5 _ (List.mem_of_getElem? (i := 15) rfl)
theorem m_co_X7_weather : Cond.code yX7_weather cX7_weather 5 none ∈ wsL_law := wL_r5 _ (List.mem_of_getElem? (i := 16) rfl)
theorem m_fl_X7_74 : Cond.fieldLink RX7 74 "IcePadModel" "thrown" "I" ∈ wsL_law := wL_r5 _ (List.mem_of_getElem? (i := 17) rfl)
theorem m_fl_X7_84 : Cond.fieldLink RX7 84 "IcePadModel" "temperature" "I" ∈ wsL_law := wL_r5 _ (List.mem_of_getElem? (i := 18) rfl)
theorem m_fl_X7_87 : Cond.fieldLink RX7 87 "IcePadModel" "fall" "I" ∈ wsL_law := wL_r5 _ (List.mem_of_getElem? (i := 19) rfl)
theorem m_fl_X7_90 : Cond.fieldLink RX7 90 "IcePadModel" "rate" "I" ∈ wsL_law := wL_r5 _ (List.mem_of_getElem? (i := 20) rfl)
theorem m_fl_X7_93 : Cond.fieldLink RX7 93 "IcePadModel" "wind" "I" ∈ wsL_law := wL_r5 _ (List.mem_of_getElem? (i := 21) rfl)
theorem m_ml_X7_77 : Cond.methodLink RX7 77 yX7_in ∈ wsL_law := wL_r5 _ (List.mem_of_getElem? (i := 22) rfl)
theorem m_st_X7_in : Cond.static yX7_in ∈ wsL_law := wL_r5 _ (List.mem_of_getElem? (i := 23) rfl)
theorem m_co_X7_in : Cond.code yX7_in cX7_in 3 (some .boolean) ∈ wsL_law := wL_r6 _ (List.mem_of_getElem? (i := 0) rfl)
theorem m_ml_L_88 : Cond.methodLink RL 88 yX7_thrown ∈ wsL_law := wL_r6 _ (List.mem_of_getElem? (i := 1) rfl)
theorem m_im_X7_thrown : Cond.instanceMethod yX7_thrown ∈ wsL_law := wL_r6 _ (List.mem_of_getElem? (i := 2) rfl)
theorem m_se_X7_thrown : Cond.selects RX7 yX7_thrown yX7_thrown ∈ wsL_law := wL_r6 _ (List.mem_of_getElem? (i := 3) rfl)
theorem m_co_X7_thrown : Cond.code yX7_thrown cX7_thrown 1 (some .int) ∈ wsL_law := wL_r6 _ (List.mem_of_getElem? (i := 4) rfl)
theorem m_ml_L_92 : Cond.methodLink RL 92 yL_spray ∈ wsL_law := wL_r6 _ (List.mem_of_getElem? (i := 5) rfl)
theorem m_st_L_spray : Cond.static yL_spray ∈ wsL_law := wL_r6 _ (List.mem_of_getElem? (i := 6) rfl)
theorem m_cw_L_spray : Cond.codeWith yL_spray cL_spray 4 (some .int) [(0, 9, 12, 19)] ∈ wsL_law := wL_r6 _ (List.mem_of_getElem? (i := 7) rfl)
theorem m_cl_L_19 : Cond.classLink RL 19 "java/lang/IndexOutOfBoundsException" ∈ wsL_law := wL_r6 _ (List.mem_of_getElem? (i := 8) rfl)
theorem m_ml_L_15 : Cond.methodLink RL 15 yX6_spray ∈ wsL_law := wL_r6 _ (List.mem_of_getElem? (i := 9) rfl)
theorem m_im_X6_spray : Cond.instanceMethod yX6_spray ∈ wsL_law := wL_r6 _ (List.mem_of_getElem? (i := 10) rfl)
theorem m_se_X6_spray : Cond.selects RX6 yX6_spray yX6_spray ∈ wsL_law := wL_r6 _ (List.mem_of_getElem? (i := 11) rfl)
theorem m_co_X6_spray : Cond.code yX6_spray cX6_spray 3 (some .int) ∈ wsL_law := wL_r6 _ (List.mem_of_getElem? (i := 12) rfl)
theorem m_fl_X6_64 : Cond.fieldLink RX6 64 "IcePad" "minute" "I" ∈ wsL_law := wL_r6 _ (List.mem_of_getElem? (i := 13) rfl)
theorem m_fl_X6_67 : Cond.fieldLink RX6 67 "IcePad$Runway" "thirds" "[LIcePad$Third;" ∈ wsL_law := wL_r6 _ (List.mem_of_getElem? (i := 14) rfl)
theorem m_fl_X6_71 : Cond.fieldLink RX6 71 "IcePad$Third" "sprayedUpTo" "I" ∈ wsL_law := wL_r6 _ (List.mem_of_getElem? (i := 15) rfl)
theorem m_ml_X6_60 : Cond.methodLink RX6 60 yX6_requireIndex ∈ wsL_law := wL_r6 _ (List.mem_of_getElem? (i := 16) rfl)
theorem m_st_X6_requireIndex : Cond.static yX6_requireIndex ∈ wsL_law := wL_r6 _ (List.mem_of_getElem? (i := 17) rfl)
theorem m_co_X6_requireIndex : Cond.code yX6_requireIndex cX6_requireIndex 2 none ∈ wsL_law := wL_r6 _ (List.mem_of_getElem? (i := 18) rfl)
theorem m_cl_X6_211 : Cond.classLink RX6 211 "java/lang/IndexOutOfBoundsException" ∈ wsL_law := wL_r6 _ (List.mem_of_getElem? (i := 19) rfl)
theorem m_ini__java_lang_IndexOutOfBoundsException_ : Cond.initialized "java/lang/IndexOutOfBoundsException" ∈ wsL_law := wL_r6 _ (List.mem_of_getElem? (i := 20) rfl)
theorem m_ml_L_95 : Cond.methodLink RL 95 yX7_spray ∈ wsL_law := wL_r6 _ (List.mem_of_getElem? (i := 21) rfl)
theorem m_im_X7_spray : Cond.instanceMethod yX7_spray ∈ wsL_law := wL_r6 _ (List.mem_of_getElem? (i := 22) rfl)
theorem m_se_X7_spray : Cond.selects RX7 yX7_spray yX7_spray ∈ wsL_law := wL_r6 _ (List.mem_of_getElem? (i := 23) rfl)
theorem m_co_X7_spray : Cond.code yX7_spray cX7_spray 2 (some .int) ∈ wsL_law := wL_r7 _ (List.mem_of_getElem? (i := 0) rfl)
theorem m_fl_X7_100 : Cond.fieldLink RX7 100 "IcePadModel" "now" "I" ∈ wsL_law := wL_r7 _ (List.mem_of_getElem? (i := 1) rfl)
theorem m_ml_X7_96 : Cond.methodLink RX7 96 yX7_isThird ∈ wsL_law := wL_r7 _ (List.mem_of_getElem? (i := 2) rfl)
theorem m_st_X7_isThird : Cond.static yX7_isThird ∈ wsL_law := wL_r7 _ (List.mem_of_getElem? (i := 3) rfl)
theorem m_co_X7_isThird : Cond.code yX7_isThird cX7_isThird 1 (some .boolean) ∈ wsL_law := wL_r7 _ (List.mem_of_getElem? (i := 4) rfl)
theorem m_ml_L_96 : Cond.methodLink RL 96 yL_close ∈ wsL_law := wL_r7 _ (List.mem_of_getElem? (i := 5) rfl)
theorem m_st_L_close : Cond.static yL_close ∈ wsL_law := wL_r7 _ (List.mem_of_getElem? (i := 6) rfl)
theorem m_cw_L_close : Cond.codeWith yL_close cL_close 5 (some .int) [(0, 10, 13, 13)] ∈ wsL_law := wL_r7 _ (List.mem_of_getElem? (i := 7) rfl)
theorem m_ml_L_21 : Cond.methodLink RL 21 yX6_close ∈ wsL_law := wL_r7 _ (List.mem_of_getElem? (i := 8) rfl)
theorem m_im_X6_close : Cond.instanceMethod yX6_close ∈ wsL_law := wL_r7 _ (List.mem_of_getElem? (i := 9) rfl)
theorem m_se_X6_close : Cond.selects RX6 yX6_close yX6_close ∈ wsL_law := wL_r7 _ (List.mem_of_getElem? (i := 10) rfl)
theorem m_co_X6_close : Cond.code yX6_close cX6_close 3 (some .int) ∈ wsL_law := wL_r7 _ (List.mem_of_getElem? (i := 11) rfl)
theorem m_fl_X6_76 : Cond.fieldLink RX6 76 "IcePad$Runway" "closedUpTo" "I" ∈ wsL_law := wL_r7 _ (List.mem_of_getElem? (i := 12) rfl)
theorem m_fl_X6_79 : Cond.fieldLink RX6 79 "IcePad$Runway" "ploughs" "I" ∈ wsL_law := wL_r7 _ (List.mem_of_getElem? (i := 13) rfl)
theorem m_ml_L_99 : Cond.methodLink RL 99 yX7_close ∈ wsL_law := wL_r7 _ (List.mem_of_getElem? (i := 14) rfl)
theorem m_im_X7_close : Cond.instanceMethod yX7_close ∈ wsL_law := wL_r7 _ (List.mem_of_getElem? (i := 15) rfl)
theorem m_se_X7_close : Cond.selects RX7 yX7_close yX7_close ∈ wsL_law := wL_r7 _ (List.mem_of_getElem? (i := 16) rfl)
theorem m_co_X7_close : Cond.code yX7_close cX7_close 3 (some .int) ∈ wsL_law := wL_r7 _ (List.mem_of_getElem? (i := 17) rfl)
theorem m_fl_X7_103 : Cond.fieldLink RX7 103 "IcePadModel" "ploughs" "I" ∈ wsL_law := wL_r7 _ (List.mem_of_getElem? (i := 18) rfl)
theorem m_ml_L_100 : Cond.methodLink RL 100 yL_pilot ∈ wsL_law := wL_r7 _ (List.mem_of_getElem? (i := 19) rfl)
theorem m_st_L_pilot : Cond.static yL_pilot ∈ wsL_law := wL_r7 _ (List.mem_of_getElem? (i := 20) rfl)
theorem m_cw_L_pilot : Cond.codeWith yL_pilot cL_pilot 5 (some .int) [(0, 10, 13, 19), (0, 10, 17, 13)] ∈ wsL_law := wL_r7 _ (List.mem_of_getElem? (i := 21) rfl)
theorem m_ml_L_25 : Cond.methodLink RL 25 yX6_pilot ∈ wsL_law := wL_r7 _ (List.mem_of_getElem? (i := 22) rfl)
theorem m_im_X6_pilot : Cond.instanceMethod yX6_pilot ∈ wsL_law := wL_r7 _ (List.mem_of_getElem? (i := 23) rfl)
theorem m_se_X6_pilot : Cond.selects RX6 yX6_pilot yX6_pilot ∈ wsL_law := wL_r8 _ (List.mem_of_getElem? (i := 0) rfl)
theorem m_co_X6_pilot : Cond.code yX6_pilot cX6_pilot 4 (some .int) ∈ wsL_law := wL_r8 _ (List.mem_of_getElem? (i := 1) rfl)
theorem m_fl_X6_82 : Cond.fieldLink RX6 82 "IcePad$Third" "reportMinute" "I" ∈ wsL_law := wL_r8 _ (List.mem_of_getElem? (i := 2) rfl)
theorem m_fl_X6_85 : Cond.fieldLink RX6 85 "IcePad$Third" "reportCode" "I" ∈ wsL_law := wL_r8 _ (List.mem_of_getElem? (i := 3) rfl)
theorem m_ml_X6_88 : Cond.methodLink RX6 88 yX4_codeAt ∈ wsL_law := wL_r8 _ (List.mem_of_getElem? (i := 4) rfl)
theorem m_im_X4_codeAt : Cond.instanceMethod yX4_codeAt ∈ wsL_law := wL_r8 _ (List.mem_of_getElem? (i := 5) rfl)
theorem m_se_X4_codeAt : Cond.selects RX4 yX4_codeAt yX4_codeAt ∈ wsL_law := wL_r8 _ (List.mem_of_getElem? (i := 6) rfl)
theorem m_co_X4_codeAt : Cond.code yX4_codeAt cX4_codeAt 5 (some .int) ∈ wsL_law := wL_r8 _ (List.mem_of_getElem? (i := 7) rfl)
theorem m_fl_X4_33 : Cond.fieldLink RX4 33 "IcePad$Third" "reportCode" "I" ∈ wsL_law := wL_r8 _ (List.mem_of_getElem? (i := 8) rfl)
theorem m_ml_X4_29 : Cond.methodLink RX4 29 yX4_codeOfWhatLies ∈ wsL_law := wL_r8 _ (List.mem_of_getElem? (i := 9) rfl)
theorem m_im_X4_codeOfWhatLies : Cond.instanceMethod yX4_codeOfWhatLies ∈ wsL_law := wL_r8 _ (List.mem_of_getElem? (i := 10) rfl)
theorem m_se_X4_codeOfWhatLies : Cond.selects RX4 yX4_codeOfWhatLies yX4_codeOfWhatLies ∈ wsL_law := wL_r8 _ (List.mem_of_getElem? (i := 11) rfl)
theorem m_co_X4_codeOfWhatLies : Cond.code yX4_codeOfWhatLies cX4_codeOfWhatLies 3 (some .int) ∈ wsL_law := wL_r8 _ (List.mem_of_getElem? (i := 12) rfl)
theorem m_fl_X4_21 : Cond.fieldLink RX4 21 "IcePad$Weather" "temperature" "I" ∈ wsL_law := wL_r8 _ (List.mem_of_getElem? (i := 13) rfl)
theorem m_fl_X4_26 : Cond.fieldLink RX4 26 "IcePad$Third" "depth" "I" ∈ wsL_law := wL_r8 _ (List.mem_of_getElem? (i := 14) rfl)
theorem m_ml_L_102 : Cond.methodLink RL 102 yX7_pilot ∈ wsL_law := wL_r8 _ (List.mem_of_getElem? (i := 15) rfl)
theorem m_im_X7_pilot : Cond.instanceMethod yX7_pilot ∈ wsL_law := wL_r8 _ (List.mem_of_getElem? (i := 16) rfl)
theorem m_se_X7_pilot : Cond.selects RX7 yX7_pilot yX7_pilot ∈ wsL_law := wL_r8 _ (List.mem_of_getElem? (i := 17) rfl)
theorem m_co_X7_pilot : Cond.code yX7_pilot cX7_pilot 3 (some .int) ∈ wsL_law := wL_r8 _ (List.mem_of_getElem? (i := 18) rfl)
theorem m_ml_X7_110 : Cond.methodLink RX7 110 yX7_codeOf ∈ wsL_law := wL_r8 _ (List.mem_of_getElem? (i := 19) rfl)
theorem m_im_X7_codeOf : Cond.instanceMethod yX7_codeOf ∈ wsL_law := wL_r8 _ (List.mem_of_getElem? (i := 20) rfl)
theorem m_se_X7_codeOf : Cond.selects RX7 yX7_codeOf yX7_codeOf ∈ wsL_law := wL_r8 _ (List.mem_of_getElem? (i := 21) rfl)
theorem m_co_X7_codeOf : Cond.code yX7_codeOf cX7_codeOf 3 (some .int) ∈ wsL_law := wL_r8 _ (List.mem_of_getElem? (i := 22) rfl)
theorem m_ml_X7_106 : Cond.methodLink RX7 106 yX7_lies ∈ wsL_law := wL_r8 _ (List.mem_of_getElem? (i := 23) rfl)
theorem m_im_X7_lies : Cond.instanceMethod yX7_lies ∈ wsL_law := wL_r9 _ (List.mem_of_getElem? (i := 0) rfl)
theorem m_se_X7_lies : Cond.selects RX7 yX7_lies yX7_lies ∈ wsL_law := wL_r9 _ (List.mem_of_getElem? (i := 1) rfl)
theorem m_co_X7_lies : Cond.code yX7_lies cX7_lies 2 (some .int) ∈ wsL_law := wL_r9 _ (List.mem_of_getElem? (i := 2) rfl)
theorem m_ml_L_103 : Cond.methodLink RL 103 yL_supply ∈ wsL_law := wL_r9 _ (List.mem_of_getElem? (i := 3) rfl)
theorem m_st_L_supply : Cond.static yL_supply ∈ wsL_law := wL_r9 _ (List.mem_of_getElem? (i := 4) rfl)
theorem m_cw_L_supply : Cond.codeWith yL_supply cL_supply 5 (some .int) [(0, 10, 13, 19), (0, 10, 17, 13), (0, 10, 21, 31)] ∈ wsL_law := wL_r9 _ (List.mem_of_getElem? (i := 5) rfl)
theorem m_cl_L_31 : Cond.classLink RL 31 "java/lang/IllegalStateException" ∈ wsL_law := wL_r9 _ (List.mem_of_getElem? (i := 6) rfl)
theorem m_ml_L_28 : Cond.methodLink RL 28 yX6_supply ∈ wsL_law := wL_r9 _ (List.mem_of_getElem? (i := 7) rfl)
theorem m_im_X6_supply : Cond.instanceMethod yX6_supply ∈ wsL_law := wL_r9 _ (List.mem_of_getElem? (i := 8) rfl)
theorem m_se_X6_supply : Cond.selects RX6 yX6_supply yX6_supply ∈ wsL_law := wL_r9 _ (List.mem_of_getElem? (i := 9) rfl)
theorem m_co_X6_supply : Cond.code yX6_supply cX6_supply 3 (some .int) ∈ wsL_law := wL_r9 _ (List.mem_of_getElem? (i := 10) rfl)
theorem m_fl_X6_92 : Cond.fieldLink RX6 92 "IcePad$Fluids" "tanks" "[I" ∈ wsL_law := wL_r9 _ (List.mem_of_getElem? (i := 11) rfl)
theorem m_ld_X6_96 : Cond.constant RX6 96 (100000) ∈ wsL_law := wL_r9 _ (List.mem_of_getElem? (i := 12) rfl)
theorem m_fl_X6_101 : Cond.fieldLink RX6 101 "IcePad$Fluids" "supplied" "I" ∈ wsL_law := wL_r9 _ (List.mem_of_getElem? (i := 13) rfl)
theorem m_ml_X6_97 : Cond.methodLink RX6 97 yX6_requirePossible ∈ wsL_law := wL_r9 _ (List.mem_of_getElem? (i := 14) rfl)
theorem m_st_X6_requirePossible : Cond.static yX6_requirePossible ∈ wsL_law := wL_r9 _ (List.mem_of_getElem? (i := 15) rfl)
theorem m_co_X6_requirePossible : Cond.code yX6_requirePossible cX6_requirePossible 1 none ∈ wsL_law := wL_r9 _ (List.mem_of_getElem? (i := 16) rfl)
theorem m_cl_X6_274 : Cond.classLink RX6 274 "java/lang/IllegalStateException" ∈ wsL_law := wL_r9 _ (List.mem_of_getElem? (i := 17) rfl)
theorem m_ini__java_lang_IllegalStateException_ : Cond.initialized "java/lang/IllegalStateException" ∈ wsL_law := wL_r9 _ (List.mem_of_getElem? (i := 18) rfl)
theorem m_ml_L_105 : Cond.methodLink RL 105 yX7_supply ∈ wsL_law := wL_r9 _ (List.mem_of_getElem? (i := 19) rfl)
theorem m_im_X7_supply : Cond.instanceMethod yX7_supply ∈ wsL_law := wL_r9 _ (List.mem_of_getElem? (i := 20) rfl)
theorem m_se_X7_supply : Cond.selects RX7 yX7_supply yX7_supply ∈ wsL_law := wL_r9 _ (List.mem_of_getElem? (i := 21) rfl)
theorem m_co_X7_supply : Cond.code yX7_supply cX7_supply 3 (some .int) ∈ wsL_law := wL_r9 _ (List.mem_of_getElem? (i := 22) rfl)
theorem m_ld_X7_116 : Cond.constant RX7 116 (100000) ∈ wsL_law := wL_r9 _ (List.mem_of_getElem? (i := 23) rfl)
theorem m_fl_X7_117 : Cond.fieldLink RX7 117 "IcePadModel" "supplied" "I" ∈ wsL_law := wL_r10 _ (List.mem_of_getElem? (i := 0) rfl)
theorem m_ml_X7_113 : Cond.methodLink RX7 113 yX7_isFluid ∈ wsL_law := wL_r10 _ (List.mem_of_getElem? (i := 1) rfl)
theorem m_st_X7_isFluid : Cond.static yX7_isFluid ∈ wsL_law := wL_r10 _ (List.mem_of_getElem? (i := 2) rfl)
theorem m_co_X7_isFluid : Cond.code yX7_isFluid cX7_isFluid 1 (some .boolean) ∈ wsL_law := wL_r10 _ (List.mem_of_getElem? (i := 3) rfl)
theorem m_ml_L_106 : Cond.methodLink RL 106 yL_table ∈ wsL_law := wL_r10 _ (List.mem_of_getElem? (i := 4) rfl)
theorem m_st_L_table : Cond.static yL_table ∈ wsL_law := wL_r10 _ (List.mem_of_getElem? (i := 5) rfl)
theorem m_cw_L_table : Cond.codeWith yL_table cL_table 6 (some .int) [(0, 12, 15, 19), (0, 12, 19, 13)] ∈ wsL_law := wL_r10 _ (List.mem_of_getElem? (i := 6) rfl)
theorem m_ml_L_33 : Cond.methodLink RL 33 yX6_table ∈ wsL_law := wL_r10 _ (List.mem_of_getElem? (i := 7) rfl)
theorem m_im_X6_table : Cond.instanceMethod yX6_table ∈ wsL_law := wL_r10 _ (List.mem_of_getElem? (i := 8) rfl)
theorem m_se_X6_table : Cond.selects RX6 yX6_table yX6_table ∈ wsL_law := wL_r10 _ (List.mem_of_getElem? (i := 9) rfl)
theorem m_co_X6_table : Cond.code yX6_table cX6_table 5 (some .int) ∈ wsL_law := wL_r10 _ (List.mem_of_getElem? (i := 10) rfl)
theorem m_fl_X6_104 : Cond.fieldLink RX6 104 "IcePad$Fluids" "minutes" "[[I" ∈ wsL_law := wL_r10 _ (List.mem_of_getElem? (i := 11) rfl)
theorem m_ml_L_109 : Cond.methodLink RL 109 yX7_table ∈ wsL_law := wL_r10 _ (List.mem_of_getElem? (i := 12) rfl)
theorem m_im_X7_table : Cond.instanceMethod yX7_table ∈ wsL_law := wL_r10 _ (List.mem_of_getElem? (i := 13) rfl)
theorem m_se_X7_table : Cond.selects RX7 yX7_table yX7_table ∈ wsL_law := wL_r10 _ (List.mem_of_getElem? (i := 14) rfl)
theorem m_co_X7_table : Cond.code yX7_table cX7_table 5 (some .int) ∈ wsL_law := wL_r10 _ (List.mem_of_getElem? (i := 15) rfl)
theorem m_ml_L_110 : Cond.methodLink RL 110 yL_aircraft ∈ wsL_law := wL_r10 _ (List.mem_of_getElem? (i := 16) rfl)
theorem m_st_L_aircraft : Cond.static yL_aircraft ∈ wsL_law := wL_r10 _ (List.mem_of_getElem? (i := 17) rfl)
theorem m_cw_L_aircraft : Cond.codeWith yL_aircraft cL_aircraft 6 (some .int) [(0, 12, 15, 13), (0, 12, 19, 31)] ∈ wsL_law := wL_r10 _ (List.mem_of_getElem? (i := 18) rfl)
theorem m_ml_L_37 : Cond.methodLink RL 37 yX6_aircraft ∈ wsL_law := wL_r10 _ (List.mem_of_getElem? (i := 19) rfl)
theorem m_im_X6_aircraft : Cond.instanceMethod yX6_aircraft ∈ wsL_law := wL_r10 _ (List.mem_of_getElem? (i := 20) rfl)
theorem m_se_X6_aircraft : Cond.selects RX6 yX6_aircraft yX6_aircraft ∈ wsL_law := wL_r10 _ (List.mem_of_getElem? (i := 21) rfl)
theorem m_co_X6_aircraft : Cond.code yX6_aircraft cX6_aircraft 5 (some .int) ∈ wsL_law := wL_r10 _ (List.mem_of_getElem? (i := 22) rfl)
theorem m_fl_X6_108 : Cond.fieldLink RX6 108 "IcePad" "fleetSize" "I" ∈ wsL_law := wL_r10 _ (List.mem_of_getElem? (i := 23) rfl)
theorem m_ib_X0 : Cond.instantiable RX0 12 ∈ wsL_law := wL_r11 _ (List.mem_of_getElem? (i := 0) rfl)
theorem m_ini_X0 : Cond.initialized RX0 ∈ wsL_law := wL_r11 _ (List.mem_of_getElem? (i := 1) rfl)
theorem m_ml_X6_111 : Cond.methodLink RX6 111 yX0_init ∈ wsL_law := wL_r11 _ (List.mem_of_getElem? (i := 2) rfl)
theorem m_im_X0_init : Cond.instanceMethod yX0_init ∈ wsL_law := wL_r11 _ (List.mem_of_getElem? (i := 3) rfl)
theorem m_co_X0_init : Cond.code yX0_init cX0_init 4 none ∈ wsL_law := wL_r11 _ (List.mem_of_getElem? (i := 4) rfl)
theorem m_ml_X0_3 : Cond.methodLink RX0 3 objectInit ∈ wsL_law := wL_r11 _ (List.mem_of_getElem? (i := 5) rfl)
theorem m_fl_X0_9 : Cond.fieldLink RX0 9 "IcePad$Aircraft" "state" "I" ∈ wsL_law := wL_r11 _ (List.mem_of_getElem? (i := 6) rfl)
theorem m_fl_X0_15 : Cond.fieldLink RX0 15 "IcePad$Aircraft" "leftMinute" "I" ∈ wsL_law := wL_r11 _ (List.mem_of_getElem? (i := 7) rfl)
theorem m_fl_X0_18 : Cond.fieldLink RX0 18 "IcePad$Aircraft" "span" "I" ∈ wsL_law := wL_r11 _ (List.mem_of_getElem? (i := 8) rfl)
theorem m_fl_X0_21 : Cond.fieldLink RX0 21 "IcePad$Aircraft" "slot" "I" ∈ wsL_law := wL_r11 _ (List.mem_of_getElem? (i := 9) rfl)
theorem m_fl_X0_24 : Cond.fieldLink RX0 24 "IcePad$Aircraft" "duty" "I" ∈ wsL_law := wL_r11 _ (List.mem_of_getElem? (i := 10) rfl)
theorem m_ml_L_112 : Cond.methodLink RL 112 yX7_aircraft ∈ wsL_law := wL_r11 _ (List.mem_of_getElem? (i := 11) rfl)
theorem m_im_X7_aircraft : Cond.instanceMethod yX7_aircraft ∈ wsL_law := wL_r11 _ (List.mem_of_getElem? (i := 12) rfl)
theorem m_se_X7_aircraft : Cond.selects RX7 yX7_aircraft yX7_aircraft ∈ wsL_law := wL_r11 _ (List.mem_of_getElem? (i := 13) rfl)
theorem m_co_X7_aircraft : Cond.code yX7_aircraft cX7_aircraft 4 (some .int) ∈ wsL_law := wL_r11 _ (List.mem_of_getElem? (i := 14) rfl)
theorem m_fl_X7_81 : Cond.fieldLink RX7 81 "IcePadModel" "many" "I" ∈ wsL_law := wL_r11 _ (List.mem_of_getElem? (i := 15) rfl)
theorem m_ml_L_113 : Cond.methodLink RL 113 yL_treat ∈ wsL_law := wL_r11 _ (List.mem_of_getElem? (i := 16) rfl)
theorem m_st_L_treat : Cond.static yL_treat ∈ wsL_law := wL_r11 _ (List.mem_of_getElem? (i := 17) rfl)
theorem m_cw_L_treat : Cond.codeWith yL_treat cL_treat 8 (some .int) [(0, 16, 19, 19), (0, 16, 23, 13), (0, 16, 27, 31)] ∈ wsL_law := wL_r11 _ (List.mem_of_getElem? (i := 18) rfl)
theorem m_ml_L_40 : Cond.methodLink RL 40 yX6_treat ∈ wsL_law := wL_r11 _ (List.mem_of_getElem? (i := 19) rfl)
theorem m_im_X6_treat : Cond.instanceMethod yX6_treat ∈ wsL_law := wL_r11 _ (List.mem_of_getElem? (i := 20) rfl)
theorem m_se_X6_treat : Cond.selects RX6 yX6_treat yX6_treat ∈ wsL_law := wL_r11 _ (List.mem_of_getElem? (i := 21) rfl)
theorem m_co_X6_treat : Cond.code yX6_treat cX6_treat 7 (some .int) ∈ wsL_law := wL_r11 _ (List.mem_of_getElem? (i := 22) rfl)
theorem m_fl_X6_113 : Cond.fieldLink RX6 113 "IcePad" "PAD_SPANS" "[I" ∈ wsL_law := wL_r11 _ (List.mem_of_getElem? (i := 23) rfl)
theorem m_fl_X6_120 : Cond.fieldLink RX6 120 "IcePad$Aircraft" "state" "I" ∈ wsL_law := wL_r12 _ (List.mem_of_getElem? (i := 0) rfl)
theorem m_fl_X6_127 : Cond.fieldLink RX6 127 "IcePad$Aircraft" "span" "I" ∈ wsL_law := wL_r12 _ (List.mem_of_getElem? (i := 1) rfl)
theorem m_fl_X6_130 : Cond.fieldLink RX6 130 "IcePad$Basin" "litres" "I" ∈ wsL_law := wL_r12 _ (List.mem_of_getElem? (i := 2) rfl)
theorem m_fl_X6_137 : Cond.fieldLink RX6 137 "IcePad$Aircraft" "fluid" "I" ∈ wsL_law := wL_r12 _ (List.mem_of_getElem? (i := 3) rfl)
theorem m_fl_X6_140 : Cond.fieldLink RX6 140 "IcePad$Aircraft" "strength" "I" ∈ wsL_law := wL_r12 _ (List.mem_of_getElem? (i := 4) rfl)
theorem m_fl_X6_143 : Cond.fieldLink RX6 143 "IcePad$Aircraft" "cleanMinute" "I" ∈ wsL_law := wL_r12 _ (List.mem_of_getElem? (i := 5) rfl)
theorem m_ml_X6_116 : Cond.methodLink RX6 116 yX6_requireStrength ∈ wsL_law := wL_r12 _ (List.mem_of_getElem? (i := 6) rfl)
theorem m_st_X6_requireStrength : Cond.static yX6_requireStrength ∈ wsL_law := wL_r12 _ (List.mem_of_getElem? (i := 7) rfl)
theorem m_co_X6_requireStrength : Cond.code yX6_requireStrength cX6_requireStrength 1 none ∈ wsL_law := wL_r12 _ (List.mem_of_getElem? (i := 8) rfl)
theorem m_ml_X6_123 : Cond.methodLink RX6 123 yX6_padIsFree ∈ wsL_law := wL_r12 _ (List.mem_of_getElem? (i := 9) rfl)
theorem m_im_X6_padIsFree : Cond.instanceMethod yX6_padIsFree ∈ wsL_law := wL_r12 _ (List.mem_of_getElem? (i := 10) rfl)
theorem m_se_X6_padIsFree : Cond.selects RX6 yX6_padIsFree yX6_padIsFree ∈ wsL_law := wL_r12 _ (List.mem_of_getElem? (i := 11) rfl)
theorem m_co_X6_padIsFree : Cond.code yX6_padIsFree cX6_padIsFree 3 (some .boolean) ∈ wsL_law := wL_r12 _ (List.mem_of_getElem? (i := 12) rfl)
theorem m_fl_X6_195 : Cond.fieldLink RX6 195 "IcePad$Aircraft" "pad" "I" ∈ wsL_law := wL_r12 _ (List.mem_of_getElem? (i := 13) rfl)
theorem m_ml_X6_133 : Cond.methodLink RX6 133 yX0_beginTreatment ∈ wsL_law := wL_r12 _ (List.mem_of_getElem? (i := 14) rfl)
theorem m_im_X0_beginTreatment : Cond.instanceMethod yX0_beginTreatment ∈ wsL_law := wL_r12 _ (List.mem_of_getElem? (i := 15) rfl)
theorem m_se_X0_beginTreatment : Cond.selects RX0 yX0_beginTreatment yX0_beginTreatment ∈ wsL_law := wL_r12 _ (List.mem_of_getElem? (i := 16) rfl)
theorem m_co_X0_beginTreatment : Cond.code yX0_beginTreatment cX0_beginTreatment 5 (some .int) ∈ wsL_law := wL_r12 _ (List.mem_of_getElem? (i := 17) rfl)
theorem m_fl_X0_27 : Cond.fieldLink RX0 27 "IcePad$Aircraft" "pad" "I" ∈ wsL_law := wL_r12 _ (List.mem_of_getElem? (i := 18) rfl)
theorem m_fl_X0_30 : Cond.fieldLink RX0 30 "IcePad$Aircraft" "treatments" "I" ∈ wsL_law := wL_r12 _ (List.mem_of_getElem? (i := 19) rfl)
theorem m_fl_X0_33 : Cond.fieldLink RX0 33 "IcePad$Aircraft" "litresOn" "I" ∈ wsL_law := wL_r12 _ (List.mem_of_getElem? (i := 20) rfl)
theorem m_fl_X0_36 : Cond.fieldLink RX0 36 "IcePad$Aircraft" "clockBegan" "I" ∈ wsL_law := wL_r12 _ (List.mem_of_getElem? (i := 21) rfl)
theorem m_fl_X0_39 : Cond.fieldLink RX0 39 "IcePad$Aircraft" "cleanMinute" "I" ∈ wsL_law := wL_r12 _ (List.mem_of_getElem? (i := 22) rfl)
theorem m_ml_L_116 : Cond.methodLink RL 116 yX7_treat ∈ wsL_law := wL_r12 _ (List.mem_of_getElem? (i := 23) rfl)
theorem m_im_X7_treat : Cond.instanceMethod yX7_treat ∈ wsL_law := wL_r13 _ (List.mem_of_getElem? (i := 0) rfl)
theorem m_se_X7_treat : Cond.selects RX7 yX7_treat yX7_treat ∈ wsL_law := wL_r13 _ (List.mem_of_getElem? (i := 1) rfl)
theorem m_co_X7_treat : Cond.code yX7_treat cX7_treat 7 (some .int) ∈ wsL_law := wL_r13 _ (List.mem_of_getElem? (i := 2) rfl)
theorem m_fl_X7_126 : Cond.fieldLink RX7 126 "IcePadModel" "basin" "I" ∈ wsL_law := wL_r13 _ (List.mem_of_getElem? (i := 3) rfl)
theorem m_ml_X7_120 : Cond.methodLink RX7 120 yX7_isAircraft ∈ wsL_law := wL_r13 _ (List.mem_of_getElem? (i := 4) rfl)
theorem m_im_X7_isAircraft : Cond.instanceMethod yX7_isAircraft ∈ wsL_law := wL_r13 _ (List.mem_of_getElem? (i := 5) rfl)
theorem m_se_X7_isAircraft : Cond.selects RX7 yX7_isAircraft yX7_isAircraft ∈ wsL_law := wL_r13 _ (List.mem_of_getElem? (i := 6) rfl)
theorem m_co_X7_isAircraft : Cond.code yX7_isAircraft cX7_isAircraft 2 (some .boolean) ∈ wsL_law := wL_r13 _ (List.mem_of_getElem? (i := 7) rfl)
theorem m_ml_X7_123 : Cond.methodLink RX7 123 yX7_isFree ∈ wsL_law := wL_r13 _ (List.mem_of_getElem? (i := 8) rfl)
theorem m_im_X7_isFree : Cond.instanceMethod yX7_isFree ∈ wsL_law := wL_r13 _ (List.mem_of_getElem? (i := 9) rfl)
theorem m_se_X7_isFree : Cond.selects RX7 yX7_isFree yX7_isFree ∈ wsL_law := wL_r13 _ (List.mem_of_getElem? (i := 10) rfl)
theorem m_co_X7_isFree : Cond.code yX7_isFree cX7_isFree 4 (some .boolean) ∈ wsL_law := wL_r13 _ (List.mem_of_getElem? (i := 11) rfl)
theorem m_ml_L_117 : Cond.methodLink RL 117 yL_cancel ∈ wsL_law := wL_r13 _ (List.mem_of_getElem? (i := 12) rfl)
theorem m_st_L_cancel : Cond.static yL_cancel ∈ wsL_law := wL_r13 _ (List.mem_of_getElem? (i := 13) rfl)
theorem m_cw_L_cancel : Cond.codeWith yL_cancel cL_cancel 4 (some .int) [(0, 9, 12, 19), (0, 9, 15, 31)] ∈ wsL_law := wL_r13 _ (List.mem_of_getElem? (i := 14) rfl)
theorem m_ml_L_44 : Cond.methodLink RL 44 yX6_cancel ∈ wsL_law := wL_r13 _ (List.mem_of_getElem? (i := 15) rfl)
theorem m_im_X6_cancel : Cond.instanceMethod yX6_cancel ∈ wsL_law := wL_r13 _ (List.mem_of_getElem? (i := 16) rfl)
theorem m_se_X6_cancel : Cond.selects RX6 yX6_cancel yX6_cancel ∈ wsL_law := wL_r13 _ (List.mem_of_getElem? (i := 17) rfl)
theorem m_co_X6_cancel : Cond.code yX6_cancel cX6_cancel 4 (some .int) ∈ wsL_law := wL_r13 _ (List.mem_of_getElem? (i := 18) rfl)
theorem m_ml_X6_146 : Cond.methodLink RX6 146 yX0_isOver ∈ wsL_law := wL_r13 _ (List.mem_of_getElem? (i := 19) rfl)
theorem m_im_X0_isOver : Cond.instanceMethod yX0_isOver ∈ wsL_law := wL_r13 _ (List.mem_of_getElem? (i := 20) rfl)
theorem m_se_X0_isOver : Cond.selects RX0 yX0_isOver yX0_isOver ∈ wsL_law := wL_r13 _ (List.mem_of_getElem? (i := 21) rfl)
theorem m_co_X0_isOver : Cond.code yX0_isOver cX0_isOver 1 (some .boolean) ∈ wsL_law := wL_r13 _ (List.mem_of_getElem? (i := 22) rfl)
theorem m_ml_L_119 : Cond.methodLink RL 119 yX7_cancel ∈ wsL_law := wL_r13 _ (List.mem_of_getElem? (i := 23) rfl)
theorem m_im_X7_cancel : Cond.instanceMethod yX7_cancel ∈ wsL_law := wL_r14 _ (List.mem_of_getElem? (i := 0) rfl)
theorem m_se_X7_cancel : Cond.selects RX7 yX7_cancel yX7_cancel ∈ wsL_law := wL_r14 _ (List.mem_of_getElem? (i := 1) rfl)
theorem m_co_X7_cancel : Cond.code yX7_cancel cX7_cancel 3 (some .int) ∈ wsL_law := wL_r14 _ (List.mem_of_getElem? (i := 2) rfl)
theorem m_ml_X7_129 : Cond.methodLink RX7 129 yX7_cancels ∈ wsL_law := wL_r14 _ (List.mem_of_getElem? (i := 3) rfl)
theorem m_im_X7_cancels : Cond.instanceMethod yX7_cancels ∈ wsL_law := wL_r14 _ (List.mem_of_getElem? (i := 4) rfl)
theorem m_se_X7_cancels : Cond.selects RX7 yX7_cancels yX7_cancels ∈ wsL_law := wL_r14 _ (List.mem_of_getElem? (i := 5) rfl)
theorem m_co_X7_cancels : Cond.code yX7_cancels cX7_cancels 2 none ∈ wsL_law := wL_r14 _ (List.mem_of_getElem? (i := 6) rfl)
theorem m_ml_L_120 : Cond.methodLink RL 120 yL_permit ∈ wsL_law := wL_r14 _ (List.mem_of_getElem? (i := 7) rfl)
theorem m_st_L_permit : Cond.static yL_permit ∈ wsL_law := wL_r14 _ (List.mem_of_getElem? (i := 8) rfl)
theorem m_cw_L_permit : Cond.codeWith yL_permit cL_permit 4 (some .int) [(0, 9, 12, 13)] ∈ wsL_law := wL_r14 _ (List.mem_of_getElem? (i := 9) rfl)
theorem m_ml_L_47 : Cond.methodLink RL 47 yX6_permit ∈ wsL_law := wL_r14 _ (List.mem_of_getElem? (i := 10) rfl)
theorem m_im_X6_permit : Cond.instanceMethod yX6_permit ∈ wsL_law := wL_r14 _ (List.mem_of_getElem? (i := 11) rfl)
theorem m_se_X6_permit : Cond.selects RX6 yX6_permit yX6_permit ∈ wsL_law := wL_r14 _ (List.mem_of_getElem? (i := 12) rfl)
theorem m_co_X6_permit : Cond.code yX6_permit cX6_permit 3 (some .int) ∈ wsL_law := wL_r14 _ (List.mem_of_getElem? (i := 13) rfl)
theorem m_fl_X6_150 : Cond.fieldLink RX6 150 "IcePad$Basin" "permitADay" "I" ∈ wsL_law := wL_r14 _ (List.mem_of_getElem? (i := 14) rfl)
theorem m_ml_L_122 : Cond.methodLink RL 122 yX7_permit ∈ wsL_law := wL_r14 _ (List.mem_of_getElem? (i := 15) rfl)
theorem m_im_X7_permit : Cond.instanceMethod yX7_permit ∈ wsL_law := wL_r14 _ (List.mem_of_getElem? (i := 16) rfl)
theorem m_se_X7_permit : Cond.selects RX7 yX7_permit yX7_permit ∈ wsL_law := wL_r14 _ (List.mem_of_getElem? (i := 17) rfl)
theorem m_co_X7_permit : Cond.code yX7_permit cX7_permit 3 (some .int) ∈ wsL_law := wL_r14 _ (List.mem_of_getElem? (i := 18) rfl)
theorem m_ml_L_123 : Cond.methodLink RL 123 yL_release ∈ wsL_law := wL_r14 _ (List.mem_of_getElem? (i := 19) rfl)
theorem m_st_L_release : Cond.static yL_release ∈ wsL_law := wL_r14 _ (List.mem_of_getElem? (i := 20) rfl)
theorem m_cw_L_release : Cond.codeWith yL_release cL_release 4 (some .int) [(0, 9, 12, 13), (0, 9, 15, 31)] ∈ wsL_law := wL_r14 _ (List.mem_of_getElem? (i := 21) rfl)
theorem m_ml_L_50 : Cond.methodLink RL 50 yX6_release ∈ wsL_law := wL_r14 _ (List.mem_of_getElem? (i := 22) rfl)
theorem m_im_X6_release : Cond.instanceMethod yX6_release ∈ wsL_law := wL_r14 _ (List.mem_of_getElem? (i := 23) rfl)
theorem m_se_X6_release : Cond.selects RX6 yX6_release yX6_release ∈ wsL_law := wL_r15 _ (List.mem_of_getElem? (i := 0) rfl)
theorem m_co_X6_release : Cond.code yX6_release cX6_release 4 (some .int) ∈ wsL_law := wL_r15 _ (List.mem_of_getElem? (i := 1) rfl)
theorem m_fl_X6_157 : Cond.fieldLink RX6 157 "IcePad$Basin" "river" "I" ∈ wsL_law := wL_r15 _ (List.mem_of_getElem? (i := 2) rfl)
theorem m_fl_X6_160 : Cond.fieldLink RX6 160 "IcePad$Basin" "riverDay" "I" ∈ wsL_law := wL_r15 _ (List.mem_of_getElem? (i := 3) rfl)
theorem m_fl_X6_163 : Cond.fieldLink RX6 163 "IcePad$Basin" "riverThatDay" "I" ∈ wsL_law := wL_r15 _ (List.mem_of_getElem? (i := 4) rfl)
theorem m_ml_X6_153 : Cond.methodLink RX6 153 yX1_riverOn ∈ wsL_law := wL_r15 _ (List.mem_of_getElem? (i := 5) rfl)
theorem m_im_X1_riverOn : Cond.instanceMethod yX1_riverOn ∈ wsL_law := wL_r15 _ (List.mem_of_getElem? (i := 6) rfl)
theorem m_se_X1_riverOn : Cond.selects RX1 yX1_riverOn yX1_riverOn ∈ wsL_law := wL_r15 _ (List.mem_of_getElem? (i := 7) rfl)
theorem m_co_X1_riverOn : Cond.code yX1_riverOn cX1_riverOn 2 (some .int) ∈ wsL_law := wL_r15 _ (List.mem_of_getElem? (i := 8) rfl)
theorem m_fl_X1_15 : Cond.fieldLink RX1 15 "IcePad$Basin" "riverDay" "I" ∈ wsL_law := wL_r15 _ (List.mem_of_getElem? (i := 9) rfl)
theorem m_fl_X1_18 : Cond.fieldLink RX1 18 "IcePad$Basin" "riverThatDay" "I" ∈ wsL_law := wL_r15 _ (List.mem_of_getElem? (i := 10) rfl)
theorem m_ml_L_125 : Cond.methodLink RL 125 yX7_release ∈ wsL_law := wL_r15 _ (List.mem_of_getElem? (i := 11) rfl)
theorem m_im_X7_release : Cond.instanceMethod yX7_release ∈ wsL_law := wL_r15 _ (List.mem_of_getElem? (i := 12) rfl)
theorem m_se_X7_release : Cond.selects RX7 yX7_release yX7_release ∈ wsL_law := wL_r15 _ (List.mem_of_getElem? (i := 13) rfl)
theorem m_co_X7_release : Cond.code yX7_release cX7_release 2 (some .int) ∈ wsL_law := wL_r15 _ (List.mem_of_getElem? (i := 14) rfl)
theorem m_fl_X7_133 : Cond.fieldLink RX7 133 "IcePadModel" "releasedToday" "I" ∈ wsL_law := wL_r15 _ (List.mem_of_getElem? (i := 15) rfl)
theorem m_fl_X7_136 : Cond.fieldLink RX7 136 "IcePadModel" "released" "I" ∈ wsL_law := wL_r15 _ (List.mem_of_getElem? (i := 16) rfl)
theorem m_ml_L_126 : Cond.methodLink RL 126 yL_pass ∈ wsL_law := wL_r15 _ (List.mem_of_getElem? (i := 17) rfl)
theorem m_st_L_pass : Cond.static yL_pass ∈ wsL_law := wL_r15 _ (List.mem_of_getElem? (i := 18) rfl)
theorem m_cw_L_pass : Cond.codeWith yL_pass cL_pass 4 (some .int) [(0, 9, 12, 13)] ∈ wsL_law := wL_r15 _ (List.mem_of_getElem? (i := 19) rfl)
theorem m_ml_L_53 : Cond.methodLink RL 53 yX6_pass ∈ wsL_law := wL_r15 _ (List.mem_of_getElem? (i := 20) rfl)
theorem m_im_X6_pass : Cond.instanceMethod yX6_pass ∈ wsL_law := wL_r15 _ (List.mem_of_getElem? (i := 21) rfl)
theorem m_se_X6_pass : Cond.selects RX6 yX6_pass yX6_pass ∈ wsL_law := wL_r15 _ (List.mem_of_getElem? (i := 22) rfl)
theorem m_co_X6_pass : Cond.code yX6_pass cX6_pass 3 (some .int) ∈ wsL_law := wL_r15 _ (List.mem_of_getElem? (i := 23) rfl)
theorem m_ml_X6_166 : Cond.methodLink RX6 166 yX6_liveMinute ∈ wsL_law := wL_r16 _ (List.mem_of_getElem? (i := 0) rfl)
theorem m_im_X6_liveMinute : Cond.instanceMethod yX6_liveMinute ∈ wsL_law := wL_r16 _ (List.mem_of_getElem? (i := 1) rfl)
theorem m_se_X6_liveMinute : Cond.selects RX6 yX6_liveMinute yX6_liveMinute ∈ wsL_law := wL_r16 _ (List.mem_of_getElem? (i := 2) rfl)
theorem m_co_X6_liveMinute : Cond.code yX6_liveMinute cX6_liveMinute 1 none ∈ wsL_law := wL_r16 _ (List.mem_of_getElem? (i := 3) rfl)
theorem m_ml_X6_234 : Cond.methodLink RX6 234 yX3_liveMinute ∈ wsL_law := wL_r16 _ (List.mem_of_getElem? (i := 4) rfl)
theorem m_im_X3_liveMinute : Cond.instanceMethod yX3_liveMinute ∈ wsL_law := wL_r16 _ (List.mem_of_getElem? (i := 5) rfl)
theorem m_se_X3_liveMinute : Cond.selects RX3 yX3_liveMinute yX3_liveMinute ∈ wsL_law := wL_r16 _ (List.mem_of_getElem? (i := 6) rfl)
theorem m_co_X3_liveMinute : Cond.code yX3_liveMinute cX3_liveMinute 4 none ∈ wsL_law := wL_r16 _ (List.mem_of_getElem? (i := 7) rfl)
theorem m_ml_X3_40 : Cond.methodLink RX3 40 yX4_liveMinute ∈ wsL_law := wL_r16 _ (List.mem_of_getElem? (i := 8) rfl)
theorem m_im_X4_liveMinute : Cond.instanceMethod yX4_liveMinute ∈ wsL_law := wL_r16 _ (List.mem_of_getElem? (i := 9) rfl)
theorem m_se_X4_liveMinute : Cond.selects RX4 yX4_liveMinute yX4_liveMinute ∈ wsL_law := wL_r16 _ (List.mem_of_getElem? (i := 10) rfl)
theorem m_co_X4_liveMinute : Cond.code yX4_liveMinute cX4_liveMinute 4 none ∈ wsL_law := wL_r16 _ (List.mem_of_getElem? (i := 11) rfl)
theorem m_fl_X4_40 : Cond.fieldLink RX4 40 "IcePad$Weather" "fall" "I" ∈ wsL_law := wL_r16 _ (List.mem_of_getElem? (i := 12) rfl)
theorem m_fl_X4_43 : Cond.fieldLink RX4 43 "IcePad$Weather" "rate" "I" ∈ wsL_law := wL_r16 _ (List.mem_of_getElem? (i := 13) rfl)
theorem m_ml_X4_36 : Cond.methodLink RX4 36 yX4_isSprayedAt ∈ wsL_law := wL_r16 _ (List.mem_of_getElem? (i := 14) rfl)
theorem m_im_X4_isSprayedAt : Cond.instanceMethod yX4_isSprayedAt ∈ wsL_law := wL_r16 _ (List.mem_of_getElem? (i := 15) rfl)
theorem m_se_X4_isSprayedAt : Cond.selects RX4 yX4_isSprayedAt yX4_isSprayedAt ∈ wsL_law := wL_r16 _ (List.mem_of_getElem? (i := 16) rfl)
theorem m_co_X4_isSprayedAt : Cond.code yX4_isSprayedAt cX4_isSprayedAt 2 (some .boolean) ∈ wsL_law := wL_r16 _ (List.mem_of_getElem? (i := 17) rfl)
theorem m_ml_X4_46 : Cond.methodLink RX4 46 yX4_snowOn ∈ wsL_law := wL_r16 _ (List.mem_of_getElem? (i := 18) rfl)
theorem m_im_X4_snowOn : Cond.instanceMethod yX4_snowOn ∈ wsL_law := wL_r16 _ (List.mem_of_getElem? (i := 19) rfl)
theorem m_se_X4_snowOn : Cond.selects RX4 yX4_snowOn yX4_snowOn ∈ wsL_law := wL_r16 _ (List.mem_of_getElem? (i := 20) rfl)
theorem m_co_X4_snowOn : Cond.code yX4_snowOn cX4_snowOn 2 none ∈ wsL_law := wL_r16 _ (List.mem_of_getElem? (i := 21) rfl)
theorem m_ml_X4_60 : Cond.methodLink RX4 60 yX4_addDepth ∈ wsL_law := wL_r16 _ (List.mem_of_getElem? (i := 22) rfl)
theorem m_im_X4_addDepth : Cond.instanceMethod yX4_addDepth ∈ wsL_law := wL_r16 _ (List.mem_of_getElem? (i := 23) rfl)
theorem m_se_X4_addDepth : Cond.selects RX4 yX4_addDepth yX4_addDepth ∈ wsL_law := wL_r17 _ (List.mem_of_getElem? (i := 0) rfl)
theorem m_co_X4_addDepth : Cond.code yX4_addDepth cX4_addDepth 2 none ∈ wsL_law := wL_r17 _ (List.mem_of_getElem? (i := 1) rfl)
theorem m_ml_X4_63 : Cond.methodLink RX4 63 Lib.Math.min.name ∈ wsL_law := wL_r17 _ (List.mem_of_getElem? (i := 2) rfl)
theorem m_st_Lib_Math_min_name : Cond.static Lib.Math.min.name ∈ wsL_law := wL_r17 _ (List.mem_of_getElem? (i := 3) rfl)
theorem m_co_Lib_Math_min_name : Cond.code Lib.Math.min.name Lib.Math.min.code 2 (some .int) ∈ wsL_law := wL_r17 _ (List.mem_of_getElem? (i := 4) rfl)
theorem m_ml_X4_50 : Cond.methodLink RX4 50 yX4_rainOn ∈ wsL_law := wL_r17 _ (List.mem_of_getElem? (i := 5) rfl)
theorem m_im_X4_rainOn : Cond.instanceMethod yX4_rainOn ∈ wsL_law := wL_r17 _ (List.mem_of_getElem? (i := 6) rfl)
theorem m_se_X4_rainOn : Cond.selects RX4 yX4_rainOn yX4_rainOn ∈ wsL_law := wL_r17 _ (List.mem_of_getElem? (i := 7) rfl)
theorem m_co_X4_rainOn : Cond.code yX4_rainOn cX4_rainOn 3 none ∈ wsL_law := wL_r17 _ (List.mem_of_getElem? (i := 8) rfl)
theorem m_ml_X4_54 : Cond.methodLink RX4 54 yX4_iceOver ∈ wsL_law := wL_r17 _ (List.mem_of_getElem? (i := 9) rfl)
theorem m_im_X4_iceOver : Cond.instanceMethod yX4_iceOver ∈ wsL_law := wL_r17 _ (List.mem_of_getElem? (i := 10) rfl)
theorem m_se_X4_iceOver : Cond.selects RX4 yX4_iceOver yX4_iceOver ∈ wsL_law := wL_r17 _ (List.mem_of_getElem? (i := 11) rfl)
theorem m_co_X4_iceOver : Cond.code yX4_iceOver cX4_iceOver 1 none ∈ wsL_law := wL_r17 _ (List.mem_of_getElem? (i := 12) rfl)
theorem m_ml_X4_57 : Cond.methodLink RX4 57 yX4_melt ∈ wsL_law := wL_r17 _ (List.mem_of_getElem? (i := 13) rfl)
theorem m_im_X4_melt : Cond.instanceMethod yX4_melt ∈ wsL_law := wL_r17 _ (List.mem_of_getElem? (i := 14) rfl)
theorem m_se_X4_melt : Cond.selects RX4 yX4_melt yX4_melt ∈ wsL_law := wL_r17 _ (List.mem_of_getElem? (i := 15) rfl)
theorem m_co_X4_melt : Cond.code yX4_melt cX4_melt 1 none ∈ wsL_law := wL_r17 _ (List.mem_of_getElem? (i := 16) rfl)
theorem m_ml_X3_32 : Cond.methodLink RX3 32 yX3_isClosedAt ∈ wsL_law := wL_r17 _ (List.mem_of_getElem? (i := 17) rfl)
theorem m_im_X3_isClosedAt : Cond.instanceMethod yX3_isClosedAt ∈ wsL_law := wL_r17 _ (List.mem_of_getElem? (i := 18) rfl)
theorem m_se_X3_isClosedAt : Cond.selects RX3 yX3_isClosedAt yX3_isClosedAt ∈ wsL_law := wL_r17 _ (List.mem_of_getElem? (i := 19) rfl)
theorem m_co_X3_isClosedAt : Cond.code yX3_isClosedAt cX3_isClosedAt 2 (some .boolean) ∈ wsL_law := wL_r17 _ (List.mem_of_getElem? (i := 20) rfl)
theorem m_ml_X3_44 : Cond.methodLink RX3 44 yX3_plough ∈ wsL_law := wL_r17 _ (List.mem_of_getElem? (i := 21) rfl)
theorem m_im_X3_plough : Cond.instanceMethod yX3_plough ∈ wsL_law := wL_r17 _ (List.mem_of_getElem? (i := 22) rfl)
theorem m_se_X3_plough : Cond.selects RX3 yX3_plough yX3_plough ∈ wsL_law := wL_r17 _ (List.mem_of_getElem? (i := 23) rfl)
theorem m_co_X3_plough : Cond.code yX3_plough cX3_plough 4 none ∈ wsL_law := wL_r18 _ (List.mem_of_getElem? (i := 0) rfl)
theorem m_fl_X3_47 : Cond.fieldLink RX3 47 "IcePad$Runway" "ploughs" "I" ∈ wsL_law := wL_r18 _ (List.mem_of_getElem? (i := 1) rfl)
theorem m_fl_X3_54 : Cond.fieldLink RX3 54 "IcePad$Runway" "heap" "I" ∈ wsL_law := wL_r18 _ (List.mem_of_getElem? (i := 2) rfl)
theorem m_ml_X3_50 : Cond.methodLink RX3 50 yX4_ploughUpTo ∈ wsL_law := wL_r18 _ (List.mem_of_getElem? (i := 3) rfl)
theorem m_im_X4_ploughUpTo : Cond.instanceMethod yX4_ploughUpTo ∈ wsL_law := wL_r18 _ (List.mem_of_getElem? (i := 4) rfl)
theorem m_se_X4_ploughUpTo : Cond.selects RX4 yX4_ploughUpTo yX4_ploughUpTo ∈ wsL_law := wL_r18 _ (List.mem_of_getElem? (i := 5) rfl)
theorem m_co_X4_ploughUpTo : Cond.code yX4_ploughUpTo cX4_ploughUpTo 3 (some .int) ∈ wsL_law := wL_r18 _ (List.mem_of_getElem? (i := 6) rfl)
theorem m_ml_X3_57 : Cond.methodLink RX3 57 yX4_wetIfBare ∈ wsL_law := wL_r18 _ (List.mem_of_getElem? (i := 7) rfl)
theorem m_im_X4_wetIfBare : Cond.instanceMethod yX4_wetIfBare ∈ wsL_law := wL_r18 _ (List.mem_of_getElem? (i := 8) rfl)
theorem m_se_X4_wetIfBare : Cond.selects RX4 yX4_wetIfBare yX4_wetIfBare ∈ wsL_law := wL_r18 _ (List.mem_of_getElem? (i := 9) rfl)
theorem m_co_X4_wetIfBare : Cond.code yX4_wetIfBare cX4_wetIfBare 1 none ∈ wsL_law := wL_r18 _ (List.mem_of_getElem? (i := 10) rfl)
theorem m_ml_X6_237 : Cond.methodLink RX6 237 yX6_endTreatments ∈ wsL_law := wL_r18 _ (List.mem_of_getElem? (i := 11) rfl)
theorem m_im_X6_endTreatments : Cond.instanceMethod yX6_endTreatments ∈ wsL_law := wL_r18 _ (List.mem_of_getElem? (i := 12) rfl)
theorem m_se_X6_endTreatments : Cond.selects RX6 yX6_endTreatments yX6_endTreatments ∈ wsL_law := wL_r18 _ (List.mem_of_getElem? (i := 13) rfl)
theorem m_co_X6_endTreatments : Cond.code yX6_endTreatments cX6_endTreatments 2 none ∈ wsL_law := wL_r18 _ (List.mem_of_getElem? (i := 14) rfl)
theorem m_ml_X6_240 : Cond.methodLink RX6 240 yX1_cleanMinute ∈ wsL_law := wL_r18 _ (List.mem_of_getElem? (i := 15) rfl)
theorem m_im_X1_cleanMinute : Cond.instanceMethod yX1_cleanMinute ∈ wsL_law := wL_r18 _ (List.mem_of_getElem? (i := 16) rfl)
theorem m_se_X1_cleanMinute : Cond.selects RX1 yX1_cleanMinute yX1_cleanMinute ∈ wsL_law := wL_r18 _ (List.mem_of_getElem? (i := 17) rfl)
theorem m_co_X1_cleanMinute : Cond.code yX1_cleanMinute cX1_cleanMinute 2 none ∈ wsL_law := wL_r18 _ (List.mem_of_getElem? (i := 18) rfl)
theorem m_fl_X1_21 : Cond.fieldLink RX1 21 "IcePad$Basin" "litres" "I" ∈ wsL_law := wL_r18 _ (List.mem_of_getElem? (i := 19) rfl)
theorem m_ml_X1_24 : Cond.methodLink RX1 24 Lib.Math.min.name ∈ wsL_law := wL_r18 _ (List.mem_of_getElem? (i := 20) rfl)
theorem m_fl_X1_30 : Cond.fieldLink RX1 30 "IcePad$Basin" "cleaned" "I" ∈ wsL_law := wL_r18 _ (List.mem_of_getElem? (i := 21) rfl)
theorem m_ml_X6_242 : Cond.methodLink RX6 242 yX6_cancelBehindDuty ∈ wsL_law := wL_r18 _ (List.mem_of_getElem? (i := 22) rfl)
theorem m_im_X6_cancelBehindDuty : Cond.instanceMethod yX6_cancelBehindDuty ∈ wsL_law := wL_r18 _ (List.mem_of_getElem? (i := 23) rfl)
theorem m_se_X6_cancelBehindDuty : Cond.selects RX6 yX6_cancelBehindDuty yX6_cancelBehindDuty ∈ wsL_law := wL_r19 _ (List.mem_of_getElem? (i := 0) rfl)
theorem m_co_X6_cancelBehindDuty : Cond.code yX6_cancelBehindDuty cX6_cancelBehindDuty 2 none ∈ wsL_law := wL_r19 _ (List.mem_of_getElem? (i := 1) rfl)
theorem m_fl_X6_251 : Cond.fieldLink RX6 251 "IcePad$Aircraft" "duty" "I" ∈ wsL_law := wL_r19 _ (List.mem_of_getElem? (i := 2) rfl)
theorem m_ml_X6_245 : Cond.methodLink RX6 245 yX6_sendBackWithoutClock ∈ wsL_law := wL_r19 _ (List.mem_of_getElem? (i := 3) rfl)
theorem m_im_X6_sendBackWithoutClock : Cond.instanceMethod yX6_sendBackWithoutClock ∈ wsL_law := wL_r19 _ (List.mem_of_getElem? (i := 4) rfl)
theorem m_se_X6_sendBackWithoutClock : Cond.selects RX6 yX6_sendBackWithoutClock yX6_sendBackWithoutClock ∈ wsL_law := wL_r19 _ (List.mem_of_getElem? (i := 5) rfl)
theorem m_co_X6_sendBackWithoutClock : Cond.code yX6_sendBackWithoutClock cX6_sendBackWithoutClock 2 none ∈ wsL_law := wL_r19 _ (List.mem_of_getElem? (i := 6) rfl)
theorem m_ml_X6_198 : Cond.methodLink RX6 198 yX6_clockLeft ∈ wsL_law := wL_r19 _ (List.mem_of_getElem? (i := 7) rfl)
theorem m_im_X6_clockLeft : Cond.instanceMethod yX6_clockLeft ∈ wsL_law := wL_r19 _ (List.mem_of_getElem? (i := 8) rfl)
theorem m_se_X6_clockLeft : Cond.selects RX6 yX6_clockLeft yX6_clockLeft ∈ wsL_law := wL_r19 _ (List.mem_of_getElem? (i := 9) rfl)
theorem m_co_X6_clockLeft : Cond.code yX6_clockLeft cX6_clockLeft 2 (some .double) ∈ wsL_law := wL_r19 _ (List.mem_of_getElem? (i := 10) rfl)
theorem m_fl_X6_262 : Cond.fieldLink RX6 262 "IcePad$Aircraft" "clockBegan" "I" ∈ wsL_law := wL_r19 _ (List.mem_of_getElem? (i := 11) rfl)
theorem m_ml_X6_258 : Cond.methodLink RX6 258 yX2_holdsFor ∈ wsL_law := wL_r19 _ (List.mem_of_getElem? (i := 12) rfl)
theorem m_im_X2_holdsFor : Cond.instanceMethod yX2_holdsFor ∈ wsL_law := wL_r19 _ (List.mem_of_getElem? (i := 13) rfl)
theorem m_se_X2_holdsFor : Cond.selects RX2 yX2_holdsFor yX2_holdsFor ∈ wsL_law := wL_r19 _ (List.mem_of_getElem? (i := 14) rfl)
theorem m_co_X2_holdsFor : Cond.code yX2_holdsFor cX2_holdsFor 4 (some .double) ∈ wsL_law := wL_r19 _ (List.mem_of_getElem? (i := 15) rfl)
theorem m_fl_X2_26 : Cond.fieldLink RX2 26 "IcePad$Weather" "fall" "I" ∈ wsL_law := wL_r19 _ (List.mem_of_getElem? (i := 16) rfl)
theorem m_cd_X2_32 : Cond.constantDouble RX2 32 (4696837146684686336) ∈ wsL_law := wL_r19 _ (List.mem_of_getElem? (i := 17) rfl)
theorem m_cd_X2_34 : Cond.constantDouble RX2 34 (4636737291354636288) ∈ wsL_law := wL_r19 _ (List.mem_of_getElem? (i := 18) rfl)
theorem m_ml_X2_36 : Cond.methodLink RX2 36 yX5_holdFactor ∈ wsL_law := wL_r19 _ (List.mem_of_getElem? (i := 19) rfl)
theorem m_im_X5_holdFactor : Cond.instanceMethod yX5_holdFactor ∈ wsL_law := wL_r19 _ (List.mem_of_getElem? (i := 20) rfl)
theorem m_se_X5_holdFactor : Cond.selects RX5 yX5_holdFactor yX5_holdFactor ∈ wsL_law := wL_r19 _ (List.mem_of_getElem? (i := 21) rfl)
theorem m_co_X5_holdFactor : Cond.code yX5_holdFactor cX5_holdFactor 1 (some .double) ∈ wsL_law := wL_r19 _ (List.mem_of_getElem? (i := 22) rfl)
theorem m_fl_X5_13 : Cond.fieldLink RX5 13 "IcePad$Weather" "temperature" "I" ∈ wsL_law := wL_r19 _ (List.mem_of_getElem? (i := 23) rfl)
theorem m_cd_X5_16 : Cond.constantDouble RX5 16 (4604930618986332160) ∈ wsL_law := wL_r20 _ (List.mem_of_getElem? (i := 0) rfl)
theorem m_cd_X5_18 : Cond.constantDouble RX5 18 (4602678819172646912) ∈ wsL_law := wL_r20 _ (List.mem_of_getElem? (i := 1) rfl)
theorem m_ml_X6_182 : Cond.methodLink RX6 182 yX3_isUsableAt ∈ wsL_law := wL_r20 _ (List.mem_of_getElem? (i := 2) rfl)
theorem m_im_X3_isUsableAt : Cond.instanceMethod yX3_isUsableAt ∈ wsL_law := wL_r20 _ (List.mem_of_getElem? (i := 3) rfl)
theorem m_se_X3_isUsableAt : Cond.selects RX3 yX3_isUsableAt yX3_isUsableAt ∈ wsL_law := wL_r20 _ (List.mem_of_getElem? (i := 4) rfl)
theorem m_co_X3_isUsableAt : Cond.code yX3_isUsableAt cX3_isUsableAt 3 (some .boolean) ∈ wsL_law := wL_r20 _ (List.mem_of_getElem? (i := 5) rfl)
theorem m_ml_X3_36 : Cond.methodLink RX3 36 yX3_codesSufficeAt ∈ wsL_law := wL_r20 _ (List.mem_of_getElem? (i := 6) rfl)
theorem m_im_X3_codesSufficeAt : Cond.instanceMethod yX3_codesSufficeAt ∈ wsL_law := wL_r20 _ (List.mem_of_getElem? (i := 7) rfl)
theorem m_se_X3_codesSufficeAt : Cond.selects RX3 yX3_codesSufficeAt yX3_codesSufficeAt ∈ wsL_law := wL_r20 _ (List.mem_of_getElem? (i := 8) rfl)
theorem m_co_X3_codesSufficeAt : Cond.code yX3_codesSufficeAt cX3_codesSufficeAt 5 (some .boolean) ∈ wsL_law := wL_r20 _ (List.mem_of_getElem? (i := 9) rfl)
theorem m_ml_X3_22 : Cond.methodLink RX3 22 yX5_codeNeeded ∈ wsL_law := wL_r20 _ (List.mem_of_getElem? (i := 10) rfl)
theorem m_im_X5_codeNeeded : Cond.instanceMethod yX5_codeNeeded ∈ wsL_law := wL_r20 _ (List.mem_of_getElem? (i := 11) rfl)
theorem m_se_X5_codeNeeded : Cond.selects RX5 yX5_codeNeeded yX5_codeNeeded ∈ wsL_law := wL_r20 _ (List.mem_of_getElem? (i := 12) rfl)
theorem m_co_X5_codeNeeded : Cond.code yX5_codeNeeded cX5_codeNeeded 1 (some .int) ∈ wsL_law := wL_r20 _ (List.mem_of_getElem? (i := 13) rfl)
theorem m_fl_X5_7 : Cond.fieldLink RX5 7 "IcePad$Weather" "wind" "I" ∈ wsL_law := wL_r20 _ (List.mem_of_getElem? (i := 14) rfl)
theorem m_ml_X3_28 : Cond.methodLink RX3 28 yX4_codeAt ∈ wsL_law := wL_r20 _ (List.mem_of_getElem? (i := 15) rfl)
theorem m_ml_X6_248 : Cond.methodLink RX6 248 yX6_letOneLeave ∈ wsL_law := wL_r20 _ (List.mem_of_getElem? (i := 16) rfl)
theorem m_im_X6_letOneLeave : Cond.instanceMethod yX6_letOneLeave ∈ wsL_law := wL_r20 _ (List.mem_of_getElem? (i := 17) rfl)
theorem m_se_X6_letOneLeave : Cond.selects RX6 yX6_letOneLeave yX6_letOneLeave ∈ wsL_law := wL_r20 _ (List.mem_of_getElem? (i := 18) rfl)
theorem m_co_X6_letOneLeave : Cond.code yX6_letOneLeave cX6_letOneLeave 4 none ∈ wsL_law := wL_r20 _ (List.mem_of_getElem? (i := 19) rfl)
theorem m_fl_X6_202 : Cond.fieldLink RX6 202 "IcePad$Aircraft" "slot" "I" ∈ wsL_law := wL_r20 _ (List.mem_of_getElem? (i := 20) rfl)
theorem m_fl_X6_186 : Cond.fieldLink RX6 186 "IcePad$Aircraft" "leftMinute" "I" ∈ wsL_law := wL_r20 _ (List.mem_of_getElem? (i := 21) rfl)
theorem m_ml_X6_254 : Cond.methodLink RX6 254 yX6_goesAhead ∈ wsL_law := wL_r20 _ (List.mem_of_getElem? (i := 22) rfl)
theorem m_im_X6_goesAhead : Cond.instanceMethod yX6_goesAhead ∈ wsL_law := wL_r20 _ (List.mem_of_getElem? (i := 23) rfl)
theorem m_se_X6_goesAhead : Cond.selects RX6 yX6_goesAhead yX6_goesAhead ∈ wsL_law := wL_r21 _ (List.mem_of_getElem? (i := 0) rfl)
theorem m_co_X6_goesAhead : Cond.code yX6_goesAhead cX6_goesAhead 7 (some .boolean) ∈ wsL_law := wL_r21 _ (List.mem_of_getElem? (i := 1) rfl)
theorem m_ml_L_128 : Cond.methodLink RL 128 yX7_pass ∈ wsL_law := wL_r21 _ (List.mem_of_getElem? (i := 2) rfl)
theorem m_im_X7_pass : Cond.instanceMethod yX7_pass ∈ wsL_law := wL_r21 _ (List.mem_of_getElem? (i := 3) rfl)
theorem m_se_X7_pass : Cond.selects RX7 yX7_pass yX7_pass ∈ wsL_law := wL_r21 _ (List.mem_of_getElem? (i := 4) rfl)
theorem m_co_X7_pass : Cond.code yX7_pass cX7_pass 3 (some .int) ∈ wsL_law := wL_r21 _ (List.mem_of_getElem? (i := 5) rfl)
theorem m_ml_X7_178 : Cond.methodLink RX7 178 yX7_minute ∈ wsL_law := wL_r21 _ (List.mem_of_getElem? (i := 6) rfl)
theorem m_im_X7_minute : Cond.instanceMethod yX7_minute ∈ wsL_law := wL_r21 _ (List.mem_of_getElem? (i := 7) rfl)
theorem m_se_X7_minute : Cond.selects RX7 yX7_minute yX7_minute ∈ wsL_law := wL_r21 _ (List.mem_of_getElem? (i := 8) rfl)
theorem m_co_X7_minute : Cond.code yX7_minute cX7_minute 3 none ∈ wsL_law := wL_r21 _ (List.mem_of_getElem? (i := 9) rfl)
theorem m_fl_X7_169 : Cond.fieldLink RX7 169 "IcePadModel" "cleaned" "I" ∈ wsL_law := wL_r21 _ (List.mem_of_getElem? (i := 10) rfl)
theorem m_ml_X7_157 : Cond.methodLink RX7 157 yX7_falls ∈ wsL_law := wL_r21 _ (List.mem_of_getElem? (i := 11) rfl)
theorem m_im_X7_falls : Cond.instanceMethod yX7_falls ∈ wsL_law := wL_r21 _ (List.mem_of_getElem? (i := 12) rfl)
theorem m_se_X7_falls : Cond.selects RX7 yX7_falls yX7_falls ∈ wsL_law := wL_r21 _ (List.mem_of_getElem? (i := 13) rfl)
theorem m_co_X7_falls : Cond.code yX7_falls cX7_falls 3 none ∈ wsL_law := wL_r21 _ (List.mem_of_getElem? (i := 14) rfl)
theorem m_ml_X7_139 : Cond.methodLink RX7 139 yX7_isSprayed ∈ wsL_law := wL_r21 _ (List.mem_of_getElem? (i := 15) rfl)
theorem m_im_X7_isSprayed : Cond.instanceMethod yX7_isSprayed ∈ wsL_law := wL_r21 _ (List.mem_of_getElem? (i := 16) rfl)
theorem m_se_X7_isSprayed : Cond.selects RX7 yX7_isSprayed yX7_isSprayed ∈ wsL_law := wL_r21 _ (List.mem_of_getElem? (i := 17) rfl)
theorem m_co_X7_isSprayed : Cond.code yX7_isSprayed cX7_isSprayed 2 (some .boolean) ∈ wsL_law := wL_r21 _ (List.mem_of_getElem? (i := 18) rfl)
theorem m_ml_X7_160 : Cond.methodLink RX7 160 yX7_isClosed ∈ wsL_law := wL_r21 _ (List.mem_of_getElem? (i := 19) rfl)
theorem m_im_X7_isClosed : Cond.instanceMethod yX7_isClosed ∈ wsL_law := wL_r21 _ (List.mem_of_getElem? (i := 20) rfl)
theorem m_se_X7_isClosed : Cond.selects RX7 yX7_isClosed yX7_isClosed ∈ wsL_law := wL_r21 _ (List.mem_of_getElem? (i := 21) rfl)
theorem m_co_X7_isClosed : Cond.code yX7_isClosed cX7_isClosed 1 (some .boolean) ∈ wsL_law := wL_r21 _ (List.mem_of_getElem? (i := 22) rfl)
theorem m_ml_X7_164 : Cond.methodLink RX7 164 yX7_ploughs ∈ wsL_law := wL_r21 _ (List.mem_of_getElem? (i := 23) rfl)
theorem m_im_X7_ploughs : Cond.instanceMethod yX7_ploughs ∈ wsL_law := wL_r22 _ (List.mem_of_getElem? (i := 0) rfl)
theorem m_se_X7_ploughs : Cond.selects RX7 yX7_ploughs yX7_ploughs ∈ wsL_law := wL_r22 _ (List.mem_of_getElem? (i := 1) rfl)
theorem m_co_X7_ploughs : Cond.code yX7_ploughs cX7_ploughs 4 none ∈ wsL_law := wL_r22 _ (List.mem_of_getElem? (i := 2) rfl)
theorem m_fl_X7_142 : Cond.fieldLink RX7 142 "IcePadModel" "heap" "I" ∈ wsL_law := wL_r22 _ (List.mem_of_getElem? (i := 3) rfl)
theorem m_ml_X7_166 : Cond.methodLink RX7 166 yX7_goesOn ∈ wsL_law := wL_r22 _ (List.mem_of_getElem? (i := 4) rfl)
theorem m_im_X7_goesOn : Cond.instanceMethod yX7_goesOn ∈ wsL_law := wL_r22 _ (List.mem_of_getElem? (i := 5) rfl)
theorem m_se_X7_goesOn : Cond.selects RX7 yX7_goesOn yX7_goesOn ∈ wsL_law := wL_r22 _ (List.mem_of_getElem? (i := 6) rfl)
theorem m_co_X7_goesOn : Cond.code yX7_goesOn cX7_goesOn 2 none ∈ wsL_law := wL_r22 _ (List.mem_of_getElem? (i := 7) rfl)
theorem m_ml_X7_153 : Cond.methodLink RX7 153 yX7_clockOf ∈ wsL_law := wL_r22 _ (List.mem_of_getElem? (i := 8) rfl)
theorem m_im_X7_clockOf : Cond.instanceMethod yX7_clockOf ∈ wsL_law := wL_r22 _ (List.mem_of_getElem? (i := 9) rfl)
theorem m_se_X7_clockOf : Cond.selects RX7 yX7_clockOf yX7_clockOf ∈ wsL_law := wL_r22 _ (List.mem_of_getElem? (i := 10) rfl)
theorem m_co_X7_clockOf : Cond.code yX7_clockOf cX7_clockOf 6 (some .double) ∈ wsL_law := wL_r22 _ (List.mem_of_getElem? (i := 11) rfl)
theorem m_cd_X7_145 : Cond.constantDouble RX7 145 (4696837146684686336) ∈ wsL_law := wL_r22 _ (List.mem_of_getElem? (i := 12) rfl)
theorem m_cd_X7_147 : Cond.constantDouble RX7 147 (4604930618986332160) ∈ wsL_law := wL_r22 _ (List.mem_of_getElem? (i := 13) rfl)
theorem m_cd_X7_149 : Cond.constantDouble RX7 149 (4602678819172646912) ∈ wsL_law := wL_r22 _ (List.mem_of_getElem? (i := 14) rfl)
theorem m_cd_X7_151 : Cond.constantDouble RX7 151 (4636737291354636288) ∈ wsL_law := wL_r22 _ (List.mem_of_getElem? (i := 15) rfl)
theorem m_ml_X7_172 : Cond.methodLink RX7 172 yX7_areEnough ∈ wsL_law := wL_r22 _ (List.mem_of_getElem? (i := 16) rfl)
theorem m_im_X7_areEnough : Cond.instanceMethod yX7_areEnough ∈ wsL_law := wL_r22 _ (List.mem_of_getElem? (i := 17) rfl)
theorem m_se_X7_areEnough : Cond.selects RX7 yX7_areEnough yX7_areEnough ∈ wsL_law := wL_r22 _ (List.mem_of_getElem? (i := 18) rfl)
theorem m_co_X7_areEnough : Cond.code yX7_areEnough cX7_areEnough 2 (some .boolean) ∈ wsL_law := wL_r22 _ (List.mem_of_getElem? (i := 19) rfl)
theorem m_ml_X7_175 : Cond.methodLink RX7 175 yX7_leaves ∈ wsL_law := wL_r22 _ (List.mem_of_getElem? (i := 20) rfl)
theorem m_im_X7_leaves : Cond.instanceMethod yX7_leaves ∈ wsL_law := wL_r22 _ (List.mem_of_getElem? (i := 21) rfl)
theorem m_se_X7_leaves : Cond.selects RX7 yX7_leaves yX7_leaves ∈ wsL_law := wL_r22 _ (List.mem_of_getElem? (i := 22) rfl)
theorem m_co_X7_leaves : Cond.code yX7_leaves cX7_leaves 3 none ∈ wsL_law := wL_r22 _ (List.mem_of_getElem? (i := 23) rfl)
theorem m_ml_L_129 : Cond.methodLink RL 129 yL_code ∈ wsL_law := wL_r23 _ (List.mem_of_getElem? (i := 0) rfl)
theorem m_st_L_code : Cond.static yL_code ∈ wsL_law := wL_r23 _ (List.mem_of_getElem? (i := 1) rfl)
theorem m_cw_L_code : Cond.codeWith yL_code cL_code 4 (some .int) [(0, 9, 12, 19)] ∈ wsL_law := wL_r23 _ (List.mem_of_getElem? (i := 2) rfl)
theorem m_ml_L_56 : Cond.methodLink RL 56 yX6_code ∈ wsL_law := wL_r23 _ (List.mem_of_getElem? (i := 3) rfl)
theorem m_im_X6_code : Cond.instanceMethod yX6_code ∈ wsL_law := wL_r23 _ (List.mem_of_getElem? (i := 4) rfl)
theorem m_se_X6_code : Cond.selects RX6 yX6_code yX6_code ∈ wsL_law := wL_r23 _ (List.mem_of_getElem? (i := 5) rfl)
theorem m_co_X6_code : Cond.code yX6_code cX6_code 2 (some .int) ∈ wsL_law := wL_r23 _ (List.mem_of_getElem? (i := 6) rfl)
theorem m_ml_L_131 : Cond.methodLink RL 131 yX7_code ∈ wsL_law := wL_r23 _ (List.mem_of_getElem? (i := 7) rfl)
theorem m_im_X7_code : Cond.instanceMethod yX7_code ∈ wsL_law := wL_r23 _ (List.mem_of_getElem? (i := 8) rfl)
theorem m_se_X7_code : Cond.selects RX7 yX7_code yX7_code ∈ wsL_law := wL_r23 _ (List.mem_of_getElem? (i := 9) rfl)
theorem m_co_X7_code : Cond.code yX7_code cX7_code 2 (some .int) ∈ wsL_law := wL_r23 _ (List.mem_of_getElem? (i := 10) rfl)
theorem m_ml_L_132 : Cond.methodLink RL 132 yL_thirdOf ∈ wsL_law := wL_r23 _ (List.mem_of_getElem? (i := 11) rfl)
theorem m_st_L_thirdOf : Cond.static yL_thirdOf ∈ wsL_law := wL_r23 _ (List.mem_of_getElem? (i := 12) rfl)
theorem m_cw_L_thirdOf : Cond.codeWith yL_thirdOf cL_thirdOf 5 (some .int) [(0, 10, 13, 19), (0, 10, 17, 13)] ∈ wsL_law := wL_r23 _ (List.mem_of_getElem? (i := 13) rfl)
theorem m_ml_L_59 : Cond.methodLink RL 59 yX6_thirdOf ∈ wsL_law := wL_r23 _ (List.mem_of_getElem? (i := 14) rfl)
theorem m_im_X6_thirdOf : Cond.instanceMethod yX6_thirdOf ∈ wsL_law := wL_r23 _ (List.mem_of_getElem? (i := 15) rfl)
theorem m_se_X6_thirdOf : Cond.selects RX6 yX6_thirdOf yX6_thirdOf ∈ wsL_law := wL_r23 _ (List.mem_of_getElem? (i := 16) rfl)
theorem m_co_X6_thirdOf : Cond.code yX6_thirdOf cX6_thirdOf 4 (some .int) ∈ wsL_law := wL_r23 _ (List.mem_of_getElem? (i := 17) rfl)
theorem m_fl_X6_169 : Cond.fieldLink RX6 169 "IcePad$Third" "cover" "I" ∈ wsL_law := wL_r23 _ (List.mem_of_getElem? (i := 18) rfl)
theorem m_fl_X6_172 : Cond.fieldLink RX6 172 "IcePad$Third" "depth" "I" ∈ wsL_law := wL_r23 _ (List.mem_of_getElem? (i := 19) rfl)
theorem m_ml_X6_175 : Cond.methodLink RX6 175 yX4_isSprayedAt ∈ wsL_law := wL_r23 _ (List.mem_of_getElem? (i := 20) rfl)
theorem m_ml_X6_178 : Cond.methodLink RX6 178 yX4_codeOfWhatLies ∈ wsL_law := wL_r23 _ (List.mem_of_getElem? (i := 21) rfl)
theorem m_ml_L_134 : Cond.methodLink RL 134 yX7_thirdOf ∈ wsL_law := wL_r23 _ (List.mem_of_getElem? (i := 22) rfl)
theorem m_im_X7_thirdOf : Cond.instanceMethod yX7_thirdOf ∈ wsL_law := wL_r23 _ (List.mem_of_getElem? (i := 23) rfl)
theorem m_se_X7_thirdOf : Cond.selects RX7 yX7_thirdOf yX7_thirdOf ∈ wsL_law := wL_r24 _ (List.mem_of_getElem? (i := 0) rfl)
theorem m_co_X7_thirdOf : Cond.code yX7_thirdOf cX7_thirdOf 3 (some .int) ∈ wsL_law := wL_r24 _ (List.mem_of_getElem? (i := 1) rfl)
theorem m_ml_L_135 : Cond.methodLink RL 135 yX6_isGood ∈ wsL_law := wL_r24 _ (List.mem_of_getElem? (i := 2) rfl)
theorem m_im_X6_isGood : Cond.instanceMethod yX6_isGood ∈ wsL_law := wL_r24 _ (List.mem_of_getElem? (i := 3) rfl)
theorem m_se_X6_isGood : Cond.selects RX6 yX6_isGood yX6_isGood ∈ wsL_law := wL_r24 _ (List.mem_of_getElem? (i := 4) rfl)
theorem m_co_X6_isGood : Cond.code yX6_isGood cX6_isGood 1 (some .boolean) ∈ wsL_law := wL_r24 _ (List.mem_of_getElem? (i := 5) rfl)
theorem m_ml_L_139 : Cond.methodLink RL 139 yX7_isGood ∈ wsL_law := wL_r24 _ (List.mem_of_getElem? (i := 6) rfl)
theorem m_im_X7_isGood : Cond.instanceMethod yX7_isGood ∈ wsL_law := wL_r24 _ (List.mem_of_getElem? (i := 7) rfl)
theorem m_se_X7_isGood : Cond.selects RX7 yX7_isGood yX7_isGood ∈ wsL_law := wL_r24 _ (List.mem_of_getElem? (i := 8) rfl)
theorem m_co_X7_isGood : Cond.code yX7_isGood cX7_isGood 1 (some .boolean) ∈ wsL_law := wL_r24 _ (List.mem_of_getElem? (i := 9) rfl)
theorem m_ml_L_140 : Cond.methodLink RL 140 yL_aircraftOf ∈ wsL_law := wL_r24 _ (List.mem_of_getElem? (i := 10) rfl)
theorem m_st_L_aircraftOf : Cond.static yL_aircraftOf ∈ wsL_law := wL_r24 _ (List.mem_of_getElem? (i := 11) rfl)
theorem m_cw_L_aircraftOf : Cond.codeWith yL_aircraftOf cL_aircraftOf 5 (some .int) [(0, 10, 13, 19), (0, 10, 17, 13)] ∈ wsL_law := wL_r24 _ (List.mem_of_getElem? (i := 12) rfl)
theorem m_ml_L_62 : Cond.methodLink RL 62 yX6_aircraftOf ∈ wsL_law := wL_r24 _ (List.mem_of_getElem? (i := 13) rfl)
theorem m_im_X6_aircraftOf : Cond.instanceMethod yX6_aircraftOf ∈ wsL_law := wL_r24 _ (List.mem_of_getElem? (i := 14) rfl)
theorem m_se_X6_aircraftOf : Cond.selects RX6 yX6_aircraftOf yX6_aircraftOf ∈ wsL_law := wL_r24 _ (List.mem_of_getElem? (i := 15) rfl)
theorem m_co_X6_aircraftOf : Cond.code yX6_aircraftOf cX6_aircraftOf 4 (some .int) ∈ wsL_law := wL_r24 _ (List.mem_of_getElem? (i := 16) rfl)
theorem m_fl_X6_189 : Cond.fieldLink RX6 189 "IcePad$Aircraft" "treatments" "I" ∈ wsL_law := wL_r24 _ (List.mem_of_getElem? (i := 17) rfl)
theorem m_fl_X6_192 : Cond.fieldLink RX6 192 "IcePad$Aircraft" "litresOn" "I" ∈ wsL_law := wL_r24 _ (List.mem_of_getElem? (i := 18) rfl)
theorem m_ml_L_142 : Cond.methodLink RL 142 yX7_aircraftOf ∈ wsL_law := wL_r24 _ (List.mem_of_getElem? (i := 19) rfl)
theorem m_im_X7_aircraftOf : Cond.instanceMethod yX7_aircraftOf ∈ wsL_law := wL_r24 _ (List.mem_of_getElem? (i := 20) rfl)
theorem m_se_X7_aircraftOf : Cond.selects RX7 yX7_aircraftOf yX7_aircraftOf ∈ wsL_law := wL_r24 _ (List.mem_of_getElem? (i := 21) rfl)
theorem m_co_X7_aircraftOf : Cond.code yX7_aircraftOf cX7_aircraftOf 3 (some .int) ∈ wsL_law := wL_r24 _ (List.mem_of_getElem? (i := 22) rfl)
theorem m_ml_L_143 : Cond.methodLink RL 143 yL_clock ∈ wsL_law := wL_r24 _ (List.mem_of_getElem? (i := 23) rfl)
theorem m_st_L_clock : Cond.static yL_clock ∈ wsL_law := wL_r25 _ (List.mem_of_getElem? (i := 0) rfl)
theorem m_cw_L_clock : Cond.codeWith yL_clock cL_clock 4 (some .int) [(0, 8, 11, 19), (0, 8, 14, 31)] ∈ wsL_law := wL_r25 _ (List.mem_of_getElem? (i := 1) rfl)
theorem m_ml_L_65 : Cond.methodLink RL 65 yX6_clock ∈ wsL_law := wL_r25 _ (List.mem_of_getElem? (i := 2) rfl)
theorem m_im_X6_clock : Cond.instanceMethod yX6_clock ∈ wsL_law := wL_r25 _ (List.mem_of_getElem? (i := 3) rfl)
theorem m_se_X6_clock : Cond.selects RX6 yX6_clock yX6_clock ∈ wsL_law := wL_r25 _ (List.mem_of_getElem? (i := 4) rfl)
theorem m_co_X6_clock : Cond.code yX6_clock cX6_clock 2 (some .double) ∈ wsL_law := wL_r25 _ (List.mem_of_getElem? (i := 5) rfl)
theorem m_ml_L_146 : Cond.methodLink RL 146 yX7_clock ∈ wsL_law := wL_r25 _ (List.mem_of_getElem? (i := 6) rfl)
theorem m_im_X7_clock : Cond.instanceMethod yX7_clock ∈ wsL_law := wL_r25 _ (List.mem_of_getElem? (i := 7) rfl)
theorem m_se_X7_clock : Cond.selects RX7 yX7_clock yX7_clock ∈ wsL_law := wL_r25 _ (List.mem_of_getElem? (i := 8) rfl)
theorem m_co_X7_clock : Cond.code yX7_clock cX7_clock 2 (some .double) ∈ wsL_law := wL_r25 _ (List.mem_of_getElem? (i := 9) rfl)
theorem m_ml_L_147 : Cond.methodLink RL 147 yL_whyNot ∈ wsL_law := wL_r25 _ (List.mem_of_getElem? (i := 10) rfl)
theorem m_st_L_whyNot : Cond.static yL_whyNot ∈ wsL_law := wL_r25 _ (List.mem_of_getElem? (i := 11) rfl)
theorem m_cw_L_whyNot : Cond.codeWith yL_whyNot cL_whyNot 4 (some .int) [(0, 9, 12, 19)] ∈ wsL_law := wL_r25 _ (List.mem_of_getElem? (i := 12) rfl)
theorem m_ml_L_69 : Cond.methodLink RL 69 yX6_whyNot ∈ wsL_law := wL_r25 _ (List.mem_of_getElem? (i := 13) rfl)
theorem m_im_X6_whyNot : Cond.instanceMethod yX6_whyNot ∈ wsL_law := wL_r25 _ (List.mem_of_getElem? (i := 14) rfl)
theorem m_se_X6_whyNot : Cond.selects RX6 yX6_whyNot yX6_whyNot ∈ wsL_law := wL_r25 _ (List.mem_of_getElem? (i := 15) rfl)
theorem m_co_X6_whyNot : Cond.code yX6_whyNot cX6_whyNot 3 (some .int) ∈ wsL_law := wL_r25 _ (List.mem_of_getElem? (i := 16) rfl)
theorem m_ml_X6_205 : Cond.methodLink RX6 205 yX3_isClosedAt ∈ wsL_law := wL_r25 _ (List.mem_of_getElem? (i := 17) rfl)
theorem m_ml_X6_208 : Cond.methodLink RX6 208 yX3_codesSufficeAt ∈ wsL_law := wL_r25 _ (List.mem_of_getElem? (i := 18) rfl)
theorem m_ml_L_149 : Cond.methodLink RL 149 yX7_whyNot ∈ wsL_law := wL_r25 _ (List.mem_of_getElem? (i := 19) rfl)
theorem m_im_X7_whyNot : Cond.instanceMethod yX7_whyNot ∈ wsL_law := wL_r25 _ (List.mem_of_getElem? (i := 20) rfl)
theorem m_se_X7_whyNot : Cond.selects RX7 yX7_whyNot yX7_whyNot ∈ wsL_law := wL_r25 _ (List.mem_of_getElem? (i := 21) rfl)
theorem m_co_X7_whyNot : Cond.code yX7_whyNot cX7_whyNot 2 (some .int) ∈ wsL_law := wL_r25 _ (List.mem_of_getElem? (i := 22) rfl)
theorem m_ml_L_150 : Cond.methodLink RL 150 yL_queue ∈ wsL_law := wL_r25 _ (List.mem_of_getElem? (i := 23) rfl)
theorem m_st_L_queue : Cond.static yL_queue ∈ wsL_law := wL_r26 _ (List.mem_of_getElem? (i := 0) rfl)
theorem m_cw_L_queue : Cond.codeWith yL_queue cL_queue 4 (some .int) [(0, 9, 12, 19)] ∈ wsL_law := wL_r26 _ (List.mem_of_getElem? (i := 1) rfl)
theorem m_ml_L_72 : Cond.methodLink RL 72 yX6_queue ∈ wsL_law := wL_r26 _ (List.mem_of_getElem? (i := 2) rfl)
theorem m_im_X6_queue : Cond.instanceMethod yX6_queue ∈ wsL_law := wL_r26 _ (List.mem_of_getElem? (i := 3) rfl)
theorem m_se_X6_queue : Cond.selects RX6 yX6_queue yX6_queue ∈ wsL_law := wL_r26 _ (List.mem_of_getElem? (i := 4) rfl)
theorem m_co_X6_queue : Cond.code yX6_queue cX6_queue 3 (some .int) ∈ wsL_law := wL_r26 _ (List.mem_of_getElem? (i := 5) rfl)
theorem m_ml_X6_218 : Cond.methodLink RX6 218 yX6_placeInQueue ∈ wsL_law := wL_r26 _ (List.mem_of_getElem? (i := 6) rfl)
theorem m_im_X6_placeInQueue : Cond.instanceMethod yX6_placeInQueue ∈ wsL_law := wL_r26 _ (List.mem_of_getElem? (i := 7) rfl)
theorem m_se_X6_placeInQueue : Cond.selects RX6 yX6_placeInQueue yX6_placeInQueue ∈ wsL_law := wL_r26 _ (List.mem_of_getElem? (i := 8) rfl)
theorem m_co_X6_placeInQueue : Cond.code yX6_placeInQueue cX6_placeInQueue 4 (some .int) ∈ wsL_law := wL_r26 _ (List.mem_of_getElem? (i := 9) rfl)
theorem m_ml_L_152 : Cond.methodLink RL 152 yX7_queue ∈ wsL_law := wL_r26 _ (List.mem_of_getElem? (i := 10) rfl)
theorem m_im_X7_queue : Cond.instanceMethod yX7_queue ∈ wsL_law := wL_r26 _ (List.mem_of_getElem? (i := 11) rfl)
theorem m_se_X7_queue : Cond.selects RX7 yX7_queue yX7_queue ∈ wsL_law := wL_r26 _ (List.mem_of_getElem? (i := 12) rfl)
theorem m_co_X7_queue : Cond.code yX7_queue cX7_queue 4 (some .int) ∈ wsL_law := wL_r26 _ (List.mem_of_getElem? (i := 13) rfl)
theorem m_ml_X7_181 : Cond.methodLink RX7 181 yX7_nextAfter ∈ wsL_law := wL_r26 _ (List.mem_of_getElem? (i := 14) rfl)
theorem m_im_X7_nextAfter : Cond.instanceMethod yX7_nextAfter ∈ wsL_law := wL_r26 _ (List.mem_of_getElem? (i := 15) rfl)
theorem m_se_X7_nextAfter : Cond.selects RX7 yX7_nextAfter yX7_nextAfter ∈ wsL_law := wL_r26 _ (List.mem_of_getElem? (i := 16) rfl)
theorem m_co_X7_nextAfter : Cond.code yX7_nextAfter cX7_nextAfter 5 (some .int) ∈ wsL_law := wL_r26 _ (List.mem_of_getElem? (i := 17) rfl)
theorem m_ml_L_153 : Cond.methodLink RL 153 yL_sum ∈ wsL_law := wL_r26 _ (List.mem_of_getElem? (i := 18) rfl)
theorem m_st_L_sum : Cond.static yL_sum ∈ wsL_law := wL_r26 _ (List.mem_of_getElem? (i := 19) rfl)
theorem m_cw_L_sum : Cond.codeWith yL_sum cL_sum 4 (some .int) [(0, 9, 12, 13)] ∈ wsL_law := wL_r26 _ (List.mem_of_getElem? (i := 20) rfl)
theorem m_ml_L_75 : Cond.methodLink RL 75 yX6_sum ∈ wsL_law := wL_r26 _ (List.mem_of_getElem? (i := 21) rfl)
theorem m_im_X6_sum : Cond.instanceMethod yX6_sum ∈ wsL_law := wL_r26 _ (List.mem_of_getElem? (i := 22) rfl)
theorem m_se_X6_sum : Cond.selects RX6 yX6_sum yX6_sum ∈ wsL_law := wL_r26 _ (List.mem_of_getElem? (i := 23) rfl)
theorem m_co_X6_sum : Cond.code yX6_sum cX6_sum 2 (some .int) ∈ wsL_law := wL_r27 _ (List.mem_of_getElem? (i := 0) rfl)
theorem m_fl_X6_228 : Cond.fieldLink RX6 228 "IcePad$Basin" "cleaned" "I" ∈ wsL_law := wL_r27 _ (List.mem_of_getElem? (i := 1) rfl)
theorem m_fl_X6_231 : Cond.fieldLink RX6 231 "IcePad$Runway" "heap" "I" ∈ wsL_law := wL_r27 _ (List.mem_of_getElem? (i := 2) rfl)
theorem m_ml_X6_221 : Cond.methodLink RX6 221 yX2_inTanks ∈ wsL_law := wL_r27 _ (List.mem_of_getElem? (i := 3) rfl)
theorem m_im_X2_inTanks : Cond.instanceMethod yX2_inTanks ∈ wsL_law := wL_r27 _ (List.mem_of_getElem? (i := 4) rfl)
theorem m_se_X2_inTanks : Cond.selects RX2 yX2_inTanks yX2_inTanks ∈ wsL_law := wL_r27 _ (List.mem_of_getElem? (i := 5) rfl)
theorem m_co_X2_inTanks : Cond.code yX2_inTanks cX2_inTanks 3 (some .int) ∈ wsL_law := wL_r27 _ (List.mem_of_getElem? (i := 6) rfl)
theorem m_ml_X6_225 : Cond.methodLink RX6 225 yX6_litresOnFleet ∈ wsL_law := wL_r27 _ (List.mem_of_getElem? (i := 7) rfl)
theorem m_im_X6_litresOnFleet : Cond.instanceMethod yX6_litresOnFleet ∈ wsL_law := wL_r27 _ (List.mem_of_getElem? (i := 8) rfl)
theorem m_se_X6_litresOnFleet : Cond.selects RX6 yX6_litresOnFleet yX6_litresOnFleet ∈ wsL_law := wL_r27 _ (List.mem_of_getElem? (i := 9) rfl)
theorem m_co_X6_litresOnFleet : Cond.code yX6_litresOnFleet cX6_litresOnFleet 3 (some .int) ∈ wsL_law := wL_r27 _ (List.mem_of_getElem? (i := 10) rfl)
theorem m_ml_L_155 : Cond.methodLink RL 155 yX7_sum ∈ wsL_law := wL_r27 _ (List.mem_of_getElem? (i := 11) rfl)
theorem m_im_X7_sum : Cond.instanceMethod yX7_sum ∈ wsL_law := wL_r27 _ (List.mem_of_getElem? (i := 12) rfl)
theorem m_se_X7_sum : Cond.selects RX7 yX7_sum yX7_sum ∈ wsL_law := wL_r27 _ (List.mem_of_getElem? (i := 13) rfl)
theorem m_co_X7_sum : Cond.code yX7_sum cX7_sum 4 (some .int) ∈ wsL_law := wL_r27 _ (List.mem_of_getElem? (i := 14) rfl)
end
section
/-! OUR STATE: a number a field (rows of model.py in wip), a world of cells by their places; all of it ours. -/
abbrev St : Type := Nat → Nat → Int32
def up2 (σ : St) (f i : Nat) (v : Int32) : St := fun g j => if g = f ∧ j = i then v else σ g j
theorem up2_s (σ : St) (f i : Nat) (v : Int32) : up2 σ f i v f i = v := if_pos ⟨rfl, rfl⟩
theorem up2_f {f g : Nat} (h : g ≠ f) (σ : St) (i j : Nat) (v : Int32) : up2 σ f i v g j = σ g j := if_neg fun q => h q.1
theorem up2_i {i j : Nat} (h : j ≠ i) (σ : St) (f g : Nat) (v : Int32) : up2 σ f i v g j = σ g j := if_neg fun q => h q.2
/-- what the world stands on: classes of arrays, addresses by place, how many aircraft, what the law's two rows hold -/
abbrev En : Type := (Nat → ClassId) × (Nat → Nat) × Nat × (Nat → Int64) × (Nat → UInt64)
abbrev ecy (E : En) : Nat → ClassId := E.1
abbrev ead (E : En) : Nat → Nat := E.2.1
abbrev en (E : En) : Nat := E.2.2.1
abbrev eo (E : En) : Nat → Int64 := E.2.2.2.1
abbrev ed (E : En) : Nat → UInt64 := E.2.2.2.2
def wfix (E : En) (σ : St) : va_W := [(ead E 0, .inr (6, [.ref (ead E 1), .ref (ead E 2), .ref (ead E 7), .ref (ead E 13), .ref (ead E 14), .int (σ 1 0), .int (σ 0 0)])), (ead E 1, .inr (5, [.int (σ 2 0), .int (σ 3 0), .int (σ 4 0), .int (σ 5 0)])), (ead E 2, .inr (3, [.ref (ead E 3), .int (σ 6 0), .int (σ 7 0), .int (σ 8 0)])), (ead E 3, .inl (ecy E 2, 3, .inr (.inr (.inr (.inr (fun k => some (ead E (4 + k)))))))), (ead E 4, .inr (4, [.int (σ 9 0), .int (σ 10 0), .int (σ 11 0), .int (σ 12 0), .int (σ 13 0)])), (ead E 5, .inr (4, [.int (σ 9 1), .int (σ 10 1), .int (σ 11 1), .int (σ 12 1), .int (σ 13 1)])), (ead E 6, .inr (4, [.int (σ 9 2), .int (σ 10 2), .int (σ 11 2), .int (σ 12 2), .int (σ 13 2)])), (ead E 7, .inr (2, [.ref (ead E 8), .ref (ead E 9), .int (σ 18 0)])), (ead E 8, .inl (ecy E 0, 3, .inl (fun k => σ 14 k))), (ead E 9, .inl (ecy E 3, 3, .inr (.inr (.inr (.inr (fun k => some (ead E (10 + k)))))))), (ead E 10, .inl (ecy E 0, 4, .inl (fun k => σ 15 k))), (ead E 11, .inl (ecy E 0, 4, .inl (fun k => σ 16 k))), (ead E 12, .inl (ecy E 0, 4, .inl (fun k => σ 17 k))), (ead E 13, .inr (1, [.int (σ 19 0), .int (σ 20 0), .int (σ 21 0), .int (σ 22 0), .int (σ 23 0), .int (σ 24 0)])), (ead E 14, .inl (ecy E 1, 20, .inr (.inr (.inr (.inr (fun k => if k < en E then some (ead E (37 + k)) else none)))))), (ead E 15, .inr (7, [.int (σ 40 0), .int (σ 41 0), .int (σ 42 0), .int (σ 43 0), .int (σ 44 0), .int (σ 45 0), .ref (ead E 16), .ref (ead E 17), .ref (ead E 18), .ref (ead E 19), .ref (ead E 20), .int (σ 51 0), .int (σ 52 0), .ref (ead E 21), .ref (ead E 22), .int (σ 55 0), .ref (ead E 23), .ref (ead E 24), .ref (ead E 25), .ref (ead E 26), .ref (ead E 27), .ref (ead E 28), .ref (ead E 29), .ref (ead E 30), .ref (ead E 31), .ref (ead E 32), .ref (ead E 33), .ref (ead E 34), .int (σ 68 0), .int (σ 69 0), .int (σ 70 0), .int (σ 71 0), .int (σ 72 0), .int (σ 73 0), .int (σ 74 0)])), (ead E 16, .inl (ecy E 0, 3, .inl (fun k => σ 46 k))), (ead E 17, .inl (ecy E 0, 3, .inl (fun k => σ 47 k))), (ead E 18, .inl (ecy E 0, 3, .inl (fun k => σ 48 k))), (ead E 19, .inl (ecy E 0, 3, .inl (fun k => σ 49 k))), (ead E 20, .inl (ecy E 0, 3, .inl (fun k => σ 50 k))), (ead E 21, .inl (ecy E 0, 3, .inl (fun k => σ 53 k))), (ead E 22, .inl (ecy E 0, 12, .inl (fun k => σ 54 k))), (ead E 23, .inl (ecy E 0, 20, .inl (fun k => σ 56 k))), (ead E 24, .inl (ecy E 0, 20, .inl (fun k => σ 57 k))), (ead E 25, .inl (ecy E 0, 20, .inl (fun k => σ 58 k))), (ead E 26, .inl (ecy E 0, 20, .inl (fun k => σ 59 k))), (ead E 27, .inl (ecy E 0, 20, .inl (fun k => σ 60 k))), (ead E 28, .inl (ecy E 0, 20, .inl (fun k => σ 61 k))), (ead E 29, .inl (ecy E 0, 20, .inl (fun k => σ 62 k))), (ead E 30, .inl (ecy E 0, 20, .inl (fun k => σ 63 k))), (ead E 31, .inl (ecy E 0, 20, .inl (fun k => σ 64 k))), (ead E 32, .inl (ecy E 0, 20, .inl (fun k => σ 65 k))), (ead E 33, .inl (ecy E 0, 20, .inl (fun k => σ 66 k))), (ead E 34, .inl (ecy E 0, 20, .inl (fun k => σ 67 k))), (ead E 35, .inl (ecy E 4, 1, .inr (.inl (eo E)))), (ead E 36, .inl (ecy E 5, 1, .inr (.inr (.inr (.inl (ed E))))))]
def wair (E : En) (σ : St) (k : Nat) : Nat × va_E := (ead E (37 + k), .inr (0, [.int (σ 25 k), .int (σ 26 k), .int (σ 27 k), .int (σ 28 k), .int (σ 29 k), .int (σ 30 k), .int (σ 31 k), .int (σ 32 k), .int (σ 33 k), .int (σ 34 k), .int (σ 35 k), .int (σ 36 k)]))
def wd (E : En) (σ : St) : va_W := wfix E σ ++ (List.range (en E)).map (wair E σ)
def tyE (E : En) : List (ClassId × FieldType) := [(ecy E 0, .int), (ecy E 1, .object "IcePad$Aircraft"), (ecy E 2, .object "IcePad$Third"), (ecy E 3, .array .int), (ecy E 4, .long), (ecy E 5, .double)]
theorem wfix_len (E : En) (σ : St) : (wfix E σ).length = 37 := rfl
theorem wd_k {E : En} (σ : St) {k : Nat} (h : k < en E) : (wd E σ)[37 + k]? = some (wair E σ k) := by
  unfold wd
  rw [List.getElem?_append_right (by rw [wfix_len]; omega), wfix_len, show 37 + k - 37 = k by omega, List.getElem?_map, List.getElem?_range h]
  rfl
theorem wd_t {E : En} (σ : St) {t : Nat} (h : t < 3) : (wd E σ)[4 + t]? = some (ead E (4 + t), .inr (4, [.int (σ 9 t), .int (σ 10 t), .int (σ 11 t), .int (σ 12 t), .int (σ 13 t)])) := by
  rcases (show t = 0 ∨ t = 1 ∨ t = 2 by omega) with rfl | rfl | rfl <;> rfl
theorem wd_r {E : En} (σ : St) {t : Nat} (h : t < 3) : (wd E σ)[10 + t]? = some (ead E (10 + t), .inl (ecy E 0, 4, .inl (fun k => σ (15 + t) k))) := by
  rcases (show t = 0 ∨ t = 1 ∨ t = 2 by omega) with rfl | rfl | rfl <;> rfl
theorem map_range_set {α : Type} (g g' : Nat → α) (n k : Nat) (ho : ∀ j, j ≠ k → g' j = g j) : ((List.range n).map g).set k (g' k) = (List.range n).map g' := by
  refine List.ext_getElem (by simp) (fun i h1 h2 => ?_)
  rw [List.getElem_set]
  by_cases h : k = i
  · subst h
    simp
  · rw [if_neg h]
    simp [ho i (fun q => h q.symm)]
theorem wd_setk {E : En} {σ σ' : St} {k : Nat} {x : Nat × va_E} (hf : wfix E σ' = wfix E σ) (hx : x = wair E σ' k) (ho : ∀ j, j ≠ k → wair E σ' j = wair E σ j) : (wd E σ).set (37 + k) x = wd E σ' := by
  unfold wd
  rw [List.set_append_right _ _ (by rw [wfix_len]; omega), wfix_len, show 37 + k - 37 = k by omega, hx, map_range_set _ _ _ _ ho, hf]
theorem vp_lt {i : Int32} {n : Nat} (h : vp_in i n) : i.toNatClampNeg < n := Nat.not_le.mp fun q => h (Or.inr q)
/-- the words of the tables, of any world -/
def TB (U : State) : Prop := ∀ w ∈ wsL_law, w.before #[] U = true
theorem tb_good : ∀ w ∈ wsL_law, goodWord w = true := by
  intro w hw
  exact List.all_eq_true.mp (show wsL_law.all goodWord = true by decide +kernel) w hw
theorem TB.moved {s U : State} (h : TB s) (hW : s.WarmedH U.vm) : TB U := fun w hw => word_at hW (good_of_word (tb_good w hw)) (h w hw)
theorem TB.calling {U : State} {g : JFrame} {mk : MethodId} {a : Array Value} (h : TB U) : TB (U.calling g mk a) := h.moved (State.WarmedH.refl U)
theorem TB.args {s : State} (h : TB s) (args : Array Value) : ∀ w ∈ wsL_law, w.before args s = true := fun w hw => word_at (State.WarmedH.refl s) (good_of_word (tb_good w hw)) (h w hw)
/-- which exception a number means -/
def exn : Nat → String
  | 1 => "java/lang/IndexOutOfBoundsException"
  | 2 => "java/lang/IllegalArgumentException"
  | _ => "java/lang/IllegalStateException"
/-- texts, and which exceptions are not which -/
def xdc (Y : String) : Cond := .declares (Bundle.initS Y)
def xcs : List Cond := [.castable (exn 1) (exn 1), .castable (exn 2) (exn 2), .castable (exn 3) (exn 3), xdc "java/lang/RuntimeException", xdc "java/lang/Exception", xdc "java/lang/Throwable"]
theorem xdc_warm {Y : String} {s U : State} (hW : s.WarmedH U.vm) (h : va_Nw (xdc Y) s) : va_Nw (xdc Y) U := va_tabs (c := xdc Y) rfl (rfl : (s.setVm U.vm).vm = U.vm) (by
  show (Cond.declares (Bundle.initS Y)).before #[] (s.setVm U.vm) = true
  rw [Cond.declares_setVm hW.alike]
  exact h)
theorem xcs_warm {s U : State} (hW : s.WarmedH U.vm) (h : ∀ w ∈ xcs, va_Nw w s) : ∀ w ∈ xcs, va_Nw w U := by
  have h1 := h _ (List.mem_of_getElem? (i := 0) rfl)
  have h2 := h _ (List.mem_of_getElem? (i := 1) rfl)
  have h3 := h _ (List.mem_of_getElem? (i := 2) rfl)
  have h4 := h _ (List.mem_of_getElem? (i := 3) rfl)
  have h5 := h _ (List.mem_of_getElem? (i := 4) rfl)
  have h6 := h _ (List.mem_of_getElem? (i := 5) rfl)
  exact List.forall_mem_cons.mpr ⟨h1.warmC hW, List.forall_mem_cons.mpr ⟨h2.warmC hW, List.forall_mem_cons.mpr ⟨h3.warmC hW, List.forall_mem_cons.mpr ⟨xdc_warm hW h4, List.forall_mem_cons.mpr ⟨xdc_warm hW h5, List.forall_mem_cons.mpr ⟨xdc_warm hW h6, fun _ h => absurd h List.not_mem_nil⟩⟩⟩⟩⟩⟩
theorem xcs_on : ∀ w ∈ xcs, w.onTables = true := by decide +kernel
def SX (U : State) : Prop := ((∃ a, vk_R RX6 213 "no such place" a U) ∧ (∃ a, vk_R RX6 265 "there is no such one" a U) ∧ (∃ a, vk_R RX6 269 "an argument is out of range" a U) ∧ (∃ a, vk_R RX6 272 "there is no such strength" a U) ∧ (∃ a, vk_R RX6 276 "this is not possible now" a U)) ∧ (∀ w ∈ xcs, va_Nw w U) ∧ (va_Nc (exn 2) (exn 1) U ∧ va_Nc (exn 3) (exn 1) U ∧ va_Nc (exn 3) (exn 2) U)
theorem SX.moved {s U : State} (h : SX s) (hW : s.WarmedH U.vm) : SX U := by
  obtain ⟨⟨⟨a1, h1⟩, ⟨a2, h2⟩, ⟨a3, h3⟩, ⟨a4, h4⟩, ⟨a5, h5⟩⟩, hc, n1, n2, n3⟩ := h
  exact ⟨⟨⟨a1, vk_R.warm hW h1⟩, ⟨a2, vk_R.warm hW h2⟩, ⟨a3, vk_R.warm hW h3⟩, ⟨a4, vk_R.warm hW h4⟩, ⟨a5, vk_R.warm hW h5⟩⟩, xcs_warm hW hc, n1.moved hW.alike, n2.moved hW.alike, n3.moved hW.alike⟩
def padv : Nat → Value := fun k => match k with | 0 => .int 40 | 1 => .int 60 | _ => .int 80
/-- the statics, none of them among the cells of A -/
def EX (A : Nat → Prop) (U : State) (H : Heap) : Prop := vx_Zq Bundle.tN "UNASSIGNED_STACK" Bundle.steD A U H ∧ vx_Zq Bundle.tN "SUPPRESSED_SENTINEL" Bundle.listD A U H ∧ ∃ t : Nat, va_Z "IcePad" "PAD_SPANS" "[I" (.ref t) A U H ∧ va_T .int t 3 padv A U H
theorem EX.moved {A : Nat → Prop} {u U : State} {H : Heap} (hvm : u.vm.Alike U.vm) (h : EX A u H) : EX A U H := by
  obtain ⟨h1, h2, t, h3, h4⟩ := h
  exact ⟨h1.moved hvm, h2.moved hvm, t, h3.moved hvm, h4.moved hvm⟩
theorem EX.kept {A : Nat → Prop} {U : State} {H H1 : Heap} (h : EX A U H) (hq : ∀ a : Nat, a < H.size → ¬ A a → H1[a]? = H[a]?) : EX A U H1 := by
  obtain ⟨h1, h2, t, h3, h4⟩ := h
  exact ⟨h1.kept hq, h2.kept hq, t, h3.kept hq, h4.kept hq⟩
theorem EX.narrow {A B : Nat → Prop} {U : State} {H : Heap} (h : EX A U H) (hAB : ∀ q, B q → A q) : EX B U H := by
  obtain ⟨h1, h2, t, h3, h4⟩ := h
  exact ⟨h1.narrow hAB, h2.narrow hAB, t, h3.narrow hAB, h4.narrow hAB⟩
/-- what a body stands on, the same all along -/
def CX (p : Program) (s : State) (m : MethodId) (meth : Method) (c : Code) (cc : ByteArray) (own : String) (nL : Nat) (D : va_G) (E : En) (A : Nat → Prop) : Prop :=
  p.tables.exec = Jvm.exec ∧ c.code = cc ∧ c.maxLocals = nL ∧ s.vm.findClass own = some m.cls ∧ meth.locks = false ∧ TB s ∧ SX s ∧ va_K D vwCl (tyE E) s ∧ (∀ q, s.heap.size ≤ q → A q) ∧ EX A s s.heap
section CXP
variable {p : Program} {s : State} {m : MethodId} {meth : Method} {c : Code} {cc : ByteArray} {own : String} {nL : Nat} {D : va_G} {E : En} {A : Nat → Prop}
theorem CX.x (h : CX p s m meth c cc own nL D E A) : p.tables.exec = Jvm.exec := h.1
theorem CX.b (h : CX p s m meth c cc own nL D E A) : c.code = cc := h.2.1
theorem CX.ml (h : CX p s m meth c cc own nL D E A) : c.maxLocals = nL := h.2.2.1
theorem CX.ow (h : CX p s m meth c cc own nL D E A) : s.vm.findClass own = some m.cls := h.2.2.2.1
theorem CX.lk (h : CX p s m meth c cc own nL D E A) : meth.locks = false := h.2.2.2.2.1
theorem CX.tb (h : CX p s m meth c cc own nL D E A) : TB s := h.2.2.2.2.2.1
theorem CX.sx (h : CX p s m meth c cc own nL D E A) : SX s := h.2.2.2.2.2.2.1
theorem CX.k (h : CX p s m meth c cc own nL D E A) : va_K D vwCl (tyE E) s := h.2.2.2.2.2.2.2.1
theorem CX.a (h : CX p s m meth c cc own nL D E A) : ∀ q, s.heap.size ≤ q → A q := h.2.2.2.2.2.2.2.2.1
theorem CX.ex (h : CX p s m meth c cc own nL D E A) : EX A s s.heap := h.2.2.2.2.2.2.2.2.2
theorem CX.w (h : CX p s m meth c cc own nL D E A) (args : Array Value) {w : Cond} (hw : w ∈ wsL_law) : w.before args s = true := h.tb.args args w hw
end CXP
/-- the world at a point of a body: the cells, apart, and what was outside is as it was -/
def HW (D : va_G) (E : En) (σ : St) (A : Nat → Prop) (s : State) (H : Heap) (locs : List Loc) : Prop := va_P D vwCl (wd E σ) H ∧ va_D A (wd E σ) ∧ va_S A s.heap H locs
theorem hw_of {D : va_G} {E : En} {σ : St} {A : Nat → Prop} {s : State} {H : Heap} {locs : List Loc} {W1 : va_W} (e : W1 = wd E σ) (hP : va_P D vwCl W1 H) (hD : va_D A W1) (hS : va_S A s.heap H locs) : HW D E σ A s H locs := by
  subst e
  exact ⟨hP, hD, hS⟩
/-- a contract's start, and the world behind it -/
def PRE (D : va_G) (E : En) (σ : St) (sz : Nat) (U : State) : Prop := U.heap.size = sz ∧ va_P D vwCl (wd E σ) U.heap ∧ va_K D vwCl (tyE E) U ∧ va_D (fun _ => True) (wd E σ) ∧ TB U ∧ SX U ∧ EX (va_A (wd E σ) sz) U U.heap
def POB (D : va_G) (E : En) (A : Nat → Prop) (σ : St) (t : State) : Prop := va_P D vwCl (wd E σ) t.heap ∧ va_K D vwCl (tyE E) t ∧ va_D A (wd E σ)
theorem pre_blind {D : va_G} {E : En} {σ : St} {sz : Nat} {av : List Value} : FrameBlind (va_Pc av (PRE D E σ sz)) := fun a U g mk q => by
  obtain ⟨q0, q1, q2, q3, q4, q5, q6, q7⟩ := q
  exact ⟨q0, q1, q2, va_K.moved (u := U) (U := U.calling g mk a) (Vm.Alike.refl U.vm) q3, q4, q5.calling, SX.moved (U := U.calling g mk a) q6 (State.WarmedH.refl U), EX.moved (u := U) (U := U.calling g mk a) (Vm.Alike.refl U.vm) q7⟩
/-- a contract over the whole world, of a method that returns -/
def CO (l : Launch) (y : MethodName) (cc : ByteArray) (maxL : Nat) (ret : Option FieldType) (rm : Room) (av : List Value) (D : va_G) (E : En) (σ : St) (Q : (Nat → Prop) → Array Value → State → Outcome → State → Prop) (mc ms : Nat) : Prop :=
  ∀ sz : Nat, Met l y [.code y cc maxL ret] rm (va_Pc av (PRE D E σ sz)) (Q (va_A (wd E σ) sz)) mc ms (va_A (wd E σ) sz)
theorem CO.of {l : Launch} {y : MethodName} {cc : ByteArray} {maxL : Nat} {ret : Option FieldType} {rm : Room} {av : List Value} {D : va_G} {E : En} {σ : St} {Q : (Nat → Prop) → Array Value → State → Outcome → State → Prop} {mc ms : Nat} (own : String) (hy : plainName y.cls = true) (ho : y.cls = own) (hlen : (lg_sl av).length ≤ maxL)
    (body : ∀ (p : Program) (e : Env) (s : State) (m : MethodId) (below : List Frame) (meth : Method) (c : Code) (A : Nat → Prop) (ls : Array Slot), CX p s m meth c cc own maxL D E A → HW D E σ A s s.heap [] → meth.sig.returnType = ret → lv_has ls maxL (lv_args 0 av) →
      W p l e rm s m av.toArray below meth c s.heap [] 0 0 (MQ below (Q A) av.toArray s mc ms A) (F0 m 0 ls [])) : CO l y cc maxL ret rm av D E σ Q mc ms := by
  intro sz
  refine Met.ofW (cc := cc) (maxL := maxL) (ret := ret) hy rfl ?_
  intro p e s m args below meth c s₁ B hml hv
  obtain ⟨rfl, hsz, hP, hK, hD0, hT, hX, hE⟩ := hv
  subst hsz
  subst ho
  rw [lg_entry_eq]
  exact body p e s m below meth c _ _ ⟨B.exec, B.bytes, hml, findClass_of_methodNamed B.named, B.notSynchronized, hT, hX, hK, fun q h => Or.inr h, hE⟩ ⟨hP, hD0.self, va_S.rf⟩ B.returns (lv_entry av hlen)
/-- .. of one that returns, or throws what the number thr means (0: nothing), and then has changed nothing -/
def CT (l : Launch) (y : MethodName) (cc : ByteArray) (maxL : Nat) (ret : Option FieldType) (rm : Room) (av : List Value) (D : va_G) (E : En) (σ : St) (Q : (Nat → Prop) → Array Value → State → Outcome → State → Prop) (thr : Nat) (mc ms : Nat) : Prop :=
  ∀ sz : Nat, vx_Met l y [.code y cc maxL ret] rm (va_Pc av (PRE D E σ sz)) (Q (va_A (wd E σ) sz)) (vx_X (fun k : Nat => k ≠ 0 ∧ thr = k) (fun X k t => X = exn k ∧ POB D E (va_A (wd E σ) sz) σ t) (va_A (wd E σ) sz)) mc ms (va_A (wd E σ) sz)
def XT (D : va_G) (E : En) (σ : St) (A : Nat → Prop) (thr : Nat) : String → State → State → Prop := vx_X (fun k : Nat => k ≠ 0 ∧ thr = k) (fun X k t => X = exn k ∧ POB D E A σ t) A
theorem CT.of {l : Launch} {y : MethodName} {cc : ByteArray} {maxL : Nat} {ret : Option FieldType} {rm : Room} {av : List Value} {D : va_G} {E : En} {σ : St} {Q : (Nat → Prop) → Array Value → State → Outcome → State → Prop} {thr mc ms : Nat} (own : String) (hy : plainName y.cls = true) (ho : y.cls = own) (hlen : (lg_sl av).length ≤ maxL)
    (body : ∀ (p : Program) (e : Env) (s : State) (m : MethodId) (below : List Frame) (meth : Method) (c : Code) (A : Nat → Prop) (ls : Array Slot), CX p s m meth c cc own maxL D E A → HW D E σ A s s.heap [] → meth.sig.returnType = ret → (∀ x ∈ c.exceptionTable.toList, False) → lv_has ls maxL (lv_args 0 av) →
      W p l e rm s m av.toArray below meth c s.heap [] 0 0 (vx_MQ below (Q A) (XT D E σ A thr) av.toArray s mc ms A) (F0 m 0 ls [])) : CT l y cc maxL ret rm av D E σ Q thr mc ms := by
  intro sz
  refine vx_ofW (cc := cc) (maxL := maxL) (ret := ret) hy rfl ?_
  intro p e s m args below meth c s₁ B hml hex hv
  obtain ⟨rfl, hsz, hP, hK, hD0, hT, hX, hE⟩ := hv
  subst hsz
  subst ho
  rw [lg_entry_eq]
  exact body p e s m below meth c _ _ ⟨B.exec, B.bytes, hml, findClass_of_methodNamed B.named, B.notSynchronized, hT, hX, hK, fun q h => Or.inr h, hE⟩ ⟨hP, hD0.self, va_S.rf⟩ B.returns hex (lv_entry av hlen)
section WALK
variable {p : Program} {l : Launch} {e : Env} {R : Room} {s : State} {m : MethodId} {args : Array Value} {below : List Frame} {meth : Method} {c : Code} {H : Heap} {locs : List Loc} {cells slots : Nat} {Q : State → Prop}
variable {cc : ByteArray} {own : String} {nL : Nat} {D : va_G} {E : En} {A : Nat → Prop} {σ : St} {pc : Nat} {ls : Array Slot} {rest : List Value}
theorem fr (C : CX p s m meth c cc own nL D E A) (h : HW D E σ A s H locs) : ∀ q, va_A (wd E σ) H.size q → A q := by
  rintro q (⟨k, x, hk⟩ | hq)
  · exact h.2.1.2 k _ hk
  · exact C.a q (Nat.le_trans h.2.2.1 hq)
theorem pre_at (C : CX p s m meth c cc own nL D E A) (h : HW D E σ A s H locs) (av : List Value) : ∀ U : State, U.heap = H → s.WarmedH U.vm → va_Pc av (PRE D E σ H.size) av.toArray U := by
  intro U hU hW
  have hE : EX A s H := C.ex.kept (fun a q1 q2 => h.2.2.2.1 a q1 q2)
  refine ⟨rfl, by rw [hU], by rw [hU]; exact h.1, C.k.moved hW.alike, h.2.1.weaken (fun _ _ _ _ => trivial), C.tb.moved hW, C.sx.moved hW, ?_⟩
  rw [hU]
  exact (hE.narrow (fr C h)).moved hW.alike
theorem rtI {post : Int32 → St → Prop} {u : St} {v : Int32} {ty : FieldType} (C : CX p s m meth c cc own nL D E A) (h : HW D E u A s H locs) (hr : meth.sig.returnType = some ty) (hn : narrow ty (.int v) = .int v) (dg : decode cc pc = .ok (.ireturn, 1)) (hp : post v u) : W p l e R s m args below meth c H locs cells slots (MQ below (va_Qi post (POB D E A) A) args s cells slots A) (F0 m pc ls [.int v]) :=
  W.zret C.x C.b hr hn (fun t ht hW => ⟨⟨v, u, rfl, hp, by rw [ht]; exact h.1, va_K.moved hW.alike C.k, h.2.1⟩, h.2.2.F ht⟩) h.2.2.2.2 dg C.lk
theorem rtV {post : St → Prop} {u : St} (C : CX p s m meth c cc own nL D E A) (h : HW D E u A s H locs) (hr : meth.sig.returnType = none) (dg : decode cc pc = .ok (.return_, 1)) (hp : post u) : W p l e R s m args below meth c H locs cells slots (MQ below (va_Qv post (POB D E A) A) args s cells slots A) (F0 m pc ls []) :=
  W.vret C.x C.b hr (fun t ht hW => ⟨⟨u, rfl, hp, by rw [ht]; exact h.1, va_K.moved hW.alike C.k, h.2.1⟩, h.2.2.F ht⟩) h.2.2.2.2 dg C.lk
theorem rtD {post : UInt64 → St → Prop} {u : St} {v : UInt64} (C : CX p s m meth c cc own nL D E A) (h : HW D E u A s H locs) (hr : meth.sig.returnType = some .double) (dg : decode cc pc = .ok (.dreturn, 1)) (hp : post v u) : W p l e R s m args below meth c H locs cells slots (MQ below (va_Qd post (POB D E A) A) args s cells slots A) (F0 m pc ls [.double v]) :=
  W.dret C.x C.b hr (fun t ht hW => ⟨⟨v, u, rfl, hp, by rw [ht]; exact h.1, va_K.moved hW.alike C.k, h.2.1⟩, h.2.2.F ht⟩) h.2.2.2.2 dg C.lk
/-- an exception goes on to the caller -/
theorem goX {mc ms : Nat} {Qc : Array Value → State → Outcome → State → Prop} {σ0 : St} {thr k : Nat} {ce : Cell} {q9 : Addr} (C : CX p s m meth c cc own nL D E A) (h : HW D E σ0 A s H locs) (hex : ∀ x ∈ c.exceptionTable.toList, False) (hk : k ≠ 0) (ht : thr = k) (h1 : H[q9]? = some ce) (h2 : ce.vm = .none) (h3 : s.vm.findClass (exn k) = some ce.cls) (hc : cells ≤ mc) (hs : slots ≤ ms) : vx_W p l e R s m args below meth c H locs cells slots (vx_MQ below Qc (XT D E σ0 A thr) args s mc ms A) (F0 m pc ls rest) q9 :=
  vx_out (fun x hx => (hex x hx).elim) C.lk h1 h2 h3 (fun t ht' ha => ⟨k, ⟨hk, ht⟩, ⟨rfl, by rw [ht']; exact h.1, va_K.moved ha C.k, h.2.1⟩, h.2.2.F ht'⟩) h.2.2.2.2 hc hs
section CALL
variable {hls : List (Nat × Value)} {y : MethodName} {bytes : ByteArray} {maxL mc ms index : Nat} {ret : Option FieldType} {rm : Room} {As : List Value} {C9 : String} {T9 : u_T} {N9 b q0 ci thr : Nat} {fs : List Value} {stk : List Value}
/-- what the tables say of a call -/
def CWd (own : String) (index : Nat) (y : MethodName) (bytes : ByteArray) (maxL : Nat) (ret : Option FieldType) (n : Nat) : Prop :=
  Cond.methodLink own index y ∈ wsL_law ∧ Cond.code y bytes maxL ret ∈ wsL_law ∧ Cond.initialized y.cls ∈ wsL_law ∧ (y.cls ≠ "java/lang/invoke/MethodHandle" ∧ y.cls ≠ "java/lang/invoke/VarHandle") ∧ (parseMethodDescriptor y.desc).map (fun d => d.parameters.length) = some n
theorem cwB {n : Nat} (C : CX p s m meth c cc own nL D E A) (w : CWd own index y bytes maxL ret n) (hrc : rm.cells = mc) (hrs : rm.slots = ms) (hR : rm.frames + 1 ≤ R.frames ∧ 8 + (maxL + 11) + rm.locals ≤ R.locals) : CallB R s args own index y bytes maxL ret [.code y bytes maxL ret] rm mc ms n := by
  obtain ⟨w1, w2, w3, w4, w5⟩ := w
  refine ⟨hrc, hrs, hR.1, hR.2, fun w hw a' U hW => ?_, List.mem_singleton.mpr rfl, C.w args w2, C.w args w3, w4, fun sig h => ?_, C.w args w1⟩
  · rw [List.mem_singleton.mp hw]
    exact word_at hW (good_of_word (tb_good _ w2)) (C.w args w2)
  · rw [h] at w5
    exact (Option.some.inj w5).symm
theorem caVi {post : Int32 → St → Prop} (C : CX p s m meth c cc own nL D E A) (h : HW D E σ A s H locs) (hM : CO l y bytes maxL ret rm (.ref b :: As) D E σ (fun A => va_Qi post (POB D E A) A) mc ms) (w : CWd own index y bytes maxL ret As.length) (wi : Cond.instanceMethod y ∈ wsL_law) (wv : Cond.selects C9 y y ∈ wsL_law) (hrc : rm.cells = mc) (hrs : rm.slots = ms) (hR : rm.frames + 1 ≤ R.frames ∧ 8 + (maxL + 11) + rm.locals ≤ R.locals) (he : (wd E σ)[q0]? = some (b, .inr (ci, fs))) (hc : vwCl[ci]? = some (C9, T9, N9)) (hl : lv_has ls nL hls) (hst : stk = As.reverse ++ .ref b :: rest) (hW : (rest.map fun v => v.category).sum ≤ 8) (dg : decode cc pc = .ok (.invokevirtual index, 3)) (hf : cells + mc ≤ R.cells ∧ slots + ms ≤ R.slots)
    (kk : ∀ (r : Int32) (u : St) (H1 : Heap) (locs1 : List Loc), post r u → HW D E u A s H1 locs1 → W p l e R s m args below meth c H1 locs1 (cells + mc) (slots + ms) Q (F0 m (pc + 3) ls (.int r :: rest))) : W p l e R s m args below meth c H locs cells slots Q (F0 m pc ls stk) :=
  va_calli (va_runV ⟨C.x, C.b, C.ml, C.ow, C.tb.args args⟩ (hM H.size) ⟨cwB C w hrc hrs hR, C.w args wi, C.w args wv⟩ ⟨pre_blind, va_recv C.k h.1 hc he, pre_at C h _⟩ rfl rfl hl.1 hst (lv_room hW) dg hf) h.2.2 (fun q _ => fr C h q) (fr C h)
    (fun r u t H1 locs1 ht hvm hw hB hz hk hS => kk r u H1 locs1 hw ⟨by rw [← ht]; exact hB.1, hB.2.2.weaken (fun _ _ _ q => fr C h _ q), hS⟩)
theorem cxVi {post : Int32 → St → Prop} (C : CX p s m meth c cc own nL D E A) (h : HW D E σ A s H locs) (hM : CT l y bytes maxL ret rm (.ref b :: As) D E σ (fun A => va_Qi post (POB D E A) A) thr mc ms) (w : CWd own index y bytes maxL ret As.length) (wi : Cond.instanceMethod y ∈ wsL_law) (wv : Cond.selects C9 y y ∈ wsL_law) (hrc : rm.cells = mc) (hrs : rm.slots = ms) (hR : rm.frames + 1 ≤ R.frames ∧ 8 + (maxL + 11) + rm.locals ≤ R.locals) (he : (wd E σ)[q0]? = some (b, .inr (ci, fs))) (hc : vwCl[ci]? = some (C9, T9, N9)) (hl : lv_has ls nL hls) (hst : stk = As.reverse ++ .ref b :: rest) (hW : (rest.map fun v => v.category).sum ≤ 8) (dg : decode cc pc = .ok (.invokevirtual index, 3)) (hf : cells + mc ≤ R.cells ∧ slots + ms ≤ R.slots)
    (kx : ∀ (k : Nat) (ce : Cell) (q9 : Addr) (H1 : Heap) (locs1 : List Loc), k ≠ 0 → thr = k → HW D E σ A s H1 locs1 → H1[q9]? = some ce → ce.vm = .none → s.vm.findClass (exn k) = some ce.cls → vx_W p l e R s m args below meth c H1 locs1 (cells + mc) (slots + ms) Q (F0 m pc ls rest) q9)
    (kk : ∀ (r : Int32) (u : St) (H1 : Heap) (locs1 : List Loc), post r u → HW D E u A s H1 locs1 → W p l e R s m args below meth c H1 locs1 (cells + mc) (slots + ms) Q (F0 m (pc + 3) ls (.int r :: rest))) : W p l e R s m args below meth c H locs cells slots Q (F0 m pc ls stk) :=
  vx_calli (vx_runV ⟨C.x, C.b, C.ml, C.ow, C.tb.args args⟩ (hM H.size) ⟨cwB C w hrc hrs hR, C.w args wi, C.w args wv⟩ ⟨pre_blind, va_recv C.k h.1 hc he, pre_at C h _⟩ rfl rfl hl.1 hst (lv_room hW) dg hf) h.2.2 (fun q _ => fr C h q) (fr C h) (fun q _ => fr C h q)
    (fun X ce q9 k t H1 locs1 ht hvm hw hB hz hk hS h1 h2 h3 => by
      obtain ⟨hX, hP, hK, hD⟩ := hB
      subst hX
      exact kx k ce q9 H1 locs1 hw.1 hw.2 ⟨by rw [← ht]; exact hP, hD.weaken (fun _ _ _ q => fr C h _ q), hS⟩ h1 h2 h3)
    (fun r u t H1 locs1 ht hvm hw hB hz hk hS => kk r u H1 locs1 hw ⟨by rw [← ht]; exact hB.1, hB.2.2.weaken (fun _ _ _ q => fr C h _ q), hS⟩)
theorem caVv {post : St → Prop} (C : CX p s m meth c cc own nL D E A) (h : HW D E σ A s H locs) (hM : CO l y bytes maxL ret rm (.ref b :: As) D E σ (fun A => va_Qv post (POB D E A) A) mc ms) (w : CWd own index y bytes maxL ret As.length) (wi : Cond.instanceMethod y ∈ wsL_law) (wv : Cond.selects C9 y y ∈ wsL_law) (hrc : rm.cells = mc) (hrs : rm.slots = ms) (hR : rm.frames + 1 ≤ R.frames ∧ 8 + (maxL + 11) + rm.locals ≤ R.locals) (he : (wd E σ)[q0]? = some (b, .inr (ci, fs))) (hc : vwCl[ci]? = some (C9, T9, N9)) (hl : lv_has ls nL hls) (hst : stk = As.reverse ++ .ref b :: rest) (hW : (rest.map fun v => v.category).sum ≤ 8) (dg : decode cc pc = .ok (.invokevirtual index, 3)) (hf : cells + mc ≤ R.cells ∧ slots + ms ≤ R.slots)
    (kk : ∀ (u : St) (H1 : Heap) (locs1 : List Loc), post u → HW D E u A s H1 locs1 → W p l e R s m args below meth c H1 locs1 (cells + mc) (slots + ms) Q (F0 m (pc + 3) ls (rest))) : W p l e R s m args below meth c H locs cells slots Q (F0 m pc ls stk) :=
  va_callv (va_runV ⟨C.x, C.b, C.ml, C.ow, C.tb.args args⟩ (hM H.size) ⟨cwB C w hrc hrs hR, C.w args wi, C.w args wv⟩ ⟨pre_blind, va_recv C.k h.1 hc he, pre_at C h _⟩ rfl rfl hl.1 hst (lv_room hW) dg hf) h.2.2 (fun q _ => fr C h q) (fr C h)
    (fun u t H1 locs1 ht hvm hw hB hz hk hS => kk u H1 locs1 hw ⟨by rw [← ht]; exact hB.1, hB.2.2.weaken (fun _ _ _ q => fr C h _ q), hS⟩)
theorem cxVv {post : St → Prop} (C : CX p s m meth c cc own nL D E A) (h : HW D E σ A s H locs) (hM : CT l y bytes maxL ret rm (.ref b :: As) D E σ (fun A => va_Qv post (POB D E A) A) thr mc ms) (w : CWd own index y bytes maxL ret As.length) (wi : Cond.instanceMethod y ∈ wsL_law) (wv : Cond.selects C9 y y ∈ wsL_law) (hrc : rm.cells = mc) (hrs : rm.slots = ms) (hR : rm.frames + 1 ≤ R.frames ∧ 8 + (maxL + 11) + rm.locals ≤ R.locals) (he : (wd E σ)[q0]? = some (b, .inr (ci, fs))) (hc : vwCl[ci]? = some (C9, T9, N9)) (hl : lv_has ls nL hls) (hst : stk = As.reverse ++ .ref b :: rest) (hW : (rest.map fun v => v.category).sum ≤ 8) (dg : decode cc pc = .ok (.invokevirtual index, 3)) (hf : cells + mc ≤ R.cells ∧ slots + ms ≤ R.slots)
    (kx : ∀ (k : Nat) (ce : Cell) (q9 : Addr) (H1 : Heap) (locs1 : List Loc), k ≠ 0 → thr = k → HW D E σ A s H1 locs1 → H1[q9]? = some ce → ce.vm = .none → s.vm.findClass (exn k) = some ce.cls → vx_W p l e R s m args below meth c H1 locs1 (cells + mc) (slots + ms) Q (F0 m pc ls rest) q9)
    (kk : ∀ (u : St) (H1 : Heap) (locs1 : List Loc), post u → HW D E u A s H1 locs1 → W p l e R s m args below meth c H1 locs1 (cells + mc) (slots + ms) Q (F0 m (pc + 3) ls (rest))) : W p l e R s m args below meth c H locs cells slots Q (F0 m pc ls stk) :=
  vx_callv (vx_runV ⟨C.x, C.b, C.ml, C.ow, C.tb.args args⟩ (hM H.size) ⟨cwB C w hrc hrs hR, C.w args wi, C.w args wv⟩ ⟨pre_blind, va_recv C.k h.1 hc he, pre_at C h _⟩ rfl rfl hl.1 hst (lv_room hW) dg hf) h.2.2 (fun q _ => fr C h q) (fr C h) (fun q _ => fr C h q)
    (fun X ce q9 k t H1 locs1 ht hvm hw hB hz hk hS h1 h2 h3 => by
      obtain ⟨hX, hP, hK, hD⟩ := hB
      subst hX
      exact kx k ce q9 H1 locs1 hw.1 hw.2 ⟨by rw [← ht]; exact hP, hD.weaken (fun _ _ _ q => fr C h _ q), hS⟩ h1 h2 h3)
    (fun u t H1 locs1 ht hvm hw hB hz hk hS => kk u H1 locs1 hw ⟨by rw [← ht]; exact hB.1, hB.2.2.weaken (fun _ _ _ q => fr C h _ q), hS⟩)
theorem caVd {post : UInt64 → St → Prop} (C : CX p s m meth c cc own nL D E A) (h : HW D E σ A s H locs) (hM : CO l y bytes maxL ret rm (.ref b :: As) D E σ (fun A => va_Qd post (POB D E A) A) mc ms) (w : CWd own index y bytes maxL ret As.length) (wi : Cond.instanceMethod y ∈ wsL_law) (wv : Cond.selects C9 y y ∈ wsL_law) (hrc : rm.cells = mc) (hrs : rm.slots = ms) (hR : rm.frames + 1 ≤ R.frames ∧ 8 + (maxL + 11) + rm.locals ≤ R.locals) (he : (wd E σ)[q0]? = some (b, .inr (ci, fs))) (hc : vwCl[ci]? = some (C9, T9, N9)) (hl : lv_has ls nL hls) (hst : stk = As.reverse ++ .ref b :: rest) (hW : (rest.map fun v => v.category).sum ≤ 8) (dg : decode cc pc = .ok (.invokevirtual index, 3)) (hf : cells + mc ≤ R.cells ∧ slots + ms ≤ R.slots)
    (kk : ∀ (r : UInt64) (u : St) (H1 : Heap) (locs1 : List Loc), post r u → HW D E u A s H1 locs1 → W p l e R s m args below meth c H1 locs1 (cells + mc) (slots + ms) Q (F0 m (pc + 3) ls (.double r :: rest))) : W p l e R s m args below meth c H locs cells slots Q (F0 m pc ls stk) :=
  va_calld (va_runV ⟨C.x, C.b, C.ml, C.ow, C.tb.args args⟩ (hM H.size) ⟨cwB C w hrc hrs hR, C.w args wi, C.w args wv⟩ ⟨pre_blind, va_recv C.k h.1 hc he, pre_at C h _⟩ rfl rfl hl.1 hst (lv_room hW) dg hf) h.2.2 (fun q _ => fr C h q) (fr C h)
    (fun r u t H1 locs1 ht hvm hw hB hz hk hS => kk r u H1 locs1 hw ⟨by rw [← ht]; exact hB.1, hB.2.2.weaken (fun _ _ _ q => fr C h _ q), hS⟩)
theorem cxVd {post : UInt64 → St → Prop} (C : CX p s m meth c cc own nL D E A) (h : HW D E σ A s H locs) (hM : CT l y bytes maxL ret rm (.ref b :: As) D E σ (fun A => va_Qd post (POB D E A) A) thr mc ms) (w : CWd own index y bytes maxL ret As.length) (wi : Cond.instanceMethod y ∈ wsL_law) (wv : Cond.selects C9 y y ∈ wsL_law) (hrc : rm.cells = mc) (hrs : rm.slots = ms) (hR : rm.frames + 1 ≤ R.frames ∧ 8 + (maxL + 11) + rm.locals ≤ R.locals) (he : (wd E σ)[q0]? = some (b, .inr (ci, fs))) (hc : vwCl[ci]? = some (C9, T9, N9)) (hl : lv_has ls nL hls) (hst : stk = As.reverse ++ .ref b :: rest) (hW : (rest.map fun v => v.category).sum ≤ 8) (dg : decode cc pc = .ok (.invokevirtual index, 3)) (hf : cells + mc ≤ R.cells ∧ slots + ms ≤ R.slots)
    (kx : ∀ (k : Nat) (ce : Cell) (q9 : Addr) (H1 : Heap) (locs1 : List Loc), k ≠ 0 → thr = k → HW D E σ A s H1 locs1 → H1[q9]? = some ce → ce.vm = .none → s.vm.findClass (exn k) = some ce.cls → vx_W p l e R s m args below meth c H1 locs1 (cells + mc) (slots + ms) Q (F0 m pc ls rest) q9)
    (kk : ∀ (r : UInt64) (u : St) (H1 : Heap) (locs1 : List Loc), post r u → HW D E u A s H1 locs1 → W p l e R s m args below meth c H1 locs1 (cells + mc) (slots + ms) Q (F0 m (pc + 3) ls (.double r :: rest))) : W p l e R s m args below meth c H locs cells slots Q (F0 m pc ls stk) :=
  vx_calld (vx_runV ⟨C.x, C.b, C.ml, C.ow, C.tb.args args⟩ (hM H.size) ⟨cwB C w hrc hrs hR, C.w args wi, C.w args wv⟩ ⟨pre_blind, va_recv C.k h.1 hc he, pre_at C h _⟩ rfl rfl hl.1 hst (lv_room hW) dg hf) h.2.2 (fun q _ => fr C h q) (fr C h) (fun q _ => fr C h q)
    (fun X ce q9 k t H1 locs1 ht hvm hw hB hz hk hS h1 h2 h3 => by
      obtain ⟨hX, hP, hK, hD⟩ := hB
      subst hX
      exact kx k ce q9 H1 locs1 hw.1 hw.2 ⟨by rw [← ht]; exact hP, hD.weaken (fun _ _ _ q => fr C h _ q), hS⟩ h1 h2 h3)
    (fun r u t H1 locs1 ht hvm hw hB hz hk hS => kk r u H1 locs1 hw ⟨by rw [← ht]; exact hB.1, hB.2.2.weaken (fun _ _ _ q => fr C h _ q), hS⟩)
theorem caSi {post : Int32 → St → Prop} (C : CX p s m meth c cc own nL D E A) (h : HW D E σ A s H locs) (hM : CO l y bytes maxL ret rm As D E σ (fun A => va_Qi post (POB D E A) A) mc ms) (w : CWd own index y bytes maxL ret As.length) (wi : Cond.static y ∈ wsL_law) (hrc : rm.cells = mc) (hrs : rm.slots = ms) (hR : rm.frames + 1 ≤ R.frames ∧ 8 + (maxL + 11) + rm.locals ≤ R.locals) (hl : lv_has ls nL hls) (hst : stk = As.reverse ++ rest) (hW : (rest.map fun v => v.category).sum ≤ 8) (dg : decode cc pc = .ok (.invokestatic index, 3)) (hf : cells + mc ≤ R.cells ∧ slots + ms ≤ R.slots)
    (kk : ∀ (r : Int32) (u : St) (H1 : Heap) (locs1 : List Loc), post r u → HW D E u A s H1 locs1 → W p l e R s m args below meth c H1 locs1 (cells + mc) (slots + ms) Q (F0 m (pc + 3) ls (.int r :: rest))) : W p l e R s m args below meth c H locs cells slots Q (F0 m pc ls stk) :=
  va_calli (va_runS ⟨C.x, C.b, C.ml, C.ow, C.tb.args args⟩ (hM H.size) ⟨cwB C w hrc hrs hR, C.w args wi⟩ ⟨pre_blind, pre_at C h _⟩ rfl rfl hl.1 hst (lv_room hW) dg hf) h.2.2 (fun q _ => fr C h q) (fr C h)
    (fun r u t H1 locs1 ht hvm hw hB hz hk hS => kk r u H1 locs1 hw ⟨by rw [← ht]; exact hB.1, hB.2.2.weaken (fun _ _ _ q => fr C h _ q), hS⟩)
theorem cxSi {post : Int32 → St → Prop} (C : CX p s m meth c cc own nL D E A) (h : HW D E σ A s H locs) (hM : CT l y bytes maxL ret rm As D E σ (fun A => va_Qi post (POB D E A) A) thr mc ms) (w : CWd own index y bytes maxL ret As.length) (wi : Cond.static y ∈ wsL_law) (hrc : rm.cells = mc) (hrs : rm.slots = ms) (hR : rm.frames + 1 ≤ R.frames ∧ 8 + (maxL + 11) + rm.locals ≤ R.locals) (hl : lv_has ls nL hls) (hst : stk = As.reverse ++ rest) (hW : (rest.map fun v => v.category).sum ≤ 8) (dg : decode cc pc = .ok (.invokestatic index, 3)) (hf : cells + mc ≤ R.cells ∧ slots + ms ≤ R.slots)
    (kx : ∀ (k : Nat) (ce : Cell) (q9 : Addr) (H1 : Heap) (locs1 : List Loc), k ≠ 0 → thr = k → HW D E σ A s H1 locs1 → H1[q9]? = some ce → ce.vm = .none → s.vm.findClass (exn k) = some ce.cls → vx_W p l e R s m args below meth c H1 locs1 (cells + mc) (slots + ms) Q (F0 m pc ls rest) q9)
    (kk : ∀ (r : Int32) (u : St) (H1 : Heap) (locs1 : List Loc), post r u → HW D E u A s H1 locs1 → W p l e R s m args below meth c H1 locs1 (cells + mc) (slots + ms) Q (F0 m (pc + 3) ls (.int r :: rest))) : W p l e R s m args below meth c H locs cells slots Q (F0 m pc ls stk) :=
  vx_calli (vx_runS ⟨C.x, C.b, C.ml, C.ow, C.tb.args args⟩ (hM H.size) ⟨cwB C w hrc hrs hR, C.w args wi⟩ ⟨pre_blind, pre_at C h _⟩ rfl rfl hl.1 hst (lv_room hW) dg hf) h.2.2 (fun q _ => fr C h q) (fr C h) (fun q _ => fr C h q)
    (fun X ce q9 k t H1 locs1 ht hvm hw hB hz hk hS h1 h2 h3 => by
      obtain ⟨hX, hP, hK, hD⟩ := hB
      subst hX
      exact kx k ce q9 H1 locs1 hw.1 hw.2 ⟨by rw [← ht]; exact hP, hD.weaken (fun _ _ _ q => fr C h _ q), hS⟩ h1 h2 h3)
    (fun r u t H1 locs1 ht hvm hw hB hz hk hS => kk r u H1 locs1 hw ⟨by rw [← ht]; exact hB.1, hB.2.2.weaken (fun _ _ _ q => fr C h _ q), hS⟩)
theorem caSv {post : St → Prop} (C : CX p s m meth c cc own nL D E A) (h : HW D E σ A s H locs) (hM : CO l y bytes maxL ret rm As D E σ (fun A => va_Qv post (POB D E A) A) mc ms) (w : CWd own index y bytes maxL ret As.length) (wi : Cond.static y ∈ wsL_law) (hrc : rm.cells = mc) (hrs : rm.slots = ms) (hR : rm.frames + 1 ≤ R.frames ∧ 8 + (maxL + 11) + rm.locals ≤ R.locals) (hl : lv_has ls nL hls) (hst : stk = As.reverse ++ rest) (hW : (rest.map fun v => v.category).sum ≤ 8) (dg : decode cc pc = .ok (.invokestatic index, 3)) (hf : cells + mc ≤ R.cells ∧ slots + ms ≤ R.slots)
    (kk : ∀ (u : St) (H1 : Heap) (locs1 : List Loc), post u → HW D E u A s H1 locs1 → W p l e R s m args below meth c H1 locs1 (cells + mc) (slots + ms) Q (F0 m (pc + 3) ls (rest))) : W p l e R s m args below meth c H locs cells slots Q (F0 m pc ls stk) :=
  va_callv (va_runS ⟨C.x, C.b, C.ml, C.ow, C.tb.args args⟩ (hM H.size) ⟨cwB C w hrc hrs hR, C.w args wi⟩ ⟨pre_blind, pre_at C h _⟩ rfl rfl hl.1 hst (lv_room hW) dg hf) h.2.2 (fun q _ => fr C h q) (fr C h)
    (fun u t H1 locs1 ht hvm hw hB hz hk hS => kk u H1 locs1 hw ⟨by rw [← ht]; exact hB.1, hB.2.2.weaken (fun _ _ _ q => fr C h _ q), hS⟩)
theorem cxSv {post : St → Prop} (C : CX p s m meth c cc own nL D E A) (h : HW D E σ A s H locs) (hM : CT l y bytes maxL ret rm As D E σ (fun A => va_Qv post (POB D E A) A) thr mc ms) (w : CWd own index y bytes maxL ret As.length) (wi : Cond.static y ∈ wsL_law) (hrc : rm.cells = mc) (hrs : rm.slots = ms) (hR : rm.frames + 1 ≤ R.frames ∧ 8 + (maxL + 11) + rm.locals ≤ R.locals) (hl : lv_has ls nL hls) (hst : stk = As.reverse ++ rest) (hW : (rest.map fun v => v.category).sum ≤ 8) (dg : decode cc pc = .ok (.invokestatic index, 3)) (hf : cells + mc ≤ R.cells ∧ slots + ms ≤ R.slots)
    (kx : ∀ (k : Nat) (ce : Cell) (q9 : Addr) (H1 : Heap) (locs1 : List Loc), k ≠ 0 → thr = k → HW D E σ A s H1 locs1 → H1[q9]? = some ce → ce.vm = .none → s.vm.findClass (exn k) = some ce.cls → vx_W p l e R s m args below meth c H1 locs1 (cells + mc) (slots + ms) Q (F0 m pc ls rest) q9)
    (kk : ∀ (u : St) (H1 : Heap) (locs1 : List Loc), post u → HW D E u A s H1 locs1 → W p l e R s m args below meth c H1 locs1 (cells + mc) (slots + ms) Q (F0 m (pc + 3) ls (rest))) : W p l e R s m args below meth c H locs cells slots Q (F0 m pc ls stk) :=
  vx_callv (vx_runS ⟨C.x, C.b, C.ml, C.ow, C.tb.args args⟩ (hM H.size) ⟨cwB C w hrc hrs hR, C.w args wi⟩ ⟨pre_blind, pre_at C h _⟩ rfl rfl hl.1 hst (lv_room hW) dg hf) h.2.2 (fun q _ => fr C h q) (fr C h) (fun q _ => fr C h q)
    (fun X ce q9 k t H1 locs1 ht hvm hw hB hz hk hS h1 h2 h3 => by
      obtain ⟨hX, hP, hK, hD⟩ := hB
      subst hX
      exact kx k ce q9 H1 locs1 hw.1 hw.2 ⟨by rw [← ht]; exact hP, hD.weaken (fun _ _ _ q => fr C h _ q), hS⟩ h1 h2 h3)
    (fun u t H1 locs1 ht hvm hw hB hz hk hS => kk u H1 locs1 hw ⟨by rw [← ht]; exact hB.1, hB.2.2.weaken (fun _ _ _ q => fr C h _ q), hS⟩)
theorem caSd {post : UInt64 → St → Prop} (C : CX p s m meth c cc own nL D E A) (h : HW D E σ A s H locs) (hM : CO l y bytes maxL ret rm As D E σ (fun A => va_Qd post (POB D E A) A) mc ms) (w : CWd own index y bytes maxL ret As.length) (wi : Cond.static y ∈ wsL_law) (hrc : rm.cells = mc) (hrs : rm.slots = ms) (hR : rm.frames + 1 ≤ R.frames ∧ 8 + (maxL + 11) + rm.locals ≤ R.locals) (hl : lv_has ls nL hls) (hst : stk = As.reverse ++ rest) (hW : (rest.map fun v => v.category).sum ≤ 8) (dg : decode cc pc = .ok (.invokestatic index, 3)) (hf : cells + mc ≤ R.cells ∧ slots + ms ≤ R.slots)
    (kk : ∀ (r : UInt64) (u : St) (H1 : Heap) (locs1 : List Loc), post r u → HW D E u A s H1 locs1 → W p l e R s m args below meth c H1 locs1 (cells + mc) (slots + ms) Q (F0 m (pc + 3) ls (.double r :: rest))) : W p l e R s m args below meth c H locs cells slots Q (F0 m pc ls stk) :=
  va_calld (va_runS ⟨C.x, C.b, C.ml, C.ow, C.tb.args args⟩ (hM H.size) ⟨cwB C w hrc hrs hR, C.w args wi⟩ ⟨pre_blind, pre_at C h _⟩ rfl rfl hl.1 hst (lv_room hW) dg hf) h.2.2 (fun q _ => fr C h q) (fr C h)
    (fun r u t H1 locs1 ht hvm hw hB hz hk hS => kk r u H1 locs1 hw ⟨by rw [← ht]; exact hB.1, hB.2.2.weaken (fun _ _ _ q => fr C h _ q), hS⟩)
theorem cxSd {post : UInt64 → St → Prop} (C : CX p s m meth c cc own nL D E A) (h : HW D E σ A s H locs) (hM : CT l y bytes maxL ret rm As D E σ (fun A => va_Qd post (POB D E A) A) thr mc ms) (w : CWd own index y bytes maxL ret As.length) (wi : Cond.static y ∈ wsL_law) (hrc : rm.cells = mc) (hrs : rm.slots = ms) (hR : rm.frames + 1 ≤ R.frames ∧ 8 + (maxL + 11) + rm.locals ≤ R.locals) (hl : lv_has ls nL hls) (hst : stk = As.reverse ++ rest) (hW : (rest.map fun v => v.category).sum ≤ 8) (dg : decode cc pc = .ok (.invokestatic index, 3)) (hf : cells + mc ≤ R.cells ∧ slots + ms ≤ R.slots)
    (kx : ∀ (k : Nat) (ce : Cell) (q9 : Addr) (H1 : Heap) (locs1 : List Loc), k ≠ 0 → thr = k → HW D E σ A s H1 locs1 → H1[q9]? = some ce → ce.vm = .none → s.vm.findClass (exn k) = some ce.cls → vx_W p l e R s m args below meth c H1 locs1 (cells + mc) (slots + ms) Q (F0 m pc ls rest) q9)
    (kk : ∀ (r : UInt64) (u : St) (H1 : Heap) (locs1 : List Loc), post r u → HW D E u A s H1 locs1 → W p l e R s m args below meth c H1 locs1 (cells + mc) (slots + ms) Q (F0 m (pc + 3) ls (.double r :: rest))) : W p l e R s m args below meth c H locs cells slots Q (F0 m pc ls stk) :=
  vx_calld (vx_runS ⟨C.x, C.b, C.ml, C.ow, C.tb.args args⟩ (hM H.size) ⟨cwB C w hrc hrs hR, C.w args wi⟩ ⟨pre_blind, pre_at C h _⟩ rfl rfl hl.1 hst (lv_room hW) dg hf) h.2.2 (fun q _ => fr C h q) (fr C h) (fun q _ => fr C h q)
    (fun X ce q9 k t H1 locs1 ht hvm hw hB hz hk hS h1 h2 h3 => by
      obtain ⟨hX, hP, hK, hD⟩ := hB
      subst hX
      exact kx k ce q9 H1 locs1 hw.1 hw.2 ⟨by rw [← ht]; exact hP, hD.weaken (fun _ _ _ q => fr C h _ q), hS⟩ h1 h2 h3)
    (fun r u t H1 locs1 ht hvm hw hB hz hk hS => kk r u H1 locs1 hw ⟨by rw [← ht]; exact hB.1, hB.2.2.weaken (fun _ _ _ q => fr C h _ q), hS⟩)
end CALL
end WALK
end
section
/-! reading and writing our world (by program) -/
theorem wset_25 {E : En} {σ : St} (v : Int32) {k : Nat} (hk : k < en E) : (wd E σ).set (37 + k) (ead E (37 + k), .inr (0, [.int v, .int (σ 26 k), .int (σ 27 k), .int (σ 28 k), .int (σ 29 k), .int (σ 30 k), .int (σ 31 k), .int (σ 32 k), .int (σ 33 k), .int (σ 34 k), .int (σ 35 k), .int (σ 36 k)])) = wd E (up2 σ 25 k v) := by
  refine wd_setk rfl ?_ (fun j hj => ?_)
  · simp only [wair, up2_s]
    rfl
  · simp only [wair, up2_i hj]
theorem wset_26 {E : En} {σ : St} (v : Int32) {k : Nat} (hk : k < en E) : (wd E σ).set (37 + k) (ead E (37 + k), .inr (0, [.int (σ 25 k), .int v, .int (σ 27 k), .int (σ 28 k), .int (σ 29 k), .int (σ 30 k), .int (σ 31 k), .int (σ 32 k), .int (σ 33 k), .int (σ 34 k), .int (σ 35 k), .int (σ 36 k)])) = wd E (up2 σ 26 k v) := by
  refine wd_setk rfl ?_ (fun j hj => ?_)
  · simp only [wair, up2_s]
    rfl
  · simp only [wair, up2_i hj]
theorem wset_27 {E : En} {σ : St} (v : Int32) {k : Nat} (hk : k < en E) : (wd E σ).set (37 + k) (ead E (37 + k), .inr (0, [.int (σ 25 k), .int (σ 26 k), .int v, .int (σ 28 k), .int (σ 29 k), .int (σ 30 k), .int (σ 31 k), .int (σ 32 k), .int (σ 33 k), .int (σ 34 k), .int (σ 35 k), .int (σ 36 k)])) = wd E (up2 σ 27 k v) := by
  refine wd_setk rfl ?_ (fun j hj => ?_)
  · simp only [wair, up2_s]
    rfl
  · simp only [wair, up2_i hj]
theorem wset_28 {E : En} {σ : St} (v : Int32) {k : Nat} (hk : k < en E) : (wd E σ).set (37 + k) (ead E (37 + k), .inr (0, [.int (σ 25 k), .int (σ 26 k), .int (σ 27 k), .int v, .int (σ 29 k), .int (σ 30 k), .int (σ 31 k), .int (σ 32 k), .int (σ 33 k), .int (σ 34 k), .int (σ 35 k), .int (σ 36 k)])) = wd E (up2 σ 28 k v) := by
  refine wd_setk rfl ?_ (fun j hj => ?_)
  · simp only [wair, up2_s]
    rfl
  · simp only [wair, up2_i hj]
theorem wset_29 {E : En} {σ : St} (v : Int32) {k : Nat} (hk : k < en E) : (wd E σ).set (37 + k) (ead E (37 + k), .inr (0, [.int (σ 25 k), .int (σ 26 k), .int (σ 27 k), .int (σ 28 k), .int v, .int (σ 30 k), .int (σ 31 k), .int (σ 32 k), .int (σ 33 k), .int (σ 34 k), .int (σ 35 k), .int (σ 36 k)])) = wd E (up2 σ 29 k v) := by
  refine wd_setk rfl ?_ (fun j hj => ?_)
  · simp only [wair, up2_s]
    rfl
  · simp only [wair, up2_i hj]
theorem wset_30 {E : En} {σ : St} (v : Int32) {k : Nat} (hk : k < en E) : (wd E σ).set (37 + k) (ead E (37 + k), .inr (0, [.int (σ 25 k), .int (σ 26 k), .int (σ 27 k), .int (σ 28 k), .int (σ 29 k), .int v, .int (σ 31 k), .int (σ 32 k), .int (σ 33 k), .int (σ 34 k), .int (σ 35 k), .int (σ 36 k)])) = wd E (up2 σ 30 k v) := by
  refine wd_setk rfl ?_ (fun j hj => ?_)
  · simp only [wair, up2_s]
    rfl
  · simp only [wair, up2_i hj]
theorem wset_31 {E : En} {σ : St} (v : Int32) {k : Nat} (hk : k < en E) : (wd E σ).set (37 + k) (ead E (37 + k), .inr (0, [.int (σ 25 k), .int (σ 26 k), .int (σ 27 k), .int (σ 28 k), .int (σ 29 k), .int (σ 30 k), .int v, .int (σ 32 k), .int (σ 33 k), .int (σ 34 k), .int (σ 35 k), .int (σ 36 k)])) = wd E (up2 σ 31 k v) := by
  refine wd_setk rfl ?_ (fun j hj => ?_)
  · simp only [wair, up2_s]
    rfl
  · simp only [wair, up2_i hj]
theorem wset_32 {E : En} {σ : St} (v : Int32) {k : Nat} (hk : k < en E) : (wd E σ).set (37 + k) (ead E (37 + k), .inr (0, [.int (σ 25 k), .int (σ 26 k), .int (σ 27 k), .int (σ 28 k), .int (σ 29 k), .int (σ 30 k), .int (σ 31 k), .int v, .int (σ 33 k), .int (σ 34 k), .int (σ 35 k), .int (σ 36 k)])) = wd E (up2 σ 32 k v) := by
  refine wd_setk rfl ?_ (fun j hj => ?_)
  · simp only [wair, up2_s]
    rfl
  · simp only [wair, up2_i hj]
theorem wset_33 {E : En} {σ : St} (v : Int32) {k : Nat} (hk : k < en E) : (wd E σ).set (37 + k) (ead E (37 + k), .inr (0, [.int (σ 25 k), .int (σ 26 k), .int (σ 27 k), .int (σ 28 k), .int (σ 29 k), .int (σ 30 k), .int (σ 31 k), .int (σ 32 k), .int v, .int (σ 34 k), .int (σ 35 k), .int (σ 36 k)])) = wd E (up2 σ 33 k v) := by
  refine wd_setk rfl ?_ (fun j hj => ?_)
  · simp only [wair, up2_s]
    rfl
  · simp only [wair, up2_i hj]
theorem wset_34 {E : En} {σ : St} (v : Int32) {k : Nat} (hk : k < en E) : (wd E σ).set (37 + k) (ead E (37 + k), .inr (0, [.int (σ 25 k), .int (σ 26 k), .int (σ 27 k), .int (σ 28 k), .int (σ 29 k), .int (σ 30 k), .int (σ 31 k), .int (σ 32 k), .int (σ 33 k), .int v, .int (σ 35 k), .int (σ 36 k)])) = wd E (up2 σ 34 k v) := by
  refine wd_setk rfl ?_ (fun j hj => ?_)
  · simp only [wair, up2_s]
    rfl
  · simp only [wair, up2_i hj]
theorem wset_35 {E : En} {σ : St} (v : Int32) {k : Nat} (hk : k < en E) : (wd E σ).set (37 + k) (ead E (37 + k), .inr (0, [.int (σ 25 k), .int (σ 26 k), .int (σ 27 k), .int (σ 28 k), .int (σ 29 k), .int (σ 30 k), .int (σ 31 k), .int (σ 32 k), .int (σ 33 k), .int (σ 34 k), .int v, .int (σ 36 k)])) = wd E (up2 σ 35 k v) := by
  refine wd_setk rfl ?_ (fun j hj => ?_)
  · simp only [wair, up2_s]
    rfl
  · simp only [wair, up2_i hj]
theorem wset_36 {E : En} {σ : St} (v : Int32) {k : Nat} (hk : k < en E) : (wd E σ).set (37 + k) (ead E (37 + k), .inr (0, [.int (σ 25 k), .int (σ 26 k), .int (σ 27 k), .int (σ 28 k), .int (σ 29 k), .int (σ 30 k), .int (σ 31 k), .int (σ 32 k), .int (σ 33 k), .int (σ 34 k), .int (σ 35 k), .int v])) = wd E (up2 σ 36 k v) := by
  refine wd_setk rfl ?_ (fun j hj => ?_)
  · simp only [wair, up2_s]
    rfl
  · simp only [wair, up2_i hj]
theorem wset_19 {E : En} {σ : St} (v : Int32) : (wd E σ).set 13 (ead E 13, .inr (1, [.int v, .int (σ 20 0), .int (σ 21 0), .int (σ 22 0), .int (σ 23 0), .int (σ 24 0)])) = wd E (up2 σ 19 0 v) := rfl
theorem wset_20 {E : En} {σ : St} (v : Int32) : (wd E σ).set 13 (ead E 13, .inr (1, [.int (σ 19 0), .int v, .int (σ 21 0), .int (σ 22 0), .int (σ 23 0), .int (σ 24 0)])) = wd E (up2 σ 20 0 v) := rfl
theorem wset_21 {E : En} {σ : St} (v : Int32) : (wd E σ).set 13 (ead E 13, .inr (1, [.int (σ 19 0), .int (σ 20 0), .int v, .int (σ 22 0), .int (σ 23 0), .int (σ 24 0)])) = wd E (up2 σ 21 0 v) := rfl
theorem wset_22 {E : En} {σ : St} (v : Int32) : (wd E σ).set 13 (ead E 13, .inr (1, [.int (σ 19 0), .int (σ 20 0), .int (σ 21 0), .int v, .int (σ 23 0), .int (σ 24 0)])) = wd E (up2 σ 22 0 v) := rfl
theorem wset_23 {E : En} {σ : St} (v : Int32) : (wd E σ).set 13 (ead E 13, .inr (1, [.int (σ 19 0), .int (σ 20 0), .int (σ 21 0), .int (σ 22 0), .int v, .int (σ 24 0)])) = wd E (up2 σ 23 0 v) := rfl
theorem wset_24 {E : En} {σ : St} (v : Int32) : (wd E σ).set 13 (ead E 13, .inr (1, [.int (σ 19 0), .int (σ 20 0), .int (σ 21 0), .int (σ 22 0), .int (σ 23 0), .int v])) = wd E (up2 σ 24 0 v) := rfl
theorem wset_18 {E : En} {σ : St} (v : Int32) : (wd E σ).set 7 (ead E 7, .inr (2, [.ref (ead E 8), .ref (ead E 9), .int v])) = wd E (up2 σ 18 0 v) := rfl
theorem wset_6 {E : En} {σ : St} (v : Int32) : (wd E σ).set 2 (ead E 2, .inr (3, [.ref (ead E 3), .int v, .int (σ 7 0), .int (σ 8 0)])) = wd E (up2 σ 6 0 v) := rfl
theorem wset_7 {E : En} {σ : St} (v : Int32) : (wd E σ).set 2 (ead E 2, .inr (3, [.ref (ead E 3), .int (σ 6 0), .int v, .int (σ 8 0)])) = wd E (up2 σ 7 0 v) := rfl
theorem wset_8 {E : En} {σ : St} (v : Int32) : (wd E σ).set 2 (ead E 2, .inr (3, [.ref (ead E 3), .int (σ 6 0), .int (σ 7 0), .int v])) = wd E (up2 σ 8 0 v) := rfl
theorem wset_9 {E : En} {σ : St} (v : Int32) {t : Nat} (ht : t < 3) : (wd E σ).set (4 + t) (ead E (4 + t), .inr (4, [.int v, .int (σ 10 t), .int (σ 11 t), .int (σ 12 t), .int (σ 13 t)])) = wd E (up2 σ 9 t v) := by
  rcases (show t = 0 ∨ t = 1 ∨ t = 2 by omega) with rfl | rfl | rfl <;> rfl
theorem wset_10 {E : En} {σ : St} (v : Int32) {t : Nat} (ht : t < 3) : (wd E σ).set (4 + t) (ead E (4 + t), .inr (4, [.int (σ 9 t), .int v, .int (σ 11 t), .int (σ 12 t), .int (σ 13 t)])) = wd E (up2 σ 10 t v) := by
  rcases (show t = 0 ∨ t = 1 ∨ t = 2 by omega) with rfl | rfl | rfl <;> rfl
theorem wset_11 {E : En} {σ : St} (v : Int32) {t : Nat} (ht : t < 3) : (wd E σ).set (4 + t) (ead E (4 + t), .inr (4, [.int (σ 9 t), .int (σ 10 t), .int v, .int (σ 12 t), .int (σ 13 t)])) = wd E (up2 σ 11 t v) := by
  rcases (show t = 0 ∨ t = 1 ∨ t = 2 by omega) with rfl | rfl | rfl <;> rfl
theorem wset_12 {E : En} {σ : St} (v : Int32) {t : Nat} (ht : t < 3) : (wd E σ).set (4 + t) (ead E (4 + t), .inr (4, [.int (σ 9 t), .int (σ 10 t), .int (σ 11 t), .int v, .int (σ 13 t)])) = wd E (up2 σ 12 t v) := by
  rcases (show t = 0 ∨ t = 1 ∨ t = 2 by omega) with rfl | rfl | rfl <;> rfl
theorem wset_13 {E : En} {σ : St} (v : Int32) {t : Nat} (ht : t < 3) : (wd E σ).set (4 + t) (ead E (4 + t), .inr (4, [.int (σ 9 t), .int (σ 10 t), .int (σ 11 t), .int (σ 12 t), .int v])) = wd E (up2 σ 13 t v) := by
  rcases (show t = 0 ∨ t = 1 ∨ t = 2 by omega) with rfl | rfl | rfl <;> rfl
theorem wset_2 {E : En} {σ : St} (v : Int32) : (wd E σ).set 1 (ead E 1, .inr (5, [.int v, .int (σ 3 0), .int (σ 4 0), .int (σ 5 0)])) = wd E (up2 σ 2 0 v) := rfl
theorem wset_3 {E : En} {σ : St} (v : Int32) : (wd E σ).set 1 (ead E 1, .inr (5, [.int (σ 2 0), .int v, .int (σ 4 0), .int (σ 5 0)])) = wd E (up2 σ 3 0 v) := rfl
theorem wset_4 {E : En} {σ : St} (v : Int32) : (wd E σ).set 1 (ead E 1, .inr (5, [.int (σ 2 0), .int (σ 3 0), .int v, .int (σ 5 0)])) = wd E (up2 σ 4 0 v) := rfl
theorem wset_5 {E : En} {σ : St} (v : Int32) : (wd E σ).set 1 (ead E 1, .inr (5, [.int (σ 2 0), .int (σ 3 0), .int (σ 4 0), .int v])) = wd E (up2 σ 5 0 v) := rfl
theorem wset_1 {E : En} {σ : St} (v : Int32) : (wd E σ).set 0 (ead E 0, .inr (6, [.ref (ead E 1), .ref (ead E 2), .ref (ead E 7), .ref (ead E 13), .ref (ead E 14), .int v, .int (σ 0 0)])) = wd E (up2 σ 1 0 v) := rfl
theorem wset_0 {E : En} {σ : St} (v : Int32) : (wd E σ).set 0 (ead E 0, .inr (6, [.ref (ead E 1), .ref (ead E 2), .ref (ead E 7), .ref (ead E 13), .ref (ead E 14), .int (σ 1 0), .int v])) = wd E (up2 σ 0 0 v) := rfl
theorem wset_40 {E : En} {σ : St} (v : Int32) : (wd E σ).set 15 (ead E 15, .inr (7, [.int v, .int (σ 41 0), .int (σ 42 0), .int (σ 43 0), .int (σ 44 0), .int (σ 45 0), .ref (ead E 16), .ref (ead E 17), .ref (ead E 18), .ref (ead E 19), .ref (ead E 20), .int (σ 51 0), .int (σ 52 0), .ref (ead E 21), .ref (ead E 22), .int (σ 55 0), .ref (ead E 23), .ref (ead E 24), .ref (ead E 25), .ref (ead E 26), .ref (ead E 27), .ref (ead E 28), .ref (ead E 29), .ref (ead E 30), .ref (ead E 31), .ref (ead E 32), .ref (ead E 33), .ref (ead E 34), .int (σ 68 0), .int (σ 69 0), .int (σ 70 0), .int (σ 71 0), .int (σ 72 0), .int (σ 73 0), .int (σ 74 0)])) = wd E (up2 σ 40 0 v) := rfl
theorem wset_41 {E : En} {σ : St} (v : Int32) : (wd E σ).set 15 (ead E 15, .inr (7, [.int (σ 40 0), .int v, .int (σ 42 0), .int (σ 43 0), .int (σ 44 0), .int (σ 45 0), .ref (ead E 16), .ref (ead E 17), .ref (ead E 18), .ref (ead E 19), .ref (ead E 20), .int (σ 51 0), .int (σ 52 0), .ref (ead E 21), .ref (ead E 22), .int (σ 55 0), .ref (ead E 23), .ref (ead E 24), .ref (ead E 25), .ref (ead E 26), .ref (ead E 27), .ref (ead E 28), .ref (ead E 29), .ref (ead E 30), .ref (ead E 31), .ref (ead E 32), .ref (ead E 33), .ref (ead E 34), .int (σ 68 0), .int (σ 69 0), .int (σ 70 0), .int (σ 71 0), .int (σ 72 0), .int (σ 73 0), .int (σ 74 0)])) = wd E (up2 σ 41 0 v) := rfl
theorem wset_42 {E : En} {σ : St} (v : Int32) : (wd E σ).set 15 (ead E 15, .inr (7, [.int (σ 40 0), .int (σ 41 0), .int v, .int (σ 43 0), .int (σ 44 0), .int (σ 45 0), .ref (ead E 16), .ref (ead E 17), .ref (ead E 18), .ref (ead E 19), .ref (ead E 20), .int (σ 51 0), .int (σ 52 0), .ref (ead E 21), .ref (ead E 22), .int (σ 55 0), .ref (ead E 23), .ref (ead E 24), .ref (ead E 25), .ref (ead E 26), .ref (ead E 27), .ref (ead E 28), .ref (ead E 29), .ref (ead E 30), .ref (ead E 31), .ref (ead E 32), .ref (ead E 33), .ref (ead E 34), .int (σ 68 0), .int (σ 69 0), .int (σ 70 0), .int (σ 71 0), .int (σ 72 0), .int (σ 73 0), .int (σ 74 0)])) = wd E (up2 σ 42 0 v) := rfl
theorem wset_43 {E : En} {σ : St} (v : Int32) : (wd E σ).set 15 (ead E 15, .inr (7, [.int (σ 40 0), .int (σ 41 0), .int (σ 42 0), .int v, .int (σ 44 0), .int (σ 45 0), .ref (ead E 16), .ref (ead E 17), .ref (ead E 18), .ref (ead E 19), .ref (ead E 20), .int (σ 51 0), .int (σ 52 0), .ref (ead E 21), .ref (ead E 22), .int (σ 55 0), .ref (ead E 23), .ref (ead E 24), .ref (ead E 25), .ref (ead E 26), .ref (ead E 27), .ref (ead E 28), .ref (ead E 29), .ref (ead E 30), .ref (ead E 31), .ref (ead E 32), .ref (ead E 33), .ref (ead E 34), .int (σ 68 0), .int (σ 69 0), .int (σ 70 0), .int (σ 71 0), .int (σ 72 0), .int (σ 73 0), .int (σ 74 0)])) = wd E (up2 σ 43 0 v) := rfl
theorem wset_44 {E : En} {σ : St} (v : Int32) : (wd E σ).set 15 (ead E 15, .inr (7, [.int (σ 40 0), .int (σ 41 0), .int (σ 42 0), .int (σ 43 0), .int v, .int (σ 45 0), .ref (ead E 16), .ref (ead E 17), .ref (ead E 18), .ref (ead E 19), .ref (ead E 20), .int (σ 51 0), .int (σ 52 0), .ref (ead E 21), .ref (ead E 22), .int (σ 55 0), .ref (ead E 23), .ref (ead E 24), .ref (ead E 25), .ref (ead E 26), .ref (ead E 27), .ref (ead E 28), .ref (ead E 29), .ref (ead E 30), .ref (ead E 31), .ref (ead E 32), .ref (ead E 33), .ref (ead E 34), .int (σ 68 0), .int (σ 69 0), .int (σ 70 0), .int (σ 71 0), .int (σ 72 0), .int (σ 73 0), .int (σ 74 0)])) = wd E (up2 σ 44 0 v) := rfl
theorem wset_45 {E : En} {σ : St} (v : Int32) : (wd E σ).set 15 (ead E 15, .inr (7, [.int (σ 40 0), .int (σ 41 0), .int (σ 42 0), .int (σ 43 0), .int (σ 44 0), .int v, .ref (ead E 16), .ref (ead E 17), .ref (ead E 18), .ref (ead E 19), .ref (ead E 20), .int (σ 51 0), .int (σ 52 0), .ref (ead E 21), .ref (ead E 22), .int (σ 55 0), .ref (ead E 23), .ref (ead E 24), .ref (ead E 25), .ref (ead E 26), .ref (ead E 27), .ref (ead E 28), .ref (ead E 29), .ref (ead E 30), .ref (ead E 31), .ref (ead E 32), .ref (ead E 33), .ref (ead E 34), .int (σ 68 0), .int (σ 69 0), .int (σ 70 0), .int (σ 71 0), .int (σ 72 0), .int (σ 73 0), .int (σ 74 0)])) = wd E (up2 σ 45 0 v) := rfl
theorem wset_51 {E : En} {σ : St} (v : Int32) : (wd E σ).set 15 (ead E 15, .inr (7, [.int (σ 40 0), .int (σ 41 0), .int (σ 42 0), .int (σ 43 0), .int (σ 44 0), .int (σ 45 0), .ref (ead E 16), .ref (ead E 17), .ref (ead E 18), .ref (ead E 19), .ref (ead E 20), .int v, .int (σ 52 0), .ref (ead E 21), .ref (ead E 22), .int (σ 55 0), .ref (ead E 23), .ref (ead E 24), .ref (ead E 25), .ref (ead E 26), .ref (ead E 27), .ref (ead E 28), .ref (ead E 29), .ref (ead E 30), .ref (ead E 31), .ref (ead E 32), .ref (ead E 33), .ref (ead E 34), .int (σ 68 0), .int (σ 69 0), .int (σ 70 0), .int (σ 71 0), .int (σ 72 0), .int (σ 73 0), .int (σ 74 0)])) = wd E (up2 σ 51 0 v) := rfl
theorem wset_52 {E : En} {σ : St} (v : Int32) : (wd E σ).set 15 (ead E 15, .inr (7, [.int (σ 40 0), .int (σ 41 0), .int (σ 42 0), .int (σ 43 0), .int (σ 44 0), .int (σ 45 0), .ref (ead E 16), .ref (ead E 17), .ref (ead E 18), .ref (ead E 19), .ref (ead E 20), .int (σ 51 0), .int v, .ref (ead E 21), .ref (ead E 22), .int (σ 55 0), .ref (ead E 23), .ref (ead E 24), .ref (ead E 25), .ref (ead E 26), .ref (ead E 27), .ref (ead E 28), .ref (ead E 29), .ref (ead E 30), .ref (ead E 31), .ref (ead E 32), .ref (ead E 33), .ref (ead E 34), .int (σ 68 0), .int (σ 69 0), .int (σ 70 0), .int (σ 71 0), .int (σ 72 0), .int (σ 73 0), .int (σ 74 0)])) = wd E (up2 σ 52 0 v) := rfl
theorem wset_55 {E : En} {σ : St} (v : Int32) : (wd E σ).set 15 (ead E 15, .inr (7, [.int (σ 40 0), .int (σ 41 0), .int (σ 42 0), .int (σ 43 0), .int (σ 44 0), .int (σ 45 0), .ref (ead E 16), .ref (ead E 17), .ref (ead E 18), .ref (ead E 19), .ref (ead E 20), .int (σ 51 0), .int (σ 52 0), .ref (ead E 21), .ref (ead E 22), .int v, .ref (ead E 23), .ref (ead E 24), .ref (ead E 25), .ref (ead E 26), .ref (ead E 27), .ref (ead E 28), .ref (ead E 29), .ref (ead E 30), .ref (ead E 31), .ref (ead E 32), .ref (ead E 33), .ref (ead E 34), .int (σ 68 0), .int (σ 69 0), .int (σ 70 0), .int (σ 71 0), .int (σ 72 0), .int (σ 73 0), .int (σ 74 0)])) = wd E (up2 σ 55 0 v) := rfl
theorem wset_68 {E : En} {σ : St} (v : Int32) : (wd E σ).set 15 (ead E 15, .inr (7, [.int (σ 40 0), .int (σ 41 0), .int (σ 42 0), .int (σ 43 0), .int (σ 44 0), .int (σ 45 0), .ref (ead E 16), .ref (ead E 17), .ref (ead E 18), .ref (ead E 19), .ref (ead E 20), .int (σ 51 0), .int (σ 52 0), .ref (ead E 21), .ref (ead E 22), .int (σ 55 0), .ref (ead E 23), .ref (ead E 24), .ref (ead E 25), .ref (ead E 26), .ref (ead E 27), .ref (ead E 28), .ref (ead E 29), .ref (ead E 30), .ref (ead E 31), .ref (ead E 32), .ref (ead E 33), .ref (ead E 34), .int v, .int (σ 69 0), .int (σ 70 0), .int (σ 71 0), .int (σ 72 0), .int (σ 73 0), .int (σ 74 0)])) = wd E (up2 σ 68 0 v) := rfl
theorem wset_69 {E : En} {σ : St} (v : Int32) : (wd E σ).set 15 (ead E 15, .inr (7, [.int (σ 40 0), .int (σ 41 0), .int (σ 42 0), .int (σ 43 0), .int (σ 44 0), .int (σ 45 0), .ref (ead E 16), .ref (ead E 17), .ref (ead E 18), .ref (ead E 19), .ref (ead E 20), .int (σ 51 0), .int (σ 52 0), .ref (ead E 21), .ref (ead E 22), .int (σ 55 0), .ref (ead E 23), .ref (ead E 24), .ref (ead E 25), .ref (ead E 26), .ref (ead E 27), .ref (ead E 28), .ref (ead E 29), .ref (ead E 30), .ref (ead E 31), .ref (ead E 32), .ref (ead E 33), .ref (ead E 34), .int (σ 68 0), .int v, .int (σ 70 0), .int (σ 71 0), .int (σ 72 0), .int (σ 73 0), .int (σ 74 0)])) = wd E (up2 σ 69 0 v) := rfl
theorem wset_70 {E : En} {σ : St} (v : Int32) : (wd E σ).set 15 (ead E 15, .inr (7, [.int (σ 40 0), .int (σ 41 0), .int (σ 42 0), .int (σ 43 0), .int (σ 44 0), .int (σ 45 0), .ref (ead E 16), .ref (ead E 17), .ref (ead E 18), .ref (ead E 19), .ref (ead E 20), .int (σ 51 0), .int (σ 52 0), .ref (ead E 21), .ref (ead E 22), .int (σ 55 0), .ref (ead E 23), .ref (ead E 24), .ref (ead E 25), .ref (ead E 26), .ref (ead E 27), .ref (ead E 28), .ref (ead E 29), .ref (ead E 30), .ref (ead E 31), .ref (ead E 32), .ref (ead E 33), .ref (ead E 34), .int (σ 68 0), .int (σ 69 0), .int v, .int (σ 71 0), .int (σ 72 0), .int (σ 73 0), .int (σ 74 0)])) = wd E (up2 σ 70 0 v) := rfl
theorem wset_71 {E : En} {σ : St} (v : Int32) : (wd E σ).set 15 (ead E 15, .inr (7, [.int (σ 40 0), .int (σ 41 0), .int (σ 42 0), .int (σ 43 0), .int (σ 44 0), .int (σ 45 0), .ref (ead E 16), .ref (ead E 17), .ref (ead E 18), .ref (ead E 19), .ref (ead E 20), .int (σ 51 0), .int (σ 52 0), .ref (ead E 21), .ref (ead E 22), .int (σ 55 0), .ref (ead E 23), .ref (ead E 24), .ref (ead E 25), .ref (ead E 26), .ref (ead E 27), .ref (ead E 28), .ref (ead E 29), .ref (ead E 30), .ref (ead E 31), .ref (ead E 32), .ref (ead E 33), .ref (ead E 34), .int (σ 68 0), .int (σ 69 0), .int (σ 70 0), .int v, .int (σ 72 0), .int (σ 73 0), .int (σ 74 0)])) = wd E (up2 σ 71 0 v) := rfl
theorem wset_72 {E : En} {σ : St} (v : Int32) : (wd E σ).set 15 (ead E 15, .inr (7, [.int (σ 40 0), .int (σ 41 0), .int (σ 42 0), .int (σ 43 0), .int (σ 44 0), .int (σ 45 0), .ref (ead E 16), .ref (ead E 17), .ref (ead E 18), .ref (ead E 19), .ref (ead E 20), .int (σ 51 0), .int (σ 52 0), .ref (ead E 21), .ref (ead E 22), .int (σ 55 0), .ref (ead E 23), .ref (ead E 24), .ref (ead E 25), .ref (ead E 26), .ref (ead E 27), .ref (ead E 28), .ref (ead E 29), .ref (ead E 30), .ref (ead E 31), .ref (ead E 32), .ref (ead E 33), .ref (ead E 34), .int (σ 68 0), .int (σ 69 0), .int (σ 70 0), .int (σ 71 0), .int v, .int (σ 73 0), .int (σ 74 0)])) = wd E (up2 σ 72 0 v) := rfl
theorem wset_73 {E : En} {σ : St} (v : Int32) : (wd E σ).set 15 (ead E 15, .inr (7, [.int (σ 40 0), .int (σ 41 0), .int (σ 42 0), .int (σ 43 0), .int (σ 44 0), .int (σ 45 0), .ref (ead E 16), .ref (ead E 17), .ref (ead E 18), .ref (ead E 19), .ref (ead E 20), .int (σ 51 0), .int (σ 52 0), .ref (ead E 21), .ref (ead E 22), .int (σ 55 0), .ref (ead E 23), .ref (ead E 24), .ref (ead E 25), .ref (ead E 26), .ref (ead E 27), .ref (ead E 28), .ref (ead E 29), .ref (ead E 30), .ref (ead E 31), .ref (ead E 32), .ref (ead E 33), .ref (ead E 34), .int (σ 68 0), .int (σ 69 0), .int (σ 70 0), .int (σ 71 0), .int (σ 72 0), .int v, .int (σ 74 0)])) = wd E (up2 σ 73 0 v) := rfl
theorem wset_74 {E : En} {σ : St} (v : Int32) : (wd E σ).set 15 (ead E 15, .inr (7, [.int (σ 40 0), .int (σ 41 0), .int (σ 42 0), .int (σ 43 0), .int (σ 44 0), .int (σ 45 0), .ref (ead E 16), .ref (ead E 17), .ref (ead E 18), .ref (ead E 19), .ref (ead E 20), .int (σ 51 0), .int (σ 52 0), .ref (ead E 21), .ref (ead E 22), .int (σ 55 0), .ref (ead E 23), .ref (ead E 24), .ref (ead E 25), .ref (ead E 26), .ref (ead E 27), .ref (ead E 28), .ref (ead E 29), .ref (ead E 30), .ref (ead E 31), .ref (ead E 32), .ref (ead E 33), .ref (ead E 34), .int (σ 68 0), .int (σ 69 0), .int (σ 70 0), .int (σ 71 0), .int (σ 72 0), .int (σ 73 0), .int v])) = wd E (up2 σ 74 0 v) := rfl
theorem aset_8 {E : En} {σ : St} (i : Nat) (v : Int32) : (wd E σ).set 8 (ead E 8, .inl (ecy E 0, 3, .inl (upd (fun k => σ 14 k) i v))) = wd E (up2 σ 14 i v) := by
  have e : upd (fun k => σ 14 k) i v = fun k => up2 σ 14 i v 14 k := by
    funext k
    by_cases hk : k = i
    · subst hk
      rw [up2_s, pk_us]
    · rw [up2_i hk, pk_un hk]
  rw [e]
  rfl
theorem aset_16 {E : En} {σ : St} (i : Nat) (v : Int32) : (wd E σ).set 16 (ead E 16, .inl (ecy E 0, 3, .inl (upd (fun k => σ 46 k) i v))) = wd E (up2 σ 46 i v) := by
  have e : upd (fun k => σ 46 k) i v = fun k => up2 σ 46 i v 46 k := by
    funext k
    by_cases hk : k = i
    · subst hk
      rw [up2_s, pk_us]
    · rw [up2_i hk, pk_un hk]
  rw [e]
  rfl
theorem aset_17 {E : En} {σ : St} (i : Nat) (v : Int32) : (wd E σ).set 17 (ead E 17, .inl (ecy E 0, 3, .inl (upd (fun k => σ 47 k) i v))) = wd E (up2 σ 47 i v) := by
  have e : upd (fun k => σ 47 k) i v = fun k => up2 σ 47 i v 47 k := by
    funext k
    by_cases hk : k = i
    · subst hk
      rw [up2_s, pk_us]
    · rw [up2_i hk, pk_un hk]
  rw [e]
  rfl
theorem aset_18 {E : En} {σ : St} (i : Nat) (v : Int32) : (wd E σ).set 18 (ead E 18, .inl (ecy E 0, 3, .inl (upd (fun k => σ 48 k) i v))) = wd E (up2 σ 48 i v) := by
  have e : upd (fun k => σ 48 k) i v = fun k => up2 σ 48 i v 48 k := by
    funext k
    by_cases hk : k = i
    · subst hk
      rw [up2_s, pk_us]
    · rw [up2_i hk, pk_un hk]
  rw [e]
  rfl
theorem aset_19 {E : En} {σ : St} (i : Nat) (v : Int32) : (wd E σ).set 19 (ead E 19, .inl (ecy E 0, 3, .inl (upd (fun k => σ 49 k) i v))) = wd E (up2 σ 49 i v) := by
  have e : upd (fun k => σ 49 k) i v = fun k => up2 σ 49 i v 49 k := by
    funext k
    by_cases hk : k = i
    · subst hk
      rw [up2_s, pk_us]
    · rw [up2_i hk, pk_un hk]
  rw [e]
  rfl
theorem aset_20 {E : En} {σ : St} (i : Nat) (v : Int32) : (wd E σ).set 20 (ead E 20, .inl (ecy E 0, 3, .inl (upd (fun k => σ 50 k) i v))) = wd E (up2 σ 50 i v) := by
  have e : upd (fun k => σ 50 k) i v = fun k => up2 σ 50 i v 50 k := by
    funext k
    by_cases hk : k = i
    · subst hk
      rw [up2_s, pk_us]
    · rw [up2_i hk, pk_un hk]
  rw [e]
  rfl
theorem aset_21 {E : En} {σ : St} (i : Nat) (v : Int32) : (wd E σ).set 21 (ead E 21, .inl (ecy E 0, 3, .inl (upd (fun k => σ 53 k) i v))) = wd E (up2 σ 53 i v) := by
  have e : upd (fun k => σ 53 k) i v = fun k => up2 σ 53 i v 53 k := by
    funext k
    by_cases hk : k = i
    · subst hk
      rw [up2_s, pk_us]
    · rw [up2_i hk, pk_un hk]
  rw [e]
  rfl
theorem aset_22 {E : En} {σ : St} (i : Nat) (v : Int32) : (wd E σ).set 22 (ead E 22, .inl (ecy E 0, 12, .inl (upd (fun k => σ 54 k) i v))) = wd E (up2 σ 54 i v) := by
  have e : upd (fun k => σ 54 k) i v = fun k => up2 σ 54 i v 54 k := by
    funext k
    by_cases hk : k = i
    · subst hk
      rw [up2_s, pk_us]
    · rw [up2_i hk, pk_un hk]
  rw [e]
  rfl
theorem aset_23 {E : En} {σ : St} (i : Nat) (v : Int32) : (wd E σ).set 23 (ead E 23, .inl (ecy E 0, 20, .inl (upd (fun k => σ 56 k) i v))) = wd E (up2 σ 56 i v) := by
  have e : upd (fun k => σ 56 k) i v = fun k => up2 σ 56 i v 56 k := by
    funext k
    by_cases hk : k = i
    · subst hk
      rw [up2_s, pk_us]
    · rw [up2_i hk, pk_un hk]
  rw [e]
  rfl
theorem aset_24 {E : En} {σ : St} (i : Nat) (v : Int32) : (wd E σ).set 24 (ead E 24, .inl (ecy E 0, 20, .inl (upd (fun k => σ 57 k) i v))) = wd E (up2 σ 57 i v) := by
  have e : upd (fun k => σ 57 k) i v = fun k => up2 σ 57 i v 57 k := by
    funext k
    by_cases hk : k = i
    · subst hk
      rw [up2_s, pk_us]
    · rw [up2_i hk, pk_un hk]
  rw [e]
  rfl
theorem aset_25 {E : En} {σ : St} (i : Nat) (v : Int32) : (wd E σ).set 25 (ead E 25, .inl (ecy E 0, 20, .inl (upd (fun k => σ 58 k) i v))) = wd E (up2 σ 58 i v) := by
  have e : upd (fun k => σ 58 k) i v = fun k => up2 σ 58 i v 58 k := by
    funext k
    by_cases hk : k = i
    · subst hk
      rw [up2_s, pk_us]
    · rw [up2_i hk, pk_un hk]
  rw [e]
  rfl
theorem aset_26 {E : En} {σ : St} (i : Nat) (v : Int32) : (wd E σ).set 26 (ead E 26, .inl (ecy E 0, 20, .inl (upd (fun k => σ 59 k) i v))) = wd E (up2 σ 59 i v) := by
  have e : upd (fun k => σ 59 k) i v = fun k => up2 σ 59 i v 59 k := by
    funext k
    by_cases hk : k = i
    · subst hk
      rw [up2_s, pk_us]
    · rw [up2_i hk, pk_un hk]
  rw [e]
  rfl
theorem aset_27 {E : En} {σ : St} (i : Nat) (v : Int32) : (wd E σ).set 27 (ead E 27, .inl (ecy E 0, 20, .inl (upd (fun k => σ 60 k) i v))) = wd E (up2 σ 60 i v) := by
  have e : upd (fun k => σ 60 k) i v = fun k => up2 σ 60 i v 60 k := by
    funext k
    by_cases hk : k = i
    · subst hk
      rw [up2_s, pk_us]
    · rw [up2_i hk, pk_un hk]
  rw [e]
  rfl
theorem aset_28 {E : En} {σ : St} (i : Nat) (v : Int32) : (wd E σ).set 28 (ead E 28, .inl (ecy E 0, 20, .inl (upd (fun k => σ 61 k) i v))) = wd E (up2 σ 61 i v) := by
  have e : upd (fun k => σ 61 k) i v = fun k => up2 σ 61 i v 61 k := by
    funext k
    by_cases hk : k = i
    · subst hk
      rw [up2_s, pk_us]
    · rw [up2_i hk, pk_un hk]
  rw [e]
  rfl
theorem aset_29 {E : En} {σ : St} (i : Nat) (v : Int32) : (wd E σ).set 29 (ead E 29, .inl (ecy E 0, 20, .inl (upd (fun k => σ 62 k) i v))) = wd E (up2 σ 62 i v) := by
  have e : upd (fun k => σ 62 k) i v = fun k => up2 σ 62 i v 62 k := by
    funext k
    by_cases hk : k = i
    · subst hk
      rw [up2_s, pk_us]
    · rw [up2_i hk, pk_un hk]
  rw [e]
  rfl
theorem aset_30 {E : En} {σ : St} (i : Nat) (v : Int32) : (wd E σ).set 30 (ead E 30, .inl (ecy E 0, 20, .inl (upd (fun k => σ 63 k) i v))) = wd E (up2 σ 63 i v) := by
  have e : upd (fun k => σ 63 k) i v = fun k => up2 σ 63 i v 63 k := by
    funext k
    by_cases hk : k = i
    · subst hk
      rw [up2_s, pk_us]
    · rw [up2_i hk, pk_un hk]
  rw [e]
  rfl
theorem aset_31 {E : En} {σ : St} (i : Nat) (v : Int32) : (wd E σ).set 31 (ead E 31, .inl (ecy E 0, 20, .inl (upd (fun k => σ 64 k) i v))) = wd E (up2 σ 64 i v) := by
  have e : upd (fun k => σ 64 k) i v = fun k => up2 σ 64 i v 64 k := by
    funext k
    by_cases hk : k = i
    · subst hk
      rw [up2_s, pk_us]
    · rw [up2_i hk, pk_un hk]
  rw [e]
  rfl
theorem aset_32 {E : En} {σ : St} (i : Nat) (v : Int32) : (wd E σ).set 32 (ead E 32, .inl (ecy E 0, 20, .inl (upd (fun k => σ 65 k) i v))) = wd E (up2 σ 65 i v) := by
  have e : upd (fun k => σ 65 k) i v = fun k => up2 σ 65 i v 65 k := by
    funext k
    by_cases hk : k = i
    · subst hk
      rw [up2_s, pk_us]
    · rw [up2_i hk, pk_un hk]
  rw [e]
  rfl
theorem aset_33 {E : En} {σ : St} (i : Nat) (v : Int32) : (wd E σ).set 33 (ead E 33, .inl (ecy E 0, 20, .inl (upd (fun k => σ 66 k) i v))) = wd E (up2 σ 66 i v) := by
  have e : upd (fun k => σ 66 k) i v = fun k => up2 σ 66 i v 66 k := by
    funext k
    by_cases hk : k = i
    · subst hk
      rw [up2_s, pk_us]
    · rw [up2_i hk, pk_un hk]
  rw [e]
  rfl
theorem aset_34 {E : En} {σ : St} (i : Nat) (v : Int32) : (wd E σ).set 34 (ead E 34, .inl (ecy E 0, 20, .inl (upd (fun k => σ 67 k) i v))) = wd E (up2 σ 67 i v) := by
  have e : upd (fun k => σ 67 k) i v = fun k => up2 σ 67 i v 67 k := by
    funext k
    by_cases hk : k = i
    · subst hk
      rw [up2_s, pk_us]
    · rw [up2_i hk, pk_un hk]
  rw [e]
  rfl
theorem aset_10 {E : En} {σ : St} (i : Nat) (v : Int32) : (wd E σ).set 10 (ead E 10, .inl (ecy E 0, 4, .inl (upd (fun k => σ 15 k) i v))) = wd E (up2 σ 15 i v) := by
  have e : upd (fun k => σ 15 k) i v = fun k => up2 σ 15 i v 15 k := by
    funext k
    by_cases hk : k = i
    · subst hk
      rw [up2_s, pk_us]
    · rw [up2_i hk, pk_un hk]
  rw [e]
  rfl
theorem aset_11 {E : En} {σ : St} (i : Nat) (v : Int32) : (wd E σ).set 11 (ead E 11, .inl (ecy E 0, 4, .inl (upd (fun k => σ 16 k) i v))) = wd E (up2 σ 16 i v) := by
  have e : upd (fun k => σ 16 k) i v = fun k => up2 σ 16 i v 16 k := by
    funext k
    by_cases hk : k = i
    · subst hk
      rw [up2_s, pk_us]
    · rw [up2_i hk, pk_un hk]
  rw [e]
  rfl
theorem aset_12 {E : En} {σ : St} (i : Nat) (v : Int32) : (wd E σ).set 12 (ead E 12, .inl (ecy E 0, 4, .inl (upd (fun k => σ 17 k) i v))) = wd E (up2 σ 17 i v) := by
  have e : upd (fun k => σ 17 k) i v = fun k => up2 σ 17 i v 17 k := by
    funext k
    by_cases hk : k = i
    · subst hk
      rw [up2_s, pk_us]
    · rw [up2_i hk, pk_un hk]
  rw [e]
  rfl
theorem aset_r {E : En} {σ : St} {t : Nat} (ht : t < 3) (i : Nat) (v : Int32) : (wd E σ).set (10 + t) (ead E (10 + t), .inl (ecy E 0, 4, .inl (upd (fun k => σ (15 + t) k) i v))) = wd E (up2 σ (15 + t) i v) := by
  rcases (show t = 0 ∨ t = 1 ∨ t = 2 by omega) with rfl | rfl | rfl
  · exact aset_10 i v
  · exact aset_11 i v
  · exact aset_12 i v
section WALK2
variable {p : Program} {l : Launch} {e : Env} {R : Room} {s : State} {m : MethodId} {args : Array Value} {below : List Frame} {meth : Method} {c : Code} {H : Heap} {locs : List Loc} {cells slots : Nat} {Q : State → Prop}
variable {cc : ByteArray} {own : String} {nL : Nat} {D : va_G} {E : En} {A : Nat → Prop} {σ : St} {pc : Nat} {ls : Array Slot} {rest : List Value}
theorem g_X6_10 (C : CX p s m meth c cc RX6 nL D E A) (h : HW D E σ A s H locs) (dg : decode cc pc = .ok (.getfield 10, 3)) (kk : W p l e R s m args below meth c H locs cells slots Q (F0 m (pc + 3) ls (.ref (ead E 1) :: rest))) : W p l e R s m args below meth c H locs cells slots Q (F0 m pc ls (.ref (ead E 0) :: rest)) :=
  va_get (D := D) (ci := 6) (C := RX6) (T := TX6) (N := 7) C.x C.b (C.tb.args args) inlX6 C.ow C.k h.1 0 rfl rfl 0 (by decide) (C.w args (w := Cond.fieldLink RX6 10 "IcePad" "sky" "LIcePad$Weather;") m_fl_X6_10) (fun _ h9 => h9) rfl dg kk
theorem g_X6_19 (C : CX p s m meth c cc RX6 nL D E A) (h : HW D E σ A s H locs) (dg : decode cc pc = .ok (.getfield 19, 3)) (kk : W p l e R s m args below meth c H locs cells slots Q (F0 m (pc + 3) ls (.ref (ead E 2) :: rest))) : W p l e R s m args below meth c H locs cells slots Q (F0 m pc ls (.ref (ead E 0) :: rest)) :=
  va_get (D := D) (ci := 6) (C := RX6) (T := TX6) (N := 7) C.x C.b (C.tb.args args) inlX6 C.ow C.k h.1 0 rfl rfl 1 (by decide) (C.w args (w := Cond.fieldLink RX6 19 "IcePad" "runway" "LIcePad$Runway;") m_fl_X6_19) (fun _ h9 => h9) rfl dg kk
theorem g_X6_26 (C : CX p s m meth c cc RX6 nL D E A) (h : HW D E σ A s H locs) (dg : decode cc pc = .ok (.getfield 26, 3)) (kk : W p l e R s m args below meth c H locs cells slots Q (F0 m (pc + 3) ls (.ref (ead E 7) :: rest))) : W p l e R s m args below meth c H locs cells slots Q (F0 m pc ls (.ref (ead E 0) :: rest)) :=
  va_get (D := D) (ci := 6) (C := RX6) (T := TX6) (N := 7) C.x C.b (C.tb.args args) inlX6 C.ow C.k h.1 0 rfl rfl 2 (by decide) (C.w args (w := Cond.fieldLink RX6 26 "IcePad" "fluids" "LIcePad$Fluids;") m_fl_X6_26) (fun _ h9 => h9) rfl dg kk
theorem g_X6_33 (C : CX p s m meth c cc RX6 nL D E A) (h : HW D E σ A s H locs) (dg : decode cc pc = .ok (.getfield 33, 3)) (kk : W p l e R s m args below meth c H locs cells slots Q (F0 m (pc + 3) ls (.ref (ead E 13) :: rest))) : W p l e R s m args below meth c H locs cells slots Q (F0 m pc ls (.ref (ead E 0) :: rest)) :=
  va_get (D := D) (ci := 6) (C := RX6) (T := TX6) (N := 7) C.x C.b (C.tb.args args) inlX6 C.ow C.k h.1 0 rfl rfl 3 (by decide) (C.w args (w := Cond.fieldLink RX6 33 "IcePad" "basin" "LIcePad$Basin;") m_fl_X6_33) (fun _ h9 => h9) rfl dg kk
theorem g_X6_39 (C : CX p s m meth c cc RX6 nL D E A) (h : HW D E σ A s H locs) (dg : decode cc pc = .ok (.getfield 39, 3)) (kk : W p l e R s m args below meth c H locs cells slots Q (F0 m (pc + 3) ls (.ref (ead E 14) :: rest))) : W p l e R s m args below meth c H locs cells slots Q (F0 m pc ls (.ref (ead E 0) :: rest)) :=
  va_get (D := D) (ci := 6) (C := RX6) (T := TX6) (N := 7) C.x C.b (C.tb.args args) inlX6 C.ow C.k h.1 0 rfl rfl 4 (by decide) (C.w args (w := Cond.fieldLink RX6 39 "IcePad" "fleet" "[LIcePad$Aircraft;") m_fl_X6_39) (fun _ h9 => h9) rfl dg kk
theorem g_X3_9 (C : CX p s m meth c cc RX3 nL D E A) (h : HW D E σ A s H locs) (dg : decode cc pc = .ok (.getfield 9, 3)) (kk : W p l e R s m args below meth c H locs cells slots Q (F0 m (pc + 3) ls (.int (σ 6 0) :: rest))) : W p l e R s m args below meth c H locs cells slots Q (F0 m pc ls (.ref (ead E 2) :: rest)) :=
  va_get (D := D) (ci := 3) (C := RX3) (T := TX3) (N := 4) C.x C.b (C.tb.args args) inlX3 C.ow C.k h.1 2 rfl rfl 1 (by decide) (C.w args (w := Cond.fieldLink RX3 9 "IcePad$Runway" "closedUpTo" "I") m_fl_X3_9) (fun _ h9 => h9) rfl dg kk
theorem p_X3_9 {v : Int32} (C : CX p s m meth c cc RX3 nL D E A) (h : HW D E σ A s H locs) (dg : decode cc pc = .ok (.putfield 9, 3)) (kk : ∀ (H1 : Heap) (locs1 : List Loc), HW D E (up2 σ 6 0 v) A s H1 locs1 → W p l e R s m args below meth c H1 locs1 cells slots Q (F0 m (pc + 3) ls rest)) : W p l e R s m args below meth c H locs cells slots Q (F0 m pc ls (.int v :: .ref (ead E 2) :: rest)) :=
  va_put (D := D) (ci := 3) (v := .int v) (ty := .int) (C := RX3) (T := TX3) (N := 4) C.x C.b (C.tb.args args) inlX3 tyX3 tyX3_ok nmX3 C.ow C.k h.1 h.2.1 h.2.2 2 rfl rfl 1 (by decide) (C.w args (w := Cond.fieldLink RX3 9 "IcePad$Runway" "closedUpTo" "I") m_fl_X3_9) (fun _ h9 => h9) rfl (by decide +kernel) rfl rfl (Nat.le_of_ble_eq_true rfl) dg (fun H1 locs1 hP hD hS => kk H1 locs1 (hw_of (wset_6 v) hP hD hS))
theorem g_X3_17 (C : CX p s m meth c cc RX3 nL D E A) (h : HW D E σ A s H locs) (dg : decode cc pc = .ok (.getfield 17, 3)) (kk : W p l e R s m args below meth c H locs cells slots Q (F0 m (pc + 3) ls (.ref (ead E 3) :: rest))) : W p l e R s m args below meth c H locs cells slots Q (F0 m pc ls (.ref (ead E 2) :: rest)) :=
  va_get (D := D) (ci := 3) (C := RX3) (T := TX3) (N := 4) C.x C.b (C.tb.args args) inlX3 C.ow C.k h.1 2 rfl rfl 0 (by decide) (C.w args (w := Cond.fieldLink RX3 17 "IcePad$Runway" "thirds" "[LIcePad$Third;") m_fl_X3_17) (fun _ h9 => h9) rfl dg kk
theorem g_X4_9 (C : CX p s m meth c cc RX4 nL D E A) (h : HW D E σ A s H locs) {t : Nat} (ht : t < 3) (dg : decode cc pc = .ok (.getfield 9, 3)) (kk : W p l e R s m args below meth c H locs cells slots Q (F0 m (pc + 3) ls (.int (σ 9 t) :: rest))) : W p l e R s m args below meth c H locs cells slots Q (F0 m pc ls (.ref (ead E (4 + t)) :: rest)) :=
  va_get (D := D) (ci := 4) (C := RX4) (T := TX4) (N := 5) C.x C.b (C.tb.args args) inlX4 C.ow C.k h.1 (4 + t) (wd_t σ ht) rfl 0 (by decide) (C.w args (w := Cond.fieldLink RX4 9 "IcePad$Third" "cover" "I") m_fl_X4_9) (fun _ h9 => h9) rfl dg kk
theorem p_X4_9 {v : Int32} (C : CX p s m meth c cc RX4 nL D E A) (h : HW D E σ A s H locs) {t : Nat} (ht : t < 3) (dg : decode cc pc = .ok (.putfield 9, 3)) (kk : ∀ (H1 : Heap) (locs1 : List Loc), HW D E (up2 σ 9 t v) A s H1 locs1 → W p l e R s m args below meth c H1 locs1 cells slots Q (F0 m (pc + 3) ls rest)) : W p l e R s m args below meth c H locs cells slots Q (F0 m pc ls (.int v :: .ref (ead E (4 + t)) :: rest)) :=
  va_put (D := D) (ci := 4) (v := .int v) (ty := .int) (C := RX4) (T := TX4) (N := 5) C.x C.b (C.tb.args args) inlX4 tyX4 tyX4_ok nmX4 C.ow C.k h.1 h.2.1 h.2.2 (4 + t) (wd_t σ ht) rfl 0 (by decide) (C.w args (w := Cond.fieldLink RX4 9 "IcePad$Third" "cover" "I") m_fl_X4_9) (fun _ h9 => h9) rfl (by decide +kernel) rfl rfl (Nat.le_of_ble_eq_true rfl) dg (fun H1 locs1 hP hD hS => kk H1 locs1 (hw_of (wset_9 v ht) hP hD hS))
theorem g_X4_15 (C : CX p s m meth c cc RX4 nL D E A) (h : HW D E σ A s H locs) {t : Nat} (ht : t < 3) (dg : decode cc pc = .ok (.getfield 15, 3)) (kk : W p l e R s m args below meth c H locs cells slots Q (F0 m (pc + 3) ls (.int (σ 11 t) :: rest))) : W p l e R s m args below meth c H locs cells slots Q (F0 m pc ls (.ref (ead E (4 + t)) :: rest)) :=
  va_get (D := D) (ci := 4) (C := RX4) (T := TX4) (N := 5) C.x C.b (C.tb.args args) inlX4 C.ow C.k h.1 (4 + t) (wd_t σ ht) rfl 2 (by decide) (C.w args (w := Cond.fieldLink RX4 15 "IcePad$Third" "sprayedUpTo" "I") m_fl_X4_15) (fun _ h9 => h9) rfl dg kk
theorem p_X4_15 {v : Int32} (C : CX p s m meth c cc RX4 nL D E A) (h : HW D E σ A s H locs) {t : Nat} (ht : t < 3) (dg : decode cc pc = .ok (.putfield 15, 3)) (kk : ∀ (H1 : Heap) (locs1 : List Loc), HW D E (up2 σ 11 t v) A s H1 locs1 → W p l e R s m args below meth c H1 locs1 cells slots Q (F0 m (pc + 3) ls rest)) : W p l e R s m args below meth c H locs cells slots Q (F0 m pc ls (.int v :: .ref (ead E (4 + t)) :: rest)) :=
  va_put (D := D) (ci := 4) (v := .int v) (ty := .int) (C := RX4) (T := TX4) (N := 5) C.x C.b (C.tb.args args) inlX4 tyX4 tyX4_ok nmX4 C.ow C.k h.1 h.2.1 h.2.2 (4 + t) (wd_t σ ht) rfl 2 (by decide) (C.w args (w := Cond.fieldLink RX4 15 "IcePad$Third" "sprayedUpTo" "I") m_fl_X4_15) (fun _ h9 => h9) rfl (by decide +kernel) rfl rfl (Nat.le_of_ble_eq_true rfl) dg (fun H1 locs1 hP hD hS => kk H1 locs1 (hw_of (wset_11 v ht) hP hD hS))
theorem g_X4_18 (C : CX p s m meth c cc RX4 nL D E A) (h : HW D E σ A s H locs) {t : Nat} (ht : t < 3) (dg : decode cc pc = .ok (.getfield 18, 3)) (kk : W p l e R s m args below meth c H locs cells slots Q (F0 m (pc + 3) ls (.int (σ 12 t) :: rest))) : W p l e R s m args below meth c H locs cells slots Q (F0 m pc ls (.ref (ead E (4 + t)) :: rest)) :=
  va_get (D := D) (ci := 4) (C := RX4) (T := TX4) (N := 5) C.x C.b (C.tb.args args) inlX4 C.ow C.k h.1 (4 + t) (wd_t σ ht) rfl 3 (by decide) (C.w args (w := Cond.fieldLink RX4 18 "IcePad$Third" "reportMinute" "I") m_fl_X4_18) (fun _ h9 => h9) rfl dg kk
theorem p_X4_18 {v : Int32} (C : CX p s m meth c cc RX4 nL D E A) (h : HW D E σ A s H locs) {t : Nat} (ht : t < 3) (dg : decode cc pc = .ok (.putfield 18, 3)) (kk : ∀ (H1 : Heap) (locs1 : List Loc), HW D E (up2 σ 12 t v) A s H1 locs1 → W p l e R s m args below meth c H1 locs1 cells slots Q (F0 m (pc + 3) ls rest)) : W p l e R s m args below meth c H locs cells slots Q (F0 m pc ls (.int v :: .ref (ead E (4 + t)) :: rest)) :=
  va_put (D := D) (ci := 4) (v := .int v) (ty := .int) (C := RX4) (T := TX4) (N := 5) C.x C.b (C.tb.args args) inlX4 tyX4 tyX4_ok nmX4 C.ow C.k h.1 h.2.1 h.2.2 (4 + t) (wd_t σ ht) rfl 3 (by decide) (C.w args (w := Cond.fieldLink RX4 18 "IcePad$Third" "reportMinute" "I") m_fl_X4_18) (fun _ h9 => h9) rfl (by decide +kernel) rfl rfl (Nat.le_of_ble_eq_true rfl) dg (fun H1 locs1 hP hD hS => kk H1 locs1 (hw_of (wset_12 v ht) hP hD hS))
theorem g_X2_9 (C : CX p s m meth c cc RX2 nL D E A) (h : HW D E σ A s H locs) (dg : decode cc pc = .ok (.getfield 9, 3)) (kk : W p l e R s m args below meth c H locs cells slots Q (F0 m (pc + 3) ls (.ref (ead E 8) :: rest))) : W p l e R s m args below meth c H locs cells slots Q (F0 m pc ls (.ref (ead E 7) :: rest)) :=
  va_get (D := D) (ci := 2) (C := RX2) (T := TX2) (N := 3) C.x C.b (C.tb.args args) inlX2 C.ow C.k h.1 7 rfl rfl 0 (by decide) (C.w args (w := Cond.fieldLink RX2 9 "IcePad$Fluids" "tanks" "[I") m_fl_X2_9) (fun _ h9 => h9) rfl dg kk
theorem g_X2_17 (C : CX p s m meth c cc RX2 nL D E A) (h : HW D E σ A s H locs) (dg : decode cc pc = .ok (.getfield 17, 3)) (kk : W p l e R s m args below meth c H locs cells slots Q (F0 m (pc + 3) ls (.ref (ead E 9) :: rest))) : W p l e R s m args below meth c H locs cells slots Q (F0 m pc ls (.ref (ead E 7) :: rest)) :=
  va_get (D := D) (ci := 2) (C := RX2) (T := TX2) (N := 3) C.x C.b (C.tb.args args) inlX2 C.ow C.k h.1 7 rfl rfl 1 (by decide) (C.w args (w := Cond.fieldLink RX2 17 "IcePad$Fluids" "minutes" "[[I") m_fl_X2_17) (fun _ h9 => h9) rfl dg kk
theorem g_X1_9 (C : CX p s m meth c cc RX1 nL D E A) (h : HW D E σ A s H locs) (dg : decode cc pc = .ok (.getfield 9, 3)) (kk : W p l e R s m args below meth c H locs cells slots Q (F0 m (pc + 3) ls (.int (σ 22 0) :: rest))) : W p l e R s m args below meth c H locs cells slots Q (F0 m pc ls (.ref (ead E 13) :: rest)) :=
  va_get (D := D) (ci := 1) (C := RX1) (T := TX1) (N := 6) C.x C.b (C.tb.args args) inlX1 C.ow C.k h.1 13 rfl rfl 3 (by decide) (C.w args (w := Cond.fieldLink RX1 9 "IcePad$Basin" "permitADay" "I") m_fl_X1_9) (fun _ h9 => h9) rfl dg kk
theorem p_X1_9 {v : Int32} (C : CX p s m meth c cc RX1 nL D E A) (h : HW D E σ A s H locs) (dg : decode cc pc = .ok (.putfield 9, 3)) (kk : ∀ (H1 : Heap) (locs1 : List Loc), HW D E (up2 σ 22 0 v) A s H1 locs1 → W p l e R s m args below meth c H1 locs1 cells slots Q (F0 m (pc + 3) ls rest)) : W p l e R s m args below meth c H locs cells slots Q (F0 m pc ls (.int v :: .ref (ead E 13) :: rest)) :=
  va_put (D := D) (ci := 1) (v := .int v) (ty := .int) (C := RX1) (T := TX1) (N := 6) C.x C.b (C.tb.args args) inlX1 tyX1 tyX1_ok nmX1 C.ow C.k h.1 h.2.1 h.2.2 13 rfl rfl 3 (by decide) (C.w args (w := Cond.fieldLink RX1 9 "IcePad$Basin" "permitADay" "I") m_fl_X1_9) (fun _ h9 => h9) rfl (by decide +kernel) rfl rfl (Nat.le_of_ble_eq_true rfl) dg (fun H1 locs1 hP hD hS => kk H1 locs1 (hw_of (wset_22 v) hP hD hS))
theorem g_X7_7 (C : CX p s m meth c cc RX7 nL D E A) (h : HW D E σ A s H locs) (dg : decode cc pc = .ok (.getfield 7, 3)) (kk : W p l e R s m args below meth c H locs cells slots Q (F0 m (pc + 3) ls (.ref (ead E 16) :: rest))) : W p l e R s m args below meth c H locs cells slots Q (F0 m pc ls (.ref (ead E 15) :: rest)) :=
  va_get (D := D) (ci := 7) (C := RX7) (T := TX7) (N := 35) C.x C.b (C.tb.args args) inlX7 C.ow C.k h.1 15 rfl rfl 6 (by decide) (C.w args (w := Cond.fieldLink RX7 7 "IcePadModel" "covers" "[I") m_fl_X7_7) (fun _ h9 => h9) rfl dg kk
theorem g_X7_13 (C : CX p s m meth c cc RX7 nL D E A) (h : HW D E σ A s H locs) (dg : decode cc pc = .ok (.getfield 13, 3)) (kk : W p l e R s m args below meth c H locs cells slots Q (F0 m (pc + 3) ls (.ref (ead E 17) :: rest))) : W p l e R s m args below meth c H locs cells slots Q (F0 m pc ls (.ref (ead E 15) :: rest)) :=
  va_get (D := D) (ci := 7) (C := RX7) (T := TX7) (N := 35) C.x C.b (C.tb.args args) inlX7 C.ow C.k h.1 15 rfl rfl 7 (by decide) (C.w args (w := Cond.fieldLink RX7 13 "IcePadModel" "depths" "[I") m_fl_X7_13) (fun _ h9 => h9) rfl dg kk
theorem g_X7_16 (C : CX p s m meth c cc RX7 nL D E A) (h : HW D E σ A s H locs) (dg : decode cc pc = .ok (.getfield 16, 3)) (kk : W p l e R s m args below meth c H locs cells slots Q (F0 m (pc + 3) ls (.ref (ead E 18) :: rest))) : W p l e R s m args below meth c H locs cells slots Q (F0 m pc ls (.ref (ead E 15) :: rest)) :=
  va_get (D := D) (ci := 7) (C := RX7) (T := TX7) (N := 35) C.x C.b (C.tb.args args) inlX7 C.ow C.k h.1 15 rfl rfl 8 (by decide) (C.w args (w := Cond.fieldLink RX7 16 "IcePadModel" "sprayedTo" "[I") m_fl_X7_16) (fun _ h9 => h9) rfl dg kk
theorem g_X7_19 (C : CX p s m meth c cc RX7 nL D E A) (h : HW D E σ A s H locs) (dg : decode cc pc = .ok (.getfield 19, 3)) (kk : W p l e R s m args below meth c H locs cells slots Q (F0 m (pc + 3) ls (.ref (ead E 19) :: rest))) : W p l e R s m args below meth c H locs cells slots Q (F0 m pc ls (.ref (ead E 15) :: rest)) :=
  va_get (D := D) (ci := 7) (C := RX7) (T := TX7) (N := 35) C.x C.b (C.tb.args args) inlX7 C.ow C.k h.1 15 rfl rfl 9 (by decide) (C.w args (w := Cond.fieldLink RX7 19 "IcePadModel" "reported" "[I") m_fl_X7_19) (fun _ h9 => h9) rfl dg kk
theorem g_X7_22 (C : CX p s m meth c cc RX7 nL D E A) (h : HW D E σ A s H locs) (dg : decode cc pc = .ok (.getfield 22, 3)) (kk : W p l e R s m args below meth c H locs cells slots Q (F0 m (pc + 3) ls (.ref (ead E 20) :: rest))) : W p l e R s m args below meth c H locs cells slots Q (F0 m pc ls (.ref (ead E 15) :: rest)) :=
  va_get (D := D) (ci := 7) (C := RX7) (T := TX7) (N := 35) C.x C.b (C.tb.args args) inlX7 C.ow C.k h.1 15 rfl rfl 10 (by decide) (C.w args (w := Cond.fieldLink RX7 22 "IcePadModel" "reportedAt" "[I") m_fl_X7_22) (fun _ h9 => h9) rfl dg kk
theorem g_X7_25 (C : CX p s m meth c cc RX7 nL D E A) (h : HW D E σ A s H locs) (dg : decode cc pc = .ok (.getfield 25, 3)) (kk : W p l e R s m args below meth c H locs cells slots Q (F0 m (pc + 3) ls (.int (σ 51 0) :: rest))) : W p l e R s m args below meth c H locs cells slots Q (F0 m pc ls (.ref (ead E 15) :: rest)) :=
  va_get (D := D) (ci := 7) (C := RX7) (T := TX7) (N := 35) C.x C.b (C.tb.args args) inlX7 C.ow C.k h.1 15 rfl rfl 11 (by decide) (C.w args (w := Cond.fieldLink RX7 25 "IcePadModel" "closedTo" "I") m_fl_X7_25) (fun _ h9 => h9) rfl dg kk
theorem p_X7_25 {v : Int32} (C : CX p s m meth c cc RX7 nL D E A) (h : HW D E σ A s H locs) (dg : decode cc pc = .ok (.putfield 25, 3)) (kk : ∀ (H1 : Heap) (locs1 : List Loc), HW D E (up2 σ 51 0 v) A s H1 locs1 → W p l e R s m args below meth c H1 locs1 cells slots Q (F0 m (pc + 3) ls rest)) : W p l e R s m args below meth c H locs cells slots Q (F0 m pc ls (.int v :: .ref (ead E 15) :: rest)) :=
  va_put (D := D) (ci := 7) (v := .int v) (ty := .int) (C := RX7) (T := TX7) (N := 35) C.x C.b (C.tb.args args) inlX7 tyX7 tyX7_ok nmX7 C.ow C.k h.1 h.2.1 h.2.2 15 rfl rfl 11 (by decide) (C.w args (w := Cond.fieldLink RX7 25 "IcePadModel" "closedTo" "I") m_fl_X7_25) (fun _ h9 => h9) rfl (by decide +kernel) rfl rfl (Nat.le_of_ble_eq_true rfl) dg (fun H1 locs1 hP hD hS => kk H1 locs1 (hw_of (wset_51 v) hP hD hS))
theorem g_X7_29 (C : CX p s m meth c cc RX7 nL D E A) (h : HW D E σ A s H locs) (dg : decode cc pc = .ok (.getfield 29, 3)) (kk : W p l e R s m args below meth c H locs cells slots Q (F0 m (pc + 3) ls (.ref (ead E 21) :: rest))) : W p l e R s m args below meth c H locs cells slots Q (F0 m pc ls (.ref (ead E 15) :: rest)) :=
  va_get (D := D) (ci := 7) (C := RX7) (T := TX7) (N := 35) C.x C.b (C.tb.args args) inlX7 C.ow C.k h.1 15 rfl rfl 13 (by decide) (C.w args (w := Cond.fieldLink RX7 29 "IcePadModel" "tanks" "[I") m_fl_X7_29) (fun _ h9 => h9) rfl dg kk
theorem g_X7_32 (C : CX p s m meth c cc RX7 nL D E A) (h : HW D E σ A s H locs) (dg : decode cc pc = .ok (.getfield 32, 3)) (kk : W p l e R s m args below meth c H locs cells slots Q (F0 m (pc + 3) ls (.ref (ead E 22) :: rest))) : W p l e R s m args below meth c H locs cells slots Q (F0 m pc ls (.ref (ead E 15) :: rest)) :=
  va_get (D := D) (ci := 7) (C := RX7) (T := TX7) (N := 35) C.x C.b (C.tb.args args) inlX7 C.ow C.k h.1 15 rfl rfl 14 (by decide) (C.w args (w := Cond.fieldLink RX7 32 "IcePadModel" "tables" "[I") m_fl_X7_32) (fun _ h9 => h9) rfl dg kk
theorem g_X7_35 (C : CX p s m meth c cc RX7 nL D E A) (h : HW D E σ A s H locs) (dg : decode cc pc = .ok (.getfield 35, 3)) (kk : W p l e R s m args below meth c H locs cells slots Q (F0 m (pc + 3) ls (.ref (ead E 23) :: rest))) : W p l e R s m args below meth c H locs cells slots Q (F0 m pc ls (.ref (ead E 15) :: rest)) :=
  va_get (D := D) (ci := 7) (C := RX7) (T := TX7) (N := 35) C.x C.b (C.tb.args args) inlX7 C.ow C.k h.1 15 rfl rfl 16 (by decide) (C.w args (w := Cond.fieldLink RX7 35 "IcePadModel" "spans" "[I") m_fl_X7_35) (fun _ h9 => h9) rfl dg kk
theorem g_X7_38 (C : CX p s m meth c cc RX7 nL D E A) (h : HW D E σ A s H locs) (dg : decode cc pc = .ok (.getfield 38, 3)) (kk : W p l e R s m args below meth c H locs cells slots Q (F0 m (pc + 3) ls (.ref (ead E 24) :: rest))) : W p l e R s m args below meth c H locs cells slots Q (F0 m pc ls (.ref (ead E 15) :: rest)) :=
  va_get (D := D) (ci := 7) (C := RX7) (T := TX7) (N := 35) C.x C.b (C.tb.args args) inlX7 C.ow C.k h.1 15 rfl rfl 17 (by decide) (C.w args (w := Cond.fieldLink RX7 38 "IcePadModel" "slots" "[I") m_fl_X7_38) (fun _ h9 => h9) rfl dg kk
theorem g_X7_41 (C : CX p s m meth c cc RX7 nL D E A) (h : HW D E σ A s H locs) (dg : decode cc pc = .ok (.getfield 41, 3)) (kk : W p l e R s m args below meth c H locs cells slots Q (F0 m (pc + 3) ls (.ref (ead E 25) :: rest))) : W p l e R s m args below meth c H locs cells slots Q (F0 m pc ls (.ref (ead E 15) :: rest)) :=
  va_get (D := D) (ci := 7) (C := RX7) (T := TX7) (N := 35) C.x C.b (C.tb.args args) inlX7 C.ow C.k h.1 15 rfl rfl 18 (by decide) (C.w args (w := Cond.fieldLink RX7 41 "IcePadModel" "duties" "[I") m_fl_X7_41) (fun _ h9 => h9) rfl dg kk
theorem g_X7_44 (C : CX p s m meth c cc RX7 nL D E A) (h : HW D E σ A s H locs) (dg : decode cc pc = .ok (.getfield 44, 3)) (kk : W p l e R s m args below meth c H locs cells slots Q (F0 m (pc + 3) ls (.ref (ead E 26) :: rest))) : W p l e R s m args below meth c H locs cells slots Q (F0 m pc ls (.ref (ead E 15) :: rest)) :=
  va_get (D := D) (ci := 7) (C := RX7) (T := TX7) (N := 35) C.x C.b (C.tb.args args) inlX7 C.ow C.k h.1 15 rfl rfl 19 (by decide) (C.w args (w := Cond.fieldLink RX7 44 "IcePadModel" "states" "[I") m_fl_X7_44) (fun _ h9 => h9) rfl dg kk
theorem g_X7_47 (C : CX p s m meth c cc RX7 nL D E A) (h : HW D E σ A s H locs) (dg : decode cc pc = .ok (.getfield 47, 3)) (kk : W p l e R s m args below meth c H locs cells slots Q (F0 m (pc + 3) ls (.ref (ead E 27) :: rest))) : W p l e R s m args below meth c H locs cells slots Q (F0 m pc ls (.ref (ead E 15) :: rest)) :=
  va_get (D := D) (ci := 7) (C := RX7) (T := TX7) (N := 35) C.x C.b (C.tb.args args) inlX7 C.ow C.k h.1 15 rfl rfl 20 (by decide) (C.w args (w := Cond.fieldLink RX7 47 "IcePadModel" "leftAt" "[I") m_fl_X7_47) (fun _ h9 => h9) rfl dg kk
theorem g_X7_50 (C : CX p s m meth c cc RX7 nL D E A) (h : HW D E σ A s H locs) (dg : decode cc pc = .ok (.getfield 50, 3)) (kk : W p l e R s m args below meth c H locs cells slots Q (F0 m (pc + 3) ls (.ref (ead E 28) :: rest))) : W p l e R s m args below meth c H locs cells slots Q (F0 m pc ls (.ref (ead E 15) :: rest)) :=
  va_get (D := D) (ci := 7) (C := RX7) (T := TX7) (N := 35) C.x C.b (C.tb.args args) inlX7 C.ow C.k h.1 15 rfl rfl 21 (by decide) (C.w args (w := Cond.fieldLink RX7 50 "IcePadModel" "treatments" "[I") m_fl_X7_50) (fun _ h9 => h9) rfl dg kk
theorem g_X7_53 (C : CX p s m meth c cc RX7 nL D E A) (h : HW D E σ A s H locs) (dg : decode cc pc = .ok (.getfield 53, 3)) (kk : W p l e R s m args below meth c H locs cells slots Q (F0 m (pc + 3) ls (.ref (ead E 29) :: rest))) : W p l e R s m args below meth c H locs cells slots Q (F0 m pc ls (.ref (ead E 15) :: rest)) :=
  va_get (D := D) (ci := 7) (C := RX7) (T := TX7) (N := 35) C.x C.b (C.tb.args args) inlX7 C.ow C.k h.1 15 rfl rfl 22 (by decide) (C.w args (w := Cond.fieldLink RX7 53 "IcePadModel" "litresOn" "[I") m_fl_X7_53) (fun _ h9 => h9) rfl dg kk
theorem g_X7_56 (C : CX p s m meth c cc RX7 nL D E A) (h : HW D E σ A s H locs) (dg : decode cc pc = .ok (.getfield 56, 3)) (kk : W p l e R s m args below meth c H locs cells slots Q (F0 m (pc + 3) ls (.ref (ead E 30) :: rest))) : W p l e R s m args below meth c H locs cells slots Q (F0 m pc ls (.ref (ead E 15) :: rest)) :=
  va_get (D := D) (ci := 7) (C := RX7) (T := TX7) (N := 35) C.x C.b (C.tb.args args) inlX7 C.ow C.k h.1 15 rfl rfl 23 (by decide) (C.w args (w := Cond.fieldLink RX7 56 "IcePadModel" "padOf" "[I") m_fl_X7_56) (fun _ h9 => h9) rfl dg kk
theorem g_X7_59 (C : CX p s m meth c cc RX7 nL D E A) (h : HW D E σ A s H locs) (dg : decode cc pc = .ok (.getfield 59, 3)) (kk : W p l e R s m args below meth c H locs cells slots Q (F0 m (pc + 3) ls (.ref (ead E 31) :: rest))) : W p l e R s m args below meth c H locs cells slots Q (F0 m pc ls (.ref (ead E 15) :: rest)) :=
  va_get (D := D) (ci := 7) (C := RX7) (T := TX7) (N := 35) C.x C.b (C.tb.args args) inlX7 C.ow C.k h.1 15 rfl rfl 24 (by decide) (C.w args (w := Cond.fieldLink RX7 59 "IcePadModel" "cleanAt" "[I") m_fl_X7_59) (fun _ h9 => h9) rfl dg kk
theorem g_X7_62 (C : CX p s m meth c cc RX7 nL D E A) (h : HW D E σ A s H locs) (dg : decode cc pc = .ok (.getfield 62, 3)) (kk : W p l e R s m args below meth c H locs cells slots Q (F0 m (pc + 3) ls (.ref (ead E 32) :: rest))) : W p l e R s m args below meth c H locs cells slots Q (F0 m pc ls (.ref (ead E 15) :: rest)) :=
  va_get (D := D) (ci := 7) (C := RX7) (T := TX7) (N := 35) C.x C.b (C.tb.args args) inlX7 C.ow C.k h.1 15 rfl rfl 25 (by decide) (C.w args (w := Cond.fieldLink RX7 62 "IcePadModel" "begun" "[I") m_fl_X7_62) (fun _ h9 => h9) rfl dg kk
theorem g_X7_65 (C : CX p s m meth c cc RX7 nL D E A) (h : HW D E σ A s H locs) (dg : decode cc pc = .ok (.getfield 65, 3)) (kk : W p l e R s m args below meth c H locs cells slots Q (F0 m (pc + 3) ls (.ref (ead E 33) :: rest))) : W p l e R s m args below meth c H locs cells slots Q (F0 m pc ls (.ref (ead E 15) :: rest)) :=
  va_get (D := D) (ci := 7) (C := RX7) (T := TX7) (N := 35) C.x C.b (C.tb.args args) inlX7 C.ow C.k h.1 15 rfl rfl 26 (by decide) (C.w args (w := Cond.fieldLink RX7 65 "IcePadModel" "fluidOf" "[I") m_fl_X7_65) (fun _ h9 => h9) rfl dg kk
theorem g_X7_68 (C : CX p s m meth c cc RX7 nL D E A) (h : HW D E σ A s H locs) (dg : decode cc pc = .ok (.getfield 68, 3)) (kk : W p l e R s m args below meth c H locs cells slots Q (F0 m (pc + 3) ls (.ref (ead E 34) :: rest))) : W p l e R s m args below meth c H locs cells slots Q (F0 m pc ls (.ref (ead E 15) :: rest)) :=
  va_get (D := D) (ci := 7) (C := RX7) (T := TX7) (N := 35) C.x C.b (C.tb.args args) inlX7 C.ow C.k h.1 15 rfl rfl 27 (by decide) (C.w args (w := Cond.fieldLink RX7 68 "IcePadModel" "strengthOf" "[I") m_fl_X7_68) (fun _ h9 => h9) rfl dg kk
theorem g_X7_71 (C : CX p s m meth c cc RX7 nL D E A) (h : HW D E σ A s H locs) (dg : decode cc pc = .ok (.getfield 71, 3)) (kk : W p l e R s m args below meth c H locs cells slots Q (F0 m (pc + 3) ls (.int (σ 73 0) :: rest))) : W p l e R s m args below meth c H locs cells slots Q (F0 m pc ls (.ref (ead E 15) :: rest)) :=
  va_get (D := D) (ci := 7) (C := RX7) (T := TX7) (N := 35) C.x C.b (C.tb.args args) inlX7 C.ow C.k h.1 15 rfl rfl 33 (by decide) (C.w args (w := Cond.fieldLink RX7 71 "IcePadModel" "permitNow" "I") m_fl_X7_71) (fun _ h9 => h9) rfl dg kk
theorem p_X7_71 {v : Int32} (C : CX p s m meth c cc RX7 nL D E A) (h : HW D E σ A s H locs) (dg : decode cc pc = .ok (.putfield 71, 3)) (kk : ∀ (H1 : Heap) (locs1 : List Loc), HW D E (up2 σ 73 0 v) A s H1 locs1 → W p l e R s m args below meth c H1 locs1 cells slots Q (F0 m (pc + 3) ls rest)) : W p l e R s m args below meth c H locs cells slots Q (F0 m pc ls (.int v :: .ref (ead E 15) :: rest)) :=
  va_put (D := D) (ci := 7) (v := .int v) (ty := .int) (C := RX7) (T := TX7) (N := 35) C.x C.b (C.tb.args args) inlX7 tyX7 tyX7_ok nmX7 C.ow C.k h.1 h.2.1 h.2.2 15 rfl rfl 33 (by decide) (C.w args (w := Cond.fieldLink RX7 71 "IcePadModel" "permitNow" "I") m_fl_X7_71) (fun _ h9 => h9) rfl (by decide +kernel) rfl rfl (Nat.le_of_ble_eq_true rfl) dg (fun H1 locs1 hP hD hS => kk H1 locs1 (hw_of (wset_73 v) hP hD hS))
theorem g_X6_47 (C : CX p s m meth c cc RX6 nL D E A) (h : HW D E σ A s H locs) (dg : decode cc pc = .ok (.getfield 47, 3)) (kk : W p l e R s m args below meth c H locs cells slots Q (F0 m (pc + 3) ls (.int (σ 2 0) :: rest))) : W p l e R s m args below meth c H locs cells slots Q (F0 m pc ls (.ref (ead E 1) :: rest)) :=
  va_get (D := D) (ci := 5) (C := RX5) (T := TX5) (N := 4) C.x C.b (C.tb.args args) inlX5 C.ow C.k h.1 1 rfl rfl 0 (by decide) (C.w args (w := Cond.fieldLink RX6 47 "IcePad$Weather" "temperature" "I") m_fl_X6_47) (fun _ h9 => h9) rfl dg kk
theorem p_X6_47 {v : Int32} (C : CX p s m meth c cc RX6 nL D E A) (h : HW D E σ A s H locs) (dg : decode cc pc = .ok (.putfield 47, 3)) (kk : ∀ (H1 : Heap) (locs1 : List Loc), HW D E (up2 σ 2 0 v) A s H1 locs1 → W p l e R s m args below meth c H1 locs1 cells slots Q (F0 m (pc + 3) ls rest)) : W p l e R s m args below meth c H locs cells slots Q (F0 m pc ls (.int v :: .ref (ead E 1) :: rest)) :=
  va_put (D := D) (ci := 5) (v := .int v) (ty := .int) (C := RX5) (T := TX5) (N := 4) C.x C.b (C.tb.args args) inlX5 tyX5 tyX5_ok nmX5 C.ow C.k h.1 h.2.1 h.2.2 1 rfl rfl 0 (by decide) (C.w args (w := Cond.fieldLink RX6 47 "IcePad$Weather" "temperature" "I") m_fl_X6_47) (fun _ h9 => h9) rfl (by decide +kernel) rfl rfl (Nat.le_of_ble_eq_true rfl) dg (fun H1 locs1 hP hD hS => kk H1 locs1 (hw_of (wset_2 v) hP hD hS))
theorem g_X6_51 (C : CX p s m meth c cc RX6 nL D E A) (h : HW D E σ A s H locs) (dg : decode cc pc = .ok (.getfield 51, 3)) (kk : W p l e R s m args below meth c H locs cells slots Q (F0 m (pc + 3) ls (.int (σ 3 0) :: rest))) : W p l e R s m args below meth c H locs cells slots Q (F0 m pc ls (.ref (ead E 1) :: rest)) :=
  va_get (D := D) (ci := 5) (C := RX5) (T := TX5) (N := 4) C.x C.b (C.tb.args args) inlX5 C.ow C.k h.1 1 rfl rfl 1 (by decide) (C.w args (w := Cond.fieldLink RX6 51 "IcePad$Weather" "fall" "I") m_fl_X6_51) (fun _ h9 => h9) rfl dg kk
theorem p_X6_51 {v : Int32} (C : CX p s m meth c cc RX6 nL D E A) (h : HW D E σ A s H locs) (dg : decode cc pc = .ok (.putfield 51, 3)) (kk : ∀ (H1 : Heap) (locs1 : List Loc), HW D E (up2 σ 3 0 v) A s H1 locs1 → W p l e R s m args below meth c H1 locs1 cells slots Q (F0 m (pc + 3) ls rest)) : W p l e R s m args below meth c H locs cells slots Q (F0 m pc ls (.int v :: .ref (ead E 1) :: rest)) :=
  va_put (D := D) (ci := 5) (v := .int v) (ty := .int) (C := RX5) (T := TX5) (N := 4) C.x C.b (C.tb.args args) inlX5 tyX5 tyX5_ok nmX5 C.ow C.k h.1 h.2.1 h.2.2 1 rfl rfl 1 (by decide) (C.w args (w := Cond.fieldLink RX6 51 "IcePad$Weather" "fall" "I") m_fl_X6_51) (fun _ h9 => h9) rfl (by decide +kernel) rfl rfl (Nat.le_of_ble_eq_true rfl) dg (fun H1 locs1 hP hD hS => kk H1 locs1 (hw_of (wset_3 v) hP hD hS))
theorem g_X6_54 (C : CX p s m meth c cc RX6 nL D E A) (h : HW D E σ A s H locs) (dg : decode cc pc = .ok (.getfield 54, 3)) (kk : W p l e R s m args below meth c H locs cells slots Q (F0 m (pc + 3) ls (.int (σ 4 0) :: rest))) : W p l e R s m args below meth c H locs cells slots Q (F0 m pc ls (.ref (ead E 1) :: rest)) :=
  va_get (D := D) (ci := 5) (C := RX5) (T := TX5) (N := 4) C.x C.b (C.tb.args args) inlX5 C.ow C.k h.1 1 rfl rfl 2 (by decide) (C.w args (w := Cond.fieldLink RX6 54 "IcePad$Weather" "rate" "I") m_fl_X6_54) (fun _ h9 => h9) rfl dg kk
theorem p_X6_54 {v : Int32} (C : CX p s m meth c cc RX6 nL D E A) (h : HW D E σ A s H locs) (dg : decode cc pc = .ok (.putfield 54, 3)) (kk : ∀ (H1 : Heap) (locs1 : List Loc), HW D E (up2 σ 4 0 v) A s H1 locs1 → W p l e R s m args below meth c H1 locs1 cells slots Q (F0 m (pc + 3) ls rest)) : W p l e R s m args below meth c H locs cells slots Q (F0 m pc ls (.int v :: .ref (ead E 1) :: rest)) :=
  va_put (D := D) (ci := 5) (v := .int v) (ty := .int) (C := RX5) (T := TX5) (N := 4) C.x C.b (C.tb.args args) inlX5 tyX5 tyX5_ok nmX5 C.ow C.k h.1 h.2.1 h.2.2 1 rfl rfl 2 (by decide) (C.w args (w := Cond.fieldLink RX6 54 "IcePad$Weather" "rate" "I") m_fl_X6_54) (fun _ h9 => h9) rfl (by decide +kernel) rfl rfl (Nat.le_of_ble_eq_true rfl) dg (fun H1 locs1 hP hD hS => kk H1 locs1 (hw_of (wset_4 v) hP hD hS))
theorem g_X6_57 (C : CX p s m meth c cc RX6 nL D E A) (h : HW D E σ A s H locs) (dg : decode cc pc = .ok (.getfield 57, 3)) (kk : W p l e R s m args below meth c H locs cells slots Q (F0 m (pc + 3) ls (.int (σ 5 0) :: rest))) : W p l e R s m args below meth c H locs cells slots Q (F0 m pc ls (.ref (ead E 1) :: rest)) :=
  va_get (D := D) (ci := 5) (C := RX5) (T := TX5) (N := 4) C.x C.b (C.tb.args args) inlX5 C.ow C.k h.1 1 rfl rfl 3 (by decide) (C.w args (w := Cond.fieldLink RX6 57 "IcePad$Weather" "wind" "I") m_fl_X6_57) (fun _ h9 => h9) rfl dg kk
theorem p_X6_57 {v : Int32} (C : CX p s m meth c cc RX6 nL D E A) (h : HW D E σ A s H locs) (dg : decode cc pc = .ok (.putfield 57, 3)) (kk : ∀ (H1 : Heap) (locs1 : List Loc), HW D E (up2 σ 5 0 v) A s H1 locs1 → W p l e R s m args below meth c H1 locs1 cells slots Q (F0 m (pc + 3) ls rest)) : W p l e R s m args below meth c H locs cells slots Q (F0 m pc ls (.int v :: .ref (ead E 1) :: rest)) :=
  va_put (D := D) (ci := 5) (v := .int v) (ty := .int) (C := RX5) (T := TX5) (N := 4) C.x C.b (C.tb.args args) inlX5 tyX5 tyX5_ok nmX5 C.ow C.k h.1 h.2.1 h.2.2 1 rfl rfl 3 (by decide) (C.w args (w := Cond.fieldLink RX6 57 "IcePad$Weather" "wind" "I") m_fl_X6_57) (fun _ h9 => h9) rfl (by decide +kernel) rfl rfl (Nat.le_of_ble_eq_true rfl) dg (fun H1 locs1 hP hD hS => kk H1 locs1 (hw_of (wset_5 v) hP hD hS))
theorem g_X7_74 (C : CX p s m meth c cc RX7 nL D E A) (h : HW D E σ A s H locs) (dg : decode cc pc = .ok (.getfield 74, 3)) (kk : W p l e R s m args below meth c H locs cells slots Q (F0 m (pc + 3) ls (.int (σ 40 0) :: rest))) : W p l e R s m args below meth c H locs cells slots Q (F0 m pc ls (.ref (ead E 15) :: rest)) :=
  va_get (D := D) (ci := 7) (C := RX7) (T := TX7) (N := 35) C.x C.b (C.tb.args args) inlX7 C.ow C.k h.1 15 rfl rfl 0 (by decide) (C.w args (w := Cond.fieldLink RX7 74 "IcePadModel" "thrown" "I") m_fl_X7_74) (fun _ h9 => h9) rfl dg kk
theorem p_X7_74 {v : Int32} (C : CX p s m meth c cc RX7 nL D E A) (h : HW D E σ A s H locs) (dg : decode cc pc = .ok (.putfield 74, 3)) (kk : ∀ (H1 : Heap) (locs1 : List Loc), HW D E (up2 σ 40 0 v) A s H1 locs1 → W p l e R s m args below meth c H1 locs1 cells slots Q (F0 m (pc + 3) ls rest)) : W p l e R s m args below meth c H locs cells slots Q (F0 m pc ls (.int v :: .ref (ead E 15) :: rest)) :=
  va_put (D := D) (ci := 7) (v := .int v) (ty := .int) (C := RX7) (T := TX7) (N := 35) C.x C.b (C.tb.args args) inlX7 tyX7 tyX7_ok nmX7 C.ow C.k h.1 h.2.1 h.2.2 15 rfl rfl 0 (by decide) (C.w args (w := Cond.fieldLink RX7 74 "IcePadModel" "thrown" "I") m_fl_X7_74) (fun _ h9 => h9) rfl (by decide +kernel) rfl rfl (Nat.le_of_ble_eq_true rfl) dg (fun H1 locs1 hP hD hS => kk H1 locs1 (hw_of (wset_40 v) hP hD hS))
theorem g_X7_84 (C : CX p s m meth c cc RX7 nL D E A) (h : HW D E σ A s H locs) (dg : decode cc pc = .ok (.getfield 84, 3)) (kk : W p l e R s m args below meth c H locs cells slots Q (F0 m (pc + 3) ls (.int (σ 42 0) :: rest))) : W p l e R s m args below meth c H locs cells slots Q (F0 m pc ls (.ref (ead E 15) :: rest)) :=
  va_get (D := D) (ci := 7) (C := RX7) (T := TX7) (N := 35) C.x C.b (C.tb.args args) inlX7 C.ow C.k h.1 15 rfl rfl 2 (by decide) (C.w args (w := Cond.fieldLink RX7 84 "IcePadModel" "temperature" "I") m_fl_X7_84) (fun _ h9 => h9) rfl dg kk
theorem p_X7_84 {v : Int32} (C : CX p s m meth c cc RX7 nL D E A) (h : HW D E σ A s H locs) (dg : decode cc pc = .ok (.putfield 84, 3)) (kk : ∀ (H1 : Heap) (locs1 : List Loc), HW D E (up2 σ 42 0 v) A s H1 locs1 → W p l e R s m args below meth c H1 locs1 cells slots Q (F0 m (pc + 3) ls rest)) : W p l e R s m args below meth c H locs cells slots Q (F0 m pc ls (.int v :: .ref (ead E 15) :: rest)) :=
  va_put (D := D) (ci := 7) (v := .int v) (ty := .int) (C := RX7) (T := TX7) (N := 35) C.x C.b (C.tb.args args) inlX7 tyX7 tyX7_ok nmX7 C.ow C.k h.1 h.2.1 h.2.2 15 rfl rfl 2 (by decide) (C.w args (w := Cond.fieldLink RX7 84 "IcePadModel" "temperature" "I") m_fl_X7_84) (fun _ h9 => h9) rfl (by decide +kernel) rfl rfl (Nat.le_of_ble_eq_true rfl) dg (fun H1 locs1 hP hD hS => kk H1 locs1 (hw_of (wset_42 v) hP hD hS))
theorem g_X7_87 (C : CX p s m meth c cc RX7 nL D E A) (h : HW D E σ A s H locs) (dg : decode cc pc = .ok (.getfield 87, 3)) (kk : W p l e R s m args below meth c H locs cells slots Q (F0 m (pc + 3) ls (.int (σ 43 0) :: rest))) : W p l e R s m args below meth c H locs cells slots Q (F0 m pc ls (.ref (ead E 15) :: rest)) :=
  va_get (D := D) (ci := 7) (C := RX7) (T := TX7) (N := 35) C.x C.b (C.tb.args args) inlX7 C.ow C.k h.1 15 rfl rfl 3 (by decide) (C.w args (w := Cond.fieldLink RX7 87 "IcePadModel" "fall" "I") m_fl_X7_87) (fun _ h9 => h9) rfl dg kk
theorem p_X7_87 {v : Int32} (C : CX p s m meth c cc RX7 nL D E A) (h : HW D E σ A s H locs) (dg : decode cc pc = .ok (.putfield 87, 3)) (kk : ∀ (H1 : Heap) (locs1 : List Loc), HW D E (up2 σ 43 0 v) A s H1 locs1 → W p l e R s m args below meth c H1 locs1 cells slots Q (F0 m (pc + 3) ls rest)) : W p l e R s m args below meth c H locs cells slots Q (F0 m pc ls (.int v :: .ref (ead E 15) :: rest)) :=
  va_put (D := D) (ci := 7) (v := .int v) (ty := .int) (C := RX7) (T := TX7) (N := 35) C.x C.b (C.tb.args args) inlX7 tyX7 tyX7_ok nmX7 C.ow C.k h.1 h.2.1 h.2.2 15 rfl rfl 3 (by decide) (C.w args (w := Cond.fieldLink RX7 87 "IcePadModel" "fall" "I") m_fl_X7_87) (fun _ h9 => h9) rfl (by decide +kernel) rfl rfl (Nat.le_of_ble_eq_true rfl) dg (fun H1 locs1 hP hD hS => kk H1 locs1 (hw_of (wset_43 v) hP hD hS))
theorem g_X7_90 (C : CX p s m meth c cc RX7 nL D E A) (h : HW D E σ A s H locs) (dg : decode cc pc = .ok (.getfield 90, 3)) (kk : W p l e R s m args below meth c H locs cells slots Q (F0 m (pc + 3) ls (.int (σ 44 0) :: rest))) : W p l e R s m args below meth c H locs cells slots Q (F0 m pc ls (.ref (ead E 15) :: rest)) :=
  va_get (D := D) (ci := 7) (C := RX7) (T := TX7) (N := 35) C.x C.b (C.tb.args args) inlX7 C.ow C.k h.1 15 rfl rfl 4 (by decide) (C.w args (w := Cond.fieldLink RX7 90 "IcePadModel" "rate" "I") m_fl_X7_90) (fun _ h9 => h9) rfl dg kk
theorem p_X7_90 {v : Int32} (C : CX p s m meth c cc RX7 nL D E A) (h : HW D E σ A s H locs) (dg : decode cc pc = .ok (.putfield 90, 3)) (kk : ∀ (H1 : Heap) (locs1 : List Loc), HW D E (up2 σ 44 0 v) A s H1 locs1 → W p l e R s m args below meth c H1 locs1 cells slots Q (F0 m (pc + 3) ls rest)) : W p l e R s m args below meth c H locs cells slots Q (F0 m pc ls (.int v :: .ref (ead E 15) :: rest)) :=
  va_put (D := D) (ci := 7) (v := .int v) (ty := .int) (C := RX7) (T := TX7) (N := 35) C.x C.b (C.tb.args args) inlX7 tyX7 tyX7_ok nmX7 C.ow C.k h.1 h.2.1 h.2.2 15 rfl rfl 4 (by decide) (C.w args (w := Cond.fieldLink RX7 90 "IcePadModel" "rate" "I") m_fl_X7_90) (fun _ h9 => h9) rfl (by decide +kernel) rfl rfl (Nat.le_of_ble_eq_true rfl) dg (fun H1 locs1 hP hD hS => kk H1 locs1 (hw_of (wset_44 v) hP hD hS))
theorem g_X7_93 (C : CX p s m meth c cc RX7 nL D E A) (h : HW D E σ A s H locs) (dg : decode cc pc = .ok (.getfield 93, 3)) (kk : W p l e R s m args below meth c H locs cells slots Q (F0 m (pc + 3) ls (.int (σ 45 0) :: rest))) : W p l e R s m args below meth c H locs cells slots Q (F0 m pc ls (.ref (ead E 15) :: rest)) :=
  va_get (D := D) (ci := 7) (C := RX7) (T := TX7) (N := 35) C.x C.b (C.tb.args args) inlX7 C.ow C.k h.1 15 rfl rfl 5 (by decide) (C.w args (w := Cond.fieldLink RX7 93 "IcePadModel" "wind" "I") m_fl_X7_93) (fun _ h9 => h9) rfl dg kk
theorem p_X7_93 {v : Int32} (C : CX p s m meth c cc RX7 nL D E A) (h : HW D E σ A s H locs) (dg : decode cc pc = .ok (.putfield 93, 3)) (kk : ∀ (H1 : Heap) (locs1 : List Loc), HW D E (up2 σ 45 0 v) A s H1 locs1 → W p l e R s m args below meth c H1 locs1 cells slots Q (F0 m (pc + 3) ls rest)) : W p l e R s m args below meth c H locs cells slots Q (F0 m pc ls (.int v :: .ref (ead E 15) :: rest)) :=
  va_put (D := D) (ci := 7) (v := .int v) (ty := .int) (C := RX7) (T := TX7) (N := 35) C.x C.b (C.tb.args args) inlX7 tyX7 tyX7_ok nmX7 C.ow C.k h.1 h.2.1 h.2.2 15 rfl rfl 5 (by decide) (C.w args (w := Cond.fieldLink RX7 93 "IcePadModel" "wind" "I") m_fl_X7_93) (fun _ h9 => h9) rfl (by decide +kernel) rfl rfl (Nat.le_of_ble_eq_true rfl) dg (fun H1 locs1 hP hD hS => kk H1 locs1 (hw_of (wset_45 v) hP hD hS))
theorem g_X6_64 (C : CX p s m meth c cc RX6 nL D E A) (h : HW D E σ A s H locs) (dg : decode cc pc = .ok (.getfield 64, 3)) (kk : W p l e R s m args below meth c H locs cells slots Q (F0 m (pc + 3) ls (.int (σ 0 0) :: rest))) : W p l e R s m args below meth c H locs cells slots Q (F0 m pc ls (.ref (ead E 0) :: rest)) :=
  va_get (D := D) (ci := 6) (C := RX6) (T := TX6) (N := 7) C.x C.b (C.tb.args args) inlX6 C.ow C.k h.1 0 rfl rfl 6 (by decide) (C.w args (w := Cond.fieldLink RX6 64 "IcePad" "minute" "I") m_fl_X6_64) (fun _ h9 => h9) rfl dg kk
theorem p_X6_64 {v : Int32} (C : CX p s m meth c cc RX6 nL D E A) (h : HW D E σ A s H locs) (dg : decode cc pc = .ok (.putfield 64, 3)) (kk : ∀ (H1 : Heap) (locs1 : List Loc), HW D E (up2 σ 0 0 v) A s H1 locs1 → W p l e R s m args below meth c H1 locs1 cells slots Q (F0 m (pc + 3) ls rest)) : W p l e R s m args below meth c H locs cells slots Q (F0 m pc ls (.int v :: .ref (ead E 0) :: rest)) :=
  va_put (D := D) (ci := 6) (v := .int v) (ty := .int) (C := RX6) (T := TX6) (N := 7) C.x C.b (C.tb.args args) inlX6 tyX6 tyX6_ok nmX6 C.ow C.k h.1 h.2.1 h.2.2 0 rfl rfl 6 (by decide) (C.w args (w := Cond.fieldLink RX6 64 "IcePad" "minute" "I") m_fl_X6_64) (fun _ h9 => h9) rfl (by decide +kernel) rfl rfl (Nat.le_of_ble_eq_true rfl) dg (fun H1 locs1 hP hD hS => kk H1 locs1 (hw_of (wset_0 v) hP hD hS))
theorem g_X6_67 (C : CX p s m meth c cc RX6 nL D E A) (h : HW D E σ A s H locs) (dg : decode cc pc = .ok (.getfield 67, 3)) (kk : W p l e R s m args below meth c H locs cells slots Q (F0 m (pc + 3) ls (.ref (ead E 3) :: rest))) : W p l e R s m args below meth c H locs cells slots Q (F0 m pc ls (.ref (ead E 2) :: rest)) :=
  va_get (D := D) (ci := 3) (C := RX3) (T := TX3) (N := 4) C.x C.b (C.tb.args args) inlX3 C.ow C.k h.1 2 rfl rfl 0 (by decide) (C.w args (w := Cond.fieldLink RX6 67 "IcePad$Runway" "thirds" "[LIcePad$Third;") m_fl_X6_67) (fun _ h9 => h9) rfl dg kk
theorem g_X6_71 (C : CX p s m meth c cc RX6 nL D E A) (h : HW D E σ A s H locs) {t : Nat} (ht : t < 3) (dg : decode cc pc = .ok (.getfield 71, 3)) (kk : W p l e R s m args below meth c H locs cells slots Q (F0 m (pc + 3) ls (.int (σ 11 t) :: rest))) : W p l e R s m args below meth c H locs cells slots Q (F0 m pc ls (.ref (ead E (4 + t)) :: rest)) :=
  va_get (D := D) (ci := 4) (C := RX4) (T := TX4) (N := 5) C.x C.b (C.tb.args args) inlX4 C.ow C.k h.1 (4 + t) (wd_t σ ht) rfl 2 (by decide) (C.w args (w := Cond.fieldLink RX6 71 "IcePad$Third" "sprayedUpTo" "I") m_fl_X6_71) (fun _ h9 => h9) rfl dg kk
theorem p_X6_71 {v : Int32} (C : CX p s m meth c cc RX6 nL D E A) (h : HW D E σ A s H locs) {t : Nat} (ht : t < 3) (dg : decode cc pc = .ok (.putfield 71, 3)) (kk : ∀ (H1 : Heap) (locs1 : List Loc), HW D E (up2 σ 11 t v) A s H1 locs1 → W p l e R s m args below meth c H1 locs1 cells slots Q (F0 m (pc + 3) ls rest)) : W p l e R s m args below meth c H locs cells slots Q (F0 m pc ls (.int v :: .ref (ead E (4 + t)) :: rest)) :=
  va_put (D := D) (ci := 4) (v := .int v) (ty := .int) (C := RX4) (T := TX4) (N := 5) C.x C.b (C.tb.args args) inlX4 tyX4 tyX4_ok nmX4 C.ow C.k h.1 h.2.1 h.2.2 (4 + t) (wd_t σ ht) rfl 2 (by decide) (C.w args (w := Cond.fieldLink RX6 71 "IcePad$Third" "sprayedUpTo" "I") m_fl_X6_71) (fun _ h9 => h9) rfl (by decide +kernel) rfl rfl (Nat.le_of_ble_eq_true rfl) dg (fun H1 locs1 hP hD hS => kk H1 locs1 (hw_of (wset_11 v ht) hP hD hS))
theorem g_X7_100 (C : CX p s m meth c cc RX7 nL D E A) (h : HW D E σ A s H locs) (dg : decode cc pc = .ok (.getfield 100, 3)) (kk : W p l e R s m args below meth c H locs cells slots Q (F0 m (pc + 3) ls (.int (σ 41 0) :: rest))) : W p l e R s m args below meth c H locs cells slots Q (F0 m pc ls (.ref (ead E 15) :: rest)) :=
  va_get (D := D) (ci := 7) (C := RX7) (T := TX7) (N := 35) C.x C.b (C.tb.args args) inlX7 C.ow C.k h.1 15 rfl rfl 1 (by decide) (C.w args (w := Cond.fieldLink RX7 100 "IcePadModel" "now" "I") m_fl_X7_100) (fun _ h9 => h9) rfl dg kk
theorem p_X7_100 {v : Int32} (C : CX p s m meth c cc RX7 nL D E A) (h : HW D E σ A s H locs) (dg : decode cc pc = .ok (.putfield 100, 3)) (kk : ∀ (H1 : Heap) (locs1 : List Loc), HW D E (up2 σ 41 0 v) A s H1 locs1 → W p l e R s m args below meth c H1 locs1 cells slots Q (F0 m (pc + 3) ls rest)) : W p l e R s m args below meth c H locs cells slots Q (F0 m pc ls (.int v :: .ref (ead E 15) :: rest)) :=
  va_put (D := D) (ci := 7) (v := .int v) (ty := .int) (C := RX7) (T := TX7) (N := 35) C.x C.b (C.tb.args args) inlX7 tyX7 tyX7_ok nmX7 C.ow C.k h.1 h.2.1 h.2.2 15 rfl rfl 1 (by decide) (C.w args (w := Cond.fieldLink RX7 100 "IcePadModel" "now" "I") m_fl_X7_100) (fun _ h9 => h9) rfl (by decide +kernel) rfl rfl (Nat.le_of_ble_eq_true rfl) dg (fun H1 locs1 hP hD hS => kk H1 locs1 (hw_of (wset_41 v) hP hD hS))
theorem g_X6_76 (C : CX p s m meth c cc RX6 nL D E A) (h : HW D E σ A s H locs) (dg : decode cc pc = .ok (.getfield 76, 3)) (kk : W p l e R s m args below meth c H locs cells slots Q (F0 m (pc + 3) ls (.int (σ 6 0) :: rest))) : W p l e R s m args below meth c H locs cells slots Q (F0 m pc ls (.ref (ead E 2) :: rest)) :=
  va_get (D := D) (ci := 3) (C := RX3) (T := TX3) (N := 4) C.x C.b (C.tb.args args) inlX3 C.ow C.k h.1 2 rfl rfl 1 (by decide) (C.w args (w := Cond.fieldLink RX6 76 "IcePad$Runway" "closedUpTo" "I") m_fl_X6_76) (fun _ h9 => h9) rfl dg kk
theorem p_X6_76 {v : Int32} (C : CX p s m meth c cc RX6 nL D E A) (h : HW D E σ A s H locs) (dg : decode cc pc = .ok (.putfield 76, 3)) (kk : ∀ (H1 : Heap) (locs1 : List Loc), HW D E (up2 σ 6 0 v) A s H1 locs1 → W p l e R s m args below meth c H1 locs1 cells slots Q (F0 m (pc + 3) ls rest)) : W p l e R s m args below meth c H locs cells slots Q (F0 m pc ls (.int v :: .ref (ead E 2) :: rest)) :=
  va_put (D := D) (ci := 3) (v := .int v) (ty := .int) (C := RX3) (T := TX3) (N := 4) C.x C.b (C.tb.args args) inlX3 tyX3 tyX3_ok nmX3 C.ow C.k h.1 h.2.1 h.2.2 2 rfl rfl 1 (by decide) (C.w args (w := Cond.fieldLink RX6 76 "IcePad$Runway" "closedUpTo" "I") m_fl_X6_76) (fun _ h9 => h9) rfl (by decide +kernel) rfl rfl (Nat.le_of_ble_eq_true rfl) dg (fun H1 locs1 hP hD hS => kk H1 locs1 (hw_of (wset_6 v) hP hD hS))
theorem g_X6_79 (C : CX p s m meth c cc RX6 nL D E A) (h : HW D E σ A s H locs) (dg : decode cc pc = .ok (.getfield 79, 3)) (kk : W p l e R s m args below meth c H locs cells slots Q (F0 m (pc + 3) ls (.int (σ 7 0) :: rest))) : W p l e R s m args below meth c H locs cells slots Q (F0 m pc ls (.ref (ead E 2) :: rest)) :=
  va_get (D := D) (ci := 3) (C := RX3) (T := TX3) (N := 4) C.x C.b (C.tb.args args) inlX3 C.ow C.k h.1 2 rfl rfl 2 (by decide) (C.w args (w := Cond.fieldLink RX6 79 "IcePad$Runway" "ploughs" "I") m_fl_X6_79) (fun _ h9 => h9) rfl dg kk
theorem p_X6_79 {v : Int32} (C : CX p s m meth c cc RX6 nL D E A) (h : HW D E σ A s H locs) (dg : decode cc pc = .ok (.putfield 79, 3)) (kk : ∀ (H1 : Heap) (locs1 : List Loc), HW D E (up2 σ 7 0 v) A s H1 locs1 → W p l e R s m args below meth c H1 locs1 cells slots Q (F0 m (pc + 3) ls rest)) : W p l e R s m args below meth c H locs cells slots Q (F0 m pc ls (.int v :: .ref (ead E 2) :: rest)) :=
  va_put (D := D) (ci := 3) (v := .int v) (ty := .int) (C := RX3) (T := TX3) (N := 4) C.x C.b (C.tb.args args) inlX3 tyX3 tyX3_ok nmX3 C.ow C.k h.1 h.2.1 h.2.2 2 rfl rfl 2 (by decide) (C.w args (w := Cond.fieldLink RX6 79 "IcePad$Runway" "ploughs" "I") m_fl_X6_79) (fun _ h9 => h9) rfl (by decide +kernel) rfl rfl (Nat.le_of_ble_eq_true rfl) dg (fun H1 locs1 hP hD hS => kk H1 locs1 (hw_of (wset_7 v) hP hD hS))
theorem g_X7_103 (C : CX p s m meth c cc RX7 nL D E A) (h : HW D E σ A s H locs) (dg : decode cc pc = .ok (.getfield 103, 3)) (kk : W p l e R s m args below meth c H locs cells slots Q (F0 m (pc + 3) ls (.int (σ 52 0) :: rest))) : W p l e R s m args below meth c H locs cells slots Q (F0 m pc ls (.ref (ead E 15) :: rest)) :=
  va_get (D := D) (ci := 7) (C := RX7) (T := TX7) (N := 35) C.x C.b (C.tb.args args) inlX7 C.ow C.k h.1 15 rfl rfl 12 (by decide) (C.w args (w := Cond.fieldLink RX7 103 "IcePadModel" "ploughs" "I") m_fl_X7_103) (fun _ h9 => h9) rfl dg kk
theorem p_X7_103 {v : Int32} (C : CX p s m meth c cc RX7 nL D E A) (h : HW D E σ A s H locs) (dg : decode cc pc = .ok (.putfield 103, 3)) (kk : ∀ (H1 : Heap) (locs1 : List Loc), HW D E (up2 σ 52 0 v) A s H1 locs1 → W p l e R s m args below meth c H1 locs1 cells slots Q (F0 m (pc + 3) ls rest)) : W p l e R s m args below meth c H locs cells slots Q (F0 m pc ls (.int v :: .ref (ead E 15) :: rest)) :=
  va_put (D := D) (ci := 7) (v := .int v) (ty := .int) (C := RX7) (T := TX7) (N := 35) C.x C.b (C.tb.args args) inlX7 tyX7 tyX7_ok nmX7 C.ow C.k h.1 h.2.1 h.2.2 15 rfl rfl 12 (by decide) (C.w args (w := Cond.fieldLink RX7 103 "IcePadModel" "ploughs" "I") m_fl_X7_103) (fun _ h9 => h9) rfl (by decide +kernel) rfl rfl (Nat.le_of_ble_eq_true rfl) dg (fun H1 locs1 hP hD hS => kk H1 locs1 (hw_of (wset_52 v) hP hD hS))
theorem g_X6_82 (C : CX p s m meth c cc RX6 nL D E A) (h : HW D E σ A s H locs) {t : Nat} (ht : t < 3) (dg : decode cc pc = .ok (.getfield 82, 3)) (kk : W p l e R s m args below meth c H locs cells slots Q (F0 m (pc + 3) ls (.int (σ 12 t) :: rest))) : W p l e R s m args below meth c H locs cells slots Q (F0 m pc ls (.ref (ead E (4 + t)) :: rest)) :=
  va_get (D := D) (ci := 4) (C := RX4) (T := TX4) (N := 5) C.x C.b (C.tb.args args) inlX4 C.ow C.k h.1 (4 + t) (wd_t σ ht) rfl 3 (by decide) (C.w args (w := Cond.fieldLink RX6 82 "IcePad$Third" "reportMinute" "I") m_fl_X6_82) (fun _ h9 => h9) rfl dg kk
theorem p_X6_82 {v : Int32} (C : CX p s m meth c cc RX6 nL D E A) (h : HW D E σ A s H locs) {t : Nat} (ht : t < 3) (dg : decode cc pc = .ok (.putfield 82, 3)) (kk : ∀ (H1 : Heap) (locs1 : List Loc), HW D E (up2 σ 12 t v) A s H1 locs1 → W p l e R s m args below meth c H1 locs1 cells slots Q (F0 m (pc + 3) ls rest)) : W p l e R s m args below meth c H locs cells slots Q (F0 m pc ls (.int v :: .ref (ead E (4 + t)) :: rest)) :=
  va_put (D := D) (ci := 4) (v := .int v) (ty := .int) (C := RX4) (T := TX4) (N := 5) C.x C.b (C.tb.args args) inlX4 tyX4 tyX4_ok nmX4 C.ow C.k h.1 h.2.1 h.2.2 (4 + t) (wd_t σ ht) rfl 3 (by decide) (C.w args (w := Cond.fieldLink RX6 82 "IcePad$Third" "reportMinute" "I") m_fl_X6_82) (fun _ h9 => h9) rfl (by decide +kernel) rfl rfl (Nat.le_of_ble_eq_true rfl) dg (fun H1 locs1 hP hD hS => kk H1 locs1 (hw_of (wset_12 v ht) hP hD hS))
theorem g_X6_85 (C : CX p s m meth c cc RX6 nL D E A) (h : HW D E σ A s H locs) {t : Nat} (ht : t < 3) (dg : decode cc pc = .ok (.getfield 85, 3)) (kk : W p l e R s m args below meth c H locs cells slots Q (F0 m (pc + 3) ls (.int (σ 13 t) :: rest))) : W p l e R s m args below meth c H locs cells slots Q (F0 m pc ls (.ref (ead E (4 + t)) :: rest)) :=
  va_get (D := D) (ci := 4) (C := RX4) (T := TX4) (N := 5) C.x C.b (C.tb.args args) inlX4 C.ow C.k h.1 (4 + t) (wd_t σ ht) rfl 4 (by decide) (C.w args (w := Cond.fieldLink RX6 85 "IcePad$Third" "reportCode" "I") m_fl_X6_85) (fun _ h9 => h9) rfl dg kk
theorem p_X6_85 {v : Int32} (C : CX p s m meth c cc RX6 nL D E A) (h : HW D E σ A s H locs) {t : Nat} (ht : t < 3) (dg : decode cc pc = .ok (.putfield 85, 3)) (kk : ∀ (H1 : Heap) (locs1 : List Loc), HW D E (up2 σ 13 t v) A s H1 locs1 → W p l e R s m args below meth c H1 locs1 cells slots Q (F0 m (pc + 3) ls rest)) : W p l e R s m args below meth c H locs cells slots Q (F0 m pc ls (.int v :: .ref (ead E (4 + t)) :: rest)) :=
  va_put (D := D) (ci := 4) (v := .int v) (ty := .int) (C := RX4) (T := TX4) (N := 5) C.x C.b (C.tb.args args) inlX4 tyX4 tyX4_ok nmX4 C.ow C.k h.1 h.2.1 h.2.2 (4 + t) (wd_t σ ht) rfl 4 (by decide) (C.w args (w := Cond.fieldLink RX6 85 "IcePad$Third" "reportCode" "I") m_fl_X6_85) (fun _ h9 => h9) rfl (by decide +kernel) rfl rfl (Nat.le_of_ble_eq_true rfl) dg (fun H1 locs1 hP hD hS => kk H1 locs1 (hw_of (wset_13 v ht) hP hD hS))
theorem g_X4_33 (C : CX p s m meth c cc RX4 nL D E A) (h : HW D E σ A s H locs) {t : Nat} (ht : t < 3) (dg : decode cc pc = .ok (.getfield 33, 3)) (kk : W p l e R s m args below meth c H locs cells slots Q (F0 m (pc + 3) ls (.int (σ 13 t) :: rest))) : W p l e R s m args below meth c H locs cells slots Q (F0 m pc ls (.ref (ead E (4 + t)) :: rest)) :=
  va_get (D := D) (ci := 4) (C := RX4) (T := TX4) (N := 5) C.x C.b (C.tb.args args) inlX4 C.ow C.k h.1 (4 + t) (wd_t σ ht) rfl 4 (by decide) (C.w args (w := Cond.fieldLink RX4 33 "IcePad$Third" "reportCode" "I") m_fl_X4_33) (fun _ h9 => h9) rfl dg kk
theorem p_X4_33 {v : Int32} (C : CX p s m meth c cc RX4 nL D E A) (h : HW D E σ A s H locs) {t : Nat} (ht : t < 3) (dg : decode cc pc = .ok (.putfield 33, 3)) (kk : ∀ (H1 : Heap) (locs1 : List Loc), HW D E (up2 σ 13 t v) A s H1 locs1 → W p l e R s m args below meth c H1 locs1 cells slots Q (F0 m (pc + 3) ls rest)) : W p l e R s m args below meth c H locs cells slots Q (F0 m pc ls (.int v :: .ref (ead E (4 + t)) :: rest)) :=
  va_put (D := D) (ci := 4) (v := .int v) (ty := .int) (C := RX4) (T := TX4) (N := 5) C.x C.b (C.tb.args args) inlX4 tyX4 tyX4_ok nmX4 C.ow C.k h.1 h.2.1 h.2.2 (4 + t) (wd_t σ ht) rfl 4 (by decide) (C.w args (w := Cond.fieldLink RX4 33 "IcePad$Third" "reportCode" "I") m_fl_X4_33) (fun _ h9 => h9) rfl (by decide +kernel) rfl rfl (Nat.le_of_ble_eq_true rfl) dg (fun H1 locs1 hP hD hS => kk H1 locs1 (hw_of (wset_13 v ht) hP hD hS))
theorem g_X4_21 (C : CX p s m meth c cc RX4 nL D E A) (h : HW D E σ A s H locs) (dg : decode cc pc = .ok (.getfield 21, 3)) (kk : W p l e R s m args below meth c H locs cells slots Q (F0 m (pc + 3) ls (.int (σ 2 0) :: rest))) : W p l e R s m args below meth c H locs cells slots Q (F0 m pc ls (.ref (ead E 1) :: rest)) :=
  va_get (D := D) (ci := 5) (C := RX5) (T := TX5) (N := 4) C.x C.b (C.tb.args args) inlX5 C.ow C.k h.1 1 rfl rfl 0 (by decide) (C.w args (w := Cond.fieldLink RX4 21 "IcePad$Weather" "temperature" "I") m_fl_X4_21) (fun _ h9 => h9) rfl dg kk
theorem p_X4_21 {v : Int32} (C : CX p s m meth c cc RX4 nL D E A) (h : HW D E σ A s H locs) (dg : decode cc pc = .ok (.putfield 21, 3)) (kk : ∀ (H1 : Heap) (locs1 : List Loc), HW D E (up2 σ 2 0 v) A s H1 locs1 → W p l e R s m args below meth c H1 locs1 cells slots Q (F0 m (pc + 3) ls rest)) : W p l e R s m args below meth c H locs cells slots Q (F0 m pc ls (.int v :: .ref (ead E 1) :: rest)) :=
  va_put (D := D) (ci := 5) (v := .int v) (ty := .int) (C := RX5) (T := TX5) (N := 4) C.x C.b (C.tb.args args) inlX5 tyX5 tyX5_ok nmX5 C.ow C.k h.1 h.2.1 h.2.2 1 rfl rfl 0 (by decide) (C.w args (w := Cond.fieldLink RX4 21 "IcePad$Weather" "temperature" "I") m_fl_X4_21) (fun _ h9 => h9) rfl (by decide +kernel) rfl rfl (Nat.le_of_ble_eq_true rfl) dg (fun H1 locs1 hP hD hS => kk H1 locs1 (hw_of (wset_2 v) hP hD hS))
theorem g_X4_26 (C : CX p s m meth c cc RX4 nL D E A) (h : HW D E σ A s H locs) {t : Nat} (ht : t < 3) (dg : decode cc pc = .ok (.getfield 26, 3)) (kk : W p l e R s m args below meth c H locs cells slots Q (F0 m (pc + 3) ls (.int (σ 10 t) :: rest))) : W p l e R s m args below meth c H locs cells slots Q (F0 m pc ls (.ref (ead E (4 + t)) :: rest)) :=
  va_get (D := D) (ci := 4) (C := RX4) (T := TX4) (N := 5) C.x C.b (C.tb.args args) inlX4 C.ow C.k h.1 (4 + t) (wd_t σ ht) rfl 1 (by decide) (C.w args (w := Cond.fieldLink RX4 26 "IcePad$Third" "depth" "I") m_fl_X4_26) (fun _ h9 => h9) rfl dg kk
theorem p_X4_26 {v : Int32} (C : CX p s m meth c cc RX4 nL D E A) (h : HW D E σ A s H locs) {t : Nat} (ht : t < 3) (dg : decode cc pc = .ok (.putfield 26, 3)) (kk : ∀ (H1 : Heap) (locs1 : List Loc), HW D E (up2 σ 10 t v) A s H1 locs1 → W p l e R s m args below meth c H1 locs1 cells slots Q (F0 m (pc + 3) ls rest)) : W p l e R s m args below meth c H locs cells slots Q (F0 m pc ls (.int v :: .ref (ead E (4 + t)) :: rest)) :=
  va_put (D := D) (ci := 4) (v := .int v) (ty := .int) (C := RX4) (T := TX4) (N := 5) C.x C.b (C.tb.args args) inlX4 tyX4 tyX4_ok nmX4 C.ow C.k h.1 h.2.1 h.2.2 (4 + t) (wd_t σ ht) rfl 1 (by decide) (C.w args (w := Cond.fieldLink RX4 26 "IcePad$Third" "depth" "I") m_fl_X4_26) (fun _ h9 => h9) rfl (by decide +kernel) rfl rfl (Nat.le_of_ble_eq_true rfl) dg (fun H1 locs1 hP hD hS => kk H1 locs1 (hw_of (wset_10 v ht) hP hD hS))
theorem g_X6_92 (C : CX p s m meth c cc RX6 nL D E A) (h : HW D E σ A s H locs) (dg : decode cc pc = .ok (.getfield 92, 3)) (kk : W p l e R s m args below meth c H locs cells slots Q (F0 m (pc + 3) ls (.ref (ead E 8) :: rest))) : W p l e R s m args below meth c H locs cells slots Q (F0 m pc ls (.ref (ead E 7) :: rest)) :=
  va_get (D := D) (ci := 2) (C := RX2) (T := TX2) (N := 3) C.x C.b (C.tb.args args) inlX2 C.ow C.k h.1 7 rfl rfl 0 (by decide) (C.w args (w := Cond.fieldLink RX6 92 "IcePad$Fluids" "tanks" "[I") m_fl_X6_92) (fun _ h9 => h9) rfl dg kk
theorem g_X6_101 (C : CX p s m meth c cc RX6 nL D E A) (h : HW D E σ A s H locs) (dg : decode cc pc = .ok (.getfield 101, 3)) (kk : W p l e R s m args below meth c H locs cells slots Q (F0 m (pc + 3) ls (.int (σ 18 0) :: rest))) : W p l e R s m args below meth c H locs cells slots Q (F0 m pc ls (.ref (ead E 7) :: rest)) :=
  va_get (D := D) (ci := 2) (C := RX2) (T := TX2) (N := 3) C.x C.b (C.tb.args args) inlX2 C.ow C.k h.1 7 rfl rfl 2 (by decide) (C.w args (w := Cond.fieldLink RX6 101 "IcePad$Fluids" "supplied" "I") m_fl_X6_101) (fun _ h9 => h9) rfl dg kk
theorem p_X6_101 {v : Int32} (C : CX p s m meth c cc RX6 nL D E A) (h : HW D E σ A s H locs) (dg : decode cc pc = .ok (.putfield 101, 3)) (kk : ∀ (H1 : Heap) (locs1 : List Loc), HW D E (up2 σ 18 0 v) A s H1 locs1 → W p l e R s m args below meth c H1 locs1 cells slots Q (F0 m (pc + 3) ls rest)) : W p l e R s m args below meth c H locs cells slots Q (F0 m pc ls (.int v :: .ref (ead E 7) :: rest)) :=
  va_put (D := D) (ci := 2) (v := .int v) (ty := .int) (C := RX2) (T := TX2) (N := 3) C.x C.b (C.tb.args args) inlX2 tyX2 tyX2_ok nmX2 C.ow C.k h.1 h.2.1 h.2.2 7 rfl rfl 2 (by decide) (C.w args (w := Cond.fieldLink RX6 101 "IcePad$Fluids" "supplied" "I") m_fl_X6_101) (fun _ h9 => h9) rfl (by decide +kernel) rfl rfl (Nat.le_of_ble_eq_true rfl) dg (fun H1 locs1 hP hD hS => kk H1 locs1 (hw_of (wset_18 v) hP hD hS))
theorem g_X7_117 (C : CX p s m meth c cc RX7 nL D E A) (h : HW D E σ A s H locs) (dg : decode cc pc = .ok (.getfield 117, 3)) (kk : W p l e R s m args below meth c H locs cells slots Q (F0 m (pc + 3) ls (.int (σ 68 0) :: rest))) : W p l e R s m args below meth c H locs cells slots Q (F0 m pc ls (.ref (ead E 15) :: rest)) :=
  va_get (D := D) (ci := 7) (C := RX7) (T := TX7) (N := 35) C.x C.b (C.tb.args args) inlX7 C.ow C.k h.1 15 rfl rfl 28 (by decide) (C.w args (w := Cond.fieldLink RX7 117 "IcePadModel" "supplied" "I") m_fl_X7_117) (fun _ h9 => h9) rfl dg kk
theorem p_X7_117 {v : Int32} (C : CX p s m meth c cc RX7 nL D E A) (h : HW D E σ A s H locs) (dg : decode cc pc = .ok (.putfield 117, 3)) (kk : ∀ (H1 : Heap) (locs1 : List Loc), HW D E (up2 σ 68 0 v) A s H1 locs1 → W p l e R s m args below meth c H1 locs1 cells slots Q (F0 m (pc + 3) ls rest)) : W p l e R s m args below meth c H locs cells slots Q (F0 m pc ls (.int v :: .ref (ead E 15) :: rest)) :=
  va_put (D := D) (ci := 7) (v := .int v) (ty := .int) (C := RX7) (T := TX7) (N := 35) C.x C.b (C.tb.args args) inlX7 tyX7 tyX7_ok nmX7 C.ow C.k h.1 h.2.1 h.2.2 15 rfl rfl 28 (by decide) (C.w args (w := Cond.fieldLink RX7 117 "IcePadModel" "supplied" "I") m_fl_X7_117) (fun _ h9 => h9) rfl (by decide +kernel) rfl rfl (Nat.le_of_ble_eq_true rfl) dg (fun H1 locs1 hP hD hS => kk H1 locs1 (hw_of (wset_68 v) hP hD hS))
theorem g_X6_104 (C : CX p s m meth c cc RX6 nL D E A) (h : HW D E σ A s H locs) (dg : decode cc pc = .ok (.getfield 104, 3)) (kk : W p l e R s m args below meth c H locs cells slots Q (F0 m (pc + 3) ls (.ref (ead E 9) :: rest))) : W p l e R s m args below meth c H locs cells slots Q (F0 m pc ls (.ref (ead E 7) :: rest)) :=
  va_get (D := D) (ci := 2) (C := RX2) (T := TX2) (N := 3) C.x C.b (C.tb.args args) inlX2 C.ow C.k h.1 7 rfl rfl 1 (by decide) (C.w args (w := Cond.fieldLink RX6 104 "IcePad$Fluids" "minutes" "[[I") m_fl_X6_104) (fun _ h9 => h9) rfl dg kk
theorem g_X6_108 (C : CX p s m meth c cc RX6 nL D E A) (h : HW D E σ A s H locs) (dg : decode cc pc = .ok (.getfield 108, 3)) (kk : W p l e R s m args below meth c H locs cells slots Q (F0 m (pc + 3) ls (.int (σ 1 0) :: rest))) : W p l e R s m args below meth c H locs cells slots Q (F0 m pc ls (.ref (ead E 0) :: rest)) :=
  va_get (D := D) (ci := 6) (C := RX6) (T := TX6) (N := 7) C.x C.b (C.tb.args args) inlX6 C.ow C.k h.1 0 rfl rfl 5 (by decide) (C.w args (w := Cond.fieldLink RX6 108 "IcePad" "fleetSize" "I") m_fl_X6_108) (fun _ h9 => h9) rfl dg kk
theorem p_X6_108 {v : Int32} (C : CX p s m meth c cc RX6 nL D E A) (h : HW D E σ A s H locs) (dg : decode cc pc = .ok (.putfield 108, 3)) (kk : ∀ (H1 : Heap) (locs1 : List Loc), HW D E (up2 σ 1 0 v) A s H1 locs1 → W p l e R s m args below meth c H1 locs1 cells slots Q (F0 m (pc + 3) ls rest)) : W p l e R s m args below meth c H locs cells slots Q (F0 m pc ls (.int v :: .ref (ead E 0) :: rest)) :=
  va_put (D := D) (ci := 6) (v := .int v) (ty := .int) (C := RX6) (T := TX6) (N := 7) C.x C.b (C.tb.args args) inlX6 tyX6 tyX6_ok nmX6 C.ow C.k h.1 h.2.1 h.2.2 0 rfl rfl 5 (by decide) (C.w args (w := Cond.fieldLink RX6 108 "IcePad" "fleetSize" "I") m_fl_X6_108) (fun _ h9 => h9) rfl (by decide +kernel) rfl rfl (Nat.le_of_ble_eq_true rfl) dg (fun H1 locs1 hP hD hS => kk H1 locs1 (hw_of (wset_1 v) hP hD hS))
theorem g_X0_9 (C : CX p s m meth c cc RX0 nL D E A) (h : HW D E σ A s H locs) {k : Nat} (hk : k < en E) (dg : decode cc pc = .ok (.getfield 9, 3)) (kk : W p l e R s m args below meth c H locs cells slots Q (F0 m (pc + 3) ls (.int (σ 28 k) :: rest))) : W p l e R s m args below meth c H locs cells slots Q (F0 m pc ls (.ref (ead E (37 + k)) :: rest)) :=
  va_get (D := D) (ci := 0) (C := RX0) (T := TX0) (N := 12) C.x C.b (C.tb.args args) inlX0 C.ow C.k h.1 (37 + k) (wd_k σ hk) rfl 3 (by decide) (C.w args (w := Cond.fieldLink RX0 9 "IcePad$Aircraft" "state" "I") m_fl_X0_9) (fun _ h9 => h9) rfl dg kk
theorem p_X0_9 {v : Int32} (C : CX p s m meth c cc RX0 nL D E A) (h : HW D E σ A s H locs) {k : Nat} (hk : k < en E) (dg : decode cc pc = .ok (.putfield 9, 3)) (kk : ∀ (H1 : Heap) (locs1 : List Loc), HW D E (up2 σ 28 k v) A s H1 locs1 → W p l e R s m args below meth c H1 locs1 cells slots Q (F0 m (pc + 3) ls rest)) : W p l e R s m args below meth c H locs cells slots Q (F0 m pc ls (.int v :: .ref (ead E (37 + k)) :: rest)) :=
  va_put (D := D) (ci := 0) (v := .int v) (ty := .int) (C := RX0) (T := TX0) (N := 12) C.x C.b (C.tb.args args) inlX0 tyX0 tyX0_ok nmX0 C.ow C.k h.1 h.2.1 h.2.2 (37 + k) (wd_k σ hk) rfl 3 (by decide) (C.w args (w := Cond.fieldLink RX0 9 "IcePad$Aircraft" "state" "I") m_fl_X0_9) (fun _ h9 => h9) rfl (by decide +kernel) rfl rfl (Nat.le_of_ble_eq_true rfl) dg (fun H1 locs1 hP hD hS => kk H1 locs1 (hw_of (wset_28 v hk) hP hD hS))
theorem g_X0_15 (C : CX p s m meth c cc RX0 nL D E A) (h : HW D E σ A s H locs) {k : Nat} (hk : k < en E) (dg : decode cc pc = .ok (.getfield 15, 3)) (kk : W p l e R s m args below meth c H locs cells slots Q (F0 m (pc + 3) ls (.int (σ 29 k) :: rest))) : W p l e R s m args below meth c H locs cells slots Q (F0 m pc ls (.ref (ead E (37 + k)) :: rest)) :=
  va_get (D := D) (ci := 0) (C := RX0) (T := TX0) (N := 12) C.x C.b (C.tb.args args) inlX0 C.ow C.k h.1 (37 + k) (wd_k σ hk) rfl 4 (by decide) (C.w args (w := Cond.fieldLink RX0 15 "IcePad$Aircraft" "leftMinute" "I") m_fl_X0_15) (fun _ h9 => h9) rfl dg kk
theorem p_X0_15 {v : Int32} (C : CX p s m meth c cc RX0 nL D E A) (h : HW D E σ A s H locs) {k : Nat} (hk : k < en E) (dg : decode cc pc = .ok (.putfield 15, 3)) (kk : ∀ (H1 : Heap) (locs1 : List Loc), HW D E (up2 σ 29 k v) A s H1 locs1 → W p l e R s m args below meth c H1 locs1 cells slots Q (F0 m (pc + 3) ls rest)) : W p l e R s m args below meth c H locs cells slots Q (F0 m pc ls (.int v :: .ref (ead E (37 + k)) :: rest)) :=
  va_put (D := D) (ci := 0) (v := .int v) (ty := .int) (C := RX0) (T := TX0) (N := 12) C.x C.b (C.tb.args args) inlX0 tyX0 tyX0_ok nmX0 C.ow C.k h.1 h.2.1 h.2.2 (37 + k) (wd_k σ hk) rfl 4 (by decide) (C.w args (w := Cond.fieldLink RX0 15 "IcePad$Aircraft" "leftMinute" "I") m_fl_X0_15) (fun _ h9 => h9) rfl (by decide +kernel) rfl rfl (Nat.le_of_ble_eq_true rfl) dg (fun H1 locs1 hP hD hS => kk H1 locs1 (hw_of (wset_29 v hk) hP hD hS))
theorem g_X0_18 (C : CX p s m meth c cc RX0 nL D E A) (h : HW D E σ A s H locs) {k : Nat} (hk : k < en E) (dg : decode cc pc = .ok (.getfield 18, 3)) (kk : W p l e R s m args below meth c H locs cells slots Q (F0 m (pc + 3) ls (.int (σ 25 k) :: rest))) : W p l e R s m args below meth c H locs cells slots Q (F0 m pc ls (.ref (ead E (37 + k)) :: rest)) :=
  va_get (D := D) (ci := 0) (C := RX0) (T := TX0) (N := 12) C.x C.b (C.tb.args args) inlX0 C.ow C.k h.1 (37 + k) (wd_k σ hk) rfl 0 (by decide) (C.w args (w := Cond.fieldLink RX0 18 "IcePad$Aircraft" "span" "I") m_fl_X0_18) (fun _ h9 => h9) rfl dg kk
theorem g_X0_21 (C : CX p s m meth c cc RX0 nL D E A) (h : HW D E σ A s H locs) {k : Nat} (hk : k < en E) (dg : decode cc pc = .ok (.getfield 21, 3)) (kk : W p l e R s m args below meth c H locs cells slots Q (F0 m (pc + 3) ls (.int (σ 26 k) :: rest))) : W p l e R s m args below meth c H locs cells slots Q (F0 m pc ls (.ref (ead E (37 + k)) :: rest)) :=
  va_get (D := D) (ci := 0) (C := RX0) (T := TX0) (N := 12) C.x C.b (C.tb.args args) inlX0 C.ow C.k h.1 (37 + k) (wd_k σ hk) rfl 1 (by decide) (C.w args (w := Cond.fieldLink RX0 21 "IcePad$Aircraft" "slot" "I") m_fl_X0_21) (fun _ h9 => h9) rfl dg kk
theorem g_X0_24 (C : CX p s m meth c cc RX0 nL D E A) (h : HW D E σ A s H locs) {k : Nat} (hk : k < en E) (dg : decode cc pc = .ok (.getfield 24, 3)) (kk : W p l e R s m args below meth c H locs cells slots Q (F0 m (pc + 3) ls (.int (σ 27 k) :: rest))) : W p l e R s m args below meth c H locs cells slots Q (F0 m pc ls (.ref (ead E (37 + k)) :: rest)) :=
  va_get (D := D) (ci := 0) (C := RX0) (T := TX0) (N := 12) C.x C.b (C.tb.args args) inlX0 C.ow C.k h.1 (37 + k) (wd_k σ hk) rfl 2 (by decide) (C.w args (w := Cond.fieldLink RX0 24 "IcePad$Aircraft" "duty" "I") m_fl_X0_24) (fun _ h9 => h9) rfl dg kk
theorem g_X7_81 (C : CX p s m meth c cc RX7 nL D E A) (h : HW D E σ A s H locs) (dg : decode cc pc = .ok (.getfield 81, 3)) (kk : W p l e R s m args below meth c H locs cells slots Q (F0 m (pc + 3) ls (.int (σ 55 0) :: rest))) : W p l e R s m args below meth c H locs cells slots Q (F0 m pc ls (.ref (ead E 15) :: rest)) :=
  va_get (D := D) (ci := 7) (C := RX7) (T := TX7) (N := 35) C.x C.b (C.tb.args args) inlX7 C.ow C.k h.1 15 rfl rfl 15 (by decide) (C.w args (w := Cond.fieldLink RX7 81 "IcePadModel" "many" "I") m_fl_X7_81) (fun _ h9 => h9) rfl dg kk
theorem p_X7_81 {v : Int32} (C : CX p s m meth c cc RX7 nL D E A) (h : HW D E σ A s H locs) (dg : decode cc pc = .ok (.putfield 81, 3)) (kk : ∀ (H1 : Heap) (locs1 : List Loc), HW D E (up2 σ 55 0 v) A s H1 locs1 → W p l e R s m args below meth c H1 locs1 cells slots Q (F0 m (pc + 3) ls rest)) : W p l e R s m args below meth c H locs cells slots Q (F0 m pc ls (.int v :: .ref (ead E 15) :: rest)) :=
  va_put (D := D) (ci := 7) (v := .int v) (ty := .int) (C := RX7) (T := TX7) (N := 35) C.x C.b (C.tb.args args) inlX7 tyX7 tyX7_ok nmX7 C.ow C.k h.1 h.2.1 h.2.2 15 rfl rfl 15 (by decide) (C.w args (w := Cond.fieldLink RX7 81 "IcePadModel" "many" "I") m_fl_X7_81) (fun _ h9 => h9) rfl (by decide +kernel) rfl rfl (Nat.le_of_ble_eq_true rfl) dg (fun H1 locs1 hP hD hS => kk H1 locs1 (hw_of (wset_55 v) hP hD hS))
theorem g_X6_120 (C : CX p s m meth c cc RX6 nL D E A) (h : HW D E σ A s H locs) {k : Nat} (hk : k < en E) (dg : decode cc pc = .ok (.getfield 120, 3)) (kk : W p l e R s m args below meth c H locs cells slots Q (F0 m (pc + 3) ls (.int (σ 28 k) :: rest))) : W p l e R s m args below meth c H locs cells slots Q (F0 m pc ls (.ref (ead E (37 + k)) :: rest)) :=
  va_get (D := D) (ci := 0) (C := RX0) (T := TX0) (N := 12) C.x C.b (C.tb.args args) inlX0 C.ow C.k h.1 (37 + k) (wd_k σ hk) rfl 3 (by decide) (C.w args (w := Cond.fieldLink RX6 120 "IcePad$Aircraft" "state" "I") m_fl_X6_120) (fun _ h9 => h9) rfl dg kk
theorem p_X6_120 {v : Int32} (C : CX p s m meth c cc RX6 nL D E A) (h : HW D E σ A s H locs) {k : Nat} (hk : k < en E) (dg : decode cc pc = .ok (.putfield 120, 3)) (kk : ∀ (H1 : Heap) (locs1 : List Loc), HW D E (up2 σ 28 k v) A s H1 locs1 → W p l e R s m args below meth c H1 locs1 cells slots Q (F0 m (pc + 3) ls rest)) : W p l e R s m args below meth c H locs cells slots Q (F0 m pc ls (.int v :: .ref (ead E (37 + k)) :: rest)) :=
  va_put (D := D) (ci := 0) (v := .int v) (ty := .int) (C := RX0) (T := TX0) (N := 12) C.x C.b (C.tb.args args) inlX0 tyX0 tyX0_ok nmX0 C.ow C.k h.1 h.2.1 h.2.2 (37 + k) (wd_k σ hk) rfl 3 (by decide) (C.w args (w := Cond.fieldLink RX6 120 "IcePad$Aircraft" "state" "I") m_fl_X6_120) (fun _ h9 => h9) rfl (by decide +kernel) rfl rfl (Nat.le_of_ble_eq_true rfl) dg (fun H1 locs1 hP hD hS => kk H1 locs1 (hw_of (wset_28 v hk) hP hD hS))
theorem g_X6_127 (C : CX p s m meth c cc RX6 nL D E A) (h : HW D E σ A s H locs) {k : Nat} (hk : k < en E) (dg : decode cc pc = .ok (.getfield 127, 3)) (kk : W p l e R s m args below meth c H locs cells slots Q (F0 m (pc + 3) ls (.int (σ 25 k) :: rest))) : W p l e R s m args below meth c H locs cells slots Q (F0 m pc ls (.ref (ead E (37 + k)) :: rest)) :=
  va_get (D := D) (ci := 0) (C := RX0) (T := TX0) (N := 12) C.x C.b (C.tb.args args) inlX0 C.ow C.k h.1 (37 + k) (wd_k σ hk) rfl 0 (by decide) (C.w args (w := Cond.fieldLink RX6 127 "IcePad$Aircraft" "span" "I") m_fl_X6_127) (fun _ h9 => h9) rfl dg kk
theorem g_X6_130 (C : CX p s m meth c cc RX6 nL D E A) (h : HW D E σ A s H locs) (dg : decode cc pc = .ok (.getfield 130, 3)) (kk : W p l e R s m args below meth c H locs cells slots Q (F0 m (pc + 3) ls (.int (σ 19 0) :: rest))) : W p l e R s m args below meth c H locs cells slots Q (F0 m pc ls (.ref (ead E 13) :: rest)) :=
  va_get (D := D) (ci := 1) (C := RX1) (T := TX1) (N := 6) C.x C.b (C.tb.args args) inlX1 C.ow C.k h.1 13 rfl rfl 0 (by decide) (C.w args (w := Cond.fieldLink RX6 130 "IcePad$Basin" "litres" "I") m_fl_X6_130) (fun _ h9 => h9) rfl dg kk
theorem p_X6_130 {v : Int32} (C : CX p s m meth c cc RX6 nL D E A) (h : HW D E σ A s H locs) (dg : decode cc pc = .ok (.putfield 130, 3)) (kk : ∀ (H1 : Heap) (locs1 : List Loc), HW D E (up2 σ 19 0 v) A s H1 locs1 → W p l e R s m args below meth c H1 locs1 cells slots Q (F0 m (pc + 3) ls rest)) : W p l e R s m args below meth c H locs cells slots Q (F0 m pc ls (.int v :: .ref (ead E 13) :: rest)) :=
  va_put (D := D) (ci := 1) (v := .int v) (ty := .int) (C := RX1) (T := TX1) (N := 6) C.x C.b (C.tb.args args) inlX1 tyX1 tyX1_ok nmX1 C.ow C.k h.1 h.2.1 h.2.2 13 rfl rfl 0 (by decide) (C.w args (w := Cond.fieldLink RX6 130 "IcePad$Basin" "litres" "I") m_fl_X6_130) (fun _ h9 => h9) rfl (by decide +kernel) rfl rfl (Nat.le_of_ble_eq_true rfl) dg (fun H1 locs1 hP hD hS => kk H1 locs1 (hw_of (wset_19 v) hP hD hS))
theorem g_X6_137 (C : CX p s m meth c cc RX6 nL D E A) (h : HW D E σ A s H locs) {k : Nat} (hk : k < en E) (dg : decode cc pc = .ok (.getfield 137, 3)) (kk : W p l e R s m args below meth c H locs cells slots Q (F0 m (pc + 3) ls (.int (σ 33 k) :: rest))) : W p l e R s m args below meth c H locs cells slots Q (F0 m pc ls (.ref (ead E (37 + k)) :: rest)) :=
  va_get (D := D) (ci := 0) (C := RX0) (T := TX0) (N := 12) C.x C.b (C.tb.args args) inlX0 C.ow C.k h.1 (37 + k) (wd_k σ hk) rfl 8 (by decide) (C.w args (w := Cond.fieldLink RX6 137 "IcePad$Aircraft" "fluid" "I") m_fl_X6_137) (fun _ h9 => h9) rfl dg kk
theorem p_X6_137 {v : Int32} (C : CX p s m meth c cc RX6 nL D E A) (h : HW D E σ A s H locs) {k : Nat} (hk : k < en E) (dg : decode cc pc = .ok (.putfield 137, 3)) (kk : ∀ (H1 : Heap) (locs1 : List Loc), HW D E (up2 σ 33 k v) A s H1 locs1 → W p l e R s m args below meth c H1 locs1 cells slots Q (F0 m (pc + 3) ls rest)) : W p l e R s m args below meth c H locs cells slots Q (F0 m pc ls (.int v :: .ref (ead E (37 + k)) :: rest)) :=
  va_put (D := D) (ci := 0) (v := .int v) (ty := .int) (C := RX0) (T := TX0) (N := 12) C.x C.b (C.tb.args args) inlX0 tyX0 tyX0_ok nmX0 C.ow C.k h.1 h.2.1 h.2.2 (37 + k) (wd_k σ hk) rfl 8 (by decide) (C.w args (w := Cond.fieldLink RX6 137 "IcePad$Aircraft" "fluid" "I") m_fl_X6_137) (fun _ h9 => h9) rfl (by decide +kernel) rfl rfl (Nat.le_of_ble_eq_true rfl) dg (fun H1 locs1 hP hD hS => kk H1 locs1 (hw_of (wset_33 v hk) hP hD hS))
theorem g_X6_140 (C : CX p s m meth c cc RX6 nL D E A) (h : HW D E σ A s H locs) {k : Nat} (hk : k < en E) (dg : decode cc pc = .ok (.getfield 140, 3)) (kk : W p l e R s m args below meth c H locs cells slots Q (F0 m (pc + 3) ls (.int (σ 34 k) :: rest))) : W p l e R s m args below meth c H locs cells slots Q (F0 m pc ls (.ref (ead E (37 + k)) :: rest)) :=
  va_get (D := D) (ci := 0) (C := RX0) (T := TX0) (N := 12) C.x C.b (C.tb.args args) inlX0 C.ow C.k h.1 (37 + k) (wd_k σ hk) rfl 9 (by decide) (C.w args (w := Cond.fieldLink RX6 140 "IcePad$Aircraft" "strength" "I") m_fl_X6_140) (fun _ h9 => h9) rfl dg kk
theorem p_X6_140 {v : Int32} (C : CX p s m meth c cc RX6 nL D E A) (h : HW D E σ A s H locs) {k : Nat} (hk : k < en E) (dg : decode cc pc = .ok (.putfield 140, 3)) (kk : ∀ (H1 : Heap) (locs1 : List Loc), HW D E (up2 σ 34 k v) A s H1 locs1 → W p l e R s m args below meth c H1 locs1 cells slots Q (F0 m (pc + 3) ls rest)) : W p l e R s m args below meth c H locs cells slots Q (F0 m pc ls (.int v :: .ref (ead E (37 + k)) :: rest)) :=
  va_put (D := D) (ci := 0) (v := .int v) (ty := .int) (C := RX0) (T := TX0) (N := 12) C.x C.b (C.tb.args args) inlX0 tyX0 tyX0_ok nmX0 C.ow C.k h.1 h.2.1 h.2.2 (37 + k) (wd_k σ hk) rfl 9 (by decide) (C.w args (w := Cond.fieldLink RX6 140 "IcePad$Aircraft" "strength" "I") m_fl_X6_140) (fun _ h9 => h9) rfl (by decide +kernel) rfl rfl (Nat.le_of_ble_eq_true rfl) dg (fun H1 locs1 hP hD hS => kk H1 locs1 (hw_of (wset_34 v hk) hP hD hS))
theorem g_X6_143 (C : CX p s m meth c cc RX6 nL D E A) (h : HW D E σ A s H locs) {k : Nat} (hk : k < en E) (dg : decode cc pc = .ok (.getfield 143, 3)) (kk : W p l e R s m args below meth c H locs cells slots Q (F0 m (pc + 3) ls (.int (σ 36 k) :: rest))) : W p l e R s m args below meth c H locs cells slots Q (F0 m pc ls (.ref (ead E (37 + k)) :: rest)) :=
  va_get (D := D) (ci := 0) (C := RX0) (T := TX0) (N := 12) C.x C.b (C.tb.args args) inlX0 C.ow C.k h.1 (37 + k) (wd_k σ hk) rfl 11 (by decide) (C.w args (w := Cond.fieldLink RX6 143 "IcePad$Aircraft" "cleanMinute" "I") m_fl_X6_143) (fun _ h9 => h9) rfl dg kk
theorem p_X6_143 {v : Int32} (C : CX p s m meth c cc RX6 nL D E A) (h : HW D E σ A s H locs) {k : Nat} (hk : k < en E) (dg : decode cc pc = .ok (.putfield 143, 3)) (kk : ∀ (H1 : Heap) (locs1 : List Loc), HW D E (up2 σ 36 k v) A s H1 locs1 → W p l e R s m args below meth c H1 locs1 cells slots Q (F0 m (pc + 3) ls rest)) : W p l e R s m args below meth c H locs cells slots Q (F0 m pc ls (.int v :: .ref (ead E (37 + k)) :: rest)) :=
  va_put (D := D) (ci := 0) (v := .int v) (ty := .int) (C := RX0) (T := TX0) (N := 12) C.x C.b (C.tb.args args) inlX0 tyX0 tyX0_ok nmX0 C.ow C.k h.1 h.2.1 h.2.2 (37 + k) (wd_k σ hk) rfl 11 (by decide) (C.w args (w := Cond.fieldLink RX6 143 "IcePad$Aircraft" "cleanMinute" "I") m_fl_X6_143) (fun _ h9 => h9) rfl (by decide +kernel) rfl rfl (Nat.le_of_ble_eq_true rfl) dg (fun H1 locs1 hP hD hS => kk H1 locs1 (hw_of (wset_36 v hk) hP hD hS))
theorem g_X6_195 (C : CX p s m meth c cc RX6 nL D E A) (h : HW D E σ A s H locs) {k : Nat} (hk : k < en E) (dg : decode cc pc = .ok (.getfield 195, 3)) (kk : W p l e R s m args below meth c H locs cells slots Q (F0 m (pc + 3) ls (.int (σ 32 k) :: rest))) : W p l e R s m args below meth c H locs cells slots Q (F0 m pc ls (.ref (ead E (37 + k)) :: rest)) :=
  va_get (D := D) (ci := 0) (C := RX0) (T := TX0) (N := 12) C.x C.b (C.tb.args args) inlX0 C.ow C.k h.1 (37 + k) (wd_k σ hk) rfl 7 (by decide) (C.w args (w := Cond.fieldLink RX6 195 "IcePad$Aircraft" "pad" "I") m_fl_X6_195) (fun _ h9 => h9) rfl dg kk
theorem p_X6_195 {v : Int32} (C : CX p s m meth c cc RX6 nL D E A) (h : HW D E σ A s H locs) {k : Nat} (hk : k < en E) (dg : decode cc pc = .ok (.putfield 195, 3)) (kk : ∀ (H1 : Heap) (locs1 : List Loc), HW D E (up2 σ 32 k v) A s H1 locs1 → W p l e R s m args below meth c H1 locs1 cells slots Q (F0 m (pc + 3) ls rest)) : W p l e R s m args below meth c H locs cells slots Q (F0 m pc ls (.int v :: .ref (ead E (37 + k)) :: rest)) :=
  va_put (D := D) (ci := 0) (v := .int v) (ty := .int) (C := RX0) (T := TX0) (N := 12) C.x C.b (C.tb.args args) inlX0 tyX0 tyX0_ok nmX0 C.ow C.k h.1 h.2.1 h.2.2 (37 + k) (wd_k σ hk) rfl 7 (by decide) (C.w args (w := Cond.fieldLink RX6 195 "IcePad$Aircraft" "pad" "I") m_fl_X6_195) (fun _ h9 => h9) rfl (by decide +kernel) rfl rfl (Nat.le_of_ble_eq_true rfl) dg (fun H1 locs1 hP hD hS => kk H1 locs1 (hw_of (wset_32 v hk) hP hD hS))
theorem g_X0_27 (C : CX p s m meth c cc RX0 nL D E A) (h : HW D E σ A s H locs) {k : Nat} (hk : k < en E) (dg : decode cc pc = .ok (.getfield 27, 3)) (kk : W p l e R s m args below meth c H locs cells slots Q (F0 m (pc + 3) ls (.int (σ 32 k) :: rest))) : W p l e R s m args below meth c H locs cells slots Q (F0 m pc ls (.ref (ead E (37 + k)) :: rest)) :=
  va_get (D := D) (ci := 0) (C := RX0) (T := TX0) (N := 12) C.x C.b (C.tb.args args) inlX0 C.ow C.k h.1 (37 + k) (wd_k σ hk) rfl 7 (by decide) (C.w args (w := Cond.fieldLink RX0 27 "IcePad$Aircraft" "pad" "I") m_fl_X0_27) (fun _ h9 => h9) rfl dg kk
theorem p_X0_27 {v : Int32} (C : CX p s m meth c cc RX0 nL D E A) (h : HW D E σ A s H locs) {k : Nat} (hk : k < en E) (dg : decode cc pc = .ok (.putfield 27, 3)) (kk : ∀ (H1 : Heap) (locs1 : List Loc), HW D E (up2 σ 32 k v) A s H1 locs1 → W p l e R s m args below meth c H1 locs1 cells slots Q (F0 m (pc + 3) ls rest)) : W p l e R s m args below meth c H locs cells slots Q (F0 m pc ls (.int v :: .ref (ead E (37 + k)) :: rest)) :=
  va_put (D := D) (ci := 0) (v := .int v) (ty := .int) (C := RX0) (T := TX0) (N := 12) C.x C.b (C.tb.args args) inlX0 tyX0 tyX0_ok nmX0 C.ow C.k h.1 h.2.1 h.2.2 (37 + k) (wd_k σ hk) rfl 7 (by decide) (C.w args (w := Cond.fieldLink RX0 27 "IcePad$Aircraft" "pad" "I") m_fl_X0_27) (fun _ h9 => h9) rfl (by decide +kernel) rfl rfl (Nat.le_of_ble_eq_true rfl) dg (fun H1 locs1 hP hD hS => kk H1 locs1 (hw_of (wset_32 v hk) hP hD hS))
theorem g_X0_30 (C : CX p s m meth c cc RX0 nL D E A) (h : HW D E σ A s H locs) {k : Nat} (hk : k < en E) (dg : decode cc pc = .ok (.getfield 30, 3)) (kk : W p l e R s m args below meth c H locs cells slots Q (F0 m (pc + 3) ls (.int (σ 30 k) :: rest))) : W p l e R s m args below meth c H locs cells slots Q (F0 m pc ls (.ref (ead E (37 + k)) :: rest)) :=
  va_get (D := D) (ci := 0) (C := RX0) (T := TX0) (N := 12) C.x C.b (C.tb.args args) inlX0 C.ow C.k h.1 (37 + k) (wd_k σ hk) rfl 5 (by decide) (C.w args (w := Cond.fieldLink RX0 30 "IcePad$Aircraft" "treatments" "I") m_fl_X0_30) (fun _ h9 => h9) rfl dg kk
theorem p_X0_30 {v : Int32} (C : CX p s m meth c cc RX0 nL D E A) (h : HW D E σ A s H locs) {k : Nat} (hk : k < en E) (dg : decode cc pc = .ok (.putfield 30, 3)) (kk : ∀ (H1 : Heap) (locs1 : List Loc), HW D E (up2 σ 30 k v) A s H1 locs1 → W p l e R s m args below meth c H1 locs1 cells slots Q (F0 m (pc + 3) ls rest)) : W p l e R s m args below meth c H locs cells slots Q (F0 m pc ls (.int v :: .ref (ead E (37 + k)) :: rest)) :=
  va_put (D := D) (ci := 0) (v := .int v) (ty := .int) (C := RX0) (T := TX0) (N := 12) C.x C.b (C.tb.args args) inlX0 tyX0 tyX0_ok nmX0 C.ow C.k h.1 h.2.1 h.2.2 (37 + k) (wd_k σ hk) rfl 5 (by decide) (C.w args (w := Cond.fieldLink RX0 30 "IcePad$Aircraft" "treatments" "I") m_fl_X0_30) (fun _ h9 => h9) rfl (by decide +kernel) rfl rfl (Nat.le_of_ble_eq_true rfl) dg (fun H1 locs1 hP hD hS => kk H1 locs1 (hw_of (wset_30 v hk) hP hD hS))
theorem g_X0_33 (C : CX p s m meth c cc RX0 nL D E A) (h : HW D E σ A s H locs) {k : Nat} (hk : k < en E) (dg : decode cc pc = .ok (.getfield 33, 3)) (kk : W p l e R s m args below meth c H locs cells slots Q (F0 m (pc + 3) ls (.int (σ 31 k) :: rest))) : W p l e R s m args below meth c H locs cells slots Q (F0 m pc ls (.ref (ead E (37 + k)) :: rest)) :=
  va_get (D := D) (ci := 0) (C := RX0) (T := TX0) (N := 12) C.x C.b (C.tb.args args) inlX0 C.ow C.k h.1 (37 + k) (wd_k σ hk) rfl 6 (by decide) (C.w args (w := Cond.fieldLink RX0 33 "IcePad$Aircraft" "litresOn" "I") m_fl_X0_33) (fun _ h9 => h9) rfl dg kk
theorem p_X0_33 {v : Int32} (C : CX p s m meth c cc RX0 nL D E A) (h : HW D E σ A s H locs) {k : Nat} (hk : k < en E) (dg : decode cc pc = .ok (.putfield 33, 3)) (kk : ∀ (H1 : Heap) (locs1 : List Loc), HW D E (up2 σ 31 k v) A s H1 locs1 → W p l e R s m args below meth c H1 locs1 cells slots Q (F0 m (pc + 3) ls rest)) : W p l e R s m args below meth c H locs cells slots Q (F0 m pc ls (.int v :: .ref (ead E (37 + k)) :: rest)) :=
  va_put (D := D) (ci := 0) (v := .int v) (ty := .int) (C := RX0) (T := TX0) (N := 12) C.x C.b (C.tb.args args) inlX0 tyX0 tyX0_ok nmX0 C.ow C.k h.1 h.2.1 h.2.2 (37 + k) (wd_k σ hk) rfl 6 (by decide) (C.w args (w := Cond.fieldLink RX0 33 "IcePad$Aircraft" "litresOn" "I") m_fl_X0_33) (fun _ h9 => h9) rfl (by decide +kernel) rfl rfl (Nat.le_of_ble_eq_true rfl) dg (fun H1 locs1 hP hD hS => kk H1 locs1 (hw_of (wset_31 v hk) hP hD hS))
theorem g_X0_36 (C : CX p s m meth c cc RX0 nL D E A) (h : HW D E σ A s H locs) {k : Nat} (hk : k < en E) (dg : decode cc pc = .ok (.getfield 36, 3)) (kk : W p l e R s m args below meth c H locs cells slots Q (F0 m (pc + 3) ls (.int (σ 35 k) :: rest))) : W p l e R s m args below meth c H locs cells slots Q (F0 m pc ls (.ref (ead E (37 + k)) :: rest)) :=
  va_get (D := D) (ci := 0) (C := RX0) (T := TX0) (N := 12) C.x C.b (C.tb.args args) inlX0 C.ow C.k h.1 (37 + k) (wd_k σ hk) rfl 10 (by decide) (C.w args (w := Cond.fieldLink RX0 36 "IcePad$Aircraft" "clockBegan" "I") m_fl_X0_36) (fun _ h9 => h9) rfl dg kk
theorem p_X0_36 {v : Int32} (C : CX p s m meth c cc RX0 nL D E A) (h : HW D E σ A s H locs) {k : Nat} (hk : k < en E) (dg : decode cc pc = .ok (.putfield 36, 3)) (kk : ∀ (H1 : Heap) (locs1 : List Loc), HW D E (up2 σ 35 k v) A s H1 locs1 → W p l e R s m args below meth c H1 locs1 cells slots Q (F0 m (pc + 3) ls rest)) : W p l e R s m args below meth c H locs cells slots Q (F0 m pc ls (.int v :: .ref (ead E (37 + k)) :: rest)) :=
  va_put (D := D) (ci := 0) (v := .int v) (ty := .int) (C := RX0) (T := TX0) (N := 12) C.x C.b (C.tb.args args) inlX0 tyX0 tyX0_ok nmX0 C.ow C.k h.1 h.2.1 h.2.2 (37 + k) (wd_k σ hk) rfl 10 (by decide) (C.w args (w := Cond.fieldLink RX0 36 "IcePad$Aircraft" "clockBegan" "I") m_fl_X0_36) (fun _ h9 => h9) rfl (by decide +kernel) rfl rfl (Nat.le_of_ble_eq_true rfl) dg (fun H1 locs1 hP hD hS => kk H1 locs1 (hw_of (wset_35 v hk) hP hD hS))
theorem g_X0_39 (C : CX p s m meth c cc RX0 nL D E A) (h : HW D E σ A s H locs) {k : Nat} (hk : k < en E) (dg : decode cc pc = .ok (.getfield 39, 3)) (kk : W p l e R s m args below meth c H locs cells slots Q (F0 m (pc + 3) ls (.int (σ 36 k) :: rest))) : W p l e R s m args below meth c H locs cells slots Q (F0 m pc ls (.ref (ead E (37 + k)) :: rest)) :=
  va_get (D := D) (ci := 0) (C := RX0) (T := TX0) (N := 12) C.x C.b (C.tb.args args) inlX0 C.ow C.k h.1 (37 + k) (wd_k σ hk) rfl 11 (by decide) (C.w args (w := Cond.fieldLink RX0 39 "IcePad$Aircraft" "cleanMinute" "I") m_fl_X0_39) (fun _ h9 => h9) rfl dg kk
theorem p_X0_39 {v : Int32} (C : CX p s m meth c cc RX0 nL D E A) (h : HW D E σ A s H locs) {k : Nat} (hk : k < en E) (dg : decode cc pc = .ok (.putfield 39, 3)) (kk : ∀ (H1 : Heap) (locs1 : List Loc), HW D E (up2 σ 36 k v) A s H1 locs1 → W p l e R s m args below meth c H1 locs1 cells slots Q (F0 m (pc + 3) ls rest)) : W p l e R s m args below meth c H locs cells slots Q (F0 m pc ls (.int v :: .ref (ead E (37 + k)) :: rest)) :=
  va_put (D := D) (ci := 0) (v := .int v) (ty := .int) (C := RX0) (T := TX0) (N := 12) C.x C.b (C.tb.args args) inlX0 tyX0 tyX0_ok nmX0 C.ow C.k h.1 h.2.1 h.2.2 (37 + k) (wd_k σ hk) rfl 11 (by decide) (C.w args (w := Cond.fieldLink RX0 39 "IcePad$Aircraft" "cleanMinute" "I") m_fl_X0_39) (fun _ h9 => h9) rfl (by decide +kernel) rfl rfl (Nat.le_of_ble_eq_true rfl) dg (fun H1 locs1 hP hD hS => kk H1 locs1 (hw_of (wset_36 v hk) hP hD hS))
theorem g_X7_126 (C : CX p s m meth c cc RX7 nL D E A) (h : HW D E σ A s H locs) (dg : decode cc pc = .ok (.getfield 126, 3)) (kk : W p l e R s m args below meth c H locs cells slots Q (F0 m (pc + 3) ls (.int (σ 69 0) :: rest))) : W p l e R s m args below meth c H locs cells slots Q (F0 m pc ls (.ref (ead E 15) :: rest)) :=
  va_get (D := D) (ci := 7) (C := RX7) (T := TX7) (N := 35) C.x C.b (C.tb.args args) inlX7 C.ow C.k h.1 15 rfl rfl 29 (by decide) (C.w args (w := Cond.fieldLink RX7 126 "IcePadModel" "basin" "I") m_fl_X7_126) (fun _ h9 => h9) rfl dg kk
theorem p_X7_126 {v : Int32} (C : CX p s m meth c cc RX7 nL D E A) (h : HW D E σ A s H locs) (dg : decode cc pc = .ok (.putfield 126, 3)) (kk : ∀ (H1 : Heap) (locs1 : List Loc), HW D E (up2 σ 69 0 v) A s H1 locs1 → W p l e R s m args below meth c H1 locs1 cells slots Q (F0 m (pc + 3) ls rest)) : W p l e R s m args below meth c H locs cells slots Q (F0 m pc ls (.int v :: .ref (ead E 15) :: rest)) :=
  va_put (D := D) (ci := 7) (v := .int v) (ty := .int) (C := RX7) (T := TX7) (N := 35) C.x C.b (C.tb.args args) inlX7 tyX7 tyX7_ok nmX7 C.ow C.k h.1 h.2.1 h.2.2 15 rfl rfl 29 (by decide) (C.w args (w := Cond.fieldLink RX7 126 "IcePadModel" "basin" "I") m_fl_X7_126) (fun _ h9 => h9) rfl (by decide +kernel) rfl rfl (Nat.le_of_ble_eq_true rfl) dg (fun H1 locs1 hP hD hS => kk H1 locs1 (hw_of (wset_69 v) hP hD hS))
theorem g_X6_150 (C : CX p s m meth c cc RX6 nL D E A) (h : HW D E σ A s H locs) (dg : decode cc pc = .ok (.getfield 150, 3)) (kk : W p l e R s m args below meth c H locs cells slots Q (F0 m (pc + 3) ls (.int (σ 22 0) :: rest))) : W p l e R s m args below meth c H locs cells slots Q (F0 m pc ls (.ref (ead E 13) :: rest)) :=
  va_get (D := D) (ci := 1) (C := RX1) (T := TX1) (N := 6) C.x C.b (C.tb.args args) inlX1 C.ow C.k h.1 13 rfl rfl 3 (by decide) (C.w args (w := Cond.fieldLink RX6 150 "IcePad$Basin" "permitADay" "I") m_fl_X6_150) (fun _ h9 => h9) rfl dg kk
theorem p_X6_150 {v : Int32} (C : CX p s m meth c cc RX6 nL D E A) (h : HW D E σ A s H locs) (dg : decode cc pc = .ok (.putfield 150, 3)) (kk : ∀ (H1 : Heap) (locs1 : List Loc), HW D E (up2 σ 22 0 v) A s H1 locs1 → W p l e R s m args below meth c H1 locs1 cells slots Q (F0 m (pc + 3) ls rest)) : W p l e R s m args below meth c H locs cells slots Q (F0 m pc ls (.int v :: .ref (ead E 13) :: rest)) :=
  va_put (D := D) (ci := 1) (v := .int v) (ty := .int) (C := RX1) (T := TX1) (N := 6) C.x C.b (C.tb.args args) inlX1 tyX1 tyX1_ok nmX1 C.ow C.k h.1 h.2.1 h.2.2 13 rfl rfl 3 (by decide) (C.w args (w := Cond.fieldLink RX6 150 "IcePad$Basin" "permitADay" "I") m_fl_X6_150) (fun _ h9 => h9) rfl (by decide +kernel) rfl rfl (Nat.le_of_ble_eq_true rfl) dg (fun H1 locs1 hP hD hS => kk H1 locs1 (hw_of (wset_22 v) hP hD hS))
theorem g_X6_157 (C : CX p s m meth c cc RX6 nL D E A) (h : HW D E σ A s H locs) (dg : decode cc pc = .ok (.getfield 157, 3)) (kk : W p l e R s m args below meth c H locs cells slots Q (F0 m (pc + 3) ls (.int (σ 21 0) :: rest))) : W p l e R s m args below meth c H locs cells slots Q (F0 m pc ls (.ref (ead E 13) :: rest)) :=
  va_get (D := D) (ci := 1) (C := RX1) (T := TX1) (N := 6) C.x C.b (C.tb.args args) inlX1 C.ow C.k h.1 13 rfl rfl 2 (by decide) (C.w args (w := Cond.fieldLink RX6 157 "IcePad$Basin" "river" "I") m_fl_X6_157) (fun _ h9 => h9) rfl dg kk
theorem p_X6_157 {v : Int32} (C : CX p s m meth c cc RX6 nL D E A) (h : HW D E σ A s H locs) (dg : decode cc pc = .ok (.putfield 157, 3)) (kk : ∀ (H1 : Heap) (locs1 : List Loc), HW D E (up2 σ 21 0 v) A s H1 locs1 → W p l e R s m args below meth c H1 locs1 cells slots Q (F0 m (pc + 3) ls rest)) : W p l e R s m args below meth c H locs cells slots Q (F0 m pc ls (.int v :: .ref (ead E 13) :: rest)) :=
  va_put (D := D) (ci := 1) (v := .int v) (ty := .int) (C := RX1) (T := TX1) (N := 6) C.x C.b (C.tb.args args) inlX1 tyX1 tyX1_ok nmX1 C.ow C.k h.1 h.2.1 h.2.2 13 rfl rfl 2 (by decide) (C.w args (w := Cond.fieldLink RX6 157 "IcePad$Basin" "river" "I") m_fl_X6_157) (fun _ h9 => h9) rfl (by decide +kernel) rfl rfl (Nat.le_of_ble_eq_true rfl) dg (fun H1 locs1 hP hD hS => kk H1 locs1 (hw_of (wset_21 v) hP hD hS))
theorem g_X6_160 (C : CX p s m meth c cc RX6 nL D E A) (h : HW D E σ A s H locs) (dg : decode cc pc = .ok (.getfield 160, 3)) (kk : W p l e R s m args below meth c H locs cells slots Q (F0 m (pc + 3) ls (.int (σ 23 0) :: rest))) : W p l e R s m args below meth c H locs cells slots Q (F0 m pc ls (.ref (ead E 13) :: rest)) :=
  va_get (D := D) (ci := 1) (C := RX1) (T := TX1) (N := 6) C.x C.b (C.tb.args args) inlX1 C.ow C.k h.1 13 rfl rfl 4 (by decide) (C.w args (w := Cond.fieldLink RX6 160 "IcePad$Basin" "riverDay" "I") m_fl_X6_160) (fun _ h9 => h9) rfl dg kk
theorem p_X6_160 {v : Int32} (C : CX p s m meth c cc RX6 nL D E A) (h : HW D E σ A s H locs) (dg : decode cc pc = .ok (.putfield 160, 3)) (kk : ∀ (H1 : Heap) (locs1 : List Loc), HW D E (up2 σ 23 0 v) A s H1 locs1 → W p l e R s m args below meth c H1 locs1 cells slots Q (F0 m (pc + 3) ls rest)) : W p l e R s m args below meth c H locs cells slots Q (F0 m pc ls (.int v :: .ref (ead E 13) :: rest)) :=
  va_put (D := D) (ci := 1) (v := .int v) (ty := .int) (C := RX1) (T := TX1) (N := 6) C.x C.b (C.tb.args args) inlX1 tyX1 tyX1_ok nmX1 C.ow C.k h.1 h.2.1 h.2.2 13 rfl rfl 4 (by decide) (C.w args (w := Cond.fieldLink RX6 160 "IcePad$Basin" "riverDay" "I") m_fl_X6_160) (fun _ h9 => h9) rfl (by decide +kernel) rfl rfl (Nat.le_of_ble_eq_true rfl) dg (fun H1 locs1 hP hD hS => kk H1 locs1 (hw_of (wset_23 v) hP hD hS))
theorem g_X6_163 (C : CX p s m meth c cc RX6 nL D E A) (h : HW D E σ A s H locs) (dg : decode cc pc = .ok (.getfield 163, 3)) (kk : W p l e R s m args below meth c H locs cells slots Q (F0 m (pc + 3) ls (.int (σ 24 0) :: rest))) : W p l e R s m args below meth c H locs cells slots Q (F0 m pc ls (.ref (ead E 13) :: rest)) :=
  va_get (D := D) (ci := 1) (C := RX1) (T := TX1) (N := 6) C.x C.b (C.tb.args args) inlX1 C.ow C.k h.1 13 rfl rfl 5 (by decide) (C.w args (w := Cond.fieldLink RX6 163 "IcePad$Basin" "riverThatDay" "I") m_fl_X6_163) (fun _ h9 => h9) rfl dg kk
theorem p_X6_163 {v : Int32} (C : CX p s m meth c cc RX6 nL D E A) (h : HW D E σ A s H locs) (dg : decode cc pc = .ok (.putfield 163, 3)) (kk : ∀ (H1 : Heap) (locs1 : List Loc), HW D E (up2 σ 24 0 v) A s H1 locs1 → W p l e R s m args below meth c H1 locs1 cells slots Q (F0 m (pc + 3) ls rest)) : W p l e R s m args below meth c H locs cells slots Q (F0 m pc ls (.int v :: .ref (ead E 13) :: rest)) :=
  va_put (D := D) (ci := 1) (v := .int v) (ty := .int) (C := RX1) (T := TX1) (N := 6) C.x C.b (C.tb.args args) inlX1 tyX1 tyX1_ok nmX1 C.ow C.k h.1 h.2.1 h.2.2 13 rfl rfl 5 (by decide) (C.w args (w := Cond.fieldLink RX6 163 "IcePad$Basin" "riverThatDay" "I") m_fl_X6_163) (fun _ h9 => h9) rfl (by decide +kernel) rfl rfl (Nat.le_of_ble_eq_true rfl) dg (fun H1 locs1 hP hD hS => kk H1 locs1 (hw_of (wset_24 v) hP hD hS))
theorem g_X1_15 (C : CX p s m meth c cc RX1 nL D E A) (h : HW D E σ A s H locs) (dg : decode cc pc = .ok (.getfield 15, 3)) (kk : W p l e R s m args below meth c H locs cells slots Q (F0 m (pc + 3) ls (.int (σ 23 0) :: rest))) : W p l e R s m args below meth c H locs cells slots Q (F0 m pc ls (.ref (ead E 13) :: rest)) :=
  va_get (D := D) (ci := 1) (C := RX1) (T := TX1) (N := 6) C.x C.b (C.tb.args args) inlX1 C.ow C.k h.1 13 rfl rfl 4 (by decide) (C.w args (w := Cond.fieldLink RX1 15 "IcePad$Basin" "riverDay" "I") m_fl_X1_15) (fun _ h9 => h9) rfl dg kk
theorem p_X1_15 {v : Int32} (C : CX p s m meth c cc RX1 nL D E A) (h : HW D E σ A s H locs) (dg : decode cc pc = .ok (.putfield 15, 3)) (kk : ∀ (H1 : Heap) (locs1 : List Loc), HW D E (up2 σ 23 0 v) A s H1 locs1 → W p l e R s m args below meth c H1 locs1 cells slots Q (F0 m (pc + 3) ls rest)) : W p l e R s m args below meth c H locs cells slots Q (F0 m pc ls (.int v :: .ref (ead E 13) :: rest)) :=
  va_put (D := D) (ci := 1) (v := .int v) (ty := .int) (C := RX1) (T := TX1) (N := 6) C.x C.b (C.tb.args args) inlX1 tyX1 tyX1_ok nmX1 C.ow C.k h.1 h.2.1 h.2.2 13 rfl rfl 4 (by decide) (C.w args (w := Cond.fieldLink RX1 15 "IcePad$Basin" "riverDay" "I") m_fl_X1_15) (fun _ h9 => h9) rfl (by decide +kernel) rfl rfl (Nat.le_of_ble_eq_true rfl) dg (fun H1 locs1 hP hD hS => kk H1 locs1 (hw_of (wset_23 v) hP hD hS))
theorem g_X1_18 (C : CX p s m meth c cc RX1 nL D E A) (h : HW D E σ A s H locs) (dg : decode cc pc = .ok (.getfield 18, 3)) (kk : W p l e R s m args below meth c H locs cells slots Q (F0 m (pc + 3) ls (.int (σ 24 0) :: rest))) : W p l e R s m args below meth c H locs cells slots Q (F0 m pc ls (.ref (ead E 13) :: rest)) :=
  va_get (D := D) (ci := 1) (C := RX1) (T := TX1) (N := 6) C.x C.b (C.tb.args args) inlX1 C.ow C.k h.1 13 rfl rfl 5 (by decide) (C.w args (w := Cond.fieldLink RX1 18 "IcePad$Basin" "riverThatDay" "I") m_fl_X1_18) (fun _ h9 => h9) rfl dg kk
theorem p_X1_18 {v : Int32} (C : CX p s m meth c cc RX1 nL D E A) (h : HW D E σ A s H locs) (dg : decode cc pc = .ok (.putfield 18, 3)) (kk : ∀ (H1 : Heap) (locs1 : List Loc), HW D E (up2 σ 24 0 v) A s H1 locs1 → W p l e R s m args below meth c H1 locs1 cells slots Q (F0 m (pc + 3) ls rest)) : W p l e R s m args below meth c H locs cells slots Q (F0 m pc ls (.int v :: .ref (ead E 13) :: rest)) :=
  va_put (D := D) (ci := 1) (v := .int v) (ty := .int) (C := RX1) (T := TX1) (N := 6) C.x C.b (C.tb.args args) inlX1 tyX1 tyX1_ok nmX1 C.ow C.k h.1 h.2.1 h.2.2 13 rfl rfl 5 (by decide) (C.w args (w := Cond.fieldLink RX1 18 "IcePad$Basin" "riverThatDay" "I") m_fl_X1_18) (fun _ h9 => h9) rfl (by decide +kernel) rfl rfl (Nat.le_of_ble_eq_true rfl) dg (fun H1 locs1 hP hD hS => kk H1 locs1 (hw_of (wset_24 v) hP hD hS))
theorem g_X7_133 (C : CX p s m meth c cc RX7 nL D E A) (h : HW D E σ A s H locs) (dg : decode cc pc = .ok (.getfield 133, 3)) (kk : W p l e R s m args below meth c H locs cells slots Q (F0 m (pc + 3) ls (.int (σ 72 0) :: rest))) : W p l e R s m args below meth c H locs cells slots Q (F0 m pc ls (.ref (ead E 15) :: rest)) :=
  va_get (D := D) (ci := 7) (C := RX7) (T := TX7) (N := 35) C.x C.b (C.tb.args args) inlX7 C.ow C.k h.1 15 rfl rfl 32 (by decide) (C.w args (w := Cond.fieldLink RX7 133 "IcePadModel" "releasedToday" "I") m_fl_X7_133) (fun _ h9 => h9) rfl dg kk
theorem p_X7_133 {v : Int32} (C : CX p s m meth c cc RX7 nL D E A) (h : HW D E σ A s H locs) (dg : decode cc pc = .ok (.putfield 133, 3)) (kk : ∀ (H1 : Heap) (locs1 : List Loc), HW D E (up2 σ 72 0 v) A s H1 locs1 → W p l e R s m args below meth c H1 locs1 cells slots Q (F0 m (pc + 3) ls rest)) : W p l e R s m args below meth c H locs cells slots Q (F0 m pc ls (.int v :: .ref (ead E 15) :: rest)) :=
  va_put (D := D) (ci := 7) (v := .int v) (ty := .int) (C := RX7) (T := TX7) (N := 35) C.x C.b (C.tb.args args) inlX7 tyX7 tyX7_ok nmX7 C.ow C.k h.1 h.2.1 h.2.2 15 rfl rfl 32 (by decide) (C.w args (w := Cond.fieldLink RX7 133 "IcePadModel" "releasedToday" "I") m_fl_X7_133) (fun _ h9 => h9) rfl (by decide +kernel) rfl rfl (Nat.le_of_ble_eq_true rfl) dg (fun H1 locs1 hP hD hS => kk H1 locs1 (hw_of (wset_72 v) hP hD hS))
theorem g_X7_136 (C : CX p s m meth c cc RX7 nL D E A) (h : HW D E σ A s H locs) (dg : decode cc pc = .ok (.getfield 136, 3)) (kk : W p l e R s m args below meth c H locs cells slots Q (F0 m (pc + 3) ls (.int (σ 71 0) :: rest))) : W p l e R s m args below meth c H locs cells slots Q (F0 m pc ls (.ref (ead E 15) :: rest)) :=
  va_get (D := D) (ci := 7) (C := RX7) (T := TX7) (N := 35) C.x C.b (C.tb.args args) inlX7 C.ow C.k h.1 15 rfl rfl 31 (by decide) (C.w args (w := Cond.fieldLink RX7 136 "IcePadModel" "released" "I") m_fl_X7_136) (fun _ h9 => h9) rfl dg kk
theorem p_X7_136 {v : Int32} (C : CX p s m meth c cc RX7 nL D E A) (h : HW D E σ A s H locs) (dg : decode cc pc = .ok (.putfield 136, 3)) (kk : ∀ (H1 : Heap) (locs1 : List Loc), HW D E (up2 σ 71 0 v) A s H1 locs1 → W p l e R s m args below meth c H1 locs1 cells slots Q (F0 m (pc + 3) ls rest)) : W p l e R s m args below meth c H locs cells slots Q (F0 m pc ls (.int v :: .ref (ead E 15) :: rest)) :=
  va_put (D := D) (ci := 7) (v := .int v) (ty := .int) (C := RX7) (T := TX7) (N := 35) C.x C.b (C.tb.args args) inlX7 tyX7 tyX7_ok nmX7 C.ow C.k h.1 h.2.1 h.2.2 15 rfl rfl 31 (by decide) (C.w args (w := Cond.fieldLink RX7 136 "IcePadModel" "released" "I") m_fl_X7_136) (fun _ h9 => h9) rfl (by decide +kernel) rfl rfl (Nat.le_of_ble_eq_true rfl) dg (fun H1 locs1 hP hD hS => kk H1 locs1 (hw_of (wset_71 v) hP hD hS))
theorem g_X4_40 (C : CX p s m meth c cc RX4 nL D E A) (h : HW D E σ A s H locs) (dg : decode cc pc = .ok (.getfield 40, 3)) (kk : W p l e R s m args below meth c H locs cells slots Q (F0 m (pc + 3) ls (.int (σ 3 0) :: rest))) : W p l e R s m args below meth c H locs cells slots Q (F0 m pc ls (.ref (ead E 1) :: rest)) :=
  va_get (D := D) (ci := 5) (C := RX5) (T := TX5) (N := 4) C.x C.b (C.tb.args args) inlX5 C.ow C.k h.1 1 rfl rfl 1 (by decide) (C.w args (w := Cond.fieldLink RX4 40 "IcePad$Weather" "fall" "I") m_fl_X4_40) (fun _ h9 => h9) rfl dg kk
theorem p_X4_40 {v : Int32} (C : CX p s m meth c cc RX4 nL D E A) (h : HW D E σ A s H locs) (dg : decode cc pc = .ok (.putfield 40, 3)) (kk : ∀ (H1 : Heap) (locs1 : List Loc), HW D E (up2 σ 3 0 v) A s H1 locs1 → W p l e R s m args below meth c H1 locs1 cells slots Q (F0 m (pc + 3) ls rest)) : W p l e R s m args below meth c H locs cells slots Q (F0 m pc ls (.int v :: .ref (ead E 1) :: rest)) :=
  va_put (D := D) (ci := 5) (v := .int v) (ty := .int) (C := RX5) (T := TX5) (N := 4) C.x C.b (C.tb.args args) inlX5 tyX5 tyX5_ok nmX5 C.ow C.k h.1 h.2.1 h.2.2 1 rfl rfl 1 (by decide) (C.w args (w := Cond.fieldLink RX4 40 "IcePad$Weather" "fall" "I") m_fl_X4_40) (fun _ h9 => h9) rfl (by decide +kernel) rfl rfl (Nat.le_of_ble_eq_true rfl) dg (fun H1 locs1 hP hD hS => kk H1 locs1 (hw_of (wset_3 v) hP hD hS))
theorem g_X4_43 (C : CX p s m meth c cc RX4 nL D E A) (h : HW D E σ A s H locs) (dg : decode cc pc = .ok (.getfield 43, 3)) (kk : W p l e R s m args below meth c H locs cells slots Q (F0 m (pc + 3) ls (.int (σ 4 0) :: rest))) : W p l e R s m args below meth c H locs cells slots Q (F0 m pc ls (.ref (ead E 1) :: rest)) :=
  va_get (D := D) (ci := 5) (C := RX5) (T := TX5) (N := 4) C.x C.b (C.tb.args args) inlX5 C.ow C.k h.1 1 rfl rfl 2 (by decide) (C.w args (w := Cond.fieldLink RX4 43 "IcePad$Weather" "rate" "I") m_fl_X4_43) (fun _ h9 => h9) rfl dg kk
theorem p_X4_43 {v : Int32} (C : CX p s m meth c cc RX4 nL D E A) (h : HW D E σ A s H locs) (dg : decode cc pc = .ok (.putfield 43, 3)) (kk : ∀ (H1 : Heap) (locs1 : List Loc), HW D E (up2 σ 4 0 v) A s H1 locs1 → W p l e R s m args below meth c H1 locs1 cells slots Q (F0 m (pc + 3) ls rest)) : W p l e R s m args below meth c H locs cells slots Q (F0 m pc ls (.int v :: .ref (ead E 1) :: rest)) :=
  va_put (D := D) (ci := 5) (v := .int v) (ty := .int) (C := RX5) (T := TX5) (N := 4) C.x C.b (C.tb.args args) inlX5 tyX5 tyX5_ok nmX5 C.ow C.k h.1 h.2.1 h.2.2 1 rfl rfl 2 (by decide) (C.w args (w := Cond.fieldLink RX4 43 "IcePad$Weather" "rate" "I") m_fl_X4_43) (fun _ h9 => h9) rfl (by decide +kernel) rfl rfl (Nat.le_of_ble_eq_true rfl) dg (fun H1 locs1 hP hD hS => kk H1 locs1 (hw_of (wset_4 v) hP hD hS))
theorem g_X3_47 (C : CX p s m meth c cc RX3 nL D E A) (h : HW D E σ A s H locs) (dg : decode cc pc = .ok (.getfield 47, 3)) (kk : W p l e R s m args below meth c H locs cells slots Q (F0 m (pc + 3) ls (.int (σ 7 0) :: rest))) : W p l e R s m args below meth c H locs cells slots Q (F0 m pc ls (.ref (ead E 2) :: rest)) :=
  va_get (D := D) (ci := 3) (C := RX3) (T := TX3) (N := 4) C.x C.b (C.tb.args args) inlX3 C.ow C.k h.1 2 rfl rfl 2 (by decide) (C.w args (w := Cond.fieldLink RX3 47 "IcePad$Runway" "ploughs" "I") m_fl_X3_47) (fun _ h9 => h9) rfl dg kk
theorem p_X3_47 {v : Int32} (C : CX p s m meth c cc RX3 nL D E A) (h : HW D E σ A s H locs) (dg : decode cc pc = .ok (.putfield 47, 3)) (kk : ∀ (H1 : Heap) (locs1 : List Loc), HW D E (up2 σ 7 0 v) A s H1 locs1 → W p l e R s m args below meth c H1 locs1 cells slots Q (F0 m (pc + 3) ls rest)) : W p l e R s m args below meth c H locs cells slots Q (F0 m pc ls (.int v :: .ref (ead E 2) :: rest)) :=
  va_put (D := D) (ci := 3) (v := .int v) (ty := .int) (C := RX3) (T := TX3) (N := 4) C.x C.b (C.tb.args args) inlX3 tyX3 tyX3_ok nmX3 C.ow C.k h.1 h.2.1 h.2.2 2 rfl rfl 2 (by decide) (C.w args (w := Cond.fieldLink RX3 47 "IcePad$Runway" "ploughs" "I") m_fl_X3_47) (fun _ h9 => h9) rfl (by decide +kernel) rfl rfl (Nat.le_of_ble_eq_true rfl) dg (fun H1 locs1 hP hD hS => kk H1 locs1 (hw_of (wset_7 v) hP hD hS))
theorem g_X3_54 (C : CX p s m meth c cc RX3 nL D E A) (h : HW D E σ A s H locs) (dg : decode cc pc = .ok (.getfield 54, 3)) (kk : W p l e R s m args below meth c H locs cells slots Q (F0 m (pc + 3) ls (.int (σ 8 0) :: rest))) : W p l e R s m args below meth c H locs cells slots Q (F0 m pc ls (.ref (ead E 2) :: rest)) :=
  va_get (D := D) (ci := 3) (C := RX3) (T := TX3) (N := 4) C.x C.b (C.tb.args args) inlX3 C.ow C.k h.1 2 rfl rfl 3 (by decide) (C.w args (w := Cond.fieldLink RX3 54 "IcePad$Runway" "heap" "I") m_fl_X3_54) (fun _ h9 => h9) rfl dg kk
theorem p_X3_54 {v : Int32} (C : CX p s m meth c cc RX3 nL D E A) (h : HW D E σ A s H locs) (dg : decode cc pc = .ok (.putfield 54, 3)) (kk : ∀ (H1 : Heap) (locs1 : List Loc), HW D E (up2 σ 8 0 v) A s H1 locs1 → W p l e R s m args below meth c H1 locs1 cells slots Q (F0 m (pc + 3) ls rest)) : W p l e R s m args below meth c H locs cells slots Q (F0 m pc ls (.int v :: .ref (ead E 2) :: rest)) :=
  va_put (D := D) (ci := 3) (v := .int v) (ty := .int) (C := RX3) (T := TX3) (N := 4) C.x C.b (C.tb.args args) inlX3 tyX3 tyX3_ok nmX3 C.ow C.k h.1 h.2.1 h.2.2 2 rfl rfl 3 (by decide) (C.w args (w := Cond.fieldLink RX3 54 "IcePad$Runway" "heap" "I") m_fl_X3_54) (fun _ h9 => h9) rfl (by decide +kernel) rfl rfl (Nat.le_of_ble_eq_true rfl) dg (fun H1 locs1 hP hD hS => kk H1 locs1 (hw_of (wset_8 v) hP hD hS))
theorem g_X1_21 (C : CX p s m meth c cc RX1 nL D E A) (h : HW D E σ A s H locs) (dg : decode cc pc = .ok (.getfield 21, 3)) (kk : W p l e R s m args below meth c H locs cells slots Q (F0 m (pc + 3) ls (.int (σ 19 0) :: rest))) : W p l e R s m args below meth c H locs cells slots Q (F0 m pc ls (.ref (ead E 13) :: rest)) :=
  va_get (D := D) (ci := 1) (C := RX1) (T := TX1) (N := 6) C.x C.b (C.tb.args args) inlX1 C.ow C.k h.1 13 rfl rfl 0 (by decide) (C.w args (w := Cond.fieldLink RX1 21 "IcePad$Basin" "litres" "I") m_fl_X1_21) (fun _ h9 => h9) rfl dg kk
theorem p_X1_21 {v : Int32} (C : CX p s m meth c cc RX1 nL D E A) (h : HW D E σ A s H locs) (dg : decode cc pc = .ok (.putfield 21, 3)) (kk : ∀ (H1 : Heap) (locs1 : List Loc), HW D E (up2 σ 19 0 v) A s H1 locs1 → W p l e R s m args below meth c H1 locs1 cells slots Q (F0 m (pc + 3) ls rest)) : W p l e R s m args below meth c H locs cells slots Q (F0 m pc ls (.int v :: .ref (ead E 13) :: rest)) :=
  va_put (D := D) (ci := 1) (v := .int v) (ty := .int) (C := RX1) (T := TX1) (N := 6) C.x C.b (C.tb.args args) inlX1 tyX1 tyX1_ok nmX1 C.ow C.k h.1 h.2.1 h.2.2 13 rfl rfl 0 (by decide) (C.w args (w := Cond.fieldLink RX1 21 "IcePad$Basin" "litres" "I") m_fl_X1_21) (fun _ h9 => h9) rfl (by decide +kernel) rfl rfl (Nat.le_of_ble_eq_true rfl) dg (fun H1 locs1 hP hD hS => kk H1 locs1 (hw_of (wset_19 v) hP hD hS))
theorem g_X1_30 (C : CX p s m meth c cc RX1 nL D E A) (h : HW D E σ A s H locs) (dg : decode cc pc = .ok (.getfield 30, 3)) (kk : W p l e R s m args below meth c H locs cells slots Q (F0 m (pc + 3) ls (.int (σ 20 0) :: rest))) : W p l e R s m args below meth c H locs cells slots Q (F0 m pc ls (.ref (ead E 13) :: rest)) :=
  va_get (D := D) (ci := 1) (C := RX1) (T := TX1) (N := 6) C.x C.b (C.tb.args args) inlX1 C.ow C.k h.1 13 rfl rfl 1 (by decide) (C.w args (w := Cond.fieldLink RX1 30 "IcePad$Basin" "cleaned" "I") m_fl_X1_30) (fun _ h9 => h9) rfl dg kk
theorem p_X1_30 {v : Int32} (C : CX p s m meth c cc RX1 nL D E A) (h : HW D E σ A s H locs) (dg : decode cc pc = .ok (.putfield 30, 3)) (kk : ∀ (H1 : Heap) (locs1 : List Loc), HW D E (up2 σ 20 0 v) A s H1 locs1 → W p l e R s m args below meth c H1 locs1 cells slots Q (F0 m (pc + 3) ls rest)) : W p l e R s m args below meth c H locs cells slots Q (F0 m pc ls (.int v :: .ref (ead E 13) :: rest)) :=
  va_put (D := D) (ci := 1) (v := .int v) (ty := .int) (C := RX1) (T := TX1) (N := 6) C.x C.b (C.tb.args args) inlX1 tyX1 tyX1_ok nmX1 C.ow C.k h.1 h.2.1 h.2.2 13 rfl rfl 1 (by decide) (C.w args (w := Cond.fieldLink RX1 30 "IcePad$Basin" "cleaned" "I") m_fl_X1_30) (fun _ h9 => h9) rfl (by decide +kernel) rfl rfl (Nat.le_of_ble_eq_true rfl) dg (fun H1 locs1 hP hD hS => kk H1 locs1 (hw_of (wset_20 v) hP hD hS))
theorem g_X6_251 (C : CX p s m meth c cc RX6 nL D E A) (h : HW D E σ A s H locs) {k : Nat} (hk : k < en E) (dg : decode cc pc = .ok (.getfield 251, 3)) (kk : W p l e R s m args below meth c H locs cells slots Q (F0 m (pc + 3) ls (.int (σ 27 k) :: rest))) : W p l e R s m args below meth c H locs cells slots Q (F0 m pc ls (.ref (ead E (37 + k)) :: rest)) :=
  va_get (D := D) (ci := 0) (C := RX0) (T := TX0) (N := 12) C.x C.b (C.tb.args args) inlX0 C.ow C.k h.1 (37 + k) (wd_k σ hk) rfl 2 (by decide) (C.w args (w := Cond.fieldLink RX6 251 "IcePad$Aircraft" "duty" "I") m_fl_X6_251) (fun _ h9 => h9) rfl dg kk
theorem g_X6_262 (C : CX p s m meth c cc RX6 nL D E A) (h : HW D E σ A s H locs) {k : Nat} (hk : k < en E) (dg : decode cc pc = .ok (.getfield 262, 3)) (kk : W p l e R s m args below meth c H locs cells slots Q (F0 m (pc + 3) ls (.int (σ 35 k) :: rest))) : W p l e R s m args below meth c H locs cells slots Q (F0 m pc ls (.ref (ead E (37 + k)) :: rest)) :=
  va_get (D := D) (ci := 0) (C := RX0) (T := TX0) (N := 12) C.x C.b (C.tb.args args) inlX0 C.ow C.k h.1 (37 + k) (wd_k σ hk) rfl 10 (by decide) (C.w args (w := Cond.fieldLink RX6 262 "IcePad$Aircraft" "clockBegan" "I") m_fl_X6_262) (fun _ h9 => h9) rfl dg kk
theorem p_X6_262 {v : Int32} (C : CX p s m meth c cc RX6 nL D E A) (h : HW D E σ A s H locs) {k : Nat} (hk : k < en E) (dg : decode cc pc = .ok (.putfield 262, 3)) (kk : ∀ (H1 : Heap) (locs1 : List Loc), HW D E (up2 σ 35 k v) A s H1 locs1 → W p l e R s m args below meth c H1 locs1 cells slots Q (F0 m (pc + 3) ls rest)) : W p l e R s m args below meth c H locs cells slots Q (F0 m pc ls (.int v :: .ref (ead E (37 + k)) :: rest)) :=
  va_put (D := D) (ci := 0) (v := .int v) (ty := .int) (C := RX0) (T := TX0) (N := 12) C.x C.b (C.tb.args args) inlX0 tyX0 tyX0_ok nmX0 C.ow C.k h.1 h.2.1 h.2.2 (37 + k) (wd_k σ hk) rfl 10 (by decide) (C.w args (w := Cond.fieldLink RX6 262 "IcePad$Aircraft" "clockBegan" "I") m_fl_X6_262) (fun _ h9 => h9) rfl (by decide +kernel) rfl rfl (Nat.le_of_ble_eq_true rfl) dg (fun H1 locs1 hP hD hS => kk H1 locs1 (hw_of (wset_35 v hk) hP hD hS))
theorem g_X2_26 (C : CX p s m meth c cc RX2 nL D E A) (h : HW D E σ A s H locs) (dg : decode cc pc = .ok (.getfield 26, 3)) (kk : W p l e R s m args below meth c H locs cells slots Q (F0 m (pc + 3) ls (.int (σ 3 0) :: rest))) : W p l e R s m args below meth c H locs cells slots Q (F0 m pc ls (.ref (ead E 1) :: rest)) :=
  va_get (D := D) (ci := 5) (C := RX5) (T := TX5) (N := 4) C.x C.b (C.tb.args args) inlX5 C.ow C.k h.1 1 rfl rfl 1 (by decide) (C.w args (w := Cond.fieldLink RX2 26 "IcePad$Weather" "fall" "I") m_fl_X2_26) (fun _ h9 => h9) rfl dg kk
theorem p_X2_26 {v : Int32} (C : CX p s m meth c cc RX2 nL D E A) (h : HW D E σ A s H locs) (dg : decode cc pc = .ok (.putfield 26, 3)) (kk : ∀ (H1 : Heap) (locs1 : List Loc), HW D E (up2 σ 3 0 v) A s H1 locs1 → W p l e R s m args below meth c H1 locs1 cells slots Q (F0 m (pc + 3) ls rest)) : W p l e R s m args below meth c H locs cells slots Q (F0 m pc ls (.int v :: .ref (ead E 1) :: rest)) :=
  va_put (D := D) (ci := 5) (v := .int v) (ty := .int) (C := RX5) (T := TX5) (N := 4) C.x C.b (C.tb.args args) inlX5 tyX5 tyX5_ok nmX5 C.ow C.k h.1 h.2.1 h.2.2 1 rfl rfl 1 (by decide) (C.w args (w := Cond.fieldLink RX2 26 "IcePad$Weather" "fall" "I") m_fl_X2_26) (fun _ h9 => h9) rfl (by decide +kernel) rfl rfl (Nat.le_of_ble_eq_true rfl) dg (fun H1 locs1 hP hD hS => kk H1 locs1 (hw_of (wset_3 v) hP hD hS))
theorem g_X5_13 (C : CX p s m meth c cc RX5 nL D E A) (h : HW D E σ A s H locs) (dg : decode cc pc = .ok (.getfield 13, 3)) (kk : W p l e R s m args below meth c H locs cells slots Q (F0 m (pc + 3) ls (.int (σ 2 0) :: rest))) : W p l e R s m args below meth c H locs cells slots Q (F0 m pc ls (.ref (ead E 1) :: rest)) :=
  va_get (D := D) (ci := 5) (C := RX5) (T := TX5) (N := 4) C.x C.b (C.tb.args args) inlX5 C.ow C.k h.1 1 rfl rfl 0 (by decide) (C.w args (w := Cond.fieldLink RX5 13 "IcePad$Weather" "temperature" "I") m_fl_X5_13) (fun _ h9 => h9) rfl dg kk
theorem p_X5_13 {v : Int32} (C : CX p s m meth c cc RX5 nL D E A) (h : HW D E σ A s H locs) (dg : decode cc pc = .ok (.putfield 13, 3)) (kk : ∀ (H1 : Heap) (locs1 : List Loc), HW D E (up2 σ 2 0 v) A s H1 locs1 → W p l e R s m args below meth c H1 locs1 cells slots Q (F0 m (pc + 3) ls rest)) : W p l e R s m args below meth c H locs cells slots Q (F0 m pc ls (.int v :: .ref (ead E 1) :: rest)) :=
  va_put (D := D) (ci := 5) (v := .int v) (ty := .int) (C := RX5) (T := TX5) (N := 4) C.x C.b (C.tb.args args) inlX5 tyX5 tyX5_ok nmX5 C.ow C.k h.1 h.2.1 h.2.2 1 rfl rfl 0 (by decide) (C.w args (w := Cond.fieldLink RX5 13 "IcePad$Weather" "temperature" "I") m_fl_X5_13) (fun _ h9 => h9) rfl (by decide +kernel) rfl rfl (Nat.le_of_ble_eq_true rfl) dg (fun H1 locs1 hP hD hS => kk H1 locs1 (hw_of (wset_2 v) hP hD hS))
theorem g_X5_7 (C : CX p s m meth c cc RX5 nL D E A) (h : HW D E σ A s H locs) (dg : decode cc pc = .ok (.getfield 7, 3)) (kk : W p l e R s m args below meth c H locs cells slots Q (F0 m (pc + 3) ls (.int (σ 5 0) :: rest))) : W p l e R s m args below meth c H locs cells slots Q (F0 m pc ls (.ref (ead E 1) :: rest)) :=
  va_get (D := D) (ci := 5) (C := RX5) (T := TX5) (N := 4) C.x C.b (C.tb.args args) inlX5 C.ow C.k h.1 1 rfl rfl 3 (by decide) (C.w args (w := Cond.fieldLink RX5 7 "IcePad$Weather" "wind" "I") m_fl_X5_7) (fun _ h9 => h9) rfl dg kk
theorem p_X5_7 {v : Int32} (C : CX p s m meth c cc RX5 nL D E A) (h : HW D E σ A s H locs) (dg : decode cc pc = .ok (.putfield 7, 3)) (kk : ∀ (H1 : Heap) (locs1 : List Loc), HW D E (up2 σ 5 0 v) A s H1 locs1 → W p l e R s m args below meth c H1 locs1 cells slots Q (F0 m (pc + 3) ls rest)) : W p l e R s m args below meth c H locs cells slots Q (F0 m pc ls (.int v :: .ref (ead E 1) :: rest)) :=
  va_put (D := D) (ci := 5) (v := .int v) (ty := .int) (C := RX5) (T := TX5) (N := 4) C.x C.b (C.tb.args args) inlX5 tyX5 tyX5_ok nmX5 C.ow C.k h.1 h.2.1 h.2.2 1 rfl rfl 3 (by decide) (C.w args (w := Cond.fieldLink RX5 7 "IcePad$Weather" "wind" "I") m_fl_X5_7) (fun _ h9 => h9) rfl (by decide +kernel) rfl rfl (Nat.le_of_ble_eq_true rfl) dg (fun H1 locs1 hP hD hS => kk H1 locs1 (hw_of (wset_5 v) hP hD hS))
theorem g_X6_202 (C : CX p s m meth c cc RX6 nL D E A) (h : HW D E σ A s H locs) {k : Nat} (hk : k < en E) (dg : decode cc pc = .ok (.getfield 202, 3)) (kk : W p l e R s m args below meth c H locs cells slots Q (F0 m (pc + 3) ls (.int (σ 26 k) :: rest))) : W p l e R s m args below meth c H locs cells slots Q (F0 m pc ls (.ref (ead E (37 + k)) :: rest)) :=
  va_get (D := D) (ci := 0) (C := RX0) (T := TX0) (N := 12) C.x C.b (C.tb.args args) inlX0 C.ow C.k h.1 (37 + k) (wd_k σ hk) rfl 1 (by decide) (C.w args (w := Cond.fieldLink RX6 202 "IcePad$Aircraft" "slot" "I") m_fl_X6_202) (fun _ h9 => h9) rfl dg kk
theorem g_X6_186 (C : CX p s m meth c cc RX6 nL D E A) (h : HW D E σ A s H locs) {k : Nat} (hk : k < en E) (dg : decode cc pc = .ok (.getfield 186, 3)) (kk : W p l e R s m args below meth c H locs cells slots Q (F0 m (pc + 3) ls (.int (σ 29 k) :: rest))) : W p l e R s m args below meth c H locs cells slots Q (F0 m pc ls (.ref (ead E (37 + k)) :: rest)) :=
  va_get (D := D) (ci := 0) (C := RX0) (T := TX0) (N := 12) C.x C.b (C.tb.args args) inlX0 C.ow C.k h.1 (37 + k) (wd_k σ hk) rfl 4 (by decide) (C.w args (w := Cond.fieldLink RX6 186 "IcePad$Aircraft" "leftMinute" "I") m_fl_X6_186) (fun _ h9 => h9) rfl dg kk
theorem p_X6_186 {v : Int32} (C : CX p s m meth c cc RX6 nL D E A) (h : HW D E σ A s H locs) {k : Nat} (hk : k < en E) (dg : decode cc pc = .ok (.putfield 186, 3)) (kk : ∀ (H1 : Heap) (locs1 : List Loc), HW D E (up2 σ 29 k v) A s H1 locs1 → W p l e R s m args below meth c H1 locs1 cells slots Q (F0 m (pc + 3) ls rest)) : W p l e R s m args below meth c H locs cells slots Q (F0 m pc ls (.int v :: .ref (ead E (37 + k)) :: rest)) :=
  va_put (D := D) (ci := 0) (v := .int v) (ty := .int) (C := RX0) (T := TX0) (N := 12) C.x C.b (C.tb.args args) inlX0 tyX0 tyX0_ok nmX0 C.ow C.k h.1 h.2.1 h.2.2 (37 + k) (wd_k σ hk) rfl 4 (by decide) (C.w args (w := Cond.fieldLink RX6 186 "IcePad$Aircraft" "leftMinute" "I") m_fl_X6_186) (fun _ h9 => h9) rfl (by decide +kernel) rfl rfl (Nat.le_of_ble_eq_true rfl) dg (fun H1 locs1 hP hD hS => kk H1 locs1 (hw_of (wset_29 v hk) hP hD hS))
theorem g_X7_169 (C : CX p s m meth c cc RX7 nL D E A) (h : HW D E σ A s H locs) (dg : decode cc pc = .ok (.getfield 169, 3)) (kk : W p l e R s m args below meth c H locs cells slots Q (F0 m (pc + 3) ls (.int (σ 70 0) :: rest))) : W p l e R s m args below meth c H locs cells slots Q (F0 m pc ls (.ref (ead E 15) :: rest)) :=
  va_get (D := D) (ci := 7) (C := RX7) (T := TX7) (N := 35) C.x C.b (C.tb.args args) inlX7 C.ow C.k h.1 15 rfl rfl 30 (by decide) (C.w args (w := Cond.fieldLink RX7 169 "IcePadModel" "cleaned" "I") m_fl_X7_169) (fun _ h9 => h9) rfl dg kk
theorem p_X7_169 {v : Int32} (C : CX p s m meth c cc RX7 nL D E A) (h : HW D E σ A s H locs) (dg : decode cc pc = .ok (.putfield 169, 3)) (kk : ∀ (H1 : Heap) (locs1 : List Loc), HW D E (up2 σ 70 0 v) A s H1 locs1 → W p l e R s m args below meth c H1 locs1 cells slots Q (F0 m (pc + 3) ls rest)) : W p l e R s m args below meth c H locs cells slots Q (F0 m pc ls (.int v :: .ref (ead E 15) :: rest)) :=
  va_put (D := D) (ci := 7) (v := .int v) (ty := .int) (C := RX7) (T := TX7) (N := 35) C.x C.b (C.tb.args args) inlX7 tyX7 tyX7_ok nmX7 C.ow C.k h.1 h.2.1 h.2.2 15 rfl rfl 30 (by decide) (C.w args (w := Cond.fieldLink RX7 169 "IcePadModel" "cleaned" "I") m_fl_X7_169) (fun _ h9 => h9) rfl (by decide +kernel) rfl rfl (Nat.le_of_ble_eq_true rfl) dg (fun H1 locs1 hP hD hS => kk H1 locs1 (hw_of (wset_70 v) hP hD hS))
theorem g_X7_142 (C : CX p s m meth c cc RX7 nL D E A) (h : HW D E σ A s H locs) (dg : decode cc pc = .ok (.getfield 142, 3)) (kk : W p l e R s m args below meth c H locs cells slots Q (F0 m (pc + 3) ls (.int (σ 74 0) :: rest))) : W p l e R s m args below meth c H locs cells slots Q (F0 m pc ls (.ref (ead E 15) :: rest)) :=
  va_get (D := D) (ci := 7) (C := RX7) (T := TX7) (N := 35) C.x C.b (C.tb.args args) inlX7 C.ow C.k h.1 15 rfl rfl 34 (by decide) (C.w args (w := Cond.fieldLink RX7 142 "IcePadModel" "heap" "I") m_fl_X7_142) (fun _ h9 => h9) rfl dg kk
theorem p_X7_142 {v : Int32} (C : CX p s m meth c cc RX7 nL D E A) (h : HW D E σ A s H locs) (dg : decode cc pc = .ok (.putfield 142, 3)) (kk : ∀ (H1 : Heap) (locs1 : List Loc), HW D E (up2 σ 74 0 v) A s H1 locs1 → W p l e R s m args below meth c H1 locs1 cells slots Q (F0 m (pc + 3) ls rest)) : W p l e R s m args below meth c H locs cells slots Q (F0 m pc ls (.int v :: .ref (ead E 15) :: rest)) :=
  va_put (D := D) (ci := 7) (v := .int v) (ty := .int) (C := RX7) (T := TX7) (N := 35) C.x C.b (C.tb.args args) inlX7 tyX7 tyX7_ok nmX7 C.ow C.k h.1 h.2.1 h.2.2 15 rfl rfl 34 (by decide) (C.w args (w := Cond.fieldLink RX7 142 "IcePadModel" "heap" "I") m_fl_X7_142) (fun _ h9 => h9) rfl (by decide +kernel) rfl rfl (Nat.le_of_ble_eq_true rfl) dg (fun H1 locs1 hP hD hS => kk H1 locs1 (hw_of (wset_74 v) hP hD hS))
theorem g_X6_169 (C : CX p s m meth c cc RX6 nL D E A) (h : HW D E σ A s H locs) {t : Nat} (ht : t < 3) (dg : decode cc pc = .ok (.getfield 169, 3)) (kk : W p l e R s m args below meth c H locs cells slots Q (F0 m (pc + 3) ls (.int (σ 9 t) :: rest))) : W p l e R s m args below meth c H locs cells slots Q (F0 m pc ls (.ref (ead E (4 + t)) :: rest)) :=
  va_get (D := D) (ci := 4) (C := RX4) (T := TX4) (N := 5) C.x C.b (C.tb.args args) inlX4 C.ow C.k h.1 (4 + t) (wd_t σ ht) rfl 0 (by decide) (C.w args (w := Cond.fieldLink RX6 169 "IcePad$Third" "cover" "I") m_fl_X6_169) (fun _ h9 => h9) rfl dg kk
theorem p_X6_169 {v : Int32} (C : CX p s m meth c cc RX6 nL D E A) (h : HW D E σ A s H locs) {t : Nat} (ht : t < 3) (dg : decode cc pc = .ok (.putfield 169, 3)) (kk : ∀ (H1 : Heap) (locs1 : List Loc), HW D E (up2 σ 9 t v) A s H1 locs1 → W p l e R s m args below meth c H1 locs1 cells slots Q (F0 m (pc + 3) ls rest)) : W p l e R s m args below meth c H locs cells slots Q (F0 m pc ls (.int v :: .ref (ead E (4 + t)) :: rest)) :=
  va_put (D := D) (ci := 4) (v := .int v) (ty := .int) (C := RX4) (T := TX4) (N := 5) C.x C.b (C.tb.args args) inlX4 tyX4 tyX4_ok nmX4 C.ow C.k h.1 h.2.1 h.2.2 (4 + t) (wd_t σ ht) rfl 0 (by decide) (C.w args (w := Cond.fieldLink RX6 169 "IcePad$Third" "cover" "I") m_fl_X6_169) (fun _ h9 => h9) rfl (by decide +kernel) rfl rfl (Nat.le_of_ble_eq_true rfl) dg (fun H1 locs1 hP hD hS => kk H1 locs1 (hw_of (wset_9 v ht) hP hD hS))
theorem g_X6_172 (C : CX p s m meth c cc RX6 nL D E A) (h : HW D E σ A s H locs) {t : Nat} (ht : t < 3) (dg : decode cc pc = .ok (.getfield 172, 3)) (kk : W p l e R s m args below meth c H locs cells slots Q (F0 m (pc + 3) ls (.int (σ 10 t) :: rest))) : W p l e R s m args below meth c H locs cells slots Q (F0 m pc ls (.ref (ead E (4 + t)) :: rest)) :=
  va_get (D := D) (ci := 4) (C := RX4) (T := TX4) (N := 5) C.x C.b (C.tb.args args) inlX4 C.ow C.k h.1 (4 + t) (wd_t σ ht) rfl 1 (by decide) (C.w args (w := Cond.fieldLink RX6 172 "IcePad$Third" "depth" "I") m_fl_X6_172) (fun _ h9 => h9) rfl dg kk
theorem p_X6_172 {v : Int32} (C : CX p s m meth c cc RX6 nL D E A) (h : HW D E σ A s H locs) {t : Nat} (ht : t < 3) (dg : decode cc pc = .ok (.putfield 172, 3)) (kk : ∀ (H1 : Heap) (locs1 : List Loc), HW D E (up2 σ 10 t v) A s H1 locs1 → W p l e R s m args below meth c H1 locs1 cells slots Q (F0 m (pc + 3) ls rest)) : W p l e R s m args below meth c H locs cells slots Q (F0 m pc ls (.int v :: .ref (ead E (4 + t)) :: rest)) :=
  va_put (D := D) (ci := 4) (v := .int v) (ty := .int) (C := RX4) (T := TX4) (N := 5) C.x C.b (C.tb.args args) inlX4 tyX4 tyX4_ok nmX4 C.ow C.k h.1 h.2.1 h.2.2 (4 + t) (wd_t σ ht) rfl 1 (by decide) (C.w args (w := Cond.fieldLink RX6 172 "IcePad$Third" "depth" "I") m_fl_X6_172) (fun _ h9 => h9) rfl (by decide +kernel) rfl rfl (Nat.le_of_ble_eq_true rfl) dg (fun H1 locs1 hP hD hS => kk H1 locs1 (hw_of (wset_10 v ht) hP hD hS))
theorem g_X6_189 (C : CX p s m meth c cc RX6 nL D E A) (h : HW D E σ A s H locs) {k : Nat} (hk : k < en E) (dg : decode cc pc = .ok (.getfield 189, 3)) (kk : W p l e R s m args below meth c H locs cells slots Q (F0 m (pc + 3) ls (.int (σ 30 k) :: rest))) : W p l e R s m args below meth c H locs cells slots Q (F0 m pc ls (.ref (ead E (37 + k)) :: rest)) :=
  va_get (D := D) (ci := 0) (C := RX0) (T := TX0) (N := 12) C.x C.b (C.tb.args args) inlX0 C.ow C.k h.1 (37 + k) (wd_k σ hk) rfl 5 (by decide) (C.w args (w := Cond.fieldLink RX6 189 "IcePad$Aircraft" "treatments" "I") m_fl_X6_189) (fun _ h9 => h9) rfl dg kk
theorem p_X6_189 {v : Int32} (C : CX p s m meth c cc RX6 nL D E A) (h : HW D E σ A s H locs) {k : Nat} (hk : k < en E) (dg : decode cc pc = .ok (.putfield 189, 3)) (kk : ∀ (H1 : Heap) (locs1 : List Loc), HW D E (up2 σ 30 k v) A s H1 locs1 → W p l e R s m args below meth c H1 locs1 cells slots Q (F0 m (pc + 3) ls rest)) : W p l e R s m args below meth c H locs cells slots Q (F0 m pc ls (.int v :: .ref (ead E (37 + k)) :: rest)) :=
  va_put (D := D) (ci := 0) (v := .int v) (ty := .int) (C := RX0) (T := TX0) (N := 12) C.x C.b (C.tb.args args) inlX0 tyX0 tyX0_ok nmX0 C.ow C.k h.1 h.2.1 h.2.2 (37 + k) (wd_k σ hk) rfl 5 (by decide) (C.w args (w := Cond.fieldLink RX6 189 "IcePad$Aircraft" "treatments" "I") m_fl_X6_189) (fun _ h9 => h9) rfl (by decide +kernel) rfl rfl (Nat.le_of_ble_eq_true rfl) dg (fun H1 locs1 hP hD hS => kk H1 locs1 (hw_of (wset_30 v hk) hP hD hS))
theorem g_X6_192 (C : CX p s m meth c cc RX6 nL D E A) (h : HW D E σ A s H locs) {k : Nat} (hk : k < en E) (dg : decode cc pc = .ok (.getfield 192, 3)) (kk : W p l e R s m args below meth c H locs cells slots Q (F0 m (pc + 3) ls (.int (σ 31 k) :: rest))) : W p l e R s m args below meth c H locs cells slots Q (F0 m pc ls (.ref (ead E (37 + k)) :: rest)) :=
  va_get (D := D) (ci := 0) (C := RX0) (T := TX0) (N := 12) C.x C.b (C.tb.args args) inlX0 C.ow C.k h.1 (37 + k) (wd_k σ hk) rfl 6 (by decide) (C.w args (w := Cond.fieldLink RX6 192 "IcePad$Aircraft" "litresOn" "I") m_fl_X6_192) (fun _ h9 => h9) rfl dg kk
theorem p_X6_192 {v : Int32} (C : CX p s m meth c cc RX6 nL D E A) (h : HW D E σ A s H locs) {k : Nat} (hk : k < en E) (dg : decode cc pc = .ok (.putfield 192, 3)) (kk : ∀ (H1 : Heap) (locs1 : List Loc), HW D E (up2 σ 31 k v) A s H1 locs1 → W p l e R s m args below meth c H1 locs1 cells slots Q (F0 m (pc + 3) ls rest)) : W p l e R s m args below meth c H locs cells slots Q (F0 m pc ls (.int v :: .ref (ead E (37 + k)) :: rest)) :=
  va_put (D := D) (ci := 0) (v := .int v) (ty := .int) (C := RX0) (T := TX0) (N := 12) C.x C.b (C.tb.args args) inlX0 tyX0 tyX0_ok nmX0 C.ow C.k h.1 h.2.1 h.2.2 (37 + k) (wd_k σ hk) rfl 6 (by decide) (C.w args (w := Cond.fieldLink RX6 192 "IcePad$Aircraft" "litresOn" "I") m_fl_X6_192) (fun _ h9 => h9) rfl (by decide +kernel) rfl rfl (Nat.le_of_ble_eq_true rfl) dg (fun H1 locs1 hP hD hS => kk H1 locs1 (hw_of (wset_31 v hk) hP hD hS))
theorem g_X6_228 (C : CX p s m meth c cc RX6 nL D E A) (h : HW D E σ A s H locs) (dg : decode cc pc = .ok (.getfield 228, 3)) (kk : W p l e R s m args below meth c H locs cells slots Q (F0 m (pc + 3) ls (.int (σ 20 0) :: rest))) : W p l e R s m args below meth c H locs cells slots Q (F0 m pc ls (.ref (ead E 13) :: rest)) :=
  va_get (D := D) (ci := 1) (C := RX1) (T := TX1) (N := 6) C.x C.b (C.tb.args args) inlX1 C.ow C.k h.1 13 rfl rfl 1 (by decide) (C.w args (w := Cond.fieldLink RX6 228 "IcePad$Basin" "cleaned" "I") m_fl_X6_228) (fun _ h9 => h9) rfl dg kk
theorem p_X6_228 {v : Int32} (C : CX p s m meth c cc RX6 nL D E A) (h : HW D E σ A s H locs) (dg : decode cc pc = .ok (.putfield 228, 3)) (kk : ∀ (H1 : Heap) (locs1 : List Loc), HW D E (up2 σ 20 0 v) A s H1 locs1 → W p l e R s m args below meth c H1 locs1 cells slots Q (F0 m (pc + 3) ls rest)) : W p l e R s m args below meth c H locs cells slots Q (F0 m pc ls (.int v :: .ref (ead E 13) :: rest)) :=
  va_put (D := D) (ci := 1) (v := .int v) (ty := .int) (C := RX1) (T := TX1) (N := 6) C.x C.b (C.tb.args args) inlX1 tyX1 tyX1_ok nmX1 C.ow C.k h.1 h.2.1 h.2.2 13 rfl rfl 1 (by decide) (C.w args (w := Cond.fieldLink RX6 228 "IcePad$Basin" "cleaned" "I") m_fl_X6_228) (fun _ h9 => h9) rfl (by decide +kernel) rfl rfl (Nat.le_of_ble_eq_true rfl) dg (fun H1 locs1 hP hD hS => kk H1 locs1 (hw_of (wset_20 v) hP hD hS))
theorem g_X6_231 (C : CX p s m meth c cc RX6 nL D E A) (h : HW D E σ A s H locs) (dg : decode cc pc = .ok (.getfield 231, 3)) (kk : W p l e R s m args below meth c H locs cells slots Q (F0 m (pc + 3) ls (.int (σ 8 0) :: rest))) : W p l e R s m args below meth c H locs cells slots Q (F0 m pc ls (.ref (ead E 2) :: rest)) :=
  va_get (D := D) (ci := 3) (C := RX3) (T := TX3) (N := 4) C.x C.b (C.tb.args args) inlX3 C.ow C.k h.1 2 rfl rfl 3 (by decide) (C.w args (w := Cond.fieldLink RX6 231 "IcePad$Runway" "heap" "I") m_fl_X6_231) (fun _ h9 => h9) rfl dg kk
theorem p_X6_231 {v : Int32} (C : CX p s m meth c cc RX6 nL D E A) (h : HW D E σ A s H locs) (dg : decode cc pc = .ok (.putfield 231, 3)) (kk : ∀ (H1 : Heap) (locs1 : List Loc), HW D E (up2 σ 8 0 v) A s H1 locs1 → W p l e R s m args below meth c H1 locs1 cells slots Q (F0 m (pc + 3) ls rest)) : W p l e R s m args below meth c H locs cells slots Q (F0 m pc ls (.int v :: .ref (ead E 2) :: rest)) :=
  va_put (D := D) (ci := 3) (v := .int v) (ty := .int) (C := RX3) (T := TX3) (N := 4) C.x C.b (C.tb.args args) inlX3 tyX3 tyX3_ok nmX3 C.ow C.k h.1 h.2.1 h.2.2 2 rfl rfl 3 (by decide) (C.w args (w := Cond.fieldLink RX6 231 "IcePad$Runway" "heap" "I") m_fl_X6_231) (fun _ h9 => h9) rfl (by decide +kernel) rfl rfl (Nat.le_of_ble_eq_true rfl) dg (fun H1 locs1 hP hD hS => kk H1 locs1 (hw_of (wset_8 v) hP hD hS))
theorem al_8 (C : CX p s m meth c cc own nL D E A) (h : HW D E σ A s H locs) {i : Int32} (hi : vp_in i 3) (dg : decode cc pc = .ok (.iaload, 1)) (kk : W p l e R s m args below meth c H locs cells slots Q (F0 m (pc + 1) ls (.int (σ 14 i.toNatClampNeg) :: rest))) : W p l e R s m args below meth c H locs cells slots Q (F0 m pc ls (.int i :: .ref (ead E 8) :: rest)) :=
  va_iald C.x C.b C.k h.1 8 0 rfl rfl hi dg kk
theorem as_8 (C : CX p s m meth c cc own nL D E A) (h : HW D E σ A s H locs) {i v : Int32} (hi : vp_in i 3) (dg : decode cc pc = .ok (.iastore, 1)) (kk : ∀ (H1 : Heap) (locs1 : List Loc), HW D E (up2 σ 14 i.toNatClampNeg v) A s H1 locs1 → W p l e R s m args below meth c H1 locs1 cells slots Q (F0 m (pc + 1) ls rest)) : W p l e R s m args below meth c H locs cells slots Q (F0 m pc ls (.int v :: .int i :: .ref (ead E 8) :: rest)) :=
  va_iast C.x C.b C.k h.1 h.2.1 h.2.2 8 0 rfl rfl hi dg (fun H1 locs1 hP hD hS => kk H1 locs1 (hw_of (aset_8 _ v) hP hD hS))
theorem an_8 (C : CX p s m meth c cc own nL D E A) (h : HW D E σ A s H locs) (dg : decode cc pc = .ok (.arraylength, 1)) (kk : W p l e R s m args below meth c H locs cells slots Q (F0 m (pc + 1) ls (.int 3 :: rest))) : W p l e R s m args below meth c H locs cells slots Q (F0 m pc ls (.ref (ead E 8) :: rest)) :=
  va_alen C.x C.b C.k h.1 8 0 (ty := .int) rfl rfl rfl dg kk
theorem al_16 (C : CX p s m meth c cc own nL D E A) (h : HW D E σ A s H locs) {i : Int32} (hi : vp_in i 3) (dg : decode cc pc = .ok (.iaload, 1)) (kk : W p l e R s m args below meth c H locs cells slots Q (F0 m (pc + 1) ls (.int (σ 46 i.toNatClampNeg) :: rest))) : W p l e R s m args below meth c H locs cells slots Q (F0 m pc ls (.int i :: .ref (ead E 16) :: rest)) :=
  va_iald C.x C.b C.k h.1 16 0 rfl rfl hi dg kk
theorem as_16 (C : CX p s m meth c cc own nL D E A) (h : HW D E σ A s H locs) {i v : Int32} (hi : vp_in i 3) (dg : decode cc pc = .ok (.iastore, 1)) (kk : ∀ (H1 : Heap) (locs1 : List Loc), HW D E (up2 σ 46 i.toNatClampNeg v) A s H1 locs1 → W p l e R s m args below meth c H1 locs1 cells slots Q (F0 m (pc + 1) ls rest)) : W p l e R s m args below meth c H locs cells slots Q (F0 m pc ls (.int v :: .int i :: .ref (ead E 16) :: rest)) :=
  va_iast C.x C.b C.k h.1 h.2.1 h.2.2 16 0 rfl rfl hi dg (fun H1 locs1 hP hD hS => kk H1 locs1 (hw_of (aset_16 _ v) hP hD hS))
theorem an_16 (C : CX p s m meth c cc own nL D E A) (h : HW D E σ A s H locs) (dg : decode cc pc = .ok (.arraylength, 1)) (kk : W p l e R s m args below meth c H locs cells slots Q (F0 m (pc + 1) ls (.int 3 :: rest))) : W p l e R s m args below meth c H locs cells slots Q (F0 m pc ls (.ref (ead E 16) :: rest)) :=
  va_alen C.x C.b C.k h.1 16 0 (ty := .int) rfl rfl rfl dg kk
theorem al_17 (C : CX p s m meth c cc own nL D E A) (h : HW D E σ A s H locs) {i : Int32} (hi : vp_in i 3) (dg : decode cc pc = .ok (.iaload, 1)) (kk : W p l e R s m args below meth c H locs cells slots Q (F0 m (pc + 1) ls (.int (σ 47 i.toNatClampNeg) :: rest))) : W p l e R s m args below meth c H locs cells slots Q (F0 m pc ls (.int i :: .ref (ead E 17) :: rest)) :=
  va_iald C.x C.b C.k h.1 17 0 rfl rfl hi dg kk
theorem as_17 (C : CX p s m meth c cc own nL D E A) (h : HW D E σ A s H locs) {i v : Int32} (hi : vp_in i 3) (dg : decode cc pc = .ok (.iastore, 1)) (kk : ∀ (H1 : Heap) (locs1 : List Loc), HW D E (up2 σ 47 i.toNatClampNeg v) A s H1 locs1 → W p l e R s m args below meth c H1 locs1 cells slots Q (F0 m (pc + 1) ls rest)) : W p l e R s m args below meth c H locs cells slots Q (F0 m pc ls (.int v :: .int i :: .ref (ead E 17) :: rest)) :=
  va_iast C.x C.b C.k h.1 h.2.1 h.2.2 17 0 rfl rfl hi dg (fun H1 locs1 hP hD hS => kk H1 locs1 (hw_of (aset_17 _ v) hP hD hS))
theorem an_17 (C : CX p s m meth c cc own nL D E A) (h : HW D E σ A s H locs) (dg : decode cc pc = .ok (.arraylength, 1)) (kk : W p l e R s m args below meth c H locs cells slots Q (F0 m (pc + 1) ls (.int 3 :: rest))) : W p l e R s m args below meth c H locs cells slots Q (F0 m pc ls (.ref (ead E 17) :: rest)) :=
  va_alen C.x C.b C.k h.1 17 0 (ty := .int) rfl rfl rfl dg kk
theorem al_18 (C : CX p s m meth c cc own nL D E A) (h : HW D E σ A s H locs) {i : Int32} (hi : vp_in i 3) (dg : decode cc pc = .ok (.iaload, 1)) (kk : W p l e R s m args below meth c H locs cells slots Q (F0 m (pc + 1) ls (.int (σ 48 i.toNatClampNeg) :: rest))) : W p l e R s m args below meth c H locs cells slots Q (F0 m pc ls (.int i :: .ref (ead E 18) :: rest)) :=
  va_iald C.x C.b C.k h.1 18 0 rfl rfl hi dg kk
theorem as_18 (C : CX p s m meth c cc own nL D E A) (h : HW D E σ A s H locs) {i v : Int32} (hi : vp_in i 3) (dg : decode cc pc = .ok (.iastore, 1)) (kk : ∀ (H1 : Heap) (locs1 : List Loc), HW D E (up2 σ 48 i.toNatClampNeg v) A s H1 locs1 → W p l e R s m args below meth c H1 locs1 cells slots Q (F0 m (pc + 1) ls rest)) : W p l e R s m args below meth c H locs cells slots Q (F0 m pc ls (.int v :: .int i :: .ref (ead E 18) :: rest)) :=
  va_iast C.x C.b C.k h.1 h.2.1 h.2.2 18 0 rfl rfl hi dg (fun H1 locs1 hP hD hS => kk H1 locs1 (hw_of (aset_18 _ v) hP hD hS))
theorem an_18 (C : CX p s m meth c cc own nL D E A) (h : HW D E σ A s H locs) (dg : decode cc pc = .ok (.arraylength, 1)) (kk : W p l e R s m args below meth c H locs cells slots Q (F0 m (pc + 1) ls (.int 3 :: rest))) : W p l e R s m args below meth c H locs cells slots Q (F0 m pc ls (.ref (ead E 18) :: rest)) :=
  va_alen C.x C.b C.k h.1 18 0 (ty := .int) rfl rfl rfl dg kk
theorem al_19 (C : CX p s m meth c cc own nL D E A) (h : HW D E σ A s H locs) {i : Int32} (hi : vp_in i 3) (dg : decode cc pc = .ok (.iaload, 1)) (kk : W p l e R s m args below meth c H locs cells slots Q (F0 m (pc + 1) ls (.int (σ 49 i.toNatClampNeg) :: rest))) : W p l e R s m args below meth c H locs cells slots Q (F0 m pc ls (.int i :: .ref (ead E 19) :: rest)) :=
  va_iald C.x C.b C.k h.1 19 0 rfl rfl hi dg kk
theorem as_19 (C : CX p s m meth c cc own nL D E A) (h : HW D E σ A s H locs) {i v : Int32} (hi : vp_in i 3) (dg : decode cc pc = .ok (.iastore, 1)) (kk : ∀ (H1 : Heap) (locs1 : List Loc), HW D E (up2 σ 49 i.toNatClampNeg v) A s H1 locs1 → W p l e R s m args below meth c H1 locs1 cells slots Q (F0 m (pc + 1) ls rest)) : W p l e R s m args below meth c H locs cells slots Q (F0 m pc ls (.int v :: .int i :: .ref (ead E 19) :: rest)) :=
  va_iast C.x C.b C.k h.1 h.2.1 h.2.2 19 0 rfl rfl hi dg (fun H1 locs1 hP hD hS => kk H1 locs1 (hw_of (aset_19 _ v) hP hD hS))
theorem an_19 (C : CX p s m meth c cc own nL D E A) (h : HW D E σ A s H locs) (dg : decode cc pc = .ok (.arraylength, 1)) (kk : W p l e R s m args below meth c H locs cells slots Q (F0 m (pc + 1) ls (.int 3 :: rest))) : W p l e R s m args below meth c H locs cells slots Q (F0 m pc ls (.ref (ead E 19) :: rest)) :=
  va_alen C.x C.b C.k h.1 19 0 (ty := .int) rfl rfl rfl dg kk
theorem al_20 (C : CX p s m meth c cc own nL D E A) (h : HW D E σ A s H locs) {i : Int32} (hi : vp_in i 3) (dg : decode cc pc = .ok (.iaload, 1)) (kk : W p l e R s m args below meth c H locs cells slots Q (F0 m (pc + 1) ls (.int (σ 50 i.toNatClampNeg) :: rest))) : W p l e R s m args below meth c H locs cells slots Q (F0 m pc ls (.int i :: .ref (ead E 20) :: rest)) :=
  va_iald C.x C.b C.k h.1 20 0 rfl rfl hi dg kk
theorem as_20 (C : CX p s m meth c cc own nL D E A) (h : HW D E σ A s H locs) {i v : Int32} (hi : vp_in i 3) (dg : decode cc pc = .ok (.iastore, 1)) (kk : ∀ (H1 : Heap) (locs1 : List Loc), HW D E (up2 σ 50 i.toNatClampNeg v) A s H1 locs1 → W p l e R s m args below meth c H1 locs1 cells slots Q (F0 m (pc + 1) ls rest)) : W p l e R s m args below meth c H locs cells slots Q (F0 m pc ls (.int v :: .int i :: .ref (ead E 20) :: rest)) :=
  va_iast C.x C.b C.k h.1 h.2.1 h.2.2 20 0 rfl rfl hi dg (fun H1 locs1 hP hD hS => kk H1 locs1 (hw_of (aset_20 _ v) hP hD hS))
theorem an_20 (C : CX p s m meth c cc own nL D E A) (h : HW D E σ A s H locs) (dg : decode cc pc = .ok (.arraylength, 1)) (kk : W p l e R s m args below meth c H locs cells slots Q (F0 m (pc + 1) ls (.int 3 :: rest))) : W p l e R s m args below meth c H locs cells slots Q (F0 m pc ls (.ref (ead E 20) :: rest)) :=
  va_alen C.x C.b C.k h.1 20 0 (ty := .int) rfl rfl rfl dg kk
theorem al_21 (C : CX p s m meth c cc own nL D E A) (h : HW D E σ A s H locs) {i : Int32} (hi : vp_in i 3) (dg : decode cc pc = .ok (.iaload, 1)) (kk : W p l e R s m args below meth c H locs cells slots Q (F0 m (pc + 1) ls (.int (σ 53 i.toNatClampNeg) :: rest))) : W p l e R s m args below meth c H locs cells slots Q (F0 m pc ls (.int i :: .ref (ead E 21) :: rest)) :=
  va_iald C.x C.b C.k h.1 21 0 rfl rfl hi dg kk
theorem as_21 (C : CX p s m meth c cc own nL D E A) (h : HW D E σ A s H locs) {i v : Int32} (hi : vp_in i 3) (dg : decode cc pc = .ok (.iastore, 1)) (kk : ∀ (H1 : Heap) (locs1 : List Loc), HW D E (up2 σ 53 i.toNatClampNeg v) A s H1 locs1 → W p l e R s m args below meth c H1 locs1 cells slots Q (F0 m (pc + 1) ls rest)) : W p l e R s m args below meth c H locs cells slots Q (F0 m pc ls (.int v :: .int i :: .ref (ead E 21) :: rest)) :=
  va_iast C.x C.b C.k h.1 h.2.1 h.2.2 21 0 rfl rfl hi dg (fun H1 locs1 hP hD hS => kk H1 locs1 (hw_of (aset_21 _ v) hP hD hS))
theorem an_21 (C : CX p s m meth c cc own nL D E A) (h : HW D E σ A s H locs) (dg : decode cc pc = .ok (.arraylength, 1)) (kk : W p l e R s m args below meth c H locs cells slots Q (F0 m (pc + 1) ls (.int 3 :: rest))) : W p l e R s m args below meth c H locs cells slots Q (F0 m pc ls (.ref (ead E 21) :: rest)) :=
  va_alen C.x C.b C.k h.1 21 0 (ty := .int) rfl rfl rfl dg kk
theorem al_22 (C : CX p s m meth c cc own nL D E A) (h : HW D E σ A s H locs) {i : Int32} (hi : vp_in i 12) (dg : decode cc pc = .ok (.iaload, 1)) (kk : W p l e R s m args below meth c H locs cells slots Q (F0 m (pc + 1) ls (.int (σ 54 i.toNatClampNeg) :: rest))) : W p l e R s m args below meth c H locs cells slots Q (F0 m pc ls (.int i :: .ref (ead E 22) :: rest)) :=
  va_iald C.x C.b C.k h.1 22 0 rfl rfl hi dg kk
theorem as_22 (C : CX p s m meth c cc own nL D E A) (h : HW D E σ A s H locs) {i v : Int32} (hi : vp_in i 12) (dg : decode cc pc = .ok (.iastore, 1)) (kk : ∀ (H1 : Heap) (locs1 : List Loc), HW D E (up2 σ 54 i.toNatClampNeg v) A s H1 locs1 → W p l e R s m args below meth c H1 locs1 cells slots Q (F0 m (pc + 1) ls rest)) : W p l e R s m args below meth c H locs cells slots Q (F0 m pc ls (.int v :: .int i :: .ref (ead E 22) :: rest)) :=
  va_iast C.x C.b C.k h.1 h.2.1 h.2.2 22 0 rfl rfl hi dg (fun H1 locs1 hP hD hS => kk H1 locs1 (hw_of (aset_22 _ v) hP hD hS))
theorem an_22 (C : CX p s m meth c cc own nL D E A) (h : HW D E σ A s H locs) (dg : decode cc pc = .ok (.arraylength, 1)) (kk : W p l e R s m args below meth c H locs cells slots Q (F0 m (pc + 1) ls (.int 12 :: rest))) : W p l e R s m args below meth c H locs cells slots Q (F0 m pc ls (.ref (ead E 22) :: rest)) :=
  va_alen C.x C.b C.k h.1 22 0 (ty := .int) rfl rfl rfl dg kk
theorem al_23 (C : CX p s m meth c cc own nL D E A) (h : HW D E σ A s H locs) {i : Int32} (hi : vp_in i 20) (dg : decode cc pc = .ok (.iaload, 1)) (kk : W p l e R s m args below meth c H locs cells slots Q (F0 m (pc + 1) ls (.int (σ 56 i.toNatClampNeg) :: rest))) : W p l e R s m args below meth c H locs cells slots Q (F0 m pc ls (.int i :: .ref (ead E 23) :: rest)) :=
  va_iald C.x C.b C.k h.1 23 0 rfl rfl hi dg kk
theorem as_23 (C : CX p s m meth c cc own nL D E A) (h : HW D E σ A s H locs) {i v : Int32} (hi : vp_in i 20) (dg : decode cc pc = .ok (.iastore, 1)) (kk : ∀ (H1 : Heap) (locs1 : List Loc), HW D E (up2 σ 56 i.toNatClampNeg v) A s H1 locs1 → W p l e R s m args below meth c H1 locs1 cells slots Q (F0 m (pc + 1) ls rest)) : W p l e R s m args below meth c H locs cells slots Q (F0 m pc ls (.int v :: .int i :: .ref (ead E 23) :: rest)) :=
  va_iast C.x C.b C.k h.1 h.2.1 h.2.2 23 0 rfl rfl hi dg (fun H1 locs1 hP hD hS => kk H1 locs1 (hw_of (aset_23 _ v) hP hD hS))
theorem an_23 (C : CX p s m meth c cc own nL D E A) (h : HW D E σ A s H locs) (dg : decode cc pc = .ok (.arraylength, 1)) (kk : W p l e R s m args below meth c H locs cells slots Q (F0 m (pc + 1) ls (.int 20 :: rest))) : W p l e R s m args below meth c H locs cells slots Q (F0 m pc ls (.ref (ead E 23) :: rest)) :=
  va_alen C.x C.b C.k h.1 23 0 (ty := .int) rfl rfl rfl dg kk
theorem al_24 (C : CX p s m meth c cc own nL D E A) (h : HW D E σ A s H locs) {i : Int32} (hi : vp_in i 20) (dg : decode cc pc = .ok (.iaload, 1)) (kk : W p l e R s m args below meth c H locs cells slots Q (F0 m (pc + 1) ls (.int (σ 57 i.toNatClampNeg) :: rest))) : W p l e R s m args below meth c H locs cells slots Q (F0 m pc ls (.int i :: .ref (ead E 24) :: rest)) :=
  va_iald C.x C.b C.k h.1 24 0 rfl rfl hi dg kk
theorem as_24 (C : CX p s m meth c cc own nL D E A) (h : HW D E σ A s H locs) {i v : Int32} (hi : vp_in i 20) (dg : decode cc pc = .ok (.iastore, 1)) (kk : ∀ (H1 : Heap) (locs1 : List Loc), HW D E (up2 σ 57 i.toNatClampNeg v) A s H1 locs1 → W p l e R s m args below meth c H1 locs1 cells slots Q (F0 m (pc + 1) ls rest)) : W p l e R s m args below meth c H locs cells slots Q (F0 m pc ls (.int v :: .int i :: .ref (ead E 24) :: rest)) :=
  va_iast C.x C.b C.k h.1 h.2.1 h.2.2 24 0 rfl rfl hi dg (fun H1 locs1 hP hD hS => kk H1 locs1 (hw_of (aset_24 _ v) hP hD hS))
theorem an_24 (C : CX p s m meth c cc own nL D E A) (h : HW D E σ A s H locs) (dg : decode cc pc = .ok (.arraylength, 1)) (kk : W p l e R s m args below meth c H locs cells slots Q (F0 m (pc + 1) ls (.int 20 :: rest))) : W p l e R s m args below meth c H locs cells slots Q (F0 m pc ls (.ref (ead E 24) :: rest)) :=
  va_alen C.x C.b C.k h.1 24 0 (ty := .int) rfl rfl rfl dg kk
theorem al_25 (C : CX p s m meth c cc own nL D E A) (h : HW D E σ A s H locs) {i : Int32} (hi : vp_in i 20) (dg : decode cc pc = .ok (.iaload, 1)) (kk : W p l e R s m args below meth c H locs cells slots Q (F0 m (pc + 1) ls (.int (σ 58 i.toNatClampNeg) :: rest))) : W p l e R s m args below meth c H locs cells slots Q (F0 m pc ls (.int i :: .ref (ead E 25) :: rest)) :=
  va_iald C.x C.b C.k h.1 25 0 rfl rfl hi dg kk
theorem as_25 (C : CX p s m meth c cc own nL D E A) (h : HW D E σ A s H locs) {i v : Int32} (hi : vp_in i 20) (dg : decode cc pc = .ok (.iastore, 1)) (kk : ∀ (H1 : Heap) (locs1 : List Loc), HW D E (up2 σ 58 i.toNatClampNeg v) A s H1 locs1 → W p l e R s m args below meth c H1 locs1 cells slots Q (F0 m (pc + 1) ls rest)) : W p l e R s m args below meth c H locs cells slots Q (F0 m pc ls (.int v :: .int i :: .ref (ead E 25) :: rest)) :=
  va_iast C.x C.b C.k h.1 h.2.1 h.2.2 25 0 rfl rfl hi dg (fun H1 locs1 hP hD hS => kk H1 locs1 (hw_of (aset_25 _ v) hP hD hS))
theorem an_25 (C : CX p s m meth c cc own nL D E A) (h : HW D E σ A s H locs) (dg : decode cc pc = .ok (.arraylength, 1)) (kk : W p l e R s m args below meth c H locs cells slots Q (F0 m (pc + 1) ls (.int 20 :: rest))) : W p l e R s m args below meth c H locs cells slots Q (F0 m pc ls (.ref (ead E 25) :: rest)) :=
  va_alen C.x C.b C.k h.1 25 0 (ty := .int) rfl rfl rfl dg kk
theorem al_26 (C : CX p s m meth c cc own nL D E A) (h : HW D E σ A s H locs) {i : Int32} (hi : vp_in i 20) (dg : decode cc pc = .ok (.iaload, 1)) (kk : W p l e R s m args below meth c H locs cells slots Q (F0 m (pc + 1) ls (.int (σ 59 i.toNatClampNeg) :: rest))) : W p l e R s m args below meth c H locs cells slots Q (F0 m pc ls (.int i :: .ref (ead E 26) :: rest)) :=
  va_iald C.x C.b C.k h.1 26 0 rfl rfl hi dg kk
theorem as_26 (C : CX p s m meth c cc own nL D E A) (h : HW D E σ A s H locs) {i v : Int32} (hi : vp_in i 20) (dg : decode cc pc = .ok (.iastore, 1)) (kk : ∀ (H1 : Heap) (locs1 : List Loc), HW D E (up2 σ 59 i.toNatClampNeg v) A s H1 locs1 → W p l e R s m args below meth c H1 locs1 cells slots Q (F0 m (pc + 1) ls rest)) : W p l e R s m args below meth c H locs cells slots Q (F0 m pc ls (.int v :: .int i :: .ref (ead E 26) :: rest)) :=
  va_iast C.x C.b C.k h.1 h.2.1 h.2.2 26 0 rfl rfl hi dg (fun H1 locs1 hP hD hS => kk H1 locs1 (hw_of (aset_26 _ v) hP hD hS))
theorem an_26 (C : CX p s m meth c cc own nL D E A) (h : HW D E σ A s H locs) (dg : decode cc pc = .ok (.arraylength, 1)) (kk : W p l e R s m args below meth c H locs cells slots Q (F0 m (pc + 1) ls (.int 20 :: rest))) : W p l e R s m args below meth c H locs cells slots Q (F0 m pc ls (.ref (ead E 26) :: rest)) :=
  va_alen C.x C.b C.k h.1 26 0 (ty := .int) rfl rfl rfl dg kk
theorem al_27 (C : CX p s m meth c cc own nL D E A) (h : HW D E σ A s H locs) {i : Int32} (hi : vp_in i 20) (dg : decode cc pc = .ok (.iaload, 1)) (kk : W p l e R s m args below meth c H locs cells slots Q (F0 m (pc + 1) ls (.int (σ 60 i.toNatClampNeg) :: rest))) : W p l e R s m args below meth c H locs cells slots Q (F0 m pc ls (.int i :: .ref (ead E 27) :: rest)) :=
  va_iald C.x C.b C.k h.1 27 0 rfl rfl hi dg kk
theorem as_27 (C : CX p s m meth c cc own nL D E A) (h : HW D E σ A s H locs) {i v : Int32} (hi : vp_in i 20) (dg : decode cc pc = .ok (.iastore, 1)) (kk : ∀ (H1 : Heap) (locs1 : List Loc), HW D E (up2 σ 60 i.toNatClampNeg v) A s H1 locs1 → W p l e R s m args below meth c H1 locs1 cells slots Q (F0 m (pc + 1) ls rest)) : W p l e R s m args below meth c H locs cells slots Q (F0 m pc ls (.int v :: .int i :: .ref (ead E 27) :: rest)) :=
  va_iast C.x C.b C.k h.1 h.2.1 h.2.2 27 0 rfl rfl hi dg (fun H1 locs1 hP hD hS => kk H1 locs1 (hw_of (aset_27 _ v) hP hD hS))
theorem an_27 (C : CX p s m meth c cc own nL D E A) (h : HW D E σ A s H locs) (dg : decode cc pc = .ok (.arraylength, 1)) (kk : W p l e R s m args below meth c H locs cells slots Q (F0 m (pc + 1) ls (.int 20 :: rest))) : W p l e R s m args below meth c H locs cells slots Q (F0 m pc ls (.ref (ead E 27) :: rest)) :=
  va_alen C.x C.b C.k h.1 27 0 (ty := .int) rfl rfl rfl dg kk
theorem al_28 (C : CX p s m meth c cc own nL D E A) (h : HW D E σ A s H locs) {i : Int32} (hi : vp_in i 20) (dg : decode cc pc = .ok (.iaload, 1)) (kk : W p l e R s m args below meth c H locs cells slots Q (F0 m (pc + 1) ls (.int (σ 61 i.toNatClampNeg) :: rest))) : W p l e R s m args below meth c H locs cells slots Q (F0 m pc ls (.int i :: .ref (ead E 28) :: rest)) :=
  va_iald C.x C.b C.k h.1 28 0 rfl rfl hi dg kk
theorem as_28 (C : CX p s m meth c cc own nL D E A) (h : HW D E σ A s H locs) {i v : Int32} (hi : vp_in i 20) (dg : decode cc pc = .ok (.iastore, 1)) (kk : ∀ (H1 : Heap) (locs1 : List Loc), HW D E (up2 σ 61 i.toNatClampNeg v) A s H1 locs1 → W p l e R s m args below meth c H1 locs1 cells slots Q (F0 m (pc + 1) ls rest)) : W p l e R s m args below meth c H locs cells slots Q (F0 m pc ls (.int v :: .int i :: .ref (ead E 28) :: rest)) :=
  va_iast C.x C.b C.k h.1 h.2.1 h.2.2 28 0 rfl rfl hi dg (fun H1 locs1 hP hD hS => kk H1 locs1 (hw_of (aset_28 _ v) hP hD hS))
theorem an_28 (C : CX p s m meth c cc own nL D E A) (h : HW D E σ A s H locs) (dg : decode cc pc = .ok (.arraylength, 1)) (kk : W p l e R s m args below meth c H locs cells slots Q (F0 m (pc + 1) ls (.int 20 :: rest))) : W p l e R s m args below meth c H locs cells slots Q (F0 m pc ls (.ref (ead E 28) :: rest)) :=
  va_alen C.x C.b C.k h.1 28 0 (ty := .int) rfl rfl rfl dg kk
theorem al_29 (C : CX p s m meth c cc own nL D E A) (h : HW D E σ A s H locs) {i : Int32} (hi : vp_in i 20) (dg : decode cc pc = .ok (.iaload, 1)) (kk : W p l e R s m args below meth c H locs cells slots Q (F0 m (pc + 1) ls (.int (σ 62 i.toNatClampNeg) :: rest))) : W p l e R s m args below meth c H locs cells slots Q (F0 m pc ls (.int i :: .ref (ead E 29) :: rest)) :=
  va_iald C.x C.b C.k h.1 29 0 rfl rfl hi dg kk
theorem as_29 (C : CX p s m meth c cc own nL D E A) (h : HW D E σ A s H locs) {i v : Int32} (hi : vp_in i 20) (dg : decode cc pc = .ok (.iastore, 1)) (kk : ∀ (H1 : Heap) (locs1 : List Loc), HW D E (up2 σ 62 i.toNatClampNeg v) A s H1 locs1 → W p l e R s m args below meth c H1 locs1 cells slots Q (F0 m (pc + 1) ls rest)) : W p l e R s m args below meth c H locs cells slots Q (F0 m pc ls (.int v :: .int i :: .ref (ead E 29) :: rest)) :=
  va_iast C.x C.b C.k h.1 h.2.1 h.2.2 29 0 rfl rfl hi dg (fun H1 locs1 hP hD hS => kk H1 locs1 (hw_of (aset_29 _ v) hP hD hS))
theorem an_29 (C : CX p s m meth c cc own nL D E A) (h : HW D E σ A s H locs) (dg : decode cc pc = .ok (.arraylength, 1)) (kk : W p l e R s m args below meth c H locs cells slots Q (F0 m (pc + 1) ls (.int 20 :: rest))) : W p l e R s m args below meth c H locs cells slots Q (F0 m pc ls (.ref (ead E 29) :: rest)) :=
  va_alen C.x C.b C.k h.1 29 0 (ty := .int) rfl rfl rfl dg kk
theorem al_30 (C : CX p s m meth c cc own nL D E A) (h : HW D E σ A s H locs) {i : Int32} (hi : vp_in i 20) (dg : decode cc pc = .ok (.iaload, 1)) (kk : W p l e R s m args below meth c H locs cells slots Q (F0 m (pc + 1) ls (.int (σ 63 i.toNatClampNeg) :: rest))) : W p l e R s m args below meth c H locs cells slots Q (F0 m pc ls (.int i :: .ref (ead E 30) :: rest)) :=
  va_iald C.x C.b C.k h.1 30 0 rfl rfl hi dg kk
theorem as_30 (C : CX p s m meth c cc own nL D E A) (h : HW D E σ A s H locs) {i v : Int32} (hi : vp_in i 20) (dg : decode cc pc = .ok (.iastore, 1)) (kk : ∀ (H1 : Heap) (locs1 : List Loc), HW D E (up2 σ 63 i.toNatClampNeg v) A s H1 locs1 → W p l e R s m args below meth c H1 locs1 cells slots Q (F0 m (pc + 1) ls rest)) : W p l e R s m args below meth c H locs cells slots Q (F0 m pc ls (.int v :: .int i :: .ref (ead E 30) :: rest)) :=
  va_iast C.x C.b C.k h.1 h.2.1 h.2.2 30 0 rfl rfl hi dg (fun H1 locs1 hP hD hS => kk H1 locs1 (hw_of (aset_30 _ v) hP hD hS))
theorem an_30 (C : CX p s m meth c cc own nL D E A) (h : HW D E σ A s H locs) (dg : decode cc pc = .ok (.arraylength, 1)) (kk : W p l e R s m args below meth c H locs cells slots Q (F0 m (pc + 1) ls (.int 20 :: rest))) : W p l e R s m args below meth c H locs cells slots Q (F0 m pc ls (.ref (ead E 30) :: rest)) :=
  va_alen C.x C.b C.k h.1 30 0 (ty := .int) rfl rfl rfl dg kk
theorem al_31 (C : CX p s m meth c cc own nL D E A) (h : HW D E σ A s H locs) {i : Int32} (hi : vp_in i 20) (dg : decode cc pc = .ok (.iaload, 1)) (kk : W p l e R s m args below meth c H locs cells slots Q (F0 m (pc + 1) ls (.int (σ 64 i.toNatClampNeg) :: rest))) : W p l e R s m args below meth c H locs cells slots Q (F0 m pc ls (.int i :: .ref (ead E 31) :: rest)) :=
  va_iald C.x C.b C.k h.1 31 0 rfl rfl hi dg kk
theorem as_31 (C : CX p s m meth c cc own nL D E A) (h : HW D E σ A s H locs) {i v : Int32} (hi : vp_in i 20) (dg : decode cc pc = .ok (.iastore, 1)) (kk : ∀ (H1 : Heap) (locs1 : List Loc), HW D E (up2 σ 64 i.toNatClampNeg v) A s H1 locs1 → W p l e R s m args below meth c H1 locs1 cells slots Q (F0 m (pc + 1) ls rest)) : W p l e R s m args below meth c H locs cells slots Q (F0 m pc ls (.int v :: .int i :: .ref (ead E 31) :: rest)) :=
  va_iast C.x C.b C.k h.1 h.2.1 h.2.2 31 0 rfl rfl hi dg (fun H1 locs1 hP hD hS => kk H1 locs1 (hw_of (aset_31 _ v) hP hD hS))
theorem an_31 (C : CX p s m meth c cc own nL D E A) (h : HW D E σ A s H locs) (dg : decode cc pc = .ok (.arraylength, 1)) (kk : W p l e R s m args below meth c H locs cells slots Q (F0 m (pc + 1) ls (.int 20 :: rest))) : W p l e R s m args below meth c H locs cells slots Q (F0 m pc ls (.ref (ead E 31) :: rest)) :=
  va_alen C.x C.b C.k h.1 31 0 (ty := .int) rfl rfl rfl dg kk
theorem al_32 (C : CX p s m meth c cc own nL D E A) (h : HW D E σ A s H locs) {i : Int32} (hi : vp_in i 20) (dg : decode cc pc = .ok (.iaload, 1)) (kk : W p l e R s m args below meth c H locs cells slots Q (F0 m (pc + 1) ls (.int (σ 65 i.toNatClampNeg) :: rest))) : W p l e R s m args below meth c H locs cells slots Q (F0 m pc ls (.int i :: .ref (ead E 32) :: rest)) :=
  va_iald C.x C.b C.k h.1 32 0 rfl rfl hi dg kk
theorem as_32 (C : CX p s m meth c cc own nL D E A) (h : HW D E σ A s H locs) {i v : Int32} (hi : vp_in i 20) (dg : decode cc pc = .ok (.iastore, 1)) (kk : ∀ (H1 : Heap) (locs1 : List Loc), HW D E (up2 σ 65 i.toNatClampNeg v) A s H1 locs1 → W p l e R s m args below meth c H1 locs1 cells slots Q (F0 m (pc + 1) ls rest)) : W p l e R s m args below meth c H locs cells slots Q (F0 m pc ls (.int v :: .int i :: .ref (ead E 32) :: rest)) :=
  va_iast C.x C.b C.k h.1 h.2.1 h.2.2 32 0 rfl rfl hi dg (fun H1 locs1 hP hD hS => kk H1 locs1 (hw_of (aset_32 _ v) hP hD hS))
theorem an_32 (C : CX p s m meth c cc own nL D E A) (h : HW D E σ A s H locs) (dg : decode cc pc = .ok (.arraylength, 1)) (kk : W p l e R s m args below meth c H locs cells slots Q (F0 m (pc + 1) ls (.int 20 :: rest))) : W p l e R s m args below meth c H locs cells slots Q (F0 m pc ls (.ref (ead E 32) :: rest)) :=
  va_alen C.x C.b C.k h.1 32 0 (ty := .int) rfl rfl rfl dg kk
theorem al_33 (C : CX p s m meth c cc own nL D E A) (h : HW D E σ A s H locs) {i : Int32} (hi : vp_in i 20) (dg : decode cc pc = .ok (.iaload, 1)) (kk : W p l e R s m args below meth c H locs cells slots Q (F0 m (pc + 1) ls (.int (σ 66 i.toNatClampNeg) :: rest))) : W p l e R s m args below meth c H locs cells slots Q (F0 m pc ls (.int i :: .ref (ead E 33) :: rest)) :=
  va_iald C.x C.b C.k h.1 33 0 rfl rfl hi dg kk
theorem as_33 (C : CX p s m meth c cc own nL D E A) (h : HW D E σ A s H locs) {i v : Int32} (hi : vp_in i 20) (dg : decode cc pc = .ok (.iastore, 1)) (kk : ∀ (H1 : Heap) (locs1 : List Loc), HW D E (up2 σ 66 i.toNatClampNeg v) A s H1 locs1 → W p l e R s m args below meth c H1 locs1 cells slots Q (F0 m (pc + 1) ls rest)) : W p l e R s m args below meth c H locs cells slots Q (F0 m pc ls (.int v :: .int i :: .ref (ead E 33) :: rest)) :=
  va_iast C.x C.b C.k h.1 h.2.1 h.2.2 33 0 rfl rfl hi dg (fun H1 locs1 hP hD hS => kk H1 locs1 (hw_of (aset_33 _ v) hP hD hS))
theorem an_33 (C : CX p s m meth c cc own nL D E A) (h : HW D E σ A s H locs) (dg : decode cc pc = .ok (.arraylength, 1)) (kk : W p l e R s m args below meth c H locs cells slots Q (F0 m (pc + 1) ls (.int 20 :: rest))) : W p l e R s m args below meth c H locs cells slots Q (F0 m pc ls (.ref (ead E 33) :: rest)) :=
  va_alen C.x C.b C.k h.1 33 0 (ty := .int) rfl rfl rfl dg kk
theorem al_34 (C : CX p s m meth c cc own nL D E A) (h : HW D E σ A s H locs) {i : Int32} (hi : vp_in i 20) (dg : decode cc pc = .ok (.iaload, 1)) (kk : W p l e R s m args below meth c H locs cells slots Q (F0 m (pc + 1) ls (.int (σ 67 i.toNatClampNeg) :: rest))) : W p l e R s m args below meth c H locs cells slots Q (F0 m pc ls (.int i :: .ref (ead E 34) :: rest)) :=
  va_iald C.x C.b C.k h.1 34 0 rfl rfl hi dg kk
theorem as_34 (C : CX p s m meth c cc own nL D E A) (h : HW D E σ A s H locs) {i v : Int32} (hi : vp_in i 20) (dg : decode cc pc = .ok (.iastore, 1)) (kk : ∀ (H1 : Heap) (locs1 : List Loc), HW D E (up2 σ 67 i.toNatClampNeg v) A s H1 locs1 → W p l e R s m args below meth c H1 locs1 cells slots Q (F0 m (pc + 1) ls rest)) : W p l e R s m args below meth c H locs cells slots Q (F0 m pc ls (.int v :: .int i :: .ref (ead E 34) :: rest)) :=
  va_iast C.x C.b C.k h.1 h.2.1 h.2.2 34 0 rfl rfl hi dg (fun H1 locs1 hP hD hS => kk H1 locs1 (hw_of (aset_34 _ v) hP hD hS))
theorem an_34 (C : CX p s m meth c cc own nL D E A) (h : HW D E σ A s H locs) (dg : decode cc pc = .ok (.arraylength, 1)) (kk : W p l e R s m args below meth c H locs cells slots Q (F0 m (pc + 1) ls (.int 20 :: rest))) : W p l e R s m args below meth c H locs cells slots Q (F0 m pc ls (.ref (ead E 34) :: rest)) :=
  va_alen C.x C.b C.k h.1 34 0 (ty := .int) rfl rfl rfl dg kk
theorem al_r (C : CX p s m meth c cc own nL D E A) (h : HW D E σ A s H locs) {t : Nat} (ht : t < 3) {i : Int32} (hi : vp_in i 4) (dg : decode cc pc = .ok (.iaload, 1)) (kk : W p l e R s m args below meth c H locs cells slots Q (F0 m (pc + 1) ls (.int (σ (15 + t) i.toNatClampNeg) :: rest))) : W p l e R s m args below meth c H locs cells slots Q (F0 m pc ls (.int i :: .ref (ead E (10 + t)) :: rest)) :=
  va_iald C.x C.b C.k h.1 (10 + t) 0 (wd_r σ ht) rfl hi dg kk
theorem as_r (C : CX p s m meth c cc own nL D E A) (h : HW D E σ A s H locs) {t : Nat} (ht : t < 3) {i v : Int32} (hi : vp_in i 4) (dg : decode cc pc = .ok (.iastore, 1)) (kk : ∀ (H1 : Heap) (locs1 : List Loc), HW D E (up2 σ (15 + t) i.toNatClampNeg v) A s H1 locs1 → W p l e R s m args below meth c H1 locs1 cells slots Q (F0 m (pc + 1) ls rest)) : W p l e R s m args below meth c H locs cells slots Q (F0 m pc ls (.int v :: .int i :: .ref (ead E (10 + t)) :: rest)) :=
  va_iast C.x C.b C.k h.1 h.2.1 h.2.2 (10 + t) 0 (wd_r σ ht) rfl hi dg (fun H1 locs1 hP hD hS => kk H1 locs1 (hw_of (aset_r ht _ v) hP hD hS))
theorem al_9 (C : CX p s m meth c cc own nL D E A) (h : HW D E σ A s H locs) {i : Int32} (hi : vp_in i 3) (dg : decode cc pc = .ok (.aaload, 1)) (kk : W p l e R s m args below meth c H locs cells slots Q (F0 m (pc + 1) ls (.ref (ead E (10 + i.toNatClampNeg)) :: rest))) : W p l e R s m args below meth c H locs cells slots Q (F0 m pc ls (.int i :: .ref (ead E 9) :: rest)) :=
  W.aald (v := .ref (ead E (10 + i.toNatClampNeg))) (ty := .array .int) C.x C.b (h.1 9 _ rfl) ((C.k.2 3 _ rfl).1 3 (fun j => va_rf (some (ead E (10 + j))))) rfl (fun q => by cases q) (by show ¬ (i < 0 ∨ (arrV _ _ _).slots.size ≤ _); rw [arrV_size]; exact hi) (by show (arrV _ _ _).slots[_]? = _; rw [arrV_read _ _ (vp_lt hi)]; rfl) rfl rfl dg kk
theorem al_3 (C : CX p s m meth c cc own nL D E A) (h : HW D E σ A s H locs) {i : Int32} (hi : vp_in i 3) (dg : decode cc pc = .ok (.aaload, 1)) (kk : W p l e R s m args below meth c H locs cells slots Q (F0 m (pc + 1) ls (.ref (ead E (4 + i.toNatClampNeg)) :: rest))) : W p l e R s m args below meth c H locs cells slots Q (F0 m pc ls (.int i :: .ref (ead E 3) :: rest)) :=
  va_aldq C.x C.b C.k h.1 3 2 rfl rfl hi dg kk
theorem an_3 (C : CX p s m meth c cc own nL D E A) (h : HW D E σ A s H locs) (dg : decode cc pc = .ok (.arraylength, 1)) (kk : W p l e R s m args below meth c H locs cells slots Q (F0 m (pc + 1) ls (.int 3 :: rest))) : W p l e R s m args below meth c H locs cells slots Q (F0 m pc ls (.ref (ead E 3) :: rest)) :=
  va_alen C.x C.b C.k h.1 3 2 (ty := .object "IcePad$Third") rfl rfl rfl dg kk
theorem al_14 (C : CX p s m meth c cc own nL D E A) (h : HW D E σ A s H locs) {i : Int32} (hi : vp_in i 20) (hn : i.toNatClampNeg < en E) (dg : decode cc pc = .ok (.aaload, 1)) (kk : W p l e R s m args below meth c H locs cells slots Q (F0 m (pc + 1) ls (.ref (ead E (37 + i.toNatClampNeg)) :: rest))) : W p l e R s m args below meth c H locs cells slots Q (F0 m pc ls (.int i :: .ref (ead E 14) :: rest)) :=
  va_aldq C.x C.b C.k h.1 14 1 rfl rfl hi dg (by
    show W p l e R s m args below meth c H locs cells slots Q (F0 m (pc + 1) ls (va_rf (if i.toNatClampNeg < en E then some (ead E (37 + i.toNatClampNeg)) else none) :: rest))
    rw [if_pos hn]
    exact kk)
theorem gs_113 (C : CX p s m meth c cc RX6 nL D E A) (h : HW D E σ A s H locs) (dg : decode cc pc = .ok (.getstatic 113, 3)) (kk : ∀ t : Nat, va_T .int t 3 padv A s s.heap → W p l e R s m args below meth c H locs cells slots Q (F0 m (pc + 3) ls (.ref t :: rest))) : W p l e R s m args below meth c H locs cells slots Q (F0 m pc ls rest) := by
  obtain ⟨-, -, t, h1, h2⟩ := C.ex
  exact va_gets C.x C.b h1 h.2.2 C.ow (C.w args m_fl_X6_113) (fun _ h9 => h9) dg (kk t h2)
theorem an_p (C : CX p s m meth c cc own nL D E A) (h : HW D E σ A s H locs) {t : Nat} (hT : va_T .int t 3 padv A s s.heap) (dg : decode cc pc = .ok (.arraylength, 1)) (kk : W p l e R s m args below meth c H locs cells slots Q (F0 m (pc + 1) ls (.int 3 :: rest))) : W p l e R s m args below meth c H locs cells slots Q (F0 m pc ls (.ref t :: rest)) :=
  va_tlen C.x C.b hT h.2.2 rfl dg kk
def padI (i : Int32) : Int32 := if i.toNatClampNeg = 0 then 40 else if i.toNatClampNeg = 1 then 60 else 80
theorem padv_i (i : Int32) : padv i.toNatClampNeg = .int (padI i) := by
  unfold padI padv
  generalize i.toNatClampNeg = n
  match n with
  | 0 => rfl
  | 1 => rfl
  | n + 2 => rfl
theorem al_p (C : CX p s m meth c cc own nL D E A) (h : HW D E σ A s H locs) {t : Nat} (hT : va_T .int t 3 padv A s s.heap) {i : Int32} (hi : vp_in i 3) (dg : decode cc pc = .ok (.iaload, 1)) (kk : W p l e R s m args below meth c H locs cells slots Q (F0 m (pc + 1) ls (.int (padI i) :: rest))) : W p l e R s m args below meth c H locs cells slots Q (F0 m pc ls (.int i :: .ref t :: rest)) :=
  va_ti C.x C.b hT h.2.2 hi (padv_i i) dg kk
end WALK2
end
section
/-! more rows: by a counted index; throws; what holds of every state (by program and by hand) -/
theorem nI_ix {j N : Nat} (hj : j < N) (hN : N < 2 ^ 31) : (nI j).toNatClampNeg = j := nI_clamp (Nat.lt_trans hj hN)
/-- strengths that there are, 0 before a treatment -/
def str (x : Int32) : Prop := x = 0 ∨ x = 50 ∨ x = 75 ∨ x = 100
/-- what every state has that a call meets -/
def OK (E : En) (σ : St) : Prop := en E ≤ 20 ∧ σ 1 0 = nI (en E) ∧ σ 55 0 = nI (en E) ∧ vp_in (σ 3 0) 4 ∧ vp_in (σ 43 0) 4 ∧ (∀ k, vp_in (σ 33 k) 3) ∧ (∀ k, vp_in (σ 66 k) 3) ∧ (∀ k, str (σ 34 k)) ∧ (∀ k, str (σ 67 k))
theorem OK.of_fr {E : En} {σ σ' : St} (ok : OK E σ) (h : ∀ f i, f ∈ [1, 3, 33, 34, 43, 55, 66, 67] → σ' f i = σ f i) : OK E σ' := by
  obtain ⟨h1, h2, h3, h4, h5, h6, h7, h8, h9⟩ := ok
  refine ⟨h1, ?_, ?_, ?_, ?_, fun k => ?_, fun k => ?_, fun k => ?_, fun k => ?_⟩
  · rw [h 1 0 (by decide)]; exact h2
  · rw [h 55 0 (by decide)]; exact h3
  · rw [h 3 0 (by decide)]; exact h4
  · rw [h 43 0 (by decide)]; exact h5
  · rw [h 33 k (by decide)]; exact h6 k
  · rw [h 66 k (by decide)]; exact h7 k
  · rw [h 34 k (by decide)]; exact h8 k
  · rw [h 67 k (by decide)]; exact h9 k
theorem OK.up {E : En} {σ : St} (ok : OK E σ) {f : Nat} (hf : f ∉ [1, 3, 33, 34, 43, 55, 66, 67]) (i : Nat) (v : Int32) : OK E (up2 σ f i v) :=
  ok.of_fr (fun g j hg => up2_f (fun q => hf (by rw [← q]; exact hg)) σ i j v)
theorem OK.le {E : En} {σ : St} (ok : OK E σ) : en E ≤ 20 := ok.1
theorem OK.n {E : En} {σ : St} (ok : OK E σ) : σ 1 0 = nI (en E) := ok.2.1
theorem OK.m {E : En} {σ : St} (ok : OK E σ) : σ 55 0 = nI (en E) := ok.2.2.1
theorem OK.lt {E : En} {σ : St} (ok : OK E σ) {j : Nat} (hj : j ≤ 20) (c : ¬ σ 1 0 ≤ nI j) : j < en E := by
  rw [ok.n, nI_leI (by have := ok.le; omega) (by omega)] at c
  omega
theorem OK.lt' {E : En} {σ : St} (ok : OK E σ) {j : Nat} (hj : j ≤ 20) (c : ¬ σ 55 0 ≤ nI j) : j < en E := by
  rw [ok.m, nI_leI (by have := ok.le; omega) (by omega)] at c
  omega
theorem lt_of_nle {j N : Nat} (hj : j < 2 ^ 31) (hN : N < 2 ^ 31) (c : ¬ nI N ≤ nI j) : j < N := by
  rw [nI_leI hN hj] at c
  omega
section WALK2
variable {p : Program} {l : Launch} {e : Env} {R : Room} {s : State} {m : MethodId} {args : Array Value} {below : List Frame} {meth : Method} {c : Code} {H : Heap} {locs : List Loc} {cells slots : Nat} {Q : State → Prop}
variable {hls : List (Nat × Value)} {cc : ByteArray} {own : String} {nL : Nat} {D : va_G} {E : En} {A : Nat → Prop} {σ : St} {pc : Nat} {ls : Array Slot} {rest : List Value}
theorem aln_8 (C : CX p s m meth c cc own nL D E A) (h : HW D E σ A s H locs) {j : Nat} (hj : j < 3) (dg : decode cc pc = .ok (.iaload, 1)) (kk : W p l e R s m args below meth c H locs cells slots Q (F0 m (pc + 1) ls (.int (σ 14 j) :: rest))) : W p l e R s m args below meth c H locs cells slots Q (F0 m pc ls (.int (nI j) :: .ref (ead E 8) :: rest)) := by
  refine al_8 C h (vp_in_nI hj (by decide)) dg ?_
  rw [nI_ix hj (by decide)]
  exact kk
theorem asn_8 (C : CX p s m meth c cc own nL D E A) (h : HW D E σ A s H locs) {j : Nat} {v : Int32} (hj : j < 3) (dg : decode cc pc = .ok (.iastore, 1)) (kk : ∀ (H1 : Heap) (locs1 : List Loc), HW D E (up2 σ 14 j v) A s H1 locs1 → W p l e R s m args below meth c H1 locs1 cells slots Q (F0 m (pc + 1) ls rest)) : W p l e R s m args below meth c H locs cells slots Q (F0 m pc ls (.int v :: .int (nI j) :: .ref (ead E 8) :: rest)) := by
  refine as_8 C h (vp_in_nI hj (by decide)) dg ?_
  rw [nI_ix hj (by decide)]
  exact kk
theorem aln_16 (C : CX p s m meth c cc own nL D E A) (h : HW D E σ A s H locs) {j : Nat} (hj : j < 3) (dg : decode cc pc = .ok (.iaload, 1)) (kk : W p l e R s m args below meth c H locs cells slots Q (F0 m (pc + 1) ls (.int (σ 46 j) :: rest))) : W p l e R s m args below meth c H locs cells slots Q (F0 m pc ls (.int (nI j) :: .ref (ead E 16) :: rest)) := by
  refine al_16 C h (vp_in_nI hj (by decide)) dg ?_
  rw [nI_ix hj (by decide)]
  exact kk
theorem asn_16 (C : CX p s m meth c cc own nL D E A) (h : HW D E σ A s H locs) {j : Nat} {v : Int32} (hj : j < 3) (dg : decode cc pc = .ok (.iastore, 1)) (kk : ∀ (H1 : Heap) (locs1 : List Loc), HW D E (up2 σ 46 j v) A s H1 locs1 → W p l e R s m args below meth c H1 locs1 cells slots Q (F0 m (pc + 1) ls rest)) : W p l e R s m args below meth c H locs cells slots Q (F0 m pc ls (.int v :: .int (nI j) :: .ref (ead E 16) :: rest)) := by
  refine as_16 C h (vp_in_nI hj (by decide)) dg ?_
  rw [nI_ix hj (by decide)]
  exact kk
theorem aln_17 (C : CX p s m meth c cc own nL D E A) (h : HW D E σ A s H locs) {j : Nat} (hj : j < 3) (dg : decode cc pc = .ok (.iaload, 1)) (kk : W p l e R s m args below meth c H locs cells slots Q (F0 m (pc + 1) ls (.int (σ 47 j) :: rest))) : W p l e R s m args below meth c H locs cells slots Q (F0 m pc ls (.int (nI j) :: .ref (ead E 17) :: rest)) := by
  refine al_17 C h (vp_in_nI hj (by decide)) dg ?_
  rw [nI_ix hj (by decide)]
  exact kk
theorem asn_17 (C : CX p s m meth c cc own nL D E A) (h : HW D E σ A s H locs) {j : Nat} {v : Int32} (hj : j < 3) (dg : decode cc pc = .ok (.iastore, 1)) (kk : ∀ (H1 : Heap) (locs1 : List Loc), HW D E (up2 σ 47 j v) A s H1 locs1 → W p l e R s m args below meth c H1 locs1 cells slots Q (F0 m (pc + 1) ls rest)) : W p l e R s m args below meth c H locs cells slots Q (F0 m pc ls (.int v :: .int (nI j) :: .ref (ead E 17) :: rest)) := by
  refine as_17 C h (vp_in_nI hj (by decide)) dg ?_
  rw [nI_ix hj (by decide)]
  exact kk
theorem aln_18 (C : CX p s m meth c cc own nL D E A) (h : HW D E σ A s H locs) {j : Nat} (hj : j < 3) (dg : decode cc pc = .ok (.iaload, 1)) (kk : W p l e R s m args below meth c H locs cells slots Q (F0 m (pc + 1) ls (.int (σ 48 j) :: rest))) : W p l e R s m args below meth c H locs cells slots Q (F0 m pc ls (.int (nI j) :: .ref (ead E 18) :: rest)) := by
  refine al_18 C h (vp_in_nI hj (by decide)) dg ?_
  rw [nI_ix hj (by decide)]
  exact kk
theorem asn_18 (C : CX p s m meth c cc own nL D E A) (h : HW D E σ A s H locs) {j : Nat} {v : Int32} (hj : j < 3) (dg : decode cc pc = .ok (.iastore, 1)) (kk : ∀ (H1 : Heap) (locs1 : List Loc), HW D E (up2 σ 48 j v) A s H1 locs1 → W p l e R s m args below meth c H1 locs1 cells slots Q (F0 m (pc + 1) ls rest)) : W p l e R s m args below meth c H locs cells slots Q (F0 m pc ls (.int v :: .int (nI j) :: .ref (ead E 18) :: rest)) := by
  refine as_18 C h (vp_in_nI hj (by decide)) dg ?_
  rw [nI_ix hj (by decide)]
  exact kk
theorem aln_19 (C : CX p s m meth c cc own nL D E A) (h : HW D E σ A s H locs) {j : Nat} (hj : j < 3) (dg : decode cc pc = .ok (.iaload, 1)) (kk : W p l e R s m args below meth c H locs cells slots Q (F0 m (pc + 1) ls (.int (σ 49 j) :: rest))) : W p l e R s m args below meth c H locs cells slots Q (F0 m pc ls (.int (nI j) :: .ref (ead E 19) :: rest)) := by
  refine al_19 C h (vp_in_nI hj (by decide)) dg ?_
  rw [nI_ix hj (by decide)]
  exact kk
theorem asn_19 (C : CX p s m meth c cc own nL D E A) (h : HW D E σ A s H locs) {j : Nat} {v : Int32} (hj : j < 3) (dg : decode cc pc = .ok (.iastore, 1)) (kk : ∀ (H1 : Heap) (locs1 : List Loc), HW D E (up2 σ 49 j v) A s H1 locs1 → W p l e R s m args below meth c H1 locs1 cells slots Q (F0 m (pc + 1) ls rest)) : W p l e R s m args below meth c H locs cells slots Q (F0 m pc ls (.int v :: .int (nI j) :: .ref (ead E 19) :: rest)) := by
  refine as_19 C h (vp_in_nI hj (by decide)) dg ?_
  rw [nI_ix hj (by decide)]
  exact kk
theorem aln_20 (C : CX p s m meth c cc own nL D E A) (h : HW D E σ A s H locs) {j : Nat} (hj : j < 3) (dg : decode cc pc = .ok (.iaload, 1)) (kk : W p l e R s m args below meth c H locs cells slots Q (F0 m (pc + 1) ls (.int (σ 50 j) :: rest))) : W p l e R s m args below meth c H locs cells slots Q (F0 m pc ls (.int (nI j) :: .ref (ead E 20) :: rest)) := by
  refine al_20 C h (vp_in_nI hj (by decide)) dg ?_
  rw [nI_ix hj (by decide)]
  exact kk
theorem asn_20 (C : CX p s m meth c cc own nL D E A) (h : HW D E σ A s H locs) {j : Nat} {v : Int32} (hj : j < 3) (dg : decode cc pc = .ok (.iastore, 1)) (kk : ∀ (H1 : Heap) (locs1 : List Loc), HW D E (up2 σ 50 j v) A s H1 locs1 → W p l e R s m args below meth c H1 locs1 cells slots Q (F0 m (pc + 1) ls rest)) : W p l e R s m args below meth c H locs cells slots Q (F0 m pc ls (.int v :: .int (nI j) :: .ref (ead E 20) :: rest)) := by
  refine as_20 C h (vp_in_nI hj (by decide)) dg ?_
  rw [nI_ix hj (by decide)]
  exact kk
theorem aln_21 (C : CX p s m meth c cc own nL D E A) (h : HW D E σ A s H locs) {j : Nat} (hj : j < 3) (dg : decode cc pc = .ok (.iaload, 1)) (kk : W p l e R s m args below meth c H locs cells slots Q (F0 m (pc + 1) ls (.int (σ 53 j) :: rest))) : W p l e R s m args below meth c H locs cells slots Q (F0 m pc ls (.int (nI j) :: .ref (ead E 21) :: rest)) := by
  refine al_21 C h (vp_in_nI hj (by decide)) dg ?_
  rw [nI_ix hj (by decide)]
  exact kk
theorem asn_21 (C : CX p s m meth c cc own nL D E A) (h : HW D E σ A s H locs) {j : Nat} {v : Int32} (hj : j < 3) (dg : decode cc pc = .ok (.iastore, 1)) (kk : ∀ (H1 : Heap) (locs1 : List Loc), HW D E (up2 σ 53 j v) A s H1 locs1 → W p l e R s m args below meth c H1 locs1 cells slots Q (F0 m (pc + 1) ls rest)) : W p l e R s m args below meth c H locs cells slots Q (F0 m pc ls (.int v :: .int (nI j) :: .ref (ead E 21) :: rest)) := by
  refine as_21 C h (vp_in_nI hj (by decide)) dg ?_
  rw [nI_ix hj (by decide)]
  exact kk
theorem aln_22 (C : CX p s m meth c cc own nL D E A) (h : HW D E σ A s H locs) {j : Nat} (hj : j < 12) (dg : decode cc pc = .ok (.iaload, 1)) (kk : W p l e R s m args below meth c H locs cells slots Q (F0 m (pc + 1) ls (.int (σ 54 j) :: rest))) : W p l e R s m args below meth c H locs cells slots Q (F0 m pc ls (.int (nI j) :: .ref (ead E 22) :: rest)) := by
  refine al_22 C h (vp_in_nI hj (by decide)) dg ?_
  rw [nI_ix hj (by decide)]
  exact kk
theorem asn_22 (C : CX p s m meth c cc own nL D E A) (h : HW D E σ A s H locs) {j : Nat} {v : Int32} (hj : j < 12) (dg : decode cc pc = .ok (.iastore, 1)) (kk : ∀ (H1 : Heap) (locs1 : List Loc), HW D E (up2 σ 54 j v) A s H1 locs1 → W p l e R s m args below meth c H1 locs1 cells slots Q (F0 m (pc + 1) ls rest)) : W p l e R s m args below meth c H locs cells slots Q (F0 m pc ls (.int v :: .int (nI j) :: .ref (ead E 22) :: rest)) := by
  refine as_22 C h (vp_in_nI hj (by decide)) dg ?_
  rw [nI_ix hj (by decide)]
  exact kk
theorem aln_23 (C : CX p s m meth c cc own nL D E A) (h : HW D E σ A s H locs) {j : Nat} (hj : j < 20) (dg : decode cc pc = .ok (.iaload, 1)) (kk : W p l e R s m args below meth c H locs cells slots Q (F0 m (pc + 1) ls (.int (σ 56 j) :: rest))) : W p l e R s m args below meth c H locs cells slots Q (F0 m pc ls (.int (nI j) :: .ref (ead E 23) :: rest)) := by
  refine al_23 C h (vp_in_nI hj (by decide)) dg ?_
  rw [nI_ix hj (by decide)]
  exact kk
theorem asn_23 (C : CX p s m meth c cc own nL D E A) (h : HW D E σ A s H locs) {j : Nat} {v : Int32} (hj : j < 20) (dg : decode cc pc = .ok (.iastore, 1)) (kk : ∀ (H1 : Heap) (locs1 : List Loc), HW D E (up2 σ 56 j v) A s H1 locs1 → W p l e R s m args below meth c H1 locs1 cells slots Q (F0 m (pc + 1) ls rest)) : W p l e R s m args below meth c H locs cells slots Q (F0 m pc ls (.int v :: .int (nI j) :: .ref (ead E 23) :: rest)) := by
  refine as_23 C h (vp_in_nI hj (by decide)) dg ?_
  rw [nI_ix hj (by decide)]
  exact kk
theorem aln_24 (C : CX p s m meth c cc own nL D E A) (h : HW D E σ A s H locs) {j : Nat} (hj : j < 20) (dg : decode cc pc = .ok (.iaload, 1)) (kk : W p l e R s m args below meth c H locs cells slots Q (F0 m (pc + 1) ls (.int (σ 57 j) :: rest))) : W p l e R s m args below meth c H locs cells slots Q (F0 m pc ls (.int (nI j) :: .ref (ead E 24) :: rest)) := by
  refine al_24 C h (vp_in_nI hj (by decide)) dg ?_
  rw [nI_ix hj (by decide)]
  exact kk
theorem asn_24 (C : CX p s m meth c cc own nL D E A) (h : HW D E σ A s H locs) {j : Nat} {v : Int32} (hj : j < 20) (dg : decode cc pc = .ok (.iastore, 1)) (kk : ∀ (H1 : Heap) (locs1 : List Loc), HW D E (up2 σ 57 j v) A s H1 locs1 → W p l e R s m args below meth c H1 locs1 cells slots Q (F0 m (pc + 1) ls rest)) : W p l e R s m args below meth c H locs cells slots Q (F0 m pc ls (.int v :: .int (nI j) :: .ref (ead E 24) :: rest)) := by
  refine as_24 C h (vp_in_nI hj (by decide)) dg ?_
  rw [nI_ix hj (by decide)]
  exact kk
theorem aln_25 (C : CX p s m meth c cc own nL D E A) (h : HW D E σ A s H locs) {j : Nat} (hj : j < 20) (dg : decode cc pc = .ok (.iaload, 1)) (kk : W p l e R s m args below meth c H locs cells slots Q (F0 m (pc + 1) ls (.int (σ 58 j) :: rest))) : W p l e R s m args below meth c H locs cells slots Q (F0 m pc ls (.int (nI j) :: .ref (ead E 25) :: rest)) := by
  refine al_25 C h (vp_in_nI hj (by decide)) dg ?_
  rw [nI_ix hj (by decide)]
  exact kk
theorem asn_25 (C : CX p s m meth c cc own nL D E A) (h : HW D E σ A s H locs) {j : Nat} {v : Int32} (hj : j < 20) (dg : decode cc pc = .ok (.iastore, 1)) (kk : ∀ (H1 : Heap) (locs1 : List Loc), HW D E (up2 σ 58 j v) A s H1 locs1 → W p l e R s m args below meth c H1 locs1 cells slots Q (F0 m (pc + 1) ls rest)) : W p l e R s m args below meth c H locs cells slots Q (F0 m pc ls (.int v :: .int (nI j) :: .ref (ead E 25) :: rest)) := by
  refine as_25 C h (vp_in_nI hj (by decide)) dg ?_
  rw [nI_ix hj (by decide)]
  exact kk
theorem aln_26 (C : CX p s m meth c cc own nL D E A) (h : HW D E σ A s H locs) {j : Nat} (hj : j < 20) (dg : decode cc pc = .ok (.iaload, 1)) (kk : W p l e R s m args below meth c H locs cells slots Q (F0 m (pc + 1) ls (.int (σ 59 j) :: rest))) : W p l e R s m args below meth c H locs cells slots Q (F0 m pc ls (.int (nI j) :: .ref (ead E 26) :: rest)) := by
  refine al_26 C h (vp_in_nI hj (by decide)) dg ?_
  rw [nI_ix hj (by decide)]
  exact kk
theorem asn_26 (C : CX p s m meth c cc own nL D E A) (h : HW D E σ A s H locs) {j : Nat} {v : Int32} (hj : j < 20) (dg : decode cc pc = .ok (.iastore, 1)) (kk : ∀ (H1 : Heap) (locs1 : List Loc), HW D E (up2 σ 59 j v) A s H1 locs1 → W p l e R s m args below meth c H1 locs1 cells slots Q (F0 m (pc + 1) ls rest)) : W p l e R s m args below meth c H locs cells slots Q (F0 m pc ls (.int v :: .int (nI j) :: .ref (ead E 26) :: rest)) := by
  refine as_26 C h (vp_in_nI hj (by decide)) dg ?_
  rw [nI_ix hj (by decide)]
  exact kk
theorem aln_27 (C : CX p s m meth c cc own nL D E A) (h : HW D E σ A s H locs) {j : Nat} (hj : j < 20) (dg : decode cc pc = .ok (.iaload, 1)) (kk : W p l e R s m args below meth c H locs cells slots Q (F0 m (pc + 1) ls (.int (σ 60 j) :: rest))) : W p l e R s m args below meth c H locs cells slots Q (F0 m pc ls (.int (nI j) :: .ref (ead E 27) :: rest)) := by
  refine al_27 C h (vp_in_nI hj (by decide)) dg ?_
  rw [nI_ix hj (by decide)]
  exact kk
theorem asn_27 (C : CX p s m meth c cc own nL D E A) (h : HW D E σ A s H locs) {j : Nat} {v : Int32} (hj : j < 20) (dg : decode cc pc = .ok (.iastore, 1)) (kk : ∀ (H1 : Heap) (locs1 : List Loc), HW D E (up2 σ 60 j v) A s H1 locs1 → W p l e R s m args below meth c H1 locs1 cells slots Q (F0 m (pc + 1) ls rest)) : W p l e R s m args below meth c H locs cells slots Q (F0 m pc ls (.int v :: .int (nI j) :: .ref (ead E 27) :: rest)) := by
  refine as_27 C h (vp_in_nI hj (by decide)) dg ?_
  rw [nI_ix hj (by decide)]
  exact kk
theorem aln_28 (C : CX p s m meth c cc own nL D E A) (h : HW D E σ A s H locs) {j : Nat} (hj : j < 20) (dg : decode cc pc = .ok (.iaload, 1)) (kk : W p l e R s m args below meth c H locs cells slots Q (F0 m (pc + 1) ls (.int (σ 61 j) :: rest))) : W p l e R s m args below meth c H locs cells slots Q (F0 m pc ls (.int (nI j) :: .ref (ead E 28) :: rest)) := by
  refine al_28 C h (vp_in_nI hj (by decide)) dg ?_
  rw [nI_ix hj (by decide)]
  exact kk
theorem asn_28 (C : CX p s m meth c cc own nL D E A) (h : HW D E σ A s H locs) {j : Nat} {v : Int32} (hj : j < 20) (dg : decode cc pc = .ok (.iastore, 1)) (kk : ∀ (H1 : Heap) (locs1 : List Loc), HW D E (up2 σ 61 j v) A s H1 locs1 → W p l e R s m args below meth c H1 locs1 cells slots Q (F0 m (pc + 1) ls rest)) : W p l e R s m args below meth c H locs cells slots Q (F0 m pc ls (.int v :: .int (nI j) :: .ref (ead E 28) :: rest)) := by
  refine as_28 C h (vp_in_nI hj (by decide)) dg ?_
  rw [nI_ix hj (by decide)]
  exact kk
theorem aln_29 (C : CX p s m meth c cc own nL D E A) (h : HW D E σ A s H locs) {j : Nat} (hj : j < 20) (dg : decode cc pc = .ok (.iaload, 1)) (kk : W p l e R s m args below meth c H locs cells slots Q (F0 m (pc + 1) ls (.int (σ 62 j) :: rest))) : W p l e R s m args below meth c H locs cells slots Q (F0 m pc ls (.int (nI j) :: .ref (ead E 29) :: rest)) := by
  refine al_29 C h (vp_in_nI hj (by decide)) dg ?_
  rw [nI_ix hj (by decide)]
  exact kk
theorem asn_29 (C : CX p s m meth c cc own nL D E A) (h : HW D E σ A s H locs) {j : Nat} {v : Int32} (hj : j < 20) (dg : decode cc pc = .ok (.iastore, 1)) (kk : ∀ (H1 : Heap) (locs1 : List Loc), HW D E (up2 σ 62 j v) A s H1 locs1 → W p l e R s m args below meth c H1 locs1 cells slots Q (F0 m (pc + 1) ls rest)) : W p l e R s m args below meth c H locs cells slots Q (F0 m pc ls (.int v :: .int (nI j) :: .ref (ead E 29) :: rest)) := by
  refine as_29 C h (vp_in_nI hj (by decide)) dg ?_
  rw [nI_ix hj (by decide)]
  exact kk
theorem aln_30 (C : CX p s m meth c cc own nL D E A) (h : HW D E σ A s H locs) {j : Nat} (hj : j < 20) (dg : decode cc pc = .ok (.iaload, 1)) (kk : W p l e R s m args below meth c H locs cells slots Q (F0 m (pc + 1) ls (.int (σ 63 j) :: rest))) : W p l e R s m args below meth c H locs cells slots Q (F0 m pc ls (.int (nI j) :: .ref (ead E 30) :: rest)) := by
  refine al_30 C h (vp_in_nI hj (by decide)) dg ?_
  rw [nI_ix hj (by decide)]
  exact kk
theorem asn_30 (C : CX p s m meth c cc own nL D E A) (h : HW D E σ A s H locs) {j : Nat} {v : Int32} (hj : j < 20) (dg : decode cc pc = .ok (.iastore, 1)) (kk : ∀ (H1 : Heap) (locs1 : List Loc), HW D E (up2 σ 63 j v) A s H1 locs1 → W p l e R s m args below meth c H1 locs1 cells slots Q (F0 m (pc + 1) ls rest)) : W p l e R s m args below meth c H locs cells slots Q (F0 m pc ls (.int v :: .int (nI j) :: .ref (ead E 30) :: rest)) := by
  refine as_30 C h (vp_in_nI hj (by decide)) dg ?_
  rw [nI_ix hj (by decide)]
  exact kk
theorem aln_31 (C : CX p s m meth c cc own nL D E A) (h : HW D E σ A s H locs) {j : Nat} (hj : j < 20) (dg : decode cc pc = .ok (.iaload, 1)) (kk : W p l e R s m args below meth c H locs cells slots Q (F0 m (pc + 1) ls (.int (σ 64 j) :: rest))) : W p l e R s m args below meth c H locs cells slots Q (F0 m pc ls (.int (nI j) :: .ref (ead E 31) :: rest)) := by
  refine al_31 C h (vp_in_nI hj (by decide)) dg ?_
  rw [nI_ix hj (by decide)]
  exact kk
theorem asn_31 (C : CX p s m meth c cc own nL D E A) (h : HW D E σ A s H locs) {j : Nat} {v : Int32} (hj : j < 20) (dg : decode cc pc = .ok (.iastore, 1)) (kk : ∀ (H1 : Heap) (locs1 : List Loc), HW D E (up2 σ 64 j v) A s H1 locs1 → W p l e R s m args below meth c H1 locs1 cells slots Q (F0 m (pc + 1) ls rest)) : W p l e R s m args below meth c H locs cells slots Q (F0 m pc ls (.int v :: .int (nI j) :: .ref (ead E 31) :: rest)) := by
  refine as_31 C h (vp_in_nI hj (by decide)) dg ?_
  rw [nI_ix hj (by decide)]
  exact kk
theorem aln_32 (C : CX p s m meth c cc own nL D E A) (h : HW D E σ A s H locs) {j : Nat} (hj : j < 20) (dg : decode cc pc = .ok (.iaload, 1)) (kk : W p l e R s m args below meth c H locs cells slots Q (F0 m (pc + 1) ls (.int (σ 65 j) :: rest))) : W p l e R s m args below meth c H locs cells slots Q (F0 m pc ls (.int (nI j) :: .ref (ead E 32) :: rest)) := by
  refine al_32 C h (vp_in_nI hj (by decide)) dg ?_
  rw [nI_ix hj (by decide)]
  exact kk
theorem asn_32 (C : CX p s m meth c cc own nL D E A) (h : HW D E σ A s H locs) {j : Nat} {v : Int32} (hj : j < 20) (dg : decode cc pc = .ok (.iastore, 1)) (kk : ∀ (H1 : Heap) (locs1 : List Loc), HW D E (up2 σ 65 j v) A s H1 locs1 → W p l e R s m args below meth c H1 locs1 cells slots Q (F0 m (pc + 1) ls rest)) : W p l e R s m args below meth c H locs cells slots Q (F0 m pc ls (.int v :: .int (nI j) :: .ref (ead E 32) :: rest)) := by
  refine as_32 C h (vp_in_nI hj (by decide)) dg ?_
  rw [nI_ix hj (by decide)]
  exact kk
theorem aln_33 (C : CX p s m meth c cc own nL D E A) (h : HW D E σ A s H locs) {j : Nat} (hj : j < 20) (dg : decode cc pc = .ok (.iaload, 1)) (kk : W p l e R s m args below meth c H locs cells slots Q (F0 m (pc + 1) ls (.int (σ 66 j) :: rest))) : W p l e R s m args below meth c H locs cells slots Q (F0 m pc ls (.int (nI j) :: .ref (ead E 33) :: rest)) := by
  refine al_33 C h (vp_in_nI hj (by decide)) dg ?_
  rw [nI_ix hj (by decide)]
  exact kk
theorem asn_33 (C : CX p s m meth c cc own nL D E A) (h : HW D E σ A s H locs) {j : Nat} {v : Int32} (hj : j < 20) (dg : decode cc pc = .ok (.iastore, 1)) (kk : ∀ (H1 : Heap) (locs1 : List Loc), HW D E (up2 σ 66 j v) A s H1 locs1 → W p l e R s m args below meth c H1 locs1 cells slots Q (F0 m (pc + 1) ls rest)) : W p l e R s m args below meth c H locs cells slots Q (F0 m pc ls (.int v :: .int (nI j) :: .ref (ead E 33) :: rest)) := by
  refine as_33 C h (vp_in_nI hj (by decide)) dg ?_
  rw [nI_ix hj (by decide)]
  exact kk
theorem aln_34 (C : CX p s m meth c cc own nL D E A) (h : HW D E σ A s H locs) {j : Nat} (hj : j < 20) (dg : decode cc pc = .ok (.iaload, 1)) (kk : W p l e R s m args below meth c H locs cells slots Q (F0 m (pc + 1) ls (.int (σ 67 j) :: rest))) : W p l e R s m args below meth c H locs cells slots Q (F0 m pc ls (.int (nI j) :: .ref (ead E 34) :: rest)) := by
  refine al_34 C h (vp_in_nI hj (by decide)) dg ?_
  rw [nI_ix hj (by decide)]
  exact kk
theorem asn_34 (C : CX p s m meth c cc own nL D E A) (h : HW D E σ A s H locs) {j : Nat} {v : Int32} (hj : j < 20) (dg : decode cc pc = .ok (.iastore, 1)) (kk : ∀ (H1 : Heap) (locs1 : List Loc), HW D E (up2 σ 67 j v) A s H1 locs1 → W p l e R s m args below meth c H1 locs1 cells slots Q (F0 m (pc + 1) ls rest)) : W p l e R s m args below meth c H locs cells slots Q (F0 m pc ls (.int v :: .int (nI j) :: .ref (ead E 34) :: rest)) := by
  refine as_34 C h (vp_in_nI hj (by decide)) dg ?_
  rw [nI_ix hj (by decide)]
  exact kk
theorem aln_3 (C : CX p s m meth c cc own nL D E A) (h : HW D E σ A s H locs) {j : Nat} (hj : j < 3) (dg : decode cc pc = .ok (.aaload, 1)) (kk : W p l e R s m args below meth c H locs cells slots Q (F0 m (pc + 1) ls (.ref (ead E (4 + j)) :: rest))) : W p l e R s m args below meth c H locs cells slots Q (F0 m pc ls (.int (nI j) :: .ref (ead E 3) :: rest)) := by
  refine al_3 C h (vp_in_nI hj (by decide)) dg ?_
  rw [nI_ix hj (by decide)]
  exact kk
theorem aln_14 (C : CX p s m meth c cc own nL D E A) (h : HW D E σ A s H locs) (ok : OK E σ) {j : Nat} (hj : j < en E) (dg : decode cc pc = .ok (.aaload, 1)) (kk : W p l e R s m args below meth c H locs cells slots Q (F0 m (pc + 1) ls (.ref (ead E (37 + j)) :: rest))) : W p l e R s m args below meth c H locs cells slots Q (F0 m pc ls (.int (nI j) :: .ref (ead E 14) :: rest)) := by
  have h20 : j < 20 := Nat.lt_of_lt_of_le hj ok.le
  refine al_14 C h (vp_in_nI h20 (by decide)) (by rw [nI_ix h20 (by decide)]; exact hj) dg ?_
  rw [nI_ix h20 (by decide)]
  exact kk
theorem thS {Qc : Array Value → State → Outcome → State → Prop} {thr mc ms ik is ic : Nat} {text : String} {k : Nat} {mm : List Cond} (hfl : l.stackTraces = false) (C : CX p s m meth c cc RX6 nL D E A) (h : HW D E σ A s H locs) (hex : ∀ x ∈ c.exceptionTable.toList, False) (hl : lv_has ls nL hls) (hk : k ≠ 0) (ht : thr = k) (hcls : Bundle.fit (exn k) = true) (w1 : Cond.classLink RX6 ik (exn k) ∈ wsL_law) (w2 : Cond.initialized (exn k) ∈ wsL_law) (hstr : ∃ sa, vk_R RX6 is text sa s)
    (wg : ∀ w ∈ (vx_atS RX6 ic (exn k) ["java/lang/RuntimeException", "java/lang/Exception"]).filter goodWord, w ∈ wsL_law) (wb : ∀ w ∈ (vx_atS RX6 ic (exn k) ["java/lang/RuntimeException", "java/lang/Exception"]).filter (fun w => !goodWord w), w ∈ xcs)
    (hgood : ∀ w ∈ Cond.classLink RX6 ik (exn k) :: Cond.initialized (exn k) :: vx_atS RX6 ic (exn k) ["java/lang/RuntimeException", "java/lang/Exception"], vx_ot w = true)
    (d0 : decode cc pc = .ok (.new ik, 3)) (d3 : decode cc (pc + 3) = .ok (.dup, 1)) (d4 : decode cc (pc + 4) = .ok (.ldc is, 2)) (d6 : decode cc (pc + 4 + 2) = .ok (.invokespecial ic, 3)) (d9 : decode cc (pc + 7 + 2) = .ok (.athrow, 1))
    (hRf : 5 < R.frames) (hRl : (rest.map fun v => v.category).sum + 82 ≤ R.locals) (hRc : cells + 1 ≤ R.cells) (hRs : slots + 6 ≤ R.slots) (hc : cells + 1 ≤ mc) (hs : slots + 6 ≤ ms) : W p l e R s m args below meth c H locs cells slots (vx_MQ below Qc (XT D E σ A thr) args s mc ms A) (F0 m pc ls rest) := by
  obtain ⟨sa, hsa⟩ := hstr
  refine vx_throwS (names := ["java/lang/RuntimeException", "java/lang/Exception"]) (cls := exn k) C.x C.b hfl C.ow hcls (by decide +kernel) (C.w args w1) (C.w args w2) hsa (vx_hat (B := xcs) (fun w hw => C.w args (wg w hw)) wb (fun w hw => va_Nw.use (xcs_on w hw) (C.sx.2.1 w hw))) hgood C.ex.1 C.ex.2.1 h.2.2 (hl.1.trans C.ml.symm) d0 d3 d4 d6 d9 (fun x hx => (hex x hx).elim) hRf hRl hRc hRs C.lk (fun t ha hle hold => ⟨k, ⟨hk, ht⟩, ⟨rfl, h.1.kept (fun k9 q hq => hold _ (h.1 k9 q hq).lt), va_K.moved ha C.k, h.2.1⟩, Nat.le_trans h.2.2.1 hle, fun q q1 q2 => (hold q (Nat.lt_of_lt_of_le q1 h.2.2.1)).trans (h.2.2.2.1 q q1 q2)⟩) h.2.2.2.2 hc hs
theorem thW {Qc : Array Value → State → Outcome → State → Prop} {thr mc ms ik is ic : Nat} {text : String} {k : Nat} {mm : List Cond} (hfl : l.stackTraces = false) (C : CX p s m meth c cc RX6 nL D E A) (h : HW D E σ A s H locs) (hex : ∀ x ∈ c.exceptionTable.toList, False) (hl : lv_has ls nL hls) (hk : k ≠ 0) (ht : thr = k) (hcls : Bundle.fit (exn k) = true) (w1 : Cond.classLink RX6 ik (exn k) ∈ wsL_law) (w2 : Cond.initialized (exn k) ∈ wsL_law) (hstr : ∃ sa, vk_R RX6 is text sa s)
    (wg : ∀ w ∈ (vx_atS RX6 ic (exn k) ["java/lang/RuntimeException", "java/lang/Exception"]).filter goodWord, w ∈ wsL_law) (wb : ∀ w ∈ (vx_atS RX6 ic (exn k) ["java/lang/RuntimeException", "java/lang/Exception"]).filter (fun w => !goodWord w), w ∈ xcs)
    (hgood : ∀ w ∈ Cond.classLink RX6 ik (exn k) :: Cond.initialized (exn k) :: vx_atS RX6 ic (exn k) ["java/lang/RuntimeException", "java/lang/Exception"], vx_ot w = true)
    (d0 : decode cc pc = .ok (.new ik, 3)) (d3 : decode cc (pc + 3) = .ok (.dup, 1)) (d4 : decode cc (pc + 4) = .ok (.ldc_w is, 3)) (d6 : decode cc (pc + 4 + 3) = .ok (.invokespecial ic, 3)) (d9 : decode cc (pc + 7 + 3) = .ok (.athrow, 1))
    (hRf : 5 < R.frames) (hRl : (rest.map fun v => v.category).sum + 82 ≤ R.locals) (hRc : cells + 1 ≤ R.cells) (hRs : slots + 6 ≤ R.slots) (hc : cells + 1 ≤ mc) (hs : slots + 6 ≤ ms) : W p l e R s m args below meth c H locs cells slots (vx_MQ below Qc (XT D E σ A thr) args s mc ms A) (F0 m pc ls rest) := by
  obtain ⟨sa, hsa⟩ := hstr
  refine vx_throwSW (names := ["java/lang/RuntimeException", "java/lang/Exception"]) (cls := exn k) C.x C.b hfl C.ow hcls (by decide +kernel) (C.w args w1) (C.w args w2) hsa (vx_hat (B := xcs) (fun w hw => C.w args (wg w hw)) wb (fun w hw => va_Nw.use (xcs_on w hw) (C.sx.2.1 w hw))) hgood C.ex.1 C.ex.2.1 h.2.2 (hl.1.trans C.ml.symm) d0 d3 d4 d6 d9 (fun x hx => (hex x hx).elim) hRf hRl hRc hRs C.lk (fun t ha hle hold => ⟨k, ⟨hk, ht⟩, ⟨rfl, h.1.kept (fun k9 q hq => hold _ (h.1 k9 q hq).lt), va_K.moved ha C.k, h.2.1⟩, Nat.le_trans h.2.2.1 hle, fun q q1 q2 => (hold q (Nat.lt_of_lt_of_le q1 h.2.2.1)).trans (h.2.2.2.1 q q1 q2)⟩) h.2.2.2.2 hc hs
end WALK2
theorem xg_1 : ∀ w ∈ (vx_atS RX6 215 (exn 1) ["java/lang/RuntimeException", "java/lang/Exception"]).filter goodWord, w ∈ wsL_law := fun w h => List.mem_append_left _ (List.mem_append_right _ h)
theorem xb_1 : ∀ w ∈ (vx_atS RX6 215 (exn 1) ["java/lang/RuntimeException", "java/lang/Exception"]).filter (fun w => !goodWord w), w ∈ xcs := by decide +kernel
theorem xo_1 : ∀ w ∈ Cond.classLink RX6 211 (exn 1) :: Cond.initialized (exn 1) :: vx_atS RX6 215 (exn 1) ["java/lang/RuntimeException", "java/lang/Exception"], vx_ot w = true := by decide +kernel
theorem xg_2 : ∀ w ∈ (vx_atS RX6 271 (exn 2) ["java/lang/RuntimeException", "java/lang/Exception"]).filter goodWord, w ∈ wsL_law := fun w h => List.mem_append_left _ (List.mem_append_left _ (List.mem_append_right _ h))
theorem xb_2 : ∀ w ∈ (vx_atS RX6 271 (exn 2) ["java/lang/RuntimeException", "java/lang/Exception"]).filter (fun w => !goodWord w), w ∈ xcs := by decide +kernel
theorem xo_2 : ∀ w ∈ Cond.classLink RX6 267 (exn 2) :: Cond.initialized (exn 2) :: vx_atS RX6 271 (exn 2) ["java/lang/RuntimeException", "java/lang/Exception"], vx_ot w = true := by decide +kernel
theorem xg_3 : ∀ w ∈ (vx_atS RX6 278 (exn 3) ["java/lang/RuntimeException", "java/lang/Exception"]).filter goodWord, w ∈ wsL_law := fun w h => List.mem_append_right _ h
theorem xb_3 : ∀ w ∈ (vx_atS RX6 278 (exn 3) ["java/lang/RuntimeException", "java/lang/Exception"]).filter (fun w => !goodWord w), w ∈ xcs := by decide +kernel
theorem xo_3 : ∀ w ∈ Cond.classLink RX6 274 (exn 3) :: Cond.initialized (exn 3) :: vx_atS RX6 278 (exn 3) ["java/lang/RuntimeException", "java/lang/Exception"], vx_ot w = true := by decide +kernel
end
