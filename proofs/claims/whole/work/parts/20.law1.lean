/-! the law's helpers (by program) -/
def setO (E : En) (v : Int64) : En := (ecy E, ead E, en E, vp_updL (eo E) 0 v, ed E)
def setD (E : En) (v : UInt64) : En := (ecy E, ead E, en E, eo E, vf_upd (ed E) 0 v)
theorem wd_setO (E : En) (σ : St) (v : Int64) : (wd E σ).set 35 (ead E 35, .inl (ecy E 4, 1, .inr (.inl (vp_updL (eo E) (0 : Int32).toNatClampNeg v)))) = wd (setO E v) σ := rfl
theorem wd_setD (E : En) (σ : St) (v : UInt64) : (wd E σ).set 36 (ead E 36, .inl (ecy E 5, 1, .inr (.inr (.inr (.inl (vf_upd (ed E) (0 : Int32).toNatClampNeg v)))))) = wd (setD E v) σ := rfl
/-- what the law's helper answers for a throw -/
def wcd (a b k : Nat) : Int32 := if k = 0 then 0 else if k = a then 1 else if k = b then 2 else 3
theorem ric (x y : Int32) : S_X6_requireIndex x y = 0 ∨ S_X6_requireIndex x y = 1 := by
  unfold S_X6_requireIndex
  (repeat' split) <;> first | exact Or.inl rfl | exact Or.inr rfl
theorem rrc (x y z : Int32) : S_X6_requireRange x y z = 0 ∨ S_X6_requireRange x y z = 2 := by
  unfold S_X6_requireRange
  (repeat' split) <;> first | exact Or.inl rfl | exact Or.inr rfl
theorem rsc (x : Int32) : S_X6_requireStrength x = 0 ∨ S_X6_requireStrength x = 2 := by
  unfold S_X6_requireStrength
  (repeat' split) <;> first | exact Or.inl rfl | exact Or.inr rfl
theorem rpc (x : Int32) : S_X6_requirePossible x = 0 ∨ S_X6_requirePossible x = 3 := by
  unfold S_X6_requirePossible
  (repeat' split) <;> first | exact Or.inl rfl | exact Or.inr rfl
theorem rqp0 : S_X6_requirePossible 0 = 3 := by decide +kernel
theorem rqp1 : S_X6_requirePossible 1 = 0 := by decide +kernel
theorem itc {α : Type} {c : Prop} [Decidable c] {a b : α} {P : α → Prop} (ha : P a) (hb : P b) : P (if c then a else b) := by
  split
  · exact ha
  · exact hb
theorem pass10_c : ∀ (n : Nat) (σ : St) (p1 : Int32) (j2 : Nat), (S_X6_pass_10 n σ p1 j2).1 = 0
  | 0, σ, p1, j2 => rfl
  | n + 1, σ, p1, j2 => by
    rw [S_X6_pass_10_s]
    split
    · rfl
    · exact pass10_c n _ p1 _
theorem queue16_c : ∀ (n : Nat) (σ : St) (p1 : Int32) (j2 : Nat), (S_X6_queue_16 n σ p1 j2).1 = 0
  | 0, σ, p1, j2 => rfl
  | n + 1, σ, p1, j2 => by
    rw [S_X6_queue_16_s]
    (repeat' split) <;> first | rfl | exact queue16_c n σ p1 _
set_option maxHeartbeats 400000 in
theorem code_weather (σ : St) (p1 : Int32) (p2 : Int32) (p3 : Int32) (p4 : Int32) : (S_X6_weather σ p1 p2 p3 p4).1 = 0 ∨ (S_X6_weather σ p1 p2 p3 p4).1 = 2 := by
  unfold S_X6_weather
  (repeat' (with_reducible refine itc (P := (fun z : Nat × St => z.1 = 0 ∨ z.1 = 2)) ?_ ?_)) <;> first | with_reducible exact Or.inl rfl | with_reducible exact (rrc _ _ _).elim (fun e => Or.inl e) (fun e => Or.inr (e)) | with_reducible exact (rsc _).elim (fun e => Or.inl e) (fun e => Or.inr (e)) | with_reducible exact Or.inl rfl
set_option maxHeartbeats 400000 in
theorem code_spray (σ : St) (p1 : Int32) : (S_X6_spray σ p1).1 = 0 ∨ (S_X6_spray σ p1).1 = 1 := by
  unfold S_X6_spray
  (repeat' (with_reducible refine itc (P := (fun z : Nat × Int32 × St => z.1 = 0 ∨ z.1 = 1)) ?_ ?_)) <;> first | with_reducible exact Or.inl rfl | with_reducible exact (ric _ _).elim (fun e => Or.inl e) (fun e => Or.inr (e)) | with_reducible exact Or.inl rfl
set_option maxHeartbeats 400000 in
theorem code_close (σ : St) (p1 : Int32) (p2 : Int32) : (S_X6_close σ p1 p2).1 = 0 ∨ (S_X6_close σ p1 p2).1 = 2 := by
  unfold S_X6_close
  (repeat' (with_reducible refine itc (P := (fun z : Nat × Int32 × St => z.1 = 0 ∨ z.1 = 2)) ?_ ?_)) <;> first | with_reducible exact Or.inl rfl | with_reducible exact (rrc _ _ _).elim (fun e => Or.inl e) (fun e => Or.inr (e)) | with_reducible exact (rsc _).elim (fun e => Or.inl e) (fun e => Or.inr (e)) | with_reducible exact Or.inl rfl
set_option maxHeartbeats 400000 in
theorem code_pilot (σ : St) (p1 : Int32) (p2 : Int32) : (S_X6_pilot σ p1 p2).1 = 0 ∨ (S_X6_pilot σ p1 p2).1 = 1 ∨ (S_X6_pilot σ p1 p2).1 = 2 := by
  unfold S_X6_pilot
  (repeat' (with_reducible refine itc (P := (fun z : Nat × Int32 × St => z.1 = 0 ∨ z.1 = 1 ∨ z.1 = 2)) ?_ ?_)) <;> first | with_reducible exact Or.inl rfl | with_reducible exact (ric _ _).elim (fun e => Or.inl e) (fun e => Or.inr (Or.inl e)) | with_reducible exact (rrc _ _ _).elim (fun e => Or.inl e) (fun e => Or.inr (Or.inr (e))) | with_reducible exact (rsc _).elim (fun e => Or.inl e) (fun e => Or.inr (Or.inr (e))) | with_reducible exact Or.inl rfl
set_option maxHeartbeats 400000 in
theorem code_supply (σ : St) (p1 : Int32) (p2 : Int32) : (S_X6_supply σ p1 p2).1 = 0 ∨ (S_X6_supply σ p1 p2).1 = 1 ∨ (S_X6_supply σ p1 p2).1 = 2 ∨ (S_X6_supply σ p1 p2).1 = 3 := by
  unfold S_X6_supply S_X6_supply_34
  (repeat' (with_reducible refine itc (P := (fun z : Nat × Int32 × St => z.1 = 0 ∨ z.1 = 1 ∨ z.1 = 2 ∨ z.1 = 3)) ?_ ?_)) <;> first | with_reducible exact Or.inl rfl | with_reducible exact Or.inr (Or.inr (Or.inr (rqp0))) | with_reducible exact Or.inl rqp1 | with_reducible exact (ric _ _).elim (fun e => Or.inl e) (fun e => Or.inr (Or.inl e)) | with_reducible exact (rrc _ _ _).elim (fun e => Or.inl e) (fun e => Or.inr (Or.inr (Or.inl e))) | with_reducible exact (rsc _).elim (fun e => Or.inl e) (fun e => Or.inr (Or.inr (Or.inl e))) | with_reducible exact (rpc _).elim (fun e => Or.inl e) (fun e => Or.inr (Or.inr (Or.inr (e)))) | with_reducible exact Or.inl rfl
set_option maxHeartbeats 400000 in
theorem code_table (σ : St) (p1 : Int32) (p2 : Int32) (p3 : Int32) : (S_X6_table σ p1 p2 p3).1 = 0 ∨ (S_X6_table σ p1 p2 p3).1 = 1 ∨ (S_X6_table σ p1 p2 p3).1 = 2 := by
  unfold S_X6_table
  (repeat' (with_reducible refine itc (P := (fun z : Nat × Int32 × St => z.1 = 0 ∨ z.1 = 1 ∨ z.1 = 2)) ?_ ?_)) <;> first | with_reducible exact Or.inl rfl | with_reducible exact (ric _ _).elim (fun e => Or.inl e) (fun e => Or.inr (Or.inl e)) | with_reducible exact (rrc _ _ _).elim (fun e => Or.inl e) (fun e => Or.inr (Or.inr (e))) | with_reducible exact (rsc _).elim (fun e => Or.inl e) (fun e => Or.inr (Or.inr (e))) | with_reducible exact Or.inl rfl
set_option maxHeartbeats 400000 in
theorem code_aircraft (σ : St) (p1 : Int32) (p2 : Int32) (p3 : Int32) : (S_X6_aircraft σ p1 p2 p3).1 = 0 ∨ (S_X6_aircraft σ p1 p2 p3).1 = 2 ∨ (S_X6_aircraft σ p1 p2 p3).1 = 3 := by
  unfold S_X6_aircraft S_X6_aircraft_38 S_X6_aircraft_41
  (repeat' (with_reducible refine itc (P := (fun z : Nat × Int32 × St => z.1 = 0 ∨ z.1 = 2 ∨ z.1 = 3)) ?_ ?_)) <;> first | with_reducible exact Or.inl rfl | with_reducible exact Or.inr (Or.inr (rqp0)) | with_reducible exact Or.inl rqp1 | with_reducible exact (rrc _ _ _).elim (fun e => Or.inl e) (fun e => Or.inr (Or.inl e)) | with_reducible exact (rsc _).elim (fun e => Or.inl e) (fun e => Or.inr (Or.inl e)) | with_reducible exact (rpc _).elim (fun e => Or.inl e) (fun e => Or.inr (Or.inr (e))) | with_reducible exact Or.inl rfl
set_option maxHeartbeats 400000 in
theorem code_treat (σ : St) (p1 : Int32) (p2 : Int32) (p3 : Int32) (p4 : Int32) (p5 : Int32) : (S_X6_treat σ p1 p2 p3 p4 p5).1 = 0 ∨ (S_X6_treat σ p1 p2 p3 p4 p5).1 = 1 ∨ (S_X6_treat σ p1 p2 p3 p4 p5).1 = 2 ∨ (S_X6_treat σ p1 p2 p3 p4 p5).1 = 3 := by
  unfold S_X6_treat S_X6_treat_66 S_X6_treat_95 S_X6_treat_117
  (repeat' (with_reducible refine itc (P := (fun z : Nat × Int32 × St => z.1 = 0 ∨ z.1 = 1 ∨ z.1 = 2 ∨ z.1 = 3)) ?_ ?_)) <;> first | with_reducible exact Or.inl rfl | with_reducible exact Or.inr (Or.inr (Or.inr (rqp0))) | with_reducible exact Or.inl rqp1 | with_reducible exact (ric _ _).elim (fun e => Or.inl e) (fun e => Or.inr (Or.inl e)) | with_reducible exact (rrc _ _ _).elim (fun e => Or.inl e) (fun e => Or.inr (Or.inr (Or.inl e))) | with_reducible exact (rsc _).elim (fun e => Or.inl e) (fun e => Or.inr (Or.inr (Or.inl e))) | with_reducible exact (rpc _).elim (fun e => Or.inl e) (fun e => Or.inr (Or.inr (Or.inr (e)))) | with_reducible exact Or.inl rfl
set_option maxHeartbeats 400000 in
theorem code_cancel (σ : St) (p1 : Int32) : (S_X6_cancel σ p1).1 = 0 ∨ (S_X6_cancel σ p1).1 = 1 ∨ (S_X6_cancel σ p1).1 = 3 := by
  unfold S_X6_cancel S_X6_cancel_27
  (repeat' (with_reducible refine itc (P := (fun z : Nat × Int32 × St => z.1 = 0 ∨ z.1 = 1 ∨ z.1 = 3)) ?_ ?_)) <;> first | with_reducible exact Or.inl rfl | with_reducible exact Or.inr (Or.inr (rqp0)) | with_reducible exact Or.inl rqp1 | with_reducible exact (ric _ _).elim (fun e => Or.inl e) (fun e => Or.inr (Or.inl e)) | with_reducible exact (rpc _).elim (fun e => Or.inl e) (fun e => Or.inr (Or.inr (e))) | with_reducible exact Or.inl rfl
set_option maxHeartbeats 400000 in
theorem code_permit (σ : St) (p1 : Int32) : (S_X6_permit σ p1).1 = 0 ∨ (S_X6_permit σ p1).1 = 2 := by
  unfold S_X6_permit
  (repeat' (with_reducible refine itc (P := (fun z : Nat × Int32 × St => z.1 = 0 ∨ z.1 = 2)) ?_ ?_)) <;> first | with_reducible exact Or.inl rfl | with_reducible exact (rrc _ _ _).elim (fun e => Or.inl e) (fun e => Or.inr (e)) | with_reducible exact (rsc _).elim (fun e => Or.inl e) (fun e => Or.inr (e)) | with_reducible exact Or.inl rfl
set_option maxHeartbeats 400000 in
theorem code_release (σ : St) (p1 : Int32) : (S_X6_release σ p1).1 = 0 ∨ (S_X6_release σ p1).1 = 2 ∨ (S_X6_release σ p1).1 = 3 := by
  unfold S_X6_release S_X6_release_54
  (repeat' (with_reducible refine itc (P := (fun z : Nat × Int32 × St => z.1 = 0 ∨ z.1 = 2 ∨ z.1 = 3)) ?_ ?_)) <;> first | with_reducible exact Or.inl rfl | with_reducible exact Or.inr (Or.inr (rqp0)) | with_reducible exact Or.inl rqp1 | with_reducible exact (rrc _ _ _).elim (fun e => Or.inl e) (fun e => Or.inr (Or.inl e)) | with_reducible exact (rsc _).elim (fun e => Or.inl e) (fun e => Or.inr (Or.inl e)) | with_reducible exact (rpc _).elim (fun e => Or.inl e) (fun e => Or.inr (Or.inr (e))) | with_reducible exact Or.inl rfl
set_option maxHeartbeats 400000 in
theorem code_pass (σ : St) (p1 : Int32) : (S_X6_pass σ p1).1 = 0 ∨ (S_X6_pass σ p1).1 = 2 := by
  unfold S_X6_pass
  (repeat' (with_reducible refine itc (P := (fun z : Nat × Int32 × St => z.1 = 0 ∨ z.1 = 2)) ?_ ?_)) <;> first | with_reducible exact Or.inl rfl | with_reducible exact (rrc _ _ _).elim (fun e => Or.inl e) (fun e => Or.inr (e)) | with_reducible exact (rsc _).elim (fun e => Or.inl e) (fun e => Or.inr (e)) | with_reducible exact Or.inl (pass10_c _ _ _ _)
set_option maxHeartbeats 400000 in
theorem code_code (σ : St) (p1 : Int32) : (S_X6_code σ p1).1 = 0 ∨ (S_X6_code σ p1).1 = 1 := by
  unfold S_X6_code
  (repeat' (with_reducible refine itc (P := (fun z : Nat × Int32 × St => z.1 = 0 ∨ z.1 = 1)) ?_ ?_)) <;> first | with_reducible exact Or.inl rfl | with_reducible exact (ric _ _).elim (fun e => Or.inl e) (fun e => Or.inr (e)) | with_reducible exact Or.inl rfl
set_option maxHeartbeats 400000 in
theorem code_thirdOf (σ : St) (p1 : Int32) (p2 : Int32) : (S_X6_thirdOf σ p1 p2).1 = 0 ∨ (S_X6_thirdOf σ p1 p2).1 = 1 ∨ (S_X6_thirdOf σ p1 p2).1 = 2 := by
  unfold S_X6_thirdOf
  (repeat' (with_reducible refine itc (P := (fun z : Nat × Int32 × St => z.1 = 0 ∨ z.1 = 1 ∨ z.1 = 2)) ?_ ?_)) <;> first | with_reducible exact Or.inl rfl | with_reducible exact (ric _ _).elim (fun e => Or.inl e) (fun e => Or.inr (Or.inl e)) | with_reducible exact (rrc _ _ _).elim (fun e => Or.inl e) (fun e => Or.inr (Or.inr (e))) | with_reducible exact (rsc _).elim (fun e => Or.inl e) (fun e => Or.inr (Or.inr (e))) | with_reducible exact Or.inl rfl
set_option maxHeartbeats 400000 in
theorem code_aircraftOf (σ : St) (p1 : Int32) (p2 : Int32) : (S_X6_aircraftOf σ p1 p2).1 = 0 ∨ (S_X6_aircraftOf σ p1 p2).1 = 1 ∨ (S_X6_aircraftOf σ p1 p2).1 = 2 := by
  unfold S_X6_aircraftOf
  (repeat' (with_reducible refine itc (P := (fun z : Nat × Int32 × St => z.1 = 0 ∨ z.1 = 1 ∨ z.1 = 2)) ?_ ?_)) <;> first | with_reducible exact Or.inl rfl | with_reducible exact (ric _ _).elim (fun e => Or.inl e) (fun e => Or.inr (Or.inl e)) | with_reducible exact (rrc _ _ _).elim (fun e => Or.inl e) (fun e => Or.inr (Or.inr (e))) | with_reducible exact (rsc _).elim (fun e => Or.inl e) (fun e => Or.inr (Or.inr (e))) | with_reducible exact Or.inl rfl
set_option maxHeartbeats 400000 in
theorem code_clock (σ : St) (p1 : Int32) : (S_X6_clock σ p1).1 = 0 ∨ (S_X6_clock σ p1).1 = 1 ∨ (S_X6_clock σ p1).1 = 3 := by
  unfold S_X6_clock S_X6_clock_25
  (repeat' (with_reducible refine itc (P := (fun z : Nat × UInt64 × St => z.1 = 0 ∨ z.1 = 1 ∨ z.1 = 3)) ?_ ?_)) <;> first | with_reducible exact Or.inl rfl | with_reducible exact Or.inr (Or.inr (rqp0)) | with_reducible exact Or.inl rqp1 | with_reducible exact (ric _ _).elim (fun e => Or.inl e) (fun e => Or.inr (Or.inl e)) | with_reducible exact (rpc _).elim (fun e => Or.inl e) (fun e => Or.inr (Or.inr (e))) | with_reducible exact Or.inl rfl
set_option maxHeartbeats 400000 in
theorem code_whyNot (σ : St) (p1 : Int32) : (S_X6_whyNot σ p1).1 = 0 ∨ (S_X6_whyNot σ p1).1 = 1 := by
  unfold S_X6_whyNot
  (repeat' (with_reducible refine itc (P := (fun z : Nat × Int32 × St => z.1 = 0 ∨ z.1 = 1)) ?_ ?_)) <;> first | with_reducible exact Or.inl rfl | with_reducible exact (ric _ _).elim (fun e => Or.inl e) (fun e => Or.inr (e)) | with_reducible exact Or.inl rfl
set_option maxHeartbeats 400000 in
theorem code_queue (σ : St) (p1 : Int32) : (S_X6_queue σ p1).1 = 0 ∨ (S_X6_queue σ p1).1 = 1 := by
  unfold S_X6_queue
  (repeat' (with_reducible refine itc (P := (fun z : Nat × Int32 × St => z.1 = 0 ∨ z.1 = 1)) ?_ ?_)) <;> first | with_reducible exact Or.inl rfl | with_reducible exact (ric _ _).elim (fun e => Or.inl e) (fun e => Or.inr (e)) | with_reducible exact Or.inr rfl | with_reducible exact Or.inl (queue16_c _ _ _ _)
set_option maxHeartbeats 400000 in
theorem code_sum (σ : St) (p1 : Int32) : (S_X6_sum σ p1).1 = 0 ∨ (S_X6_sum σ p1).1 = 2 := by
  unfold S_X6_sum
  (repeat' (with_reducible refine itc (P := (fun z : Nat × Int32 × St => z.1 = 0 ∨ z.1 = 2)) ?_ ?_)) <;> first | with_reducible exact Or.inl rfl | with_reducible exact (rrc _ _ _).elim (fun e => Or.inl e) (fun e => Or.inr (e)) | with_reducible exact (rsc _).elim (fun e => Or.inl e) (fun e => Or.inr (e)) | with_reducible exact Or.inl rfl
def CL (l : Launch) (y : MethodName) (cc : ByteArray) (maxL : Nat) (hh : List (Nat × Nat × Nat × Nat)) (rm : Room) (av : List Value) (D : va_G) (E : En) (σ : St) (post : Int32 → En × St → Prop) (mc ms : Nat) : Prop :=
  ∀ sz : Nat, Met l y [.codeWith y cc maxL (some .int) hh] rm (va_Pc av (PRE D E σ sz)) (va_Qi post (fun u : En × St => POB D u.1 (va_A (wd E σ) sz) u.2) (va_A (wd E σ) sz)) mc ms (va_A (wd E σ) sz)
theorem CL.of {l : Launch} {y : MethodName} {cc : ByteArray} {maxL : Nat} {hh : List (Nat × Nat × Nat × Nat)} {tb : List ExceptionTableEntry} {rm : Room} {av : List Value} {D : va_G} {E : En} {σ : St} {post : Int32 → En × St → Prop} {mc ms : Nat} (own : String) (hy : plainName y.cls = true) (ho : y.cls = own) (hlen : (lg_sl av).length ≤ maxL) (htb : tableOf hh = tb)
    (body : ∀ (p : Program) (e : Env) (s : State) (m : MethodId) (below : List Frame) (meth : Method) (c : Code) (A : Nat → Prop) (ls : Array Slot), CX p s m meth c cc own maxL D E A → HW D E σ A s s.heap [] → meth.sig.returnType = some .int → c.exceptionTable.toList = tb → lv_has ls maxL (lv_args 0 av) →
      W p l e rm s m av.toArray below meth c s.heap [] 0 0 (MQ below (va_Qi post (fun u : En × St => POB D u.1 A u.2) A) av.toArray s mc ms A) (F0 m 0 ls [])) : CL l y cc maxL hh rm av D E σ post mc ms := by
  intro sz
  refine va_MetW (cc := cc) (maxL := maxL) (ret := some .int) hy rfl ?_
  intro p e s m args below meth c s₁ B hml hv
  have hcw := atoms_spec (ws := [Cond.codeWith y cc maxL (some .int) hh]) B.pre _ (List.mem_singleton.mpr rfl)
  have hex : c.exceptionTable.toList = tb := (vx_table (x := y) B hcw).trans htb
  obtain ⟨rfl, hsz, hP, hK, hD0, hT, hX, hE⟩ := hv
  subst hsz
  subst ho
  rw [lg_entry_eq]
  exact body p e s m below meth c _ _ ⟨B.exec, B.bytes, hml, findClass_of_methodNamed B.named, B.notSynchronized, hT, hX, hK, fun q h => Or.inr h, hE⟩ ⟨hP, hD0.self, va_S.rf⟩ B.returns hex (lv_entry av hlen)
section LW
variable {p : Program} {l : Launch} {e : Env} {R : Room} {s : State} {m : MethodId} {args : Array Value} {below : List Frame} {meth : Method} {c : Code} {H : Heap} {locs : List Loc} {cells slots : Nat} {Q : State → Prop}
variable {cc : ByteArray} {own : String} {nL : Nat} {D : va_G} {E : En} {A : Nat → Prop} {σ : St} {pc : Nat} {ls : Array Slot} {rest : List Value}
theorem rtW {post : Int32 → En × St → Prop} {u : St} {v : Int32} (C : CX p s m meth c cc own nL D E A) (h : HW D E u A s H locs) (hr : meth.sig.returnType = some .int) (dg : decode cc pc = .ok (.ireturn, 1)) (hp : post v (E, u)) : W p l e R s m args below meth c H locs cells slots (MQ below (va_Qi post (fun u : En × St => POB D u.1 A u.2) A) args s cells slots A) (F0 m pc ls [.int v]) :=
  W.iret C.x C.b hr (fun t ht hW => ⟨⟨v, (E, u), rfl, hp, by show va_P D vwCl (wd E u) t.heap; rw [ht]; exact h.1, va_K.moved hW.alike C.k, h.2.1⟩, h.2.2.F ht⟩) h.2.2.2.2 dg C.lk
theorem as_35 {v : Int64} (C : CX p s m meth c cc own nL D E A) (h : HW D E σ A s H locs) (dg : decode cc pc = .ok (.lastore, 1)) (kk : ∀ (H1 : Heap) (locs1 : List Loc), HW D (setO E v) σ A s H1 locs1 → W p l e R s m args below meth c H1 locs1 cells slots Q (F0 m (pc + 1) ls rest)) : W p l e R s m args below meth c H locs cells slots Q (F0 m pc ls (.long v :: .int 0 :: .ref (ead E 35) :: rest)) :=
  va_last C.x C.b C.k h.1 h.2.1 h.2.2 35 4 rfl rfl (vp_in_nI (n := 0) (N := 1) (by decide) (by decide)) dg (fun H1 locs1 hP hD hS => kk H1 locs1 (hw_of (wd_setO E σ v) hP hD hS))
theorem as_36 {v : UInt64} (C : CX p s m meth c cc own nL D E A) (h : HW D E σ A s H locs) (dg : decode cc pc = .ok (.dastore, 1)) (kk : ∀ (H1 : Heap) (locs1 : List Loc), HW D (setD E v) σ A s H1 locs1 → W p l e R s m args below meth c H1 locs1 cells slots Q (F0 m (pc + 1) ls rest)) : W p l e R s m args below meth c H locs cells slots Q (F0 m pc ls (.double v :: .int 0 :: .ref (ead E 36) :: rest)) :=
  va_dast C.x C.b C.k h.1 h.2.1 h.2.2 36 5 rfl rfl (vp_in_nI (n := 0) (N := 1) (by decide) (by decide)) dg (fun H1 locs1 hP hD hS => kk H1 locs1 (hw_of (wd_setD E σ v) hP hD hS))
variable {hls : List (Nat × Value)} {y : MethodName} {bytes : ByteArray} {maxL mc ms index : Nat} {ret : Option FieldType} {rm : Room} {As : List Value} {C9 : String} {T9 : u_T} {N9 b q0 ci thr : Nat} {fs : List Value} {stk : List Value}
theorem cxVg {post : Int32 → Nat × St → Prop} (C : CX p s m meth c cc own nL D E A) (h : HW D E σ A s H locs) (hM : CT l y bytes maxL ret rm (.ref b :: As) D E σ (fun A => va_Qi post (fun u : Nat × St => POB D (grow E u.1) A u.2) A) thr mc ms) (w : CWd own index y bytes maxL ret As.length) (wi : Cond.instanceMethod y ∈ wsL_law) (wv : Cond.selects C9 y y ∈ wsL_law) (hrc : rm.cells = mc) (hrs : rm.slots = ms) (hR : rm.frames + 1 ≤ R.frames ∧ 8 + (maxL + 11) + rm.locals ≤ R.locals) (he : (wd E σ)[q0]? = some (b, .inr (ci, fs))) (hc : vwCl[ci]? = some (C9, T9, N9)) (hl : lv_has ls nL hls) (hst : stk = As.reverse ++ .ref b :: rest) (hW : (rest.map fun v => v.category).sum ≤ 8) (dg : decode cc pc = .ok (.invokevirtual index, 3)) (hf : cells + mc ≤ R.cells ∧ slots + ms ≤ R.slots)
    (kx : ∀ (k : Nat) (ce : Cell) (q9 : Addr) (H1 : Heap) (locs1 : List Loc), k ≠ 0 → thr = k → HW D E σ A s H1 locs1 → H1[q9]? = some ce → ce.vm = .none → s.vm.findClass (exn k) = some ce.cls → vx_W p l e R s m args below meth c H1 locs1 (cells + mc) (slots + ms) Q (F0 m pc ls rest) q9)
    (kk : ∀ (r : Int32) (u : Nat × St) (H1 : Heap) (locs1 : List Loc), post r u → HW D (grow E u.1) u.2 A s H1 locs1 → W p l e R s m args below meth c H1 locs1 (cells + mc) (slots + ms) Q (F0 m (pc + 3) ls (.int r :: rest))) : W p l e R s m args below meth c H locs cells slots Q (F0 m pc ls stk) :=
  vx_calli (vx_runV ⟨C.x, C.b, C.ml, C.ow, C.tb.args args⟩ (hM H.size) ⟨cwB C w hrc hrs hR, C.w args wi, C.w args wv⟩ ⟨pre_blind, va_recv C.k h.1 hc he, pre_at C h _⟩ rfl rfl hl.1 hst (lv_room hW) dg hf) h.2.2 (fun q _ => fr C h q) (fr C h) (fun q _ => fr C h q)
    (fun X ce q9 k t H1 locs1 ht hvm hw hB hz hk hS h1 h2 h3 => by
      obtain ⟨hX, hP, hK, hD⟩ := hB
      subst hX
      exact kx k ce q9 H1 locs1 hw.1 hw.2 ⟨by rw [← ht]; exact hP, hD.weaken (fun _ _ _ q => fr C h _ q), hS⟩ h1 h2 h3)
    (fun r u t H1 locs1 ht hvm hw hB hz hk hS => kk r u H1 locs1 hw ⟨by rw [← ht]; exact hB.1, hB.2.2.weaken (fun _ _ _ q => fr C h _ q), hS⟩)
end LW
theorem cw_L_7 : CWd RL 7 yX6_weather cX6_weather 5 none 4 := ⟨m_ml_L_7, m_co_X6_weather, m_ini_X6, by decide +kernel, by decide +kernel⟩
abbrev rm_L_weather : Room := { frames := 8, cells := 10, slots := 60, locals := 146 }
set_option maxRecDepth 100000 in
set_option maxHeartbeats 4000000 in
theorem M_L_weather (l : Launch) (hfl : l.stackTraces = false) (D : va_G) (E : En) (σ : St) (ok : OK E σ) (p1 : Int32) (p2 : Int32) (p3 : Int32) (p4 : Int32) : CL l yL_weather cL_weather 6 [(0, 9, 12, 13)] rm_L_weather [.ref (ead E 0), .int p1, .int p2, .int p3, .int p4] D E σ (fun (r : Int32) (u : En × St) => wcd 2 9 (S_X6_weather σ p1 p2 p3 p4).1 = r ∧ ((S_X6_weather σ p1 p2 p3 p4).1 = 0 → u = (E, (S_X6_weather σ p1 p2 p3 p4).2)) ∧ (¬ (S_X6_weather σ p1 p2 p3 p4).1 = 0 → u = (E, σ))) 10 60 := by
  refine CL.of (tb := [⟨0, 9, 12, 13⟩]) RL (by decide +kernel) rfl (Nat.le_of_ble_eq_true rfl) rfl (fun p e s m below meth c A ls C h hr hex hl => ?_)
  generalize hargs : ([.ref (ead E 0), .int p1, .int p2, .int p3, .int p4] : List Value).toArray = args
  have hl : lv_has ls 6 [(0, .ref (ead E 0)), (1, .int p1), (2, .int p2), (3, .int p3), (4, .int p4)] := hl
  refine lv_aload_n C.x C.b dL_weather_0 rfl (lv_at hl 0 rfl) ?_
  refine lv_iload_n C.x C.b dL_weather_1 rfl (lv_at hl 1 rfl) ?_
  refine lv_iload_n C.x C.b dL_weather_2 rfl (lv_at hl 2 rfl) ?_
  refine lv_iload_n C.x C.b dL_weather_3 rfl (lv_at hl 3 rfl) ?_
  refine lv_iload C.x C.b dL_weather_4 (lv_at hl 4 rfl) ?_
  refine cxVv (As := [.int p1, .int p2, .int p3, .int p4]) (rest := []) (q0 := 0) (ci := 6) C h (M_X6_weather l hfl D E _ ok p1 p2 p3 p4) cw_L_7 m_im_X6_weather m_se_X6_weather rfl rfl ⟨Nat.le_of_ble_eq_true rfl, Nat.le_of_ble_eq_true rfl⟩ rfl rfl hl rfl (Nat.le_of_ble_eq_true rfl) dL_weather_6 ⟨Nat.le_of_ble_eq_true rfl, Nat.le_of_ble_eq_true rfl⟩ (fun k ce q9 H locs hk he h h1 h2 h3 => ?_) (fun u H locs hw h => ?_)
  · rcases code_weather σ p1 p2 p3 p4 with e0 | e1
    · exact absurd (he.symm.trans e0) hk
    · have hk1 : k = 2 := he.symm.trans e1
      subst hk1
      refine vx_catch (own := RL) (name := exn 2) C.ow [] ⟨0, 9, 12, 13⟩ [] hex (fun z hz => absurd hz List.not_mem_nil) (by decide) (by decide) (C.w args m_cl_L_13) (va_Nw.use (xcs_on _ (List.mem_of_getElem? (i := 1) rfl)) (C.sx.2.1 _ (List.mem_of_getElem? (i := 1) rfl))) h1 h2 h3 ?_
      refine lv_astore (lv' := [(5, .ref q9), (0, .ref (ead E 0)), (1, .int p1), (2, .int p2), (3, .int p3), (4, .int p4)]) C.x C.b dL_weather_12 hl (by decide) rfl (fun ls hl => ?_)
      refine lv_iconst (v := 1) C.x C.b dL_weather_14 (by decide) ?_
      exact rtW C h hr dL_weather_15 ⟨by rw [e1]; rfl, fun q => absurd (he.symm.trans q) hk, fun _ => rfl⟩
  · obtain ⟨c1, rfl⟩ := hw
    refine lv_goto (tgt := 16) C.x C.b dL_weather_9 (by decide) ?_
    refine lv_iconst (v := 0) C.x C.b dL_weather_16 (by decide) ?_
    exact rtW (E := E) C h hr dL_weather_17 ⟨by rw [c1]; rfl, fun _ => rfl, fun q => absurd c1 q⟩
theorem cw_L_15 : CWd RL 15 yX6_spray cX6_spray 3 (some .int) 1 := ⟨m_ml_L_15, m_co_X6_spray, m_ini_X6, by decide +kernel, by decide +kernel⟩
abbrev rm_L_spray : Room := { frames := 8, cells := 10, slots := 60, locals := 143 }
set_option maxRecDepth 100000 in
set_option maxHeartbeats 4000000 in
theorem M_L_spray (l : Launch) (hfl : l.stackTraces = false) (D : va_G) (E : En) (σ : St) (ok : OK E σ) (p1 : Int32) : CL l yL_spray cL_spray 4 [(0, 9, 12, 19)] rm_L_spray [.ref (ead E 0), .int p1, .ref (ead E 35)] D E σ (fun (r : Int32) (u : En × St) => wcd 1 9 (S_X6_spray σ p1).1 = r ∧ ((S_X6_spray σ p1).1 = 0 → u = (setO E (S_X6_spray σ p1).2.1.toInt64, (S_X6_spray σ p1).2.2)) ∧ (¬ (S_X6_spray σ p1).1 = 0 → u = (E, σ))) 10 60 := by
  refine CL.of (tb := [⟨0, 9, 12, 19⟩]) RL (by decide +kernel) rfl (Nat.le_of_ble_eq_true rfl) rfl (fun p e s m below meth c A ls C h hr hex hl => ?_)
  generalize hargs : ([.ref (ead E 0), .int p1, .ref (ead E 35)] : List Value).toArray = args
  have hl : lv_has ls 4 [(0, .ref (ead E 0)), (1, .int p1), (2, .ref (ead E 35))] := hl
  refine lv_aload_n C.x C.b dL_spray_0 rfl (lv_at hl 2 rfl) ?_
  refine lv_iconst (v := 0) C.x C.b dL_spray_1 (by decide) ?_
  refine lv_aload_n C.x C.b dL_spray_2 rfl (lv_at hl 0 rfl) ?_
  refine lv_iload_n C.x C.b dL_spray_3 rfl (lv_at hl 1 rfl) ?_
  refine cxVi (As := [.int p1]) (rest := [.int 0, .ref (ead E 35)]) (q0 := 0) (ci := 6) C h (M_X6_spray l hfl D E _ ok p1) cw_L_15 m_im_X6_spray m_se_X6_spray rfl rfl ⟨Nat.le_of_ble_eq_true rfl, Nat.le_of_ble_eq_true rfl⟩ rfl rfl hl rfl (Nat.le_of_ble_eq_true rfl) dL_spray_4 ⟨Nat.le_of_ble_eq_true rfl, Nat.le_of_ble_eq_true rfl⟩ (fun k ce q9 H locs hk he h h1 h2 h3 => ?_) (fun r u H locs hw h => ?_)
  · rcases code_spray σ p1 with e0 | e1
    · exact absurd (he.symm.trans e0) hk
    · have hk1 : k = 1 := he.symm.trans e1
      subst hk1
      refine vx_catch (own := RL) (name := exn 1) C.ow [] ⟨0, 9, 12, 19⟩ [] hex (fun z hz => absurd hz List.not_mem_nil) (by decide) (by decide) (C.w args m_cl_L_19) (va_Nw.use (xcs_on _ (List.mem_of_getElem? (i := 0) rfl)) (C.sx.2.1 _ (List.mem_of_getElem? (i := 0) rfl))) h1 h2 h3 ?_
      refine lv_astore_n (lv' := [(3, .ref q9), (0, .ref (ead E 0)), (1, .int p1), (2, .ref (ead E 35))]) C.x C.b dL_spray_12 rfl hl (by decide) rfl (fun ls hl => ?_)
      refine lv_iconst (v := 1) C.x C.b dL_spray_13 (by decide) ?_
      exact rtW C h hr dL_spray_14 ⟨by rw [e1]; rfl, fun q => absurd (he.symm.trans q) hk, fun _ => rfl⟩
  · obtain ⟨c1, rfl, rfl⟩ := hw
    refine lv_i2l (v := (S_X6_spray σ p1).2.1.toInt64) C.x C.b dL_spray_7 rfl ?_
    refine as_35 C h dL_spray_8 (fun H locs h => ?_)
    refine lv_goto (tgt := 15) C.x C.b dL_spray_9 (by decide) ?_
    refine lv_iconst (v := 0) C.x C.b dL_spray_15 (by decide) ?_
    exact rtW (E := (setO E _)) C h hr dL_spray_16 ⟨by rw [c1]; rfl, fun _ => rfl, fun q => absurd c1 q⟩
theorem cw_L_21 : CWd RL 21 yX6_close cX6_close 3 (some .int) 2 := ⟨m_ml_L_21, m_co_X6_close, m_ini_X6, by decide +kernel, by decide +kernel⟩
abbrev rm_L_close : Room := { frames := 8, cells := 10, slots := 60, locals := 144 }
set_option maxRecDepth 100000 in
set_option maxHeartbeats 4000000 in
theorem M_L_close (l : Launch) (hfl : l.stackTraces = false) (D : va_G) (E : En) (σ : St) (ok : OK E σ) (p1 : Int32) (p2 : Int32) : CL l yL_close cL_close 5 [(0, 10, 13, 13)] rm_L_close [.ref (ead E 0), .int p1, .int p2, .ref (ead E 35)] D E σ (fun (r : Int32) (u : En × St) => wcd 2 9 (S_X6_close σ p1 p2).1 = r ∧ ((S_X6_close σ p1 p2).1 = 0 → u = (setO E (S_X6_close σ p1 p2).2.1.toInt64, (S_X6_close σ p1 p2).2.2)) ∧ (¬ (S_X6_close σ p1 p2).1 = 0 → u = (E, σ))) 10 60 := by
  refine CL.of (tb := [⟨0, 10, 13, 13⟩]) RL (by decide +kernel) rfl (Nat.le_of_ble_eq_true rfl) rfl (fun p e s m below meth c A ls C h hr hex hl => ?_)
  generalize hargs : ([.ref (ead E 0), .int p1, .int p2, .ref (ead E 35)] : List Value).toArray = args
  have hl : lv_has ls 5 [(0, .ref (ead E 0)), (1, .int p1), (2, .int p2), (3, .ref (ead E 35))] := hl
  refine lv_aload_n C.x C.b dL_close_0 rfl (lv_at hl 3 rfl) ?_
  refine lv_iconst (v := 0) C.x C.b dL_close_1 (by decide) ?_
  refine lv_aload_n C.x C.b dL_close_2 rfl (lv_at hl 0 rfl) ?_
  refine lv_iload_n C.x C.b dL_close_3 rfl (lv_at hl 1 rfl) ?_
  refine lv_iload_n C.x C.b dL_close_4 rfl (lv_at hl 2 rfl) ?_
  refine cxVi (As := [.int p1, .int p2]) (rest := [.int 0, .ref (ead E 35)]) (q0 := 0) (ci := 6) C h (M_X6_close l hfl D E _ ok p1 p2) cw_L_21 m_im_X6_close m_se_X6_close rfl rfl ⟨Nat.le_of_ble_eq_true rfl, Nat.le_of_ble_eq_true rfl⟩ rfl rfl hl rfl (Nat.le_of_ble_eq_true rfl) dL_close_5 ⟨Nat.le_of_ble_eq_true rfl, Nat.le_of_ble_eq_true rfl⟩ (fun k ce q9 H locs hk he h h1 h2 h3 => ?_) (fun r u H locs hw h => ?_)
  · rcases code_close σ p1 p2 with e0 | e1
    · exact absurd (he.symm.trans e0) hk
    · have hk1 : k = 2 := he.symm.trans e1
      subst hk1
      refine vx_catch (own := RL) (name := exn 2) C.ow [] ⟨0, 10, 13, 13⟩ [] hex (fun z hz => absurd hz List.not_mem_nil) (by decide) (by decide) (C.w args m_cl_L_13) (va_Nw.use (xcs_on _ (List.mem_of_getElem? (i := 1) rfl)) (C.sx.2.1 _ (List.mem_of_getElem? (i := 1) rfl))) h1 h2 h3 ?_
      refine lv_astore (lv' := [(4, .ref q9), (0, .ref (ead E 0)), (1, .int p1), (2, .int p2), (3, .ref (ead E 35))]) C.x C.b dL_close_13 hl (by decide) rfl (fun ls hl => ?_)
      refine lv_iconst (v := 1) C.x C.b dL_close_15 (by decide) ?_
      exact rtW C h hr dL_close_16 ⟨by rw [e1]; rfl, fun q => absurd (he.symm.trans q) hk, fun _ => rfl⟩
  · obtain ⟨c1, rfl, rfl⟩ := hw
    refine lv_i2l (v := (S_X6_close σ p1 p2).2.1.toInt64) C.x C.b dL_close_8 rfl ?_
    refine as_35 C h dL_close_9 (fun H locs h => ?_)
    refine lv_goto (tgt := 17) C.x C.b dL_close_10 (by decide) ?_
    refine lv_iconst (v := 0) C.x C.b dL_close_17 (by decide) ?_
    exact rtW (E := (setO E _)) C h hr dL_close_18 ⟨by rw [c1]; rfl, fun _ => rfl, fun q => absurd c1 q⟩
theorem cw_L_25 : CWd RL 25 yX6_pilot cX6_pilot 4 (some .int) 2 := ⟨m_ml_L_25, m_co_X6_pilot, m_ini_X6, by decide +kernel, by decide +kernel⟩
abbrev rm_L_pilot : Room := { frames := 8, cells := 10, slots := 60, locals := 145 }
set_option maxRecDepth 100000 in
set_option maxHeartbeats 4000000 in
theorem M_L_pilot (l : Launch) (hfl : l.stackTraces = false) (D : va_G) (E : En) (σ : St) (ok : OK E σ) (p1 : Int32) (p2 : Int32) : CL l yL_pilot cL_pilot 5 [(0, 10, 13, 19), (0, 10, 17, 13)] rm_L_pilot [.ref (ead E 0), .int p1, .int p2, .ref (ead E 35)] D E σ (fun (r : Int32) (u : En × St) => wcd 1 2 (S_X6_pilot σ p1 p2).1 = r ∧ ((S_X6_pilot σ p1 p2).1 = 0 → u = (setO E (S_X6_pilot σ p1 p2).2.1.toInt64, (S_X6_pilot σ p1 p2).2.2)) ∧ (¬ (S_X6_pilot σ p1 p2).1 = 0 → u = (E, σ))) 10 60 := by
  refine CL.of (tb := [⟨0, 10, 13, 19⟩, ⟨0, 10, 17, 13⟩]) RL (by decide +kernel) rfl (Nat.le_of_ble_eq_true rfl) rfl (fun p e s m below meth c A ls C h hr hex hl => ?_)
  generalize hargs : ([.ref (ead E 0), .int p1, .int p2, .ref (ead E 35)] : List Value).toArray = args
  have hl : lv_has ls 5 [(0, .ref (ead E 0)), (1, .int p1), (2, .int p2), (3, .ref (ead E 35))] := hl
  refine lv_aload_n C.x C.b dL_pilot_0 rfl (lv_at hl 3 rfl) ?_
  refine lv_iconst (v := 0) C.x C.b dL_pilot_1 (by decide) ?_
  refine lv_aload_n C.x C.b dL_pilot_2 rfl (lv_at hl 0 rfl) ?_
  refine lv_iload_n C.x C.b dL_pilot_3 rfl (lv_at hl 1 rfl) ?_
  refine lv_iload_n C.x C.b dL_pilot_4 rfl (lv_at hl 2 rfl) ?_
  refine cxVi (As := [.int p1, .int p2]) (rest := [.int 0, .ref (ead E 35)]) (q0 := 0) (ci := 6) C h (M_X6_pilot l hfl D E _ ok p1 p2) cw_L_25 m_im_X6_pilot m_se_X6_pilot rfl rfl ⟨Nat.le_of_ble_eq_true rfl, Nat.le_of_ble_eq_true rfl⟩ rfl rfl hl rfl (Nat.le_of_ble_eq_true rfl) dL_pilot_5 ⟨Nat.le_of_ble_eq_true rfl, Nat.le_of_ble_eq_true rfl⟩ (fun k ce q9 H locs hk he h h1 h2 h3 => ?_) (fun r u H locs hw h => ?_)
  · rcases code_pilot σ p1 p2 with e0 | e1 | e2
    · exact absurd (he.symm.trans e0) hk
    · have hk1 : k = 1 := he.symm.trans e1
      subst hk1
      refine vx_catch (own := RL) (name := exn 1) C.ow [] ⟨0, 10, 13, 19⟩ [⟨0, 10, 17, 13⟩] hex (fun z hz => absurd hz List.not_mem_nil) (by decide) (by decide) (C.w args m_cl_L_19) (va_Nw.use (xcs_on _ (List.mem_of_getElem? (i := 0) rfl)) (C.sx.2.1 _ (List.mem_of_getElem? (i := 0) rfl))) h1 h2 h3 ?_
      refine lv_astore (lv' := [(4, .ref q9), (0, .ref (ead E 0)), (1, .int p1), (2, .int p2), (3, .ref (ead E 35))]) C.x C.b dL_pilot_13 hl (by decide) rfl (fun ls hl => ?_)
      refine lv_iconst (v := 1) C.x C.b dL_pilot_15 (by decide) ?_
      exact rtW C h hr dL_pilot_16 ⟨by rw [e1]; rfl, fun q => absurd (he.symm.trans q) hk, fun _ => rfl⟩
    · have hk1 : k = 2 := he.symm.trans e2
      subst hk1
      refine vx_catch (own := RL) (name := exn 2) C.ow [⟨0, 10, 13, 19⟩] ⟨0, 10, 17, 13⟩ [] hex (fun z hz => by rw [List.mem_singleton.mp hz]; exact Or.inr ⟨by decide, exn 1, C.w args m_cl_L_19, C.sx.2.2.1.1⟩) (by decide) (by decide) (C.w args m_cl_L_13) (va_Nw.use (xcs_on _ (List.mem_of_getElem? (i := 1) rfl)) (C.sx.2.1 _ (List.mem_of_getElem? (i := 1) rfl))) h1 h2 h3 ?_
      refine lv_astore (lv' := [(4, .ref q9), (0, .ref (ead E 0)), (1, .int p1), (2, .int p2), (3, .ref (ead E 35))]) C.x C.b dL_pilot_17 hl (by decide) rfl (fun ls hl => ?_)
      refine lv_iconst (v := 2) C.x C.b dL_pilot_19 (by decide) ?_
      exact rtW C h hr dL_pilot_20 ⟨by rw [e2]; rfl, fun q => absurd (he.symm.trans q) hk, fun _ => rfl⟩
  · obtain ⟨c1, rfl, rfl⟩ := hw
    refine lv_i2l (v := (S_X6_pilot σ p1 p2).2.1.toInt64) C.x C.b dL_pilot_8 rfl ?_
    refine as_35 C h dL_pilot_9 (fun H locs h => ?_)
    refine lv_goto (tgt := 21) C.x C.b dL_pilot_10 (by decide) ?_
    refine lv_iconst (v := 0) C.x C.b dL_pilot_21 (by decide) ?_
    exact rtW (E := (setO E _)) C h hr dL_pilot_22 ⟨by rw [c1]; rfl, fun _ => rfl, fun q => absurd c1 q⟩
theorem cw_L_28 : CWd RL 28 yX6_supply cX6_supply 3 (some .int) 2 := ⟨m_ml_L_28, m_co_X6_supply, m_ini_X6, by decide +kernel, by decide +kernel⟩
abbrev rm_L_supply : Room := { frames := 8, cells := 10, slots := 60, locals := 144 }
set_option maxRecDepth 100000 in
set_option maxHeartbeats 4000000 in
theorem M_L_supply (l : Launch) (hfl : l.stackTraces = false) (D : va_G) (E : En) (σ : St) (ok : OK E σ) (p1 : Int32) (p2 : Int32) : CL l yL_supply cL_supply 5 [(0, 10, 13, 19), (0, 10, 17, 13), (0, 10, 21, 31)] rm_L_supply [.ref (ead E 0), .int p1, .int p2, .ref (ead E 35)] D E σ (fun (r : Int32) (u : En × St) => wcd 1 2 (S_X6_supply σ p1 p2).1 = r ∧ ((S_X6_supply σ p1 p2).1 = 0 → u = (setO E (S_X6_supply σ p1 p2).2.1.toInt64, (S_X6_supply σ p1 p2).2.2)) ∧ (¬ (S_X6_supply σ p1 p2).1 = 0 → u = (E, σ))) 10 60 := by
  refine CL.of (tb := [⟨0, 10, 13, 19⟩, ⟨0, 10, 17, 13⟩, ⟨0, 10, 21, 31⟩]) RL (by decide +kernel) rfl (Nat.le_of_ble_eq_true rfl) rfl (fun p e s m below meth c A ls C h hr hex hl => ?_)
  generalize hargs : ([.ref (ead E 0), .int p1, .int p2, .ref (ead E 35)] : List Value).toArray = args
  have hl : lv_has ls 5 [(0, .ref (ead E 0)), (1, .int p1), (2, .int p2), (3, .ref (ead E 35))] := hl
  refine lv_aload_n C.x C.b dL_supply_0 rfl (lv_at hl 3 rfl) ?_
  refine lv_iconst (v := 0) C.x C.b dL_supply_1 (by decide) ?_
  refine lv_aload_n C.x C.b dL_supply_2 rfl (lv_at hl 0 rfl) ?_
  refine lv_iload_n C.x C.b dL_supply_3 rfl (lv_at hl 1 rfl) ?_
  refine lv_iload_n C.x C.b dL_supply_4 rfl (lv_at hl 2 rfl) ?_
  refine cxVi (As := [.int p1, .int p2]) (rest := [.int 0, .ref (ead E 35)]) (q0 := 0) (ci := 6) C h (M_X6_supply l hfl D E _ ok p1 p2) cw_L_28 m_im_X6_supply m_se_X6_supply rfl rfl ⟨Nat.le_of_ble_eq_true rfl, Nat.le_of_ble_eq_true rfl⟩ rfl rfl hl rfl (Nat.le_of_ble_eq_true rfl) dL_supply_5 ⟨Nat.le_of_ble_eq_true rfl, Nat.le_of_ble_eq_true rfl⟩ (fun k ce q9 H locs hk he h h1 h2 h3 => ?_) (fun r u H locs hw h => ?_)
  · rcases code_supply σ p1 p2 with e0 | e1 | e2 | e3
    · exact absurd (he.symm.trans e0) hk
    · have hk1 : k = 1 := he.symm.trans e1
      subst hk1
      refine vx_catch (own := RL) (name := exn 1) C.ow [] ⟨0, 10, 13, 19⟩ [⟨0, 10, 17, 13⟩, ⟨0, 10, 21, 31⟩] hex (fun z hz => absurd hz List.not_mem_nil) (by decide) (by decide) (C.w args m_cl_L_19) (va_Nw.use (xcs_on _ (List.mem_of_getElem? (i := 0) rfl)) (C.sx.2.1 _ (List.mem_of_getElem? (i := 0) rfl))) h1 h2 h3 ?_
      refine lv_astore (lv' := [(4, .ref q9), (0, .ref (ead E 0)), (1, .int p1), (2, .int p2), (3, .ref (ead E 35))]) C.x C.b dL_supply_13 hl (by decide) rfl (fun ls hl => ?_)
      refine lv_iconst (v := 1) C.x C.b dL_supply_15 (by decide) ?_
      exact rtW C h hr dL_supply_16 ⟨by rw [e1]; rfl, fun q => absurd (he.symm.trans q) hk, fun _ => rfl⟩
    · have hk1 : k = 2 := he.symm.trans e2
      subst hk1
      refine vx_catch (own := RL) (name := exn 2) C.ow [⟨0, 10, 13, 19⟩] ⟨0, 10, 17, 13⟩ [⟨0, 10, 21, 31⟩] hex (fun z hz => by rw [List.mem_singleton.mp hz]; exact Or.inr ⟨by decide, exn 1, C.w args m_cl_L_19, C.sx.2.2.1.1⟩) (by decide) (by decide) (C.w args m_cl_L_13) (va_Nw.use (xcs_on _ (List.mem_of_getElem? (i := 1) rfl)) (C.sx.2.1 _ (List.mem_of_getElem? (i := 1) rfl))) h1 h2 h3 ?_
      refine lv_astore (lv' := [(4, .ref q9), (0, .ref (ead E 0)), (1, .int p1), (2, .int p2), (3, .ref (ead E 35))]) C.x C.b dL_supply_17 hl (by decide) rfl (fun ls hl => ?_)
      refine lv_iconst (v := 2) C.x C.b dL_supply_19 (by decide) ?_
      exact rtW C h hr dL_supply_20 ⟨by rw [e2]; rfl, fun q => absurd (he.symm.trans q) hk, fun _ => rfl⟩
    · have hk1 : k = 3 := he.symm.trans e3
      subst hk1
      refine vx_catch (own := RL) (name := exn 3) C.ow [⟨0, 10, 13, 19⟩, ⟨0, 10, 17, 13⟩] ⟨0, 10, 21, 31⟩ [] hex (fun z hz => by
        rcases List.mem_cons.mp hz with hz | hz
        · rw [hz]; exact Or.inr ⟨by decide, exn 1, C.w args m_cl_L_19, C.sx.2.2.1.2.1⟩
        · rw [List.mem_singleton.mp hz]; exact Or.inr ⟨by decide, exn 2, C.w args m_cl_L_13, C.sx.2.2.1.2.2⟩) (by decide) (by decide) (C.w args m_cl_L_31) (va_Nw.use (xcs_on _ (List.mem_of_getElem? (i := 2) rfl)) (C.sx.2.1 _ (List.mem_of_getElem? (i := 2) rfl))) h1 h2 h3 ?_
      refine lv_astore (lv' := [(4, .ref q9), (0, .ref (ead E 0)), (1, .int p1), (2, .int p2), (3, .ref (ead E 35))]) C.x C.b dL_supply_21 hl (by decide) rfl (fun ls hl => ?_)
      refine lv_iconst (v := 3) C.x C.b dL_supply_23 (by decide) ?_
      exact rtW C h hr dL_supply_24 ⟨by rw [e3]; rfl, fun q => absurd (he.symm.trans q) hk, fun _ => rfl⟩
  · obtain ⟨c1, rfl, rfl⟩ := hw
    refine lv_i2l (v := (S_X6_supply σ p1 p2).2.1.toInt64) C.x C.b dL_supply_8 rfl ?_
    refine as_35 C h dL_supply_9 (fun H locs h => ?_)
    refine lv_goto (tgt := 25) C.x C.b dL_supply_10 (by decide) ?_
    refine lv_iconst (v := 0) C.x C.b dL_supply_25 (by decide) ?_
    exact rtW (E := (setO E _)) C h hr dL_supply_26 ⟨by rw [c1]; rfl, fun _ => rfl, fun q => absurd c1 q⟩
theorem cw_L_33 : CWd RL 33 yX6_table cX6_table 5 (some .int) 3 := ⟨m_ml_L_33, m_co_X6_table, m_ini_X6, by decide +kernel, by decide +kernel⟩
abbrev rm_L_table : Room := { frames := 8, cells := 10, slots := 60, locals := 146 }
set_option maxRecDepth 100000 in
set_option maxHeartbeats 4000000 in
theorem M_L_table (l : Launch) (hfl : l.stackTraces = false) (D : va_G) (E : En) (σ : St) (ok : OK E σ) (p1 : Int32) (p2 : Int32) (p3 : Int32) : CL l yL_table cL_table 6 [(0, 12, 15, 19), (0, 12, 19, 13)] rm_L_table [.ref (ead E 0), .int p1, .int p2, .int p3, .ref (ead E 35)] D E σ (fun (r : Int32) (u : En × St) => wcd 1 2 (S_X6_table σ p1 p2 p3).1 = r ∧ ((S_X6_table σ p1 p2 p3).1 = 0 → u = (setO E (S_X6_table σ p1 p2 p3).2.1.toInt64, (S_X6_table σ p1 p2 p3).2.2)) ∧ (¬ (S_X6_table σ p1 p2 p3).1 = 0 → u = (E, σ))) 10 60 := by
  refine CL.of (tb := [⟨0, 12, 15, 19⟩, ⟨0, 12, 19, 13⟩]) RL (by decide +kernel) rfl (Nat.le_of_ble_eq_true rfl) rfl (fun p e s m below meth c A ls C h hr hex hl => ?_)
  generalize hargs : ([.ref (ead E 0), .int p1, .int p2, .int p3, .ref (ead E 35)] : List Value).toArray = args
  have hl : lv_has ls 6 [(0, .ref (ead E 0)), (1, .int p1), (2, .int p2), (3, .int p3), (4, .ref (ead E 35))] := hl
  refine lv_aload C.x C.b dL_table_0 (lv_at hl 4 rfl) ?_
  refine lv_iconst (v := 0) C.x C.b dL_table_2 (by decide) ?_
  refine lv_aload_n C.x C.b dL_table_3 rfl (lv_at hl 0 rfl) ?_
  refine lv_iload_n C.x C.b dL_table_4 rfl (lv_at hl 1 rfl) ?_
  refine lv_iload_n C.x C.b dL_table_5 rfl (lv_at hl 2 rfl) ?_
  refine lv_iload_n C.x C.b dL_table_6 rfl (lv_at hl 3 rfl) ?_
  refine cxVi (As := [.int p1, .int p2, .int p3]) (rest := [.int 0, .ref (ead E 35)]) (q0 := 0) (ci := 6) C h (M_X6_table l hfl D E _ ok p1 p2 p3) cw_L_33 m_im_X6_table m_se_X6_table rfl rfl ⟨Nat.le_of_ble_eq_true rfl, Nat.le_of_ble_eq_true rfl⟩ rfl rfl hl rfl (Nat.le_of_ble_eq_true rfl) dL_table_7 ⟨Nat.le_of_ble_eq_true rfl, Nat.le_of_ble_eq_true rfl⟩ (fun k ce q9 H locs hk he h h1 h2 h3 => ?_) (fun r u H locs hw h => ?_)
  · rcases code_table σ p1 p2 p3 with e0 | e1 | e2
    · exact absurd (he.symm.trans e0) hk
    · have hk1 : k = 1 := he.symm.trans e1
      subst hk1
      refine vx_catch (own := RL) (name := exn 1) C.ow [] ⟨0, 12, 15, 19⟩ [⟨0, 12, 19, 13⟩] hex (fun z hz => absurd hz List.not_mem_nil) (by decide) (by decide) (C.w args m_cl_L_19) (va_Nw.use (xcs_on _ (List.mem_of_getElem? (i := 0) rfl)) (C.sx.2.1 _ (List.mem_of_getElem? (i := 0) rfl))) h1 h2 h3 ?_
      refine lv_astore (lv' := [(5, .ref q9), (0, .ref (ead E 0)), (1, .int p1), (2, .int p2), (3, .int p3), (4, .ref (ead E 35))]) C.x C.b dL_table_15 hl (by decide) rfl (fun ls hl => ?_)
      refine lv_iconst (v := 1) C.x C.b dL_table_17 (by decide) ?_
      exact rtW C h hr dL_table_18 ⟨by rw [e1]; rfl, fun q => absurd (he.symm.trans q) hk, fun _ => rfl⟩
    · have hk1 : k = 2 := he.symm.trans e2
      subst hk1
      refine vx_catch (own := RL) (name := exn 2) C.ow [⟨0, 12, 15, 19⟩] ⟨0, 12, 19, 13⟩ [] hex (fun z hz => by rw [List.mem_singleton.mp hz]; exact Or.inr ⟨by decide, exn 1, C.w args m_cl_L_19, C.sx.2.2.1.1⟩) (by decide) (by decide) (C.w args m_cl_L_13) (va_Nw.use (xcs_on _ (List.mem_of_getElem? (i := 1) rfl)) (C.sx.2.1 _ (List.mem_of_getElem? (i := 1) rfl))) h1 h2 h3 ?_
      refine lv_astore (lv' := [(5, .ref q9), (0, .ref (ead E 0)), (1, .int p1), (2, .int p2), (3, .int p3), (4, .ref (ead E 35))]) C.x C.b dL_table_19 hl (by decide) rfl (fun ls hl => ?_)
      refine lv_iconst (v := 2) C.x C.b dL_table_21 (by decide) ?_
      exact rtW C h hr dL_table_22 ⟨by rw [e2]; rfl, fun q => absurd (he.symm.trans q) hk, fun _ => rfl⟩
  · obtain ⟨c1, rfl, rfl⟩ := hw
    refine lv_i2l (v := (S_X6_table σ p1 p2 p3).2.1.toInt64) C.x C.b dL_table_10 rfl ?_
    refine as_35 C h dL_table_11 (fun H locs h => ?_)
    refine lv_goto (tgt := 23) C.x C.b dL_table_12 (by decide) ?_
    refine lv_iconst (v := 0) C.x C.b dL_table_23 (by decide) ?_
    exact rtW (E := (setO E _)) C h hr dL_table_24 ⟨by rw [c1]; rfl, fun _ => rfl, fun q => absurd c1 q⟩
theorem cw_L_37 : CWd RL 37 yX6_aircraft cX6_aircraft 5 (some .int) 3 := ⟨m_ml_L_37, m_co_X6_aircraft, m_ini_X6, by decide +kernel, by decide +kernel⟩
abbrev rm_L_aircraft : Room := { frames := 8, cells := 10, slots := 60, locals := 146 }
set_option maxRecDepth 100000 in
set_option maxHeartbeats 4000000 in
theorem M_L_aircraft (l : Launch) (hfl : l.stackTraces = false) (D : va_G) (E : En) (σ : St) (ok : OK E σ) (p1 : Int32) (p2 : Int32) (p3 : Int32) : CL l yL_aircraft cL_aircraft 6 [(0, 12, 15, 13), (0, 12, 19, 31)] rm_L_aircraft [.ref (ead E 0), .int p1, .int p2, .int p3, .ref (ead E 35)] D E σ (fun (r : Int32) (u : En × St) => wcd 2 3 (S_X6_aircraft σ p1 p2 p3).1 = r ∧ ((S_X6_aircraft σ p1 p2 p3).1 = 0 → ∃ q : Nat, u = (setO (grow E q) (S_X6_aircraft σ p1 p2 p3).2.1.toInt64, (S_X6_aircraft σ p1 p2 p3).2.2)) ∧ (¬ (S_X6_aircraft σ p1 p2 p3).1 = 0 → u = (E, σ))) 10 60 := by
  refine CL.of (tb := [⟨0, 12, 15, 13⟩, ⟨0, 12, 19, 31⟩]) RL (by decide +kernel) rfl (Nat.le_of_ble_eq_true rfl) rfl (fun p e s m below meth c A ls C h hr hex hl => ?_)
  generalize hargs : ([.ref (ead E 0), .int p1, .int p2, .int p3, .ref (ead E 35)] : List Value).toArray = args
  have hl : lv_has ls 6 [(0, .ref (ead E 0)), (1, .int p1), (2, .int p2), (3, .int p3), (4, .ref (ead E 35))] := hl
  refine lv_aload C.x C.b dL_aircraft_0 (lv_at hl 4 rfl) ?_
  refine lv_iconst (v := 0) C.x C.b dL_aircraft_2 (by decide) ?_
  refine lv_aload_n C.x C.b dL_aircraft_3 rfl (lv_at hl 0 rfl) ?_
  refine lv_iload_n C.x C.b dL_aircraft_4 rfl (lv_at hl 1 rfl) ?_
  refine lv_iload_n C.x C.b dL_aircraft_5 rfl (lv_at hl 2 rfl) ?_
  refine lv_iload_n C.x C.b dL_aircraft_6 rfl (lv_at hl 3 rfl) ?_
  refine cxVg (As := [.int p1, .int p2, .int p3]) (rest := [.int 0, .ref (ead E 35)]) (q0 := 0) (ci := 6) C h (M_X6_aircraft l hfl D E _ ok p1 p2 p3) cw_L_37 m_im_X6_aircraft m_se_X6_aircraft rfl rfl ⟨Nat.le_of_ble_eq_true rfl, Nat.le_of_ble_eq_true rfl⟩ rfl rfl hl rfl (Nat.le_of_ble_eq_true rfl) dL_aircraft_7 ⟨Nat.le_of_ble_eq_true rfl, Nat.le_of_ble_eq_true rfl⟩ (fun k ce q9 H locs hk he h h1 h2 h3 => ?_) (fun r u H locs hw h => ?_)
  · rcases code_aircraft σ p1 p2 p3 with e0 | e1 | e2
    · exact absurd (he.symm.trans e0) hk
    · have hk1 : k = 2 := he.symm.trans e1
      subst hk1
      refine vx_catch (own := RL) (name := exn 2) C.ow [] ⟨0, 12, 15, 13⟩ [⟨0, 12, 19, 31⟩] hex (fun z hz => absurd hz List.not_mem_nil) (by decide) (by decide) (C.w args m_cl_L_13) (va_Nw.use (xcs_on _ (List.mem_of_getElem? (i := 1) rfl)) (C.sx.2.1 _ (List.mem_of_getElem? (i := 1) rfl))) h1 h2 h3 ?_
      refine lv_astore (lv' := [(5, .ref q9), (0, .ref (ead E 0)), (1, .int p1), (2, .int p2), (3, .int p3), (4, .ref (ead E 35))]) C.x C.b dL_aircraft_15 hl (by decide) rfl (fun ls hl => ?_)
      refine lv_iconst (v := 1) C.x C.b dL_aircraft_17 (by decide) ?_
      exact rtW C h hr dL_aircraft_18 ⟨by rw [e1]; rfl, fun q => absurd (he.symm.trans q) hk, fun _ => rfl⟩
    · have hk1 : k = 3 := he.symm.trans e2
      subst hk1
      refine vx_catch (own := RL) (name := exn 3) C.ow [⟨0, 12, 15, 13⟩] ⟨0, 12, 19, 31⟩ [] hex (fun z hz => by rw [List.mem_singleton.mp hz]; exact Or.inr ⟨by decide, exn 2, C.w args m_cl_L_13, C.sx.2.2.1.2.2⟩) (by decide) (by decide) (C.w args m_cl_L_31) (va_Nw.use (xcs_on _ (List.mem_of_getElem? (i := 2) rfl)) (C.sx.2.1 _ (List.mem_of_getElem? (i := 2) rfl))) h1 h2 h3 ?_
      refine lv_astore (lv' := [(5, .ref q9), (0, .ref (ead E 0)), (1, .int p1), (2, .int p2), (3, .int p3), (4, .ref (ead E 35))]) C.x C.b dL_aircraft_19 hl (by decide) rfl (fun ls hl => ?_)
      refine lv_iconst (v := 2) C.x C.b dL_aircraft_21 (by decide) ?_
      exact rtW C h hr dL_aircraft_22 ⟨by rw [e2]; rfl, fun q => absurd (he.symm.trans q) hk, fun _ => rfl⟩
  · obtain ⟨q0, u⟩ := u
    obtain ⟨c1, rfl, e2⟩ := hw
    have e2 : (S_X6_aircraft σ p1 p2 p3).2.2 = u := e2
    subst e2
    have C : CX p s m meth c cL_aircraft RL 6 D (grow E q0) A := C
    have h : HW D (grow E q0) (S_X6_aircraft σ p1 p2 p3).2.2 A s H locs := h
    refine lv_i2l (v := (S_X6_aircraft σ p1 p2 p3).2.1.toInt64) C.x C.b dL_aircraft_10 rfl ?_
    refine as_35 (E := grow E q0) C h dL_aircraft_11 (fun H locs h => ?_)
    refine lv_goto (tgt := 23) C.x C.b dL_aircraft_12 (by decide) ?_
    refine lv_iconst (v := 0) C.x C.b dL_aircraft_23 (by decide) ?_
    exact rtW (E := (setO (grow E q0) _)) C h hr dL_aircraft_24 ⟨by rw [c1]; rfl, fun _ => ⟨q0, rfl⟩, fun q => absurd c1 q⟩
theorem cw_L_40 : CWd RL 40 yX6_treat cX6_treat 7 (some .int) 5 := ⟨m_ml_L_40, m_co_X6_treat, m_ini_X6, by decide +kernel, by decide +kernel⟩
abbrev rm_L_treat : Room := { frames := 8, cells := 10, slots := 60, locals := 148 }
set_option maxRecDepth 100000 in
set_option maxHeartbeats 4000000 in
theorem M_L_treat (l : Launch) (hfl : l.stackTraces = false) (D : va_G) (E : En) (σ : St) (ok : OK E σ) (p1 : Int32) (p2 : Int32) (p3 : Int32) (p4 : Int32) (p5 : Int32) : CL l yL_treat cL_treat 8 [(0, 16, 19, 19), (0, 16, 23, 13), (0, 16, 27, 31)] rm_L_treat [.ref (ead E 0), .int p1, .int p2, .int p3, .int p4, .int p5, .ref (ead E 35)] D E σ (fun (r : Int32) (u : En × St) => wcd 1 2 (S_X6_treat σ p1 p2 p3 p4 p5).1 = r ∧ ((S_X6_treat σ p1 p2 p3 p4 p5).1 = 0 → u = (setO E (S_X6_treat σ p1 p2 p3 p4 p5).2.1.toInt64, (S_X6_treat σ p1 p2 p3 p4 p5).2.2)) ∧ (¬ (S_X6_treat σ p1 p2 p3 p4 p5).1 = 0 → u = (E, σ))) 10 60 := by
  refine CL.of (tb := [⟨0, 16, 19, 19⟩, ⟨0, 16, 23, 13⟩, ⟨0, 16, 27, 31⟩]) RL (by decide +kernel) rfl (Nat.le_of_ble_eq_true rfl) rfl (fun p e s m below meth c A ls C h hr hex hl => ?_)
  generalize hargs : ([.ref (ead E 0), .int p1, .int p2, .int p3, .int p4, .int p5, .ref (ead E 35)] : List Value).toArray = args
  have hl : lv_has ls 8 [(0, .ref (ead E 0)), (1, .int p1), (2, .int p2), (3, .int p3), (4, .int p4), (5, .int p5), (6, .ref (ead E 35))] := hl
  refine lv_aload C.x C.b dL_treat_0 (lv_at hl 6 rfl) ?_
  refine lv_iconst (v := 0) C.x C.b dL_treat_2 (by decide) ?_
  refine lv_aload_n C.x C.b dL_treat_3 rfl (lv_at hl 0 rfl) ?_
  refine lv_iload_n C.x C.b dL_treat_4 rfl (lv_at hl 1 rfl) ?_
  refine lv_iload_n C.x C.b dL_treat_5 rfl (lv_at hl 2 rfl) ?_
  refine lv_iload_n C.x C.b dL_treat_6 rfl (lv_at hl 3 rfl) ?_
  refine lv_iload C.x C.b dL_treat_7 (lv_at hl 4 rfl) ?_
  refine lv_iload C.x C.b dL_treat_9 (lv_at hl 5 rfl) ?_
  refine cxVi (As := [.int p1, .int p2, .int p3, .int p4, .int p5]) (rest := [.int 0, .ref (ead E 35)]) (q0 := 0) (ci := 6) C h (M_X6_treat l hfl D E _ ok p1 p2 p3 p4 p5) cw_L_40 m_im_X6_treat m_se_X6_treat rfl rfl ⟨Nat.le_of_ble_eq_true rfl, Nat.le_of_ble_eq_true rfl⟩ rfl rfl hl rfl (Nat.le_of_ble_eq_true rfl) dL_treat_11 ⟨Nat.le_of_ble_eq_true rfl, Nat.le_of_ble_eq_true rfl⟩ (fun k ce q9 H locs hk he h h1 h2 h3 => ?_) (fun r u H locs hw h => ?_)
  · rcases code_treat σ p1 p2 p3 p4 p5 with e0 | e1 | e2 | e3
    · exact absurd (he.symm.trans e0) hk
    · have hk1 : k = 1 := he.symm.trans e1
      subst hk1
      refine vx_catch (own := RL) (name := exn 1) C.ow [] ⟨0, 16, 19, 19⟩ [⟨0, 16, 23, 13⟩, ⟨0, 16, 27, 31⟩] hex (fun z hz => absurd hz List.not_mem_nil) (by decide) (by decide) (C.w args m_cl_L_19) (va_Nw.use (xcs_on _ (List.mem_of_getElem? (i := 0) rfl)) (C.sx.2.1 _ (List.mem_of_getElem? (i := 0) rfl))) h1 h2 h3 ?_
      refine lv_astore (lv' := [(7, .ref q9), (0, .ref (ead E 0)), (1, .int p1), (2, .int p2), (3, .int p3), (4, .int p4), (5, .int p5), (6, .ref (ead E 35))]) C.x C.b dL_treat_19 hl (by decide) rfl (fun ls hl => ?_)
      refine lv_iconst (v := 1) C.x C.b dL_treat_21 (by decide) ?_
      exact rtW C h hr dL_treat_22 ⟨by rw [e1]; rfl, fun q => absurd (he.symm.trans q) hk, fun _ => rfl⟩
    · have hk1 : k = 2 := he.symm.trans e2
      subst hk1
      refine vx_catch (own := RL) (name := exn 2) C.ow [⟨0, 16, 19, 19⟩] ⟨0, 16, 23, 13⟩ [⟨0, 16, 27, 31⟩] hex (fun z hz => by rw [List.mem_singleton.mp hz]; exact Or.inr ⟨by decide, exn 1, C.w args m_cl_L_19, C.sx.2.2.1.1⟩) (by decide) (by decide) (C.w args m_cl_L_13) (va_Nw.use (xcs_on _ (List.mem_of_getElem? (i := 1) rfl)) (C.sx.2.1 _ (List.mem_of_getElem? (i := 1) rfl))) h1 h2 h3 ?_
      refine lv_astore (lv' := [(7, .ref q9), (0, .ref (ead E 0)), (1, .int p1), (2, .int p2), (3, .int p3), (4, .int p4), (5, .int p5), (6, .ref (ead E 35))]) C.x C.b dL_treat_23 hl (by decide) rfl (fun ls hl => ?_)
      refine lv_iconst (v := 2) C.x C.b dL_treat_25 (by decide) ?_
      exact rtW C h hr dL_treat_26 ⟨by rw [e2]; rfl, fun q => absurd (he.symm.trans q) hk, fun _ => rfl⟩
    · have hk1 : k = 3 := he.symm.trans e3
      subst hk1
      refine vx_catch (own := RL) (name := exn 3) C.ow [⟨0, 16, 19, 19⟩, ⟨0, 16, 23, 13⟩] ⟨0, 16, 27, 31⟩ [] hex (fun z hz => by
        rcases List.mem_cons.mp hz with hz | hz
        · rw [hz]; exact Or.inr ⟨by decide, exn 1, C.w args m_cl_L_19, C.sx.2.2.1.2.1⟩
        · rw [List.mem_singleton.mp hz]; exact Or.inr ⟨by decide, exn 2, C.w args m_cl_L_13, C.sx.2.2.1.2.2⟩) (by decide) (by decide) (C.w args m_cl_L_31) (va_Nw.use (xcs_on _ (List.mem_of_getElem? (i := 2) rfl)) (C.sx.2.1 _ (List.mem_of_getElem? (i := 2) rfl))) h1 h2 h3 ?_
      refine lv_astore (lv' := [(7, .ref q9), (0, .ref (ead E 0)), (1, .int p1), (2, .int p2), (3, .int p3), (4, .int p4), (5, .int p5), (6, .ref (ead E 35))]) C.x C.b dL_treat_27 hl (by decide) rfl (fun ls hl => ?_)
      refine lv_iconst (v := 3) C.x C.b dL_treat_29 (by decide) ?_
      exact rtW C h hr dL_treat_30 ⟨by rw [e3]; rfl, fun q => absurd (he.symm.trans q) hk, fun _ => rfl⟩
  · obtain ⟨c1, rfl, rfl⟩ := hw
    refine lv_i2l (v := (S_X6_treat σ p1 p2 p3 p4 p5).2.1.toInt64) C.x C.b dL_treat_14 rfl ?_
    refine as_35 C h dL_treat_15 (fun H locs h => ?_)
    refine lv_goto (tgt := 31) C.x C.b dL_treat_16 (by decide) ?_
    refine lv_iconst (v := 0) C.x C.b dL_treat_31 (by decide) ?_
    exact rtW (E := (setO E _)) C h hr dL_treat_32 ⟨by rw [c1]; rfl, fun _ => rfl, fun q => absurd c1 q⟩
theorem cw_L_44 : CWd RL 44 yX6_cancel cX6_cancel 4 (some .int) 1 := ⟨m_ml_L_44, m_co_X6_cancel, m_ini_X6, by decide +kernel, by decide +kernel⟩
abbrev rm_L_cancel : Room := { frames := 8, cells := 10, slots := 60, locals := 144 }
set_option maxRecDepth 100000 in
set_option maxHeartbeats 4000000 in
theorem M_L_cancel (l : Launch) (hfl : l.stackTraces = false) (D : va_G) (E : En) (σ : St) (ok : OK E σ) (p1 : Int32) : CL l yL_cancel cL_cancel 4 [(0, 9, 12, 19), (0, 9, 15, 31)] rm_L_cancel [.ref (ead E 0), .int p1, .ref (ead E 35)] D E σ (fun (r : Int32) (u : En × St) => wcd 1 3 (S_X6_cancel σ p1).1 = r ∧ ((S_X6_cancel σ p1).1 = 0 → u = (setO E (S_X6_cancel σ p1).2.1.toInt64, (S_X6_cancel σ p1).2.2)) ∧ (¬ (S_X6_cancel σ p1).1 = 0 → u = (E, σ))) 10 60 := by
  refine CL.of (tb := [⟨0, 9, 12, 19⟩, ⟨0, 9, 15, 31⟩]) RL (by decide +kernel) rfl (Nat.le_of_ble_eq_true rfl) rfl (fun p e s m below meth c A ls C h hr hex hl => ?_)
  generalize hargs : ([.ref (ead E 0), .int p1, .ref (ead E 35)] : List Value).toArray = args
  have hl : lv_has ls 4 [(0, .ref (ead E 0)), (1, .int p1), (2, .ref (ead E 35))] := hl
  refine lv_aload_n C.x C.b dL_cancel_0 rfl (lv_at hl 2 rfl) ?_
  refine lv_iconst (v := 0) C.x C.b dL_cancel_1 (by decide) ?_
  refine lv_aload_n C.x C.b dL_cancel_2 rfl (lv_at hl 0 rfl) ?_
  refine lv_iload_n C.x C.b dL_cancel_3 rfl (lv_at hl 1 rfl) ?_
  refine cxVi (As := [.int p1]) (rest := [.int 0, .ref (ead E 35)]) (q0 := 0) (ci := 6) C h (M_X6_cancel l hfl D E _ ok p1) cw_L_44 m_im_X6_cancel m_se_X6_cancel rfl rfl ⟨Nat.le_of_ble_eq_true rfl, Nat.le_of_ble_eq_true rfl⟩ rfl rfl hl rfl (Nat.le_of_ble_eq_true rfl) dL_cancel_4 ⟨Nat.le_of_ble_eq_true rfl, Nat.le_of_ble_eq_true rfl⟩ (fun k ce q9 H locs hk he h h1 h2 h3 => ?_) (fun r u H locs hw h => ?_)
  · rcases code_cancel σ p1 with e0 | e1 | e2
    · exact absurd (he.symm.trans e0) hk
    · have hk1 : k = 1 := he.symm.trans e1
      subst hk1
      refine vx_catch (own := RL) (name := exn 1) C.ow [] ⟨0, 9, 12, 19⟩ [⟨0, 9, 15, 31⟩] hex (fun z hz => absurd hz List.not_mem_nil) (by decide) (by decide) (C.w args m_cl_L_19) (va_Nw.use (xcs_on _ (List.mem_of_getElem? (i := 0) rfl)) (C.sx.2.1 _ (List.mem_of_getElem? (i := 0) rfl))) h1 h2 h3 ?_
      refine lv_astore_n (lv' := [(3, .ref q9), (0, .ref (ead E 0)), (1, .int p1), (2, .ref (ead E 35))]) C.x C.b dL_cancel_12 rfl hl (by decide) rfl (fun ls hl => ?_)
      refine lv_iconst (v := 1) C.x C.b dL_cancel_13 (by decide) ?_
      exact rtW C h hr dL_cancel_14 ⟨by rw [e1]; rfl, fun q => absurd (he.symm.trans q) hk, fun _ => rfl⟩
    · have hk1 : k = 3 := he.symm.trans e2
      subst hk1
      refine vx_catch (own := RL) (name := exn 3) C.ow [⟨0, 9, 12, 19⟩] ⟨0, 9, 15, 31⟩ [] hex (fun z hz => by rw [List.mem_singleton.mp hz]; exact Or.inr ⟨by decide, exn 1, C.w args m_cl_L_19, C.sx.2.2.1.2.1⟩) (by decide) (by decide) (C.w args m_cl_L_31) (va_Nw.use (xcs_on _ (List.mem_of_getElem? (i := 2) rfl)) (C.sx.2.1 _ (List.mem_of_getElem? (i := 2) rfl))) h1 h2 h3 ?_
      refine lv_astore_n (lv' := [(3, .ref q9), (0, .ref (ead E 0)), (1, .int p1), (2, .ref (ead E 35))]) C.x C.b dL_cancel_15 rfl hl (by decide) rfl (fun ls hl => ?_)
      refine lv_iconst (v := 2) C.x C.b dL_cancel_16 (by decide) ?_
      exact rtW C h hr dL_cancel_17 ⟨by rw [e2]; rfl, fun q => absurd (he.symm.trans q) hk, fun _ => rfl⟩
  · obtain ⟨c1, rfl, rfl⟩ := hw
    refine lv_i2l (v := (S_X6_cancel σ p1).2.1.toInt64) C.x C.b dL_cancel_7 rfl ?_
    refine as_35 C h dL_cancel_8 (fun H locs h => ?_)
    refine lv_goto (tgt := 18) C.x C.b dL_cancel_9 (by decide) ?_
    refine lv_iconst (v := 0) C.x C.b dL_cancel_18 (by decide) ?_
    exact rtW (E := (setO E _)) C h hr dL_cancel_19 ⟨by rw [c1]; rfl, fun _ => rfl, fun q => absurd c1 q⟩
theorem cw_L_47 : CWd RL 47 yX6_permit cX6_permit 3 (some .int) 1 := ⟨m_ml_L_47, m_co_X6_permit, m_ini_X6, by decide +kernel, by decide +kernel⟩
abbrev rm_L_permit : Room := { frames := 8, cells := 10, slots := 60, locals := 144 }
set_option maxRecDepth 100000 in
set_option maxHeartbeats 4000000 in
theorem M_L_permit (l : Launch) (hfl : l.stackTraces = false) (D : va_G) (E : En) (σ : St) (ok : OK E σ) (p1 : Int32) : CL l yL_permit cL_permit 4 [(0, 9, 12, 13)] rm_L_permit [.ref (ead E 0), .int p1, .ref (ead E 35)] D E σ (fun (r : Int32) (u : En × St) => wcd 2 9 (S_X6_permit σ p1).1 = r ∧ ((S_X6_permit σ p1).1 = 0 → u = (setO E (S_X6_permit σ p1).2.1.toInt64, (S_X6_permit σ p1).2.2)) ∧ (¬ (S_X6_permit σ p1).1 = 0 → u = (E, σ))) 10 60 := by
  refine CL.of (tb := [⟨0, 9, 12, 13⟩]) RL (by decide +kernel) rfl (Nat.le_of_ble_eq_true rfl) rfl (fun p e s m below meth c A ls C h hr hex hl => ?_)
  generalize hargs : ([.ref (ead E 0), .int p1, .ref (ead E 35)] : List Value).toArray = args
  have hl : lv_has ls 4 [(0, .ref (ead E 0)), (1, .int p1), (2, .ref (ead E 35))] := hl
  refine lv_aload_n C.x C.b dL_permit_0 rfl (lv_at hl 2 rfl) ?_
  refine lv_iconst (v := 0) C.x C.b dL_permit_1 (by decide) ?_
  refine lv_aload_n C.x C.b dL_permit_2 rfl (lv_at hl 0 rfl) ?_
  refine lv_iload_n C.x C.b dL_permit_3 rfl (lv_at hl 1 rfl) ?_
  refine cxVi (As := [.int p1]) (rest := [.int 0, .ref (ead E 35)]) (q0 := 0) (ci := 6) C h (M_X6_permit l hfl D E _ ok p1) cw_L_47 m_im_X6_permit m_se_X6_permit rfl rfl ⟨Nat.le_of_ble_eq_true rfl, Nat.le_of_ble_eq_true rfl⟩ rfl rfl hl rfl (Nat.le_of_ble_eq_true rfl) dL_permit_4 ⟨Nat.le_of_ble_eq_true rfl, Nat.le_of_ble_eq_true rfl⟩ (fun k ce q9 H locs hk he h h1 h2 h3 => ?_) (fun r u H locs hw h => ?_)
  · rcases code_permit σ p1 with e0 | e1
    · exact absurd (he.symm.trans e0) hk
    · have hk1 : k = 2 := he.symm.trans e1
      subst hk1
      refine vx_catch (own := RL) (name := exn 2) C.ow [] ⟨0, 9, 12, 13⟩ [] hex (fun z hz => absurd hz List.not_mem_nil) (by decide) (by decide) (C.w args m_cl_L_13) (va_Nw.use (xcs_on _ (List.mem_of_getElem? (i := 1) rfl)) (C.sx.2.1 _ (List.mem_of_getElem? (i := 1) rfl))) h1 h2 h3 ?_
      refine lv_astore_n (lv' := [(3, .ref q9), (0, .ref (ead E 0)), (1, .int p1), (2, .ref (ead E 35))]) C.x C.b dL_permit_12 rfl hl (by decide) rfl (fun ls hl => ?_)
      refine lv_iconst (v := 1) C.x C.b dL_permit_13 (by decide) ?_
      exact rtW C h hr dL_permit_14 ⟨by rw [e1]; rfl, fun q => absurd (he.symm.trans q) hk, fun _ => rfl⟩
  · obtain ⟨c1, rfl, rfl⟩ := hw
    refine lv_i2l (v := (S_X6_permit σ p1).2.1.toInt64) C.x C.b dL_permit_7 rfl ?_
    refine as_35 C h dL_permit_8 (fun H locs h => ?_)
    refine lv_goto (tgt := 15) C.x C.b dL_permit_9 (by decide) ?_
    refine lv_iconst (v := 0) C.x C.b dL_permit_15 (by decide) ?_
    exact rtW (E := (setO E _)) C h hr dL_permit_16 ⟨by rw [c1]; rfl, fun _ => rfl, fun q => absurd c1 q⟩
theorem cw_L_50 : CWd RL 50 yX6_release cX6_release 4 (some .int) 1 := ⟨m_ml_L_50, m_co_X6_release, m_ini_X6, by decide +kernel, by decide +kernel⟩
abbrev rm_L_release : Room := { frames := 8, cells := 10, slots := 60, locals := 145 }
set_option maxRecDepth 100000 in
set_option maxHeartbeats 4000000 in
theorem M_L_release (l : Launch) (hfl : l.stackTraces = false) (D : va_G) (E : En) (σ : St) (ok : OK E σ) (p1 : Int32) : CL l yL_release cL_release 4 [(0, 9, 12, 13), (0, 9, 15, 31)] rm_L_release [.ref (ead E 0), .int p1, .ref (ead E 35)] D E σ (fun (r : Int32) (u : En × St) => wcd 2 3 (S_X6_release σ p1).1 = r ∧ ((S_X6_release σ p1).1 = 0 → u = (setO E (S_X6_release σ p1).2.1.toInt64, (S_X6_release σ p1).2.2)) ∧ (¬ (S_X6_release σ p1).1 = 0 → u = (E, σ))) 10 60 := by
  refine CL.of (tb := [⟨0, 9, 12, 13⟩, ⟨0, 9, 15, 31⟩]) RL (by decide +kernel) rfl (Nat.le_of_ble_eq_true rfl) rfl (fun p e s m below meth c A ls C h hr hex hl => ?_)
  generalize hargs : ([.ref (ead E 0), .int p1, .ref (ead E 35)] : List Value).toArray = args
  have hl : lv_has ls 4 [(0, .ref (ead E 0)), (1, .int p1), (2, .ref (ead E 35))] := hl
  refine lv_aload_n C.x C.b dL_release_0 rfl (lv_at hl 2 rfl) ?_
  refine lv_iconst (v := 0) C.x C.b dL_release_1 (by decide) ?_
  refine lv_aload_n C.x C.b dL_release_2 rfl (lv_at hl 0 rfl) ?_
  refine lv_iload_n C.x C.b dL_release_3 rfl (lv_at hl 1 rfl) ?_
  refine cxVi (As := [.int p1]) (rest := [.int 0, .ref (ead E 35)]) (q0 := 0) (ci := 6) C h (M_X6_release l hfl D E _ ok p1) cw_L_50 m_im_X6_release m_se_X6_release rfl rfl ⟨Nat.le_of_ble_eq_true rfl, Nat.le_of_ble_eq_true rfl⟩ rfl rfl hl rfl (Nat.le_of_ble_eq_true rfl) dL_release_4 ⟨Nat.le_of_ble_eq_true rfl, Nat.le_of_ble_eq_true rfl⟩ (fun k ce q9 H locs hk he h h1 h2 h3 => ?_) (fun r u H locs hw h => ?_)
  · rcases code_release σ p1 with e0 | e1 | e2
    · exact absurd (he.symm.trans e0) hk
    · have hk1 : k = 2 := he.symm.trans e1
      subst hk1
      refine vx_catch (own := RL) (name := exn 2) C.ow [] ⟨0, 9, 12, 13⟩ [⟨0, 9, 15, 31⟩] hex (fun z hz => absurd hz List.not_mem_nil) (by decide) (by decide) (C.w args m_cl_L_13) (va_Nw.use (xcs_on _ (List.mem_of_getElem? (i := 1) rfl)) (C.sx.2.1 _ (List.mem_of_getElem? (i := 1) rfl))) h1 h2 h3 ?_
      refine lv_astore_n (lv' := [(3, .ref q9), (0, .ref (ead E 0)), (1, .int p1), (2, .ref (ead E 35))]) C.x C.b dL_release_12 rfl hl (by decide) rfl (fun ls hl => ?_)
      refine lv_iconst (v := 1) C.x C.b dL_release_13 (by decide) ?_
      exact rtW C h hr dL_release_14 ⟨by rw [e1]; rfl, fun q => absurd (he.symm.trans q) hk, fun _ => rfl⟩
    · have hk1 : k = 3 := he.symm.trans e2
      subst hk1
      refine vx_catch (own := RL) (name := exn 3) C.ow [⟨0, 9, 12, 13⟩] ⟨0, 9, 15, 31⟩ [] hex (fun z hz => by rw [List.mem_singleton.mp hz]; exact Or.inr ⟨by decide, exn 2, C.w args m_cl_L_13, C.sx.2.2.1.2.2⟩) (by decide) (by decide) (C.w args m_cl_L_31) (va_Nw.use (xcs_on _ (List.mem_of_getElem? (i := 2) rfl)) (C.sx.2.1 _ (List.mem_of_getElem? (i := 2) rfl))) h1 h2 h3 ?_
      refine lv_astore_n (lv' := [(3, .ref q9), (0, .ref (ead E 0)), (1, .int p1), (2, .ref (ead E 35))]) C.x C.b dL_release_15 rfl hl (by decide) rfl (fun ls hl => ?_)
      refine lv_iconst (v := 2) C.x C.b dL_release_16 (by decide) ?_
      exact rtW C h hr dL_release_17 ⟨by rw [e2]; rfl, fun q => absurd (he.symm.trans q) hk, fun _ => rfl⟩
  · obtain ⟨c1, rfl, rfl⟩ := hw
    refine lv_i2l (v := (S_X6_release σ p1).2.1.toInt64) C.x C.b dL_release_7 rfl ?_
    refine as_35 C h dL_release_8 (fun H locs h => ?_)
    refine lv_goto (tgt := 18) C.x C.b dL_release_9 (by decide) ?_
    refine lv_iconst (v := 0) C.x C.b dL_release_18 (by decide) ?_
    exact rtW (E := (setO E _)) C h hr dL_release_19 ⟨by rw [c1]; rfl, fun _ => rfl, fun q => absurd c1 q⟩
theorem cw_L_53 : CWd RL 53 yX6_pass cX6_pass 3 (some .int) 1 := ⟨m_ml_L_53, m_co_X6_pass, m_ini_X6, by decide +kernel, by decide +kernel⟩
abbrev rm_L_pass : Room := { frames := 8, cells := 10, slots := 60, locals := 155 }
set_option maxRecDepth 100000 in
set_option maxHeartbeats 4000000 in
theorem M_L_pass (l : Launch) (hfl : l.stackTraces = false) (D : va_G) (E : En) (σ : St) (ok : OK E σ) (p1 : Int32) : CL l yL_pass cL_pass 4 [(0, 9, 12, 13)] rm_L_pass [.ref (ead E 0), .int p1, .ref (ead E 35)] D E σ (fun (r : Int32) (u : En × St) => wcd 2 9 (S_X6_pass σ p1).1 = r ∧ ((S_X6_pass σ p1).1 = 0 → u = (setO E (S_X6_pass σ p1).2.1.toInt64, (S_X6_pass σ p1).2.2)) ∧ (¬ (S_X6_pass σ p1).1 = 0 → u = (E, σ))) 10 60 := by
  refine CL.of (tb := [⟨0, 9, 12, 13⟩]) RL (by decide +kernel) rfl (Nat.le_of_ble_eq_true rfl) rfl (fun p e s m below meth c A ls C h hr hex hl => ?_)
  generalize hargs : ([.ref (ead E 0), .int p1, .ref (ead E 35)] : List Value).toArray = args
  have hl : lv_has ls 4 [(0, .ref (ead E 0)), (1, .int p1), (2, .ref (ead E 35))] := hl
  refine lv_aload_n C.x C.b dL_pass_0 rfl (lv_at hl 2 rfl) ?_
  refine lv_iconst (v := 0) C.x C.b dL_pass_1 (by decide) ?_
  refine lv_aload_n C.x C.b dL_pass_2 rfl (lv_at hl 0 rfl) ?_
  refine lv_iload_n C.x C.b dL_pass_3 rfl (lv_at hl 1 rfl) ?_
  refine cxVi (As := [.int p1]) (rest := [.int 0, .ref (ead E 35)]) (q0 := 0) (ci := 6) C h (M_X6_pass l hfl D E _ ok p1) cw_L_53 m_im_X6_pass m_se_X6_pass rfl rfl ⟨Nat.le_of_ble_eq_true rfl, Nat.le_of_ble_eq_true rfl⟩ rfl rfl hl rfl (Nat.le_of_ble_eq_true rfl) dL_pass_4 ⟨Nat.le_of_ble_eq_true rfl, Nat.le_of_ble_eq_true rfl⟩ (fun k ce q9 H locs hk he h h1 h2 h3 => ?_) (fun r u H locs hw h => ?_)
  · rcases code_pass σ p1 with e0 | e1
    · exact absurd (he.symm.trans e0) hk
    · have hk1 : k = 2 := he.symm.trans e1
      subst hk1
      refine vx_catch (own := RL) (name := exn 2) C.ow [] ⟨0, 9, 12, 13⟩ [] hex (fun z hz => absurd hz List.not_mem_nil) (by decide) (by decide) (C.w args m_cl_L_13) (va_Nw.use (xcs_on _ (List.mem_of_getElem? (i := 1) rfl)) (C.sx.2.1 _ (List.mem_of_getElem? (i := 1) rfl))) h1 h2 h3 ?_
      refine lv_astore_n (lv' := [(3, .ref q9), (0, .ref (ead E 0)), (1, .int p1), (2, .ref (ead E 35))]) C.x C.b dL_pass_12 rfl hl (by decide) rfl (fun ls hl => ?_)
      refine lv_iconst (v := 1) C.x C.b dL_pass_13 (by decide) ?_
      exact rtW C h hr dL_pass_14 ⟨by rw [e1]; rfl, fun q => absurd (he.symm.trans q) hk, fun _ => rfl⟩
  · obtain ⟨c1, rfl, rfl⟩ := hw
    refine lv_i2l (v := (S_X6_pass σ p1).2.1.toInt64) C.x C.b dL_pass_7 rfl ?_
    refine as_35 C h dL_pass_8 (fun H locs h => ?_)
    refine lv_goto (tgt := 15) C.x C.b dL_pass_9 (by decide) ?_
    refine lv_iconst (v := 0) C.x C.b dL_pass_15 (by decide) ?_
    exact rtW (E := (setO E _)) C h hr dL_pass_16 ⟨by rw [c1]; rfl, fun _ => rfl, fun q => absurd c1 q⟩
theorem cw_L_56 : CWd RL 56 yX6_code cX6_code 2 (some .int) 1 := ⟨m_ml_L_56, m_co_X6_code, m_ini_X6, by decide +kernel, by decide +kernel⟩
abbrev rm_L_code : Room := { frames := 8, cells := 10, slots := 60, locals := 142 }
set_option maxRecDepth 100000 in
set_option maxHeartbeats 4000000 in
theorem M_L_code (l : Launch) (hfl : l.stackTraces = false) (D : va_G) (E : En) (σ : St) (ok : OK E σ) (p1 : Int32) : CL l yL_code cL_code 4 [(0, 9, 12, 19)] rm_L_code [.ref (ead E 0), .int p1, .ref (ead E 35)] D E σ (fun (r : Int32) (u : En × St) => wcd 1 9 (S_X6_code σ p1).1 = r ∧ ((S_X6_code σ p1).1 = 0 → u = (setO E (S_X6_code σ p1).2.1.toInt64, (S_X6_code σ p1).2.2)) ∧ (¬ (S_X6_code σ p1).1 = 0 → u = (E, σ))) 10 60 := by
  refine CL.of (tb := [⟨0, 9, 12, 19⟩]) RL (by decide +kernel) rfl (Nat.le_of_ble_eq_true rfl) rfl (fun p e s m below meth c A ls C h hr hex hl => ?_)
  generalize hargs : ([.ref (ead E 0), .int p1, .ref (ead E 35)] : List Value).toArray = args
  have hl : lv_has ls 4 [(0, .ref (ead E 0)), (1, .int p1), (2, .ref (ead E 35))] := hl
  refine lv_aload_n C.x C.b dL_code_0 rfl (lv_at hl 2 rfl) ?_
  refine lv_iconst (v := 0) C.x C.b dL_code_1 (by decide) ?_
  refine lv_aload_n C.x C.b dL_code_2 rfl (lv_at hl 0 rfl) ?_
  refine lv_iload_n C.x C.b dL_code_3 rfl (lv_at hl 1 rfl) ?_
  refine cxVi (As := [.int p1]) (rest := [.int 0, .ref (ead E 35)]) (q0 := 0) (ci := 6) C h (M_X6_code l hfl D E _ ok p1) cw_L_56 m_im_X6_code m_se_X6_code rfl rfl ⟨Nat.le_of_ble_eq_true rfl, Nat.le_of_ble_eq_true rfl⟩ rfl rfl hl rfl (Nat.le_of_ble_eq_true rfl) dL_code_4 ⟨Nat.le_of_ble_eq_true rfl, Nat.le_of_ble_eq_true rfl⟩ (fun k ce q9 H locs hk he h h1 h2 h3 => ?_) (fun r u H locs hw h => ?_)
  · rcases code_code σ p1 with e0 | e1
    · exact absurd (he.symm.trans e0) hk
    · have hk1 : k = 1 := he.symm.trans e1
      subst hk1
      refine vx_catch (own := RL) (name := exn 1) C.ow [] ⟨0, 9, 12, 19⟩ [] hex (fun z hz => absurd hz List.not_mem_nil) (by decide) (by decide) (C.w args m_cl_L_19) (va_Nw.use (xcs_on _ (List.mem_of_getElem? (i := 0) rfl)) (C.sx.2.1 _ (List.mem_of_getElem? (i := 0) rfl))) h1 h2 h3 ?_
      refine lv_astore_n (lv' := [(3, .ref q9), (0, .ref (ead E 0)), (1, .int p1), (2, .ref (ead E 35))]) C.x C.b dL_code_12 rfl hl (by decide) rfl (fun ls hl => ?_)
      refine lv_iconst (v := 1) C.x C.b dL_code_13 (by decide) ?_
      exact rtW C h hr dL_code_14 ⟨by rw [e1]; rfl, fun q => absurd (he.symm.trans q) hk, fun _ => rfl⟩
  · obtain ⟨c1, rfl, rfl⟩ := hw
    refine lv_i2l (v := (S_X6_code σ p1).2.1.toInt64) C.x C.b dL_code_7 rfl ?_
    refine as_35 C h dL_code_8 (fun H locs h => ?_)
    refine lv_goto (tgt := 15) C.x C.b dL_code_9 (by decide) ?_
    refine lv_iconst (v := 0) C.x C.b dL_code_15 (by decide) ?_
    exact rtW (E := (setO E _)) C h hr dL_code_16 ⟨by rw [c1]; rfl, fun _ => rfl, fun q => absurd c1 q⟩
theorem cw_L_59 : CWd RL 59 yX6_thirdOf cX6_thirdOf 4 (some .int) 2 := ⟨m_ml_L_59, m_co_X6_thirdOf, m_ini_X6, by decide +kernel, by decide +kernel⟩
abbrev rm_L_thirdOf : Room := { frames := 8, cells := 10, slots := 60, locals := 145 }
set_option maxRecDepth 100000 in
set_option maxHeartbeats 4000000 in
theorem M_L_thirdOf (l : Launch) (hfl : l.stackTraces = false) (D : va_G) (E : En) (σ : St) (ok : OK E σ) (p1 : Int32) (p2 : Int32) : CL l yL_thirdOf cL_thirdOf 5 [(0, 10, 13, 19), (0, 10, 17, 13)] rm_L_thirdOf [.ref (ead E 0), .int p1, .int p2, .ref (ead E 35)] D E σ (fun (r : Int32) (u : En × St) => wcd 1 2 (S_X6_thirdOf σ p1 p2).1 = r ∧ ((S_X6_thirdOf σ p1 p2).1 = 0 → u = (setO E (S_X6_thirdOf σ p1 p2).2.1.toInt64, (S_X6_thirdOf σ p1 p2).2.2)) ∧ (¬ (S_X6_thirdOf σ p1 p2).1 = 0 → u = (E, σ))) 10 60 := by
  refine CL.of (tb := [⟨0, 10, 13, 19⟩, ⟨0, 10, 17, 13⟩]) RL (by decide +kernel) rfl (Nat.le_of_ble_eq_true rfl) rfl (fun p e s m below meth c A ls C h hr hex hl => ?_)
  generalize hargs : ([.ref (ead E 0), .int p1, .int p2, .ref (ead E 35)] : List Value).toArray = args
  have hl : lv_has ls 5 [(0, .ref (ead E 0)), (1, .int p1), (2, .int p2), (3, .ref (ead E 35))] := hl
  refine lv_aload_n C.x C.b dL_thirdOf_0 rfl (lv_at hl 3 rfl) ?_
  refine lv_iconst (v := 0) C.x C.b dL_thirdOf_1 (by decide) ?_
  refine lv_aload_n C.x C.b dL_thirdOf_2 rfl (lv_at hl 0 rfl) ?_
  refine lv_iload_n C.x C.b dL_thirdOf_3 rfl (lv_at hl 1 rfl) ?_
  refine lv_iload_n C.x C.b dL_thirdOf_4 rfl (lv_at hl 2 rfl) ?_
  refine cxVi (As := [.int p1, .int p2]) (rest := [.int 0, .ref (ead E 35)]) (q0 := 0) (ci := 6) C h (M_X6_thirdOf l hfl D E _ ok p1 p2) cw_L_59 m_im_X6_thirdOf m_se_X6_thirdOf rfl rfl ⟨Nat.le_of_ble_eq_true rfl, Nat.le_of_ble_eq_true rfl⟩ rfl rfl hl rfl (Nat.le_of_ble_eq_true rfl) dL_thirdOf_5 ⟨Nat.le_of_ble_eq_true rfl, Nat.le_of_ble_eq_true rfl⟩ (fun k ce q9 H locs hk he h h1 h2 h3 => ?_) (fun r u H locs hw h => ?_)
  · rcases code_thirdOf σ p1 p2 with e0 | e1 | e2
    · exact absurd (he.symm.trans e0) hk
    · have hk1 : k = 1 := he.symm.trans e1
      subst hk1
      refine vx_catch (own := RL) (name := exn 1) C.ow [] ⟨0, 10, 13, 19⟩ [⟨0, 10, 17, 13⟩] hex (fun z hz => absurd hz List.not_mem_nil) (by decide) (by decide) (C.w args m_cl_L_19) (va_Nw.use (xcs_on _ (List.mem_of_getElem? (i := 0) rfl)) (C.sx.2.1 _ (List.mem_of_getElem? (i := 0) rfl))) h1 h2 h3 ?_
      refine lv_astore (lv' := [(4, .ref q9), (0, .ref (ead E 0)), (1, .int p1), (2, .int p2), (3, .ref (ead E 35))]) C.x C.b dL_thirdOf_13 hl (by decide) rfl (fun ls hl => ?_)
      refine lv_iconst (v := 1) C.x C.b dL_thirdOf_15 (by decide) ?_
      exact rtW C h hr dL_thirdOf_16 ⟨by rw [e1]; rfl, fun q => absurd (he.symm.trans q) hk, fun _ => rfl⟩
    · have hk1 : k = 2 := he.symm.trans e2
      subst hk1
      refine vx_catch (own := RL) (name := exn 2) C.ow [⟨0, 10, 13, 19⟩] ⟨0, 10, 17, 13⟩ [] hex (fun z hz => by rw [List.mem_singleton.mp hz]; exact Or.inr ⟨by decide, exn 1, C.w args m_cl_L_19, C.sx.2.2.1.1⟩) (by decide) (by decide) (C.w args m_cl_L_13) (va_Nw.use (xcs_on _ (List.mem_of_getElem? (i := 1) rfl)) (C.sx.2.1 _ (List.mem_of_getElem? (i := 1) rfl))) h1 h2 h3 ?_
      refine lv_astore (lv' := [(4, .ref q9), (0, .ref (ead E 0)), (1, .int p1), (2, .int p2), (3, .ref (ead E 35))]) C.x C.b dL_thirdOf_17 hl (by decide) rfl (fun ls hl => ?_)
      refine lv_iconst (v := 2) C.x C.b dL_thirdOf_19 (by decide) ?_
      exact rtW C h hr dL_thirdOf_20 ⟨by rw [e2]; rfl, fun q => absurd (he.symm.trans q) hk, fun _ => rfl⟩
  · obtain ⟨c1, rfl, rfl⟩ := hw
    refine lv_i2l (v := (S_X6_thirdOf σ p1 p2).2.1.toInt64) C.x C.b dL_thirdOf_8 rfl ?_
    refine as_35 C h dL_thirdOf_9 (fun H locs h => ?_)
    refine lv_goto (tgt := 21) C.x C.b dL_thirdOf_10 (by decide) ?_
    refine lv_iconst (v := 0) C.x C.b dL_thirdOf_21 (by decide) ?_
    exact rtW (E := (setO E _)) C h hr dL_thirdOf_22 ⟨by rw [c1]; rfl, fun _ => rfl, fun q => absurd c1 q⟩
theorem cw_L_62 : CWd RL 62 yX6_aircraftOf cX6_aircraftOf 4 (some .int) 2 := ⟨m_ml_L_62, m_co_X6_aircraftOf, m_ini_X6, by decide +kernel, by decide +kernel⟩
abbrev rm_L_aircraftOf : Room := { frames := 8, cells := 10, slots := 60, locals := 145 }
set_option maxRecDepth 100000 in
set_option maxHeartbeats 4000000 in
theorem M_L_aircraftOf (l : Launch) (hfl : l.stackTraces = false) (D : va_G) (E : En) (σ : St) (ok : OK E σ) (p1 : Int32) (p2 : Int32) : CL l yL_aircraftOf cL_aircraftOf 5 [(0, 10, 13, 19), (0, 10, 17, 13)] rm_L_aircraftOf [.ref (ead E 0), .int p1, .int p2, .ref (ead E 35)] D E σ (fun (r : Int32) (u : En × St) => wcd 1 2 (S_X6_aircraftOf σ p1 p2).1 = r ∧ ((S_X6_aircraftOf σ p1 p2).1 = 0 → u = (setO E (S_X6_aircraftOf σ p1 p2).2.1.toInt64, (S_X6_aircraftOf σ p1 p2).2.2)) ∧ (¬ (S_X6_aircraftOf σ p1 p2).1 = 0 → u = (E, σ))) 10 60 := by
  refine CL.of (tb := [⟨0, 10, 13, 19⟩, ⟨0, 10, 17, 13⟩]) RL (by decide +kernel) rfl (Nat.le_of_ble_eq_true rfl) rfl (fun p e s m below meth c A ls C h hr hex hl => ?_)
  generalize hargs : ([.ref (ead E 0), .int p1, .int p2, .ref (ead E 35)] : List Value).toArray = args
  have hl : lv_has ls 5 [(0, .ref (ead E 0)), (1, .int p1), (2, .int p2), (3, .ref (ead E 35))] := hl
  refine lv_aload_n C.x C.b dL_aircraftOf_0 rfl (lv_at hl 3 rfl) ?_
  refine lv_iconst (v := 0) C.x C.b dL_aircraftOf_1 (by decide) ?_
  refine lv_aload_n C.x C.b dL_aircraftOf_2 rfl (lv_at hl 0 rfl) ?_
  refine lv_iload_n C.x C.b dL_aircraftOf_3 rfl (lv_at hl 1 rfl) ?_
  refine lv_iload_n C.x C.b dL_aircraftOf_4 rfl (lv_at hl 2 rfl) ?_
  refine cxVi (As := [.int p1, .int p2]) (rest := [.int 0, .ref (ead E 35)]) (q0 := 0) (ci := 6) C h (M_X6_aircraftOf l hfl D E _ ok p1 p2) cw_L_62 m_im_X6_aircraftOf m_se_X6_aircraftOf rfl rfl ⟨Nat.le_of_ble_eq_true rfl, Nat.le_of_ble_eq_true rfl⟩ rfl rfl hl rfl (Nat.le_of_ble_eq_true rfl) dL_aircraftOf_5 ⟨Nat.le_of_ble_eq_true rfl, Nat.le_of_ble_eq_true rfl⟩ (fun k ce q9 H locs hk he h h1 h2 h3 => ?_) (fun r u H locs hw h => ?_)
  · rcases code_aircraftOf σ p1 p2 with e0 | e1 | e2
    · exact absurd (he.symm.trans e0) hk
    · have hk1 : k = 1 := he.symm.trans e1
      subst hk1
      refine vx_catch (own := RL) (name := exn 1) C.ow [] ⟨0, 10, 13, 19⟩ [⟨0, 10, 17, 13⟩] hex (fun z hz => absurd hz List.not_mem_nil) (by decide) (by decide) (C.w args m_cl_L_19) (va_Nw.use (xcs_on _ (List.mem_of_getElem? (i := 0) rfl)) (C.sx.2.1 _ (List.mem_of_getElem? (i := 0) rfl))) h1 h2 h3 ?_
      refine lv_astore (lv' := [(4, .ref q9), (0, .ref (ead E 0)), (1, .int p1), (2, .int p2), (3, .ref (ead E 35))]) C.x C.b dL_aircraftOf_13 hl (by decide) rfl (fun ls hl => ?_)
      refine lv_iconst (v := 1) C.x C.b dL_aircraftOf_15 (by decide) ?_
      exact rtW C h hr dL_aircraftOf_16 ⟨by rw [e1]; rfl, fun q => absurd (he.symm.trans q) hk, fun _ => rfl⟩
    · have hk1 : k = 2 := he.symm.trans e2
      subst hk1
      refine vx_catch (own := RL) (name := exn 2) C.ow [⟨0, 10, 13, 19⟩] ⟨0, 10, 17, 13⟩ [] hex (fun z hz => by rw [List.mem_singleton.mp hz]; exact Or.inr ⟨by decide, exn 1, C.w args m_cl_L_19, C.sx.2.2.1.1⟩) (by decide) (by decide) (C.w args m_cl_L_13) (va_Nw.use (xcs_on _ (List.mem_of_getElem? (i := 1) rfl)) (C.sx.2.1 _ (List.mem_of_getElem? (i := 1) rfl))) h1 h2 h3 ?_
      refine lv_astore (lv' := [(4, .ref q9), (0, .ref (ead E 0)), (1, .int p1), (2, .int p2), (3, .ref (ead E 35))]) C.x C.b dL_aircraftOf_17 hl (by decide) rfl (fun ls hl => ?_)
      refine lv_iconst (v := 2) C.x C.b dL_aircraftOf_19 (by decide) ?_
      exact rtW C h hr dL_aircraftOf_20 ⟨by rw [e2]; rfl, fun q => absurd (he.symm.trans q) hk, fun _ => rfl⟩
  · obtain ⟨c1, rfl, rfl⟩ := hw
    refine lv_i2l (v := (S_X6_aircraftOf σ p1 p2).2.1.toInt64) C.x C.b dL_aircraftOf_8 rfl ?_
    refine as_35 C h dL_aircraftOf_9 (fun H locs h => ?_)
    refine lv_goto (tgt := 21) C.x C.b dL_aircraftOf_10 (by decide) ?_
    refine lv_iconst (v := 0) C.x C.b dL_aircraftOf_21 (by decide) ?_
    exact rtW (E := (setO E _)) C h hr dL_aircraftOf_22 ⟨by rw [c1]; rfl, fun _ => rfl, fun q => absurd c1 q⟩
theorem cw_L_65 : CWd RL 65 yX6_clock cX6_clock 2 (some .double) 1 := ⟨m_ml_L_65, m_co_X6_clock, m_ini_X6, by decide +kernel, by decide +kernel⟩
abbrev rm_L_clock : Room := { frames := 8, cells := 10, slots := 60, locals := 142 }
set_option maxRecDepth 100000 in
set_option maxHeartbeats 4000000 in
theorem M_L_clock (l : Launch) (hfl : l.stackTraces = false) (D : va_G) (E : En) (σ : St) (ok : OK E σ) (p1 : Int32) : CL l yL_clock cL_clock 4 [(0, 8, 11, 19), (0, 8, 14, 31)] rm_L_clock [.ref (ead E 0), .int p1, .ref (ead E 36)] D E σ (fun (r : Int32) (u : En × St) => wcd 1 3 (S_X6_clock σ p1).1 = r ∧ ((S_X6_clock σ p1).1 = 0 → u = (setD E (S_X6_clock σ p1).2.1, (S_X6_clock σ p1).2.2)) ∧ (¬ (S_X6_clock σ p1).1 = 0 → u = (E, σ))) 10 60 := by
  refine CL.of (tb := [⟨0, 8, 11, 19⟩, ⟨0, 8, 14, 31⟩]) RL (by decide +kernel) rfl (Nat.le_of_ble_eq_true rfl) rfl (fun p e s m below meth c A ls C h hr hex hl => ?_)
  generalize hargs : ([.ref (ead E 0), .int p1, .ref (ead E 36)] : List Value).toArray = args
  have hl : lv_has ls 4 [(0, .ref (ead E 0)), (1, .int p1), (2, .ref (ead E 36))] := hl
  refine lv_aload_n C.x C.b dL_clock_0 rfl (lv_at hl 2 rfl) ?_
  refine lv_iconst (v := 0) C.x C.b dL_clock_1 (by decide) ?_
  refine lv_aload_n C.x C.b dL_clock_2 rfl (lv_at hl 0 rfl) ?_
  refine lv_iload_n C.x C.b dL_clock_3 rfl (lv_at hl 1 rfl) ?_
  refine cxVd (As := [.int p1]) (rest := [.int 0, .ref (ead E 36)]) (q0 := 0) (ci := 6) C h (M_X6_clock l hfl D E _ ok p1) cw_L_65 m_im_X6_clock m_se_X6_clock rfl rfl ⟨Nat.le_of_ble_eq_true rfl, Nat.le_of_ble_eq_true rfl⟩ rfl rfl hl rfl (Nat.le_of_ble_eq_true rfl) dL_clock_4 ⟨Nat.le_of_ble_eq_true rfl, Nat.le_of_ble_eq_true rfl⟩ (fun k ce q9 H locs hk he h h1 h2 h3 => ?_) (fun r u H locs hw h => ?_)
  · rcases code_clock σ p1 with e0 | e1 | e2
    · exact absurd (he.symm.trans e0) hk
    · have hk1 : k = 1 := he.symm.trans e1
      subst hk1
      refine vx_catch (own := RL) (name := exn 1) C.ow [] ⟨0, 8, 11, 19⟩ [⟨0, 8, 14, 31⟩] hex (fun z hz => absurd hz List.not_mem_nil) (by decide) (by decide) (C.w args m_cl_L_19) (va_Nw.use (xcs_on _ (List.mem_of_getElem? (i := 0) rfl)) (C.sx.2.1 _ (List.mem_of_getElem? (i := 0) rfl))) h1 h2 h3 ?_
      refine lv_astore_n (lv' := [(3, .ref q9), (0, .ref (ead E 0)), (1, .int p1), (2, .ref (ead E 36))]) C.x C.b dL_clock_11 rfl hl (by decide) rfl (fun ls hl => ?_)
      refine lv_iconst (v := 1) C.x C.b dL_clock_12 (by decide) ?_
      exact rtW C h hr dL_clock_13 ⟨by rw [e1]; rfl, fun q => absurd (he.symm.trans q) hk, fun _ => rfl⟩
    · have hk1 : k = 3 := he.symm.trans e2
      subst hk1
      refine vx_catch (own := RL) (name := exn 3) C.ow [⟨0, 8, 11, 19⟩] ⟨0, 8, 14, 31⟩ [] hex (fun z hz => by rw [List.mem_singleton.mp hz]; exact Or.inr ⟨by decide, exn 1, C.w args m_cl_L_19, C.sx.2.2.1.2.1⟩) (by decide) (by decide) (C.w args m_cl_L_31) (va_Nw.use (xcs_on _ (List.mem_of_getElem? (i := 2) rfl)) (C.sx.2.1 _ (List.mem_of_getElem? (i := 2) rfl))) h1 h2 h3 ?_
      refine lv_astore_n (lv' := [(3, .ref q9), (0, .ref (ead E 0)), (1, .int p1), (2, .ref (ead E 36))]) C.x C.b dL_clock_14 rfl hl (by decide) rfl (fun ls hl => ?_)
      refine lv_iconst (v := 2) C.x C.b dL_clock_15 (by decide) ?_
      exact rtW C h hr dL_clock_16 ⟨by rw [e2]; rfl, fun q => absurd (he.symm.trans q) hk, fun _ => rfl⟩
  · obtain ⟨c1, rfl, rfl⟩ := hw
    refine as_36 C h dL_clock_7 (fun H locs h => ?_)
    refine lv_goto (tgt := 17) C.x C.b dL_clock_8 (by decide) ?_
    refine lv_iconst (v := 0) C.x C.b dL_clock_17 (by decide) ?_
    exact rtW (E := (setD E _)) C h hr dL_clock_18 ⟨by rw [c1]; rfl, fun _ => rfl, fun q => absurd c1 q⟩
theorem cw_L_69 : CWd RL 69 yX6_whyNot cX6_whyNot 3 (some .int) 1 := ⟨m_ml_L_69, m_co_X6_whyNot, m_ini_X6, by decide +kernel, by decide +kernel⟩
abbrev rm_L_whyNot : Room := { frames := 8, cells := 10, slots := 60, locals := 143 }
set_option maxRecDepth 100000 in
set_option maxHeartbeats 4000000 in
theorem M_L_whyNot (l : Launch) (hfl : l.stackTraces = false) (D : va_G) (E : En) (σ : St) (ok : OK E σ) (p1 : Int32) : CL l yL_whyNot cL_whyNot 4 [(0, 9, 12, 19)] rm_L_whyNot [.ref (ead E 0), .int p1, .ref (ead E 35)] D E σ (fun (r : Int32) (u : En × St) => wcd 1 9 (S_X6_whyNot σ p1).1 = r ∧ ((S_X6_whyNot σ p1).1 = 0 → u = (setO E (S_X6_whyNot σ p1).2.1.toInt64, (S_X6_whyNot σ p1).2.2)) ∧ (¬ (S_X6_whyNot σ p1).1 = 0 → u = (E, σ))) 10 60 := by
  refine CL.of (tb := [⟨0, 9, 12, 19⟩]) RL (by decide +kernel) rfl (Nat.le_of_ble_eq_true rfl) rfl (fun p e s m below meth c A ls C h hr hex hl => ?_)
  generalize hargs : ([.ref (ead E 0), .int p1, .ref (ead E 35)] : List Value).toArray = args
  have hl : lv_has ls 4 [(0, .ref (ead E 0)), (1, .int p1), (2, .ref (ead E 35))] := hl
  refine lv_aload_n C.x C.b dL_whyNot_0 rfl (lv_at hl 2 rfl) ?_
  refine lv_iconst (v := 0) C.x C.b dL_whyNot_1 (by decide) ?_
  refine lv_aload_n C.x C.b dL_whyNot_2 rfl (lv_at hl 0 rfl) ?_
  refine lv_iload_n C.x C.b dL_whyNot_3 rfl (lv_at hl 1 rfl) ?_
  refine cxVi (As := [.int p1]) (rest := [.int 0, .ref (ead E 35)]) (q0 := 0) (ci := 6) C h (M_X6_whyNot l hfl D E _ ok p1) cw_L_69 m_im_X6_whyNot m_se_X6_whyNot rfl rfl ⟨Nat.le_of_ble_eq_true rfl, Nat.le_of_ble_eq_true rfl⟩ rfl rfl hl rfl (Nat.le_of_ble_eq_true rfl) dL_whyNot_4 ⟨Nat.le_of_ble_eq_true rfl, Nat.le_of_ble_eq_true rfl⟩ (fun k ce q9 H locs hk he h h1 h2 h3 => ?_) (fun r u H locs hw h => ?_)
  · rcases code_whyNot σ p1 with e0 | e1
    · exact absurd (he.symm.trans e0) hk
    · have hk1 : k = 1 := he.symm.trans e1
      subst hk1
      refine vx_catch (own := RL) (name := exn 1) C.ow [] ⟨0, 9, 12, 19⟩ [] hex (fun z hz => absurd hz List.not_mem_nil) (by decide) (by decide) (C.w args m_cl_L_19) (va_Nw.use (xcs_on _ (List.mem_of_getElem? (i := 0) rfl)) (C.sx.2.1 _ (List.mem_of_getElem? (i := 0) rfl))) h1 h2 h3 ?_
      refine lv_astore_n (lv' := [(3, .ref q9), (0, .ref (ead E 0)), (1, .int p1), (2, .ref (ead E 35))]) C.x C.b dL_whyNot_12 rfl hl (by decide) rfl (fun ls hl => ?_)
      refine lv_iconst (v := 1) C.x C.b dL_whyNot_13 (by decide) ?_
      exact rtW C h hr dL_whyNot_14 ⟨by rw [e1]; rfl, fun q => absurd (he.symm.trans q) hk, fun _ => rfl⟩
  · obtain ⟨c1, rfl, rfl⟩ := hw
    refine lv_i2l (v := (S_X6_whyNot σ p1).2.1.toInt64) C.x C.b dL_whyNot_7 rfl ?_
    refine as_35 C h dL_whyNot_8 (fun H locs h => ?_)
    refine lv_goto (tgt := 15) C.x C.b dL_whyNot_9 (by decide) ?_
    refine lv_iconst (v := 0) C.x C.b dL_whyNot_15 (by decide) ?_
    exact rtW (E := (setO E _)) C h hr dL_whyNot_16 ⟨by rw [c1]; rfl, fun _ => rfl, fun q => absurd c1 q⟩
theorem cw_L_72 : CWd RL 72 yX6_queue cX6_queue 3 (some .int) 1 := ⟨m_ml_L_72, m_co_X6_queue, m_ini_X6, by decide +kernel, by decide +kernel⟩
abbrev rm_L_queue : Room := { frames := 7, cells := 10, slots := 60, locals := 135 }
set_option maxRecDepth 100000 in
set_option maxHeartbeats 4000000 in
theorem M_L_queue (l : Launch) (hfl : l.stackTraces = false) (D : va_G) (E : En) (σ : St) (ok : OK E σ) (p1 : Int32) : CL l yL_queue cL_queue 4 [(0, 9, 12, 19)] rm_L_queue [.ref (ead E 0), .int p1, .ref (ead E 35)] D E σ (fun (r : Int32) (u : En × St) => wcd 1 9 (S_X6_queue σ p1).1 = r ∧ ((S_X6_queue σ p1).1 = 0 → u = (setO E (S_X6_queue σ p1).2.1.toInt64, (S_X6_queue σ p1).2.2)) ∧ (¬ (S_X6_queue σ p1).1 = 0 → u = (E, σ))) 10 60 := by
  refine CL.of (tb := [⟨0, 9, 12, 19⟩]) RL (by decide +kernel) rfl (Nat.le_of_ble_eq_true rfl) rfl (fun p e s m below meth c A ls C h hr hex hl => ?_)
  generalize hargs : ([.ref (ead E 0), .int p1, .ref (ead E 35)] : List Value).toArray = args
  have hl : lv_has ls 4 [(0, .ref (ead E 0)), (1, .int p1), (2, .ref (ead E 35))] := hl
  refine lv_aload_n C.x C.b dL_queue_0 rfl (lv_at hl 2 rfl) ?_
  refine lv_iconst (v := 0) C.x C.b dL_queue_1 (by decide) ?_
  refine lv_aload_n C.x C.b dL_queue_2 rfl (lv_at hl 0 rfl) ?_
  refine lv_iload_n C.x C.b dL_queue_3 rfl (lv_at hl 1 rfl) ?_
  refine cxVi (As := [.int p1]) (rest := [.int 0, .ref (ead E 35)]) (q0 := 0) (ci := 6) C h (M_X6_queue l hfl D E _ ok p1) cw_L_72 m_im_X6_queue m_se_X6_queue rfl rfl ⟨Nat.le_of_ble_eq_true rfl, Nat.le_of_ble_eq_true rfl⟩ rfl rfl hl rfl (Nat.le_of_ble_eq_true rfl) dL_queue_4 ⟨Nat.le_of_ble_eq_true rfl, Nat.le_of_ble_eq_true rfl⟩ (fun k ce q9 H locs hk he h h1 h2 h3 => ?_) (fun r u H locs hw h => ?_)
  · rcases code_queue σ p1 with e0 | e1
    · exact absurd (he.symm.trans e0) hk
    · have hk1 : k = 1 := he.symm.trans e1
      subst hk1
      refine vx_catch (own := RL) (name := exn 1) C.ow [] ⟨0, 9, 12, 19⟩ [] hex (fun z hz => absurd hz List.not_mem_nil) (by decide) (by decide) (C.w args m_cl_L_19) (va_Nw.use (xcs_on _ (List.mem_of_getElem? (i := 0) rfl)) (C.sx.2.1 _ (List.mem_of_getElem? (i := 0) rfl))) h1 h2 h3 ?_
      refine lv_astore_n (lv' := [(3, .ref q9), (0, .ref (ead E 0)), (1, .int p1), (2, .ref (ead E 35))]) C.x C.b dL_queue_12 rfl hl (by decide) rfl (fun ls hl => ?_)
      refine lv_iconst (v := 1) C.x C.b dL_queue_13 (by decide) ?_
      exact rtW C h hr dL_queue_14 ⟨by rw [e1]; rfl, fun q => absurd (he.symm.trans q) hk, fun _ => rfl⟩
  · obtain ⟨c1, rfl, rfl⟩ := hw
    refine lv_i2l (v := (S_X6_queue σ p1).2.1.toInt64) C.x C.b dL_queue_7 rfl ?_
    refine as_35 C h dL_queue_8 (fun H locs h => ?_)
    refine lv_goto (tgt := 15) C.x C.b dL_queue_9 (by decide) ?_
    refine lv_iconst (v := 0) C.x C.b dL_queue_15 (by decide) ?_
    exact rtW (E := (setO E _)) C h hr dL_queue_16 ⟨by rw [c1]; rfl, fun _ => rfl, fun q => absurd c1 q⟩
theorem cw_L_75 : CWd RL 75 yX6_sum cX6_sum 2 (some .int) 1 := ⟨m_ml_L_75, m_co_X6_sum, m_ini_X6, by decide +kernel, by decide +kernel⟩
abbrev rm_L_sum : Room := { frames := 8, cells := 10, slots := 60, locals := 143 }
set_option maxRecDepth 100000 in
set_option maxHeartbeats 4000000 in
theorem M_L_sum (l : Launch) (hfl : l.stackTraces = false) (D : va_G) (E : En) (σ : St) (ok : OK E σ) (p1 : Int32) : CL l yL_sum cL_sum 4 [(0, 9, 12, 13)] rm_L_sum [.ref (ead E 0), .int p1, .ref (ead E 35)] D E σ (fun (r : Int32) (u : En × St) => wcd 2 9 (S_X6_sum σ p1).1 = r ∧ ((S_X6_sum σ p1).1 = 0 → u = (setO E (S_X6_sum σ p1).2.1.toInt64, (S_X6_sum σ p1).2.2)) ∧ (¬ (S_X6_sum σ p1).1 = 0 → u = (E, σ))) 10 60 := by
  refine CL.of (tb := [⟨0, 9, 12, 13⟩]) RL (by decide +kernel) rfl (Nat.le_of_ble_eq_true rfl) rfl (fun p e s m below meth c A ls C h hr hex hl => ?_)
  generalize hargs : ([.ref (ead E 0), .int p1, .ref (ead E 35)] : List Value).toArray = args
  have hl : lv_has ls 4 [(0, .ref (ead E 0)), (1, .int p1), (2, .ref (ead E 35))] := hl
  refine lv_aload_n C.x C.b dL_sum_0 rfl (lv_at hl 2 rfl) ?_
  refine lv_iconst (v := 0) C.x C.b dL_sum_1 (by decide) ?_
  refine lv_aload_n C.x C.b dL_sum_2 rfl (lv_at hl 0 rfl) ?_
  refine lv_iload_n C.x C.b dL_sum_3 rfl (lv_at hl 1 rfl) ?_
  refine cxVi (As := [.int p1]) (rest := [.int 0, .ref (ead E 35)]) (q0 := 0) (ci := 6) C h (M_X6_sum l hfl D E _ ok p1) cw_L_75 m_im_X6_sum m_se_X6_sum rfl rfl ⟨Nat.le_of_ble_eq_true rfl, Nat.le_of_ble_eq_true rfl⟩ rfl rfl hl rfl (Nat.le_of_ble_eq_true rfl) dL_sum_4 ⟨Nat.le_of_ble_eq_true rfl, Nat.le_of_ble_eq_true rfl⟩ (fun k ce q9 H locs hk he h h1 h2 h3 => ?_) (fun r u H locs hw h => ?_)
  · rcases code_sum σ p1 with e0 | e1
    · exact absurd (he.symm.trans e0) hk
    · have hk1 : k = 2 := he.symm.trans e1
      subst hk1
      refine vx_catch (own := RL) (name := exn 2) C.ow [] ⟨0, 9, 12, 13⟩ [] hex (fun z hz => absurd hz List.not_mem_nil) (by decide) (by decide) (C.w args m_cl_L_13) (va_Nw.use (xcs_on _ (List.mem_of_getElem? (i := 1) rfl)) (C.sx.2.1 _ (List.mem_of_getElem? (i := 1) rfl))) h1 h2 h3 ?_
      refine lv_astore_n (lv' := [(3, .ref q9), (0, .ref (ead E 0)), (1, .int p1), (2, .ref (ead E 35))]) C.x C.b dL_sum_12 rfl hl (by decide) rfl (fun ls hl => ?_)
      refine lv_iconst (v := 1) C.x C.b dL_sum_13 (by decide) ?_
      exact rtW C h hr dL_sum_14 ⟨by rw [e1]; rfl, fun q => absurd (he.symm.trans q) hk, fun _ => rfl⟩
  · obtain ⟨c1, rfl, rfl⟩ := hw
    refine lv_i2l (v := (S_X6_sum σ p1).2.1.toInt64) C.x C.b dL_sum_7 rfl ?_
    refine as_35 C h dL_sum_8 (fun H locs h => ?_)
    refine lv_goto (tgt := 15) C.x C.b dL_sum_9 (by decide) ?_
    refine lv_iconst (v := 0) C.x C.b dL_sum_15 (by decide) ?_
    exact rtW (E := (setO E _)) C h hr dL_sum_16 ⟨by rw [c1]; rfl, fun _ => rfl, fun q => absurd c1 q⟩
