/-! what the law's cases stand on (ours) -/
theorem div0 {a : Nat} (h : a < 1440) : nI a / 1440 = 0 := by
  rw [show (1440 : Int32) = nI 1440 from rfl, pk_div (by omega) (by decide) (by decide), Nat.div_eq_of_lt h]
  rfl
section PRE28
variable {σ : St} {m n c k t : Nat}
theorem V_pass {J : Nat} (h : II σ m n c) (h1 : 1 ≤ J) (hJ : J ≤ 20) (hm : m + J ≤ 20 * c) : ∃ σ' : St, S_X6_pass σ (nI J) = (0, nI (m + J), σ') ∧ II σ' (m + J) n c ∧ σ 20 0 ≤ σ' 20 0 ∧ σ' 18 0 = σ 18 0 ∧ σ' 24 0 = σ 24 0 := by
  unfold S_X6_pass
  rw [show (1 : Int32) = nI 1 from rfl, show (500 : Int32) = nI 500 from rfl, rr_ok h1 (by omega) (by decide), if_pos rfl]
  exact pass_II hJ 501 0 m σ rfl (Nat.zero_le _) h hm
theorem pass_m (h : II σ m n c) : m ≤ 20 * c := h.1.1
theorem spr_ok (h : II σ m n c) (t : Nat) : ¬ up2 σ 11 t (σ 0 0 + 60) 11 t < up2 σ 11 t (σ 0 0 + 60) 0 0 := by
  have hm := h.mb
  rw [up2_s, up2_f (by decide), h.m0, show (60 : Int32) = nI 60 from rfl, nI_add]
  exact nI_nlt (by omega) (by omega)
theorem tank_of (h : II σ m n c) {f : Nat} (hf : f < 3) : ∃ T : Nat, T ≤ 3000 + 1000 * c ∧ σ 41 f = nI T ∧ σ 14 f = nI T := by
  obtain ⟨e, T, h1, h2⟩ := h.f.2 f hf
  exact ⟨T, h1, h2, e.trans h2⟩
theorem basin_of (h : II σ m n c) : ∃ L d : Nat, L ≤ 1000 * c ∧ σ 19 0 = nI L ∧ d ≤ 500 ∧ σ 24 0 = nI d := by
  obtain ⟨⟨L, h1, h2⟩, -, -, -, d, h3, h4⟩ := h.b
  exact ⟨L, d, h1, h2, h3, h4⟩
theorem cancel_all (h : II σ m n c) (hk : k < n) : S_X6_aircraftOf (up2 σ 28 k 4) (nI k) 0 = (0, 4, up2 σ 28 k 4) ∧ S_X6_aircraftOf (up2 σ 28 k 4) (nI k) 4 = (0, -1, up2 σ 28 k 4) := by
  have i1 := I_cancel (k := k) h
  refine ⟨?_, ?_⟩
  · rw [V_air0 i1.n0 i1.n6 hk, up2_s]
  · rw [V_air4 i1.n0 i1.n6 hk]
    unfold pd
    rw [up2_s, if_neg (by decide)]
theorem supply_all (h : II σ m n c) {f T x : Nat} (hf : f < 3) : SU σ f (nI (T + x)) (nI x) 41 f = nI (T + x) ∧ SU σ f (nI (T + x)) (nI x) 18 0 = σ 18 0 + nI x ∧ SU σ f (nI (T + x)) (nI x) 24 0 = σ 24 0 ∧ SU σ f (nI (T + x)) (nI x) 20 0 = σ 20 0 := by
  unfold SU
  refine ⟨?_, ?_, ?_, ?_⟩
  · rw [up2_f (by decide), up2_f (by decide), up2_s]
  · rw [up2_s]
  · rw [up2_f (by decide), up2_f (by decide), up2_f (by decide)]
  · rw [up2_f (by decide), up2_f (by decide), up2_f (by decide)]
theorem release_all {L d x : Nat} : RL9 σ L d x 24 0 = nI (d + x) ∧ RL9 σ L d x 18 0 = σ 18 0 ∧ RL9 σ L d x 20 0 = σ 20 0 := by
  unfold RL9
  refine ⟨?_, ?_, ?_⟩
  · rw [up2_s]
  · rw [up2_f (by decide), up2_f (by decide), up2_f (by decide), up2_f (by decide)]
  · rw [up2_f (by decide), up2_f (by decide), up2_f (by decide), up2_f (by decide)]
theorem treat_all {P f T x L j : Nat} (h : II σ m n c) (hc : c < 60) (hk : k < n) (hP : P < 3) (hf : f < 3) (hj : j < 3) (h28 : σ 28 k = 0 ∨ σ 28 k = 2) (hpad : ∀ i, i < n → ¬ pd σ i = nI P) (hspan : ¬ 40 + 20 * nI P < σ 40 k) (e41 : σ 41 f = nI T) (hx1 : 10 ≤ x) (hx2 : x ≤ 909) (hT : x ≤ T) (hT2 : T ≤ 3000 + 1000 * c) (e19 : σ 19 0 = nI L) (hL : L ≤ 1000 * c) :
    ∃ τ : St, S_X6_treat (up2 σ 41 f (nI (T - x))) (nI k) (nI P) (nI f) (nI x) (50 + 25 * nI j) = (0, nI (m + 2 + x / 100), τ) ∧ II τ m n (c + 1) ∧ S_X6_aircraftOf τ (nI k) 0 = (0, 1, τ) ∧ S_X6_aircraftOf τ (nI k) 4 = (0, nI P, τ) ∧ S_X6_aircraftOf τ (nI k) 2 = (0, σ 30 k + 1, τ) ∧ S_X6_aircraftOf τ (nI k) 3 = (0, σ 31 k + nI (x / 5), τ) ∧ S_X6_sum τ 3 = (0, nI (L + (x - x / 5)), τ) ∧ S_X6_clock τ (nI k) = (0, S_X6_clockLeft τ k, τ) ∧ 0 < Op.cmpValue (FP.dcmp (S_X6_clockLeft τ k) FP.dconst0) CmpOp.l ∧ S_X6_whyNot τ (nI k) = (0, 1, τ) ∧ τ 18 0 = σ 18 0 ∧ τ 24 0 = σ 24 0 ∧ τ 20 0 = σ 20 0 := by
  have hm := h.mb
  have h60 := h.c60
  have i1 := I_treat (P := P) (j := j) h hc hk hf e41 hx2 hT hT2 hL e19
  have a41 : ∀ g i, g ≠ 41 → up2 σ 41 f (nI (T - x)) g i = σ g i := fun g i q => up2_f q _ _ _ _
  have hfree : S_X6_padIsFree (up2 σ 41 f (nI (T - x))) (nI P) = 1 := pad_free ((a41 1 0 (by decide)).trans h.n0) h.n6 (fun i hi q => by
    rw [a41 28 i (by decide), a41 32 i (by decide)] at q
    refine hpad i hi ?_
    unfold pd
    rw [if_pos q.1]
    exact q.2)
  have vt := V_treat (σ := up2 σ 41 f (nI (T - x))) (k := k) (P := P) (f := f) (T := T) (x := x) (L := L) (m := m) (q := 50 + 25 * nI j) ((a41 1 0 (by decide)).trans h.n0) h.n6 hk hP hf (by rw [a41 28 k (by decide)]; exact h28) hfree (by rw [padI_eq hP, a41 25 k (by decide), (h.k k hk).1]; exact hspan) (by rw [a41 14 f (by decide)]; exact (h.f.2 f hf).1.trans e41) hx1 (by omega) hT (by omega) ((a41 0 0 (by decide)).trans h.m0) (by omega) ((a41 19 0 (by decide)).trans e19) (by omega) (str_ok hj)
  refine ⟨_, vt, i1, ?_, ?_, ?_, ?_, ?_, ?_, ?_, ?_, ?_, ?_, ?_⟩
  · rw [V_air0 i1.n0 i1.n6 hk, TR_28]
  · rw [V_air4 i1.n0 i1.n6 hk]
    unfold pd
    rw [TR_28, TR_32, if_pos rfl]
  · rw [V_air2 i1.n0 i1.n6 hk, TR_30, a41 30 k (by decide)]
  · rw [V_air3 i1.n0 i1.n6 hk, TR_31, a41 31 k (by decide)]
  · rw [V_sum3, TR_19]
  · exact V_clock i1.n0 i1.n6 hk (treated i1 hk (Or.inl TR_28))
  · exact clk_pos i1 hf hj TR_33 TR_34 TR_35
  · exact V_why1 i1.n0 i1.n6 hk (by rw [TR_28]; decide)
  · rw [TR_o (by decide), a41 18 0 (by decide)]
  · rw [TR_o (by decide), a41 24 0 (by decide)]
  · rw [TR_o (by decide), a41 20 0 (by decide)]
end PRE28
/-- the law's locals at the head of its loop -/
def LVL (E : En) (b n : Nat) (v0 : Int32) (M t : Nat) (x6 : Int32) (mm : Nat) (x10 x11 : Int32) : List (Nat × Value) := [(12, .int (nI t)), (11, .int x11), (10, .int x10), (9, .int (nI mm)), (8, .int (nI M)), (7, .int 1), (6, .int x6), (5, .ref (ead E 16)), (4, .ref (ead E 15)), (3, .int (nI n)), (2, .int v0), (1, .ref (ead E 0)), (0, .ref b)]
/-- the walk from the end of a case -/
def BK (p : Program) (l : Launch) (e : Env) (s : State) (m : MethodId) (args : Array Value) (below : List Frame) (meth : Method) (c : Code) (Q : State → Prop) (D : va_G) (E : En) (A : Nat → Prop) (b n : Nat) (v0 : Int32) (M : Nat) (x11 : Int32) (c0 : Nat) : Prop :=
  ∀ (σ : St) (mm : Nat) (x6 x10 : Int32) (H : Heap) (locs : List Loc) (cells slots : Nat) (ls : Array Slot), HW D E σ A s H locs → II σ mm n (c0 + 1) → x6 = σ 18 0 → x10 = σ 24 0 → x11 ≤ σ 20 0 → cells ≤ 600 + 2000 * c0 → slots ≤ 3800 + 12000 * c0 → lv_has ls 25 (LVL E b n v0 M (c0 + 1) x6 mm x10 x11) → W p l e room_1 s m args below meth c H locs cells slots Q (F0 m 1056 ls [])
