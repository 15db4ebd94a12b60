/-! treat, aircraft, clock, whyNot (ours) -/
theorem pos_all : ∀ row ∈ ([20, 5, 60, 30, 100, 70] : List Int32), ∀ q ∈ ([50, 75, 100] : List Int32), ∀ z ∈ ([4602678819172646912, 4604930618986332160, FP.dconst1] : List UInt64), 0 < Op.cmpValue (FP.dcmp (FP.dsub (FP.dmul (FP.dmul (FP.i2d row) (FP.ddiv (FP.i2d q) 4636737291354636288)) z) (FP.i2d 0)) FP.dconst0) CmpOp.l := by decide +kernel
theorem pos_clear : 0 < Op.cmpValue (FP.dcmp (FP.dsub 4696837146684686336 (FP.i2d 0)) FP.dconst0) CmpOp.l := by decide +kernel
section TRT
variable {σ : St} {m n c k t : Nat}
theorem V_clock (h : σ 1 0 = nI n) (hn : n ≤ 6) (hk : k < n) (ht : ¬ σ 30 k ≤ 0) : S_X6_clock σ (nI k) = (0, S_X6_clockLeft σ k, σ) := by
  unfold S_X6_clock S_X6_clock_25
  rw [h, ri_ok hk (by omega), nI_clamp (by omega), if_pos rfl, if_neg ht, rqp1, if_pos rfl]
theorem V_why1 (h : σ 1 0 = nI n) (hn : n ≤ 6) (hk : k < n) (hs : ¬ σ 28 k = 2) : S_X6_whyNot σ (nI k) = (0, 1, σ) := by
  unfold S_X6_whyNot
  rw [h, ri_ok hk (by omega), nI_clamp (by omega), if_pos rfl, if_neg hs]
/-- the clock of one is below 0 -/
def lw0 (σ : St) (k : Nat) : Prop := ¬ 0 ≤ Op.cmpValue (FP.dcmp (S_X6_clockLeft σ k) FP.dconst0) CmpOp.g
theorem V_why (h : σ 1 0 = nI n) (hn : n ≤ 6) (hk : k < n) (hs : σ 28 k = 2) : ∃ w : Int32, S_X6_whyNot σ (nI k) = (0, w, σ) ∧ (w = 3 → lw0 σ k) ∧ (¬ w = 3 → lw0 σ k → w = 2) := by
  unfold S_X6_whyNot lw0
  rw [h, ri_ok hk (by omega), nI_clamp (by omega), if_pos rfl, if_pos hs]
  by_cases c1 : σ 26 k ≤ σ 0 0
  · rw [if_pos c1]
    by_cases c2 : 0 ≤ Op.cmpValue (FP.dcmp (S_X6_clockLeft σ k) FP.dconst0) CmpOp.g
    · rw [if_pos c2]
      by_cases c3 : S_X3_isClosedAt σ (σ 0 0) = 0
      · rw [if_pos c3]
        by_cases c4 : S_X3_codesSufficeAt σ (σ 0 0) = 0
        · rw [if_pos c4]
          exact ⟨5, rfl, fun q => absurd q (by decide), fun _ q => absurd c2 q⟩
        · rw [if_neg c4]
          exact ⟨0, rfl, fun q => absurd q (by decide), fun _ q => absurd c2 q⟩
      · rw [if_neg c3]
        exact ⟨4, rfl, fun q => absurd q (by decide), fun _ q => absurd c2 q⟩
    · rw [if_neg c2]
      exact ⟨3, rfl, fun _ => c2, fun q => absurd rfl q⟩
  · rw [if_neg c1]
    exact ⟨2, rfl, fun q => absurd q (by decide), fun _ _ => rfl⟩
theorem pad_4 (h : σ 1 0 = nI n) (hn : n ≤ 6) {P : Int32} (hf : ∀ j, j < n → ¬ (σ 28 j = 1 ∧ σ 32 j = P)) : ∀ (d j : Nat), d + j = 21 → j ≤ n → S_X6_padIsFree_2 d σ P j = 1
  | 0, j, e, hj => absurd e (by omega)
  | d + 1, j, e, hjn => by
    rw [S_X6_padIsFree_2_s, h]
    by_cases c0 : nI n ≤ nI j
    · rw [if_pos c0]
    · have hj : j < n := (nI_lt_of (by omega) c0).resolve_right (by omega)
      have ih := pad_4 h hn hf d (j + 1) (by omega) (by omega)
      rw [if_neg c0]
      by_cases c1 : σ 28 j = 1
      · rw [if_pos c1, if_neg (fun q => hf j hj ⟨c1, q⟩)]
        exact ih
      · rw [if_neg c1]
        exact ih
theorem pad_free (h : σ 1 0 = nI n) (hn : n ≤ 6) {P : Int32} (hf : ∀ j, j < n → ¬ (σ 28 j = 1 ∧ σ 32 j = P)) : S_X6_padIsFree σ P = 1 := pad_4 h hn hf 21 0 rfl (Nat.zero_le _)
theorem padI_eq {P : Nat} (h : P < 3) : padI (nI P) = 40 + 20 * nI P := by
  rcases (show P = 0 ∨ P = 1 ∨ P = 2 by omega) with rfl | rfl | rfl <;> decide
theorem str_ok {j : Nat} (h : j < 3) : S_X6_requireStrength (50 + 25 * nI j) = 0 := by
  rcases (show j = 0 ∨ j = 1 ∨ j = 2 by omega) with rfl | rfl | rfl <;> decide
def TR (σ : St) (k P f T x m L : Nat) (q : Int32) : St := up2 (up2 (up2 (up2 (up2 (up2 (up2 (up2 (up2 (up2 σ 14 f (nI (T - x))) 28 k 1) 32 k (nI P)) 30 k (σ 30 k + 1)) 31 k (σ 31 k + nI (x / 5))) 35 k (nI m)) 36 k (nI (m + 2 + x / 100))) 19 0 (nI (L + (x - x / 5)))) 33 k (nI f)) 34 k q
theorem V_treat {P f T x L : Nat} {q : Int32} (e1 : σ 1 0 = nI n) (hn : n ≤ 6) (hk : k < n) (hP : P < 3) (hf : f < 3) (h28 : σ 28 k = 0 ∨ σ 28 k = 2) (hfree : S_X6_padIsFree σ (nI P) = 1) (hspan : ¬ padI (nI P) < σ 25 k) (e14 : σ 14 f = nI T) (hx1 : 10 ≤ x) (hx2 : x ≤ 2000) (hT : x ≤ T) (hT2 : T ≤ 100000) (e0 : σ 0 0 = nI m) (hm : m ≤ 100000) (e19 : σ 19 0 = nI L) (hL : L ≤ 100000) (hs : S_X6_requireStrength q = 0) : S_X6_treat σ (nI k) (nI P) (nI f) (nI x) q = (0, nI (m + 2 + x / 100), TR σ k P f T x m L q) := by
  have b1 : nI x * 20 / 100 = nI (x / 5) := by
    rw [show (20 : Int32) = nI 20 from rfl, pk_mul, show (100 : Int32) = nI 100 from rfl, pk_div (by omega) (by decide) (by decide), show x * 20 / 100 = x / 5 by omega]
  have b2 : nI m + 2 + nI x / 100 = nI (m + 2 + x / 100) := by
    rw [show (2 : Int32) = nI 2 from rfl, nI_add, show (100 : Int32) = nI 100 from rfl, pk_div (by omega) (by decide) (by decide), nI_add]
  have bt : S_X0_beginTreatment (up2 σ 14 f (nI T - nI x)) k (nI P) (nI x) (nI m) = (nI (x - x / 5), up2 (up2 (up2 (up2 (up2 (up2 (up2 σ 14 f (nI (T - x))) 28 k 1) 32 k (nI P)) 30 k (σ 30 k + 1)) 31 k (σ 31 k + nI (x / 5))) 35 k (nI m)) 36 k (nI (m + 2 + x / 100))) := by
    unfold S_X0_beginTreatment
    rw [b1, b2, pk_sub hT, pk_sub (Nat.div_le_self _ _), up2_f (g := 30) (by decide), up2_f (g := 31) (by decide)]
  have hA : S_X6_treat_66 σ (nI k) (nI P) (nI f) (nI x) q 1 = (0, nI (m + 2 + x / 100), TR σ k P f T x m L q) := by
    unfold S_X6_treat_66 S_X6_treat_95 S_X6_treat_117 TR
    rw [nI_clamp (show k < 2 ^ 31 by omega), nI_clamp (show f < 2 ^ 31 by omega), hfree, e14, e0, e19, bt, if_neg hspan, if_neg (nI_nlt hT (by omega)), rqp1, if_pos rfl, if_neg (by decide), if_pos rfl, if_pos rfl]
    show (0, up2 _ 36 k _ 36 k, up2 (up2 (up2 _ 19 0 (nI L + nI (x - x / 5))) 33 k (nI f)) 34 k q) = _
    rw [up2_s, nI_add]
  unfold S_X6_treat
  rw [e1, ri_ok hk (by omega), show (3 : Int32) = nI 3 from rfl, ri_ok hP (by decide), ri_ok hf (by decide), show (10 : Int32) = nI 10 from rfl, show (2000 : Int32) = nI 2000 from rfl, rr_ok hx1 hx2 (by decide), hs, nI_clamp (show k < 2 ^ 31 by omega), hA]
  simp only [if_true]
  rcases h28 with h28 | h28
  · rw [if_pos h28]
  · rw [if_neg (fun z => by rw [h28] at z; exact absurd z (by decide)), if_pos h28]
section TRF
variable {P f T x L : Nat} {q : Int32}
theorem TR_o {g i : Nat} (h : ¬ (g = 14 ∨ g = 28 ∨ g = 32 ∨ g = 30 ∨ g = 31 ∨ g = 35 ∨ g = 36 ∨ g = 19 ∨ g = 33 ∨ g = 34)) : TR σ k P f T x m L q g i = σ g i := by
  unfold TR
  rw [up2_f (by omega), up2_f (by omega), up2_f (by omega), up2_f (by omega), up2_f (by omega), up2_f (by omega), up2_f (by omega), up2_f (by omega), up2_f (by omega), up2_f (by omega)]
theorem TR_i {g i : Nat} (h : i ≠ k) (h2 : ¬ (g = 14 ∨ g = 19)) : TR σ k P f T x m L q g i = σ g i := by
  unfold TR
  rw [up2_i h, up2_i h, up2_f (f := 19) (by omega), up2_i h, up2_i h, up2_i h, up2_i h, up2_i h, up2_i h, up2_f (f := 14) (by omega)]
theorem TR_14 (i : Nat) : TR σ k P f T x m L q 14 i = if i = f then nI (T - x) else σ 14 i := by
  unfold TR
  rw [up2_f (by decide), up2_f (by decide), up2_f (by decide), up2_f (by decide), up2_f (by decide), up2_f (by decide), up2_f (by decide), up2_f (by decide), up2_f (by decide)]
  by_cases z : i = f
  · rw [if_pos z, z, up2_s]
  · rw [if_neg z, up2_i z]
theorem TR_28 : TR σ k P f T x m L q 28 k = 1 := by
  unfold TR
  rw [up2_f (by decide), up2_f (by decide), up2_f (by decide), up2_f (by decide), up2_f (by decide), up2_f (by decide), up2_f (by decide), up2_f (by decide), up2_s]
theorem TR_32 : TR σ k P f T x m L q 32 k = nI P := by
  unfold TR
  rw [up2_f (by decide), up2_f (by decide), up2_f (by decide), up2_f (by decide), up2_f (by decide), up2_f (by decide), up2_f (by decide), up2_s]
theorem TR_30 : TR σ k P f T x m L q 30 k = σ 30 k + 1 := by
  unfold TR
  rw [up2_f (by decide), up2_f (by decide), up2_f (by decide), up2_f (by decide), up2_f (by decide), up2_f (by decide), up2_s]
theorem TR_31 : TR σ k P f T x m L q 31 k = σ 31 k + nI (x / 5) := by
  unfold TR
  rw [up2_f (by decide), up2_f (by decide), up2_f (by decide), up2_f (by decide), up2_f (by decide), up2_s]
theorem TR_35 : TR σ k P f T x m L q 35 k = nI m := by
  unfold TR
  rw [up2_f (by decide), up2_f (by decide), up2_f (by decide), up2_f (by decide), up2_s]
theorem TR_19 : TR σ k P f T x m L q 19 0 = nI (L + (x - x / 5)) := by
  unfold TR
  rw [up2_f (by decide), up2_f (by decide), up2_s]
theorem TR_33 : TR σ k P f T x m L q 33 k = nI f := by
  unfold TR
  rw [up2_f (by decide), up2_s]
theorem TR_34 : TR σ k P f T x m L q 34 k = q := by
  unfold TR
  rw [up2_s]
end TRF
theorem sw_tr (a b d l L C R X S : Int32) : a + b + d + l + L + C + R = (a - X) + b + d + (l + S) + (L + (X - S)) + C + R ∧ a + b + d + l + L + C + R = a + (b - X) + d + (l + S) + (L + (X - S)) + C + R ∧ a + b + d + l + L + C + R = a + b + (d - X) + (l + S) + (L + (X - S)) + C + R := by
  refine ⟨?_, ?_, ?_⟩ <;> grind
theorem I_treat {P f T x L : Nat} {j : Nat} (h : II σ m n c) (hc : c < 60) (hk : k < n) (hf : f < 3) (e41 : σ 41 f = nI T) (hx2 : x ≤ 909) (hT : x ≤ T) (hT2 : T ≤ 3000 + 1000 * c) (hL : L ≤ 1000 * c) (e19 : σ 19 0 = nI L) : II (TR (up2 σ 41 f (nI (T - x))) k P f T x m L (50 + 25 * nI j)) m n (c + 1) := by
  have e14 : σ 14 f = nI T := (h.f.2 f hf).1.trans e41
  have hb := h.bal
  have ee : ∀ g i, ¬ (g = 14 ∨ g = 28 ∨ g = 32 ∨ g = 30 ∨ g = 31 ∨ g = 35 ∨ g = 36 ∨ g = 19 ∨ g = 33 ∨ g = 34 ∨ g = 41) → TR (up2 σ 41 f (nI (T - x))) k P f T x m L (50 + 25 * nI j) g i = σ g i := fun g i z => (TR_o (by omega)).trans (up2_f (by omega) _ _ _ _)
  have ei : ∀ g i, i ≠ k → ¬ (g = 14 ∨ g = 19 ∨ g = 41) → TR (up2 σ 41 f (nI (T - x))) k P f T x m L (50 + 25 * nI j) g i = σ g i := fun g i z z2 => (TR_i z (by omega)).trans (up2_f (by omega) _ _ _ _)
  have s14 : ∀ i, TR (up2 σ 41 f (nI (T - x))) k P f T x m L (50 + 25 * nI j) 14 i = if i = f then nI (T - x) else σ 14 i := fun i => by
    rw [TR_14, up2_f (by decide)]
  have s41 : ∀ i, TR (up2 σ 41 f (nI (T - x))) k P f T x m L (50 + 25 * nI j) 41 i = if i = f then nI (T - x) else σ 41 i := fun i => by
    rw [TR_o (by decide)]
    by_cases z : i = f
    · rw [if_pos z, z, up2_s]
    · rw [if_neg z, up2_i z]
  obtain ⟨⟨a1, a2, a3⟩, h2, h3, h4, ⟨f1, f2⟩, ⟨-, ⟨C, c1, c2⟩, b3⟩, h7, h8, h9, h10⟩ := h
  refine ⟨⟨by omega, by omega, (ee 0 0 (by decide)).trans a3⟩, h2.cg (ee 3 0 (by decide)) (ee 4 0 (by decide)), h3.cg (fun f i q => ee f i (by omega)), h4.cg (ee 7 0 (by decide)), ⟨fun g hg i hi => (ee _ _ (by omega)).trans (f1 g hg i hi), fun g hg => ?_⟩, ⟨⟨L + (x - x / 5), by omega, TR_19⟩, ⟨C, c1, (ee 20 0 (by decide)).trans c2⟩, ?_⟩, h7.cg (ee 1 0 (by decide)), fun i hi => ?_, fun i hi => (ei 33 i (by omega) (by decide)).trans (h9 i hi), ?_⟩
  · rw [s14, s41]
    by_cases z : g = f
    · rw [if_pos z, if_pos z]
      exact ⟨rfl, T - x, by omega, rfl⟩
    · rw [if_neg z, if_neg z]
      obtain ⟨q1, T', q2, q3⟩ := f2 g hg
      exact ⟨q1, T', by omega, q3⟩
  · rw [ee 22 0 (by decide), ee 23 0 (by decide), ee 24 0 (by decide)]
    exact b3
  · obtain ⟨q1, q2, d, d1, d2, d3⟩ := h8 i hi
    rw [ee 25 i (by decide), ee 40 i (by decide)]
    by_cases z : i = k
    · subst z
      rw [TR_33, TR_30, TR_28, up2_f (by decide), d2, nI_1]
      exact ⟨q1, ⟨f, hf, rfl⟩, d + 1, by omega, rfl, fun _ => by omega⟩
    · rw [ei 33 i z (by decide), ei 30 i z (by decide), ei 28 i z (by decide)]
      exact ⟨q1, q2, d, by omega, d2, d3⟩
  · unfold BAL at *
    rw [lo_add (σ := σ) (k := k) (x := nI (x / 5)) (by rw [TR_31, up2_f (by decide)]) (fun i z => ei 31 i z (by decide)) n hk, TR_19, ee 18 0 (by decide), ee 20 0 (by decide), ee 21 0 (by decide), s14, s14, s14, hb, ← nI_add, ← pk_sub hT, ← pk_sub (Nat.div_le_self x 5), ← e14, ← e19]
    obtain ⟨w1, w2, w3⟩ := sw_tr (σ 14 0) (σ 14 1) (σ 14 2) (lo σ n) (σ 19 0) (σ 20 0) (σ 21 0) (nI x) (nI (x / 5))
    rcases (show f = 0 ∨ f = 1 ∨ f = 2 by omega) with rfl | rfl | rfl
    · rw [if_pos rfl, if_neg (by decide), if_neg (by decide)]
      exact w1
    · rw [if_neg (by decide), if_pos rfl, if_neg (by decide)]
      exact w2
    · rw [if_neg (by decide), if_neg (by decide), if_pos rfl]
      exact w3
/-- the clock of one just treated has more than 0 left -/
theorem clk_pos {f j : Nat} (h : II σ m n c) (hf : f < 3) (hj : j < 3) (e33 : σ 33 k = nI f) (e34 : σ 34 k = 50 + 25 * nI j) (e35 : σ 35 k = nI m) : 0 < Op.cmpValue (FP.dcmp (S_X6_clockLeft σ k) FP.dconst0) CmpOp.l := by
  unfold S_X6_clockLeft S_X2_holdsFor
  rw [e33, e34, e35, h.m0, pk_sub (Nat.le_refl _), Nat.sub_self, nI_clamp (by omega)]
  have hs : (50 + 25 * nI j : Int32) ∈ ([50, 75, 100] : List Int32) := by
    rcases (show j = 0 ∨ j = 1 ∨ j = 2 by omega) with rfl | rfl | rfl <;> decide
  have hz : S_X5_holdFactor σ ∈ ([4602678819172646912, 4604930618986332160, FP.dconst1] : List UInt64) := by
    unfold S_X5_holdFactor
    (repeat' split) <;> simp
  by_cases c0 : σ 3 0 = 0
  · rw [if_pos c0]
    exact pos_clear
  · rw [if_neg c0]
    have hr : σ (15 + f) (σ 3 0).toNatClampNeg ∈ ([20, 5, 60, 30, 100, 70] : List Int32) := by
      have key : ∀ g : Nat, 1 ≤ g → g < 4 → σ 3 0 = nI g → σ (15 + f) (σ 3 0).toNatClampNeg ∈ ([20, 5, 60, 30, 100, 70] : List Int32) := by
        intro g h1 hg eg
        rw [eg, nI_clamp (by omega), h.f.1 f hf g hg]
        rcases (show f = 0 ∨ f = 1 ∨ f = 2 by omega) with rfl | rfl | rfl <;> rcases (show g = 1 ∨ g = 2 ∨ g = 3 by omega) with rfl | rfl | rfl <;> decide
      rcases h.w.1 with z | z | z | z
      · exact absurd z c0
      · exact key 1 (by decide) (by decide) z
      · exact key 2 (by decide) (by decide) z
      · exact key 3 (by decide) (by decide) z
    exact pos_all _ hr _ hs _ hz
/-! aircraft -/
def AC (σ : St) (n : Nat) (a b d : Int32) : St := up2 (newst σ n a b d) 1 0 (nI (n + 1))
theorem V_aircraft {a b d : Nat} (h : II σ m n c) (hn : n < 6) (ha : 10 ≤ a) (ha2 : a ≤ 80) (hb : b ≤ 2000) (hd : d ≤ 2000) : S_X6_aircraft σ (nI a) (nI b) (nI d) = (0, nI n, AC σ n (nI a) (σ 0 0 + nI b) (σ 0 0 + nI d)) := by
  unfold S_X6_aircraft S_X6_aircraft_38 S_X6_aircraft_41 AC
  rw [show (0 : Int32) = nI 0 from rfl, show (10 : Int32) = nI 10 from rfl, show (80 : Int32) = nI 80 from rfl, show (2000 : Int32) = nI 2000 from rfl, rr_ok ha ha2 (by decide), rr_ok (Nat.zero_le _) hb (by decide), rr_ok (Nat.zero_le _) hd (by decide), h.n0, show (20 : Int32) = nI 20 from rfl, if_neg (nI_ge (show n < 20 by omega) (by decide)), rqp1, nI_clamp (by omega), nI_1]
  simp only [if_true]
theorem AC_o {g i : Nat} {a b d : Int32} (h : ¬ (g = 1 ∨ (25 ≤ g ∧ g ≤ 36 ∧ i = n))) : AC σ n a b d g i = σ g i := by
  unfold AC newst up2
  rw [if_neg (by omega), if_neg (by omega), if_neg (by omega), if_neg (by omega), if_neg (by omega), if_neg (by omega), if_neg (by omega), if_neg (by omega), if_neg (by omega), if_neg (by omega), if_neg (by omega), if_neg (by omega), if_neg (by omega)]
theorem AC_n {a b d : Int32} : AC σ n a b d 25 n = a ∧ AC σ n a b d 28 n = 0 ∧ AC σ n a b d 30 n = 0 ∧ AC σ n a b d 31 n = 0 ∧ AC σ n a b d 33 n = 0 := by
  unfold AC newst up2
  refine ⟨?_, ?_, ?_, ?_, ?_⟩ <;> simp
theorem I_span (h : II σ m n c) (v : Int32) : II (up2 σ 40 n v) m n c := by
  have e : ∀ f i, f ≠ 40 → up2 σ 40 n v f i = σ f i := fun f i z => up2_f z _ _ _ _
  obtain ⟨h1, h2, h3, h4, h5, h6, h7, h8, h9, h10⟩ := h
  refine ⟨h1.cg (e 0 0 (by decide)), h2.cg (e 3 0 (by decide)) (e 4 0 (by decide)), h3.cg (fun f i q => e f i (by omega)), h4.cg (e 7 0 (by decide)), h5.cg (fun f i q => e f i (by omega)), h6.cg (fun f q => e f 0 (by omega)), h7.cg (e 1 0 (by decide)), fun j hj => ?_, h9.cg (fun i => e 33 i (by decide)), h10.cg (fun f i q => e f i (by omega))⟩
  rw [e 25 j (by decide), e 33 j (by decide), e 30 j (by decide), e 28 j (by decide), up2_i (show j ≠ n by omega)]
  exact h8 j hj
theorem I_aircraft {a b d : Int32} (h : II σ m n c) (hn : n < 6) (e40 : σ 40 n = a) : II (AC σ n a b d) m (n + 1) c := by
  obtain ⟨q25, q28, q30, q31, q33⟩ := AC_n (σ := σ) (n := n) (a := a) (b := b) (d := d)
  have e : ∀ g i, ¬ (g = 1 ∨ (25 ≤ g ∧ g ≤ 36)) → AC σ n a b d g i = σ g i := fun g i z => AC_o (by omega)
  have ei : ∀ g i, i ≠ n → g ≠ 1 → AC σ n a b d g i = σ g i := fun g i z z2 => AC_o (by omega)
  obtain ⟨h1, h2, h3, h4, h5, h6, ⟨h7, h7'⟩, h8, h9, h10⟩ := h
  refine ⟨h1.cg (e 0 0 (by decide)), h2.cg (e 3 0 (by decide)) (e 4 0 (by decide)), h3.cg (fun f i q => e f i (by omega)), h4.cg (e 7 0 (by decide)), h5.cg (fun f i q => e f i (by omega)), h6.cg (fun f q => e f 0 (by omega)), ⟨by omega, up2_s _ _ _ _⟩, fun j hj => ?_, fun j hj => (ei 33 j (by omega) (by decide)).trans (h9 j (by omega)), ?_⟩
  · by_cases z : j = n
    · subst z
      rw [q25, q28, q30, q33, e 40 j (by decide), e40]
      exact ⟨rfl, ⟨0, by decide, rfl⟩, 0, Nat.zero_le _, rfl, fun q => absurd q (by decide)⟩
    · rw [ei 25 j z (by decide), ei 28 j z (by decide), ei 30 j z (by decide), ei 33 j z (by decide), e 40 j (by decide)]
      exact h8 j (by omega)
  · unfold BAL at *
    show AC σ n a b d 18 0 = AC σ n a b d 14 0 + AC σ n a b d 14 1 + AC σ n a b d 14 2 + (lo (AC σ n a b d) n + AC σ n a b d 31 n) + AC σ n a b d 19 0 + AC σ n a b d 20 0 + AC σ n a b d 21 0
    rw [lo_cg (σ := σ) n (fun k hk => ei 31 k (by omega) (by decide)), q31, Int32.add_zero, e 18 0 (by decide), e 14 0 (by decide), e 14 1 (by decide), e 14 2 (by decide), e 19 0 (by decide), e 20 0 (by decide), e 21 0 (by decide)]
    exact h10
end TRT
