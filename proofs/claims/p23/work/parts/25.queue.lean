/-! the queue: the place counted; every place below the number of the clean has one aircraft (ours) -/
def cn (p : Nat → Bool) : Nat → Nat
  | 0 => 0
  | n + 1 => cn p n + (if p n = true then 1 else 0)
theorem cn_mono {p q : Nat → Bool} : ∀ n : Nat, (∀ j, j < n → p j = true → q j = true) → cn p n ≤ cn q n
  | 0, _ => Nat.le_refl 0
  | n + 1, h => by
    have i := cn_mono n (fun j hj => h j (by omega))
    show cn p n + (if p n = true then 1 else 0) ≤ cn q n + (if q n = true then 1 else 0)
    by_cases c : p n = true
    · rw [if_pos c, if_pos (h n (by omega) c)]
      omega
    · rw [if_neg c]
      omega
theorem cn_eq {p q : Nat → Bool} (n : Nat) (h : ∀ j, j < n → (p j = true ↔ q j = true)) : cn p n = cn q n :=
  Nat.le_antisymm (cn_mono n (fun j hj => (h j hj).mp)) (cn_mono n (fun j hj => (h j hj).mpr))
theorem cn_one {p q : Nat → Bool} {v : Nat} (hq : ¬ q v = true) : ∀ n : Nat, v < n → (∀ j, j < n → (p j = true ↔ q j = true ∨ j = v)) → cn p n = cn q n + 1
  | 0, hv, _ => absurd hv (by omega)
  | n + 1, hv, h => by
    show cn p n + (if p n = true then 1 else 0) = cn q n + (if q n = true then 1 else 0) + 1
    by_cases c : v = n
    · subst c
      rw [if_pos ((h v (by omega)).mpr (Or.inr rfl)), if_neg hq, cn_eq (q := q) v (fun j hj => (h j (by omega)).trans ⟨fun z => z.resolve_right (by omega), Or.inl⟩)]
    · rw [cn_one hq n (by omega) (fun j hj => h j (by omega))]
      by_cases d : q n = true
      · rw [if_pos d, if_pos ((h n (by omega)).mpr (Or.inl d))]
      · rw [if_neg d, if_neg (fun z => ((h n (by omega)).mp z).elim d (fun e => c e.symm))]
theorem cn_le (p : Nat → Bool) : ∀ n : Nat, cn p n ≤ n
  | 0 => Nat.le_refl 0
  | n + 1 => by
    have := cn_le p n
    show cn p n + (if p n = true then 1 else 0) ≤ n + 1
    split <;> omega
/-- one stands before the other -/
def Bf (K : Nat → Int) (i j : Nat) : Prop := K i < K j ∨ K i = K j ∧ i < j
theorem Bf.irr {K : Nat → Int} {i : Nat} : ¬ Bf K i i := fun h => by
  rcases h with h | h <;> omega
theorem Bf.tr {K : Nat → Int} {i j k : Nat} (h : Bf K i j) (h2 : Bf K j k) : Bf K i k := by
  unfold Bf at *
  omega
theorem Bf.tot {K : Nat → Int} {i j : Nat} (h : i ≠ j) : Bf K i j ∨ Bf K j i := by
  unfold Bf
  omega
theorem Bf.asym {K : Nat → Int} {i j : Nat} (h : Bf K i j) : ¬ Bf K j i := by
  unfold Bf at *
  omega
noncomputable def bfp (K : Nat → Int) (B : Nat → Bool) (i j : Nat) : Bool := B j && decide (K j < K i ∨ K j = K i ∧ j < i)
theorem bfp_iff {K : Nat → Int} {B : Nat → Bool} {i j : Nat} : bfp K B i j = true ↔ B j = true ∧ Bf K j i := by
  unfold bfp Bf
  rw [Bool.and_eq_true, decide_eq_true_iff]
noncomputable def rk (K : Nat → Int) (B : Nat → Bool) (n i : Nat) : Nat := cn (bfp K B i) n
theorem rk_lt {K : Nat → Int} {B : Nat → Bool} {n i j : Nat} (hi : i < n) (bi : B i = true) (h : Bf K i j) : rk K B n i < rk K B n j := by
  have e : cn (fun k => bfp K B i k || decide (k = i)) n = cn (bfp K B i) n + 1 := cn_one (v := i) (fun q => Bf.irr (bfp_iff.mp q).2) n hi (fun k _ => by rw [Bool.or_eq_true, decide_eq_true_iff])
  have l : cn (fun k => bfp K B i k || decide (k = i)) n ≤ cn (bfp K B j) n := cn_mono n (fun k _ q => by
    rw [Bool.or_eq_true, decide_eq_true_iff] at q
    rcases q with q | q
    · exact bfp_iff.mpr ⟨(bfp_iff.mp q).1, (bfp_iff.mp q).2.tr h⟩
    · rw [q]
      exact bfp_iff.mpr ⟨bi, h⟩)
  unfold rk
  omega
theorem rk_inj {K : Nat → Int} {B : Nat → Bool} {n i j : Nat} (hi : i < n) (hj : j < n) (bi : B i = true) (bj : B j = true) (e : rk K B n i = rk K B n j) : i = j := by
  by_cases c : i = j
  · exact c
  · rcases Bf.tot (K := K) c with h | h
    · have := rk_lt hi bi h
      omega
    · have := rk_lt hj bj h
      omega
theorem rk_first {K : Nat → Int} {B : Nat → Bool} {n q : Nat} (h : ∀ k, k < n → B k = true → k = q ∨ Bf K q k) : rk K B n q = 0 := by
  have : rk K B n q ≤ cn (fun _ => false) n := cn_mono n (fun k hk z => by
    obtain ⟨b, f⟩ := bfp_iff.mp z
    rcases h k hk b with e | e
    · rw [e] at f
      exact absurd f Bf.irr
    · exact absurd f e.asym)
  have z : ∀ m : Nat, cn (fun _ => false) m = 0 := fun m => by
    induction m with
    | zero => rfl
    | succ m ih => exact ih
  rw [z] at this
  omega
theorem rk_next {K : Nat → Int} {B : Nat → Bool} {n q w : Nat} (hw : w < n) (bw : B w = true) (f : Bf K w q) (h : ∀ k, k < n → B k = true → Bf K w k → k = q ∨ Bf K q k) : rk K B n q = rk K B n w + 1 :=
  cn_one (v := w) (fun z => Bf.irr (bfp_iff.mp z).2) n hw (fun k hk => by
    rw [bfp_iff, bfp_iff]
    constructor
    · rintro ⟨b, g⟩
      by_cases e : k = w
      · exact Or.inr e
      · rcases Bf.tot (K := K) e with g2 | g2
        · exact Or.inl ⟨b, g2⟩
        · rcases h k hk b g2 with g3 | g3
          · rw [g3] at g
            exact absurd g Bf.irr
          · exact absurd g g3.asym
    · rintro (⟨b, g⟩ | e)
      · exact ⟨b, g.tr f⟩
      · rw [e]
        exact ⟨bw, f⟩)
/-! the keys of the clocks -/
noncomputable def ky (σ : St) (k : Nat) : Int := FP.Core.dkey (S_X6_clockLeft σ k)
def cl (σ : St) (k : Nat) : Bool := decide (σ 28 k = 2)
theorem vn {a : UInt64} (h : a.toNat % 2 ^ 63 < 1089 * 2 ^ 52) : FP.Core.val64 a ≠ .nan := by
  intro q
  have := (FP.Core.isNaN_bits a).mp ((FP.Core.dIsNaN_iff a).mpr q)
  omega
theorem ky_cmp (σ : St) (i j : Nat) : FP.dcmp (S_X6_clockLeft σ i) (S_X6_clockLeft σ j) = some (compare (ky σ i) (ky σ j)) :=
  FP.Core.dcmp_key (vn (clock_mag σ i)) (vn (clock_mag σ j))
theorem cmp_three (a b : Int) : (compare a b = .lt ∧ a < b) ∨ (compare a b = .eq ∧ a = b) ∨ (compare a b = .gt ∧ b < a) := by
  rcases Int.lt_trichotomy a b with h | h | h
  · exact Or.inl ⟨(FP.Core.compare_lt_iff a b).mpr h, h⟩
  · exact Or.inr (Or.inl ⟨(FP.Core.compare_eq_iff a b).mpr h, h⟩)
  · exact Or.inr (Or.inr ⟨(FP.Core.compare_gt_iff a b).mpr h, h⟩)
theorem ky_g (σ : St) (i j : Nat) : (0 ≤ Op.cmpValue (FP.dcmp (S_X6_clockLeft σ i) (S_X6_clockLeft σ j)) CmpOp.g) ↔ ¬ ky σ i < ky σ j := by
  rw [ky_cmp]
  rcases cmp_three (ky σ i) (ky σ j) with ⟨e, h⟩ | ⟨e, h⟩ | ⟨e, h⟩ <;> rw [e]
  · exact ⟨fun q => absurd q (by decide), fun q => absurd h q⟩
  · exact ⟨fun q => by omega, fun q => by decide⟩
  · exact ⟨fun q => by omega, fun q => by decide⟩
theorem ky_l (σ : St) (i j : Nat) : (0 < Op.cmpValue (FP.dcmp (S_X6_clockLeft σ i) (S_X6_clockLeft σ j)) CmpOp.l) ↔ ky σ j < ky σ i := by
  rw [ky_cmp]
  rcases cmp_three (ky σ i) (ky σ j) with ⟨e, h⟩ | ⟨e, h⟩ | ⟨e, h⟩ <;> rw [e]
  · exact ⟨fun q => absurd q (by decide), fun q => by omega⟩
  · exact ⟨fun q => absurd q (by decide), fun q => by omega⟩
  · exact ⟨fun q => h, fun q => by decide⟩
theorem ky_e (σ : St) (i j : Nat) : (Op.cmpValue (FP.dcmp (S_X6_clockLeft σ i) (S_X6_clockLeft σ j)) CmpOp.l = 0) ↔ ky σ i = ky σ j := by
  rw [ky_cmp]
  rcases cmp_three (ky σ i) (ky σ j) with ⟨e, h⟩ | ⟨e, h⟩ | ⟨e, h⟩ <;> rw [e]
  · exact ⟨fun q => absurd q (by decide), fun q => by omega⟩
  · exact ⟨fun q => h, fun q => by decide⟩
  · exact ⟨fun q => absurd q (by decide), fun q => by omega⟩
theorem ahead_iff {σ : St} {i j : Nat} (hi : i < 2 ^ 31) (hj : j < 2 ^ 31) : (S_X6_goesAhead σ (nI i) (nI j) = 0) ↔ ¬ Bf (ky σ) i j := by
  unfold S_X6_goesAhead Bf
  rw [nI_clamp hi, nI_clamp hj]
  by_cases c : (Op.cmpValue (FP.dcmp (S_X6_clockLeft σ i) (S_X6_clockLeft σ j)) CmpOp.g) < 0
  · have k : ky σ i < ky σ j := Decidable.byContradiction fun q => absurd ((ky_g σ i j).mpr q) (Int32.not_le.mpr c)
    rw [if_pos c]
    exact ⟨fun q => absurd q (by decide), fun q => absurd (Or.inl k) q⟩
  · have k : ¬ ky σ i < ky σ j := (ky_g σ i j).mp (Int32.not_lt.mp c)
    rw [if_neg c]
    by_cases d : ky σ i = ky σ j
    · rw [if_pos ((ky_e σ i j).mpr d)]
      by_cases e : j ≤ i
      · rw [if_pos (nI_le e hi)]
        exact ⟨fun _ => by omega, fun _ => rfl⟩
      · rw [if_neg (fun q => e ((nI_leI hj hi).mp q))]
        exact ⟨fun q => absurd q (by decide), fun q => absurd (Or.inr ⟨d, by omega⟩) q⟩
    · rw [if_neg (fun q => d ((ky_e σ i j).mp q))]
      exact ⟨fun _ => by omega, fun _ => rfl⟩
theorem place_eq {σ : St} {n i : Nat} (hn : n ≤ 20) (e1 : σ 1 0 = nI n) (hi : i < n) : ∀ (d j : Nat), d + j = 21 → j ≤ n → S_X6_placeInQueue_4 d σ (nI i) (nI (cn (bfp (ky σ) (cl σ) i) j)) j = nI (rk (ky σ) (cl σ) n i)
  | 0, j, e, hj => absurd hn (by omega)
  | d + 1, j, e, hjn => by
    rw [S_X6_placeInQueue_4_s, e1]
    by_cases c0 : nI n ≤ nI j
    · have : j = n := by
        rw [nI_leI (by omega) (by omega)] at c0
        omega
      rw [if_pos c0, this]
      rfl
    · have hj : j < n := (nI_lt_of (by omega) c0).resolve_right (by omega)
      have ih := place_eq hn e1 hi d (j + 1) (by omega) (by omega)
      have st : cn (bfp (ky σ) (cl σ) i) (j + 1) = cn (bfp (ky σ) (cl σ) i) j + (if bfp (ky σ) (cl σ) i j = true then 1 else 0) := rfl
      rw [if_neg c0]
      by_cases c1 : j = i
      · rw [if_pos (show nI j = nI i by rw [c1])]
        rw [st, if_neg (fun q => by
          have := (bfp_iff.mp q).2
          rw [c1] at this
          exact Bf.irr this), Nat.add_zero] at ih
        exact ih
      · rw [if_neg (fun q => c1 ((nI_eq (by omega) (by omega)).mp q))]
        by_cases c2 : σ 28 j = 2
        · rw [if_pos c2]
          by_cases c3 : S_X6_goesAhead σ (nI j) (nI i) = 0
          · rw [if_pos c3]
            rw [st, if_neg (fun q => (ahead_iff (by omega) (by omega)).mp c3 (bfp_iff.mp q).2), Nat.add_zero] at ih
            exact ih
          · have hb : Bf (ky σ) j i := Classical.byContradiction fun q => c3 ((ahead_iff (by omega) (by omega)).mpr q)
            rw [if_neg c3, nI_1]
            rw [st, if_pos (bfp_iff.mpr ⟨decide_eq_true c2, hb⟩)] at ih
            exact ih
        · rw [if_neg c2]
          rw [st, if_neg (fun q => c2 (of_decide_eq_true (bfp_iff.mp q).1)), Nat.add_zero] at ih
          exact ih
theorem cl_iff {σ : St} {k : Nat} : cl σ k = true ↔ σ 28 k = 2 := decide_eq_true_iff
theorem queue16 {σ : St} {n P : Nat} (hn : n ≤ 20) (e1 : σ 1 0 = nI n) (hP : P < 2 ^ 31) {v : Int32} (hv : (v = -1 ∧ ∀ i, i < n → σ 28 i = 2 → ¬ rk (ky σ) (cl σ) n i = P) ∨ ∃ q : Nat, q < n ∧ v = nI q ∧ σ 28 q = 2 ∧ rk (ky σ) (cl σ) n q = P) : ∀ (d j : Nat), d + j = 21 → j ≤ n → (∀ i, i < j → ¬ (σ 28 i = 2 ∧ rk (ky σ) (cl σ) n i = P)) → S_X6_queue_16 d σ (nI P) j = (0, v, σ)
  | 0, j, e, hj, hi => absurd hn (by omega)
  | d + 1, j, e, hjn, hi => by
    rw [S_X6_queue_16_s, e1]
    by_cases c0 : nI n ≤ nI j
    · have : j = n := by
        rw [nI_leI (by omega) (by omega)] at c0
        omega
      subst this
      rw [if_pos c0]
      rcases hv with ⟨z, _⟩ | ⟨q, q1, q2, q3, q4⟩
      · rw [z]
      · exact absurd ⟨q3, q4⟩ (hi q q1)
    · have hj : j < n := (nI_lt_of (by omega) c0).resolve_right (by omega)
      have ep : S_X6_placeInQueue σ (nI j) = nI (rk (ky σ) (cl σ) n j) := place_eq hn e1 hj 21 0 rfl (by omega)
      have hr : rk (ky σ) (cl σ) n j ≤ n := cn_le _ n
      have go : ¬ (σ 28 j = 2 ∧ rk (ky σ) (cl σ) n j = P) → S_X6_queue_16 d σ (nI P) (j + 1) = (0, v, σ) := fun q => queue16 hn e1 hP hv d (j + 1) (by omega) (by omega) (fun i hi2 => by
        by_cases z : i = j
        · rw [z]
          exact q
        · exact hi i (by omega))
      rw [if_neg c0, ep]
      by_cases c1 : σ 28 j = 2
      · rw [if_pos c1]
        by_cases c2 : rk (ky σ) (cl σ) n j = P
        · rw [if_pos (by rw [c2])]
          rcases hv with ⟨z, f⟩ | ⟨q, q1, q2, q3, q4⟩
          · exact absurd c2 (f j hj c1)
          · rw [q2, rk_inj q1 hj (cl_iff.mpr q3) (cl_iff.mpr c1) (q4.trans c2.symm)]
        · rw [if_neg (fun z => c2 ((nI_eq (by omega) hP).mp z))]
          exact go (fun z => c2 z.2)
      · rw [if_neg c1]
        exact go (fun z => c1 z.1)
/-- how many are clean -/
def cnum (σ : St) (n : Nat) : Nat := cn (cl σ) n
theorem cnum_le (σ : St) (n : Nat) : cnum σ n ≤ n := cn_le _ n
theorem cnum_1 {σ : St} {k : Nat} (h : σ 28 k = 2) : nI (cnum σ k) + 1 = nI (cnum σ (k + 1)) := by
  rw [nI_1]
  show _ = nI (cn (cl σ) k + (if cl σ k = true then 1 else 0))
  rw [if_pos (cl_iff.mpr h)]
  rfl
theorem cnum_0 {σ : St} {k : Nat} (h : ¬ σ 28 k = 2) : nI (cnum σ k) + 0 = nI (cnum σ (k + 1)) := by
  rw [Int32.add_zero]
  show _ = nI (cn (cl σ) k + (if cl σ k = true then 1 else 0))
  rw [if_neg (fun q => h (cl_iff.mp q))]
  rfl
theorem rk_all {K : Nat → Int} {B : Nat → Bool} {n i : Nat} (hi : i < n) (bi : B i = true) : rk K B n i < cn B n := by
  have e : cn (fun k => bfp K B i k || decide (k = i)) n = cn (bfp K B i) n + 1 := cn_one (v := i) (fun q => Bf.irr (bfp_iff.mp q).2) n hi (fun k _ => by rw [Bool.or_eq_true, decide_eq_true_iff])
  have l : cn (fun k => bfp K B i k || decide (k = i)) n ≤ cn B n := cn_mono n (fun k _ q => by
    rw [Bool.or_eq_true, decide_eq_true_iff] at q
    rcases q with q | q
    · exact (bfp_iff.mp q).1
    · rw [q]
      exact bi)
  unfold rk
  omega
theorem cn_false : ∀ n : Nat, cn (fun _ => false) n = 0
  | 0 => rfl
  | n + 1 => cn_false n
theorem rk_few {K : Nat → Int} {B : Nat → Bool} {n : Nat} : ∀ p : Nat, cn (fun k => B k && decide (rk K B n k < p)) n ≤ p
  | 0 => by
    have : cn (fun k => B k && decide (rk K B n k < 0)) n ≤ cn (fun _ => false) n := cn_mono n (fun k _ q => by
      rw [Bool.and_eq_true, decide_eq_true_iff] at q
      exact absurd q.2 (Nat.not_lt_zero _))
    rw [cn_false] at this
    exact this
  | p + 1 => by
    have ih := rk_few (K := K) (B := B) (n := n) p
    by_cases h : ∃ v, v < n ∧ B v = true ∧ rk K B n v = p
    · obtain ⟨v, hv, bv, ev⟩ := h
      have : cn (fun k => B k && decide (rk K B n k < p + 1)) n = cn (fun k => B k && decide (rk K B n k < p)) n + 1 := cn_one (v := v) (fun q => by
        rw [Bool.and_eq_true, decide_eq_true_iff] at q
        omega) n hv (fun k hk => by
        rw [Bool.and_eq_true, decide_eq_true_iff, Bool.and_eq_true, decide_eq_true_iff]
        constructor
        · rintro ⟨b, l⟩
          by_cases q : rk K B n k = p
          · exact Or.inr (rk_inj hk hv b bv (q.trans ev.symm))
          · exact Or.inl ⟨b, by omega⟩
        · rintro (⟨b, l⟩ | q)
          · exact ⟨b, by omega⟩
          · rw [q]
            exact ⟨bv, by omega⟩)
      omega
    · have : cn (fun k => B k && decide (rk K B n k < p + 1)) n ≤ cn (fun k => B k && decide (rk K B n k < p)) n := cn_mono n (fun k hk q => by
        rw [Bool.and_eq_true, decide_eq_true_iff] at q ⊢
        refine ⟨q.1, ?_⟩
        by_cases z : rk K B n k = p
        · exact absurd ⟨k, hk, q.1, z⟩ h
        · omega)
      omega
theorem rk_some {K : Nat → Int} {B : Nat → Bool} {n p : Nat} (hp : p < cn B n) : ∃ w, w < n ∧ B w = true ∧ rk K B n w = p := by
  have hf := rk_few (K := K) (B := B) (n := n) p
  have h1 : ∃ r, ∃ w, w < n ∧ B w = true ∧ rk K B n w = r ∧ p ≤ r := by
    refine Classical.byContradiction fun q => ?_
    have : cn B n ≤ cn (fun k => B k && decide (rk K B n k < p)) n := cn_mono n (fun k hk b => by
      rw [Bool.and_eq_true, decide_eq_true_iff]
      refine ⟨b, Nat.lt_of_not_le fun z => q ⟨_, k, hk, b, rfl, z⟩⟩)
    omega
  obtain ⟨r, ⟨w, hw, bw, er, hr⟩, hmin⟩ := pk_least (fun r => ∃ w, w < n ∧ B w = true ∧ rk K B n w = r ∧ p ≤ r) h1
  refine ⟨w, hw, bw, ?_⟩
  have : rk K B n w ≤ cn (fun k => B k && decide (rk K B n k < p)) n := cn_mono n (fun k hk z => by
    obtain ⟨b, f⟩ := bfp_iff.mp z
    rw [Bool.and_eq_true, decide_eq_true_iff]
    refine ⟨b, Nat.lt_of_not_le fun y => ?_⟩
    have hlt := rk_lt (n := n) hk b f
    exact hmin _ (by omega) ⟨k, hk, b, rfl, y⟩)
  omega
section VQ
variable {σ : St} {n : Nat}
theorem V_queue_none (h : σ 1 0 = nI n) (hn : n ≤ 6) : S_X6_queue σ (nI (cnum σ n)) = (0, -1, σ) := by
  have hc := cnum_le σ n
  unfold S_X6_queue
  rw [if_pos (nI_pos' (by omega))]
  exact queue16 (by omega) h (by omega) (Or.inl ⟨rfl, fun i hi b q => by
    have := rk_all (K := ky σ) hi (cl_iff.mpr b)
    unfold cnum at q
    omega⟩) 21 0 rfl (Nat.zero_le _) (fun i hi => absurd hi (by omega))
theorem V_queue_some (h : σ 1 0 = nI n) (hn : n ≤ 6) {P : Nat} (hP : P < cnum σ n) : ∃ q, q < n ∧ σ 28 q = 2 ∧ rk (ky σ) (cl σ) n q = P ∧ S_X6_queue σ (nI P) = (0, nI q, σ) := by
  have hc := cnum_le σ n
  obtain ⟨w, hw, bw, er⟩ := rk_some (K := ky σ) (B := cl σ) hP
  refine ⟨w, hw, cl_iff.mp bw, er, ?_⟩
  unfold S_X6_queue
  rw [if_pos (nI_pos' (by omega))]
  exact queue16 (by omega) h (by omega) (Or.inr ⟨w, hw, rfl, cl_iff.mp bw, er⟩) 21 0 rfl (Nat.zero_le _) (fun i hi => absurd hi (by omega))
theorem V_queue_ord {a q P : Nat} (ha : a < n) (hq : q < n) (ba : σ 28 a = 2) (bq : σ 28 q = 2) (ea : rk (ky σ) (cl σ) n a = P) (eq : rk (ky σ) (cl σ) n q = P + 1) (hn : n ≤ 6) (hc : ¬ Op.cmpValue (FP.dcmp (S_X6_clockLeft σ a) (S_X6_clockLeft σ q)) CmpOp.g < 0) : Op.cmpValue (FP.dcmp (S_X6_clockLeft σ a) (S_X6_clockLeft σ q)) CmpOp.l = 0 ∧ ¬ nI q ≤ nI a := by
  have ne : a ≠ q := fun z => by
    rw [z, eq] at ea
    omega
  have bf : Bf (ky σ) a q := by
    rcases Bf.tot (K := ky σ) ne with z | z
    · exact z
    · have := rk_lt (n := n) hq (cl_iff.mpr bq) z
      omega
  have k1 : ¬ ky σ a < ky σ q := (ky_g σ a q).mp (Int32.not_lt.mp hc)
  unfold Bf at bf
  refine ⟨(ky_e σ a q).mpr (by omega), ?_⟩
  rw [nI_leI (by omega) (by omega)]
  omega
end VQ
