/-! the queue alike: the place counted, and the next one looked for -/
def cn (p : Nat → Bool) : Nat → Nat
  | 0 => 0
  | n + 1 => cn p n + (if p n = true then 1 else 0)
theorem cn_mono {p q : Nat → Bool} : ∀ n : Nat, (∀ j, j < n → p j = true → q j = true) → cn p n ≤ cn q n
  | 0, _ => Nat.le_refl 0
  | n + 1, h => by
    have i := cn_mono n (fun j hj => h j (by omega))
    show cn p n + (if p n = true then 1 else 0) ≤ cn q n + (if q n = true then 1 else 0)
    by_cases c : p n = true
    · rw [if_pos c, if_pos (h n (by omega) c)]
      omega
    · rw [if_neg c]
      omega
theorem cn_eq {p q : Nat → Bool} (n : Nat) (h : ∀ j, j < n → (p j = true ↔ q j = true)) : cn p n = cn q n :=
  Nat.le_antisymm (cn_mono n (fun j hj => (h j hj).mp)) (cn_mono n (fun j hj => (h j hj).mpr))
theorem cn_one {p q : Nat → Bool} {v : Nat} (hq : ¬ q v = true) : ∀ n : Nat, v < n → (∀ j, j < n → (p j = true ↔ q j = true ∨ j = v)) → cn p n = cn q n + 1
  | 0, hv, _ => absurd hv (by omega)
  | n + 1, hv, h => by
    show cn p n + (if p n = true then 1 else 0) = cn q n + (if q n = true then 1 else 0) + 1
    by_cases c : v = n
    · subst c
      rw [if_pos ((h v (by omega)).mpr (Or.inr rfl)), if_neg hq, cn_eq (q := q) v (fun j hj => (h j (by omega)).trans ⟨fun z => z.resolve_right (by omega), Or.inl⟩)]
    · rw [cn_one hq n (by omega) (fun j hj => h j (by omega))]
      by_cases d : q n = true
      · rw [if_pos d, if_pos ((h n (by omega)).mpr (Or.inl d))]
      · rw [if_neg d, if_neg (fun z => ((h n (by omega)).mp z).elim d (fun e => c e.symm))]
theorem cn_le (p : Nat → Bool) : ∀ n : Nat, cn p n ≤ n
  | 0 => Nat.le_refl 0
  | n + 1 => by
    have := cn_le p n
    show cn p n + (if p n = true then 1 else 0) ≤ n + 1
    split <;> omega
/-- one stands before the other -/
def Bf (K : Nat → Int) (i j : Nat) : Prop := K i < K j ∨ K i = K j ∧ i < j
theorem Bf.irr {K : Nat → Int} {i : Nat} : ¬ Bf K i i := fun h => by
  rcases h with h | h <;> omega
theorem Bf.tr {K : Nat → Int} {i j k : Nat} (h : Bf K i j) (h2 : Bf K j k) : Bf K i k := by
  unfold Bf at *
  omega
theorem Bf.tot {K : Nat → Int} {i j : Nat} (h : i ≠ j) : Bf K i j ∨ Bf K j i := by
  unfold Bf
  omega
theorem Bf.asym {K : Nat → Int} {i j : Nat} (h : Bf K i j) : ¬ Bf K j i := by
  unfold Bf at *
  omega
noncomputable def bfp (K : Nat → Int) (B : Nat → Bool) (i j : Nat) : Bool := B j && decide (K j < K i ∨ K j = K i ∧ j < i)
theorem bfp_iff {K : Nat → Int} {B : Nat → Bool} {i j : Nat} : bfp K B i j = true ↔ B j = true ∧ Bf K j i := by
  unfold bfp Bf
  rw [Bool.and_eq_true, decide_eq_true_iff]
noncomputable def rk (K : Nat → Int) (B : Nat → Bool) (n i : Nat) : Nat := cn (bfp K B i) n
theorem rk_lt {K : Nat → Int} {B : Nat → Bool} {n i j : Nat} (hi : i < n) (bi : B i = true) (h : Bf K i j) : rk K B n i < rk K B n j := by
  have e : cn (fun k => bfp K B i k || decide (k = i)) n = cn (bfp K B i) n + 1 := cn_one (v := i) (fun q => Bf.irr (bfp_iff.mp q).2) n hi (fun k _ => by rw [Bool.or_eq_true, decide_eq_true_iff])
  have l : cn (fun k => bfp K B i k || decide (k = i)) n ≤ cn (bfp K B j) n := cn_mono n (fun k _ q => by
    rw [Bool.or_eq_true, decide_eq_true_iff] at q
    rcases q with q | q
    · exact bfp_iff.mpr ⟨(bfp_iff.mp q).1, (bfp_iff.mp q).2.tr h⟩
    · rw [q]
      exact bfp_iff.mpr ⟨bi, h⟩)
  unfold rk
  omega
theorem rk_inj {K : Nat → Int} {B : Nat → Bool} {n i j : Nat} (hi : i < n) (hj : j < n) (bi : B i = true) (bj : B j = true) (e : rk K B n i = rk K B n j) : i = j := by
  by_cases c : i = j
  · exact c
  · rcases Bf.tot (K := K) c with h | h
    · have := rk_lt hi bi h
      omega
    · have := rk_lt hj bj h
      omega
theorem rk_first {K : Nat → Int} {B : Nat → Bool} {n q : Nat} (h : ∀ k, k < n → B k = true → k = q ∨ Bf K q k) : rk K B n q = 0 := by
  have : rk K B n q ≤ cn (fun _ => false) n := cn_mono n (fun k hk z => by
    obtain ⟨b, f⟩ := bfp_iff.mp z
    rcases h k hk b with e | e
    · rw [e] at f
      exact absurd f Bf.irr
    · exact absurd f e.asym)
  have z : ∀ m : Nat, cn (fun _ => false) m = 0 := fun m => by
    induction m with
    | zero => rfl
    | succ m ih => exact ih
  rw [z] at this
  omega
theorem rk_next {K : Nat → Int} {B : Nat → Bool} {n q w : Nat} (hw : w < n) (bw : B w = true) (f : Bf K w q) (h : ∀ k, k < n → B k = true → Bf K w k → k = q ∨ Bf K q k) : rk K B n q = rk K B n w + 1 :=
  cn_one (v := w) (fun z => Bf.irr (bfp_iff.mp z).2) n hw (fun k hk => by
    rw [bfp_iff, bfp_iff]
    constructor
    · rintro ⟨b, g⟩
      by_cases e : k = w
      · exact Or.inr e
      · rcases Bf.tot (K := K) e with g2 | g2
        · exact Or.inl ⟨b, g2⟩
        · rcases h k hk b g2 with g3 | g3
          · rw [g3] at g
            exact absurd g Bf.irr
          · exact absurd g g3.asym
    · rintro (⟨b, g⟩ | e)
      · exact ⟨b, g.tr f⟩
      · rw [e]
        exact ⟨bw, f⟩)
/-! the keys of the clocks -/
noncomputable def ky (σ : St) (k : Nat) : Int := FP.Core.dkey (S_X6_clockLeft σ k)
def cl (σ : St) (k : Nat) : Bool := decide (σ 28 k = 2)
theorem vn {a : UInt64} (h : a.toNat % 2 ^ 63 < 1089 * 2 ^ 52) : FP.Core.val64 a ≠ .nan := by
  intro q
  have := (FP.Core.isNaN_bits a).mp ((FP.Core.dIsNaN_iff a).mpr q)
  omega
theorem ky_cmp (σ : St) (i j : Nat) : FP.dcmp (S_X6_clockLeft σ i) (S_X6_clockLeft σ j) = some (compare (ky σ i) (ky σ j)) :=
  FP.Core.dcmp_key (vn (clock_mag σ i)) (vn (clock_mag σ j))
theorem cmp_three (a b : Int) : (compare a b = .lt ∧ a < b) ∨ (compare a b = .eq ∧ a = b) ∨ (compare a b = .gt ∧ b < a) := by
  rcases Int.lt_trichotomy a b with h | h | h
  · exact Or.inl ⟨(FP.Core.compare_lt_iff a b).mpr h, h⟩
  · exact Or.inr (Or.inl ⟨(FP.Core.compare_eq_iff a b).mpr h, h⟩)
  · exact Or.inr (Or.inr ⟨(FP.Core.compare_gt_iff a b).mpr h, h⟩)
theorem ky_g (σ : St) (i j : Nat) : (0 ≤ Op.cmpValue (FP.dcmp (S_X6_clockLeft σ i) (S_X6_clockLeft σ j)) CmpOp.g) ↔ ¬ ky σ i < ky σ j := by
  rw [ky_cmp]
  rcases cmp_three (ky σ i) (ky σ j) with ⟨e, h⟩ | ⟨e, h⟩ | ⟨e, h⟩ <;> rw [e]
  · exact ⟨fun q => absurd q (by decide), fun q => absurd h q⟩
  · exact ⟨fun q => by omega, fun q => by decide⟩
  · exact ⟨fun q => by omega, fun q => by decide⟩
theorem ky_l (σ : St) (i j : Nat) : (0 < Op.cmpValue (FP.dcmp (S_X6_clockLeft σ i) (S_X6_clockLeft σ j)) CmpOp.l) ↔ ky σ j < ky σ i := by
  rw [ky_cmp]
  rcases cmp_three (ky σ i) (ky σ j) with ⟨e, h⟩ | ⟨e, h⟩ | ⟨e, h⟩ <;> rw [e]
  · exact ⟨fun q => absurd q (by decide), fun q => by omega⟩
  · exact ⟨fun q => absurd q (by decide), fun q => by omega⟩
  · exact ⟨fun q => h, fun q => by decide⟩
theorem ky_e (σ : St) (i j : Nat) : (Op.cmpValue (FP.dcmp (S_X6_clockLeft σ i) (S_X6_clockLeft σ j)) CmpOp.l = 0) ↔ ky σ i = ky σ j := by
  rw [ky_cmp]
  rcases cmp_three (ky σ i) (ky σ j) with ⟨e, h⟩ | ⟨e, h⟩ | ⟨e, h⟩ <;> rw [e]
  · exact ⟨fun q => absurd q (by decide), fun q => by omega⟩
  · exact ⟨fun q => h, fun q => by decide⟩
  · exact ⟨fun q => absurd q (by decide), fun q => by omega⟩
theorem ahead_iff {σ : St} {i j : Nat} (hi : i < 2 ^ 31) (hj : j < 2 ^ 31) : (S_X6_goesAhead σ (nI i) (nI j) = 0) ↔ ¬ Bf (ky σ) i j := by
  unfold S_X6_goesAhead Bf
  rw [nI_clamp hi, nI_clamp hj]
  by_cases c : (Op.cmpValue (FP.dcmp (S_X6_clockLeft σ i) (S_X6_clockLeft σ j)) CmpOp.g) < 0
  · have k : ky σ i < ky σ j := Decidable.byContradiction fun q => absurd ((ky_g σ i j).mpr q) (Int32.not_le.mpr c)
    rw [if_pos c]
    exact ⟨fun q => absurd q (by decide), fun q => absurd (Or.inl k) q⟩
  · have k : ¬ ky σ i < ky σ j := (ky_g σ i j).mp (Int32.not_lt.mp c)
    rw [if_neg c]
    by_cases d : ky σ i = ky σ j
    · rw [if_pos ((ky_e σ i j).mpr d)]
      by_cases e : j ≤ i
      · rw [if_pos (nI_le e hi)]
        exact ⟨fun _ => by omega, fun _ => rfl⟩
      · rw [if_neg (fun q => e ((nI_leI hj hi).mp q))]
        exact ⟨fun q => absurd q (by decide), fun q => absurd (Or.inr ⟨d, by omega⟩) q⟩
    · rw [if_neg (fun q => d ((ky_e σ i j).mp q))]
      exact ⟨fun _ => by omega, fun _ => rfl⟩
theorem place_eq {σ : St} {n i : Nat} (hn : n ≤ 20) (e1 : σ 1 0 = nI n) (hi : i < n) : ∀ (d j : Nat), d + j = 21 → j ≤ n → S_X6_placeInQueue_4 d σ (nI i) (nI (cn (bfp (ky σ) (cl σ) i) j)) j = nI (rk (ky σ) (cl σ) n i)
  | 0, j, e, hj => absurd hn (by omega)
  | d + 1, j, e, hjn => by
    rw [S_X6_placeInQueue_4_s, e1]
    by_cases c0 : nI n ≤ nI j
    · have : j = n := by
        rw [nI_leI (by omega) (by omega)] at c0
        omega
      rw [if_pos c0, this]
      rfl
    · have hj : j < n := (nI_lt_of (by omega) c0).resolve_right (by omega)
      have ih := place_eq hn e1 hi d (j + 1) (by omega) (by omega)
      have st : cn (bfp (ky σ) (cl σ) i) (j + 1) = cn (bfp (ky σ) (cl σ) i) j + (if bfp (ky σ) (cl σ) i j = true then 1 else 0) := rfl
      rw [if_neg c0]
      by_cases c1 : j = i
      · rw [if_pos (show nI j = nI i by rw [c1])]
        rw [st, if_neg (fun q => by
          have := (bfp_iff.mp q).2
          rw [c1] at this
          exact Bf.irr this), Nat.add_zero] at ih
        exact ih
      · rw [if_neg (fun q => c1 ((nI_eq (by omega) (by omega)).mp q))]
        by_cases c2 : σ 28 j = 2
        · rw [if_pos c2]
          by_cases c3 : S_X6_goesAhead σ (nI j) (nI i) = 0
          · rw [if_pos c3]
            rw [st, if_neg (fun q => (ahead_iff (by omega) (by omega)).mp c3 (bfp_iff.mp q).2), Nat.add_zero] at ih
            exact ih
          · have hb : Bf (ky σ) j i := Classical.byContradiction fun q => c3 ((ahead_iff (by omega) (by omega)).mpr q)
            rw [if_neg c3, nI_1]
            rw [st, if_pos (bfp_iff.mpr ⟨decide_eq_true c2, hb⟩)] at ih
            exact ih
        · rw [if_neg c2]
          rw [st, if_neg (fun q => c2 (of_decide_eq_true (bfp_iff.mp q).1)), Nat.add_zero] at ih
          exact ih
/-! the reference's next one -/
/-- k stands behind p (any does, behind none) -/
def beh (σ : St) (p : Int32) (k : Nat) : Prop := p = -1 ∨ ∃ w : Nat, w < 20 ∧ p = nI w ∧ Bf (ky σ) w k
/-- b is the first of those behind p below j, or none is -/
def nxi (σ : St) (p b : Int32) (j : Nat) : Prop := (b = -1 ∧ ∀ k, k < j → σ 28 k = 2 → ¬ beh σ p k) ∨ ∃ q : Nat, q < j ∧ b = nI q ∧ σ 28 q = 2 ∧ beh σ p q ∧ ∀ k, k < j → σ 28 k = 2 → beh σ p k → k = q ∨ Bf (ky σ) q k
theorem nxi.no {σ : St} {p b : Int32} {j : Nat} (h : nxi σ p b j) (c : ¬ (σ 28 j = 2 ∧ beh σ p j)) : nxi σ p b (j + 1) := by
  rcases h with ⟨e, h⟩ | ⟨q, q1, q2, q3, q4, h⟩
  · refine Or.inl ⟨e, fun k hk c1 c2 => ?_⟩
    by_cases z : k = j
    · exact c ⟨by rw [← z]; exact c1, by rw [← z]; exact c2⟩
    · exact h k (by omega) c1 c2
  · refine Or.inr ⟨q, by omega, q2, q3, q4, fun k hk c1 c2 => ?_⟩
    by_cases z : k = j
    · exact absurd ⟨by rw [← z]; exact c1, by rw [← z]; exact c2⟩ c
    · exact h k (by omega) c1 c2
theorem nxi.first {σ : St} {p b : Int32} {j : Nat} (h : nxi σ p b j) (e : b = -1) (hj : j < 2 ^ 31) (c1 : σ 28 j = 2) (c2 : beh σ p j) : nxi σ p (nI j) (j + 1) := by
  rcases h with ⟨_, h⟩ | ⟨q, q1, q2, q3, q4, h⟩
  · refine Or.inr ⟨j, by omega, rfl, c1, c2, fun k hk d1 d2 => ?_⟩
    by_cases z : k = j
    · exact Or.inl z
    · exact absurd d2 (h k (by omega) d1)
  · rw [q2] at e
    exact absurd e (nI_neg1 (by omega))
theorem nxi.old {σ : St} {p : Int32} {j q : Nat} (h : nxi σ p (nI q) j) (hq : q < j) (hj : j < 2 ^ 31) (c : ¬ ky σ j < ky σ q) : nxi σ p (nI q) (j + 1) := by
  rcases h with ⟨e, h⟩ | ⟨q', q1, q2, q3, q4, h⟩
  · exact absurd e (nI_neg1 (by omega))
  · obtain rfl := (nI_eq (by omega) (by omega)).mp q2
    refine Or.inr ⟨q, by omega, rfl, q3, q4, fun k hk d1 d2 => ?_⟩
    by_cases z : k = j
    · subst z
      right
      unfold Bf
      omega
    · exact h k (by omega) d1 d2
theorem nxi.new {σ : St} {p : Int32} {j q : Nat} (h : nxi σ p (nI q) j) (hq : q < j) (hj : j < 2 ^ 31) (c : ky σ j < ky σ q) (c1 : σ 28 j = 2) (c2 : beh σ p j) : nxi σ p (nI j) (j + 1) := by
  rcases h with ⟨e, h⟩ | ⟨q', q1, q2, q3, q4, h⟩
  · exact absurd e (nI_neg1 (by omega))
  · obtain rfl := (nI_eq (by omega) (by omega)).mp q2
    refine Or.inr ⟨j, by omega, rfl, c1, c2, fun k hk d1 d2 => ?_⟩
    by_cases z : k = j
    · exact Or.inl z
    · right
      have f : Bf (ky σ) j q := Or.inl c
      rcases h k (by omega) d1 d2 with e | e
      · rw [e]
        exact f
      · exact f.tr e
theorem nxi.q {σ : St} {p b : Int32} {j : Nat} (h : nxi σ p b j) (e : ¬ b = -1) : ∃ q, q < j ∧ b = nI q := by
  rcases h with ⟨z, _⟩ | ⟨q, q1, q2, _⟩
  · exact absurd z e
  · exact ⟨q, q1, q2⟩
theorem next4 {σ τ : St} {m n c : Nat} (h : RR σ τ m n c) {p : Int32} (hp : p = -1 ∨ ∃ w, w < n ∧ p = nI w) : ∀ (d : Nat) (b : Int32) (j : Nat), d + j = 21 → j ≤ n → nxi σ p b j → nxi σ p (S_X7_nextAfter_4 d τ p b j) n
  | 0, b, j, e, hj, hi => absurd h.n20 (by omega)
  | d + 1, b, j, e, hjn, hi => by
    have h20 := h.n20
    rw [S_X7_nextAfter_4_s, h.nr]
    by_cases c0 : nI n ≤ nI j
    · have : j = n := by
        rw [nI_leI (by omega) (by omega)] at c0
        omega
      rw [if_pos c0, ← this]
      exact hi
    · have hj : j < n := (nI_lt_of (by omega) c0).resolve_right (by omega)
      have go : ∀ b' : Int32, nxi σ p b' (j + 1) → nxi σ p (S_X7_nextAfter_4 d τ p b' (j + 1)) n := fun b' => next4 h hp d b' (j + 1) (by omega) (by omega)
      rw [if_neg c0, (h.gk j hj).2.2.2.1]
      have yes : beh σ p j → nxi σ p (if σ 28 j = 2 then (if b = -1 then S_X7_nextAfter_4 d τ p (nI j) (j + 1) else if 0 ≤ (Op.cmpValue (FP.dcmp (S_X7_clockOf τ (nI j)) (S_X7_clockOf τ b)) CmpOp.g) then S_X7_nextAfter_4 d τ p b (j + 1) else S_X7_nextAfter_4 d τ p (nI j) (j + 1)) else S_X7_nextAfter_4 d τ p b (j + 1)) n := by
        intro hb
        by_cases c1 : σ 28 j = 2
        · rw [if_pos c1]
          by_cases c2 : b = -1
          · rw [if_pos c2]
            exact go _ (hi.first c2 (by omega) c1 hb)
          · obtain ⟨q, hq, rfl⟩ := hi.q c2
            rw [if_neg c2, h.clk hj, h.clk (k := q) (by omega)]
            by_cases c3 : 0 ≤ (Op.cmpValue (FP.dcmp (S_X6_clockLeft σ j) (S_X6_clockLeft σ q)) CmpOp.g)
            · rw [if_pos c3]
              exact go _ (hi.old hq (by omega) ((ky_g σ j q).mp c3))
            · rw [if_neg c3]
              exact go _ (hi.new hq (by omega) (Decidable.byContradiction fun z => c3 ((ky_g σ j q).mpr z)) c1 hb)
        · rw [if_neg c1]
          exact go _ (hi.no (fun z => c1 z.1))
      have nay : ¬ beh σ p j → nxi σ p (S_X7_nextAfter_4 d τ p b (j + 1)) n := fun hb => go _ (hi.no (fun z => hb z.2))
      rcases hp with hp | ⟨w, hw, hp⟩
      · rw [if_pos hp]
        exact yes (Or.inl hp)
      · have hn1 : ¬ p = -1 := by
          rw [hp]
          exact nI_neg1 (by omega)
        have hbw : beh σ p j ↔ Bf (ky σ) w j := by
          constructor
          · rintro (z | ⟨w', _, z, f⟩)
            · exact absurd z hn1
            · rw [hp] at z
              rw [(nI_eq (by omega) (by omega)).mp z]
              exact f
          · exact fun f => Or.inr ⟨w, by omega, hp, f⟩
        have eclk : S_X7_clockOf τ p = S_X6_clockLeft σ w := by
          rw [hp]
          exact h.clk hw
        rw [if_neg hn1]
        rw [eclk, h.clk hj] at *
        by_cases c1 : 0 < (Op.cmpValue (FP.dcmp (S_X6_clockLeft σ j) (S_X6_clockLeft σ w)) CmpOp.l)
        · rw [if_pos c1]
          exact yes (hbw.mpr (Or.inl ((ky_l σ j w).mp c1)))
        · rw [if_neg c1]
          by_cases c2 : (Op.cmpValue (FP.dcmp (S_X6_clockLeft σ j) (S_X6_clockLeft σ w)) CmpOp.l) = 0
          · have ek := (ky_e σ j w).mp c2
            rw [if_pos c2]
            by_cases c3 : nI j ≤ p
            · have hn : ¬ beh σ p j := fun z => by
                have f := hbw.mp z
                rw [hp, nI_leI (by omega) (by omega)] at c3
                unfold Bf at f
                omega
              rw [if_pos c3]
              have := nay hn
              split <;> exact this
            · rw [if_neg c3]
              refine yes (hbw.mpr (Or.inr ⟨ek.symm, ?_⟩))
              rw [hp, nI_leI (by omega) (by omega)] at c3
              omega
          · have hn : ¬ beh σ p j := fun z => by
              have f := hbw.mp z
              have k1 : ¬ ky σ w < ky σ j := fun z => c1 ((ky_l σ j w).mpr z)
              have k2 : ¬ ky σ j = ky σ w := fun z => c2 ((ky_e σ j w).mpr z)
              unfold Bf at f
              omega
            rw [if_neg c2]
            have := nay hn
            split <;> exact this
theorem next_eq {σ τ : St} {m n c : Nat} (h : RR σ τ m n c) {p : Int32} (hp : p = -1 ∨ ∃ w, w < n ∧ p = nI w) : nxi σ p (S_X7_nextAfter τ p) n :=
  next4 h hp 21 (-1) 0 rfl (by omega) (Or.inl ⟨rfl, fun k hk => absurd hk (by omega)⟩)
/-- how far the reference's walk through the queue is -/
def qin (σ : St) (n : Nat) (v : Int32) (j : Nat) : Prop := (v = -1 ∧ ∀ i, i < n → σ 28 i = 2 → rk (ky σ) (cl σ) n i < j) ∨ ∃ q : Nat, q < n ∧ v = nI q ∧ σ 28 q = 2 ∧ rk (ky σ) (cl σ) n q = j
theorem cl_iff {σ : St} {k : Nat} : cl σ k = true ↔ σ 28 k = 2 := decide_eq_true_iff
theorem qin_first {σ τ : St} {m n c : Nat} (h : RR σ τ m n c) : qin σ n (S_X7_nextAfter τ (-1)) 0 := by
  rcases next_eq h (Or.inl rfl) with ⟨e, f⟩ | ⟨q, q1, q2, q3, q4, f⟩
  · exact Or.inl ⟨e, fun i hi b => absurd (Or.inl rfl) (f i hi b)⟩
  · exact Or.inr ⟨q, q1, q2, q3, rk_first (fun k hk b => f k hk (cl_iff.mp b) (Or.inl rfl))⟩
theorem qin_next {σ τ : St} {m n c w j : Nat} (h : RR σ τ m n c) (hw : w < n) (bw : σ 28 w = 2) (ew : rk (ky σ) (cl σ) n w = j) : qin σ n (S_X7_nextAfter τ (nI w)) (j + 1) := by
  have h20 := h.n20
  have hb : ∀ k, Bf (ky σ) w k → beh σ (nI w) k := fun k f => Or.inr ⟨w, by omega, rfl, f⟩
  have hb2 : ∀ k, beh σ (nI w) k → Bf (ky σ) w k := by
    rintro k (z | ⟨w', hw', z, f⟩)
    · exact absurd z (nI_neg1 (by omega))
    · rw [(nI_eq (by omega) (by omega)).mp z]
      exact f
  rcases next_eq h (Or.inr ⟨w, hw, rfl⟩) with ⟨e, f⟩ | ⟨q, q1, q2, q3, q4, f⟩
  · refine Or.inl ⟨e, fun i hi b => ?_⟩
    by_cases z : i = w
    · rw [z, ew]
      omega
    · rcases Bf.tot (K := ky σ) z with g | g
      · have := rk_lt (n := n) hi (cl_iff.mpr b) g
        omega
      · exact absurd (hb i g) (f i hi b)
  · refine Or.inr ⟨q, q1, q2, q3, ?_⟩
    rw [rk_next hw (cl_iff.mpr bw) (hb2 q q4) (fun k hk b g => f k hk (cl_iff.mp b) (hb k g)), ew]
theorem queue32 {σ τ : St} {m n c P : Nat} (h : RR σ τ m n c) (h0 : τ 40 0 = 0) (hP : P < 2 ^ 31) : ∀ (d : Nat) (v : Int32) (j : Nat), d + j = P + 1 → j ≤ P → qin σ n v j → ∃ v' : Int32, S_X7_queue_32 d τ (nI P) v j = (v', τ) ∧ ((v' = -1 ∧ ∀ i, i < n → σ 28 i = 2 → ¬ rk (ky σ) (cl σ) n i = P) ∨ ∃ q : Nat, q < n ∧ v' = nI q ∧ σ 28 q = 2 ∧ rk (ky σ) (cl σ) n q = P)
  | 0, v, j, e, hj, hi => absurd e (by omega)
  | d + 1, v, j, e, hj, hi => by
    have h20 := h.n20
    have e61 : S_X7_queue_61 τ (nI P) v = (v, τ) := by
      unfold S_X7_queue_61
      rw [h0, if_pos (show (0 : Int32) ≤ 0 by decide)]
    rw [S_X7_queue_32_s, h0]
    by_cases c0 : nI P ≤ nI j
    · have : j = P := by
        rw [nI_leI (by omega) (by omega)] at c0
        omega
      subst this
      rw [if_pos c0, e61]
      refine ⟨v, rfl, ?_⟩
      rcases hi with ⟨z, f⟩ | f
      · exact Or.inl ⟨z, fun i hi b q => by have := f i hi b; omega⟩
      · exact Or.inr f
    · have hlt : j < P := by
        rw [nI_leI (by omega) (by omega)] at c0
        omega
      rw [if_neg c0]
      by_cases c1 : v = -1
      · rw [if_pos c1, e61]
        refine ⟨v, rfl, ?_⟩
        rcases hi with ⟨z, f⟩ | ⟨q, q1, q2, _⟩
        · exact Or.inl ⟨z, fun i hi b q => by have := f i hi b; omega⟩
        · rw [q2] at c1
          exact absurd c1 (nI_neg1 (by omega))
      · rw [if_neg c1, if_pos rfl]
        rcases hi with ⟨z, f⟩ | ⟨q, q1, q2, q3, q4⟩
        · exact absurd z c1
        · subst q2
          exact queue32 h h0 hP d _ (j + 1) (by omega) (by omega) (qin_next h q1 q3 q4)
theorem queue16 {σ : St} {n P : Nat} (hn : n ≤ 20) (e1 : σ 1 0 = nI n) (hP : P < 2 ^ 31) {v : Int32} (hv : (v = -1 ∧ ∀ i, i < n → σ 28 i = 2 → ¬ rk (ky σ) (cl σ) n i = P) ∨ ∃ q : Nat, q < n ∧ v = nI q ∧ σ 28 q = 2 ∧ rk (ky σ) (cl σ) n q = P) : ∀ (d j : Nat), d + j = 21 → j ≤ n → (∀ i, i < j → ¬ (σ 28 i = 2 ∧ rk (ky σ) (cl σ) n i = P)) → S_X6_queue_16 d σ (nI P) j = (0, v, σ)
  | 0, j, e, hj, hi => absurd hn (by omega)
  | d + 1, j, e, hjn, hi => by
    rw [S_X6_queue_16_s, e1]
    by_cases c0 : nI n ≤ nI j
    · have : j = n := by
        rw [nI_leI (by omega) (by omega)] at c0
        omega
      subst this
      rw [if_pos c0]
      rcases hv with ⟨z, _⟩ | ⟨q, q1, q2, q3, q4⟩
      · rw [z]
      · exact absurd ⟨q3, q4⟩ (hi q q1)
    · have hj : j < n := (nI_lt_of (by omega) c0).resolve_right (by omega)
      have ep : S_X6_placeInQueue σ (nI j) = nI (rk (ky σ) (cl σ) n j) := place_eq hn e1 hj 21 0 rfl (by omega)
      have hr : rk (ky σ) (cl σ) n j ≤ n := cn_le _ n
      have go : ¬ (σ 28 j = 2 ∧ rk (ky σ) (cl σ) n j = P) → S_X6_queue_16 d σ (nI P) (j + 1) = (0, v, σ) := fun q => queue16 hn e1 hP hv d (j + 1) (by omega) (by omega) (fun i hi2 => by
        by_cases z : i = j
        · rw [z]
          exact q
        · exact hi i (by omega))
      rw [if_neg c0, ep]
      by_cases c1 : σ 28 j = 2
      · rw [if_pos c1]
        by_cases c2 : rk (ky σ) (cl σ) n j = P
        · rw [if_pos (by rw [c2])]
          rcases hv with ⟨z, f⟩ | ⟨q, q1, q2, q3, q4⟩
          · exact absurd c2 (f j hj c1)
          · rw [q2, rk_inj q1 hj (cl_iff.mpr q3) (cl_iff.mpr c1) (q4.trans c2.symm)]
        · rw [if_neg (fun z => c2 ((nI_eq (by omega) hP).mp z))]
          exact go (fun z => c2 z.2)
      · rw [if_neg c1]
        exact go (fun z => c1 z.1)
theorem A_queue {σ τ : St} {m n c : Nat} (h : RR σ τ m n c) (p1 : Int32) : AL σ m n c 1 9 n (S_X6_queue σ p1) (S_X7_queue τ p1) := by
  unfold S_X6_queue S_X7_queue S_X7_queue_10 S_X7_queue_29
  by_cases c1 : p1 < 0
  · rw [if_neg (Int32.not_le.mpr c1), if_pos c1, if_neg (show ¬ (1 : Int32) ≤ 0 by decide), S_X7_queue_32_s, if_pos (show p1 ≤ nI 0 from Int32.le_of_lt c1)]
    unfold S_X7_queue_61
    rw [up2_s, if_neg (show ¬ (1 : Int32) ≤ 0 by decide)]
    exact AL.thr h (by decide) rfl
  · rw [if_pos (Int32.not_lt.mp c1), if_neg c1, if_pos (show (0 : Int32) ≤ 0 by decide)]
    obtain ⟨P, hP, rfl⟩ := nI_of c1
    have k := h.t40 0
    rw [nI_clamp hP]
    obtain ⟨v, e, hv⟩ := queue32 k (up2_s _ _ _ _) hP (P + 1) _ 0 rfl (by omega) (qin_first k)
    rw [e, queue16 h.n20 h.nc hP hv 21 0 rfl (by omega) (fun i hi => absurd hi (by omega))]
    exact AL.ok (up2_s _ _ _ _) rfl (k.lc (by omega))
