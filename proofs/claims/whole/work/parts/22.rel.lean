/-! the class (of σ) and the reference (of τ) alike, group by group -/
def RW (σ τ : St) : Prop := τ 42 0 = σ 2 0 ∧ τ 43 0 = σ 3 0 ∧ τ 44 0 = σ 4 0 ∧ τ 45 0 = σ 5 0 ∧ (σ 3 0 = 0 ∨ σ 3 0 = 1 ∨ σ 3 0 = 2 ∨ σ 3 0 = 3) ∧ ∃ r : Nat, r ≤ 30 ∧ σ 4 0 = nI r
def RM (σ τ : St) (m : Nat) : Prop := m < 300000 ∧ σ 0 0 = nI m ∧ τ 41 0 = nI m
def RT (σ τ : St) (m t : Nat) : Prop := τ 46 t = σ 9 t ∧ τ 47 t = σ 10 t ∧ τ 48 t = σ 11 t ∧ τ 49 t = σ 13 t ∧ GD (σ 9 t) (σ 10 t) ∧ ((σ 12 t = -1 ∧ τ 50 t = -100) ∨ ∃ k : Nat, k ≤ m ∧ σ 12 t = nI k ∧ τ 50 t = nI k)
def RU (σ τ : St) : Prop := τ 51 0 = σ 6 0 ∧ τ 52 0 = σ 7 0 ∧ τ 74 0 = σ 8 0 ∧ ∃ q : Nat, q ≤ 11 ∧ σ 7 0 = nI q
def RF (σ τ : St) : Prop := τ 68 0 = σ 18 0 ∧ (∀ f, f < 3 → τ 53 f = σ 14 f) ∧ ∀ f, f < 3 → ∀ g, g < 4 → τ 54 (4 * f + g) = σ (15 + f) g
def RB (σ τ : St) (m : Nat) : Prop := τ 69 0 = σ 19 0 ∧ τ 70 0 = σ 20 0 ∧ τ 71 0 = σ 21 0 ∧ τ 73 0 = σ 22 0 ∧ ∃ day : Nat, day ≤ m / 1440 ∧ σ 23 0 = nI day ∧ τ 72 0 = if day = m / 1440 then σ 24 0 else 0
def RK (σ τ : St) (c k : Nat) : Prop := τ 56 k = σ 25 k ∧ τ 57 k = σ 26 k ∧ τ 58 k = σ 27 k ∧ τ 59 k = σ 28 k ∧ τ 60 k = σ 29 k ∧ τ 61 k = σ 30 k ∧ τ 62 k = σ 31 k ∧ τ 66 k = σ 33 k ∧ τ 67 k = σ 34 k ∧ τ 65 k = σ 35 k ∧ τ 64 k = σ 36 k ∧ (τ 63 k = if σ 28 k = 1 then σ 32 k else -1) ∧ (∃ j : Nat, j ≤ c ∧ σ 30 k = nI j) ∧ ∃ f : Nat, f < 3 ∧ σ 33 k = nI f
def RN (σ τ : St) (n : Nat) : Prop := ∀ k, n ≤ k → σ 33 k = 0 ∧ τ 59 k = 0 ∧ τ 61 k = 0 ∧ τ 62 k = 0 ∧ τ 64 k = 0 ∧ τ 65 k = 0 ∧ τ 66 k = 0 ∧ τ 67 k = 0
/-- all of it: m minutes, n aircraft, c calls -/
def RR (σ τ : St) (m n c : Nat) : Prop := RM σ τ m ∧ RW σ τ ∧ (∀ t, t < 3 → RT σ τ m t) ∧ RU σ τ ∧ RF σ τ ∧ RB σ τ m ∧ (n ≤ 20 ∧ σ 1 0 = nI n ∧ τ 55 0 = nI n) ∧ (∀ k, k < n → RK σ τ c k) ∧ RN σ τ n
section RCG
variable {σ τ σ' τ' : St} {m n c t k : Nat}
theorem RM.cg (hs : σ' 0 0 = σ 0 0) (ht : τ' 41 0 = τ 41 0) (h : RM σ τ m) : RM σ' τ' m := by
  unfold RM at *
  rw [hs, ht]
  exact h
theorem RW.cg (hs : ∀ f, 2 ≤ f ∧ f ≤ 5 → σ' f 0 = σ f 0) (ht : ∀ f, 42 ≤ f ∧ f ≤ 45 → τ' f 0 = τ f 0) (h : RW σ τ) : RW σ' τ' := by
  unfold RW at *
  rw [hs 2 (by decide), hs 3 (by decide), hs 4 (by decide), hs 5 (by decide), ht 42 (by decide), ht 43 (by decide), ht 44 (by decide), ht 45 (by decide)]
  exact h
theorem RT.cg (hs : ∀ f, 9 ≤ f ∧ f ≤ 13 → σ' f t = σ f t) (ht : ∀ f, 46 ≤ f ∧ f ≤ 50 → τ' f t = τ f t) (h : RT σ τ m t) : RT σ' τ' m t := by
  unfold RT at *
  rw [hs 9 (by decide), hs 10 (by decide), hs 11 (by decide), hs 12 (by decide), hs 13 (by decide), ht 46 (by decide), ht 47 (by decide), ht 48 (by decide), ht 49 (by decide), ht 50 (by decide)]
  exact h
theorem RT.le {m' : Nat} (hm : m ≤ m') (h : RT σ τ m t) : RT σ τ m' t := by
  obtain ⟨a, b, c, d, e, f⟩ := h
  refine ⟨a, b, c, d, e, ?_⟩
  rcases f with f | ⟨k, hk, f⟩
  · exact Or.inl f
  · exact Or.inr ⟨k, Nat.le_trans hk hm, f⟩
theorem RU.cg (hs : ∀ f, 6 ≤ f ∧ f ≤ 8 → σ' f 0 = σ f 0) (ht : ∀ f, f = 51 ∨ f = 52 ∨ f = 74 → τ' f 0 = τ f 0) (h : RU σ τ) : RU σ' τ' := by
  unfold RU at *
  rw [hs 6 (by decide), hs 7 (by decide), hs 8 (by decide), ht 51 (by decide), ht 52 (by decide), ht 74 (by decide)]
  exact h
theorem RF.cg (hs : ∀ f i, 14 ≤ f ∧ f ≤ 18 → σ' f i = σ f i) (ht : ∀ f i, f = 53 ∨ f = 54 ∨ f = 68 → τ' f i = τ f i) (h : RF σ τ) : RF σ' τ' := by
  obtain ⟨a, b, d⟩ := h
  refine ⟨?_, fun f hf => ?_, fun f hf g hg => ?_⟩
  · rw [hs 18 _ (by decide), ht 68 _ (by decide), a]
  · rw [hs 14 _ (by decide), ht 53 _ (by decide), b f hf]
  · rw [hs (15 + f) _ (by omega), ht 54 _ (by decide), d f hf g hg]
theorem RB.cg (hs : ∀ f, 19 ≤ f ∧ f ≤ 24 → σ' f 0 = σ f 0) (ht : ∀ f, 69 ≤ f ∧ f ≤ 73 → τ' f 0 = τ f 0) (h : RB σ τ m) : RB σ' τ' m := by
  unfold RB at *
  rw [hs 19 (by decide), hs 20 (by decide), hs 21 (by decide), hs 22 (by decide), hs 23 (by decide), hs 24 (by decide), ht 69 (by decide), ht 70 (by decide), ht 71 (by decide), ht 72 (by decide), ht 73 (by decide)]
  exact h
theorem RK.cg (hs : ∀ f, 25 ≤ f ∧ f ≤ 36 → σ' f k = σ f k) (ht : ∀ f, 56 ≤ f ∧ f ≤ 67 → τ' f k = τ f k) (h : RK σ τ c k) : RK σ' τ' c k := by
  unfold RK at *
  rw [hs 25 (by decide), hs 26 (by decide), hs 27 (by decide), hs 28 (by decide), hs 29 (by decide), hs 30 (by decide), hs 31 (by decide), hs 32 (by decide), hs 33 (by decide), hs 34 (by decide), hs 35 (by decide), hs 36 (by decide), ht 56 (by decide), ht 57 (by decide), ht 58 (by decide), ht 59 (by decide), ht 60 (by decide), ht 61 (by decide), ht 62 (by decide), ht 63 (by decide), ht 64 (by decide), ht 65 (by decide), ht 66 (by decide), ht 67 (by decide)]
  exact h
theorem RK.le {c' : Nat} (hc : c ≤ c') (h : RK σ τ c k) : RK σ τ c' k := by
  obtain ⟨h1, h2, h3, h4, h5, h6, h7, h8, h9, h10, h11, h12, ⟨j, hj, e⟩, h14⟩ := h
  exact ⟨h1, h2, h3, h4, h5, h6, h7, h8, h9, h10, h11, h12, ⟨j, Nat.le_trans hj hc, e⟩, h14⟩
theorem RN.cg (hs : ∀ i, n ≤ i → σ' 33 i = σ 33 i) (ht : ∀ f i, n ≤ i → 59 ≤ f ∧ f ≤ 67 → τ' f i = τ f i) (h : RN σ τ n) : RN σ' τ' n := by
  intro k hk
  have := h k hk
  rw [hs _ hk, ht 59 _ hk (by decide), ht 61 _ hk (by decide), ht 62 _ hk (by decide), ht 64 _ hk (by decide), ht 65 _ hk (by decide), ht 66 _ hk (by decide), ht 67 _ hk (by decide)]
  exact this
end RCG
/-! readers -/
theorem nI_neg1 {k : Nat} (h : k < 2 ^ 31) : ¬ nI k = -1 := fun q => by
  have := congrArg Int32.toInt q
  rw [nI_toInt h] at this
  have e : (-1 : Int32).toInt = -1 := by decide
  omega
theorem lies_eq {σ τ : St} {m t : Nat} (ht : t < 3) (w : RW σ τ) (h : RT σ τ m t) : S_X7_lies τ (nI t) = S_X4_codeOfWhatLies σ t := by
  unfold S_X7_lies S_X4_codeOfWhatLies S_X4_codeOfWhatLies_14
  rw [nI_ix ht (by decide), h.1, h.2.1, w.1]
  rcases h.2.2.2.2.1.1 with c | c | c | c <;> rw [c] <;> by_cases c1 : (-30 : Int32) ≤ σ 2 0 <;> by_cases c2 : (30 : Int32) < σ 10 t <;> simp (config := { decide := true }) only [c1, c2, if_true, if_false]
theorem code_eq {σ τ : St} {m t : Nat} (ht : t < 3) (hm : RM σ τ m) (w : RW σ τ) (h : RT σ τ m t) : S_X7_codeOf τ (nI t) = S_X4_codeAt σ t (σ 0 0) := by
  unfold S_X7_codeOf S_X4_codeAt S_X4_codeAt_30
  rw [lies_eq ht w h, nI_ix ht (by decide), hm.2.2, hm.2.1]
  rcases h.2.2.2.2.2 with ⟨e1, e2⟩ | ⟨k, hk, e1, e2⟩
  · rw [e1, e2, if_pos rfl, if_pos rfl]
    have e : nI m - (-100) = nI (m + 100) := by
      rw [← nI_add m 100, Int32.sub_eq_add_neg]
      rfl
    rw [e, if_pos (show (30 : Int32) < nI (m + 100) from nI_lt (a := 30) (b := m + 100) (by omega) (by have := hm.1; omega))]
  · rw [e1, e2, if_neg (nI_neg1 (by have := hm.1; omega)), h.2.2.2.1]
    by_cases c : (30 : Int32) < nI m - nI k
    · rw [if_pos c, if_pos c, if_pos rfl]
    · rw [if_neg c, if_neg c, if_neg (show ¬ (1 : Int32) = 0 by decide)]
theorem enough41 {σ τ : St} {m : Nat} (hm : RM σ τ m) (w : RW σ τ) (h : ∀ t, t < 3 → RT σ τ m t) (v : Int32) : S_X7_areEnough_41 τ v = S_X3_codesSufficeAt_8 4 σ (σ 0 0) v 0 := by
  unfold S_X7_areEnough_41
  rw [show (0 : Int32) = nI 0 from rfl, show (1 : Int32) = nI 1 from rfl, show (2 : Int32) = nI 2 from rfl, code_eq (by decide) hm w (h 0 (by decide)), code_eq (by decide) hm w (h 1 (by decide)), code_eq (by decide) hm w (h 2 (by decide))]
  rw [S_X3_codesSufficeAt_8_s, S_X3_codesSufficeAt_8_s, S_X3_codesSufficeAt_8_s, S_X3_codesSufficeAt_8_s]
  simp only [Nat.zero_add, show ¬ (3 : Int32) ≤ nI 0 by decide, show ¬ (3 : Int32) ≤ nI 1 by decide, show ¬ (3 : Int32) ≤ nI (1 + 1) by decide, show (3 : Int32) ≤ nI (1 + 1 + 1) by decide, if_true, if_false, show 1 + 1 = 2 from rfl]
  by_cases c0 : S_X4_codeAt σ 0 (σ 0 0) < v
  · rw [if_pos c0, if_neg (Int32.not_le.mpr c0)]
    rfl
  · rw [if_neg c0, if_pos (Int32.not_lt.mp c0)]
    by_cases c1 : S_X4_codeAt σ 1 (σ 0 0) < v
    · rw [if_pos c1, if_neg (Int32.not_le.mpr c1)]
      rfl
    · rw [if_neg c1, if_pos (Int32.not_lt.mp c1)]
      by_cases c2 : S_X4_codeAt σ 2 (σ 0 0) < v
      · rw [if_pos c2, if_neg (Int32.not_le.mpr c2)]
        rfl
      · rw [if_neg c2, if_pos (Int32.not_lt.mp c2)]
        rfl
theorem enough_eq {σ τ : St} {m : Nat} (hm : RM σ τ m) (w : RW σ τ) (h : ∀ t, t < 3 → RT σ τ m t) : S_X7_areEnough τ = S_X3_codesSufficeAt σ (σ 0 0) := by
  unfold S_X7_areEnough S_X3_codesSufficeAt S_X5_codeNeeded
  rw [enough41 hm w h, enough41 hm w h, enough41 hm w h, enough41 hm w h, w.2.2.2.1]
  (repeat' split) <;> rfl
theorem closed_eq {σ τ : St} {m : Nat} (hm : RM σ τ m) (u : RU σ τ) : S_X7_isClosed τ = S_X3_isClosedAt σ (σ 0 0) := by
  unfold S_X7_isClosed S_X3_isClosedAt
  rw [u.1, hm.2.1, hm.2.2]
theorem sprayed_eq {σ τ : St} {m t : Nat} (ht : t < 3) (hm : RM σ τ m) (h : RT σ τ m t) : S_X7_isSprayed τ (nI t) = S_X4_isSprayedAt σ t (σ 0 0) := by
  unfold S_X7_isSprayed S_X4_isSprayedAt
  rw [nI_ix ht (by decide), h.2.2.1, hm.2.1, hm.2.2]
theorem clock_eq {σ τ : St} {m c k : Nat} (hk : k < 20) (hm : RM σ τ m) (w : RW σ τ) (hf : RF σ τ) (h : RK σ τ c k) : S_X7_clockOf τ (nI k) = S_X6_clockLeft σ k := by
  obtain ⟨h1, h2, h3, h4, h5, h6, h7, h8, h9, h10, h11, h12, h13, f, hf3, ef⟩ := h
  unfold S_X7_clockOf S_X7_clockOf_42 S_X7_clockOf_79 S_X6_clockLeft S_X2_holdsFor S_X5_holdFactor
  rw [nI_ix hk (by decide), h8, h9, h10, hm.2.2, hm.2.1, w.1, w.2.1, ef, nI_ix hf3 (by decide)]
  by_cases c0 : σ 3 0 = 0
  · rw [if_pos c0, if_pos c0]
  · rw [if_neg c0, if_neg c0]
    have e : τ 54 ((4 * nI f + σ 3 0).toNatClampNeg) = σ (15 + f) (σ 3 0).toNatClampNeg := by
      have key : ∀ g : Nat, g < 4 → σ 3 0 = nI g → τ 54 ((4 * nI f + σ 3 0).toNatClampNeg) = σ (15 + f) (σ 3 0).toNatClampNeg := by
        intro g hg eg
        rw [eg, nI_ix hg (by decide), ← hf.2.2 f hf3 g hg]
        congr 1
        rw [show (4 : Int32) * nI f = nI (4 * f) from (Int32.ofNat_mul 4 f).symm, nI_add, nI_clamp (by omega)]
      rcases w.2.2.2.2.1 with q | q | q | q
      · exact key 0 (by decide) q
      · exact key 1 (by decide) q
      · exact key 2 (by decide) q
      · exact key 3 (by decide) q
    rw [e]
    (repeat' split) <;> rfl
theorem free_eq {σ τ : St} {n c : Nat} (hn : n ≤ 20) (e1 : σ 1 0 = nI n) (e2 : τ 55 0 = nI n) (h : ∀ k, k < n → RK σ τ c k) {p : Int32} (hp : ¬ p = -1) : ∀ (d j : Nat), d + j = 21 → S_X7_isFree_4 d τ p 1 j = S_X6_padIsFree_2 d σ p j ∧ S_X7_isFree_4 d τ p 0 j = 0
  | 0, j, _ => ⟨rfl, rfl⟩
  | d + 1, j, e => by
    obtain ⟨i1, i0⟩ := free_eq hn e1 e2 h hp d (j + 1) (by omega)
    rw [S_X7_isFree_4_s, S_X7_isFree_4_s, S_X6_padIsFree_2_s, e1, e2]
    by_cases c0 : nI n ≤ nI j
    · exact ⟨by rw [if_pos c0, if_pos c0], by rw [if_pos c0]⟩
    · have hj : j < n := Nat.lt_of_not_le fun q => c0 (nI_le q (by omega))
      obtain ⟨h1, h2, h3, h4, h5, h6, h7, h8, h9, h10, h11, h12, h13⟩ := h j hj
      rw [if_neg c0, if_neg c0, if_neg c0, if_neg (by decide), if_pos rfl, h12]
      refine ⟨?_, i0⟩
      by_cases c1 : σ 28 j = 1
      · rw [if_pos c1, if_pos c1, i1, i0]
      · rw [if_neg c1, if_neg c1, if_neg (fun q => hp q.symm), i1]
