/-! a minute of both -/
section RRC
variable {σ τ σ' τ' : St} {m n c t k : Nat}
/-- one aircraft of both changes -/
theorem RR.air (h : RR σ τ m n c) (hs : ∀ f i, ¬ (25 ≤ f ∧ f ≤ 36 ∧ i = k) → σ' f i = σ f i) (ht : ∀ f i, ¬ (56 ≤ f ∧ f ≤ 67 ∧ i = k) → τ' f i = τ f i) (hk : k < n) (h' : RK σ' τ' c k) : RR σ' τ' m n c := by
  obtain ⟨h1, h2, h3, h4, h5, h6, ⟨n1, n2, n3⟩, h8, h9⟩ := h
  refine ⟨h1.cg (hs _ _ (by omega)) (ht _ _ (by omega)), h2.cg (fun f q => hs _ _ (by omega)) (fun f q => ht _ _ (by omega)), fun t q => (h3 t q).cg (fun f q => hs _ _ (by omega)) (fun f q => ht _ _ (by omega)), h4.cg (fun f q => hs _ _ (by omega)) (fun f q => ht _ _ (by omega)), h5.cg (fun f i q => hs _ _ (by omega)) (fun f i q => ht _ _ (by omega)), h6.cg (fun f q => hs _ _ (by omega)) (fun f q => ht _ _ (by omega)), ⟨n1, (hs _ _ (by omega)).trans n2, (ht _ _ (by omega)).trans n3⟩, fun j q => ?_, h9.cg (fun i q => hs _ _ (by omega)) (fun f i q1 q => ht _ _ (by omega))⟩
  by_cases e : j = k
  · rw [e]
    exact h'
  · exact (h8 j q).cg (fun f q => hs _ _ (by omega)) (fun f q => ht _ _ (by omega))
/-- one third of both changes -/
theorem RR.third (h : RR σ τ m n c) (ht : t < 3) {c' d' : Int32} (g : GD c' d') : RR (WC σ t c' d') (WR τ t c' d') m n c := by
  have hs : ∀ f i, ¬ ((f = 9 ∨ f = 10) ∧ i = t) → WC σ t c' d' f i = σ f i := by
    intro f i q
    unfold WC up2
    rw [if_neg (by omega), if_neg (by omega)]
  have hq : ∀ f i, ¬ ((f = 46 ∨ f = 47) ∧ i = t) → WR τ t c' d' f i = τ f i := by
    intro f i q
    unfold WR up2
    rw [if_neg (by omega), if_neg (by omega)]
  obtain ⟨h1, h2, h3, h4, h5, h6, ⟨n1, n2, n3⟩, h8, h9⟩ := h
  refine ⟨h1.cg (hs _ _ (by omega)) (hq _ _ (by omega)), h2.cg (fun f q => hs _ _ (by omega)) (fun f q => hq _ _ (by omega)), fun j q => ?_, h4.cg (fun f q => hs _ _ (by omega)) (fun f q => hq _ _ (by omega)), h5.cg (fun f i q => hs _ _ (by omega)) (fun f i q => hq _ _ (by omega)), h6.cg (fun f q => hs _ _ (by omega)) (fun f q => hq _ _ (by omega)), ⟨n1, (hs _ _ (by omega)).trans n2, (hq _ _ (by omega)).trans n3⟩, fun j q => (h8 j q).cg (fun f q => hs _ _ (by omega)) (fun f q => hq _ _ (by omega)), h9.cg (fun i q => hs _ _ (by omega)) (fun f i q1 q => hq _ _ (by omega))⟩
  by_cases e : j = t
  · subst e
    obtain ⟨a1, a2, a3, a4, a5, a6⟩ := h3 j q
    unfold RT
    rw [WC_9, WC_10, WR_46, WR_47, WC_o _ _ _ _ (f := 11) (by decide) (by decide), WC_o _ _ _ _ (f := 12) (by decide) (by decide), WC_o _ _ _ _ (f := 13) (by decide) (by decide), WR_o _ _ _ _ (f := 48) (by decide) (by decide), WR_o _ _ _ _ (f := 49) (by decide) (by decide), WR_o _ _ _ _ (f := 50) (by decide) (by decide)]
    exact ⟨rfl, rfl, a3, a4, g, a6⟩
  · exact (h3 j q).cg (fun f q => hs _ _ (by omega)) (fun f q => hq _ _ (by omega))
/-- the heap of both grows -/
theorem RR.heap (h : RR σ τ m n c) (v : Int32) : RR (up2 σ 8 0 v) (up2 τ 74 0 v) m n c := by
  have hs : ∀ f i, f ≠ 8 → up2 σ 8 0 v f i = σ f i := fun f i q => up2_f q _ _ _ _
  have hq : ∀ f i, f ≠ 74 → up2 τ 74 0 v f i = τ f i := fun f i q => up2_f q _ _ _ _
  obtain ⟨h1, h2, h3, ⟨u1, u2, u3, u4⟩, h5, h6, ⟨n1, n2, n3⟩, h8, h9⟩ := h
  exact ⟨h1.cg (hs _ _ (by omega)) (hq _ _ (by omega)), h2.cg (fun f q => hs _ _ (by omega)) (fun f q => hq _ _ (by omega)), fun j q => (h3 j q).cg (fun f q => hs _ _ (by omega)) (fun f q => hq _ _ (by omega)), ⟨u1, u2, (up2_s _ _ _ _).trans (up2_s _ _ _ _).symm, u4⟩, h5.cg (fun f i q => hs _ _ (by omega)) (fun f i q => hq _ _ (by omega)), h6.cg (fun f q => hs _ _ (by omega)) (fun f q => hq _ _ (by omega)), ⟨n1, (hs _ _ (by omega)).trans n2, (hq _ _ (by omega)).trans n3⟩, fun j q => (h8 j q).cg (fun f q => hs _ _ (by omega)) (fun f q => hq _ _ (by omega)), h9.cg (fun i q => hs _ _ (by omega)) (fun f i q1 q => hq _ _ (by omega))⟩
/-- an aircraft of both becomes something else -/
theorem RR.st (h : RR σ τ m n c) (hk : k < n) (hs : ∀ f i, ¬ (f = 28 ∧ i = k) → ¬ (f = 29 ∧ i = k) → σ' f i = σ f i) (ht : ∀ f i, ¬ (f = 59 ∧ i = k) → ¬ (f = 60 ∧ i = k) → ¬ (f = 63 ∧ i = k) → τ' f i = τ f i) (e1 : τ' 59 k = σ' 28 k) (e2 : τ' 60 k = σ' 29 k) (e3 : τ' 63 k = if σ' 28 k = 1 then σ 32 k else -1) : RR σ' τ' m n c := by
  refine h.air (fun f i q => hs f i (by omega) (by omega)) (fun f i q => ht f i (by omega) (by omega) (by omega)) hk ?_
  obtain ⟨h1, h2, h3, h4, h5, h6, h7, h8, h9, h10, h11, h12, h13, h14⟩ := h.2.2.2.2.2.2.2.1 k hk
  unfold RK
  rw [hs 25 k (by omega) (by omega), hs 26 k (by omega) (by omega), hs 27 k (by omega) (by omega), hs 30 k (by omega) (by omega), hs 31 k (by omega) (by omega), hs 32 k (by omega) (by omega), hs 33 k (by omega) (by omega), hs 34 k (by omega) (by omega), hs 35 k (by omega) (by omega), hs 36 k (by omega) (by omega), ht 56 k (by omega) (by omega) (by omega), ht 57 k (by omega) (by omega) (by omega), ht 58 k (by omega) (by omega) (by omega), ht 61 k (by omega) (by omega) (by omega), ht 62 k (by omega) (by omega) (by omega), ht 64 k (by omega) (by omega) (by omega), ht 65 k (by omega) (by omega) (by omega), ht 66 k (by omega) (by omega) (by omega), ht 67 k (by omega) (by omega) (by omega)]
  exact ⟨h1, h2, h3, e1, e2, h6, h7, h8, h9, h10, h11, e3, h13, h14⟩
theorem RR.gm (h : RR σ τ m n c) : RM σ τ m := h.1
theorem RR.gw (h : RR σ τ m n c) : RW σ τ := h.2.1
theorem RR.gt (h : RR σ τ m n c) : ∀ t, t < 3 → RT σ τ m t := h.2.2.1
theorem RR.gu (h : RR σ τ m n c) : RU σ τ := h.2.2.2.1
theorem RR.gf (h : RR σ τ m n c) : RF σ τ := h.2.2.2.2.1
theorem RR.gb (h : RR σ τ m n c) : RB σ τ m := h.2.2.2.2.2.1
theorem RR.n20 (h : RR σ τ m n c) : n ≤ 20 := h.2.2.2.2.2.2.1.1
theorem RR.nc (h : RR σ τ m n c) : σ 1 0 = nI n := h.2.2.2.2.2.2.1.2.1
theorem RR.nr (h : RR σ τ m n c) : τ 55 0 = nI n := h.2.2.2.2.2.2.1.2.2
theorem RR.gk (h : RR σ τ m n c) : ∀ k, k < n → RK σ τ c k := h.2.2.2.2.2.2.2.1
theorem RR.clk (h : RR σ τ m n c) (hk : k < n) : S_X7_clockOf τ (nI k) = S_X6_clockLeft σ k := clock_eq (Nat.lt_of_lt_of_le hk h.n20) h.gm h.gw h.gf (h.gk k hk)
theorem RR.enough (h : RR σ τ m n c) : S_X7_areEnough τ = S_X3_codesSufficeAt σ (σ 0 0) := enough_eq h.gm h.gw h.gt
theorem RR.closed (h : RR σ τ m n c) : S_X7_isClosed τ = S_X3_isClosedAt σ (σ 0 0) := closed_eq h.gm h.gu
theorem nI_lt_of {j n : Nat} (hn : n < 2 ^ 31) (c : ¬ nI n ≤ nI j) : j < n ∨ 2 ^ 31 ≤ j := by
  by_cases q : 2 ^ 31 ≤ j
  · exact Or.inr q
  · exact Or.inl (Nat.lt_of_not_le fun q2 => c (nI_le q2 (by omega)))
end RRC
/-! the aircraft that leaves -/
theorem leave73 {σ τ : St} {m n c : Nat} (h : RR σ τ m n c) {v : Int32} (hv : v = -1 ∨ ∃ q : Nat, q < n ∧ v = nI q ∧ σ 28 q = 2) : RR (S_X6_letOneLeave_73 σ v) (S_X7_leaves_66 τ v) m n c := by
  unfold S_X6_letOneLeave_73 S_X7_leaves_66
  rcases hv with rfl | ⟨q, hq, rfl, e⟩
  · rw [if_pos rfl, if_pos rfl]
    exact h
  · have h20 := h.n20
    rw [if_neg (nI_neg1 (by omega)), if_neg (nI_neg1 (by omega)), nI_clamp (by omega)]
    refine h.st hq (fun f i q1 q2 => ?_) (fun f i q1 q2 q3 => ?_) ?_ ?_ ?_
    · unfold up2
      rw [if_neg q2, if_neg q1]
    · unfold up2
      rw [if_neg q2, if_neg q1]
    · rw [up2_f (by decide), up2_s, up2_f (by decide), up2_s]
    · rw [up2_s, up2_s, h.gm.2.1, h.gm.2.2]
    · rw [up2_f (by decide), up2_f (by decide), up2_f (f := 29) (by decide), up2_s, if_neg (by decide), (h.gk q hq).2.2.2.2.2.2.2.2.2.2.2.1, e, if_neg (by decide)]
theorem ahead_eq {σ : St} {j q : Nat} (hq : q < j) (hj : j < 2 ^ 31) : S_X6_goesAhead σ (nI j) (nI q) = if 0 ≤ (Op.cmpValue (FP.dcmp (S_X6_clockLeft σ j) (S_X6_clockLeft σ q)) CmpOp.g) then 0 else 1 := by
  unfold S_X6_goesAhead
  rw [nI_clamp hj, nI_clamp (by omega), if_pos (show nI q ≤ nI j from nI_le (by omega) hj)]
  by_cases c : (Op.cmpValue (FP.dcmp (S_X6_clockLeft σ j) (S_X6_clockLeft σ q)) CmpOp.g) < 0
  · rw [if_pos c, if_neg (Int32.not_le.mpr c)]
  · rw [if_neg c, if_pos (Int32.not_lt.mp c)]
    split <;> rfl
theorem leave4 {σ τ : St} {m n c : Nat} (h : RR σ τ m n c) : ∀ (d : Nat) (v : Int32) (j : Nat), d + j = 21 → (v = -1 ∨ ∃ q : Nat, q < n ∧ q < j ∧ v = nI q ∧ σ 28 q = 2) → RR (S_X6_letOneLeave_4 d σ v j) (S_X7_leaves_4 d τ v j) m n c
  | 0, v, j, _, _ => h
  | d + 1, v, j, e, hv => by
    have h20 := h.n20
    rw [S_X6_letOneLeave_4_s, S_X7_leaves_4_s, h.nc, h.nr]
    by_cases c0 : nI n ≤ nI j
    · rw [if_pos c0, if_pos c0]
      exact leave73 h (hv.imp id (fun ⟨q, a, _, b⟩ => ⟨q, a, b⟩))
    · have hj : j < n := (nI_lt_of (by omega) c0).resolve_right (by omega)
      have hv1 : v = -1 ∨ ∃ q : Nat, q < n ∧ q < j + 1 ∧ v = nI q ∧ σ 28 q = 2 := hv.imp id (fun ⟨q, a, b, b2⟩ => ⟨q, a, by omega, b2⟩)
      obtain ⟨h1, h2, h3, h4, h5⟩ := h.gk j hj
      rw [if_neg c0, if_neg c0, h4, h2, h.gm.2.2, h.gm.2.1]
      by_cases c1 : σ 28 j = 2
      · rw [if_pos c1, if_pos c1]
        have hw : (nI j = -1 ∨ ∃ q : Nat, q < n ∧ q < j + 1 ∧ nI j = nI q ∧ σ 28 q = 2) := Or.inr ⟨j, hj, by omega, rfl, c1⟩
        by_cases c2 : nI m < σ 26 j
        · rw [if_pos c2, if_pos c2]
          exact leave4 h d v (j + 1) (by omega) hv1
        · rw [if_neg c2, if_neg c2]
          by_cases c3 : v = -1
          · rw [if_pos c3, if_pos c3]
            exact leave4 h d (nI j) (j + 1) (by omega) hw
          · rw [if_neg c3, if_neg c3]
            obtain ⟨q, q1, q2, rfl, q3⟩ := hv.resolve_left c3
            rw [ahead_eq q2 (by omega), h.clk hj, h.clk q1]
            by_cases c4 : 0 ≤ (Op.cmpValue (FP.dcmp (S_X6_clockLeft σ j) (S_X6_clockLeft σ q)) CmpOp.g)
            · rw [if_pos c4, if_pos c4, if_pos rfl]
              exact leave4 h d _ (j + 1) (by omega) hv1
            · rw [if_neg c4, if_neg c4, if_neg (by decide)]
              exact leave4 h d _ (j + 1) (by omega) hw
      · rw [if_neg c1, if_neg c1]
        exact leave4 h d v (j + 1) (by omega) hv1
theorem min226 {σ τ : St} {m n c : Nat} (h : RR σ τ m n c) : RR (S_X6_liveMinute_44 σ) (S_X7_minute_226 τ) m n c := by
  unfold S_X6_liveMinute_44 S_X7_minute_226 S_X3_isUsableAt
  rw [h.closed, h.enough]
  by_cases c0 : S_X3_isClosedAt σ (σ 0 0) = 0
  · rw [if_pos c0, if_pos c0]
    by_cases c1 : S_X3_codesSufficeAt σ (σ 0 0) = 0
    · rw [if_pos c1, if_pos c1, if_pos rfl]
      exact h
    · rw [if_neg c1, if_neg c1, if_neg (by decide)]
      exact leave4 h 21 (-1) 0 rfl (Or.inl rfl)
  · rw [if_neg c0, if_neg c0, if_pos rfl]
    exact h
theorem min176 {m n c : Nat} : ∀ (d : Nat) (σ τ : St) (j : Nat), d + j = 21 → j ≤ n → RR σ τ m n c → RR (S_X6_liveMinute_44 (S_X6_sendBackWithoutClock_2 d σ j)) (S_X7_minute_176 d τ j) m n c
  | 0, σ, τ, j, e, hjn, h => absurd h.n20 (by omega)
  | d + 1, σ, τ, j, e, hjn, h => by
    have h20 := h.n20
    rw [S_X6_sendBackWithoutClock_2_s, S_X7_minute_176_s, h.nc, h.nr]
    by_cases c0 : nI n ≤ nI j
    · rw [if_pos c0, if_pos c0]
      exact min226 h
    · have hj : j < n := (nI_lt_of (by omega) c0).resolve_right (by omega)
      obtain ⟨h1, h2, h3, h4, h5⟩ := h.gk j hj
      rw [if_neg c0, if_neg c0, h.clk hj, up2_self, h4]
      by_cases c1 : σ 28 j = 2
      · rw [if_pos c1, if_pos c1]
        by_cases c2 : 0 ≤ (Op.cmpValue (FP.dcmp (S_X6_clockLeft σ j) FP.dconst0) CmpOp.g)
        · rw [if_pos c2, if_pos c2]
          exact min176 d σ τ (j + 1) (by omega) (by omega) h
        · rw [if_neg c2, if_neg c2]
          refine min176 d _ _ (j + 1) (by omega) (by omega) (h.st hj (fun f i q1 q2 => ?_) (fun f i q1 q2 q3 => ?_) ?_ ?_ ?_)
          · exact if_neg q1
          · exact if_neg q1
          · rw [up2_s, up2_s]
          · rw [up2_f (by decide), up2_f (by decide), h5.1]
          · rw [up2_f (by decide), up2_s, if_neg (by decide), h5.2.2.2.2.2.2.2.1, c1, if_neg (by decide)]
      · rw [if_neg c1, if_neg c1]
        exact min176 d σ τ (j + 1) (by omega) (by omega) h
theorem over_eq (σ : St) (j : Nat) : (S_X0_isOver σ j = 0) ↔ ¬ σ 28 j = 3 ∧ ¬ σ 28 j = 4 := by
  unfold S_X0_isOver
  by_cases c3 : σ 28 j = 3
  · rw [if_pos c3]
    exact ⟨fun q => absurd q (by decide), fun q => absurd c3 q.1⟩
  · by_cases c4 : σ 28 j = 4
    · rw [if_neg c3, if_pos c4]
      exact ⟨fun q => absurd q (by decide), fun q => absurd c4 q.2⟩
    · rw [if_neg c3, if_neg c4]
      exact ⟨fun _ => ⟨c3, c4⟩, fun _ => rfl⟩
theorem min122 {m n c : Nat} : ∀ (d : Nat) (σ τ : St) (j : Nat), d + j = 21 → j ≤ n → RR σ τ m n c → RR (S_X6_liveMinute_44 (S_X6_sendBackWithoutClock (S_X6_cancelBehindDuty_2 d σ j))) (S_X7_minute_122 d τ j) m n c
  | 0, σ, τ, j, e, hjn, h => absurd h.n20 (by omega)
  | d + 1, σ, τ, j, e, hjn, h => by
    have h20 := h.n20
    rw [S_X6_cancelBehindDuty_2_s, S_X7_minute_122_s, h.nc, h.nr]
    by_cases c0 : nI n ≤ nI j
    · rw [if_pos c0, if_pos c0]
      exact min176 21 σ τ 0 rfl (by omega) h
    · have hj : j < n := (nI_lt_of (by omega) c0).resolve_right (by omega)
      obtain ⟨h1, h2, h3, h4, h5⟩ := h.gk j hj
      rw [if_neg c0, if_neg c0, h3, h4, h.gm.2.1, h.gm.2.2]
      by_cases c1 : S_X0_isOver σ j = 0
      · obtain ⟨c3, c4⟩ := (over_eq σ j).mp c1
        rw [if_pos c1, if_neg c3, if_neg c4]
        by_cases c2 : nI m ≤ σ 27 j
        · rw [if_pos c2, if_pos c2]
          exact min122 d σ τ (j + 1) (by omega) (by omega) h
        · rw [if_neg c2, if_neg c2]
          unfold S_X7_cancels
          rw [nI_clamp (by omega)]
          refine min122 d _ _ (j + 1) (by omega) (by omega) (h.st hj (fun f i q1 q2 => ?_) (fun f i q1 q2 q3 => ?_) ?_ ?_ ?_)
          · exact if_neg q1
          · exact (if_neg q3).trans (if_neg q1)
          · rw [up2_f (by decide), up2_s, up2_s]
          · rw [up2_f (by decide), up2_f (by decide), up2_f (by decide), h5.1]
          · rw [up2_s, up2_s, if_neg (by decide)]
      · rw [if_neg c1]
        by_cases c3 : σ 28 j = 3
        · rw [if_pos c3]
          exact min122 d σ τ (j + 1) (by omega) (by omega) h
        · have c4 : σ 28 j = 4 := Decidable.byContradiction fun q => c1 ((over_eq σ j).mpr ⟨c3, q⟩)
          rw [if_neg c3, if_pos c4]
          exact min122 d σ τ (j + 1) (by omega) (by omega) h
theorem RR.basin {σ τ : St} {m n c : Nat} (h : RR σ τ m n c) (a b : Int32) : RR (up2 (up2 σ 19 0 a) 20 0 b) (up2 (up2 τ 69 0 a) 70 0 b) m n c := by
  have hs : ∀ f i, f ≠ 19 ∧ f ≠ 20 → up2 (up2 σ 19 0 a) 20 0 b f i = σ f i := fun f i q => (up2_f q.2 _ _ _ _).trans (up2_f q.1 _ _ _ _)
  have hq : ∀ f i, f ≠ 69 ∧ f ≠ 70 → up2 (up2 τ 69 0 a) 70 0 b f i = τ f i := fun f i q => (up2_f q.2 _ _ _ _).trans (up2_f q.1 _ _ _ _)
  obtain ⟨h1, h2, h3, h4, h5, ⟨b1, b2, b3, b4, b5⟩, ⟨n1, n2, n3⟩, h8, h9⟩ := h
  refine ⟨h1.cg (hs _ _ (by omega)) (hq _ _ (by omega)), h2.cg (fun f q => hs _ _ (by omega)) (fun f q => hq _ _ (by omega)), fun j q => (h3 j q).cg (fun f q => hs _ _ (by omega)) (fun f q => hq _ _ (by omega)), h4.cg (fun f q => hs _ _ (by omega)) (fun f q => hq _ _ (by omega)), h5.cg (fun f i q => hs _ _ (by omega)) (fun f i q => hq _ _ (by omega)), ⟨?_, ?_, ?_, ?_, ?_⟩, ⟨n1, (hs _ _ (by omega)).trans n2, (hq _ _ (by omega)).trans n3⟩, fun j q => (h8 j q).cg (fun f q => hs _ _ (by omega)) (fun f q => hq _ _ (by omega)), h9.cg (fun i q => hs _ _ (by omega)) (fun f i q1 q => hq _ _ (by omega))⟩
  · rw [up2_f (by decide), up2_s, up2_f (by decide), up2_s]
  · rw [up2_s, up2_s]
  · rw [hs 21 _ (by decide), hq 71 _ (by decide), b3]
  · rw [hs 22 _ (by decide), hq 73 _ (by decide), b4]
  · rw [hs 23 _ (by decide), hs 24 _ (by decide), hq 72 _ (by decide)]
    exact b5
theorem min83 {σ τ : St} {m n c : Nat} (h : RR σ τ m n c) : RR (S_X6_liveMinute_44 (S_X6_sendBackWithoutClock (S_X6_cancelBehindDuty (S_X1_cleanMinute σ)))) (S_X7_minute_83 τ) m n c := by
  have go : ∀ v : Int32, RR (S_X6_liveMinute_44 (S_X6_sendBackWithoutClock (S_X6_cancelBehindDuty (up2 (up2 σ 19 0 (σ 19 0 - v)) 20 0 (σ 20 0 + v))))) (S_X7_minute_99 τ v) m n c := by
    intro v
    unfold S_X7_minute_99
    rw [h.gb.1, h.gb.2.1]
    exact min122 21 _ _ 0 rfl (by omega) (h.basin _ _)
  unfold S_X7_minute_83 S_X1_cleanMinute
  rw [h.gb.1]
  by_cases c0 : 3 < σ 19 0
  · rw [if_pos c0, if_pos (Int32.le_of_lt c0)]
    exact go 3
  · rw [if_neg c0]
    by_cases c1 : 3 ≤ σ 19 0
    · rw [if_pos c1, Int32.le_antisymm (Int32.not_lt.mp c0) c1]
      have := go 3
      rw [← Int32.le_antisymm (Int32.not_lt.mp c0) c1] at this
      rw [← Int32.le_antisymm (Int32.not_lt.mp c0) c1]
      exact this
    · rw [if_neg c1]
      exact go _
theorem min64 {m n c : Nat} : ∀ (d : Nat) (σ τ : St) (j : Nat), d + j = 21 → j ≤ n → RR σ τ m n c → RR (S_X6_liveMinute_44 (S_X6_sendBackWithoutClock (S_X6_cancelBehindDuty (S_X1_cleanMinute (S_X6_endTreatments_2 d σ j))))) (S_X7_minute_64 d τ j) m n c
  | 0, σ, τ, j, e, hjn, h => absurd h.n20 (by omega)
  | d + 1, σ, τ, j, e, hjn, h => by
    have h20 := h.n20
    rw [S_X6_endTreatments_2_s, S_X7_minute_64_s, h.nc, h.nr]
    by_cases c0 : nI n ≤ nI j
    · rw [if_pos c0, if_pos c0]
      exact min83 h
    · have hj : j < n := (nI_lt_of (by omega) c0).resolve_right (by omega)
      obtain ⟨h1, h2, h3, h4, h5, h6, h7, h8, h9, h10, h11, h12, h13⟩ := h.gk j hj
      rw [if_neg c0, if_neg c0]
      unfold S_X7_goesOn
      rw [nI_clamp (by omega), h4, h11, h.gm.2.1, h.gm.2.2]
      by_cases c1 : σ 28 j = 1
      · rw [if_pos c1, if_pos c1]
        by_cases c2 : nI m < σ 36 j
        · rw [if_pos c2, if_pos c2]
          exact min64 d σ τ (j + 1) (by omega) (by omega) h
        · rw [if_neg c2, if_neg c2]
          refine min64 d _ _ (j + 1) (by omega) (by omega) (h.st hj (fun f i q1 q2 => ?_) (fun f i q1 q2 q3 => ?_) ?_ ?_ ?_)
          · exact if_neg q1
          · exact (if_neg q3).trans (if_neg q1)
          · rw [up2_f (by decide), up2_s, up2_s]
          · rw [up2_f (by decide), up2_f (by decide), up2_f (by decide), h5]
          · rw [up2_s, up2_s, if_neg (by decide)]
      · rw [if_neg c1, if_neg c1]
        exact min64 d σ τ (j + 1) (by omega) (by omega) h
