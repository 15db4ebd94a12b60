/-! what holds of the airport at every step of the law (ours) -/
theorem up2_up (σ : St) (f i : Nat) (v w : Int32) : up2 (up2 σ f i v) f i w = up2 σ f i w := by
  funext g j
  unfold up2
  by_cases h : g = f ∧ j = i
  · rw [if_pos h, if_pos h]
  · rw [if_neg h, if_neg h, if_neg h]
theorem up2_self (σ : St) (f i : Nat) : up2 σ f i (σ f i) = σ := by
  funext g j
  unfold up2
  by_cases h : g = f ∧ j = i
  · rw [if_pos h, h.1, h.2]
  · rw [if_neg h]
theorem up2_cm (σ : St) {f g : Nat} (h : f ≠ g) (i j : Nat) (v w : Int32) : up2 (up2 σ f i v) g j w = up2 (up2 σ g j w) f i v := by
  funext a b
  unfold up2
  by_cases h1 : a = g ∧ b = j
  · rw [if_pos h1, if_neg (fun q => h (q.1.symm.trans h1.1)), if_pos h1]
  · rw [if_neg h1]
    by_cases h2 : a = f ∧ b = i
    · rw [if_pos h2, if_pos h2]
    · rw [if_neg h2, if_neg h2, if_neg h1]
def WC (σ : St) (t : Nat) (c d : Int32) : St := up2 (up2 σ 9 t c) 10 t d
theorem WC_self (σ : St) (t : Nat) : WC σ t (σ 9 t) (σ 10 t) = σ := by
  unfold WC
  rw [up2_self σ 9 t, up2_self]
theorem WC_9 (σ : St) (t : Nat) (c d : Int32) : WC σ t c d 9 t = c := (up2_f (by decide) _ _ _ _).trans (up2_s _ _ _ _)
theorem WC_10 (σ : St) (t : Nat) (c d : Int32) : WC σ t c d 10 t = d := up2_s _ _ _ _
theorem WC_o (σ : St) (t : Nat) (c d : Int32) {f : Nat} (h : f ≠ 9) (h2 : f ≠ 10) (i : Nat) : WC σ t c d f i = σ f i := (up2_f h2 _ _ _ _).trans (up2_f h _ _ _ _)
theorem WC_u9 (σ : St) (t : Nat) (c d v : Int32) : up2 (WC σ t c d) 9 t v = WC σ t v d := by
  unfold WC
  rw [up2_cm _ (by decide), up2_up]
theorem WC_u10 (σ : St) (t : Nat) (c d v : Int32) : up2 (WC σ t c d) 10 t v = WC σ t c v := up2_up _ _ _ _ _
/-- what covers and depths are -/
def GD (c d : Int32) : Prop := (c = 0 ∨ c = 1 ∨ c = 2 ∨ c = 3) ∧ ∃ D : Nat, D ≤ 5000 ∧ d = nI D ∧ ((c = 0 ∨ c = 1) → D = 0)
theorem GD.ice {D : Nat} (h : D ≤ 5000) : GD 3 (nI D) := ⟨Or.inr (Or.inr (Or.inr rfl)), D, h, rfl, fun q => absurd q (by decide)⟩
theorem GD.snow {D : Nat} (h : D ≤ 5000) : GD 2 (nI D) := ⟨Or.inr (Or.inr (Or.inl rfl)), D, h, rfl, fun q => absurd q (by decide)⟩
theorem GD.wet : GD 1 0 := ⟨Or.inr (Or.inl rfl), 0, by decide, rfl, fun _ => rfl⟩
theorem GD.dry : GD 0 0 := ⟨Or.inl rfl, 0, by decide, rfl, fun _ => rfl⟩
theorem t89 (σ : St) (t : Nat) (p z : Int32) {c d : Int32} (h : GD c d) : ∃ c' d' : Int32, GD c' d' ∧ S_X4_liveMinute_89 (WC σ t c d) t p z = WC σ t c' d' := by
  unfold S_X4_liveMinute_89 S_X4_iceOver S_X4_iceOver_15
  simp only [WC_9, WC_u9, WC_u10]
  by_cases hz : z = 0
  · exact ⟨c, d, h, if_pos hz⟩
  · rw [if_neg hz]
    by_cases hc : c = 1
    · subst hc
      exact ⟨3, 1, GD.ice (D := 1) (by decide), by rw [if_pos rfl, if_neg (by decide), if_pos rfl]⟩
    · exact ⟨c, d, h, if_neg hc⟩
theorem t76 (σ : St) (t : Nat) (p z : Int32) {c d : Int32} (h : GD c d) : ∃ c' d' : Int32, GD c' d' ∧ S_X4_liveMinute_76 (WC σ t c d) t p z = WC σ t c' d' := by
  unfold S_X4_liveMinute_76 S_X4_melt S_X4_melt_27
  simp only [WC_9, WC_10, WC_u9, WC_u10]
  rw [WC_o σ t c d (by decide) (by decide)]
  by_cases c1 : σ 2 0 ≤ 20
  · rw [if_pos c1]
    exact t89 σ t p z h
  · rw [if_neg c1]
    obtain ⟨hc, D, hD, rfl, h0⟩ := h
    have key : ∀ c : Int32, (c = 2 ∨ c = 3) → ∃ c' d' : Int32, GD c' d' ∧ (if 0 < nI D - 2 then WC σ t c (nI D - 2) else WC σ t 1 0) = WC σ t c' d' := by
      intro c hc
      match D, hD with
      | 0, _ => exact ⟨1, 0, GD.wet, if_neg (by decide)⟩
      | 1, _ => exact ⟨1, 0, GD.wet, if_neg (by decide)⟩
      | 2, _ => exact ⟨1, 0, GD.wet, if_neg (by decide)⟩
      | D + 3, hD =>
        have e : nI (D + 3) - 2 = nI (D + 1) := by
          rw [show nI (D + 3) = nI (D + 1) + 2 from (nI_add (D + 1) 2).symm, Int32.add_sub_cancel]
        rw [e]
        refine ⟨c, nI (D + 1), ?_, if_pos (nI_lt (a := 0) (by omega) (by omega))⟩
        rcases hc with rfl | rfl
        · exact GD.snow (by omega)
        · exact GD.ice (by omega)
    rcases hc with rfl | rfl | rfl | rfl
    · rw [if_neg (by decide), if_neg (by decide)]
      exact t89 σ t p z ⟨Or.inl rfl, D, hD, rfl, h0⟩
    · rw [if_neg (by decide), if_neg (by decide)]
      exact t89 σ t p z ⟨Or.inr (Or.inl rfl), D, hD, rfl, h0⟩
    · obtain ⟨c', d', g, e1⟩ := key 2 (Or.inl rfl)
      rw [if_pos rfl, e1]
      exact t89 σ t p z g
    · obtain ⟨c', d', g, e1⟩ := key 3 (Or.inr rfl)
      rw [if_neg (by decide), if_pos rfl, e1]
      exact t89 σ t p z g
theorem st_add {D r : Nat} (hD : D ≤ 5000) (hr : r ≤ 30) : ∃ D' : Nat, D' ≤ 5000 ∧ (if 5000 < nI D + nI r then 5000 else nI D + nI r) = nI D' := by
  rw [nI_add]
  by_cases h : D + r ≤ 5000
  · exact ⟨D + r, h, if_neg (fun q => absurd ((nI_ltI (a := 5000) (b := D + r) (by decide) (by omega)).mp q) (by omega))⟩
  · exact ⟨5000, by decide, if_pos (nI_lt (a := 5000) (b := D + r) (by omega) (by omega))⟩
theorem t20 (σ : St) (t : Nat) (hf : σ 3 0 = 0 ∨ σ 3 0 = 1 ∨ σ 3 0 = 2 ∨ σ 3 0 = 3) {r : Nat} (hr : r ≤ 30) (er : σ 4 0 = nI r) (p z : Int32) (hz : z = 0 ∨ z = 1) {c d : Int32} (h : GD c d) : ∃ c' d' : Int32, GD c' d' ∧ S_X4_liveMinute_20 (WC σ t c d) t p z = WC σ t c' d' := by
  unfold S_X4_liveMinute_20 S_X4_snowOn S_X4_snowOn_13 S_X4_rainOn S_X4_addDepth S_X4_iceOver S_X4_iceOver_15
  simp only [WC_9, WC_10, WC_u9, WC_u10]
  rw [WC_o σ t c d (f := 3) (by decide) (by decide), WC_o σ t c d (f := 4) (by decide) (by decide), er]
  obtain ⟨hc, D, hD, rfl, h0⟩ := h
  obtain ⟨D', hD', e'⟩ := st_add hD hr
  rw [e']
  have go : ∀ {c d : Int32}, GD c d → ∃ c' d' : Int32, GD c' d' ∧ S_X4_liveMinute_76 (WC σ t c d) t p z = WC σ t c' d' := fun g => t76 σ t p z g
  have gg : GD c (nI D) := ⟨hc, D, hD, rfl, h0⟩
  rcases hf with hf | hf | hf | hf <;> rw [hf] <;> rcases hz with rfl | rfl <;> rcases hc with rfl | rfl | rfl | rfl <;> simp (config := { decide := true }) only [if_true, if_false]
  all_goals first
    | exact go gg
    | exact go (GD.snow hD')
    | exact go (GD.ice hD')
    | exact go (GD.ice (D := 1) (by decide))
    | (obtain rfl := h0 (Or.inl rfl); exact go GD.wet)
/-! groups of what holds: m minutes, n aircraft, c steps -/
def fix0 : Nat → Nat → Int32 := fun f => match f with
  | 0 => upd (upd (upd (fun _ => 0) 1 20) 2 5) 3 20
  | 1 => upd (upd (upd (fun _ => 0) 1 60) 2 30) 3 60
  | _ => upd (upd (upd (fun _ => 0) 1 100) 2 70) 3 100
def JM (σ : St) (m c : Nat) : Prop := m ≤ 20 * c ∧ c ≤ 60 ∧ σ 0 0 = nI m
def JW (σ : St) : Prop := (σ 3 0 = 0 ∨ σ 3 0 = 1 ∨ σ 3 0 = 2 ∨ σ 3 0 = 3) ∧ ∃ r : Nat, r ≤ 30 ∧ σ 4 0 = nI r
def TT (σ : St) : Prop := ∀ t, t < 3 → GD (σ 9 t) (σ 10 t)
def JU (σ : St) : Prop := ∃ q : Nat, q ≤ 11 ∧ σ 7 0 = nI q
def JF (σ : St) (c : Nat) : Prop := (∀ f, f < 3 → ∀ g, g < 4 → σ (15 + f) g = fix0 f g) ∧ ∀ f, f < 3 → σ 14 f = σ 41 f ∧ ∃ T : Nat, T ≤ 3000 + 1000 * c ∧ σ 41 f = nI T
def JB (σ : St) (m c : Nat) : Prop := (∃ L : Nat, L ≤ 1000 * c ∧ σ 19 0 = nI L) ∧ (∃ C : Nat, C ≤ 3 * m ∧ σ 20 0 = nI C) ∧ σ 22 0 = 500 ∧ σ 23 0 = 0 ∧ ∃ d : Nat, d ≤ 500 ∧ σ 24 0 = nI d
def JN (σ : St) (n : Nat) : Prop := n ≤ 6 ∧ σ 1 0 = nI n
def JK (σ : St) (n c : Nat) : Prop := ∀ k, k < n → σ 25 k = σ 40 k ∧ (∃ f : Nat, f < 3 ∧ σ 33 k = nI f) ∧ ∃ j : Nat, j ≤ c ∧ σ 30 k = nI j ∧ ((σ 28 k = 1 ∨ σ 28 k = 2) → 1 ≤ j)
def JZ (σ : St) (n : Nat) : Prop := ∀ k, n ≤ k → σ 33 k = 0
def lo (σ : St) : Nat → Int32
  | 0 => 0
  | k + 1 => lo σ k + σ 31 k
def BAL (σ : St) (n : Nat) : Prop := σ 18 0 = σ 14 0 + σ 14 1 + σ 14 2 + lo σ n + σ 19 0 + σ 20 0 + σ 21 0
def II (σ : St) (m n c : Nat) : Prop := JM σ m c ∧ JW σ ∧ TT σ ∧ JU σ ∧ JF σ c ∧ JB σ m c ∧ JN σ n ∧ JK σ n c ∧ JZ σ n ∧ BAL σ n
theorem lo_cg {σ σ' : St} : ∀ n : Nat, (∀ k, k < n → σ' 31 k = σ 31 k) → lo σ' n = lo σ n
  | 0, _ => rfl
  | n + 1, h => by
    show lo σ' n + σ' 31 n = lo σ n + σ 31 n
    rw [lo_cg n (fun k hk => h k (by omega)), h n (by omega)]
theorem lo_add {σ σ' : St} {k : Nat} {x : Int32} (h1 : σ' 31 k = σ 31 k + x) (h2 : ∀ j, j ≠ k → σ' 31 j = σ 31 j) : ∀ n : Nat, k < n → lo σ' n = lo σ n + x
  | 0, h => absurd h (Nat.not_lt_zero _)
  | n + 1, h => by
    show lo σ' n + σ' 31 n = lo σ n + σ 31 n + x
    by_cases e : k = n
    · subst e
      rw [lo_cg k (fun j hj => h2 j (by omega)), h1, Int32.add_assoc]
    · rw [lo_add h1 h2 n (by omega), h2 n (fun q => e q.symm), Int32.add_assoc, Int32.add_assoc, Int32.add_comm x]
section CG
variable {σ σ' : St} {m n c : Nat}
theorem JM.cg (h : JM σ m c) (e : σ' 0 0 = σ 0 0) : JM σ' m c := by
  unfold JM at *
  rw [e]
  exact h
theorem JW.cg (h : JW σ) (e : σ' 3 0 = σ 3 0) (e2 : σ' 4 0 = σ 4 0) : JW σ' := by
  unfold JW at *
  rw [e, e2]
  exact h
theorem TT.cg (h : TT σ) (e : ∀ f i, f = 9 ∨ f = 10 → σ' f i = σ f i) : TT σ' := fun t ht => by
  rw [e 9 t (Or.inl rfl), e 10 t (Or.inr rfl)]
  exact h t ht
theorem JU.cg (h : JU σ) (e : σ' 7 0 = σ 7 0) : JU σ' := by
  unfold JU at *
  rw [e]
  exact h
theorem JF.cg (h : JF σ c) (e : ∀ f i, (14 ≤ f ∧ f ≤ 17) ∨ f = 41 → σ' f i = σ f i) : JF σ' c := by
  refine ⟨fun f hf g hg => ?_, fun f hf => ?_⟩
  · rw [e _ _ (Or.inl (by omega))]
    exact h.1 f hf g hg
  · rw [e 14 f (Or.inl (by omega)), e 41 f (Or.inr rfl)]
    exact h.2 f hf
theorem JB.cg (h : JB σ m c) (e : ∀ f, 19 ≤ f ∧ f ≤ 24 → σ' f 0 = σ f 0) : JB σ' m c := by
  unfold JB at *
  rw [e 19 (by decide), e 20 (by decide), e 22 (by decide), e 23 (by decide), e 24 (by decide)]
  exact h
theorem JN.cg (h : JN σ n) (e : σ' 1 0 = σ 1 0) : JN σ' n := by
  unfold JN at *
  rw [e]
  exact h
theorem JK.cg (h : JK σ n c) (e : ∀ f i, f = 25 ∨ f = 28 ∨ f = 30 ∨ f = 33 ∨ f = 40 → σ' f i = σ f i) : JK σ' n c := fun k hk => by
  rw [e 25 k (by decide), e 28 k (by decide), e 30 k (by decide), e 33 k (by decide), e 40 k (by decide)]
  exact h k hk
theorem JZ.cg (h : JZ σ n) (e : ∀ i, σ' 33 i = σ 33 i) : JZ σ' n := fun k hk => (e k).trans (h k hk)
theorem BAL.cg (h : BAL σ n) (e : ∀ f i, f = 14 ∨ (18 ≤ f ∧ f ≤ 21) ∨ f = 31 → σ' f i = σ f i) : BAL σ' n := by
  unfold BAL at *
  rw [lo_cg n (fun k _ => e 31 k (by decide)), e 18 0 (by decide), e 14 0 (by decide), e 14 1 (by decide), e 14 2 (by decide), e 19 0 (by decide), e 20 0 (by decide), e 21 0 (by decide)]
  exact h
theorem II.cg (h : II σ m n c) (e : ∀ f i, ¬ (f = 2 ∨ f = 5 ∨ f = 6 ∨ f = 8 ∨ f = 11 ∨ f = 12 ∨ f = 13 ∨ f = 26 ∨ f = 27 ∨ f = 29 ∨ f = 32 ∨ f = 34 ∨ f = 35 ∨ f = 36) → σ' f i = σ f i) : II σ' m n c := by
  obtain ⟨h1, h2, h3, h4, h5, h6, h7, h8, h9, h10⟩ := h
  exact ⟨h1.cg (e 0 0 (by decide)), h2.cg (e 3 0 (by decide)) (e 4 0 (by decide)), h3.cg (fun f i q => e f i (by omega)), h4.cg (e 7 0 (by decide)), h5.cg (fun f i q => e f i (by omega)), h6.cg (fun f q => e f 0 (by omega)), h7.cg (e 1 0 (by decide)), h8.cg (fun f i q => e f i (by omega)), h9.cg (fun i => e 33 i (by decide)), h10.cg (fun f i q => e f i (by omega))⟩
/-- one step more -/
theorem II.up (h : II σ m n c) (hc : c < 60) : II σ m n (c + 1) := by
  obtain ⟨⟨a1, a2, a3⟩, h2, h3, h4, ⟨f1, f2⟩, ⟨⟨L, l1, l2⟩, b2, b3⟩, h7, h8, h9, h10⟩ := h
  refine ⟨⟨by omega, by omega, a3⟩, h2, h3, h4, ⟨f1, fun f hf => ?_⟩, ⟨⟨L, by omega, l2⟩, b2, b3⟩, h7, fun k hk => ?_, h9, h10⟩
  · obtain ⟨e, T, t1, t2⟩ := f2 f hf
    exact ⟨e, T, by omega, t2⟩
  · obtain ⟨e, f, j, j1, j2⟩ := h8 k hk
    exact ⟨e, f, j, by omega, j2⟩
theorem II.m0 (h : II σ m n c) : σ 0 0 = nI m := h.1.2.2
theorem II.mb (h : II σ m n c) : m ≤ 1200 := by
  have := h.1
  unfold JM at this
  omega
theorem II.c60 (h : II σ m n c) : c ≤ 60 := h.1.2.1
theorem II.n6 (h : II σ m n c) : n ≤ 6 := h.2.2.2.2.2.2.1.1
theorem II.n0 (h : II σ m n c) : σ 1 0 = nI n := h.2.2.2.2.2.2.1.2
theorem II.w (h : II σ m n c) : JW σ := h.2.1
theorem II.tt (h : II σ m n c) : TT σ := h.2.2.1
theorem II.u (h : II σ m n c) : JU σ := h.2.2.2.1
theorem II.f (h : II σ m n c) : JF σ c := h.2.2.2.2.1
theorem II.b (h : II σ m n c) : JB σ m c := h.2.2.2.2.2.1
theorem II.k (h : II σ m n c) : JK σ n c := h.2.2.2.2.2.2.2.1
theorem II.z (h : II σ m n c) : JZ σ n := h.2.2.2.2.2.2.2.2.1
theorem II.bal (h : II σ m n c) : BAL σ n := h.2.2.2.2.2.2.2.2.2
theorem II.ok {E : En} (h : II σ m n c) (hn : n = en E) : OK E σ := by
  subst hn
  have h6 := h.n6
  refine ⟨by omega, h.n0, trivial, ?_, trivial, fun k => ?_, trivial⟩
  · rcases h.w.1 with q | q | q | q <;> rw [q]
    · exact vp_in_nI (n := 0) (by decide) (by decide)
    · exact vp_in_nI (n := 1) (by decide) (by decide)
    · exact vp_in_nI (n := 2) (by decide) (by decide)
    · exact vp_in_nI (n := 3) (by decide) (by decide)
  · by_cases q : k < en E
    · obtain ⟨-, ⟨f, f1, f2⟩, -⟩ := h.k k q
      rw [f2]
      exact vp_in_nI f1 (by decide)
    · rw [h.z k (by omega)]
      exact vp_in_nI (n := 0) (by decide) (by decide)
end CG
theorem nI_neg1 {k : Nat} (h : k < 2 ^ 31) : ¬ nI k = -1 := fun q => by
  have := congrArg Int32.toInt q
  rw [nI_toInt h] at this
  have e : (-1 : Int32).toInt = -1 := by decide
  omega
theorem nI_lt_of {j n : Nat} (hn : n < 2 ^ 31) (c : ¬ nI n ≤ nI j) : j < n ∨ 2 ^ 31 ≤ j := by
  by_cases q : 2 ^ 31 ≤ j
  · exact Or.inr q
  · exact Or.inl (Nat.lt_of_not_le fun q2 => c (nI_le q2 (by omega)))
