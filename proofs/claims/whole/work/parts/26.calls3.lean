/-! sum, pass, treat, aircraft alike -/
theorem tanks_eq {σ τ : St} (h : RF σ τ) : S_X2_inTanks σ = τ 53 (0 : Int32).toNatClampNeg + τ 53 (1 : Int32).toNatClampNeg + τ 53 (2 : Int32).toNatClampNeg := by
  show S_X2_inTanks σ = τ 53 0 + τ 53 1 + τ 53 2
  rw [h.2.1 0 (by decide), h.2.1 1 (by decide), h.2.1 2 (by decide)]
  unfold S_X2_inTanks
  rw [S_X2_inTanks_4_s, S_X2_inTanks_4_s, S_X2_inTanks_4_s, S_X2_inTanks_4_s]
  rw [if_neg (show ¬ (3 : Int32) ≤ nI 0 by decide), if_neg (show ¬ (3 : Int32) ≤ nI (0 + 1) by decide), if_neg (show ¬ (3 : Int32) ≤ nI (0 + 1 + 1) by decide), if_pos (show (3 : Int32) ≤ nI (0 + 1 + 1 + 1) by decide), Int32.zero_add]
theorem fleet_eq {σ τ : St} {m n c : Nat} (h : RR σ τ m n c) (p : Int32) : ∀ (d j : Nat) (v : Int32), d + j = 21 → j ≤ n → S_X7_sum_32 d τ p v j = S_X7_sum_55 τ p (S_X6_litresOnFleet_4 d σ v j)
  | 0, j, v, e, hj => absurd h.n20 (by omega)
  | d + 1, j, v, e, hjn => by
    have h20 := h.n20
    rw [S_X7_sum_32_s, S_X6_litresOnFleet_4_s, h.nc, h.nr]
    by_cases c0 : nI n ≤ nI j
    · rw [if_pos c0, if_pos c0]
    · have hj : j < n := (nI_lt_of (by omega) c0).resolve_right (by omega)
      rw [if_neg c0, if_neg c0, (h.gk j hj).2.2.2.2.2.2.1]
      exact fleet_eq h p d (j + 1) _ (by omega) (by omega)
theorem A_sum {σ τ : St} {m n c : Nat} (h : RR σ τ m n c) (p1 : Int32) : AL σ m n c 2 9 n (S_X6_sum σ p1) (S_X7_sum τ p1) := by
  unfold S_X6_sum S_X7_sum S_X7_sum_16
  rw [rR_eq]
  by_cases c1 : S_X7_in p1 0 6 = 0
  · rw [if_pos c1, if_pos c1, if_neg (by decide), if_neg (by decide)]
    exact AL.thr h (by decide) rfl
  · have k := h.t40 0
    have h0 : up2 τ 40 0 0 40 0 = 0 := up2_s _ _ _ _
    rw [if_neg c1, if_neg c1, if_pos rfl, if_pos (show (0 : Int32) ≤ 0 by decide), fleet_eq k p1 21 0 0 rfl (by omega)]
    unfold S_X7_sum_55
    rw [← tanks_eq k.gf]
    obtain ⟨j, hj, rfl⟩ := in_nat (n := 6) (by decide) c1
    match j, hj with
    | 0, _ =>
      simp (config := { decide := true }) only [if_true, if_false]
      exact AL.ok h0 k.gf.1 (k.lc (by omega))
    | 1, _ =>
      simp (config := { decide := true }) only [if_true, if_false]
      exact AL.ok h0 rfl (k.lc (by omega))
    | 2, _ =>
      simp (config := { decide := true }) only [if_true, if_false]
      exact AL.ok h0 rfl (k.lc (by omega))
    | 3, _ =>
      simp (config := { decide := true }) only [if_true, if_false]
      exact AL.ok h0 k.gb.1 (k.lc (by omega))
    | 4, _ =>
      simp (config := { decide := true }) only [if_true, if_false]
      exact AL.ok h0 k.gb.2.1 (k.lc (by omega))
    | 5, _ =>
      simp (config := { decide := true }) only [if_true, if_false]
      exact AL.ok h0 k.gb.2.2.1 (k.lc (by omega))
    | 6, _ =>
      simp (config := { decide := true }) only [if_true, if_false]
      exact AL.ok h0 k.gu.2.2.1 (k.lc (by omega))
theorem pass_eq {P n c : Nat} (hP : P ≤ 500) : ∀ (d : Nat) (σ τ : St) (m j : Nat), d + j = 501 → j ≤ P → m + (P - j) < 300000 → RR σ τ m n c → τ 40 0 = 0 → (S_X7_pass_22 d τ (nI P) j).2 40 0 = 0 ∧ (S_X7_pass_22 d τ (nI P) j).1 = (S_X6_pass_10 d σ (nI P) j).2.1 ∧ RR (S_X6_pass_10 d σ (nI P) j).2.2 (S_X7_pass_22 d τ (nI P) j).2 (m + (P - j)) n c
  | 0, σ, τ, m, j, e, hj, hm, h, h0 => absurd e (by omega)
  | d + 1, σ, τ, m, j, e, hj, hm, h, h0 => by
    rw [S_X6_pass_10_s, S_X7_pass_22_s, h0]
    by_cases c0 : nI P ≤ nI j
    · have hq : P - j = 0 := by
        rw [nI_leI (by omega) (by omega)] at c0
        omega
      rw [if_pos c0, if_pos c0, if_pos (show (0 : Int32) ≤ 0 by decide), hq]
      exact ⟨h0, by rw [h.gm.2.2, h.gm.2.1], h⟩
    · have hlt : j < P := (nI_lt_of (by omega) c0).resolve_right (by omega)
      rw [if_neg c0, if_neg c0, if_pos rfl]
      have k := pass_eq hP d _ _ (m + 1) (j + 1) (by omega) (by omega) (by omega) (minute_eq h (by omega)) ((S_X7_minute_fr τ (f := 40) (by decide)).trans h0)
      rw [show m + 1 + (P - (j + 1)) = m + (P - j) by omega] at k
      exact k
theorem A_pass {σ τ : St} {m n c : Nat} (hm : m + 500 < 300000) (h : RR σ τ m n c) (p1 : Int32) : AL σ m n c 2 9 n (S_X6_pass σ p1) (S_X7_pass τ p1) := by
  unfold S_X6_pass S_X7_pass S_X7_pass_17
  rw [rR_eq]
  by_cases c1 : S_X7_in p1 1 500 = 0
  · rw [if_pos c1, if_pos c1, if_neg (by decide)]
    have e : S_X7_pass_22 501 (up2 τ 40 0 1) p1 0 = (0, up2 τ 40 0 1) := by
      show S_X7_pass_22 (500 + 1) (up2 τ 40 0 1) p1 0 = (0, up2 τ 40 0 1)
      rw [S_X7_pass_22_s, up2_s, if_neg (show ¬ (1 : Int32) ≤ 0 by decide), if_neg (show ¬ (1 : Int32) = 0 by decide)]
      split <;> rfl
    rw [e]
    exact AL.thr h (by decide) rfl
  · rw [if_neg c1, if_neg c1, if_pos rfl]
    obtain ⟨h1, h2⟩ := in_of c1
    have h3 : ¬ p1 < 0 := fun q => h1 (by
      rw [Int32.lt_iff_toInt_lt] at q ⊢
      have e0 : (0 : Int32).toInt = 0 := by decide
      have e1 : (1 : Int32).toInt = 1 := by decide
      omega)
    obtain ⟨P, hP, rfl⟩ := nI_of2 (n := 500) (by decide) h3 (Int32.not_lt.mp h2)
    obtain ⟨k1, k2, k3⟩ := pass_eq hP 501 σ (up2 τ 40 0 0) m 0 rfl (by omega) (by omega) (h.t40 0) (up2_s _ _ _ _)
    exact ⟨k1.trans (by rw [pass10_c]; rfl), fun _ => ⟨k2, m + (P - 0), by omega, k3.lc (by omega)⟩, fun q => absurd (pass10_c _ _ _ _) q⟩
