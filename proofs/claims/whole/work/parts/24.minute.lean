/-! ploughs, and the minute whole -/
theorem plough_c0 {σ : St} {j : Nat} {v : Int32} (c : ¬ σ 9 j = 2) : S_X4_ploughUpTo σ j v = (0, σ) := by
  unfold S_X4_ploughUpTo
  rw [if_neg c]
theorem plough_c1 {σ : St} {j D V : Nat} (c : σ 9 j = 2) (hD : D ≤ 5000) (hV : V ≤ 440) (e : σ 10 j = nI D) : S_X4_ploughUpTo σ j (nI V) = (nI (min D V), up2 σ 10 j (nI (D - min D V))) := by
  unfold S_X4_ploughUpTo
  have e1 : (if nI V < nI D then nI V else nI D) = nI (min D V) := by
    by_cases q : V < D
    · rw [if_pos (nI_lt q (by omega)), Nat.min_eq_right (by omega)]
    · rw [if_neg (nI_nlt (by omega) (by omega)), Nat.min_eq_left (by omega)]
  rw [if_pos c, e, e1]
  have e2 : nI D - nI (min D V) = nI (D - min D V) := by
    rw [show nI D = nI (D - min D V) + nI (min D V) by rw [nI_add]; congr 1; omega, Int32.add_sub_cancel]
  rw [e2]
theorem RR.pl {σ τ : St} {m n c : Nat} (h : RR σ τ m n c) : ∀ (d j V : Nat), d + j = 4 → V ≤ 440 → RR (S_X3_plough_10 d σ (nI V) j) (S_X7_ploughs_10 d τ (nI V) j) m n c := by
  intro d
  induction d generalizing σ τ with
  | zero => exact fun j V e hV => h
  | succ d ih =>
    intro j V e hV
    rw [S_X3_plough_10_s, S_X7_ploughs_10_s]
    by_cases c0 : 3 ≤ nI j
    · rw [if_pos c0, if_pos c0]
      exact h
    · have hj : j < 3 := Nat.lt_of_not_le fun q => c0 (nI_le (a := 3) q (by omega))
      obtain ⟨t1, t2, t3, t4, ⟨g1, D, hD, eD, g2⟩, t6⟩ := h.gt j hj
      rw [if_neg c0, if_neg c0, t1, t2]
      by_cases c1 : σ 9 j = 2
      · rw [if_pos c1, plough_c1 c1 hD hV eD, eD]
        have key : ∀ c' : Int32, GD c' (nI (D - min D V)) → RR (WC (up2 σ 8 0 (σ 8 0 + nI (min D V))) j c' (nI (D - min D V))) (WR (up2 τ 74 0 (τ 74 0 + nI (min D V))) j c' (nI (D - min D V))) m n c := by
          intro c' g
          have := h.heap (σ 8 0 + nI (min D V))
          rw [h.gu.2.2.1]
          exact this.third hj g
        have e2 : nI V - nI (min D V) = nI (V - min D V) := by
          rw [show nI V = nI (V - min D V) + nI (min D V) by rw [nI_add]; congr 1; omega, Int32.add_sub_cancel]
        have eR : ∀ w : Int32, up2 (up2 (up2 τ 47 j (nI (D - min D V))) 74 0 (τ 74 0 + nI (min D V))) 46 j w = WR (up2 τ 74 0 (τ 74 0 + nI (min D V))) j w (nI (D - min D V)) := by
          intro w
          unfold WR
          rw [up2_cm τ (f := 47) (g := 74) (by decide), up2_cm _ (f := 47) (g := 46) (by decide)]
        have eR9 : (if nI V ≤ nI D then (if nI D - nI V = 0 then S_X7_ploughs_10 d (up2 (up2 (up2 τ 47 j (nI D - nI V)) 74 0 (τ 74 0 + nI V)) 46 j 1) (nI V - nI V) (j + 1) else S_X7_ploughs_10 d (up2 (up2 (up2 τ 47 j (nI D - nI V)) 74 0 (τ 74 0 + nI V)) 46 j 2) (nI V - nI V) (j + 1)) else if nI D - nI D = 0 then S_X7_ploughs_10 d (up2 (up2 (up2 τ 47 j (nI D - nI D)) 74 0 (τ 74 0 + nI D)) 46 j 1) (nI V - nI D) (j + 1) else S_X7_ploughs_10 d (up2 (up2 (up2 τ 47 j (nI D - nI D)) 74 0 (τ 74 0 + nI D)) 46 j 2) (nI V - nI D) (j + 1)) = S_X7_ploughs_10 d (WR (up2 τ 74 0 (τ 74 0 + nI (min D V))) j (if nI (D - min D V) = 0 then 1 else 2) (nI (D - min D V))) (nI (V - min D V)) (j + 1) := by
          rw [← e2, ← eR, show nI (D - min D V) = nI D - nI (min D V) by rw [show nI D = nI (D - min D V) + nI (min D V) by rw [nI_add]; congr 1; omega, Int32.add_sub_cancel]]
          by_cases q : V ≤ D
          · rw [if_pos (nI_le q (by omega)), Nat.min_eq_right q]
            split <;> rfl
          · rw [if_neg (fun z => absurd ((nI_leI (by omega) (by omega)).mp z) q), Nat.min_eq_left (by omega)]
            split <;> rfl
        rw [eR9]
        have eC : S_X4_wetIfBare (up2 (nI (min D V), up2 σ 10 j (nI (D - min D V))).2 8 0 ((nI (min D V), up2 σ 10 j (nI (D - min D V))).2 8 0 + (nI (min D V), up2 σ 10 j (nI (D - min D V))).1)) j = WC (up2 σ 8 0 (σ 8 0 + nI (min D V))) j (if nI (D - min D V) = 0 then 1 else 2) (nI (D - min D V)) := by
          show S_X4_wetIfBare (up2 (up2 σ 10 j (nI (D - min D V))) 8 0 (up2 σ 10 j (nI (D - min D V)) 8 0 + nI (min D V))) j = _
          rw [up2_f (f := 10) (g := 8) (by decide)]
          have e0 : up2 (up2 σ 10 j (nI (D - min D V))) 8 0 (σ 8 0 + nI (min D V)) = WC (up2 σ 8 0 (σ 8 0 + nI (min D V))) j 2 (nI (D - min D V)) := by
            unfold WC
            rw [show up2 (up2 σ 8 0 (σ 8 0 + nI (min D V))) 9 j 2 = up2 σ 8 0 (σ 8 0 + nI (min D V)) from by
              have := up2_self (up2 σ 8 0 (σ 8 0 + nI (min D V))) 9 j
              rw [up2_f (f := 8) (g := 9) (by decide), c1] at this
              exact this]
            exact up2_cm σ (by decide) _ _ _ _
          rw [e0]
          unfold S_X4_wetIfBare
          rw [WC_9, WC_10, WC_u9, if_pos rfl]
          split <;> rfl
        rw [eC, e2]
        refine ih (key _ ?_) (j + 1) (V - min D V) (by omega) (by omega)
        by_cases q : nI (D - min D V) = 0
        · rw [if_pos q, q]
          exact GD.wet
        · rw [if_neg q]
          exact GD.snow (by omega)
      · rw [if_neg c1, plough_c0 c1]
        have eC : S_X4_wetIfBare (up2 ((0 : Int32), σ).2 8 0 (((0 : Int32), σ).2 8 0 + ((0 : Int32), σ).1)) j = σ := by
          show S_X4_wetIfBare (up2 σ 8 0 (σ 8 0 + 0)) j = σ
          rw [Int32.add_zero, up2_self]
          unfold S_X4_wetIfBare
          rw [if_neg c1]
        rw [eC, show nI V - ((0 : Int32), σ).1 = nI V from Int32.sub_zero _]
        exact ih h (j + 1) V (by omega) hV
theorem ploughs_eq {σ τ : St} {m n c : Nat} (h : RR σ τ m n c) : RR (S_X3_plough σ) (S_X7_ploughs τ) m n c := by
  obtain ⟨u1, u2, u3, q, hq, e⟩ := h.gu
  unfold S_X3_plough S_X7_ploughs
  rw [u2, e, show (40 : Int32) * nI q = nI (q * 40) by rw [Nat.mul_comm]; exact (Int32.ofNat_mul 40 q).symm, show nI q * (40 : Int32) = nI (q * 40) from (Int32.ofNat_mul q 40).symm]
  exact h.pl 4 0 (q * 40) rfl (by omega)
/-- all that comes behind the thirds -/
def S_rest (σ : St) : St := S_X6_liveMinute_44 (S_X6_sendBackWithoutClock (S_X6_cancelBehindDuty (S_X1_cleanMinute (S_X6_endTreatments σ))))
theorem min62 {σ τ : St} {m n c : Nat} (h : RR σ τ m n c) : RR (S_rest σ) (S_X7_minute_62 τ) m n c := min64 21 σ τ 0 rfl (by omega) h
theorem min51 {σ τ : St} {m n c : Nat} (h : RR σ τ m n c) : RR (S_rest (S_X3_liveMinute_28 σ (σ 0 0))) (S_X7_minute_51 τ) m n c := by
  unfold S_X7_minute_51 S_X3_liveMinute_28
  rw [h.closed]
  by_cases c0 : S_X3_isClosedAt σ (σ 0 0) = 0
  · rw [if_pos c0, if_pos c0]
    exact min62 h
  · rw [if_neg c0, if_neg c0]
    exact min62 (ploughs_eq h)
theorem third_eq {σ τ : St} {m n c t : Nat} (ht : t < 3) (h : RR σ τ m n c) : RR (S_X4_liveMinute σ t (σ 0 0)) (S_X7_falls τ (nI t)) m n c := by
  obtain ⟨w1, w2, w3, w4, w5, r, hr, er⟩ := h.gw
  have hT := h.gt t ht
  have go : ∀ z : Int32, z = 0 ∨ z = 1 → RR (S_X4_liveMinute_20 σ t (σ 0 0) z) (S_X7_falls_20 τ (nI t) z) m n c := by
    intro z hz
    obtain ⟨c', d', g, e1, e2⟩ := st20 σ τ ht w1 w2 w5 w3 hr er (σ 0 0) z hz hT.2.2.2.2.1
    rw [WC_self] at e1
    rw [show WR τ t (σ 9 t) (σ 10 t) = τ by rw [← hT.1, ← hT.2.1, WR_self]] at e2
    rw [e1, e2]
    exact h.third ht g
  unfold S_X4_liveMinute S_X7_falls
  rw [w1, sprayed_eq ht h.gm hT]
  by_cases c0 : 0 ≤ σ 2 0
  · rw [if_pos c0, if_pos c0]
    exact go 0 (Or.inl rfl)
  · rw [if_neg c0, if_neg c0]
    by_cases c1 : S_X4_isSprayedAt σ t (σ 0 0) = 0
    · rw [if_pos c1, if_pos c1]
      exact go 1 (Or.inr rfl)
    · rw [if_neg c1, if_neg c1]
      exact go 0 (Or.inl rfl)
theorem min35 {m n c : Nat} : ∀ (d : Nat) (σ τ : St) (j : Nat), d + j = 4 → j ≤ 3 → RR σ τ m n c → RR (S_rest (S_X3_liveMinute_2 d σ (σ 0 0) j)) (S_X7_minute_35 d τ j) m n c
  | 0, σ, τ, j, e, hjn, h => absurd e (by omega)
  | d + 1, σ, τ, j, e, hjn, h => by
    rw [S_X3_liveMinute_2_s, S_X7_minute_35_s]
    by_cases c0 : 3 ≤ nI j
    · rw [if_pos c0, if_pos c0]
      exact min51 h
    · have hj : j < 3 := Nat.lt_of_not_le fun q => c0 (nI_le (a := 3) q (by omega))
      rw [if_neg c0, if_neg c0]
      have := min35 d _ _ (j + 1) (by omega) (by omega) (third_eq hj h)
      rw [S_X4_liveMinute_fr σ j (σ 0 0) (f := 0) (by decide)] at this
      exact this
theorem RR.tick {σ τ : St} {m n c : Nat} (h : RR σ τ m n c) (hm : m + 1 < 300000) : RR (up2 σ 0 0 (σ 0 0 + 1)) (up2 (up2 τ 41 0 (τ 41 0 + 1)) 72 0 (if (m + 1) % 1440 = 0 then 0 else τ 72 0)) (m + 1) n c := by
  have hs : ∀ f i, f ≠ 0 → up2 σ 0 0 (σ 0 0 + 1) f i = σ f i := fun f i q => up2_f q _ _ _ _
  have hq : ∀ f i, f ≠ 41 ∧ f ≠ 72 → up2 (up2 τ 41 0 (τ 41 0 + 1)) 72 0 (if (m + 1) % 1440 = 0 then 0 else τ 72 0) f i = τ f i := fun f i q => (up2_f q.2 _ _ _ _).trans (up2_f q.1 _ _ _ _)
  obtain ⟨⟨m1, m2, m3⟩, h2, h3, h4, h5, ⟨b1, b2, b3, b4, day, b5, b6, b7⟩, ⟨n1, n2, n3⟩, h8, h9⟩ := h
  refine ⟨⟨hm, ?_, ?_⟩, h2.cg (fun f q => hs _ _ (by omega)) (fun f q => hq _ _ (by omega)), fun j q => ((h3 j q).cg (fun f q => hs _ _ (by omega)) (fun f q => hq _ _ (by omega))).le (by omega), h4.cg (fun f q => hs _ _ (by omega)) (fun f q => hq _ _ (by omega)), h5.cg (fun f i q => hs _ _ (by omega)) (fun f i q => hq _ _ (by omega)), ⟨?_, ?_, ?_, ?_, day, ?_, ?_, ?_⟩, ⟨n1, (hs _ _ (by omega)).trans n2, (hq _ _ (by omega)).trans n3⟩, fun j q => (h8 j q).cg (fun f q => hs _ _ (by omega)) (fun f q => hq _ _ (by omega)), h9.cg (fun i q => hs _ _ (by omega)) (fun f i q1 q => hq _ _ (by omega))⟩
  · rw [up2_s, m2, nI_1]
  · rw [up2_f (by decide), up2_s, m3, nI_1]
  · rw [hs 19 _ (by decide), hq 69 _ (by decide), b1]
  · rw [hs 20 _ (by decide), hq 70 _ (by decide), b2]
  · rw [hs 21 _ (by decide), hq 71 _ (by decide), b3]
  · rw [hs 22 _ (by decide), hq 73 _ (by decide), b4]
  · omega
  · rw [hs 23 _ (by decide), b6]
  · rw [up2_s, hs 24 _ (by decide), b7]
    by_cases q : (m + 1) % 1440 = 0
    · rw [if_pos q, if_neg (by omega)]
    · rw [if_neg q, show (m + 1) / 1440 = m / 1440 by omega]
theorem minute_eq {σ τ : St} {m n c : Nat} (h : RR σ τ m n c) (hm : m + 1 < 300000) : RR (S_X6_liveMinute σ) (S_X7_minute τ) (m + 1) n c := by
  have e : S_X7_minute τ = S_X7_minute_30 (up2 τ 41 0 (τ 41 0 + 1)) (if (m + 1) % 1440 = 0 then 0 else τ 72 0) := by
    unfold S_X7_minute
    rw [show (τ 41 0 + 1) - (τ 41 0 + 1) / 1440 * 1440 = nI ((m + 1) % 1440) by
      rw [h.gm.2.2, nI_1]
      exact pk_rem (a := m + 1) (d := 1440) (by omega) (by decide) (by decide)]
    by_cases q : (m + 1) % 1440 = 0
    · rw [if_pos q, q, if_pos (show nI 0 = 0 from rfl)]
    · rw [if_neg q, if_neg (nI_ne0 (by omega) (by omega))]
  rw [e]
  have k := h.tick hm
  have := min35 4 _ _ 0 rfl (by omega) k
  rw [up2_s] at this
  exact this
