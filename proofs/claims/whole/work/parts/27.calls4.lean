theorem A_aircraft {σ τ : St} {m n c : Nat} (h : RR σ τ m n c) (p1 p2 p3 : Int32) : AL σ m n c 2 3 (n + 1) (S_X6_aircraft σ p1 p2 p3) (S_X7_aircraft τ p1 p2 p3) := by
  unfold S_X6_aircraft S_X7_aircraft S_X7_aircraft_52 S_X6_aircraft_38 S_X6_aircraft_41
  have h20 := h.n20
  rw [rR_eq, rR_eq, rR_eq, rqp0, rqp1, h.nc, h.nr]
  by_cases c1 : S_X7_in p1 10 80 = 0
  · rw [if_pos c1, if_pos c1, if_neg (by decide), if_neg (by decide)]
    exact AL.thr h (by decide) rfl
  · rw [if_neg c1, if_neg c1, if_pos rfl]
    by_cases c2 : S_X7_in p2 0 2000 = 0
    · rw [if_pos c2, if_pos c2, if_neg (by decide), if_neg (by decide)]
      exact AL.thr h (by decide) rfl
    · rw [if_neg c2, if_neg c2, if_pos rfl]
      by_cases c3 : S_X7_in p3 0 2000 = 0
      · rw [if_pos c3, if_pos c3, if_neg (by decide), if_neg (by decide)]
        exact AL.thr h (by decide) rfl
      · rw [if_neg c3, if_neg c3, if_pos rfl]
        by_cases c4 : n = 20
        · subst c4
          rw [if_pos (show (20 : Int32) ≤ nI 20 by decide), if_pos (show nI 20 = (20 : Int32) from rfl), if_neg (by decide), if_neg (by decide)]
          exact AL.thr h (by decide) rfl
        · have hn : n < 20 := by omega
          rw [if_neg (show ¬ (20 : Int32) ≤ nI n from nI_ge (a := n) (b := 20) hn (by decide)), if_neg (show ¬ nI n = (20 : Int32) from fun q => c4 ((nI_eq (a := n) (b := 20) (by omega) (by decide)).mp q)), if_pos rfl, if_pos (by decide), nI_clamp (by omega), nI_1]
          refine AL.ok (by simp (config := { decide := true }) only [up2_s, up2_f]) ?_ (RR.lc (by omega) (h.mkA hn (fun f i q => ?_) (fun f i q => ?_) ?_ ?_ ?_))
          · show nI (n + 1) - nI 1 = nI n
            rw [← nI_add n 1, Int32.add_sub_cancel]
          · unfold newst up2
            rw [if_neg (by omega), if_neg (by omega), if_neg (by omega), if_neg (by omega), if_neg (by omega), if_neg (by omega), if_neg (by omega), if_neg (by omega), if_neg (by omega), if_neg (by omega), if_neg (by omega), if_neg (by omega), if_neg (by omega)]
          · unfold up2
            rw [if_neg (by omega), if_neg (by omega), if_neg (by omega), if_neg (by omega), if_neg (by omega), if_neg (by omega), if_neg (by omega)]
          · exact up2_s _ _ _ _
          · exact up2_s _ _ _ _
          · obtain ⟨r0, r1, r2, r3, r4, r5, r6, r7⟩ := h.2.2.2.2.2.2.2.2 n (Nat.le_refl n)
            unfold RK newst
            simp (config := { decide := true }) only [up2_s, up2_f]
            rw [h.gm.2.1, h.gm.2.2]
            exact ⟨trivial, rfl, rfl, r1, trivial, r2, r3, r6, r7, r5, r4, trivial, ⟨0, by omega, rfl⟩, trivial⟩
theorem pad_eq {P : Nat} (hP : P ≤ 2) : padI (nI P) = 40 + 20 * nI P := by
  match P, hP with
  | 0, _ => decide
  | 1, _ => decide
  | 2, _ => decide
theorem str_eq (p : Int32) {α : Type} (a b : α) : (if S_X6_requireStrength p = 0 then a else b) = if p = 50 then a else if p = 75 then a else if p = 100 then a else b := by
  unfold S_X6_requireStrength
  by_cases c1 : p = 50
  · rw [if_pos c1, if_pos c1, if_pos rfl]
  · rw [if_neg c1, if_neg c1]
    by_cases c2 : p = 75
    · rw [if_pos c2, if_pos c2, if_pos rfl]
    · rw [if_neg c2, if_neg c2]
      by_cases c3 : p = 100
      · rw [if_pos c3, if_pos c3, if_pos rfl]
      · rw [if_neg c3, if_neg c3, if_neg (by decide)]
/-- the treatment itself -/
theorem treat_do {σ τ : St} {m n c k P F : Nat} (h : RR σ τ m n c) (hk : k < n) (hP : P ≤ 2) (hF : F ≤ 2) (p4 p5 : Int32) : AL σ m n c 1 2 n (S_X6_treat_117 σ (nI k) (nI P) (nI F) p4 p5 1) (S_X7_treat_152 τ (nI k) (nI P) (nI F) p4 p5 0) := by
  have h20 := h.n20
  unfold S_X6_treat_117 S_X7_treat_152 S_X0_beginTreatment
  rw [rqp1, if_pos rfl, if_pos (show (0 : Int32) ≤ 0 by decide), nI_clamp (by omega), nI_clamp (by omega)]
  obtain ⟨f1, f2, f3⟩ := h.gf
  obtain ⟨h1, h2, h3, h4, h5, h6, h7, h8, h9, h10, h11, h12, ⟨j, hj, ej⟩, h14⟩ := h.gk k hk
  dsimp only
  refine AL.ok (by simp (config := { decide := true }) only [up2_s, up2_f]) (by simp (config := { decide := true }) only [up2_s, up2_f]; rw [h.gm.2.1, h.gm.2.2]) (h.lc (Nat.le_succ c) |>.mkX hk (fun f i q => ?_) (fun f i q => ?_) ?_ ?_ ?_)
  · unfold up2
    rw [if_neg (by omega), if_neg (by omega), if_neg (by omega), if_neg (by omega), if_neg (by omega), if_neg (by omega), if_neg (by omega), if_neg (by omega), if_neg (by omega), if_neg (by omega)]
  · unfold up2
    rw [if_neg (by omega), if_neg (by omega), if_neg (by omega), if_neg (by omega), if_neg (by omega), if_neg (by omega), if_neg (by omega), if_neg (by omega), if_neg (by omega), if_neg (by omega), if_neg (by omega)]
  · refine ⟨?_, fun f hf => ?_, fun f hf g hg => ?_⟩
    · simp (config := { decide := true }) only [up2_s, up2_f]
      exact f1
    · by_cases e : f = F
      · subst e
        simp (config := { decide := true }) only [up2_s, up2_f]
        rw [f2 f hf]
      · unfold up2
        rw [if_neg (by omega), if_neg (by omega), if_neg (by omega), if_neg (by omega), if_neg (by omega), if_neg (by omega), if_neg (by omega), if_neg (by omega), if_neg (by omega), if_neg (by omega), if_neg (by omega), if_neg (by omega), if_neg (by omega), if_neg (by omega), if_neg (by omega), if_neg (by omega), if_neg (by omega), if_neg (by omega), if_neg (by omega), if_neg (by omega), if_neg (by omega)]
        exact f2 f hf
    · unfold up2
      rw [if_neg (by omega), if_neg (by omega), if_neg (by omega), if_neg (by omega), if_neg (by omega), if_neg (by omega), if_neg (by omega), if_neg (by omega), if_neg (by omega), if_neg (by omega), if_neg (by omega), if_neg (by omega), if_neg (by omega), if_neg (by omega), if_neg (by omega), if_neg (by omega), if_neg (by omega), if_neg (by omega), if_neg (by omega), if_neg (by omega), if_neg (by omega)]
      exact f3 f hf g hg
  · obtain ⟨b1, b2, b3, b4, b5⟩ := h.gb
    unfold RB
    simp (config := { decide := true }) only [up2_s, up2_f]
    exact ⟨by rw [b1], b2, b3, b4, b5⟩
  · unfold RK
    simp (config := { decide := true }) only [up2_s, up2_f]
    exact ⟨h1, h2, h3, trivial, h5, by rw [h6], by rw [h7], trivial, trivial, by rw [h.gm.2.1, h.gm.2.2], by rw [h.gm.2.1, h.gm.2.2], (if_pos trivial).symm, ⟨j + 1, by omega, by rw [ej, nI_1]⟩, F, by omega, rfl⟩
theorem A_treat {σ τ : St} {m n c : Nat} (h : RR σ τ m n c) (p1 p2 p3 p4 p5 : Int32) : AL σ m n c 1 2 n (S_X6_treat σ p1 p2 p3 p4 p5) (S_X7_treat τ p1 p2 p3 p4 p5) := by
  have h20 := h.n20
  have e68 : ∀ y : Int32, ¬ y ≤ 0 → S_X7_treat_68 τ p1 p2 p3 p4 p5 y = (0, up2 τ 40 0 y) := by
    intro y hy
    unfold S_X7_treat_68
    rw [if_neg hy]
  unfold S_X6_treat S_X7_treat S_X7_isAircraft S_X7_isFluid
  rw [h.nc, h.nr, rI_eq h20, rI_eq3, rI_eq3, rR_eq, str_eq, e68 1 (by decide), e68 2 (by decide)]
  by_cases c1 : S_X7_in p1 0 (nI n - 1) = 0
  · rw [if_pos c1, if_pos c1, if_neg (by decide)]
    exact AL.thr h (by decide) rfl
  · rw [if_neg c1, if_neg c1, if_pos rfl]
    by_cases c2 : S_X7_in p2 0 2 = 0
    · rw [if_pos c2, if_pos c2, if_neg (by decide)]
      exact AL.thr h (by decide) rfl
    · rw [if_neg c2, if_neg c2, if_pos rfl]
      by_cases c3 : S_X7_in p3 0 2 = 0
      · rw [if_pos c3, if_pos c3, if_neg (by decide)]
        exact AL.thr h (by decide) rfl
      · rw [if_neg c3, if_neg c3, if_pos rfl]
        by_cases c4 : S_X7_in p4 10 2000 = 0
        · rw [if_pos c4, if_pos c4, if_neg (by decide)]
          exact AL.thr h (by decide) rfl
        · rw [if_neg c4, if_neg c4, if_pos rfl]
          obtain ⟨k, hk, rfl⟩ := in_natn h20 c1
          obtain ⟨P, hP, rfl⟩ := in_nat (n := 2) (by decide) c2
          obtain ⟨F, hF, rfl⟩ := in_nat (n := 2) (by decide) c3
          have main : AL σ m n c 1 2 n (if σ 28 (nI k).toNatClampNeg = 0 then S_X6_treat_66 σ (nI k) (nI P) (nI F) p4 p5 1 else if σ 28 (nI k).toNatClampNeg = 2 then S_X6_treat_66 σ (nI k) (nI P) (nI F) p4 p5 1 else S_X6_treat_66 σ (nI k) (nI P) (nI F) p4 p5 0) (S_X7_treat_68 τ (nI k) (nI P) (nI F) p4 p5 0) := by
            have kk := h.t40 0
            have hfree : S_X7_isFree (up2 τ 40 0 0) (nI P) = S_X6_padIsFree σ (nI P) := (free_eq kk.n20 kk.nc kk.nr kk.gk (nI_neg1 (by omega)) 21 0 rfl).1
            obtain ⟨h1, h2, h3, h4, h5⟩ := h.gk k hk
            have r40 : ∀ (f i : Nat), f ≠ 40 → up2 τ 40 0 0 f i = τ f i := fun f i q => up2_f q _ _ _ _
            unfold S_X7_treat_68 S_X7_treat_139
            rw [if_pos (show (0 : Int32) ≤ 0 by decide), if_pos (show (0 : Int32) = 0 from rfl), if_neg (show ¬ (1 : Int32) = 0 by decide), hfree, nI_clamp (by omega), nI_clamp (by omega), h4, h1, h.gf.2.1 F (by omega)]
            have no : AL σ m n c 1 2 n (3, 0, σ) (S_X7_treat_152 (up2 τ 40 0 0) (nI k) (nI P) (nI F) p4 p5 3) := by
              unfold S_X7_treat_152
              rw [if_neg (show ¬ (3 : Int32) ≤ 0 by decide), up2_up]
              exact AL.thr h (by decide) rfl
            have body : AL σ m n c 1 2 n (S_X6_treat_66 σ (nI k) (nI P) (nI F) p4 p5 1) (if S_X6_padIsFree σ (nI P) = 0 then S_X7_treat_152 (up2 τ 40 0 0) (nI k) (nI P) (nI F) p4 p5 3 else if 40 + 20 * nI P < σ 25 k then S_X7_treat_152 (up2 τ 40 0 0) (nI k) (nI P) (nI F) p4 p5 3 else if σ 14 F < p4 then S_X7_treat_152 (up2 τ 40 0 0) (nI k) (nI P) (nI F) p4 p5 3 else S_X7_treat_152 (up2 τ 40 0 0) (nI k) (nI P) (nI F) p4 p5 0) := by
              have n117 : S_X6_treat_117 σ (nI k) (nI P) (nI F) p4 p5 0 = (3, 0, σ) := by
                unfold S_X6_treat_117
                rw [rqp0, if_neg (by decide)]
              unfold S_X6_treat_66 S_X6_treat_95
              rw [rqp0, rqp1, if_pos rfl, if_neg (show ¬ (3 : Nat) = 0 by decide), if_pos rfl, pad_eq hP, nI_clamp (by omega), nI_clamp (by omega), n117]
              by_cases d1 : S_X6_padIsFree σ (nI P) = 0
              · rw [if_pos d1, if_pos d1]
                exact no
              · rw [if_neg d1, if_neg d1]
                by_cases d2 : 40 + 20 * nI P < σ 25 k
                · rw [if_pos d2, if_pos d2]
                  exact no
                · rw [if_neg d2, if_neg d2]
                  by_cases d3 : σ 14 F < p4
                  · rw [if_pos d3, if_pos d3]
                    exact no
                  · rw [if_neg d3, if_neg d3]
                    exact treat_do kk hk hP hF p4 p5
            by_cases s0 : σ 28 k = 0
            · rw [if_pos s0, if_pos s0]
              exact body
            · rw [if_neg s0, if_neg s0]
              by_cases s2 : σ 28 k = 2
              · rw [if_pos s2, if_pos s2]
                exact body
              · rw [if_neg s2, if_neg s2]
                unfold S_X6_treat_66
                rw [rqp0, if_neg (by decide)]
                exact no
          by_cases q1 : p5 = 50
          · rw [if_pos q1, if_pos q1]
            exact main
          · rw [if_neg q1, if_neg q1]
            by_cases q2 : p5 = 75
            · rw [if_pos q2, if_pos q2]
              exact main
            · rw [if_neg q2, if_neg q2]
              by_cases q3 : p5 = 100
              · rw [if_pos q3, if_pos q3]
                exact main
              · rw [if_neg q3, if_neg q3]
                unfold S_X6_requireStrength
                rw [if_neg q1, if_neg q2, if_neg q3]
                exact AL.thr h (by decide) rfl
