/-! the class and the reference alike: a third in its minute -/
theorem up2_up (σ : St) (f i : Nat) (v w : Int32) : up2 (up2 σ f i v) f i w = up2 σ f i w := by
  funext g j
  unfold up2
  by_cases h : g = f ∧ j = i
  · rw [if_pos h, if_pos h]
  · rw [if_neg h, if_neg h, if_neg h]
theorem up2_self (σ : St) (f i : Nat) : up2 σ f i (σ f i) = σ := by
  funext g j
  unfold up2
  by_cases h : g = f ∧ j = i
  · rw [if_pos h, h.1, h.2]
  · rw [if_neg h]
theorem up2_cm (σ : St) {f g : Nat} (h : f ≠ g) (i j : Nat) (v w : Int32) : up2 (up2 σ f i v) g j w = up2 (up2 σ g j w) f i v := by
  funext a b
  unfold up2
  by_cases h1 : a = g ∧ b = j
  · rw [if_pos h1, if_neg (fun q => h (q.1.symm.trans h1.1)), if_pos h1]
  · rw [if_neg h1]
    by_cases h2 : a = f ∧ b = i
    · rw [if_pos h2, if_pos h2]
    · rw [if_neg h2, if_neg h2, if_neg h1]
def WC (σ : St) (t : Nat) (c d : Int32) : St := up2 (up2 σ 9 t c) 10 t d
def WR (σ : St) (t : Nat) (c d : Int32) : St := up2 (up2 σ 46 t c) 47 t d
theorem WC_self (σ : St) (t : Nat) : WC σ t (σ 9 t) (σ 10 t) = σ := by
  unfold WC
  rw [up2_self σ 9 t, up2_self]
theorem WR_self (σ : St) (t : Nat) : WR σ t (σ 46 t) (σ 47 t) = σ := by
  unfold WR
  rw [up2_self σ 46 t, up2_self]
theorem WC_9 (σ : St) (t : Nat) (c d : Int32) : WC σ t c d 9 t = c := (up2_f (by decide) _ _ _ _).trans (up2_s _ _ _ _)
theorem WC_10 (σ : St) (t : Nat) (c d : Int32) : WC σ t c d 10 t = d := up2_s _ _ _ _
theorem WR_46 (σ : St) (t : Nat) (c d : Int32) : WR σ t c d 46 t = c := (up2_f (by decide) _ _ _ _).trans (up2_s _ _ _ _)
theorem WR_47 (σ : St) (t : Nat) (c d : Int32) : WR σ t c d 47 t = d := up2_s _ _ _ _
theorem WC_o (σ : St) (t : Nat) (c d : Int32) {f : Nat} (h : f ≠ 9) (h2 : f ≠ 10) (i : Nat) : WC σ t c d f i = σ f i := (up2_f h2 _ _ _ _).trans (up2_f h _ _ _ _)
theorem WR_o (σ : St) (t : Nat) (c d : Int32) {f : Nat} (h : f ≠ 46) (h2 : f ≠ 47) (i : Nat) : WR σ t c d f i = σ f i := (up2_f h2 _ _ _ _).trans (up2_f h _ _ _ _)
theorem WC_u9 (σ : St) (t : Nat) (c d v : Int32) : up2 (WC σ t c d) 9 t v = WC σ t v d := by
  unfold WC
  rw [up2_cm _ (by decide), up2_up]
theorem WC_u10 (σ : St) (t : Nat) (c d v : Int32) : up2 (WC σ t c d) 10 t v = WC σ t c v := up2_up _ _ _ _ _
theorem WR_u46 (σ : St) (t : Nat) (c d v : Int32) : up2 (WR σ t c d) 46 t v = WR σ t v d := by
  unfold WR
  rw [up2_cm _ (by decide), up2_up]
theorem WR_u47 (σ : St) (t : Nat) (c d v : Int32) : up2 (WR σ t c d) 47 t v = WR σ t c v := up2_up _ _ _ _ _
/-- what covers and depths are -/
def GD (c d : Int32) : Prop := (c = 0 ∨ c = 1 ∨ c = 2 ∨ c = 3) ∧ ∃ D : Nat, D ≤ 5000 ∧ d = nI D ∧ ((c = 0 ∨ c = 1) → D = 0)
theorem GD.ice {D : Nat} (h : D ≤ 5000) : GD 3 (nI D) := ⟨Or.inr (Or.inr (Or.inr rfl)), D, h, rfl, fun q => absurd q (by decide)⟩
theorem GD.snow {D : Nat} (h : D ≤ 5000) : GD 2 (nI D) := ⟨Or.inr (Or.inr (Or.inl rfl)), D, h, rfl, fun q => absurd q (by decide)⟩
theorem GD.wet : GD 1 0 := ⟨Or.inr (Or.inl rfl), 0, by decide, rfl, fun _ => rfl⟩
theorem GD.dry : GD 0 0 := ⟨Or.inl rfl, 0, by decide, rfl, fun _ => rfl⟩
theorem st89 (σ τ : St) {t : Nat} (ht : t < 3) (p z : Int32) (hz : z = 0 ∨ z = 1) {c d : Int32} (h : GD c d) : ∃ c' d' : Int32, GD c' d' ∧ S_X4_liveMinute_89 (WC σ t c d) t p z = WC σ t c' d' ∧ S_X7_falls_266 (WR τ t c d) (nI t) z = WR τ t c' d' := by
  unfold S_X4_liveMinute_89 S_X7_falls_266 S_X4_iceOver S_X4_iceOver_15
  rw [nI_ix ht (by decide)]
  simp only [WC_9, WR_46, WC_u9, WC_u10, WR_u46, WR_u47]
  rcases hz with rfl | rfl
  · exact ⟨c, d, h, if_pos rfl, if_pos rfl⟩
  · rw [if_neg (show ¬ (1 : Int32) = 0 by decide), if_neg (show ¬ (1 : Int32) = 0 by decide)]
    by_cases hc : c = 1
    · subst hc
      exact ⟨3, 1, GD.ice (D := 1) (by decide), by rw [if_pos rfl, if_neg (by decide), if_pos rfl], if_pos rfl⟩
    · exact ⟨c, d, h, if_neg hc, if_neg hc⟩
theorem st76 (σ τ : St) {t : Nat} (ht : t < 3) (hT : τ 42 0 = σ 2 0) (p z : Int32) (hz : z = 0 ∨ z = 1) {c d : Int32} (h : GD c d) : ∃ c' d' : Int32, GD c' d' ∧ S_X4_liveMinute_76 (WC σ t c d) t p z = WC σ t c' d' ∧ S_X7_falls_194 (WR τ t c d) (nI t) z = WR τ t c' d' := by
  unfold S_X4_liveMinute_76 S_X7_falls_194 S_X4_melt S_X4_melt_27
  rw [nI_ix ht (by decide)]
  simp only [WC_9, WC_10, WR_46, WR_47, WC_u9, WC_u10, WR_u46, WR_u47]
  rw [WC_o σ t c d (by decide) (by decide), WR_o τ t c d (by decide) (by decide), hT]
  by_cases c1 : σ 2 0 ≤ 20
  · rw [if_pos c1, if_pos c1]
    exact st89 σ τ ht p z hz h
  · rw [if_neg c1, if_neg c1]
    obtain ⟨hc, D, hD, rfl, h0⟩ := h
    have key : ∀ c : Int32, (c = 2 ∨ c = 3) → ∃ c' d' : Int32, GD c' d' ∧ (if 0 < nI D - 2 then WC σ t c (nI D - 2) else WC σ t 1 0) = WC σ t c' d' ∧ (∀ (P : St → St), (if 2 ≤ nI D then (if nI D - 2 = 0 then P (WR τ t 1 (nI D - 2)) else P (WR τ t c (nI D - 2))) else P (WR τ t 1 0)) = P (WR τ t c' d')) := by
      intro c hc
      match D, hD with
      | 0, _ => exact ⟨1, 0, GD.wet, if_neg (by decide), fun P => if_neg (by decide)⟩
      | 1, _ => exact ⟨1, 0, GD.wet, if_neg (by decide), fun P => if_neg (by decide)⟩
      | 2, _ => exact ⟨1, 0, GD.wet, if_neg (by decide), fun P => by rw [if_pos (by decide), if_pos (by decide)]; rfl⟩
      | D + 3, hD =>
        have e : nI (D + 3) - 2 = nI (D + 1) := by
          rw [show nI (D + 3) = nI (D + 1) + 2 from (nI_add (D + 1) 2).symm, Int32.add_sub_cancel]
        rw [e]
        refine ⟨c, nI (D + 1), ?_, if_pos (nI_lt (a := 0) (by omega) (by omega)), fun P => ?_⟩
        · rcases hc with rfl | rfl
          · exact GD.snow (by omega)
          · exact GD.ice (by omega)
        · rw [if_pos (show (2 : Int32) ≤ nI (D + 3) from nI_le (a := 2) (by omega) (by omega)), if_neg (nI_ne0 (by omega) (by omega))]
    rcases hc with rfl | rfl | rfl | rfl
    · rw [if_neg (by decide), if_neg (by decide), if_pos (by decide)]
      exact st89 σ τ ht p z hz ⟨Or.inl rfl, D, hD, rfl, h0⟩
    · rw [if_neg (by decide), if_neg (by decide), if_pos (by decide)]
      exact st89 σ τ ht p z hz ⟨Or.inr (Or.inl rfl), D, hD, rfl, h0⟩
    · obtain ⟨c', d', g, e1, e2⟩ := key 2 (Or.inl rfl)
      rw [if_pos rfl, e1, if_neg (by decide), e2 (fun x => S_X7_falls_266 x (nI t) z)]
      exact st89 σ τ ht p z hz g
    · obtain ⟨c', d', g, e1, e2⟩ := key 3 (Or.inr rfl)
      rw [if_neg (by decide), if_pos rfl, e1, if_neg (by decide), e2 (fun x => S_X7_falls_266 x (nI t) z)]
      exact st89 σ τ ht p z hz g
/-- the reference holds what falls down to the deepest -/
theorem st164 (τ : St) {t : Nat} (ht : t < 3) (z : Int32) (c d : Int32) : S_X7_falls_164 (WR τ t c d) (nI t) z = S_X7_falls_194 (WR τ t c (if 5000 < d then 5000 else d)) (nI t) z := by
  unfold S_X7_falls_164
  rw [nI_ix ht (by decide), WR_47, WR_u47, WR_u47]
  by_cases h : 5000 < d
  · rw [if_pos h, if_neg (Int32.not_le.mpr h)]
  · rw [if_neg h, if_pos (Int32.not_lt.mp h)]
theorem st_add {D r : Nat} (hD : D ≤ 5000) (hr : r ≤ 30) : ∃ D' : Nat, D' ≤ 5000 ∧ (if 5000 < nI D + nI r then 5000 else nI D + nI r) = nI D' := by
  rw [nI_add]
  by_cases h : D + r ≤ 5000
  · exact ⟨D + r, h, if_neg (nI_nlt (b := 5000) (a := D + r) |> fun f => fun q => absurd ((nI_ltI (a := 5000) (b := D + r) (by decide) (by omega)).mp q) (by omega))⟩
  · exact ⟨5000, by decide, if_pos (nI_lt (a := 5000) (b := D + r) (by omega) (by omega))⟩
theorem st_le {D : Nat} (hD : D ≤ 5000) : (if 5000 < nI D then 5000 else nI D) = nI D :=
  if_neg fun q => absurd ((nI_ltI (a := 5000) (b := D) (by decide) (by omega)).mp q) (by omega)
theorem st20 (σ τ : St) {t : Nat} (ht : t < 3) (hT : τ 42 0 = σ 2 0) (hF : τ 43 0 = σ 3 0) (hf : σ 3 0 = 0 ∨ σ 3 0 = 1 ∨ σ 3 0 = 2 ∨ σ 3 0 = 3) (hR : τ 44 0 = σ 4 0) {r : Nat} (hr : r ≤ 30) (er : σ 4 0 = nI r) (p z : Int32) (hz : z = 0 ∨ z = 1) {c d : Int32} (h : GD c d) : ∃ c' d' : Int32, GD c' d' ∧ S_X4_liveMinute_20 (WC σ t c d) t p z = WC σ t c' d' ∧ S_X7_falls_20 (WR τ t c d) (nI t) z = WR τ t c' d' := by
  unfold S_X4_liveMinute_20 S_X7_falls_20 S_X4_snowOn S_X4_snowOn_13 S_X4_rainOn S_X4_addDepth S_X4_iceOver S_X4_iceOver_15
  rw [nI_ix ht (by decide)]
  simp only [WC_9, WC_10, WR_46, WR_47, WC_u9, WC_u10, WR_u46, WR_u47]
  rw [WC_o σ t c d (f := 3) (by decide) (by decide), WC_o σ t c d (f := 4) (by decide) (by decide), WR_o τ t c d (f := 43) (by decide) (by decide), WR_o τ t c d (f := 44) (by decide) (by decide), hF, hR, er]
  simp only [st164 τ ht]
  obtain ⟨hc, D, hD, rfl, h0⟩ := h
  obtain ⟨D', hD', e'⟩ := st_add hD hr
  rw [e', st_le hD, show (if (5000 : Int32) < 1 then (5000 : Int32) else 1) = 1 from if_neg (by decide)]
  have go : ∀ {c d : Int32}, GD c d → ∃ c' d' : Int32, GD c' d' ∧ S_X4_liveMinute_76 (WC σ t c d) t p z = WC σ t c' d' ∧ S_X7_falls_194 (WR τ t c d) (nI t) z = WR τ t c' d' := fun g => st76 σ τ ht hT p z hz g
  have gg : GD c (nI D) := ⟨hc, D, hD, rfl, h0⟩
  rcases hf with hf | hf | hf | hf <;> rw [hf] <;> rcases hz with rfl | rfl <;> rcases hc with rfl | rfl | rfl | rfl <;> simp (config := { decide := true }) only [if_true, if_false]
  all_goals first
    | exact go gg
    | exact go (GD.snow hD')
    | exact go (GD.ice hD')
    | exact go (GD.ice (D := 1) (by decide))
    | (obtain rfl := h0 (Or.inl rfl); exact go GD.wet)
