/-! a minute, and the minutes of a call (ours) -/
theorem TT.wc {σ : St} {t : Nat} {c d : Int32} (h : TT σ) (g : GD c d) : TT (WC σ t c d) := fun j hj => by
  by_cases e : j = t
  · subst e
    rw [WC_9, WC_10]
    exact g
  · have e9 : WC σ t c d 9 j = σ 9 j := (up2_f (by decide) _ _ _ _).trans (up2_i e _ _ _ _)
    have e10 : WC σ t c d 10 j = σ 10 j := (up2_i e _ _ _ _).trans (up2_f (by decide) _ _ _ _)
    rw [e9, e10]
    exact h j hj
theorem TT.dp {σ : St} {t : Nat} {d : Int32} (h : TT σ) (g : GD (σ 9 t) d) : TT (up2 σ 10 t d) := by
  have e : up2 σ 10 t d = WC σ t (σ 9 t) d := by
    unfold WC
    rw [up2_self]
  rw [e]
  exact h.wc g
theorem third_min {σ : St} (hw : JW σ) {t : Nat} (ht : t < 3) (h : TT σ) (p : Int32) : TT (S_X4_liveMinute σ t p) := by
  obtain ⟨hf, r, hr, er⟩ := hw
  have go : ∀ z : Int32, z = 0 ∨ z = 1 → TT (S_X4_liveMinute_20 σ t p z) := fun z hz => by
    obtain ⟨c', d', g, e⟩ := t20 σ t hf hr er p z hz (h t ht)
    rw [WC_self] at e
    rw [e]
    exact h.wc g
  unfold S_X4_liveMinute
  (repeat' split) <;> first | exact go 0 (Or.inl rfl) | exact go 1 (Or.inr rfl)
theorem wet_min {σ : St} (t : Nat) (h : TT σ) : TT (S_X4_wetIfBare σ t) := by
  unfold S_X4_wetIfBare
  split
  · split
    · rename_i q
      intro j hj
      by_cases e : j = t
      · subst e
        rw [up2_s, up2_f (by decide), q]
        exact GD.wet
      · rw [up2_i e, up2_i e]
        exact h j hj
    · exact h
  · exact h
theorem plough_min : ∀ (d V : Nat) (σ : St) (j : Nat), d + j = 4 → V ≤ 440 → TT σ → TT (S_X3_plough_10 d σ (nI V) j)
  | 0, V, σ, j, e, hV, h => h
  | d + 1, V, σ, j, e, hV, h => by
    rw [S_X3_plough_10_s]
    by_cases c0 : 3 ≤ nI j
    · rw [if_pos c0]
      exact h
    · have hj : j < 3 := lt_of_nle (by omega) (by decide) c0
      rw [if_neg c0]
      by_cases c1 : σ 9 j = 2
      · obtain ⟨hc, D, hD, eD, h0⟩ := h j hj
        have ex : (if nI V < σ 10 j then nI V else σ 10 j) = nI (min V D) := by
          rw [eD]
          by_cases q : V < D
          · rw [if_pos (nI_lt q (by omega)), Nat.min_eq_left (by omega)]
          · rw [if_neg (nI_nlt (by omega) (by omega)), Nat.min_eq_right (by omega)]
        have eP : S_X4_ploughUpTo σ j (nI V) = (nI (min V D), up2 σ 10 j (nI (D - min V D))) := by
          unfold S_X4_ploughUpTo
          rw [if_pos c1, ex, eD, pk_sub (Nat.min_le_right _ _)]
        rw [eP]
        show TT (S_X3_plough_10 d (S_X4_wetIfBare (up2 (up2 σ 10 j (nI (D - min V D))) 8 0 _) j) (nI V - nI (min V D)) (j + 1))
        rw [pk_sub (Nat.min_le_left _ _)]
        refine plough_min d (V - min V D) _ (j + 1) (by omega) (by omega) (wet_min j (TT.cg (h.dp (d := nI (D - min V D)) ?_) (fun f i q => up2_f (by omega) _ _ _ _)))
        rw [c1]
        exact GD.snow (by omega)
      · have eP : S_X4_ploughUpTo σ j (nI V) = (0, σ) := by
          unfold S_X4_ploughUpTo
          rw [if_neg c1]
        rw [eP]
        show TT (S_X3_plough_10 d (S_X4_wetIfBare (up2 σ 8 0 _) j) (nI V - nI 0) (j + 1))
        rw [pk_sub (Nat.zero_le _)]
        exact plough_min d V _ (j + 1) (by omega) hV (wet_min j (h.cg (fun f i q => up2_f (by omega) _ _ _ _)))
theorem runway_min : ∀ (d : Nat) (σ : St) (p : Int32) (j : Nat), d + j = 4 → JW σ → JU σ → TT σ → TT (S_X3_liveMinute_2 d σ p j)
  | 0, σ, p, j, e, hw, hu, h => h
  | d + 1, σ, p, j, e, hw, hu, h => by
    rw [S_X3_liveMinute_2_s]
    by_cases c0 : 3 ≤ nI j
    · rw [if_pos c0]
      unfold S_X3_liveMinute_28 S_X3_plough
      split
      · exact h
      · obtain ⟨q, hq, eq⟩ := hu
        rw [eq, show (40 : Int32) = nI 40 from rfl, pk_mul]
        exact plough_min 4 (q * 40) σ 0 rfl (by omega) h
    · have hj : j < 3 := lt_of_nle (by omega) (by decide) c0
      rw [if_neg c0]
      exact runway_min d _ p (j + 1) (by omega) (hw.cg (S_X4_liveMinute_fr σ j p (by decide)) (S_X4_liveMinute_fr σ j p (by decide))) (hu.cg (S_X4_liveMinute_fr σ j p (by decide))) (third_min hw hj h p)
/-- who is on a pad or clean was so before -/
def Kp (σ σ' : St) : Prop := ∀ k, (σ' 28 k = 1 ∨ σ' 28 k = 2) → (σ 28 k = 1 ∨ σ 28 k = 2)
theorem Kp.rf {σ : St} : Kp σ σ := fun _ q => q
theorem Kp.tr {σ σ' σ'' : St} (h : Kp σ σ') (h2 : Kp σ' σ'') : Kp σ σ'' := fun k q => h k (h2 k q)
theorem Kp.of {σ σ' : St} (e : ∀ k, σ' 28 k = σ 28 k) : Kp σ σ' := fun k q => by
  rw [e k] at q
  exact q
theorem Kp.up {σ : St} {j : Nat} {v : Int32} (hv : (v = 1 ∨ v = 2) → (σ 28 j = 1 ∨ σ 28 j = 2)) : Kp σ (up2 σ 28 j v) := fun k q => by
  by_cases e : k = j
  · subst e
    rw [up2_s] at q
    exact hv q
  · rw [up2_i e] at q
    exact q
theorem end_ls : ∀ (d : Nat) (σ : St) (j : Nat), Kp σ (S_X6_endTreatments_2 d σ j)
  | 0, σ, j => Kp.rf
  | d + 1, σ, j => by
    rw [S_X6_endTreatments_2_s]
    split
    · exact Kp.rf
    · split
      · rename_i q
        split
        · exact end_ls d σ (j + 1)
        · exact (Kp.up (fun _ => Or.inl q)).tr (end_ls d _ (j + 1))
      · exact end_ls d σ (j + 1)
theorem cancel_ls : ∀ (d : Nat) (σ : St) (j : Nat), Kp σ (S_X6_cancelBehindDuty_2 d σ j)
  | 0, σ, j => Kp.rf
  | d + 1, σ, j => by
    rw [S_X6_cancelBehindDuty_2_s]
    split
    · exact Kp.rf
    · split
      · split
        · exact cancel_ls d σ (j + 1)
        · exact (Kp.up (fun z => absurd z (by decide))).tr (cancel_ls d _ (j + 1))
      · exact cancel_ls d σ (j + 1)
theorem send_ls : ∀ (d : Nat) (σ : St) (j : Nat), Kp σ (S_X6_sendBackWithoutClock_2 d σ j)
  | 0, σ, j => Kp.rf
  | d + 1, σ, j => by
    rw [S_X6_sendBackWithoutClock_2_s]
    split
    · exact Kp.rf
    · split
      · split
        · exact send_ls d σ (j + 1)
        · exact (Kp.up (fun z => absurd z (by decide))).tr (send_ls d _ (j + 1))
      · exact send_ls d σ (j + 1)
theorem leave73_ls (σ : St) (v : Int32) : Kp σ (S_X6_letOneLeave_73 σ v) := by
  unfold S_X6_letOneLeave_73
  split
  · exact Kp.rf
  · exact (Kp.up (fun z => absurd z (by decide))).tr (Kp.of (fun k => up2_f (by decide) _ _ _ _))
theorem leave_ls : ∀ (d : Nat) (σ : St) (v : Int32) (j : Nat), Kp σ (S_X6_letOneLeave_4 d σ v j)
  | 0, σ, v, j => Kp.rf
  | d + 1, σ, v, j => by
    rw [S_X6_letOneLeave_4_s]
    (repeat' split) <;> first | exact leave73_ls σ _ | exact leave_ls d σ _ _
theorem min44_ls (σ : St) : Kp σ (S_X6_liveMinute_44 σ) := by
  unfold S_X6_liveMinute_44 S_X6_letOneLeave
  split
  · exact Kp.rf
  · exact leave_ls _ _ _ _
theorem sw_add (x a b k : Int32) : x + (a - k) + (b + k) = x + a + b := by
  rw [Int32.add_assoc, Int32.add_comm b k, ← Int32.add_assoc (a - k) k b, Int32.sub_add_cancel, ← Int32.add_assoc]
theorem min_II {σ : St} {m n c : Nat} (h : II σ m n c) (hm : m + 1 ≤ 20 * c) : II (S_X6_liveMinute σ) (m + 1) n c ∧ σ 20 0 ≤ S_X6_liveMinute σ 20 0 := by
  have hc := h.c60
  have hmb := h.mb
  obtain ⟨⟨⟨L, l1, l2⟩, ⟨C, k1, k2⟩, b3⟩⟩ := And.intro h.b trivial
  have fr : ∀ f i, ¬ (f = 0 ∨ f = 8 ∨ f = 9 ∨ f = 10 ∨ f = 19 ∨ f = 20 ∨ f = 28 ∨ f = 29) → S_X6_liveMinute σ f i = σ f i := fun f i q => S_X6_liveMinute_fr σ (fun w hw e => q (by
    subst e
    simpa using hw))
  unfold S_X6_liveMinute at *
  generalize ea : up2 σ 0 0 (σ 0 0 + 1) = a at *
  have a0 : a 0 0 = nI (m + 1) := by rw [← ea, up2_s, h.m0, nI_1]
  have af : ∀ f i, f ≠ 0 → a f i = σ f i := fun f i q => by rw [← ea]; exact up2_f q _ _ _ _
  generalize eb : S_X3_liveMinute a (σ 0 0 + 1) = b at *
  have bt : TT b := by
    rw [← eb]
    exact runway_min 4 a _ 0 rfl (h.w.cg (af 3 0 (by decide)) (af 4 0 (by decide))) (h.u.cg (af 7 0 (by decide))) (h.tt.cg (fun f i q => af f i (by omega)))
  have bf : ∀ f i, f ≠ 8 ∧ f ≠ 9 ∧ f ≠ 10 → b f i = a f i := fun f i q => by
    rw [← eb]
    exact S_X3_liveMinute_fr a (σ 0 0 + 1) (fun w hw e => by
      subst e
      simp at hw
      omega)
  generalize ed : S_X6_endTreatments b = d at *
  have df : ∀ f i, f ≠ 28 → d f i = b f i := fun f i q => by
    rw [← ed]
    exact S_X6_endTreatments_fr b (fun w hw e => by
      subst e
      simp at hw
      omega)
  generalize ef : S_X1_cleanMinute d = f0 at *
  have d19 : d 19 0 = nI L := by rw [df 19 0 (by decide), bf 19 0 (by decide), af 19 0 (by decide), l2]
  have d20 : d 20 0 = nI C := by rw [df 20 0 (by decide), bf 20 0 (by decide), af 20 0 (by decide), k2]
  have ek : (if 3 < d 19 0 then 3 else d 19 0) = nI (min 3 L) := by
    rw [d19]
    show (if nI 3 < nI L then nI 3 else nI L) = nI (min 3 L)
    by_cases q : 3 < L
    · rw [if_pos (nI_lt q (by omega)), Nat.min_eq_left (by omega)]
    · rw [if_neg (nI_nlt (by omega) (by omega)), Nat.min_eq_right (by omega)]
  have f19 : f0 19 0 = nI L - nI (min 3 L) := by
    rw [← ef]
    unfold S_X1_cleanMinute
    rw [up2_f (by decide), up2_s, ek, d19]
  have f20 : f0 20 0 = nI C + nI (min 3 L) := by
    rw [← ef]
    unfold S_X1_cleanMinute
    rw [up2_s, ek, d20]
  have ff : ∀ f i, f ≠ 19 ∧ f ≠ 20 → f0 f i = d f i := fun f i q => by
    rw [← ef]
    unfold S_X1_cleanMinute
    exact (up2_f q.2 _ _ _ _).trans (up2_f q.1 _ _ _ _)
  generalize eg : S_X6_cancelBehindDuty f0 = g at *
  have gf : ∀ f i, f ≠ 28 → g f i = f0 f i := fun f i q => by
    rw [← eg]
    exact S_X6_cancelBehindDuty_fr f0 (fun w hw e => by
      subst e
      simp at hw
      omega)
  generalize es : S_X6_sendBackWithoutClock g = s at *
  have sf : ∀ f i, f ≠ 28 → s f i = g f i := fun f i q => by
    rw [← es]
    exact S_X6_sendBackWithoutClock_fr g (fun w hw e => by
      subst e
      simp at hw
      omega)
  generalize ez : S_X6_liveMinute_44 s = z at *
  have zf : ∀ f i, f ≠ 28 ∧ f ≠ 29 → z f i = s f i := fun f i q => by
    rw [← ez]
    unfold S_X6_liveMinute_44
    split
    · rfl
    · exact S_X6_letOneLeave_fr s (fun w hw e => by
        subst e
        simp at hw
        omega)
  have ls : Kp σ z := by
    have x1 : Kp σ b := Kp.of (fun k => by rw [bf 28 k (by decide), af 28 k (by decide)])
    have x2 : Kp b d := by rw [← ed]; exact end_ls _ _ _
    have x3 : Kp d f0 := Kp.of (fun k => ff 28 k (by decide))
    have x4 : Kp f0 g := by rw [← eg]; exact cancel_ls _ _ _
    have x5 : Kp g s := by rw [← es]; exact send_ls _ _ _
    have x6 : Kp s z := by rw [← ez]; exact min44_ls _
    exact ((((x1.tr x2).tr x3).tr x4).tr x5).tr x6
  have z0 : z 0 0 = nI (m + 1) := by rw [zf 0 0 (by decide), sf 0 0 (by decide), gf 0 0 (by decide), ff 0 0 (by decide), df 0 0 (by decide), bf 0 0 (by decide), a0]
  have z19 : z 19 0 = nI L - nI (min 3 L) := by rw [zf 19 0 (by decide), sf 19 0 (by decide), gf 19 0 (by decide), f19]
  have z20 : z 20 0 = nI C + nI (min 3 L) := by rw [zf 20 0 (by decide), sf 20 0 (by decide), gf 20 0 (by decide), f20]
  have zt : TT z := bt.cg (fun f i q => by rw [zf f i (by omega), sf f i (by omega), gf f i (by omega), ff f i (by omega), df f i (by omega)])
  have hb := h.bal
  refine ⟨⟨⟨hm, hc, z0⟩, h.w.cg (fr 3 0 (by decide)) (fr 4 0 (by decide)), zt, h.u.cg (fr 7 0 (by decide)), h.f.cg (fun f i q => fr f i (by omega)), ⟨⟨L - min 3 L, by omega, ?_⟩, ⟨C + min 3 L, by omega, ?_⟩, ?_⟩, ⟨h.n6, (fr 1 0 (by decide)).trans h.n0⟩, fun k hk => ?_, fun k hk => (fr 33 k (by decide)).trans (h.z k hk), ?_⟩, ?_⟩
  · rw [z19, pk_sub (Nat.min_le_right _ _)]
  · rw [z20, nI_add]
  · rw [fr 22 0 (by decide), fr 23 0 (by decide), fr 24 0 (by decide)]
    exact b3
  · rw [fr 25 k (by decide), fr 40 k (by decide), fr 33 k (by decide), fr 30 k (by decide)]
    obtain ⟨q1, q2, j, j1, j2, j3⟩ := h.k k hk
    exact ⟨q1, q2, j, j1, j2, fun q => j3 (ls k q)⟩
  · unfold BAL at *
    rw [lo_cg (σ := σ) n (fun k _ => fr 31 k (by decide)), fr 18 0 (by decide), fr 14 0 (by decide), fr 14 1 (by decide), fr 14 2 (by decide), fr 21 0 (by decide), z19, z20, sw_add, hb, l2, k2]
  · rw [k2, z20, nI_add]
    exact nI_le (by omega) (by omega)
theorem pass_II {n c J : Nat} (hJ : J ≤ 20) : ∀ (d i m : Nat) (σ : St), d + i = 501 → i ≤ J → II σ m n c → m + (J - i) ≤ 20 * c → ∃ σ' : St, S_X6_pass_10 d σ (nI J) i = (0, nI (m + (J - i)), σ') ∧ II σ' (m + (J - i)) n c ∧ σ 20 0 ≤ σ' 20 0 ∧ σ' 18 0 = σ 18 0 ∧ σ' 24 0 = σ 24 0
  | 0, i, m, σ, e, hi, h, hm => absurd e (by omega)
  | d + 1, i, m, σ, e, hi, h, hm => by
    rw [S_X6_pass_10_s]
    by_cases c0 : nI J ≤ nI i
    · have : i = J := by
        rw [nI_leI (by omega) (by omega)] at c0
        omega
      subst this
      rw [if_pos c0, Nat.sub_self, h.m0]
      exact ⟨σ, rfl, h, Int32.le_refl _, rfl, rfl⟩
    · have hlt : i < J := by
        rw [nI_leI (by omega) (by omega)] at c0
        omega
      obtain ⟨h1, h2⟩ := min_II h (by omega)
      obtain ⟨σ', e1, i1, i2, i3, i4⟩ := pass_II hJ d (i + 1) (m + 1) _ (by omega) (by omega) h1 (by omega)
      rw [if_neg c0, e1]
      rw [show m + 1 + (J - (i + 1)) = m + (J - i) by omega] at i1 ⊢
      exact ⟨σ', rfl, i1, Int32.le_trans h2 i2, i3.trans (S_X6_liveMinute_fr σ (by decide)), i4.trans (S_X6_liveMinute_fr σ (by decide))⟩
