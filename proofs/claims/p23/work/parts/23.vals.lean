/-! what each call answers, where it may be made, and what it leaves (ours) -/
theorem ri_ok {k n : Nat} (h : k < n) (hn : n < 2 ^ 31) : S_X6_requireIndex (nI k) (nI n) = 0 := by
  unfold S_X6_requireIndex
  rw [if_neg (nI_pos (by omega)), if_pos (nI_lt h hn)]
theorem rr_ok {a b k : Nat} (h1 : a ≤ k) (h2 : k ≤ b) (hb : b < 2 ^ 31) : S_X6_requireRange (nI k) (nI a) (nI b) = 0 := by
  unfold S_X6_requireRange
  rw [if_neg (nI_nlt h1 (by omega)), if_pos (nI_le h2 hb)]
theorem rqp0 : S_X6_requirePossible 0 = 3 := if_pos rfl
theorem rqp1 : S_X6_requirePossible 1 = 0 := if_neg (by decide)
section VV
variable {σ : St} {m n c k t : Nat}
theorem V_air0 (h : σ 1 0 = nI n) (hn : n ≤ 6) (hk : k < n) : S_X6_aircraftOf σ (nI k) 0 = (0, σ 28 k, σ) := by
  unfold S_X6_aircraftOf
  rw [h, ri_ok hk (by omega), nI_clamp (by omega), if_pos rfl, if_pos (show S_X6_requireRange 0 0 4 = 0 by decide), if_pos rfl]
theorem V_air2 (h : σ 1 0 = nI n) (hn : n ≤ 6) (hk : k < n) : S_X6_aircraftOf σ (nI k) 2 = (0, σ 30 k, σ) := by
  unfold S_X6_aircraftOf
  rw [h, ri_ok hk (by omega), nI_clamp (by omega), if_pos rfl, if_pos (show S_X6_requireRange 2 0 4 = 0 by decide), if_neg (by decide), if_neg (by decide), if_pos rfl]
theorem V_air3 (h : σ 1 0 = nI n) (hn : n ≤ 6) (hk : k < n) : S_X6_aircraftOf σ (nI k) 3 = (0, σ 31 k, σ) := by
  unfold S_X6_aircraftOf
  rw [h, ri_ok hk (by omega), nI_clamp (by omega), if_pos rfl, if_pos (show S_X6_requireRange 3 0 4 = 0 by decide), if_neg (by decide), if_neg (by decide), if_neg (by decide), if_pos rfl]
def pd (σ : St) (k : Nat) : Int32 := if σ 28 k = 1 then σ 32 k else -1
theorem V_air4 (h : σ 1 0 = nI n) (hn : n ≤ 6) (hk : k < n) : S_X6_aircraftOf σ (nI k) 4 = (0, pd σ k, σ) := by
  unfold S_X6_aircraftOf pd
  rw [h, ri_ok hk (by omega), nI_clamp (by omega), if_pos rfl, if_pos (show S_X6_requireRange 4 0 4 = 0 by decide), if_neg (by decide), if_neg (by decide), if_neg (by decide), if_neg (by decide)]
  split <;> rfl
theorem V_third0 (ht : t < 3) : S_X6_thirdOf σ (nI t) 0 = (0, σ 9 t, σ) := by
  unfold S_X6_thirdOf
  rw [show (3 : Int32) = nI 3 from rfl, ri_ok ht (by decide), nI_clamp (by omega), if_pos rfl, if_pos (show S_X6_requireRange 0 0 (nI 3) = 0 by decide), if_pos rfl]
theorem V_third1 (ht : t < 3) : S_X6_thirdOf σ (nI t) 1 = (0, σ 10 t, σ) := by
  unfold S_X6_thirdOf
  rw [show (3 : Int32) = nI 3 from rfl, ri_ok ht (by decide), nI_clamp (by omega), if_pos rfl, if_pos (show S_X6_requireRange 1 0 (nI 3) = 0 by decide), if_neg (by decide), if_pos rfl]
theorem V_third2 (ht : t < 3) (hs : ¬ σ 11 t < σ 0 0) : S_X6_thirdOf σ (nI t) 2 = (0, 1, σ) := by
  unfold S_X6_thirdOf S_X4_isSprayedAt
  rw [show (3 : Int32) = nI 3 from rfl, ri_ok ht (by decide), nI_clamp (by omega), if_pos rfl, if_pos (show S_X6_requireRange 2 0 (nI 3) = 0 by decide), if_neg (by decide), if_neg (by decide), if_pos rfl, if_neg hs, if_neg (by decide)]
theorem V_third3 (ht : t < 3) : S_X6_thirdOf σ (nI t) 3 = (0, S_X4_codeOfWhatLies σ t, σ) := by
  unfold S_X6_thirdOf
  rw [show (3 : Int32) = nI 3 from rfl, ri_ok ht (by decide), nI_clamp (by omega), if_pos rfl, if_pos (show S_X6_requireRange (nI 3) 0 (nI 3) = 0 by decide), if_neg (by decide), if_neg (by decide), if_neg (by decide)]
theorem V_code (ht : t < 3) : S_X6_code σ (nI t) = (0, S_X4_codeAt σ t (σ 0 0), σ) := by
  unfold S_X6_code
  rw [show (3 : Int32) = nI 3 from rfl, ri_ok ht (by decide), nI_clamp (by omega), if_pos rfl]
theorem code_le (σ : St) (t : Nat) (p : Int32) : S_X4_codeAt σ t p ≤ S_X4_codeOfWhatLies σ t := by
  unfold S_X4_codeAt S_X4_codeAt_30
  (repeat' split) <;> first | exact Int32.le_refl _ | (rename_i q; exact Int32.le_of_lt (Int32.not_le.mp q))
theorem V_sum0 : S_X6_sum σ 0 = (0, σ 18 0, σ) := by
  unfold S_X6_sum
  rw [if_pos (show S_X6_requireRange 0 0 6 = 0 by decide), if_pos rfl]
theorem V_sum1 : S_X6_sum σ 1 = (0, S_X2_inTanks σ, σ) := by
  unfold S_X6_sum
  rw [if_pos (show S_X6_requireRange 1 0 6 = 0 by decide), if_neg (by decide), if_pos rfl]
theorem V_sum2 : S_X6_sum σ 2 = (0, S_X6_litresOnFleet σ, σ) := by
  unfold S_X6_sum
  rw [if_pos (show S_X6_requireRange 2 0 6 = 0 by decide), if_neg (by decide), if_neg (by decide), if_pos rfl]
theorem V_sum3 : S_X6_sum σ 3 = (0, σ 19 0, σ) := by
  unfold S_X6_sum
  rw [if_pos (show S_X6_requireRange 3 0 6 = 0 by decide), if_neg (by decide), if_neg (by decide), if_neg (by decide), if_pos rfl]
theorem V_sum4 : S_X6_sum σ 4 = (0, σ 20 0, σ) := by
  unfold S_X6_sum
  rw [if_pos (show S_X6_requireRange 4 0 6 = 0 by decide), if_neg (by decide), if_neg (by decide), if_neg (by decide), if_neg (by decide), if_pos rfl]
theorem V_sum5 : S_X6_sum σ 5 = (0, σ 21 0, σ) := by
  unfold S_X6_sum
  rw [if_pos (show S_X6_requireRange 5 0 6 = 0 by decide), if_neg (by decide), if_neg (by decide), if_neg (by decide), if_neg (by decide), if_neg (by decide), if_pos rfl]
theorem tanks_eq (σ : St) : S_X2_inTanks σ = σ 14 0 + σ 14 1 + σ 14 2 := by
  unfold S_X2_inTanks
  rw [S_X2_inTanks_4_s, S_X2_inTanks_4_s, S_X2_inTanks_4_s, S_X2_inTanks_4_s]
  simp only [Nat.zero_add, show ¬ (3 : Int32) ≤ nI 0 by decide, show ¬ (3 : Int32) ≤ nI 1 by decide, show ¬ (3 : Int32) ≤ nI (1 + 1) by decide, show (3 : Int32) ≤ nI (1 + 1 + 1) by decide, if_true, if_false, show 1 + 1 = 2 from rfl]
  rw [Int32.zero_add]
theorem fleet_4 (h : σ 1 0 = nI n) (hn : n ≤ 6) : ∀ (d j : Nat), d + j = 21 → j ≤ n → S_X6_litresOnFleet_4 d σ (lo σ j) j = lo σ n
  | 0, j, e, hj => absurd e (by omega)
  | d + 1, j, e, hj => by
    rw [S_X6_litresOnFleet_4_s, h]
    by_cases c0 : nI n ≤ nI j
    · have : j = n := by
        rw [nI_leI (by omega) (by omega)] at c0
        omega
      rw [if_pos c0, this]
    · have hj : j < n := (nI_lt_of (by omega) c0).resolve_right (by omega)
      rw [if_neg c0]
      exact fleet_4 h hn d (j + 1) (by omega) (by omega)
theorem fleet_eq (h : σ 1 0 = nI n) (hn : n ≤ 6) : S_X6_litresOnFleet σ = lo σ n := fleet_4 h hn 21 0 rfl (Nat.zero_le _)
theorem bal_sum (h : II σ m n c) : 0 + S_X2_inTanks σ + S_X6_litresOnFleet σ + σ 19 0 + σ 20 0 + σ 21 0 = σ 18 0 := by
  rw [Int32.zero_add, tanks_eq, fleet_eq h.n0 h.n6]
  exact h.bal.symm
theorem tank_sum (h : II σ m n c) : S_X2_inTanks σ = σ 41 0 + σ 41 1 + σ 41 2 := by
  rw [tanks_eq, (h.f.2 0 (by decide)).1, (h.f.2 1 (by decide)).1, (h.f.2 2 (by decide)).1]
/-! spray, close, pilot, weather -/
theorem V_spray (ht : t < 3) : S_X6_spray σ (nI t) = (0, σ 0 0 + 60, up2 σ 11 t (σ 0 0 + 60)) := by
  unfold S_X6_spray
  rw [show (3 : Int32) = nI 3 from rfl, ri_ok ht (by decide), nI_clamp (by omega), if_pos rfl]
theorem I_spray (h : II σ m n c) (v : Int32) : II (up2 σ 11 t v) m n c := h.cg (fun f i q => up2_f (by omega) _ _ _ _)
theorem V_close {a q : Nat} (h1 : 1 ≤ a) (h2 : a ≤ 500) (h3 : q ≤ 11) : S_X6_close σ (nI a) (nI q) = (0, σ 0 0 + nI a, up2 (up2 σ 6 0 (σ 0 0 + nI a)) 7 0 (nI q)) := by
  unfold S_X6_close
  rw [show (1 : Int32) = nI 1 from rfl, show (500 : Int32) = nI 500 from rfl, show (11 : Int32) = nI 11 from rfl, show (0 : Int32) = nI 0 from rfl, rr_ok h1 h2 (by decide), rr_ok (Nat.zero_le _) h3 (by decide), if_pos rfl, if_pos rfl]
theorem I_close (h : II σ m n c) (v : Int32) {q : Nat} (hq : q ≤ 11) : II (up2 (up2 σ 6 0 v) 7 0 (nI q)) m n c := by
  have e : ∀ f i, ¬ (f = 6 ∨ f = 7) → up2 (up2 σ 6 0 v) 7 0 (nI q) f i = σ f i := fun f i z => (up2_f (by omega) _ _ _ _).trans (up2_f (by omega) _ _ _ _)
  obtain ⟨h1, h2, h3, h4, h5, h6, h7, h8, h9, h10⟩ := h
  exact ⟨h1.cg (e 0 0 (by decide)), h2.cg (e 3 0 (by decide)) (e 4 0 (by decide)), h3.cg (fun f i q => e f i (by omega)), ⟨q, hq, up2_s _ _ _ _⟩, h5.cg (fun f i q => e f i (by omega)), h6.cg (fun f q => e f 0 (by omega)), h7.cg (e 1 0 (by decide)), h8.cg (fun f i q => e f i (by omega)), h9.cg (fun i => e 33 i (by decide)), h10.cg (fun f i q => e f i (by omega))⟩
theorem good_close (h : II σ m n c) {a : Nat} (ha : a ≤ 500) (q : Int32) : S_X6_isGood (up2 (up2 σ 6 0 (σ 0 0 + nI a)) 7 0 q) = 0 := by
  have hm := h.mb
  unfold S_X6_isGood S_X3_isUsableAt S_X3_isClosedAt
  rw [up2_f (g := 6) (by decide), up2_s, up2_f (g := 0) (by decide), up2_f (g := 0) (by decide), h.m0, nI_add, if_neg (nI_nlt (by omega) (by omega)), if_neg (by decide)]
theorem V_pilot (h : II σ m n c) (ht : t < 3) {x : Nat} (hx : x ≤ 6) : S_X6_pilot σ (nI t) (nI x) = (0, (if nI x < S_X4_codeOfWhatLies (up2 (up2 σ 12 t (σ 0 0)) 13 t (nI x)) t then nI x else S_X4_codeOfWhatLies (up2 (up2 σ 12 t (σ 0 0)) 13 t (nI x)) t), up2 (up2 σ 12 t (σ 0 0)) 13 t (nI x)) := by
  have hm := h.mb
  have e1 : up2 (up2 σ 12 t (σ 0 0)) 13 t (nI x) 12 t = nI m := by rw [up2_f (by decide), up2_s, h.m0]
  have e2 : up2 (up2 σ 12 t (σ 0 0)) 13 t (nI x) 13 t = nI x := up2_s _ _ _ _
  have e0 : S_X4_codeAt (up2 (up2 σ 12 t (σ 0 0)) 13 t (nI x)) t (σ 0 0) = if nI x < S_X4_codeOfWhatLies (up2 (up2 σ 12 t (σ 0 0)) 13 t (nI x)) t then nI x else S_X4_codeOfWhatLies (up2 (up2 σ 12 t (σ 0 0)) 13 t (nI x)) t := by
    unfold S_X4_codeAt S_X4_codeAt_30
    rw [e1, if_neg (nI_neg1 (by omega)), show σ 0 0 - nI m = nI 0 by rw [h.m0, pk_sub (Nat.le_refl _), Nat.sub_self], if_neg (by decide), if_neg (by decide), e2]
    by_cases q : S_X4_codeOfWhatLies (up2 (up2 σ 12 t (σ 0 0)) 13 t (nI x)) t ≤ nI x
    · rw [if_pos q, if_neg (Int32.not_lt.mpr q)]
    · rw [if_neg q, if_pos (Int32.not_le.mp q)]
  unfold S_X6_pilot
  rw [show (3 : Int32) = nI 3 from rfl, ri_ok ht (by decide), nI_clamp (by omega), e0, if_pos rfl, show (0 : Int32) = nI 0 from rfl, show (6 : Int32) = nI 6 from rfl, rr_ok (Nat.zero_le _) hx (by decide), if_pos rfl]
theorem I_pilot (h : II σ m n c) (v w : Int32) : II (up2 (up2 σ 12 t v) 13 t w) m n c := h.cg (fun f i q => (up2_f (by omega) _ _ _ _).trans (up2_f (by omega) _ _ _ _))
theorem V_weather {a : Int32} {f r w : Nat} (ha : S_X6_requireRange a (-400) 400 = 0) (hf : f ≤ 3) (hr : r ≤ 30) (hw : w ≤ 60) : S_X6_weather σ a (nI f) (nI r) (nI w) = (0, up2 (up2 (up2 (up2 σ 2 0 a) 3 0 (nI f)) 4 0 (nI r)) 5 0 (nI w)) := by
  unfold S_X6_weather
  rw [ha, show (0 : Int32) = nI 0 from rfl, show (3 : Int32) = nI 3 from rfl, show (30 : Int32) = nI 30 from rfl, show (60 : Int32) = nI 60 from rfl, rr_ok (Nat.zero_le _) hf (by decide), rr_ok (Nat.zero_le _) hr (by decide), rr_ok (Nat.zero_le _) hw (by decide), if_pos rfl, if_pos rfl, if_pos rfl, if_pos rfl]
theorem rr_temp {j : Nat} (h : j < 200) : S_X6_requireRange (nI j - 130) (-400) 400 = 0 := by
  have e : (nI j - 130).toInt = (j : Int) - (130 : Nat) := pk_sub_toInt (a := j) (b := 130) (by omega) (by decide)
  have e1 : (-400 : Int32).toInt = -400 := by decide
  have e2 : (400 : Int32).toInt = 400 := by decide
  unfold S_X6_requireRange
  rw [if_neg (by rw [Int32.lt_iff_toInt_lt, e, e1]; omega), if_pos (by rw [Int32.le_iff_toInt_le, e, e2]; omega)]
theorem I_weather (h : II σ m n c) (a w : Int32) {f r : Nat} (hf : f ≤ 3) (hr : r ≤ 30) : II (up2 (up2 (up2 (up2 σ 2 0 a) 3 0 (nI f)) 4 0 (nI r)) 5 0 w) m n c := by
  have e : ∀ g i, ¬ (g = 2 ∨ g = 3 ∨ g = 4 ∨ g = 5) → up2 (up2 (up2 (up2 σ 2 0 a) 3 0 (nI f)) 4 0 (nI r)) 5 0 w g i = σ g i := fun g i z => (((up2_f (by omega) _ _ _ _).trans (up2_f (by omega) _ _ _ _)).trans (up2_f (by omega) _ _ _ _)).trans (up2_f (by omega) _ _ _ _)
  obtain ⟨h1, h2, h3, h4, h5, h6, h7, h8, h9, h10⟩ := h
  refine ⟨h1.cg (e 0 0 (by decide)), ⟨?_, r, hr, ?_⟩, h3.cg (fun f i q => e f i (by omega)), h4.cg (e 7 0 (by decide)), h5.cg (fun f i q => e f i (by omega)), h6.cg (fun f q => e f 0 (by omega)), h7.cg (e 1 0 (by decide)), h8.cg (fun f i q => e f i (by omega)), h9.cg (fun i => e 33 i (by decide)), h10.cg (fun f i q => e f i (by omega))⟩
  · rw [up2_f (by decide), up2_f (by decide), up2_s]
    rcases (show f = 0 ∨ f = 1 ∨ f = 2 ∨ f = 3 by omega) with rfl | rfl | rfl | rfl
    · exact Or.inl rfl
    · exact Or.inr (Or.inl rfl)
    · exact Or.inr (Or.inr (Or.inl rfl))
    · exact Or.inr (Or.inr (Or.inr rfl))
  · rw [up2_f (by decide), up2_s]
/-! supply: the law writes its own row first -/
def SU (σ : St) (f : Nat) (v x : Int32) : St := up2 (up2 (up2 σ 41 f v) 14 f v) 18 0 (σ 18 0 + x)
theorem V_supply {f T x : Nat} {w : Int32} (hf : f < 3) (e : σ 14 f = nI T) (h1 : 1 ≤ x) (h2 : x ≤ 10000) (h3 : T + x ≤ 100000) : S_X6_supply (up2 σ 41 f (nI (T + x))) (nI f) (nI x) = (0, nI (T + x), SU σ f (nI (T + x)) (nI x)) := by
  unfold S_X6_supply S_X6_supply_34 SU
  rw [show (3 : Int32) = nI 3 from rfl, ri_ok hf (by decide), nI_clamp (by omega), up2_f (g := 14) (by decide), up2_f (g := 18) (by decide), e, nI_add, show (100000 : Int32) = nI 100000 from rfl, if_neg (nI_nlt h3 (by decide)), show (10000 : Int32) = nI 10000 from rfl, show (1 : Int32) = nI 1 from rfl, rr_ok h1 h2 (by decide), if_pos rfl, if_pos rfl, if_pos (show S_X6_requirePossible (nI 1) = 0 from rqp1)]
theorem sw_sup (a b c x r1 r2 r3 r4 : Int32) : a + b + c + r1 + r2 + r3 + r4 + x = a + x + b + c + r1 + r2 + r3 + r4 ∧ a + b + c + r1 + r2 + r3 + r4 + x = a + (b + x) + c + r1 + r2 + r3 + r4 ∧ a + b + c + r1 + r2 + r3 + r4 + x = a + b + (c + x) + r1 + r2 + r3 + r4 := by
  refine ⟨?_, ?_, ?_⟩ <;> ac_rfl
theorem I_supply (h : II σ m n c) {f T x : Nat} (hf : f < 3) (e : σ 41 f = nI T) (hT : T + x ≤ 3000 + 1000 * c) : II (SU σ f (nI (T + x)) (nI x)) m n c := by
  have hb := h.bal
  have e14 : σ 14 f = nI T := (h.f.2 f hf).1.trans e
  have ee : ∀ g i, ¬ (g = 14 ∨ g = 18 ∨ g = 41) → SU σ f (nI (T + x)) (nI x) g i = σ g i := fun g i z => ((up2_f (by omega) _ _ _ _).trans (up2_f (by omega) _ _ _ _)).trans (up2_f (by omega) _ _ _ _)
  have s14 : ∀ i, SU σ f (nI (T + x)) (nI x) 14 i = if i = f then nI (T + x) else σ 14 i := fun i => by
    unfold SU
    rw [up2_f (by decide)]
    by_cases q : i = f
    · rw [if_pos q, q, up2_s]
    · rw [if_neg q, up2_i q, up2_f (by decide)]
  have s41 : ∀ i, SU σ f (nI (T + x)) (nI x) 41 i = if i = f then nI (T + x) else σ 41 i := fun i => by
    unfold SU
    rw [up2_f (by decide), up2_f (by decide)]
    by_cases q : i = f
    · rw [if_pos q, q, up2_s]
    · rw [if_neg q, up2_i q]
  have s18 : SU σ f (nI (T + x)) (nI x) 18 0 = σ 18 0 + nI x := up2_s _ _ _ _
  obtain ⟨h1, h2, h3, h4, ⟨f1, f2⟩, h6, h7, h8, h9, h10⟩ := h
  refine ⟨h1.cg (ee 0 0 (by decide)), h2.cg (ee 3 0 (by decide)) (ee 4 0 (by decide)), h3.cg (fun f i q => ee f i (by omega)), h4.cg (ee 7 0 (by decide)), ⟨fun g hg i hi => (ee _ _ (by omega)).trans (f1 g hg i hi), fun g hg => ?_⟩, h6.cg (fun f q => ee f 0 (by omega)), h7.cg (ee 1 0 (by decide)), h8.cg (fun f i q => ee f i (by omega)), h9.cg (fun i => ee 33 i (by decide)), ?_⟩
  · rw [s14, s41]
    by_cases q : g = f
    · rw [if_pos q, if_pos q]
      exact ⟨rfl, T + x, hT, rfl⟩
    · rw [if_neg q, if_neg q]
      exact f2 g hg
  · unfold BAL at *
    rw [s18, lo_cg (σ := σ) n (fun k _ => ee 31 k (by decide)), ee 19 0 (by decide), ee 20 0 (by decide), ee 21 0 (by decide), s14, s14, s14, hb, ← nI_add, ← e14]
    obtain ⟨w1, w2, w3⟩ := sw_sup (σ 14 0) (σ 14 1) (σ 14 2) (nI x) (lo σ n) (σ 19 0) (σ 20 0) (σ 21 0)
    rcases (show f = 0 ∨ f = 1 ∨ f = 2 by omega) with rfl | rfl | rfl
    · rw [if_pos rfl, if_neg (by decide), if_neg (by decide)]
      exact w1
    · rw [if_neg (by decide), if_pos rfl, if_neg (by decide)]
      exact w2
    · rw [if_neg (by decide), if_neg (by decide), if_pos rfl]
      exact w3
/-! cancel, release -/
theorem V_cancel (h : II σ m n c) (hk : k < n) (hs : σ 28 k < 3) : S_X6_cancel σ (nI k) = (0, σ 28 k, up2 σ 28 k 4) := by
  have h6 := h.n6
  have e3 : ¬ σ 28 k = 3 := fun q => by
    rw [q] at hs
    exact absurd hs (by decide)
  have e4 : ¬ σ 28 k = 4 := fun q => by
    rw [q] at hs
    exact absurd hs (by decide)
  unfold S_X6_cancel S_X6_cancel_27 S_X0_isOver
  rw [h.n0, ri_ok hk (by omega), nI_clamp (by omega), if_pos rfl, if_neg e3, if_neg e4, if_pos rfl, rqp1, if_pos rfl]
theorem I_cancel (h : II σ m n c) : II (up2 σ 28 k 4) m n c := by
  have e : ∀ f i, f ≠ 28 → up2 σ 28 k 4 f i = σ f i := fun f i z => up2_f z _ _ _ _
  have ls : Kp σ (up2 σ 28 k 4) := Kp.up (fun z => absurd z (by decide))
  obtain ⟨h1, h2, h3, h4, h5, h6, h7, h8, h9, h10⟩ := h
  refine ⟨h1.cg (e 0 0 (by decide)), h2.cg (e 3 0 (by decide)) (e 4 0 (by decide)), h3.cg (fun f i q => e f i (by omega)), h4.cg (e 7 0 (by decide)), h5.cg (fun f i q => e f i (by omega)), h6.cg (fun f q => e f 0 (by omega)), h7.cg (e 1 0 (by decide)), fun j hj => ?_, h9.cg (fun i => e 33 i (by decide)), h10.cg (fun f i q => e f i (by omega))⟩
  rw [e 25 j (by decide), e 40 j (by decide), e 33 j (by decide), e 30 j (by decide)]
  obtain ⟨q1, q2, i, i1, i2, i3⟩ := h8 j hj
  exact ⟨q1, q2, i, i1, i2, fun q => i3 (ls j q)⟩
def RL9 (σ : St) (L d x : Nat) : St := up2 (up2 (up2 (up2 σ 19 0 (nI (L - x))) 21 0 (σ 21 0 + nI x)) 23 0 0) 24 0 (nI (d + x))
theorem V_release (h : II σ m n c) {L d x : Nat} (eL : σ 19 0 = nI L) (ed : σ 24 0 = nI d) (h1 : 1 ≤ x) (h2 : x ≤ 300) (h3 : x ≤ L) (h4 : d + x ≤ 500) (hL : L ≤ 100000) : S_X6_release σ (nI x) = (0, nI (d + x), RL9 σ L d x) := by
  have hm := h.mb
  obtain ⟨-, -, b1, b2, -⟩ := h.b
  have eq : σ 0 0 / 1440 = 0 := by
    rw [h.m0, show (1440 : Int32) = nI 1440 from rfl, pk_div (by omega) (by decide) (by decide), Nat.div_eq_of_lt (by omega)]
    rfl
  have er : S_X1_riverOn σ 0 + nI x = nI (d + x) := by
    unfold S_X1_riverOn
    rw [b2, if_pos rfl, ed, nI_add]
  unfold S_X6_release S_X6_release_54 RL9
  rw [eq, er, b1, eL, show (1 : Int32) = nI 1 from rfl, show (100000 : Int32) = nI 100000 from rfl, rr_ok h1 (by omega) (by decide), if_pos rfl, if_neg (nI_nlt h3 (by omega)), show (500 : Int32) = nI 500 from rfl, if_neg (nI_nlt h4 (by decide)), show S_X6_requirePossible (nI 1) = 0 from rqp1, if_pos rfl, pk_sub h3]
theorem sw_rel (x a b r k : Int32) : x + (a - k) + b + (r + k) = x + a + b + r := by
  rw [Int32.add_assoc (x + (a - k)) b, ← Int32.add_assoc b r k, sw_add, Int32.add_assoc (x + a)]
theorem I_release (h : II σ m n c) {L d x : Nat} (eL : σ 19 0 = nI L) (h3 : x ≤ L) (h4 : d + x ≤ 500) (hL : L ≤ 1000 * c) : II (RL9 σ L d x) m n c := by
  have hb := h.bal
  have e : ∀ f i, ¬ (f = 19 ∨ f = 21 ∨ f = 23 ∨ f = 24) → RL9 σ L d x f i = σ f i := fun f i z => (((up2_f (by omega) _ _ _ _).trans (up2_f (by omega) _ _ _ _)).trans (up2_f (by omega) _ _ _ _)).trans (up2_f (by omega) _ _ _ _)
  have e19 : RL9 σ L d x 19 0 = nI (L - x) := by
    unfold RL9
    rw [up2_f (by decide), up2_f (by decide), up2_f (by decide), up2_s]
  have e21 : RL9 σ L d x 21 0 = σ 21 0 + nI x := by
    unfold RL9
    rw [up2_f (by decide), up2_f (by decide), up2_s]
  have e23 : RL9 σ L d x 23 0 = 0 := by
    unfold RL9
    rw [up2_f (by decide), up2_s]
  have e24 : RL9 σ L d x 24 0 = nI (d + x) := up2_s _ _ _ _
  obtain ⟨h1, h2, h3, h4, h5, ⟨-, ⟨C, c1, c2⟩, b1, -⟩, h7, h8, h9, h10⟩ := h
  refine ⟨h1.cg (e 0 0 (by decide)), h2.cg (e 3 0 (by decide)) (e 4 0 (by decide)), h3.cg (fun f i q => e f i (by omega)), h4.cg (e 7 0 (by decide)), h5.cg (fun f i q => e f i (by omega)), ⟨⟨L - x, by omega, e19⟩, ⟨C, c1, (e 20 0 (by decide)).trans c2⟩, (e 22 0 (by decide)).trans b1, e23, d + x, by assumption, e24⟩, h7.cg (e 1 0 (by decide)), h8.cg (fun f i q => e f i (by omega)), h9.cg (fun i => e 33 i (by decide)), ?_⟩
  unfold BAL at *
  rw [lo_cg (σ := σ) n (fun k _ => e 31 k (by decide)), e 18 0 (by decide), e 14 0 (by decide), e 14 1 (by decide), e 14 2 (by decide), e 20 0 (by decide), e19, e21, ← pk_sub (by assumption), sw_rel, ← eL]
  exact hb
end VV
