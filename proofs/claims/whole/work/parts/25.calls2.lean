/-! the calls of both alike (groups by program) -/
section RMK
variable {σ τ σ' τ' : St} {m n c t k : Nat}
theorem RR.mkW (h : RR σ τ m n c) (hs : ∀ f i, ¬ (2 ≤ f ∧ f ≤ 5) → σ' f i = σ f i) (hq : ∀ f i, ¬ (42 ≤ f ∧ f ≤ 45) ∧ f ≠ 40 → τ' f i = τ f i) (h' : RW σ' τ') : RR σ' τ' m n c := by
  obtain ⟨h1, h2, h3, h4, h5, h6, ⟨n1, n2, n3⟩, h8, h9⟩ := h
  refine ⟨h1.cg (hs _ _ (by omega)) (hq _ _ (by omega)), h', fun j q => (h3 j q).cg (fun f q => hs _ _ (by omega)) (fun f q => hq _ _ (by omega)), h4.cg (fun f q => hs _ _ (by omega)) (fun f q => hq _ _ (by omega)), h5.cg (fun f i q => hs _ _ (by omega)) (fun f i q => hq _ _ (by omega)), h6.cg (fun f q => hs _ _ (by omega)) (fun f q => hq _ _ (by omega)), ⟨n1, (hs _ _ (by omega)).trans n2, (hq _ _ (by omega)).trans n3⟩, fun j q => (h8 j q).cg (fun f q => hs _ _ (by omega)) (fun f q => hq _ _ (by omega)), h9.cg (fun i q => hs _ _ (by omega)) (fun f i q1 q => hq _ _ (by omega))⟩
theorem RR.mkT (h : RR σ τ m n c) (hs : ∀ f i, ¬ (9 ≤ f ∧ f ≤ 13 ∧ i = t) → σ' f i = σ f i) (hq : ∀ f i, ¬ (46 ≤ f ∧ f ≤ 50 ∧ i = t) ∧ f ≠ 40 → τ' f i = τ f i) (h' : RT σ' τ' m t) : RR σ' τ' m n c := by
  obtain ⟨h1, h2, h3, h4, h5, h6, ⟨n1, n2, n3⟩, h8, h9⟩ := h
  refine ⟨h1.cg (hs _ _ (by omega)) (hq _ _ (by omega)), h2.cg (fun f q => hs _ _ (by omega)) (fun f q => hq _ _ (by omega)), fun j q => ?_, h4.cg (fun f q => hs _ _ (by omega)) (fun f q => hq _ _ (by omega)), h5.cg (fun f i q => hs _ _ (by omega)) (fun f i q => hq _ _ (by omega)), h6.cg (fun f q => hs _ _ (by omega)) (fun f q => hq _ _ (by omega)), ⟨n1, (hs _ _ (by omega)).trans n2, (hq _ _ (by omega)).trans n3⟩, fun j q => (h8 j q).cg (fun f q => hs _ _ (by omega)) (fun f q => hq _ _ (by omega)), h9.cg (fun i q => hs _ _ (by omega)) (fun f i q1 q => hq _ _ (by omega))⟩
  by_cases e : j = t
  · rw [e]
    exact h'
  · exact (h3 j q).cg (fun f q => hs _ _ (by omega)) (fun f q => hq _ _ (by omega))
theorem RR.mkU (h : RR σ τ m n c) (hs : ∀ f i, ¬ (6 ≤ f ∧ f ≤ 8) → σ' f i = σ f i) (hq : ∀ f i, ¬ (f = 51 ∨ f = 52 ∨ f = 74) ∧ f ≠ 40 → τ' f i = τ f i) (h' : RU σ' τ') : RR σ' τ' m n c := by
  obtain ⟨h1, h2, h3, h4, h5, h6, ⟨n1, n2, n3⟩, h8, h9⟩ := h
  refine ⟨h1.cg (hs _ _ (by omega)) (hq _ _ (by omega)), h2.cg (fun f q => hs _ _ (by omega)) (fun f q => hq _ _ (by omega)), fun j q => (h3 j q).cg (fun f q => hs _ _ (by omega)) (fun f q => hq _ _ (by omega)), h', h5.cg (fun f i q => hs _ _ (by omega)) (fun f i q => hq _ _ (by omega)), h6.cg (fun f q => hs _ _ (by omega)) (fun f q => hq _ _ (by omega)), ⟨n1, (hs _ _ (by omega)).trans n2, (hq _ _ (by omega)).trans n3⟩, fun j q => (h8 j q).cg (fun f q => hs _ _ (by omega)) (fun f q => hq _ _ (by omega)), h9.cg (fun i q => hs _ _ (by omega)) (fun f i q1 q => hq _ _ (by omega))⟩
theorem RR.mkF (h : RR σ τ m n c) (hs : ∀ f i, ¬ (14 ≤ f ∧ f ≤ 18) → σ' f i = σ f i) (hq : ∀ f i, ¬ (f = 53 ∨ f = 54 ∨ f = 68) ∧ f ≠ 40 → τ' f i = τ f i) (h' : RF σ' τ') : RR σ' τ' m n c := by
  obtain ⟨h1, h2, h3, h4, h5, h6, ⟨n1, n2, n3⟩, h8, h9⟩ := h
  refine ⟨h1.cg (hs _ _ (by omega)) (hq _ _ (by omega)), h2.cg (fun f q => hs _ _ (by omega)) (fun f q => hq _ _ (by omega)), fun j q => (h3 j q).cg (fun f q => hs _ _ (by omega)) (fun f q => hq _ _ (by omega)), h4.cg (fun f q => hs _ _ (by omega)) (fun f q => hq _ _ (by omega)), h', h6.cg (fun f q => hs _ _ (by omega)) (fun f q => hq _ _ (by omega)), ⟨n1, (hs _ _ (by omega)).trans n2, (hq _ _ (by omega)).trans n3⟩, fun j q => (h8 j q).cg (fun f q => hs _ _ (by omega)) (fun f q => hq _ _ (by omega)), h9.cg (fun i q => hs _ _ (by omega)) (fun f i q1 q => hq _ _ (by omega))⟩
theorem RR.mkB (h : RR σ τ m n c) (hs : ∀ f i, ¬ (19 ≤ f ∧ f ≤ 24) → σ' f i = σ f i) (hq : ∀ f i, ¬ (69 ≤ f ∧ f ≤ 73) ∧ f ≠ 40 → τ' f i = τ f i) (h' : RB σ' τ' m) : RR σ' τ' m n c := by
  obtain ⟨h1, h2, h3, h4, h5, h6, ⟨n1, n2, n3⟩, h8, h9⟩ := h
  refine ⟨h1.cg (hs _ _ (by omega)) (hq _ _ (by omega)), h2.cg (fun f q => hs _ _ (by omega)) (fun f q => hq _ _ (by omega)), fun j q => (h3 j q).cg (fun f q => hs _ _ (by omega)) (fun f q => hq _ _ (by omega)), h4.cg (fun f q => hs _ _ (by omega)) (fun f q => hq _ _ (by omega)), h5.cg (fun f i q => hs _ _ (by omega)) (fun f i q => hq _ _ (by omega)), h', ⟨n1, (hs _ _ (by omega)).trans n2, (hq _ _ (by omega)).trans n3⟩, fun j q => (h8 j q).cg (fun f q => hs _ _ (by omega)) (fun f q => hq _ _ (by omega)), h9.cg (fun i q => hs _ _ (by omega)) (fun f i q1 q => hq _ _ (by omega))⟩
theorem RR.mkK (h : RR σ τ m n c) (hk : k < n) (hs : ∀ f i, ¬ (25 ≤ f ∧ f ≤ 36 ∧ i = k) → σ' f i = σ f i) (hq : ∀ f i, ¬ (56 ≤ f ∧ f ≤ 67 ∧ i = k) ∧ f ≠ 40 → τ' f i = τ f i) (h' : RK σ' τ' c k) : RR σ' τ' m n c := by
  obtain ⟨h1, h2, h3, h4, h5, h6, ⟨n1, n2, n3⟩, h8, h9⟩ := h
  refine ⟨h1.cg (hs _ _ (by omega)) (hq _ _ (by omega)), h2.cg (fun f q => hs _ _ (by omega)) (fun f q => hq _ _ (by omega)), fun j q => (h3 j q).cg (fun f q => hs _ _ (by omega)) (fun f q => hq _ _ (by omega)), h4.cg (fun f q => hs _ _ (by omega)) (fun f q => hq _ _ (by omega)), h5.cg (fun f i q => hs _ _ (by omega)) (fun f i q => hq _ _ (by omega)), h6.cg (fun f q => hs _ _ (by omega)) (fun f q => hq _ _ (by omega)), ⟨n1, (hs _ _ (by omega)).trans n2, (hq _ _ (by omega)).trans n3⟩, fun j q => ?_, h9.cg (fun i q => hs _ _ (by omega)) (fun f i q1 q => hq _ _ (by omega))⟩
  by_cases e : j = k
  · rw [e]
    exact h'
  · exact (h8 j q).cg (fun f q => hs _ _ (by omega)) (fun f q => hq _ _ (by omega))
theorem RR.mkX (h : RR σ τ m n c) (hk : k < n) (hs : ∀ f i, f ≠ 14 ∧ f ≠ 19 ∧ ¬ (25 ≤ f ∧ f ≤ 36 ∧ i = k) → σ' f i = σ f i) (hq : ∀ f i, f ≠ 40 ∧ f ≠ 53 ∧ f ≠ 69 ∧ ¬ (56 ≤ f ∧ f ≤ 67 ∧ i = k) → τ' f i = τ f i) (hF : RF σ' τ') (hB : RB σ' τ' m) (h' : RK σ' τ' c k) : RR σ' τ' m n c := by
  obtain ⟨h1, h2, h3, h4, h5, h6, ⟨n1, n2, n3⟩, h8, h9⟩ := h
  refine ⟨h1.cg (hs _ _ (by omega)) (hq _ _ (by omega)), h2.cg (fun f q => hs _ _ (by omega)) (fun f q => hq _ _ (by omega)), fun j q => (h3 j q).cg (fun f q => hs _ _ (by omega)) (fun f q => hq _ _ (by omega)), h4.cg (fun f q => hs _ _ (by omega)) (fun f q => hq _ _ (by omega)), hF, hB, ⟨n1, (hs _ _ (by omega)).trans n2, (hq _ _ (by omega)).trans n3⟩, fun j q => ?_, h9.cg (fun i q => hs _ _ (by omega)) (fun f i q1 q => hq _ _ (by omega))⟩
  by_cases e : j = k
  · rw [e]
    exact h'
  · exact (h8 j q).cg (fun f q => hs _ _ (by omega)) (fun f q => hq _ _ (by omega))
theorem RR.mkA (h : RR σ τ m n c) (hn : n < 20) (hs : ∀ f i, ¬ (f = 1 ∧ i = 0) ∧ ¬ (25 ≤ f ∧ f ≤ 36 ∧ i = n) → σ' f i = σ f i) (hq : ∀ f i, f ≠ 40 ∧ f ≠ 55 ∧ ¬ (56 ≤ f ∧ f ≤ 67 ∧ i = n) → τ' f i = τ f i) (e1 : σ' 1 0 = nI (n + 1)) (e2 : τ' 55 0 = nI (n + 1)) (h' : RK σ' τ' c n) : RR σ' τ' m (n + 1) c := by
  obtain ⟨h1, h2, h3, h4, h5, h6, ⟨n1, n2, n3⟩, h8, h9⟩ := h
  refine ⟨h1.cg (hs _ _ (by omega)) (hq _ _ (by omega)), h2.cg (fun f q => hs _ _ (by omega)) (fun f q => hq _ _ (by omega)), fun j q => (h3 j q).cg (fun f q => hs _ _ (by omega)) (fun f q => hq _ _ (by omega)), h4.cg (fun f q => hs _ _ (by omega)) (fun f q => hq _ _ (by omega)), h5.cg (fun f i q => hs _ _ (by omega)) (fun f i q => hq _ _ (by omega)), h6.cg (fun f q => hs _ _ (by omega)) (fun f q => hq _ _ (by omega)), ⟨by omega, e1, e2⟩, fun j q => ?_, RN.cg (fun i q => hs _ _ (by omega)) (fun f i q1 q => hq _ _ (by omega)) (fun i q => h9 i (by omega))⟩
  by_cases e : j = n
  · rw [e]
    exact h'
  · exact (h8 j (by omega)).cg (fun f q => hs _ _ (by omega)) (fun f q => hq _ _ (by omega))
theorem RR.lc {c' : Nat} (hc : c ≤ c') (h : RR σ τ m n c) : RR σ τ m n c' := by
  obtain ⟨h1, h2, h3, h4, h5, h6, h7, h8, h9⟩ := h
  exact ⟨h1, h2, h3, h4, h5, h6, h7, fun k q => (h8 k q).le hc, h9⟩
theorem RR.cgr (h : RR σ τ m n c) (hq : ∀ f i, 41 ≤ f → τ' f i = τ f i) : RR σ τ' m n c := by
  have hs : ∀ f i, 0 ≤ f → σ f i = σ f i := fun f i _ => rfl
  obtain ⟨h1, h2, h3, h4, h5, h6, ⟨n1, n2, n3⟩, h8, h9⟩ := h
  exact ⟨h1.cg (hs _ _ (by omega)) (hq _ _ (by omega)), h2.cg (fun f q => hs _ _ (by omega)) (fun f q => hq _ _ (by omega)), fun j q => (h3 j q).cg (fun f q => hs _ _ (by omega)) (fun f q => hq _ _ (by omega)), h4.cg (fun f q => hs _ _ (by omega)) (fun f q => hq _ _ (by omega)), h5.cg (fun f i q => hs _ _ (by omega)) (fun f i q => hq _ _ (by omega)), h6.cg (fun f q => hs _ _ (by omega)) (fun f q => hq _ _ (by omega)), ⟨n1, (hs _ _ (by omega)).trans n2, (hq _ _ (by omega)).trans n3⟩, fun j q => (h8 j q).cg (fun f q => hs _ _ (by omega)) (fun f q => hq _ _ (by omega)), h9.cg (fun i q => hs _ _ (by omega)) (fun f i q1 q => hq _ _ (by omega))⟩
theorem RR.cgc (h : RR σ τ m n c) (hs : ∀ f i, f < 40 → σ' f i = σ f i) : RR σ' τ m n c := by
  have hq : ∀ f i, 0 ≤ f → τ f i = τ f i := fun f i _ => rfl
  obtain ⟨h1, h2, h3, h4, h5, h6, ⟨n1, n2, n3⟩, h8, h9⟩ := h
  exact ⟨h1.cg (hs _ _ (by omega)) (hq _ _ (by omega)), h2.cg (fun f q => hs _ _ (by omega)) (fun f q => hq _ _ (by omega)), fun j q => (h3 j q).cg (fun f q => hs _ _ (by omega)) (fun f q => hq _ _ (by omega)), h4.cg (fun f q => hs _ _ (by omega)) (fun f q => hq _ _ (by omega)), h5.cg (fun f i q => hs _ _ (by omega)) (fun f i q => hq _ _ (by omega)), h6.cg (fun f q => hs _ _ (by omega)) (fun f q => hq _ _ (by omega)), ⟨n1, (hs _ _ (by omega)).trans n2, (hq _ _ (by omega)).trans n3⟩, fun j q => (h8 j q).cg (fun f q => hs _ _ (by omega)) (fun f q => hq _ _ (by omega)), h9.cg (fun i q => hs _ _ (by omega)) (fun f i q1 q => hq _ _ (by omega))⟩
theorem RR.t40 (h : RR σ τ m n c) (v : Int32) : RR σ (up2 τ 40 0 v) m n c := h.cgr (fun f i q => up2_f (by omega) _ _ _ _)
end RMK
theorem rR_eq (x lo hi : Int32) : S_X6_requireRange x lo hi = if S_X7_in x lo hi = 0 then 2 else 0 := by
  unfold S_X6_requireRange S_X7_in
  by_cases c1 : x < lo
  · rw [if_pos c1, if_pos c1, if_pos rfl]
  · rw [if_neg c1, if_neg c1]
    by_cases c2 : x ≤ hi
    · rw [if_pos c2, if_neg (Int32.not_lt.mpr c2), if_neg (by decide)]
    · rw [if_neg c2, if_pos (Int32.not_le.mp c2), if_pos rfl]
theorem rI_eq3 (x : Int32) : S_X6_requireIndex x 3 = if S_X7_in x 0 2 = 0 then 1 else 0 := by
  unfold S_X6_requireIndex S_X7_in
  by_cases c1 : x < 0
  · rw [if_pos c1, if_pos c1, if_pos rfl]
  · rw [if_neg c1, if_neg c1]
    have e2 : (2 : Int32).toInt = 2 := by decide
    have e3 : (3 : Int32).toInt = 3 := by decide
    by_cases c2 : x < 3
    · have q : ¬ (2 : Int32) < x := fun q => by
        rw [Int32.lt_iff_toInt_lt] at c2 q
        omega
      rw [if_pos c2, if_neg q, if_neg (show ¬ (1 : Int32) = 0 by decide)]
    · have q : (2 : Int32) < x := by
        rw [Int32.lt_iff_toInt_lt] at c2 ⊢
        omega
      rw [if_neg c2, if_pos q, if_pos rfl]
theorem rI_eq {n : Nat} (hn : n ≤ 20) (x : Int32) : S_X6_requireIndex x (nI n) = if S_X7_in x 0 (nI n - 1) = 0 then 1 else 0 := by
  unfold S_X6_requireIndex S_X7_in
  by_cases c1 : x < 0
  · rw [if_pos c1, if_pos c1, if_pos rfl]
  · rw [if_neg c1, if_neg c1]
    have e2 : (nI n - 1).toInt = (n : Int) - (1 : Nat) := pk_sub_toInt (a := n) (b := 1) (by omega) (by decide)
    have e3 : (nI n).toInt = n := nI_toInt (by omega)
    by_cases c2 : x < nI n
    · have q : ¬ nI n - 1 < x := fun q => by
        rw [Int32.lt_iff_toInt_lt] at c2 q
        omega
      rw [if_pos c2, if_neg q, if_neg (show ¬ (1 : Int32) = 0 by decide)]
    · have q : nI n - 1 < x := by
        rw [Int32.lt_iff_toInt_lt] at c2 ⊢
        omega
      rw [if_neg c2, if_pos q, if_pos rfl]
theorem in_nat {x M : Int32} {n : Nat} (hM : M.toInt = n) (h : ¬ S_X7_in x 0 M = 0) : ∃ j : Nat, j ≤ n ∧ x = nI j := by
  obtain ⟨h1, h2⟩ := in_of h
  exact nI_of2 hM h1 (Int32.not_lt.mp h2)
theorem in_natn {x : Int32} {n : Nat} (hn : n ≤ 20) (h : ¬ S_X7_in x 0 (nI n - 1) = 0) : ∃ j : Nat, j < n ∧ x = nI j := by
  obtain ⟨h1, h2⟩ := in_of h
  obtain ⟨j, hj, rfl⟩ := nI_of h1
  refine ⟨j, ?_, rfl⟩
  have e2 : (nI n - 1).toInt = (n : Int) - (1 : Nat) := pk_sub_toInt (a := n) (b := 1) (by omega) (by decide)
  rw [Int32.lt_iff_toInt_lt, e2, nI_toInt hj] at h2
  omega
/-- a call of both, held against each other -/
def AL (σ : St) (m n c : Nat) (a b n' : Nat) (T : Nat × Int32 × St) (U : Int32 × St) : Prop := U.2 40 0 = wcd a b T.1 ∧ (T.1 = 0 → U.1 = T.2.1 ∧ ∃ m' : Nat, m' ≤ m + 500 ∧ RR T.2.2 U.2 m' n' (c + 1)) ∧ (¬ T.1 = 0 → RR σ U.2 m n (c + 1))
theorem AL.thr {σ τ : St} {m n c a b n' k : Nat} {v w y : Int32} (h : RR σ τ m n c) (hk : ¬ k = 0) (hy : y = wcd a b k) : AL σ m n c a b n' (k, v, σ) (w, up2 τ 40 0 y) :=
  ⟨(up2_s τ 40 0 y).trans hy, fun q => absurd q hk, fun _ => (h.t40 y).lc (by omega)⟩
theorem AL.ok {σ σ' τ' : St} {m n c a b n' : Nat} {v w : Int32} (h0 : τ' 40 0 = 0) (hv : w = v) (h : RR σ' τ' m n' (c + 1)) : AL σ m n c a b n' (0, v, σ') (w, τ') :=
  ⟨h0, fun _ => ⟨hv, m, by omega, h⟩, fun q => absurd rfl q⟩
theorem A_weather {σ τ : St} {m n c : Nat} (h : RR σ τ m n c) (p1 p2 p3 p4 : Int32) : S_X7_weather τ p1 p2 p3 p4 40 0 = wcd 2 9 (S_X6_weather σ p1 p2 p3 p4).1 ∧ ((S_X6_weather σ p1 p2 p3 p4).1 = 0 → RR (S_X6_weather σ p1 p2 p3 p4).2 (S_X7_weather τ p1 p2 p3 p4) m n (c + 1)) ∧ (¬ (S_X6_weather σ p1 p2 p3 p4).1 = 0 → RR σ (S_X7_weather τ p1 p2 p3 p4) m n (c + 1)) := by
  have thr : S_X7_weather_49 τ p1 p2 p3 p4 1 40 0 = wcd 2 9 2 ∧ (2 = 0 → RR σ (S_X7_weather_49 τ p1 p2 p3 p4 1) m n (c + 1)) ∧ (¬ 2 = 0 → RR σ (S_X7_weather_49 τ p1 p2 p3 p4 1) m n (c + 1)) := by
    unfold S_X7_weather_49
    rw [if_neg (by decide)]
    exact ⟨up2_s _ _ _ _, fun q => absurd q (by decide), fun _ => (h.t40 1).lc (by omega)⟩
  unfold S_X6_weather S_X7_weather
  rw [rR_eq, rR_eq, rR_eq, rR_eq]
  by_cases c1 : S_X7_in p1 (-400) 400 = 0
  · rw [if_pos c1, if_pos c1, if_neg (by decide)]
    exact thr
  · rw [if_neg c1, if_neg c1, if_pos rfl]
    by_cases c2 : S_X7_in p2 0 3 = 0
    · rw [if_pos c2, if_pos c2, if_neg (by decide)]
      exact thr
    · rw [if_neg c2, if_neg c2, if_pos rfl]
      by_cases c3 : S_X7_in p3 0 30 = 0
      · rw [if_pos c3, if_pos c3, if_neg (by decide)]
        exact thr
      · rw [if_neg c3, if_neg c3, if_pos rfl]
        by_cases c4 : S_X7_in p4 0 60 = 0
        · rw [if_pos c4, if_pos c4, if_neg (by decide)]
          exact thr
        · rw [if_neg c4, if_neg c4, if_pos rfl]
          unfold S_X7_weather_49
          rw [if_pos rfl]
          obtain ⟨f, hf, rfl⟩ := in_nat (n := 3) (by decide) c2
          obtain ⟨r, hr, rfl⟩ := in_nat (n := 30) (by decide) c3
          refine ⟨by simp (config := { decide := true }) only [up2_s, up2_f], fun _ => RR.lc (by omega) (h.mkW (fun f i q => ?_) (fun f i q => ?_) ?_), fun q => absurd rfl q⟩
          · unfold up2
            try dsimp only
            rw [if_neg (by omega), if_neg (by omega), if_neg (by omega), if_neg (by omega)]
          · unfold up2
            try dsimp only
            rw [if_neg (by omega), if_neg (by omega), if_neg (by omega), if_neg (by omega), if_neg (by omega)]
          · unfold RW
            simp (config := { decide := true }) only [up2_s, up2_f]
            refine ⟨trivial, trivial, trivial, trivial, ?_, r, hr, rfl⟩
            match f, hf with
            | 0, _ => exact Or.inl rfl
            | 1, _ => exact Or.inr (Or.inl rfl)
            | 2, _ => exact Or.inr (Or.inr (Or.inl rfl))
            | 3, _ => exact Or.inr (Or.inr (Or.inr rfl))
theorem A_spray {σ τ : St} {m n c : Nat} (h : RR σ τ m n c) (p1 : Int32) : AL σ m n c 1 9 n (S_X6_spray σ p1) (S_X7_spray τ p1) := by
  unfold S_X6_spray S_X7_spray S_X7_spray_13 S_X7_isThird
  rw [rI_eq3]
  by_cases c1 : S_X7_in p1 0 2 = 0
  · rw [if_pos c1, if_pos c1, if_neg (by decide), if_neg (by decide)]
    exact AL.thr h (by decide) rfl
  · rw [if_neg c1, if_neg c1, if_pos rfl, if_pos (by decide)]
    obtain ⟨t, ht, rfl⟩ := in_nat (n := 2) (by decide) c1
    rw [nI_clamp (by omega)]
    refine AL.ok (by simp (config := { decide := true }) only [up2_s, up2_f]) (by rw [h.gm.2.1, h.gm.2.2]) (RR.lc (by omega) (h.mkT (t := t) (fun f i q => ?_) (fun f i q => ?_) ?_))
    · unfold up2
      try dsimp only
      rw [if_neg (by omega)]
    · unfold up2
      try dsimp only
      rw [if_neg (by omega), if_neg (by omega)]
    · obtain ⟨t1, t2, t3, t4, t5, t6⟩ := h.gt t (by omega)
      unfold RT
      simp (config := { decide := true }) only [up2_s, up2_f]
      exact ⟨t1, t2, by rw [h.gm.2.1, h.gm.2.2], t4, t5, t6⟩
theorem A_close {σ τ : St} {m n c : Nat} (h : RR σ τ m n c) (p1 p2 : Int32) : AL σ m n c 2 9 n (S_X6_close σ p1 p2) (S_X7_close τ p1 p2) := by
  unfold S_X6_close S_X7_close S_X7_close_27
  rw [rR_eq, rR_eq]
  by_cases c1 : S_X7_in p1 1 500 = 0
  · rw [if_pos c1, if_pos c1, if_neg (by decide), if_neg (by decide)]
    exact AL.thr h (by decide) rfl
  · rw [if_neg c1, if_neg c1, if_pos rfl]
    by_cases c2 : S_X7_in p2 0 11 = 0
    · rw [if_pos c2, if_pos c2, if_neg (by decide), if_neg (by decide)]
      exact AL.thr h (by decide) rfl
    · rw [if_neg c2, if_neg c2, if_pos rfl, if_pos (by decide)]
      obtain ⟨q, hq, rfl⟩ := in_nat (n := 11) (by decide) c2
      refine AL.ok (by simp (config := { decide := true }) only [up2_s, up2_f]) (by rw [h.gm.2.1, h.gm.2.2]) (RR.lc (by omega) (h.mkU (fun f i q => ?_) (fun f i q => ?_) ?_))
      · unfold up2
        try dsimp only
        rw [if_neg (by omega), if_neg (by omega)]
      · unfold up2
        try dsimp only
        rw [if_neg (by omega), if_neg (by omega), if_neg (by omega)]
      · unfold RU
        simp (config := { decide := true }) only [up2_s, up2_f]
        exact ⟨by rw [h.gm.2.1, h.gm.2.2], trivial, h.gu.2.2.1, q, hq, rfl⟩
theorem A_pilot {σ τ : St} {m n c : Nat} (h : RR σ τ m n c) (p1 p2 : Int32) : AL σ m n c 1 2 n (S_X6_pilot σ p1 p2) (S_X7_pilot τ p1 p2) := by
  unfold S_X6_pilot S_X7_pilot S_X7_pilot_27 S_X7_isThird
  rw [rI_eq3, rR_eq]
  by_cases c1 : S_X7_in p1 0 2 = 0
  · rw [if_pos c1, if_pos c1, if_neg (by decide), if_neg (by decide)]
    exact AL.thr h (by decide) rfl
  · rw [if_neg c1, if_neg c1, if_pos rfl]
    by_cases c2 : S_X7_in p2 0 6 = 0
    · rw [if_pos c2, if_pos c2, if_neg (by decide), if_neg (by decide)]
      exact AL.thr h (by decide) rfl
    · rw [if_neg c2, if_neg c2, if_pos rfl, if_pos (by decide)]
      obtain ⟨t, ht, rfl⟩ := in_nat (n := 2) (by decide) c1
      rw [nI_clamp (by omega)]
      have key : RR (up2 (up2 σ 12 t (σ 0 0)) 13 t p2) (up2 (up2 (up2 τ 40 0 0) 49 t p2) 50 t (τ 41 0)) m n c := by
        refine h.mkT (t := t) (fun f i q => ?_) (fun f i q => ?_) ?_
        · unfold up2
          try dsimp only
          rw [if_neg (by omega), if_neg (by omega)]
        · unfold up2
          try dsimp only
          rw [if_neg (by omega), if_neg (by omega), if_neg (by omega)]
        · obtain ⟨t1, t2, t3, t4, t5, t6⟩ := h.gt t (by omega)
          unfold RT
          simp (config := { decide := true }) only [up2_s, up2_f]
          exact ⟨t1, t2, t3, trivial, t5, Or.inr ⟨m, by omega, h.gm.2.1, h.gm.2.2⟩⟩
      refine AL.ok (by simp (config := { decide := true }) only [up2_s, up2_f]) ?_ (key.lc (by omega))
      rw [code_eq (by omega) key.gm key.gw (key.gt t (by omega)), up2_f (by decide), up2_f (by decide)]
theorem A_supply {σ τ : St} {m n c : Nat} (h : RR σ τ m n c) (p1 p2 : Int32) : AL σ m n c 1 2 n (S_X6_supply σ p1 p2) (S_X7_supply τ p1 p2) := by
  unfold S_X6_supply S_X7_supply S_X7_supply_45 S_X7_isFluid S_X6_supply_34
  rw [rI_eq3, rR_eq, rqp0, rqp1]
  by_cases c1 : S_X7_in p1 0 2 = 0
  · rw [if_pos c1, if_pos c1, if_neg (by decide), if_neg (by decide)]
    exact AL.thr h (by decide) rfl
  · rw [if_neg c1, if_neg c1, if_pos rfl]
    by_cases c2 : S_X7_in p2 1 10000 = 0
    · rw [if_pos c2, if_pos c2, if_neg (by decide), if_neg (by decide)]
      exact AL.thr h (by decide) rfl
    · rw [if_neg c2, if_neg c2, if_pos rfl]
      obtain ⟨t, ht, rfl⟩ := in_nat (n := 2) (by decide) c1
      rw [nI_clamp (by omega), h.gf.2.1 t (by omega)]
      by_cases c3 : 100000 < σ 14 t + p2
      · rw [if_pos c3, if_neg (Int32.not_le.mpr c3), if_neg (by decide), if_neg (by decide)]
        exact AL.thr h (by decide) rfl
      · rw [if_neg c3, if_pos (Int32.not_lt.mp c3), if_pos rfl, if_pos (by decide)]
        refine AL.ok (by simp (config := { decide := true }) only [up2_s, up2_f]) rfl (RR.lc (by omega) (h.mkF (fun f i q => ?_) (fun f i q => ?_) ?_))
        · unfold up2
          try dsimp only
          rw [if_neg (by omega), if_neg (by omega)]
        · unfold up2
          try dsimp only
          rw [if_neg (by omega), if_neg (by omega), if_neg (by omega)]
        · obtain ⟨f1, f2, f3⟩ := h.gf
          refine ⟨?_, fun f hf => ?_, fun f hf g hg => ?_⟩
          · rw [up2_s, up2_s, f1]
          · rw [up2_f (f := 68) (by decide), up2_f (f := 18) (by decide)]
            by_cases e : f = t
            · rw [e, up2_s, up2_s]
            · rw [up2_i e, up2_i e, up2_f (by decide), f2 f hf]
          · rw [up2_f (by decide), up2_f (by decide), up2_f (by decide), up2_f (by omega), up2_f (by omega), f3 f hf g hg]
theorem A_table {σ τ : St} {m n c : Nat} (h : RR σ τ m n c) (p1 p2 p3 : Int32) : AL σ m n c 1 2 n (S_X6_table σ p1 p2 p3) (S_X7_table τ p1 p2 p3) := by
  unfold S_X6_table S_X7_table S_X7_table_37 S_X7_isFluid
  rw [rI_eq3, rR_eq, rR_eq]
  by_cases c1 : S_X7_in p1 0 2 = 0
  · rw [if_pos c1, if_pos c1, if_neg (by decide), if_neg (by decide)]
    exact AL.thr h (by decide) rfl
  · rw [if_neg c1, if_neg c1, if_pos rfl]
    by_cases c2 : S_X7_in p2 1 3 = 0
    · rw [if_pos c2, if_pos c2, if_neg (by decide), if_neg (by decide)]
      exact AL.thr h (by decide) rfl
    · rw [if_neg c2, if_neg c2, if_pos rfl]
      by_cases c3 : S_X7_in p3 1 1000 = 0
      · rw [if_pos c3, if_pos c3, if_neg (by decide), if_neg (by decide)]
        exact AL.thr h (by decide) rfl
      · rw [if_neg c3, if_neg c3, if_pos rfl, if_pos (by decide)]
        obtain ⟨t, ht, rfl⟩ := in_nat (n := 2) (by decide) c1
        obtain ⟨g, hg, rfl⟩ := vp_in_of (in_13 c2) (by decide)
        obtain ⟨f1, f2, f3⟩ := h.gf
        rw [nI_clamp (by omega), nI_clamp (by omega), show (4 : Int32) * nI t = nI (4 * t) from (Int32.ofNat_mul 4 t).symm, nI_add, nI_clamp (by omega)]
        refine AL.ok (by simp (config := { decide := true }) only [up2_s, up2_f]) (f3 t (by omega) g hg) (RR.lc (by omega) (h.mkF (fun f i q => ?_) (fun f i q => ?_) ?_))
        · unfold up2
          try dsimp only
          rw [if_neg (by omega)]
        · unfold up2
          try dsimp only
          rw [if_neg (by omega), if_neg (by omega)]
        · refine ⟨?_, fun f hf => ?_, fun f hf j hj => ?_⟩
          · rw [up2_f (by decide), up2_f (by decide), up2_f (by omega), f1]
          · rw [up2_f (by decide), up2_f (by decide), up2_f (by omega), f2 f hf]
          · by_cases e : f = t ∧ j = g
            · rw [e.1, e.2, up2_s, up2_s]
            · have e2 := f3 f hf j hj
              unfold up2
              try dsimp only
              rw [if_neg (by omega), if_neg (by omega), if_neg (by omega), e2]
theorem A_permit {σ τ : St} {m n c : Nat} (h : RR σ τ m n c) (p1 : Int32) : AL σ m n c 2 9 n (S_X6_permit σ p1) (S_X7_permit τ p1) := by
  unfold S_X6_permit S_X7_permit S_X7_permit_16
  rw [rR_eq]
  by_cases c1 : S_X7_in p1 0 100000 = 0
  · rw [if_pos c1, if_pos c1, if_neg (by decide), if_neg (by decide)]
    exact AL.thr h (by decide) rfl
  · rw [if_neg c1, if_neg c1, if_pos rfl, if_pos (by decide)]
    refine AL.ok (by simp (config := { decide := true }) only [up2_s, up2_f]) h.gb.2.2.2.1 (RR.lc (by omega) (h.mkB (fun f i q => ?_) (fun f i q => ?_) ?_))
    · unfold up2
      try dsimp only
      rw [if_neg (by omega)]
    · unfold up2
      try dsimp only
      rw [if_neg (by omega), if_neg (by omega)]
    · obtain ⟨b1, b2, b3, b4, b5⟩ := h.gb
      unfold RB
      simp (config := { decide := true }) only [up2_s, up2_f]
      exact ⟨b1, b2, b3, trivial, b5⟩
theorem A_release {σ τ : St} {m n c : Nat} (h : RR σ τ m n c) (p1 : Int32) : AL σ m n c 2 3 n (S_X6_release σ p1) (S_X7_release τ p1) := by
  unfold S_X6_release S_X7_release S_X7_release_41 S_X6_release_54
  obtain ⟨b1, b2, b3, b4, day, b5, b6, b7⟩ := h.gb
  have em : σ 0 0 / 1440 = nI (m / 1440) := by
    rw [h.gm.2.1]
    exact pk_div (a := m) (d := 1440) (by have := h.gm.1; omega) (by decide) (by decide)
  have er : S_X1_riverOn σ (nI (m / 1440)) = τ 72 0 := by
    unfold S_X1_riverOn
    rw [b6, b7]
    by_cases e : day = m / 1440
    · rw [if_pos e, if_pos (by rw [e])]
    · rw [if_neg e, if_neg (fun q => e ((nI_eq (by have := h.gm.1; omega) (by have := h.gm.1; omega)).mp q).symm)]
  rw [rR_eq, rqp0, rqp1, em, er, b1, b4]
  by_cases c1 : S_X7_in p1 1 100000 = 0
  · rw [if_pos c1, if_pos c1, if_neg (by decide), if_neg (by decide)]
    exact AL.thr h (by decide) rfl
  · rw [if_neg c1, if_neg c1, if_pos rfl]
    by_cases c2 : σ 19 0 < p1
    · rw [if_pos c2, if_pos c2, if_neg (by decide), if_neg (by decide)]
      exact AL.thr h (by decide) rfl
    · rw [if_neg c2, if_neg c2]
      by_cases c3 : σ 22 0 < τ 72 0 + p1
      · rw [if_pos c3, if_neg (Int32.not_le.mpr c3), if_neg (by decide), if_neg (by decide)]
        exact AL.thr h (by decide) rfl
      · rw [if_neg c3, if_pos (Int32.not_lt.mp c3), if_pos rfl, if_pos (by decide)]
        refine AL.ok (by simp (config := { decide := true }) only [up2_s, up2_f]) rfl (RR.lc (by omega) (h.mkB (fun f i q => ?_) (fun f i q => ?_) ?_))
        · unfold up2
          try dsimp only
          rw [if_neg (by omega), if_neg (by omega), if_neg (by omega), if_neg (by omega)]
        · unfold up2
          try dsimp only
          rw [if_neg (by omega), if_neg (by omega), if_neg (by omega), if_neg (by omega)]
        · unfold RB
          simp (config := { decide := true }) only [up2_s, up2_f]
          exact ⟨trivial, b2, by rw [b3], b4, m / 1440, by omega, rfl, (if_pos rfl).symm⟩
theorem A_cancel {σ τ : St} {m n c : Nat} (h : RR σ τ m n c) (p1 : Int32) : AL σ m n c 1 3 n (S_X6_cancel σ p1) (S_X7_cancel τ p1) := by
  unfold S_X6_cancel S_X7_cancel S_X7_cancel_38 S_X7_isAircraft S_X6_cancel_27
  have h20 := h.n20
  rw [h.nc, h.nr, rI_eq h20, rqp0, rqp1]
  by_cases c1 : S_X7_in p1 0 (nI n - 1) = 0
  · rw [if_pos c1, if_pos c1, if_neg (by decide), if_neg (by decide)]
    exact AL.thr h (by decide) rfl
  · rw [if_neg c1, if_neg c1, if_pos rfl]
    obtain ⟨k, hk, rfl⟩ := in_natn h20 c1
    rw [nI_clamp (by omega)]
    obtain ⟨h1, h2, h3, h4, h5⟩ := h.gk k hk
    rw [h4]
    by_cases c3 : σ 28 k = 3
    · rw [if_pos c3, if_neg (fun q => ((over_eq σ k).mp q).1 c3), if_neg (by decide), if_neg (by decide)]
      exact AL.thr h (by decide) rfl
    · by_cases c4 : σ 28 k = 4
      · rw [if_neg c3, if_pos c4, if_neg (fun q => ((over_eq σ k).mp q).2 c4), if_neg (by decide), if_neg (by decide)]
        exact AL.thr h (by decide) rfl
      · rw [if_neg c3, if_neg c4, if_pos ((over_eq σ k).mpr ⟨c3, c4⟩), if_pos rfl, if_pos (by decide)]
        unfold S_X7_cancels
        rw [nI_clamp (by omega)]
        refine AL.ok (by simp (config := { decide := true }) only [up2_s, up2_f]) rfl (RR.lc (by omega) ((h.t40 0).st hk (fun f i q1 q2 => ?_) (fun f i q1 q2 q3 => ?_) ?_ ?_ ?_))
        · exact if_neg q1
        · exact (if_neg q3).trans (if_neg q1)
        · rw [up2_f (by decide), up2_s, up2_s]
        · rw [up2_f (by decide), up2_f (by decide), up2_f (by decide), up2_f (by decide), h5.1]
        · rw [up2_s, up2_s, if_neg (by decide)]
theorem A_code {σ τ : St} {m n c : Nat} (h : RR σ τ m n c) (p1 : Int32) : AL σ m n c 1 9 n (S_X6_code σ p1) (S_X7_code τ p1) := by
  unfold S_X6_code S_X7_code S_X7_code_13 S_X7_isThird
  rw [rI_eq3]
  by_cases c1 : S_X7_in p1 0 2 = 0
  · rw [if_pos c1, if_pos c1, if_neg (by decide), if_neg (by decide)]
    exact AL.thr h (by decide) rfl
  · rw [if_neg c1, if_neg c1, if_pos rfl, if_pos (by decide)]
    obtain ⟨t, ht, rfl⟩ := in_nat (n := 2) (by decide) c1
    have k := h.t40 0
    rw [nI_clamp (by omega)]
    exact AL.ok (up2_s _ _ _ _) (code_eq (by omega) k.gm k.gw (k.gt t (by omega))) (k.lc (by omega))
theorem A_thirdOf {σ τ : St} {m n c : Nat} (h : RR σ τ m n c) (p1 p2 : Int32) : AL σ m n c 1 2 n (S_X6_thirdOf σ p1 p2) (S_X7_thirdOf τ p1 p2) := by
  unfold S_X6_thirdOf S_X7_thirdOf S_X7_thirdOf_26 S_X7_isThird
  rw [rI_eq3, rR_eq]
  by_cases c1 : S_X7_in p1 0 2 = 0
  · rw [if_pos c1, if_pos c1, if_neg (by decide), if_neg (by decide)]
    exact AL.thr h (by decide) rfl
  · rw [if_neg c1, if_neg c1, if_pos rfl]
    by_cases c2 : S_X7_in p2 0 3 = 0
    · rw [if_pos c2, if_pos c2, if_neg (by decide), if_neg (by decide)]
      exact AL.thr h (by decide) rfl
    · rw [if_neg c2, if_neg c2, if_pos rfl, if_pos (show (0 : Int32) ≤ 0 by decide)]
      obtain ⟨t, ht, rfl⟩ := in_nat (n := 2) (by decide) c1
      have k := h.t40 0
      have kt := k.gt t (by omega)
      have h0 : up2 τ 40 0 0 40 0 = 0 := up2_s _ _ _ _
      rw [lies_eq (by omega) k.gw kt, sprayed_eq (by omega) k.gm kt, nI_clamp (by omega)]
      by_cases d0 : p2 = 0
      · rw [if_pos d0, if_pos d0]
        exact AL.ok h0 (h.gt t (by omega)).1 (k.lc (by omega))
      · rw [if_neg d0, if_neg d0]
        by_cases d1 : p2 = 1
        · rw [if_pos d1, if_pos d1]
          exact AL.ok h0 (h.gt t (by omega)).2.1 (k.lc (by omega))
        · rw [if_neg d1, if_neg d1]
          by_cases d2 : p2 = 2
          · rw [if_pos d2, if_pos d2]
            by_cases d3 : S_X4_isSprayedAt σ t (σ 0 0) = 0
            · rw [if_pos d3, if_pos d3]
              exact AL.ok h0 rfl (k.lc (by omega))
            · rw [if_neg d3, if_neg d3]
              exact AL.ok h0 rfl (k.lc (by omega))
          · rw [if_neg d2, if_neg d2]
            exact AL.ok h0 rfl (k.lc (by omega))
theorem A_isGood {σ τ : St} {m n c : Nat} (h : RR σ τ m n c) : (S_X7_isGood τ).1 = S_X6_isGood σ ∧ RR σ (S_X7_isGood τ).2 m n (c + 1) := by
  have k := h.t40 0
  unfold S_X7_isGood S_X6_isGood S_X3_isUsableAt
  rw [k.closed, k.enough]
  by_cases c0 : S_X3_isClosedAt σ (σ 0 0) = 0
  · rw [if_pos c0, if_pos c0]
    by_cases c1 : S_X3_codesSufficeAt σ (σ 0 0) = 0
    · rw [if_pos c1, if_pos c1]
      exact ⟨rfl, k.lc (by omega)⟩
    · rw [if_neg c1, if_neg c1]
      exact ⟨rfl, k.lc (by omega)⟩
  · rw [if_neg c0, if_neg c0]
    exact ⟨rfl, k.lc (by omega)⟩
theorem A_aircraftOf {σ τ : St} {m n c : Nat} (h : RR σ τ m n c) (p1 p2 : Int32) : AL σ m n c 1 2 n (S_X6_aircraftOf σ p1 p2) (S_X7_aircraftOf τ p1 p2) := by
  unfold S_X6_aircraftOf S_X7_aircraftOf S_X7_aircraftOf_27 S_X7_isAircraft
  have h20 := h.n20
  rw [h.nc, h.nr, rI_eq h20, rR_eq]
  by_cases c1 : S_X7_in p1 0 (nI n - 1) = 0
  · rw [if_pos c1, if_pos c1, if_neg (by decide), if_neg (by decide)]
    exact AL.thr h (by decide) rfl
  · rw [if_neg c1, if_neg c1, if_pos rfl]
    by_cases c2 : S_X7_in p2 0 4 = 0
    · rw [if_pos c2, if_pos c2, if_neg (by decide), if_neg (by decide)]
      exact AL.thr h (by decide) rfl
    · rw [if_neg c2, if_neg c2, if_pos rfl, if_pos (show (0 : Int32) ≤ 0 by decide)]
      obtain ⟨k, hk, rfl⟩ := in_natn h20 c1
      obtain ⟨j, hj, rfl⟩ := in_nat (n := 4) (by decide) c2
      rw [nI_clamp (by omega)]
      obtain ⟨h1, h2, h3, h4, h5, h6, h7, h8, h9, h10, h11, h12, h13⟩ := h.gk k hk
      have kk := h.t40 0
      have h0 : up2 τ 40 0 0 40 0 = 0 := up2_s _ _ _ _
      match j, hj with
      | 0, _ =>
        simp (config := { decide := true }) only [if_true, if_false]
        exact AL.ok h0 h4 (kk.lc (by omega))
      | 1, _ =>
        simp (config := { decide := true }) only [if_true, if_false]
        exact AL.ok h0 h5 (kk.lc (by omega))
      | 2, _ =>
        simp (config := { decide := true }) only [if_true, if_false]
        exact AL.ok h0 h6 (kk.lc (by omega))
      | 3, _ =>
        simp (config := { decide := true }) only [if_true, if_false]
        exact AL.ok h0 h7 (kk.lc (by omega))
      | 4, _ =>
        simp (config := { decide := true }) only [if_true, if_false]
        by_cases c5 : σ 28 k = 1
        · rw [if_pos c5]
          exact AL.ok h0 (h12.trans (if_pos c5)) (kk.lc (by omega))
        · rw [if_neg c5]
          exact AL.ok h0 (h12.trans (if_neg c5)) (kk.lc (by omega))
theorem A_clock {σ τ : St} {m n c : Nat} (hc : c < 100000) (h : RR σ τ m n c) (p1 : Int32) : (S_X7_clock τ p1).2 40 0 = wcd 1 3 (S_X6_clock σ p1).1 ∧ ((S_X6_clock σ p1).1 = 0 → (S_X7_clock τ p1).1 = (S_X6_clock σ p1).2.1) ∧ (S_X6_clock σ p1).2.2 = σ ∧ RR σ (S_X7_clock τ p1).2 m n (c + 1) := by
  unfold S_X6_clock S_X7_clock S_X7_clock_27 S_X6_clock_25 S_X7_isAircraft
  have h20 := h.n20
  rw [h.nc, h.nr, rI_eq h20, rqp0, rqp1]
  by_cases c1 : S_X7_in p1 0 (nI n - 1) = 0
  · rw [if_pos c1, if_pos c1, if_neg (by decide), if_neg (by decide)]
    exact ⟨up2_s τ 40 0 1, fun q => absurd q (show ¬ (1 : Nat) = 0 by decide), rfl, (h.t40 1).lc (by omega)⟩
  · rw [if_neg c1, if_neg c1, if_pos rfl]
    obtain ⟨k, hk, rfl⟩ := in_natn h20 c1
    rw [nI_clamp (by omega)]
    obtain ⟨h1, h2, h3, h4, h5, h6, h7, h8, h9, h10, h11, h12, ⟨j, hj, ej⟩, h14⟩ := h.gk k hk
    rw [h6, ej]
    by_cases c2 : nI j = 0
    · rw [if_pos c2, if_pos (show nI j ≤ 0 by rw [c2]; decide), if_neg (by decide), if_neg (by decide)]
      exact ⟨up2_s τ 40 0 2, fun q => absurd q (show ¬ (3 : Nat) = 0 by decide), rfl, (h.t40 2).lc (by omega)⟩
    · have hj0 : 0 < j := Nat.pos_of_ne_zero fun q => c2 (by rw [q]; rfl)
      rw [if_neg c2, if_neg (show ¬ nI j ≤ 0 from nI_nle hj0 (by omega)), if_pos rfl, if_pos (by decide)]
      exact ⟨up2_s τ 40 0 0, fun _ => (h.t40 0).clk hk, rfl, (h.t40 0).lc (by omega)⟩
theorem A_whyNot {σ τ : St} {m n c : Nat} (h : RR σ τ m n c) (p1 : Int32) : AL σ m n c 1 9 n (S_X6_whyNot σ p1) (S_X7_whyNot τ p1) := by
  unfold S_X6_whyNot S_X7_whyNot S_X7_whyNot_14 S_X7_isAircraft
  have h20 := h.n20
  rw [h.nc, h.nr, rI_eq h20]
  by_cases c1 : S_X7_in p1 0 (nI n - 1) = 0
  · rw [if_pos c1, if_pos c1, if_neg (by decide), if_neg (by decide)]
    exact AL.thr h (by decide) rfl
  · rw [if_neg c1, if_neg c1, if_pos rfl, if_pos (show (0 : Int32) ≤ 0 by decide)]
    obtain ⟨k, hk, rfl⟩ := in_natn h20 c1
    have kk := h.t40 0
    have h0 : up2 τ 40 0 0 40 0 = 0 := up2_s _ _ _ _
    obtain ⟨h1, h2, h3, h4, h5⟩ := h.gk k hk
    rw [kk.clk hk, kk.closed, kk.enough, nI_clamp (by omega), h4, h2, h.gm.2.2, h.gm.2.1]
    by_cases d0 : σ 28 k = 2
    · rw [if_pos d0, if_pos d0]
      by_cases d1 : σ 26 k ≤ nI m
      · rw [if_pos d1, if_pos d1]
        by_cases d2 : 0 ≤ (Op.cmpValue (FP.dcmp (S_X6_clockLeft σ k) FP.dconst0) CmpOp.g)
        · rw [if_pos d2, if_pos d2]
          by_cases d3 : S_X3_isClosedAt σ (nI m) = 0
          · rw [if_pos d3, if_pos d3]
            by_cases d4 : S_X3_codesSufficeAt σ (nI m) = 0
            · rw [if_pos d4, if_pos d4]
              exact AL.ok h0 rfl (kk.lc (by omega))
            · rw [if_neg d4, if_neg d4]
              exact AL.ok h0 rfl (kk.lc (by omega))
          · rw [if_neg d3, if_neg d3]
            exact AL.ok h0 rfl (kk.lc (by omega))
        · rw [if_neg d2, if_neg d2]
          exact AL.ok h0 rfl (kk.lc (by omega))
      · rw [if_neg d1, if_neg d1]
        exact AL.ok h0 rfl (kk.lc (by omega))
    · rw [if_neg d0, if_neg d0]
      exact AL.ok h0 rfl (kk.lc (by omega))
