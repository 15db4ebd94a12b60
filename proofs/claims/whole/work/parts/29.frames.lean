/-! what the public methods leave alone, and both over one state (by program) -/
theorem pass10_fr {f i : Nat} (hf : 40 ≤ f) : ∀ (n : Nat) (σ : St) (p1 : Int32) (j2 : Nat), (S_X6_pass_10 n σ p1 j2).2.2 f i = σ f i
  | 0, σ, p1, j2 => rfl
  | n + 1, σ, p1, j2 => by
    rw [S_X6_pass_10_s]
    split
    · rfl
    · exact (pass10_fr hf n _ p1 _).trans (S_X6_liveMinute_fr σ (fun w hw => by
      simp only [List.mem_cons, List.not_mem_nil, or_false] at hw
      omega))
theorem F6_pass {f i : Nat} (hf : 40 ≤ f) (σ : St) (p1 : Int32) : (S_X6_pass σ p1).2.2 f i = σ f i := by
  unfold S_X6_pass
  split
  · exact pass10_fr hf _ _ _ _
  · rfl
theorem pass22_fr {f i : Nat} (hf : f < 40) : ∀ (n : Nat) (σ : St) (p1 : Int32) (j2 : Nat), (S_X7_pass_22 n σ p1 j2).2 f i = σ f i
  | 0, σ, p1, j2 => rfl
  | n + 1, σ, p1, j2 => by
    have ih := (pass22_fr hf n (S_X7_minute σ) p1 (j2 + 1)).trans (S_X7_minute_fr (i := i) σ (fun w hw => by
      simp only [List.mem_cons, List.not_mem_nil, or_false] at hw
      omega))
    rw [S_X7_pass_22_s]
    split
    · split <;> rfl
    · split
      · exact ih
      · split <;> rfl
theorem F7_pass {f i : Nat} (hf : f < 40) (σ : St) (p1 : Int32) : (S_X7_pass σ p1).2 f i = σ f i := by
  unfold S_X7_pass S_X7_pass_17
  split <;> exact (pass22_fr hf _ _ _ _).trans (up2_f (by omega) _ _ _ _)
theorem queue16_fr : ∀ (n : Nat) (σ : St) (p1 : Int32) (j2 : Nat), (S_X6_queue_16 n σ p1 j2).2.2 = σ
  | 0, σ, p1, j2 => rfl
  | n + 1, σ, p1, j2 => by
    have ih := queue16_fr n σ p1 (j2 + 1)
    rw [S_X6_queue_16_s]
    split
    · rfl
    · split
      · split
        · rfl
        · exact ih
      · exact ih
theorem F6_queue {f i : Nat} (hf : 40 ≤ f) (σ : St) (p1 : Int32) : (S_X6_queue σ p1).2.2 f i = σ f i := by
  unfold S_X6_queue
  split
  · rw [queue16_fr]
  · rfl
theorem queue61_fr (σ : St) (p1 v : Int32) : (S_X7_queue_61 σ p1 v).2 = σ := by
  unfold S_X7_queue_61
  split <;> rfl
theorem queue32_fr : ∀ (n : Nat) (σ : St) (p1 v : Int32) (j : Nat), (S_X7_queue_32 n σ p1 v j).2 = σ
  | 0, σ, p1, v, j => rfl
  | n + 1, σ, p1, v, j => by
    have ih := queue32_fr n σ p1 (S_X7_nextAfter σ v) (j + 1)
    have e := queue61_fr σ p1 v
    rw [S_X7_queue_32_s]
    split
    · exact e
    · split
      · exact e
      · split
        · exact ih
        · exact e
theorem F7_queue {f i : Nat} (hf : f < 40) (σ : St) (p1 : Int32) : (S_X7_queue σ p1).2 f i = σ f i := by
  have key : ∀ y v : Int32, (S_X7_queue_29 (up2 σ 40 0 y) p1 v).2 f i = σ f i := by
    intro y v
    unfold S_X7_queue_29
    rw [queue32_fr]
    exact up2_f (by omega) _ _ _ _
  unfold S_X7_queue S_X7_queue_10
  split
  · split <;> exact key _ _
  · split <;> exact key _ _
theorem sum55_fr (σ : St) (p1 v : Int32) : (S_X7_sum_55 σ p1 v).2 = σ := by
  unfold S_X7_sum_55
  (repeat' split) <;> rfl
theorem sum32_fr : ∀ (n : Nat) (σ : St) (p1 v : Int32) (j : Nat), (S_X7_sum_32 n σ p1 v j).2 = σ
  | 0, σ, p1, v, j => rfl
  | n + 1, σ, p1, v, j => by
    have ih := sum32_fr n σ p1 (v + σ 62 j) (j + 1)
    rw [S_X7_sum_32_s]
    split
    · exact sum55_fr _ _ _
    · exact ih
theorem F7_sum {f i : Nat} (hf : f < 40) (σ : St) (p1 : Int32) : (S_X7_sum σ p1).2 f i = σ f i := by
  have key : ∀ y : Int32, (S_X7_sum_16 σ p1 y).2 f i = σ f i := by
    intro y
    unfold S_X7_sum_16
    split
    · rw [sum32_fr]
      exact up2_f (by omega) _ _ _ _
    · exact up2_f (by omega) _ _ _ _
  unfold S_X7_sum
  split <;> exact key _
theorem F6_table {f i : Nat} (hf : 40 ≤ f) (σ : St) (p1 p2 p3 : Int32) : (S_X6_table σ p1 p2 p3).2.2 f i = σ f i := by
  unfold S_X6_table
  rw [rI_eq3]
  by_cases c1 : S_X7_in p1 0 2 = 0
  · rw [if_pos c1, if_neg (by decide)]
  · rw [if_neg c1, if_pos rfl]
    obtain ⟨t, ht, rfl⟩ := in_nat (n := 2) (by decide) c1
    rw [nI_clamp (by omega)]
    split
    · split
      · exact up2_f (by omega) _ _ _ _
      · rfl
    · rfl
theorem F7_table {f i : Nat} (hf : f < 40) (σ : St) (p1 p2 p3 : Int32) : (S_X7_table σ p1 p2 p3).2 f i = σ f i := by
  have key : ∀ y : Int32, (S_X7_table_37 σ p1 p2 p3 y).2 f i = σ f i := by
    intro y
    unfold S_X7_table_37
    split
    · exact (up2_f (by omega) _ _ _ _).trans (up2_f (by omega) _ _ _ _)
    · exact up2_f (by omega) _ _ _ _
  unfold S_X7_table
  (repeat' split) <;> exact key _
theorem F7_isGood {f i : Nat} (hf : f < 40) (σ : St) : (S_X7_isGood σ).2 f i = σ f i := by
  unfold S_X7_isGood
  (repeat' split) <;> exact up2_f (by omega) _ _ _ _
set_option maxHeartbeats 2000000 in
theorem F6_weather {f i : Nat} (hf : 40 ≤ f) (σ : St) (p1 p2 p3 p4 : Int32) : (S_X6_weather σ p1 p2 p3 p4).2 f i = σ f i := by
  unfold S_X6_weather
  (repeat' (with_reducible refine itc (P := fun z : Nat × St => z.2 f i = σ f i) ?_ ?_)) <;> first | with_reducible rfl | (simp (disch := omega) only [up2_f]) | skip
set_option maxHeartbeats 2000000 in
theorem F7_weather {f i : Nat} (hf : f < 40) (σ : St) (p1 p2 p3 p4 : Int32) : (S_X7_weather σ p1 p2 p3 p4) f i = σ f i := by
  unfold S_X7_weather S_X7_weather_49
  (repeat' (with_reducible refine itc (P := fun z : St => z f i = σ f i) ?_ ?_)) <;> first | with_reducible rfl | (simp (disch := omega) only [up2_f]) | skip
set_option maxHeartbeats 2000000 in
theorem F6_spray {f i : Nat} (hf : 40 ≤ f) (σ : St) (p1 : Int32) : (S_X6_spray σ p1).2.2 f i = σ f i := by
  unfold S_X6_spray
  (repeat' (with_reducible refine itc (P := fun z : Nat × Int32 × St => z.2.2 f i = σ f i) ?_ ?_)) <;> first | with_reducible rfl | (simp (disch := omega) only [up2_f]) | skip
set_option maxHeartbeats 2000000 in
theorem F7_spray {f i : Nat} (hf : f < 40) (σ : St) (p1 : Int32) : (S_X7_spray σ p1).2 f i = σ f i := by
  unfold S_X7_spray S_X7_spray_13
  (repeat' (with_reducible refine itc (P := fun z : Int32 × St => z.2 f i = σ f i) ?_ ?_)) <;> first | with_reducible rfl | (simp (disch := omega) only [up2_f]) | skip
set_option maxHeartbeats 2000000 in
theorem F6_close {f i : Nat} (hf : 40 ≤ f) (σ : St) (p1 p2 : Int32) : (S_X6_close σ p1 p2).2.2 f i = σ f i := by
  unfold S_X6_close
  (repeat' (with_reducible refine itc (P := fun z : Nat × Int32 × St => z.2.2 f i = σ f i) ?_ ?_)) <;> first | with_reducible rfl | (simp (disch := omega) only [up2_f]) | skip
set_option maxHeartbeats 2000000 in
theorem F7_close {f i : Nat} (hf : f < 40) (σ : St) (p1 p2 : Int32) : (S_X7_close σ p1 p2).2 f i = σ f i := by
  unfold S_X7_close S_X7_close_27
  (repeat' (with_reducible refine itc (P := fun z : Int32 × St => z.2 f i = σ f i) ?_ ?_)) <;> first | with_reducible rfl | (simp (disch := omega) only [up2_f]) | skip
set_option maxHeartbeats 2000000 in
theorem F6_pilot {f i : Nat} (hf : 40 ≤ f) (σ : St) (p1 p2 : Int32) : (S_X6_pilot σ p1 p2).2.2 f i = σ f i := by
  unfold S_X6_pilot
  (repeat' (with_reducible refine itc (P := fun z : Nat × Int32 × St => z.2.2 f i = σ f i) ?_ ?_)) <;> first | with_reducible rfl | (simp (disch := omega) only [up2_f]) | skip
set_option maxHeartbeats 2000000 in
theorem F7_pilot {f i : Nat} (hf : f < 40) (σ : St) (p1 p2 : Int32) : (S_X7_pilot σ p1 p2).2 f i = σ f i := by
  unfold S_X7_pilot S_X7_pilot_27
  (repeat' (with_reducible refine itc (P := fun z : Int32 × St => z.2 f i = σ f i) ?_ ?_)) <;> first | with_reducible rfl | (simp (disch := omega) only [up2_f]) | skip
set_option maxHeartbeats 2000000 in
theorem F6_supply {f i : Nat} (hf : 40 ≤ f) (σ : St) (p1 p2 : Int32) : (S_X6_supply σ p1 p2).2.2 f i = σ f i := by
  unfold S_X6_supply S_X6_supply_34
  (repeat' (with_reducible refine itc (P := fun z : Nat × Int32 × St => z.2.2 f i = σ f i) ?_ ?_)) <;> first | with_reducible rfl | (simp (disch := omega) only [up2_f]) | skip
set_option maxHeartbeats 2000000 in
theorem F7_supply {f i : Nat} (hf : f < 40) (σ : St) (p1 p2 : Int32) : (S_X7_supply σ p1 p2).2 f i = σ f i := by
  unfold S_X7_supply S_X7_supply_45
  (repeat' (with_reducible refine itc (P := fun z : Int32 × St => z.2 f i = σ f i) ?_ ?_)) <;> first | with_reducible rfl | (simp (disch := omega) only [up2_f]) | skip
set_option maxHeartbeats 2000000 in
theorem F6_treat {f i : Nat} (hf : 40 ≤ f) (σ : St) (p1 p2 p3 p4 p5 : Int32) : (S_X6_treat σ p1 p2 p3 p4 p5).2.2 f i = σ f i := by
  unfold S_X6_treat S_X6_treat_66 S_X6_treat_95 S_X6_treat_117
  (repeat' (with_reducible refine itc (P := fun z : Nat × Int32 × St => z.2.2 f i = σ f i) ?_ ?_)) <;> first | with_reducible rfl | (simp (disch := omega) only [up2_f, S_X0_beginTreatment]) | skip
set_option maxHeartbeats 2000000 in
theorem F7_treat {f i : Nat} (hf : f < 40) (σ : St) (p1 p2 p3 p4 p5 : Int32) : (S_X7_treat σ p1 p2 p3 p4 p5).2 f i = σ f i := by
  unfold S_X7_treat S_X7_treat_68 S_X7_treat_139 S_X7_treat_152
  (repeat' (with_reducible refine itc (P := fun z : Int32 × St => z.2 f i = σ f i) ?_ ?_)) <;> first | with_reducible rfl | (simp (disch := omega) only [up2_f]) | skip
set_option maxHeartbeats 2000000 in
theorem F6_cancel {f i : Nat} (hf : 40 ≤ f) (σ : St) (p1 : Int32) : (S_X6_cancel σ p1).2.2 f i = σ f i := by
  unfold S_X6_cancel S_X6_cancel_27
  (repeat' (with_reducible refine itc (P := fun z : Nat × Int32 × St => z.2.2 f i = σ f i) ?_ ?_)) <;> first | with_reducible rfl | (simp (disch := omega) only [up2_f]) | skip
set_option maxHeartbeats 2000000 in
theorem F7_cancel {f i : Nat} (hf : f < 40) (σ : St) (p1 : Int32) : (S_X7_cancel σ p1).2 f i = σ f i := by
  unfold S_X7_cancel S_X7_cancel_38
  (repeat' (with_reducible refine itc (P := fun z : Int32 × St => z.2 f i = σ f i) ?_ ?_)) <;> first | with_reducible rfl | (simp (disch := omega) only [up2_f, S_X7_cancels]) | skip
set_option maxHeartbeats 2000000 in
theorem F6_permit {f i : Nat} (hf : 40 ≤ f) (σ : St) (p1 : Int32) : (S_X6_permit σ p1).2.2 f i = σ f i := by
  unfold S_X6_permit
  (repeat' (with_reducible refine itc (P := fun z : Nat × Int32 × St => z.2.2 f i = σ f i) ?_ ?_)) <;> first | with_reducible rfl | (simp (disch := omega) only [up2_f]) | skip
set_option maxHeartbeats 2000000 in
theorem F7_permit {f i : Nat} (hf : f < 40) (σ : St) (p1 : Int32) : (S_X7_permit σ p1).2 f i = σ f i := by
  unfold S_X7_permit S_X7_permit_16
  (repeat' (with_reducible refine itc (P := fun z : Int32 × St => z.2 f i = σ f i) ?_ ?_)) <;> first | with_reducible rfl | (simp (disch := omega) only [up2_f]) | skip
set_option maxHeartbeats 2000000 in
theorem F6_release {f i : Nat} (hf : 40 ≤ f) (σ : St) (p1 : Int32) : (S_X6_release σ p1).2.2 f i = σ f i := by
  unfold S_X6_release S_X6_release_54
  (repeat' (with_reducible refine itc (P := fun z : Nat × Int32 × St => z.2.2 f i = σ f i) ?_ ?_)) <;> first | with_reducible rfl | (simp (disch := omega) only [up2_f]) | skip
set_option maxHeartbeats 2000000 in
theorem F7_release {f i : Nat} (hf : f < 40) (σ : St) (p1 : Int32) : (S_X7_release σ p1).2 f i = σ f i := by
  unfold S_X7_release S_X7_release_41
  (repeat' (with_reducible refine itc (P := fun z : Int32 × St => z.2 f i = σ f i) ?_ ?_)) <;> first | with_reducible rfl | (simp (disch := omega) only [up2_f]) | skip
set_option maxHeartbeats 2000000 in
theorem F6_code {f i : Nat} (hf : 40 ≤ f) (σ : St) (p1 : Int32) : (S_X6_code σ p1).2.2 f i = σ f i := by
  unfold S_X6_code
  (repeat' (with_reducible refine itc (P := fun z : Nat × Int32 × St => z.2.2 f i = σ f i) ?_ ?_)) <;> first | with_reducible rfl | (simp (disch := omega) only [up2_f]) | skip
set_option maxHeartbeats 2000000 in
theorem F7_code {f i : Nat} (hf : f < 40) (σ : St) (p1 : Int32) : (S_X7_code σ p1).2 f i = σ f i := by
  unfold S_X7_code S_X7_code_13
  (repeat' (with_reducible refine itc (P := fun z : Int32 × St => z.2 f i = σ f i) ?_ ?_)) <;> first | with_reducible rfl | (simp (disch := omega) only [up2_f]) | skip
set_option maxHeartbeats 2000000 in
theorem F6_thirdOf {f i : Nat} (hf : 40 ≤ f) (σ : St) (p1 p2 : Int32) : (S_X6_thirdOf σ p1 p2).2.2 f i = σ f i := by
  unfold S_X6_thirdOf
  (repeat' (with_reducible refine itc (P := fun z : Nat × Int32 × St => z.2.2 f i = σ f i) ?_ ?_)) <;> first | with_reducible rfl | (simp (disch := omega) only [up2_f]) | skip
set_option maxHeartbeats 2000000 in
theorem F7_thirdOf {f i : Nat} (hf : f < 40) (σ : St) (p1 p2 : Int32) : (S_X7_thirdOf σ p1 p2).2 f i = σ f i := by
  unfold S_X7_thirdOf S_X7_thirdOf_26
  (repeat' (with_reducible refine itc (P := fun z : Int32 × St => z.2 f i = σ f i) ?_ ?_)) <;> first | with_reducible rfl | (simp (disch := omega) only [up2_f]) | skip
set_option maxHeartbeats 2000000 in
theorem F6_aircraftOf {f i : Nat} (hf : 40 ≤ f) (σ : St) (p1 p2 : Int32) : (S_X6_aircraftOf σ p1 p2).2.2 f i = σ f i := by
  unfold S_X6_aircraftOf
  (repeat' (with_reducible refine itc (P := fun z : Nat × Int32 × St => z.2.2 f i = σ f i) ?_ ?_)) <;> first | with_reducible rfl | (simp (disch := omega) only [up2_f]) | skip
set_option maxHeartbeats 2000000 in
theorem F7_aircraftOf {f i : Nat} (hf : f < 40) (σ : St) (p1 p2 : Int32) : (S_X7_aircraftOf σ p1 p2).2 f i = σ f i := by
  unfold S_X7_aircraftOf S_X7_aircraftOf_27
  (repeat' (with_reducible refine itc (P := fun z : Int32 × St => z.2 f i = σ f i) ?_ ?_)) <;> first | with_reducible rfl | (simp (disch := omega) only [up2_f]) | skip
set_option maxHeartbeats 2000000 in
theorem F6_clock {f i : Nat} (hf : 40 ≤ f) (σ : St) (p1 : Int32) : (S_X6_clock σ p1).2.2 f i = σ f i := by
  unfold S_X6_clock S_X6_clock_25
  (repeat' (with_reducible refine itc (P := fun z : Nat × UInt64 × St => z.2.2 f i = σ f i) ?_ ?_)) <;> first | with_reducible rfl | (simp (disch := omega) only [up2_f]) | skip
set_option maxHeartbeats 2000000 in
theorem F7_clock {f i : Nat} (hf : f < 40) (σ : St) (p1 : Int32) : (S_X7_clock σ p1).2 f i = σ f i := by
  unfold S_X7_clock S_X7_clock_27
  (repeat' (with_reducible refine itc (P := fun z : UInt64 × St => z.2 f i = σ f i) ?_ ?_)) <;> first | with_reducible rfl | (simp (disch := omega) only [up2_f]) | skip
set_option maxHeartbeats 2000000 in
theorem F6_whyNot {f i : Nat} (hf : 40 ≤ f) (σ : St) (p1 : Int32) : (S_X6_whyNot σ p1).2.2 f i = σ f i := by
  unfold S_X6_whyNot
  (repeat' (with_reducible refine itc (P := fun z : Nat × Int32 × St => z.2.2 f i = σ f i) ?_ ?_)) <;> first | with_reducible rfl | (simp (disch := omega) only [up2_f]) | skip
set_option maxHeartbeats 2000000 in
theorem F7_whyNot {f i : Nat} (hf : f < 40) (σ : St) (p1 : Int32) : (S_X7_whyNot σ p1).2 f i = σ f i := by
  unfold S_X7_whyNot S_X7_whyNot_14
  (repeat' (with_reducible refine itc (P := fun z : Int32 × St => z.2 f i = σ f i) ?_ ?_)) <;> first | with_reducible rfl | (simp (disch := omega) only [up2_f]) | skip
set_option maxHeartbeats 2000000 in
theorem F6_sum {f i : Nat} (hf : 40 ≤ f) (σ : St) (p1 : Int32) : (S_X6_sum σ p1).2.2 f i = σ f i := by
  unfold S_X6_sum
  (repeat' (with_reducible refine itc (P := fun z : Nat × Int32 × St => z.2.2 f i = σ f i) ?_ ?_)) <;> first | with_reducible rfl | (simp (disch := omega) only [up2_f]) | skip
set_option maxHeartbeats 2000000 in
theorem F6_aircraft {f i : Nat} (hf : 40 ≤ f) (σ : St) (p1 p2 p3 : Int32) : (S_X6_aircraft σ p1 p2 p3).2.2 f i = σ f i := by
  unfold S_X6_aircraft S_X6_aircraft_38 S_X6_aircraft_41
  (repeat' (with_reducible refine itc (P := fun z : Nat × Int32 × St => z.2.2 f i = σ f i) ?_ ?_)) <;> first | with_reducible rfl | (simp (disch := omega) only [up2_f, newst]) | skip
set_option maxHeartbeats 2000000 in
theorem F7_aircraft {f i : Nat} (hf : f < 40) (σ : St) (p1 p2 p3 : Int32) : (S_X7_aircraft σ p1 p2 p3).2 f i = σ f i := by
  unfold S_X7_aircraft S_X7_aircraft_52
  (repeat' (with_reducible refine itc (P := fun z : Int32 × St => z.2 f i = σ f i) ?_ ?_)) <;> first | with_reducible rfl | (simp (disch := omega) only [up2_f]) | skip
/-- where the class is behind a call -/
def LST (T : Nat × Int32 × St) (σ : St) : St := if T.1 = 0 then T.2.2 else σ
theorem BL {σ : St} {m n c a b n' : Nat} {T : Nat × Int32 × St} {U : St → Int32 × St} (h : RR σ σ m n c) (hA : ∀ τ, RR σ τ m n c → AL σ m n c a b n' T (U τ)) (h6 : ∀ f i, 40 ≤ f → T.2.2 f i = σ f i) (h7 : ∀ (τ : St) f i, f < 40 → (U τ).2 f i = τ f i) : (U (LST T σ)).2 40 0 = wcd a b T.1 ∧ (T.1 = 0 → (U (LST T σ)).1 = T.2.1 ∧ ∃ m' : Nat, m' ≤ m + 500 ∧ RR (U (LST T σ)).2 (U (LST T σ)).2 m' n' (c + 1)) ∧ (¬ T.1 = 0 → RR (U (LST T σ)).2 (U (LST T σ)).2 m n (c + 1)) := by
  have hl : RR σ (LST T σ) m n c := h.cgr (fun f i q => by
    unfold LST
    split
    · exact h6 f i (by omega)
    · rfl)
  obtain ⟨a1, a2, a3⟩ := hA _ hl
  refine ⟨a1, fun q => ?_, fun q => ?_⟩
  · obtain ⟨b1, m', b2, b3⟩ := a2 q
    refine ⟨b1, m', b2, b3.cgc (fun f i z => ?_)⟩
    rw [h7 _ _ _ z]
    unfold LST
    rw [if_pos q]
  · refine (a3 q).cgc (fun f i z => ?_)
    rw [h7 _ _ _ z]
    unfold LST
    rw [if_neg q]
/-- what the states of both, in one, have that a call meets -/
theorem RR.ok {σ : St} {m n c : Nat} {E : En} (h : RR σ σ m n c) (hn : n = en E) : OK E σ := by
  subst hn
  obtain ⟨h1, ⟨w1, w2, w3, w4, w5, w6⟩, h3, h4, h5, h6, ⟨n1, n2, n3⟩, h8, h9⟩ := h
  have hf : vp_in (σ 3 0) 4 := by
    rcases w5 with q | q | q | q <;> rw [q]
    · exact vp_in_nI (n := 0) (by decide) (by decide)
    · exact vp_in_nI (n := 1) (by decide) (by decide)
    · exact vp_in_nI (n := 2) (by decide) (by decide)
    · exact vp_in_nI (n := 3) (by decide) (by decide)
  have hk : ∀ k, vp_in (σ 33 k) 3 := by
    intro k
    by_cases q : k < en E
    · obtain ⟨_, _, _, _, _, _, _, _, _, _, _, _, _, f, hf, e⟩ := h8 k q
      rw [e]
      exact vp_in_nI hf (by decide)
    · rw [(h9 k (by omega)).1]
      exact in3_0
  refine ⟨n1, n2, ⟨en E, Nat.le_refl _, n3⟩, hf, by rw [w2]; exact hf, hk, fun k => ?_⟩
  by_cases q : k < en E
  · have e := (h8 k q).2.2.2.2.2.2.2.1
    rw [e]
    exact hk k
  · rw [(h9 k (by omega)).2.2.2.2.2.2.1]
    exact in3_0
