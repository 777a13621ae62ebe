/-! THE FIRST STATE -/
theorem gM1_z {a j : Nat} (h1 : a ≠ 74) (h2 : a ≠ 102) : goM1 a j = 0 := by
  unfold goM1 MX14_init MX12_init MX4_init
  rw [gWI_na h2, gWI_na h1, gWI_na h1]
theorem gM1_102 {j : Nat} (h : j ≠ 2) : goM1 102 j = 0 := by
  unfold goM1 MX14_init MX12_init MX4_init
  rw [gWI_nk h, gWI_na (by decide), gWI_na (by decide)]
theorem gM1_1022 : goM1 102 2 = -1 := by
  unfold goM1 MX14_init
  rw [gWI_self, if_pos rfl]
theorem gM1_746 : goM1 74 6 = -1 := by
  unfold goM1 MX14_init MX12_init MX4_init
  rw [gWI_na (by decide), gWI_nk (by decide), gWI_self, if_pos rfl]
theorem gM1_747 : goM1 74 7 = -1 := by
  unfold goM1 MX14_init MX12_init MX4_init
  rw [gWI_na (by decide), gWI_self, if_pos rfl]
set_option maxRecDepth 100000 in
theorem gW1_sh : ∀ a, a < 121 → goG1.1 a = goSh a := by decide +kernel
set_option maxRecDepth 100000 in
theorem gW1_fx : ∀ q ∈ goFx, goR1 q.1 q.2.1 = some q.2.2 := by decide +kernel
set_option maxRecDepth 100000 in
theorem gW1_mu : ∀ q ∈ goMu, goR1 q.1 q.2 = some 7 ∨ goR1 q.1 q.2 = some 37 := by decide +kernel
theorem gR1_3 : goR1 102 3 = none := by decide +kernel
theorem gR1_4 : goR1 102 4 = none := by decide +kernel
theorem gR1_t : goR1 0 5 = some 7 ∧ goR1 0 6 = some 37 ∧ goR1 74 2 = some 7 ∧ goR1 78 1 = some 7 ∧ goR1 92 1 = some 7 := by decide +kernel
theorem gW1_sz : 121 ≤ goG1.2 := by decide +kernel
theorem gW1 : goW goG1 goR1 := by
  refine ⟨gW1_sz, gW1_sh, gW1_fx, fun q hq => ?_, fun k hk b hb => ?_⟩
  · rcases gW1_mu q hq with h | h
    · exact ⟨7, h, Or.inl rfl⟩
    · exact ⟨37, h, Or.inr rfl⟩
  · rcases hk with e | e <;> subst e
    · rw [gR1_3] at hb; cases hb
    · rw [gR1_4] at hb; cases hb
theorem gL1_ok : iL goL1 := by
  intro i hi
  rw [kw_c i hi]
  unfold goL1 LX9_init goRl
  rw [if_pos ⟨rfl, hi⟩]
  rfl
theorem tC_1 : tC goM1 7 (fun _ _ => 0) := by
  have z : ∀ a j, a ≠ 74 → a ≠ 102 → goM1 a j = nI 0 := fun a j h1 h2 => gM1_z h1 h2
  refine ⟨⟨z _ _ (by decide) (by decide), z _ _ (by decide) (by decide), z _ _ (by decide) (by decide), z _ _ (by decide) (by decide), z _ _ (by decide) (by decide), z _ _ (by decide) (by decide), z _ _ (by decide) (by decide)⟩, fun p _ => z _ _ (by decide) (by decide), fun p _ => ?_, fun i hi => absurd hi (Nat.not_lt_zero _), fun i hi => absurd hi (Nat.not_lt_zero _), fun p _ => z _ _ (by decide) (by decide), fun i hi => absurd hi (Nat.not_lt_zero _), fun p i h _ hi => absurd hi (Nat.not_lt_zero _), fun k hk => absurd hk (by decide), ⟨z _ _ (by decide) (by decide), z _ _ (by decide) (by decide)⟩, fun i hi => absurd hi (Nat.not_lt_zero _), fun p _ => z _ _ (by decide) (by decide), fun p _ => z _ _ (by decide) (by decide), fun i hi => absurd hi (Nat.not_lt_zero _), ⟨z _ _ (by decide) (by decide), z _ _ (by decide) (by decide), z _ _ (by decide) (by decide), z _ _ (by decide) (by decide)⟩, fun i hi => absurd hi (Nat.not_lt_zero _), fun i hi => absurd hi (Nat.not_lt_zero _), z _ _ (by decide) (by decide), fun i hi => absurd hi (Nat.not_lt_zero _)⟩
  rw [tNr_z (T := fun _ _ => 0) rfl]
  exact z _ _ (by decide) (by decide)
theorem aS_0 : aS (fun _ => 0) (fun _ => 0) := by
  refine ⟨⟨fun h p _ _ => ?_, rfl, rfl, fun i _ => (show 0 < 256 by decide), fun i _ => (show 0 < 4096 by decide), by decide, by decide⟩, by decide, by decide⟩
  rw [Nat.zero_testBit, Nat.zero_testBit]
  exact ⟨rfl, rfl⟩
theorem gInv_1 : gInv 0 goG1 goM1 goL1 goR1 := by
  obtain ⟨r1, r2, r3, r4, r5⟩ := gR1_t
  refine ⟨7, fun _ _ => 0, fun _ => 0, fun _ => 0, gW1, ⟨Or.inl rfl, r1, r2, r3, r4, r5⟩, tC_1, Or.inl ⟨gR1_3, rfl⟩, ⟨fun i _ => gM1_z (by decide) (by decide), fun i _ => gM1_z (by decide) (by decide), aS_0, ⟨0, fun _ _ => 0, fun _ _ => 0, by decide, gM1_z (by decide) (by decide), gM1_102 (by decide), fun _ => rfl, rfl, rfl, fun i hi => absurd hi (Nat.not_lt_zero _)⟩, ⟨0, by decide, gM1_z (by decide) (by decide), gM1_102 (by decide), fun _ => rfl, fun i hi => absurd hi (Nat.not_lt_zero _)⟩, fun _ => ⟨fun _ _ => rfl, fun _ _ => rfl⟩⟩, ⟨0, by decide, gM1_z (by decide) (by decide), gM1_102 (by decide), fun i hi => absurd hi (Nat.not_lt_zero _)⟩, ⟨?_, ?_, ?_⟩, ⟨⟨0, by decide, gM1_z (by decide) (by decide), Or.inl gM1_746, Or.inl gM1_747⟩, fun h => ?_, fun h => ?_, fun i _ => ⟨0, by decide, gM1_z (by decide) (by decide)⟩, fun i _ => ⟨0, by decide, gM1_z (by decide) (by decide)⟩⟩, gL1_ok⟩
  · rw [gM1_102 (by decide), gM1_z (by decide) (by decide)]
  · rw [gM1_102 (by decide), gM1_z (by decide) (by decide)]
  · rw [gM1_1022, gM1_z (a := 0) (by decide) (by decide), if_neg (by decide)]
  · rw [gM1_747, gM1_z (a := 3) (by decide) (by decide)] at h
    exact absurd h (by decide)
  · rw [gM1_746, gM1_z (a := 3) (by decide) (by decide)] at h
    exact absurd h (by decide)
/-- all calls -/
theorem gAll : goAll gInv := ⟨gInv_W, gInv_ux, go_feed, go_hill, go_fault, go_where, go_plants, go_near, go_goat, go_likes, go_clue, go_story, go_stories, go_caseOf, go_at, go_ate, go_drops, go_flees, go_left, go_met, go_isTrue, go_fits, go_fit, go_could, go_surely, go_lies, go_falseOnes, go_odds, go_likeliest, go_proved, go_ask, go_askMost, go_led, go_ledAt, go_scared, go_follows, go_step, go_needs, go_enough, go_cheese, go_cheeseOf, go_appeals, go_appealAt, go_salt, go_dog, go_hedge, go_hear, go_undo, go_mark, go_back, gq_put, go_size, go_trouble⟩
