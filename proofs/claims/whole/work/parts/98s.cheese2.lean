/-! LINES: cheese -/
section lines14
variable {e s b : Nat} {Rc Rm : goMR}
theorem rCheeseL (hs : s = 7 ∨ s = 37) (hb : 121 ≤ b) (hRc : goRr Rc 67 7 = s) (hRm : Rm 102 4 = some b) : ∀ (d k st : Nat) (Mc Mm : goMI) (Lc Lm : goML) (T : tH) (n m : Nat), k + d = T 0 1 → d < n → d < m → rT e st Mc Lc Mm Lm → rD s b Mc Lc Mm Lm T → T 0 0 ≠ 0 → T 0 15 = 0 → (∀ j, j < k → Mc (s + 8) j = nI (T 22 j)) →
    (∃ st' Mc' Lc' Mm' Lm' T', st ≤ st' ∧ lX9_cheeseLine_2 5000 Rc n (nI k) Mc Lc = some (1, goWI Mc' s 6 1, Lc') ∧ lX14_readPlants_3 5000 0 99 Rm (b + 22) 4 m (nI k) Mm Lm = some (Mm', Lm') ∧ rT e st' Mc' Lc' Mm' Lm' ∧ rD s b Mc' Lc' Mm' Lm' T' ∧ T' 0 = T 0 ∧ (∀ j, j < T 0 1 → Mc' (s + 8) j = nI (T' 22 j)) ∧ rKp Mc Mm Mc' Mm' ∧ gFr s b Mc Lc Mm Lm Mc' Lc' Mm' Lm') ∨
    (∃ (f : Int32) (st' : Nat) (Mc' : goMI) (Lc' : goML) (Mm' : goMI) (Lm' : goML), 0 < f ∧ lX9_cheeseLine_2 5000 Rc n (nI k) Mc Lc = some (0, Mc', Lc') ∧ lX14_readPlants_3 5000 0 99 Rm (b + 22) 4 m (nI k) Mm Lm = some (Mm', Lm') ∧ Mc' 67 10 = f ∧ Mc' 67 11 = nI st' ∧ Mm' 102 9 = 5 ∧ Mm' 102 14 = f ∧ Mm' 102 15 = nI st' ∧ gFr s b Mc Lc Mm Lm Mc' Lc' Mm' Lm') := by
  intro d
  induction d with
  | zero =>
    intro k st Mc Mm Lc Lm T n m hk hn hm h hD h0 h15 hc
    obtain ⟨n, rfl⟩ : ∃ z, n = z + 1 := ⟨n - 1, by omega⟩
    obtain ⟨m, rfl⟩ : ∃ z, m = z + 1 := ⟨m - 1, by omega⟩
    have a1 := hD.2.2.1.1.2.1
    have k1 : Mc s 1 = nI (T 0 1) := hD.2.1.1.2.1
    have k1' : Mm b 1 = nI (T 0 1) := tM_0 hD.1 (by decide)
    refine Or.inl ⟨st, Mc, Lc, Mm, Lm, T, Nat.le_refl _, ?_, ?_, h, hD, rfl, fun j hj => hc j (by omega), rKp_refl, gFr_refl⟩
    · rw [lX9_cheeseLine_2, hRc, k1, if_neg (nI_nlt (by omega) (by omega)), gNm]
    · rw [lX14_readPlants_3, hRm, gBd, k1', if_neg (nI_nlt (by omega) (by omega))]
  | succ d ih =>
    intro k st Mc Mm Lc Lm T n m hk hn hm h hD h0 h15 hc
    obtain ⟨n, rfl⟩ : ∃ z, n = z + 1 := ⟨n - 1, by omega⟩
    obtain ⟨m, rfl⟩ : ∃ z, m = z + 1 := ⟨m - 1, by omega⟩
    have a1 := hD.2.2.1.1.2.1
    have k1 : Mc s 1 = nI (T 0 1) := hD.2.1.1.2.1
    have k1' : Mm b 1 = nI (T 0 1) := tM_0 hD.1 (by decide)
    have hz0 : ∀ x : Nat, (0 : Int32) + nI x = nI x := fun x => by rw [Int32.zero_add]
    rw [lX9_cheeseLine_2, lX14_readPlants_3, hRc, hRm, k1, if_pos (nI_lt (by omega) (by omega)), gBd, k1', if_pos (nI_lt (by omega) (by omega)), if_neg (rT_9 h)]
    rcases rPart (k := k) (hi := 99) (by omega) (by decide) h with ⟨v, st1, Mc1, Lc1, Mm1, Lm1, v1, i1, c1, v3, m1, t1, f1, q, q1, q2, q3, q4⟩ | ⟨f, st1, Mc1, Lc1, Mm1, Lm1, hf, c1, m1, f1⟩
    · have c1' : fX9_partIn 5000 Mc Lc (nI k) 99 = some (1, Mc1, Lc1) := c1
      obtain ⟨st2, Mc2, Lc2, Mm2, Lm2, i2, n2, n2', t2, f2⟩ := rNext (Mc2 := goWI Mc1 (s + 8) k (nI v)) (Lc2 := Lc1) (Mm2 := Mm1) (Lm2 := Lm1) t1 q1 q2 q3 q4 (goWI_ne (by omega)) (goWI_ne (by omega)) rfl rfl
      have m1' := m1 (fun x23 M24 L25 => Option.bind (goWr M24 (b + 22) 4 (0 + nI k) x23) fun M27 => lX14_readPlants_3 5000 0 99 Rm (b + 22) 4 m (nI k + 1) M27 L25)
      rw [n2', gB2, hz0, gWr (by omega), gBd] at m1'
      have m1'' : (goB2 (if 0 < nI k then goB2 (fX14_needsSign 5000 Mm Lm 44) fun M20 L21 => some (M20, L21) else some (Mm, Lm)) fun M15 L16 => goB3 (fX14_readWhole 5000 M15 L16 0 99) fun x23 M24 L25 => Option.bind (goWr M24 (b + 22) 4 (nI k) x23) fun M27 => lX14_readPlants_3 5000 0 99 Rm (b + 22) 4 m (nI k + 1) M27 L25) = lX14_readPlants_3 5000 0 99 Rm (b + 22) 4 m (nI k + 1) (goWI Mm2 (b + 22) k (nI v)) Lm2 := m1'
      have hD1 := rD_tok hs hb hD f1
      have hDw := rD_22 (k := k) (v := v) hs hb hD1 h0 h15 v1
      have hD2 : rD s b Mc2 Lc2 (goWI Mm2 (b + 22) k (nI v)) Lm2 (tW T 22 k v) := rD_fr hDw (fun a ha => f2.1 a (by omega)) (by rw [f2.1 67 (by decide)]) (f2.2.1 68 (by decide)) (fun a h1 h2 => gW_c (f2.2.2.1 a (by omega) (by omega))) (f2.2.2.2.2.1 _ (by omega))
      have hT0 : (tW T 22 k v) 0 = T 0 := tW_r (by decide)
      have g2 : gFr s b Mc Lc Mm Lm Mc2 Lc2 (goWI Mm2 (b + 22) k (nI v)) Lm2 := gFr_trans (gFr_tok f1) (gFr_trans (gFr_trans ⟨fun a h1 h2 h3 h4 => goWI_ne (x := nI v) (k := k) (a := s + 8) (by omega), fun j _ => gWI_na (by omega), fun _ _ _ _ => rfl, fun _ _ _ _ => rfl, fun _ _ => rfl, fun _ _ _ => rfl⟩ (gFr_tok f2)) ⟨fun _ _ _ _ _ => rfl, fun _ _ => rfl, fun _ _ _ _ => rfl, fun a h1 h2 h3 => goWI_ne (by omega), fun j hj => gWI_na (by omega), fun _ _ _ => rfl⟩)
      have hc2 : ∀ j, j < k + 1 → Mc2 (s + 8) j = nI (tW T 22 k v 22 j) := by
        intro j hj
        rw [f2.1 _ (by omega), gWI_self]
        by_cases c : j = k
        · rw [if_pos c, c, tW_e]
        · rw [if_neg c, tW_i c, f1.1 _ (by omega)]; exact hc j (by omega)
      rw [c1', gB3, if_neg (by decide), v3, gWr (by omega), gBd, n2, gB2, hz0, m1'', nI_1]
      have w71 : rKp Mc Mm Mc2 (goWI Mm2 (b + 22) k (nI v)) := rKp_trans (rKp_trans (rKp_tok f1) (rKp_w (goWI_ne (by omega)) (goWI_ne (by omega)) rfl)) (rKp_trans (rKp_tok f2) (rKp_w rfl rfl (goWI_ne (by omega))))
      rcases ih (k + 1) st2 Mc2 (goWI Mm2 (b + 22) k (nI v)) Lc2 Lm2 (tW T 22 k v) n m (by rw [hT0]; omega) (by omega) (by omega) (rT_fr t2 rfl rfl (goWI_ne (by omega)) (goWI_ne (by omega)) (goWI_ne (by omega)) rfl rfl) hD2 (by rw [hT0]; exact h0) (by rw [hT0]; exact h15) hc2 with ⟨st', Mc', Lc', Mm', Lm', T', r1, r2, r3, r4, r5, r6, r7, r8, r9⟩ | ⟨f, st', Mc', Lc', Mm', Lm', r1, r2, r3, r4, r5, r6, r7, r8, r9⟩
      · exact Or.inl ⟨st', Mc', Lc', Mm', Lm', T', by omega, r2, r3, r4, r5, by rw [r6, hT0], fun j hj => r7 j (by rw [hT0]; exact hj), rKp_trans w71 r8, gFr_trans g2 r9⟩
      · exact Or.inr ⟨f, st', Mc', Lc', Mm', Lm', r1, r2, r3, r4, r5, r6, r7, r8, gFr_trans g2 r9⟩
    · have c1' : fX9_partIn 5000 Mc Lc (nI k) 99 = some (0, cF Mc1 f st1, Lc1) := c1
      have m1' := m1 (fun x23 M24 L25 => Option.bind (goWr M24 (b + 22) 4 (0 + nI k) x23) fun M27 => lX14_readPlants_3 5000 0 99 Rm (b + 22) 4 m (nI k + 1) M27 L25)
      rw [hz0, gWr (by omega), gBd] at m1'
      have h5 : goWI (mF Mm1 f st1) (b + 22) k 0 102 9 = 5 := by rw [gWI_na (by omega)]; exact mF_9
      obtain ⟨m, rfl⟩ : ∃ z, m = z + 1 := ⟨m - 1, by omega⟩
      have hend : lX14_readPlants_3 5000 0 99 Rm (b + 22) 4 (m + 1) (nI k + 1) (goWI (mF Mm1 f st1) (b + 22) k 0) Lm1 = some (goWI (mF Mm1 f st1) (b + 22) k 0, Lm1) := by
        rw [lX14_readPlants_3, hRm, gBd, h5, if_pos rfl]
        split <;> rfl
      rw [hend] at m1'
      have m1'' : (goB2 (if 0 < nI k then goB2 (fX14_needsSign 5000 Mm Lm 44) fun M20 L21 => some (M20, L21) else some (Mm, Lm)) fun M15 L16 => goB3 (fX14_readWhole 5000 M15 L16 0 99) fun x23 M24 L25 => Option.bind (goWr M24 (b + 22) 4 (nI k) x23) fun M27 => lX14_readPlants_3 5000 0 99 Rm (b + 22) 4 (m + 1) (nI k + 1) M27 L25) = some (goWI (mF Mm1 f st1) (b + 22) k 0, Lm1) := m1'
      rw [c1', gB3, if_pos rfl, hz0, m1'']
      refine Or.inr ⟨f, st1, _, _, _, _, hf, rfl, rfl, ?_, ?_, h5, ?_, ?_, gFr_trans (gFr_trans (gFr_tok f1) (gFr_f (f := f) (st := st1))) ⟨fun _ _ _ _ _ => rfl, fun _ _ => rfl, fun _ _ _ _ => rfl, fun a h1 h2 h3 => goWI_ne (by omega), fun j hj => gWI_na (by omega), fun _ _ _ => rfl⟩⟩
      · unfold cF; rw [gWI_nk (by decide), gWI_self, if_pos rfl]
      · unfold cF; rw [gWI_self, if_pos rfl]
      · rw [gWI_na (by omega)]; unfold mF; rw [gWI_nk (by decide), gWI_nk (by decide), gWI_self, if_pos rfl]
      · rw [gWI_na (by omega)]; unfold mF; rw [gWI_nk (by decide), gWI_self, if_pos rfl]
theorem rCheese {st : Nat} {Mc Mm Mm0 : goMI} {Lc Lm Lm0 : goML} {T : tH} (hs : s = 7 ∨ s = 37) (hb : 121 ≤ b) (hRc : goRr Rc 67 7 = s) (hRm : Rm 102 4 = some b) (h0 : T 0 0 ≠ 0) (h15 : T 0 15 = 0) (hbeg : fX14_beginsOnce 5000 Mm0 Lm0 Rm (Mm0 b 15) = some (Mm, Lm)) (h : rT e st Mc Lc Mm Lm) (hD : rD s b Mc Lc Mm Lm T) :
    rOut e s b st Mc Lc Mm Lm (fX9_cheeseLine 5000 Mc Lc Rc) (fX14_readCheese 5000 Mm0 Lm0 Rm) (fun T' => ∀ j, j ≠ 12 → T' 0 j = if j = 15 then 1 else T 0 j) := by
  have a1 := hD.2.2.1.1.2.1
  unfold fX9_cheeseLine fX14_readCheese fX14_readPlants
  simp only [hRm, gBd, gNm]
  rw [hbeg, gB2]
  rcases rCheeseL (e := e) hs hb hRc hRm (T 0 1) 0 st Mc Mm Lc Lm T 5000 5000 (by omega) (by omega) (by omega) h hD h0 h15 (fun j hj => absurd hj (Nat.not_lt_zero _)) with ⟨st', Mc', Lc', Mm', Lm', T', r1, r2, r3, r4, r5, r6, r7, r8, r9⟩ | ⟨f, st', Mc', Lc', Mm', Lm', r1, r2, r3, r4, r5, r6, r7, r8, r9⟩
  · have r2' : lX9_cheeseLine_2 5000 Rc 5000 0 Mc Lc = some (1, goWI Mc' s 6 1, Lc') := r2
    have r3' : lX14_readPlants_3 5000 0 99 Rm (b + 22) 4 5000 0 Mm Lm = some (Mm', Lm') := r3
    rw [r2', r3', gB2, gB2, if_neg (rT_9 r4)]
    have hD' := rD_15 hs hb r5 (by rw [r6]; exact h0) (fun j hj => r7 j (by rw [← r6]; exact hj))
    refine Or.inl ⟨st', _, Lc', _, Lm', _, r1, rfl, rfl, rT_fr r4 (goWI_ne (by omega)) (goWI_ne (by omega)) (goWI_ne (by omega)) (goWI_ne (by omega)) (goWI_ne (by omega)) rfl rfl, hD', rKp_trans r8 (rKp_w (goWI_ne (by omega)) (goWI_ne (by omega)) (goWI_ne (by omega))), gFr_trans r9 ⟨fun a h1 h2 h3 h4 => goWI_ne (by omega), fun j hj => gWI_na (by omega), fun _ _ _ _ => rfl, fun a h1 h2 h3 => goWI_ne (by omega), fun j hj => gWI_na (by omega), fun _ _ _ => rfl⟩, fun j _ => ?_⟩
    by_cases c : j = 15
    · rw [if_pos c, c, tW_e]
    · rw [if_neg c, tW_i c, r6]
  · have r2' : lX9_cheeseLine_2 5000 Rc 5000 0 Mc Lc = some (0, Mc', Lc') := r2
    have r3' : lX14_readPlants_3 5000 0 99 Rm (b + 22) 4 5000 0 Mm Lm = some (Mm', Lm') := r3
    rw [r2', r3', gB2, gB2, if_pos r6]
    exact Or.inr ⟨f, st', Mc', Lc', Mm', Lm', r1, rfl, rfl, r4, r5, r6, r7, r8, r9⟩
end lines14
