/-! LINES: place, the row of amounts in both -/
section lines17
variable {e s b : Nat} {Rc Rm : goMR}
/-- what the row of a place changes -/
def plFr (s b : Nat) (Mc : goMI) (Lc : goML) (Mm : goMI) (Lm : goML) (Mc' : goMI) (Lc' : goML) (Mm' : goMI) (Lm' : goML) : Prop := (∀ a, a ≠ 1 → a ≠ s + 1 → Mc' a = Mc a) ∧ (∀ a, a ≠ 1 → Lc' a = Lc a) ∧ (∀ a, a ≠ 102 → a ≠ 104 → a ≠ b + 1 → Mm' a = Mm a) ∧ ∀ a, a ≠ 102 → Lm' a = Lm a
theorem rPlaceL {T : tH} (hs : s = 7 ∨ s = 37) (hb : 121 ≤ b) (hRc : goRr Rc 67 7 = s) (hRm : Rm 102 4 = some b) (hp : T 0 2 < 8) (h1 : T 0 1 ≤ 4) : ∀ (d k st : Nat) (Mc Mm : goMI) (Lc Lm : goML) (Tk : tH) (n m : Nat), k + d = T 0 1 → d < n → d < m → rT e st Mc Lc Mm Lm → tM Mm b Tk → pC Mc s Tk → (∀ r, r ≠ 1 → Tk r = T r) → (∀ j, j < 32 → Tk 1 j ≤ 9) → (∀ j, 4 * T 0 2 + k ≤ j → Tk 1 j = 0) →
    (∃ st' Mc' Lc' Mm' Lm' T', st ≤ st' ∧ lX9_placeLine_25 5000 (nI (T 0 2)) Rc n (nI k) Mc Lc = (goB3 (fX9_tell (goWI Mc' s 2 (nI (T 0 2 + 1))) Lc' 0 (nI (T 0 2))) fun x22 M23 L24 => Option.bind (goZr x22) fun x26 => some (x26, M23, L24)) ∧ lX14_readPlants_3 5000 (nI (4 * T 0 2)) 9 Rm (b + 1) 32 m (nI k) Mm Lm = some (Mm', Lm') ∧ rT e st' Mc' Lc' Mm' Lm' ∧ tM Mm' b T' ∧ pC Mc' s T' ∧ (∀ r, r ≠ 1 → T' r = T r) ∧ (∀ j, j < 32 → T' 1 j ≤ 9) ∧ (∀ j, 4 * T 0 2 + T 0 1 ≤ j → T' 1 j = 0) ∧ plFr s b Mc Lc Mm Lm Mc' Lc' Mm' Lm' ∧ gFr s b Mc Lc Mm Lm Mc' Lc' Mm' Lm' ∧ Mm' 102 14 = Mm 102 14) ∨
    (∃ (f : Int32) (st' : Nat) (Mc' : goMI) (Lc' : goML) (Mm' : goMI) (Lm' : goML), 0 < f ∧ lX9_placeLine_25 5000 (nI (T 0 2)) Rc n (nI k) Mc Lc = some (0, Mc', Lc') ∧ lX14_readPlants_3 5000 (nI (4 * T 0 2)) 9 Rm (b + 1) 32 m (nI k) Mm Lm = some (Mm', Lm') ∧ Mc' 67 10 = f ∧ Mc' 67 11 = nI st' ∧ Mm' 102 9 = 5 ∧ Mm' 102 14 = f ∧ Mm' 102 15 = nI st' ∧ gFr s b Mc Lc Mm Lm Mc' Lc' Mm' Lm') := by
  intro d
  induction d with
  | zero =>
    intro k st Mc Mm Lc Lm Tk n m hk hn hm h hM hC hT h9 hz
    obtain ⟨n, rfl⟩ : ∃ z, n = z + 1 := ⟨n - 1, by omega⟩
    obtain ⟨m, rfl⟩ : ∃ z, m = z + 1 := ⟨m - 1, by omega⟩
    have t0 : Tk 0 = T 0 := hT 0 (by decide)
    have k1 : Mc s 1 = nI (T 0 1) := by have := hC.1.2.1; rw [t0] at this; exact this
    have k2 : Mc s 2 = nI (T 0 2) := by have := hC.1.2.2.1; rw [t0] at this; exact this
    have k1' : Mm b 1 = nI (T 0 1) := by have := tM_0 hM (i := 1) (by decide); rw [t0] at this; exact this
    refine Or.inl ⟨st, Mc, Lc, Mm, Lm, Tk, Nat.le_refl _, ?_, ?_, h, hM, hC, hT, h9, fun j hj => hz j (by omega), ⟨fun _ _ _ => rfl, fun _ _ => rfl, fun _ _ _ _ => rfl, fun _ _ => rfl⟩, gFr_refl, rfl⟩
    · rw [lX9_placeLine_25, hRc, k1, if_neg (nI_nlt (by omega) (by omega)), gNm, k2, nI_1]
    · rw [lX14_readPlants_3, hRm, gBd, k1', if_neg (nI_nlt (by omega) (by omega))]
  | succ d ih =>
    intro k st Mc Mm Lc Lm Tk n m hk hn hm h hM hC hT h9 hz
    obtain ⟨n, rfl⟩ : ∃ z, n = z + 1 := ⟨n - 1, by omega⟩
    obtain ⟨m, rfl⟩ : ∃ z, m = z + 1 := ⟨m - 1, by omega⟩
    have t0 : Tk 0 = T 0 := hT 0 (by decide)
    have k1 : Mc s 1 = nI (T 0 1) := by have := hC.1.2.1; rw [t0] at this; exact this
    have k1' : Mm b 1 = nI (T 0 1) := by have := tM_0 hM (i := 1) (by decide); rw [t0] at this; exact this
    rw [lX9_placeLine_25, lX14_readPlants_3, hRc, hRm, k1, if_pos (nI_lt (by omega) (by omega)), gBd, k1', if_pos (nI_lt (by omega) (by omega)), if_neg (rT_9 h), nI_add]
    rcases rPart (k := k) (hi := 9) (by omega) (by decide) h with ⟨v, st1, Mc1, Lc1, Mm1, Lm1, v1, i1, c1, v3, m1, t1, f1, q, q1, q2, q3, q4⟩ | ⟨f, st1, Mc1, Lc1, Mm1, Lm1, hf, c1, m1, f1⟩
    · have c1' : fX9_partIn 5000 Mc Lc (nI k) 9 = some (1, Mc1, Lc1) := c1
      have g1 : Mc1 (s + 1) (T 0 2) = nI (tG Tk (T 0 2)) := by rw [f1.1 _ (by omega)]; exact hC.2.1 _ hp
      obtain ⟨st2, Mc2, Lc2, Mm2, Lm2, i2, n2, n2', t2, f2⟩ := rNext (Mc2 := goWI Mc1 (s + 1) (T 0 2) (nI (tG Tk (T 0 2) ||| v * 2 ^ (4 * k)))) (Lc2 := Lc1) (Mm2 := Mm1) (Lm2 := Lm1) t1 q1 q2 q3 q4 (goWI_ne (by omega)) (goWI_ne (by omega)) rfl rfl
      have m1' := m1 (fun x23 M24 L25 => Option.bind (goWr M24 (b + 1) 32 (nI (4 * T 0 2 + k)) x23) fun M27 => lX14_readPlants_3 5000 (nI (4 * T 0 2)) 9 Rm (b + 1) 32 m (nI k + 1) M27 L25)
      rw [n2', gB2, gWr (by omega), gBd] at m1'
      have m1'' : (goB2 (if 0 < nI k then goB2 (fX14_needsSign 5000 Mm Lm 44) fun M20 L21 => some (M20, L21) else some (Mm, Lm)) fun M15 L16 => goB3 (fX14_readWhole 5000 M15 L16 0 9) fun x23 M24 L25 => Option.bind (goWr M24 (b + 1) 32 (nI (4 * T 0 2 + k)) x23) fun M27 => lX14_readPlants_3 5000 (nI (4 * T 0 2)) 9 Rm (b + 1) 32 m (nI k + 1) M27 L25) = lX14_readPlants_3 5000 (nI (4 * T 0 2)) 9 Rm (b + 1) 32 m (nI k + 1) (goWI Mm2 (b + 1) (4 * T 0 2 + k) (nI v)) Lm2 := m1'
      have hM2 : tM (goWI Mm2 (b + 1) (4 * T 0 2 + k) (nI v)) b (tW Tk 1 (4 * T 0 2 + k) v) := tM_wr (tM_fr hM (fun r hr => by rw [f2.2.2.1 _ (by omega) (by omega), f1.2.2.1 _ (by omega) (by omega)]))
      have hC2 : pC Mc2 s (tW Tk 1 (4 * T 0 2 + k) v) := pC_fr (pC_1 (p := T 0 2) (pC_fr hC (fun r hr => f1.1 _ (by omega))) hp (by omega) v1 (fun j hj => h9 _ (by omega)) (hz _ (by omega))) (fun r hr => f2.1 _ (by omega))
      rw [c1', gB3, if_neg (by decide), gRd (by omega), gBd, g1, v3, gI_shn (by omega) v1, gI_or, gWr (by omega), gBd, n2, gB2, m1'', nI_1]
      have pf : plFr s b Mc Lc Mm Lm Mc2 Lc2 (goWI Mm2 (b + 1) (4 * T 0 2 + k) (nI v)) Lm2 := ⟨fun a h1 h2 => by rw [f2.1 a h1, goWI_ne h2, f1.1 a h1], fun a h1 => by rw [f2.2.1 a h1, f1.2.1 a h1], fun a h1 h2 h3 => by rw [goWI_ne h3, f2.2.2.1 a h1 h2, f1.2.2.1 a h1 h2], fun a h1 => by rw [f2.2.2.2.2.1 a h1, f1.2.2.2.2.1 a h1]⟩
      have gf : gFr s b Mc Lc Mm Lm Mc2 Lc2 (goWI Mm2 (b + 1) (4 * T 0 2 + k) (nI v)) Lm2 := gFr_trans (gFr_tok f1) (gFr_trans (gFr_trans ⟨fun a h1 h2 h3 h4 => goWI_ne (x := nI (tG Tk (T 0 2) ||| v * 2 ^ (4 * k))) (k := T 0 2) (a := s + 1) (by omega), fun j _ => gWI_na (by omega), fun _ _ _ _ => rfl, fun _ _ _ _ => rfl, fun _ _ => rfl, fun _ _ _ => rfl⟩ (gFr_tok f2)) ⟨fun _ _ _ _ _ => rfl, fun _ _ => rfl, fun _ _ _ _ => rfl, fun a h1 h2 h3 => goWI_ne (by omega), fun j hj => gWI_na (by omega), fun _ _ _ => rfl⟩)
      rcases ih (k + 1) st2 Mc2 (goWI Mm2 (b + 1) (4 * T 0 2 + k) (nI v)) Lc2 Lm2 (tW Tk 1 (4 * T 0 2 + k) v) n m (by omega) (by omega) (by omega) (rT_fr t2 rfl rfl (goWI_ne (by omega)) (goWI_ne (by omega)) (goWI_ne (by omega)) rfl rfl) hM2 hC2 (fun r hr => by rw [tW_r hr]; exact hT r hr) (fun j hj => by
          by_cases c : j = 4 * T 0 2 + k
          · rw [c, tW_e]; exact v1
          · rw [tW_i c]; exact h9 j hj) (fun j hj => by rw [tW_i (by omega)]; exact hz j (by omega)) with ⟨st', Mc', Lc', Mm', Lm', T', r1, r2, r3, r4, r5, r6, r7, r8, r9, r10, r11⟩ | ⟨f, st', Mc', Lc', Mm', Lm', r1, r2, r3, r4, r5, r6, r7, r8, r9⟩
      · exact Or.inl ⟨st', Mc', Lc', Mm', Lm', T', by omega, r2, r3, r4, r5, r6, r7, r8, r9, ⟨fun a h1 h2 => by rw [r10.1 a h1 h2, pf.1 a h1 h2], fun a h1 => by rw [r10.2.1 a h1, pf.2.1 a h1], fun a h1 h2 h3 => by rw [r10.2.2.1 a h1 h2 h3, pf.2.2.1 a h1 h2 h3], fun a h1 => by rw [r10.2.2.2 a h1, pf.2.2.2 a h1]⟩, gFr_trans gf r11.1, by rw [r11.2, gWI_na (by omega), f2.2.2.2.1 14 (by decide), f1.2.2.2.1 14 (by decide)]⟩
      · exact Or.inr ⟨f, st', Mc', Lc', Mm', Lm', r1, r2, r3, r4, r5, r6, r7, r8, gFr_trans gf r9⟩
    · have c1' : fX9_partIn 5000 Mc Lc (nI k) 9 = some (0, cF Mc1 f st1, Lc1) := c1
      have m1' := m1 (fun x23 M24 L25 => Option.bind (goWr M24 (b + 1) 32 (nI (4 * T 0 2 + k)) x23) fun M27 => lX14_readPlants_3 5000 (nI (4 * T 0 2)) 9 Rm (b + 1) 32 m (nI k + 1) M27 L25)
      rw [gWr (by omega), gBd] at m1'
      have h5 : goWI (mF Mm1 f st1) (b + 1) (4 * T 0 2 + k) 0 102 9 = 5 := by rw [gWI_na (by omega)]; exact mF_9
      obtain ⟨m, rfl⟩ : ∃ z, m = z + 1 := ⟨m - 1, by omega⟩
      have hend : lX14_readPlants_3 5000 (nI (4 * T 0 2)) 9 Rm (b + 1) 32 (m + 1) (nI k + 1) (goWI (mF Mm1 f st1) (b + 1) (4 * T 0 2 + k) 0) Lm1 = some (goWI (mF Mm1 f st1) (b + 1) (4 * T 0 2 + k) 0, Lm1) := by
        rw [lX14_readPlants_3, hRm, gBd, h5, if_pos rfl]
        split <;> rfl
      rw [hend] at m1'
      have m1'' : (goB2 (if 0 < nI k then goB2 (fX14_needsSign 5000 Mm Lm 44) fun M20 L21 => some (M20, L21) else some (Mm, Lm)) fun M15 L16 => goB3 (fX14_readWhole 5000 M15 L16 0 9) fun x23 M24 L25 => Option.bind (goWr M24 (b + 1) 32 (nI (4 * T 0 2 + k)) x23) fun M27 => lX14_readPlants_3 5000 (nI (4 * T 0 2)) 9 Rm (b + 1) 32 (m + 1) (nI k + 1) M27 L25) = some (goWI (mF Mm1 f st1) (b + 1) (4 * T 0 2 + k) 0, Lm1) := m1'
      rw [c1', gB3, if_pos rfl, m1'']
      refine Or.inr ⟨f, st1, _, _, _, _, hf, rfl, rfl, ?_, ?_, h5, ?_, ?_, gFr_trans (gFr_trans (gFr_tok f1) (gFr_f (f := f) (st := st1))) ⟨fun _ _ _ _ _ => rfl, fun _ _ => rfl, fun _ _ _ _ => rfl, fun a h1 h2 h3 => goWI_ne (by omega), fun j hj => gWI_na (by omega), fun _ _ _ => rfl⟩⟩
      · unfold cF; rw [gWI_nk (by decide), gWI_self, if_pos rfl]
      · unfold cF; rw [gWI_self, if_pos rfl]
      · rw [gWI_na (by omega)]; unfold mF; rw [gWI_nk (by decide), gWI_nk (by decide), gWI_self, if_pos rfl]
      · rw [gWI_na (by omega)]; unfold mF; rw [gWI_nk (by decide), gWI_self, if_pos rfl]
end lines17
