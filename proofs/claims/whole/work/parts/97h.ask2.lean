/-! WHAT TO ASK, in the model; the calls -/
section ask2
variable {k : Nat} {M : goMI} {R : goMR} {t b N : Nat} {T : tH} {A B : Nat → Nat}
/-- where the goats are in the cases that fit, one after the other -/
def mWh (M : goMI) (T : tH) (A : Nat → Nat) (n : Nat) : Prop := ∀ c, c < n → eB T A c (yHd T A) = true → ∀ g h, g < T 0 5 → h < T 0 0 → M 116 (72 * yCn T A c + (12 * g + h)) = nI (yS T A c h g)
theorem mAsks1 (hR : R 102 3 = some b) (hb : 121 ≤ b) (hM : tM M b T) (hT : tOk T) (hN : 5000 ≤ N) (hv : ∀ i, i < 18 → M 105 i = nI (B i)) (hAB : aB A B) (he : ∀ c, c < T 0 16 → M 114 c = nI (yH T A c)) : ∃ M', lX14_asks_17 N R N 0 0 M = some (nI (yCn T A (T 0 16)), M') ∧ mWh M' T A (T 0 16) ∧ ∀ b, b < 108 ∨ 116 < b ∨ b = 114 → M' b = M b := by
  have hz := tO_sz hT
  have hcs := tCases_le (T := T) (by omega) (tO_stories hT)
  have hA25 := hAB.2.2.2.2.2.2
  have key : ∃ r : Int32 × goMI, lX14_asks_17 N R N (nI 0) (nI 0) M = some r ∧ r.1 = nI (yCn T A (T 0 16)) ∧ mWh r.2 T A (T 0 16) ∧ ∀ b, b < 108 ∨ 116 < b ∨ b = 114 → r.2 b = M b := by
    refine gFor (fun n i (x : Int32 × goMI) => lX14_asks_17 N R n x.1 (nI i) x.2) (fun c x => x.1 = nI (yCn T A c) ∧ mWh x.2 T A c ∧ ∀ b, b < 108 ∨ 116 < b ∨ b = 114 → x.2 b = M b) _ (T 0 16) ?_ ?_ N 0 (nI 0, M) (Nat.zero_le _) ⟨rfl, fun c hc => absurd hc (Nat.not_lt_zero _), fun _ _ => rfl⟩ (by omega)
    · rintro n c ⟨x, M2⟩ hc ⟨p1, p2, p3⟩
      have p1' : x = nI (yCn T A c) := p1
      have p2' : mWh M2 T A c := p2
      have p3' : ∀ b, b < 108 ∨ 116 < b ∨ b = 114 → M2 b = M b := p3
      have hM2 : tM M2 b T := tM_fr hM (fun r hr => p3' _ (by omega))
      have hv2 : ∀ i, i < 18 → M2 105 i = nI (B i) := fun i hi => by rw [p3' 105 (by decide)]; exact hv i hi
      have he2 : ∀ c, c < T 0 16 → M2 114 c = nI (yH T A c) := fun c hc => by rw [p3' 114 (by decide)]; exact he c hc
      have hcl := yCn_le (T := T) (A := A) (n := c)
      show ∃ a', lX14_asks_17 N R (n + 1) x (nI c) M2 = lX14_asks_17 _ _ _ _ _ _ ∧ _
      rw [lX14_asks_17, hR, gBd, mCasesT hM2 hT hN, gBd, if_pos (nI_lt hc (by omega)), mHeard hR hM2 hT hv2 hAB, gBd, mTrue hT he2 hc (yHd_lt hA25), gBd, nI_1 c]
      cases e : eB T A c (yHd T A)
      · refine ⟨(x, M2), ?_, ?_, ?_, p3'⟩
        · rw [if_pos (by decide), gB2]
        · show x = nI (yCn T A (c + 1))
          rw [yCn_s, e]; exact p1'
        · intro c' hc' h1
          by_cases cc : c' = c
          · rw [cc, e] at h1; cases h1
          · exact p2' c' (by omega) h1
      · obtain ⟨M3, m1, m2, m3⟩ := mDayRun hR hb hM2 hT hN hv2 hAB (c := c) (by omega)
        have k2 : ∃ M4, lX14_asks_50 (nI (yCn T A c)) N (nI 0) M3 = some M4 ∧ (∀ b, b ≠ 116 → M4 b = M3 b) ∧ (∀ j, j < 72 * yCn T A c → M4 116 j = M3 116 j) ∧ ∀ j, j < 72 → M4 116 (72 * yCn T A c + j) = M3 108 j := by
          refine gFor (fun n i M' => lX14_asks_50 (nI (yCn T A c)) n (nI i) M') (fun i M' => (∀ b, b ≠ 116 → M' b = M3 b) ∧ (∀ j, j < 72 * yCn T A c → M' 116 j = M3 116 j) ∧ ∀ j, j < i → M' 116 (72 * yCn T A c + j) = M3 108 j) _ 72 ?_ ?_ N 0 M3 (Nat.zero_le _) ⟨fun _ _ => rfl, fun _ _ => rfl, fun j hj => absurd hj (Nat.not_lt_zero _)⟩ (by omega)
          · intro n i M4 hi hP
            obtain ⟨q1, q2, q3⟩ := hP
            refine ⟨goWI M4 116 (72 * yCn T A c + i) (M3 108 i), ?_, fun b hb => by rw [goWI_ne hb]; exact q1 b hb, fun j hj => by rw [gWI_nk (by omega)]; exact q2 j hj, fun j hj => ?_⟩
            · show lX14_asks_50 _ _ _ _ = lX14_asks_50 _ _ _ _
              have e6 : nI (yCn T A c) * 6 * 12 = nI (72 * yCn T A c) := by
                rw [gL_6, pk_mul, gL_12, pk_mul]
                exact congrArg nI (by omega)
              rw [lX14_asks_50, gL_72, if_pos (nI_lt hi (by decide)), gRd hi, gBd, q1 108 (by decide), e6, nI_add, gWr (by omega), gBd, nI_1]
            · rw [gWI_self]
              by_cases ej : j = i
              · rw [if_pos (by omega), ej]
              · rw [if_neg (by omega)]; exact q3 j (by omega)
          · intro n M4 hP
            refine ⟨M4, ?_, hP⟩
            show lX14_asks_50 _ _ _ _ = _
            rw [lX14_asks_50, gL_72, if_neg (nI_nlt (Nat.le_refl _) (by decide))]
        obtain ⟨M4, e1, e2, e3, e4⟩ := k2
        have e1' : lX14_asks_50 (nI (yCn T A c)) N 0 M3 = some M4 := e1
        refine ⟨(nI (yCn T A (c + 1)), M4), ?_, rfl, ?_, fun b hb => ?_⟩
        · rw [if_neg (by decide), m1, gBd, p1', e1', gBd, gB2, nI_1, yCn_s, e]; rfl
        · intro c' hc' h1 g h hg hh
          show M4 116 (72 * yCn T A c' + (12 * g + h)) = _
          by_cases cc : c' = c
          · rw [cc, e4 _ (by omega)]
            exact (m3.2.1 g h hg hh).1
          · have hlt : yCn T A c' < yCn T A c := by
              have h2 : yCn T A (c' + 1) = yCn T A c' + 1 := by rw [yCn_s, h1]; rfl
              have hmono : ∀ m, c' + 1 ≤ m → yCn T A (c' + 1) ≤ yCn T A m := by
                intro m hm
                induction m with
                | zero => omega
                | succ m ih =>
                  by_cases e : c' + 1 = m + 1
                  · rw [e]; exact Nat.le_refl _
                  · have := ih (by omega)
                    rw [yCn_s T A m]
                    omega
              have := hmono c (by omega)
              omega
            rw [e3 _ (by omega), m2 116 (by decide)]
            exact p2' c' (by omega) h1 g h hg hh
        · show M4 b = M b
          rw [e2 b (by omega), m2 b (by omega)]
          exact p3' b hb
    · rintro n ⟨x, M2⟩ ⟨p1, p2, p3⟩
      have p3' : ∀ b, b < 108 ∨ 116 < b ∨ b = 114 → M2 b = M b := p3
      refine ⟨(x, M2), ?_, p1, p2, p3⟩
      have hM2 : tM M2 b T := tM_fr hM (fun r hr => p3' _ (by omega))
      show lX14_asks_17 N R (n + 1) x (nI (T 0 16)) M2 = _
      rw [lX14_asks_17, hR, gBd, mCasesT hM2 hT hN, gBd, if_neg (nI_nlt (Nat.le_refl _) (by omega))]
  obtain ⟨⟨r, M2⟩, k1, k2, k3, k4⟩ := key
  have k2' : r = nI (yCn T A (T 0 16)) := k2
  exact ⟨M2, by rw [← k2']; exact k1, k3, k4⟩
theorem mMost (hT : tOk T) (hN : 5000 ≤ N) (hw : mWh M T A (T 0 16)) {g h : Nat} (hg : g < T 0 5) (hh : h < T 0 0) : ∃ M1 M', lX14_asks_147 N 0 M = some M1 ∧ lX14_asks_171 (nI (yCn T A (T 0 16))) (nI g) (nI h) N 0 0 M1 = some (nI (yMx T A g h (T 0 16)), M') ∧ ∀ b, b ≠ 117 → M' b = M b := by
  have hz := tO_sz hT
  have hcs := tCases_le (T := T) (by omega) (tO_stories hT)
  have hcl := yCn_le (T := T) (A := A) (n := T 0 16)
  have k1 : ∃ M1, lX14_asks_147 N (nI 0) M = some M1 ∧ (∀ b, b ≠ 117 → M1 b = M b) ∧ ∀ q, q < 8 → M1 117 q = nI 0 := by
    refine gFor (fun n i M' => lX14_asks_147 n (nI i) M') (fun i M' => (∀ b, b ≠ 117 → M' b = M b) ∧ ∀ q, q < i → M' 117 q = nI 0) _ 8 ?_ ?_ N 0 M (Nat.zero_le _) ⟨fun _ _ => rfl, fun j hj => absurd hj (Nat.not_lt_zero _)⟩ (by omega)
    · intro n i M1 hi hP
      refine ⟨goWI M1 117 i (nI 0), ?_, fun b hb => by rw [goWI_ne hb]; exact hP.1 b hb, fun q hq => ?_⟩
      · show lX14_asks_147 _ _ _ = lX14_asks_147 _ _ _
        rw [lX14_asks_147, gL_8, if_pos (nI_lt hi (by decide)), gL_0, gWr hi, gBd, nI_1]
      · rw [gWI_self]
        split
        · rfl
        · exact hP.2 q (by omega)
    · intro n M1 hP
      refine ⟨M1, ?_, hP⟩
      show lX14_asks_147 _ _ _ = _
      rw [lX14_asks_147, gL_8, if_neg (nI_nlt (Nat.le_refl _) (by decide))]
  obtain ⟨M1, a1, a2, a3⟩ := k1
  have key : ∃ r : Int32 × goMI, lX14_asks_171 (nI (yCn T A (T 0 16))) (nI g) (nI h) N (nI 0) (nI 0) M1 = some r ∧ r.1 = nI (yMx T A g h (T 0 16)) ∧ ∀ b, b ≠ 117 → r.2 b = M b := by
    refine gFor (fun n i (x : Int32 × goMI) => lX14_asks_171 (nI (yCn T A (T 0 16))) (nI g) (nI h) n x.1 (nI i) x.2) (fun i x => ∃ c, c ≤ T 0 16 ∧ yCn T A c = i ∧ x.1 = nI (yMx T A g h c) ∧ (∀ q, q < 8 → x.2 117 q = nI (yTl T A g h q c)) ∧ ∀ b, b ≠ 117 → x.2 b = M b) _ (yCn T A (T 0 16)) ?_ ?_ N 0 (nI 0, M1) (Nat.zero_le _) ⟨0, Nat.zero_le _, rfl, rfl, fun q hq => a3 q hq, a2⟩ (by omega)
    · rintro n i ⟨x, M2⟩ hi ⟨c, c1, c2, c3, c4, c5⟩
      have c3' : x = nI (yMx T A g h c) := c3
      have c4' : ∀ q, q < 8 → M2 117 q = nI (yTl T A g h q c) := c4
      have c5' : ∀ b, b ≠ 117 → M2 b = M b := c5
      obtain ⟨c', d1, d2, d3, d4, d5⟩ := yNext (T := T) (A := A) (g := g) (h := h) (n := T 0 16) (T 0 16 - c) c (by omega) (by rw [c2]; exact hi)
      have hs := yS_lt (A := A) (c := c') (h := h) (g := g) hT hg
      have htl := yTl_le (T := T) (A := A) (g := g) (h := h) (q := yS T A c' h g) (n := c')
      have hml := yMx_le (T := T) (A := A) (g := g) (h := h) c'
      have h116 : M2 116 (72 * i + 12 * g + h) = nI (yS T A c' h g) := by
        rw [c5' 116 (by decide), show 72 * i + 12 * g + h = 72 * yCn T A c' + (12 * g + h) by rw [d3, c2]; omega]
        exact hw c' d1 d2 g h hg hh
      have h117 : M2 117 (yS T A c' h g) = nI (yTl T A g h (yS T A c' h g) c') := by rw [c4' _ (by omega), d4]
      have h1 : yTl T A g h (yS T A c' h g) (c' + 1) = yTl T A g h (yS T A c' h g) c' + 1 := by
        rw [yTl_s, d2, decide_eq_true rfl]; rfl
      have hmx : yMx T A g h (c' + 1) = Nat.max (yMx T A g h c') (yTl T A g h (yS T A c' h g) c' + 1) := by
        show (if eB T A c' (yHd T A) then _ else _) = _
        rw [d2, if_pos rfl, h1]
      have e6 : nI i * 6 * 12 = nI (72 * i) := by
        rw [gL_6, pk_mul, gL_12, pk_mul]
        exact congrArg nI (by omega)
      refine ⟨(nI (yMx T A g h (c' + 1)), goWI M2 117 (yS T A c' h g) (nI (yTl T A g h (yS T A c' h g) c' + 1))), ?_, c' + 1, d1, ?_, rfl, fun q hq => ?_, fun b hb => ?_⟩
      · show lX14_asks_171 (nI (yCn T A (T 0 16))) (nI g) (nI h) (n + 1) x (nI i) M2 = lX14_asks_171 _ _ _ _ _ _ _
        rw [lX14_asks_171, if_pos (nI_lt hi (by omega)), e6, gL_12, gN_12, nI_add, nI_add, gRd (by omega), gBd, h116, gRd (by omega), gBd, h117, nI_1, gWr (by omega), gBd, gRd (by omega), gBd, gWI_self, if_pos rfl, c3', ← d5, nI_1, hmx]
        by_cases cm : yMx T A g h c' < yTl T A g h (yS T A c' h g) c' + 1
        · rw [if_pos (nI_lt cm (by omega)), gBd, gBd, show Nat.max (yMx T A g h c') (yTl T A g h (yS T A c' h g) c' + 1) = yTl T A g h (yS T A c' h g) c' + 1 from Nat.max_eq_right (by omega)]
        · rw [if_neg (nI_nlt (by omega) (by omega)), gBd, show Nat.max (yMx T A g h c') (yTl T A g h (yS T A c' h g) c' + 1) = yMx T A g h c' from Nat.max_eq_left (by omega)]
      · rw [yCn_s, d2, d3, c2]; rfl
      · show goWI M2 117 (yS T A c' h g) (nI (yTl T A g h (yS T A c' h g) c' + 1)) 117 q = _
        rw [gWI_self, yTl_s, d2]
        by_cases cq : q = yS T A c' h g
        · rw [if_pos cq, cq, decide_eq_true rfl]; rfl
        · rw [if_neg cq, decide_eq_false (fun x => cq x.symm), c4' q hq, d4]; rfl
      · show goWI M2 117 (yS T A c' h g) (nI (yTl T A g h (yS T A c' h g) c' + 1)) b = M b
        rw [goWI_ne hb]; exact c5' b hb
    · rintro n ⟨x, M2⟩ ⟨c, c1, c2, c3, c4, c5⟩
      have c3' : x = nI (yMx T A g h c) := c3
      obtain ⟨_, d2⟩ := ySame (T := T) (A := A) (g := g) (h := h) (n := T 0 16) (T 0 16 - c) c (by omega) c2
      refine ⟨(x, M2), ?_, ?_, c5⟩
      · show lX14_asks_171 (nI (yCn T A (T 0 16))) (nI g) (nI h) (n + 1) x (nI (yCn T A (T 0 16))) M2 = _
        rw [lX14_asks_171, if_neg (nI_nlt (Nat.le_refl _) (by omega))]
      · show x = _
        rw [c3', d2]
  obtain ⟨⟨r, M2⟩, k1, k2, k3⟩ := key
  have k2' : r = nI (yMx T A g h (T 0 16)) := k2
  exact ⟨M1, M2, a1, by rw [← k2']; exact k1, k3⟩
def mAs (M0 M : goMI) (s : Nat × Nat × Nat) : Prop := M 102 31 = nI s.1 ∧ (s.1 < 82 → M 102 30 = nI (100 * s.2.1 + s.2.2)) ∧ (∀ b, b ≠ 102 → b ≠ 117 → M b = M0 b) ∧ ∀ j, j < 30 → M 102 j = M0 102 j
theorem mQuestion (hR : R 102 3 = some b) (hb : 121 ≤ b) (hM : tM M b T) (hT : tOk T) (hN : 5000 ≤ N) (hw : mWh M T A (T 0 16)) : ∃ M', lX14_asks_117 N (nI (yCn T A (T 0 16))) R N 0 (goWI M 102 31 82) = some M' ∧ mAs M M' (qG T A (T 0 5)) := by
  have hz := tO_sz hT
  have hcs := tCases_le (T := T) (by omega) (tO_stories hT)
  have fr : ∀ M1 s, mAs M M1 s → tM M1 b T ∧ mWh M1 T A (T 0 16) := by
    intro M1 s h
    refine ⟨tM_fr hM (fun r hr => h.2.2.1 _ (by omega) (by omega)), ?_⟩
    unfold mWh
    rw [h.2.2.1 116 (by decide) (by decide)]
    exact hw
  refine gFor (fun n i M' => lX14_asks_117 N (nI (yCn T A (T 0 16))) R n (nI i) M') (fun g M' => mAs M M' (qG T A g)) _ (T 0 5) ?_ ?_ N 0 _ (Nat.zero_le _) ⟨by rw [gWI_self, if_pos rfl]; rfl, fun h => absurd h (by show ¬ (82 : Nat) < 82; decide), fun b h1 _ => goWI_ne h1, fun j hj => gWI_nk (by omega)⟩ (by omega)
  · intro n g M1 hg hP
    have inner : ∃ M2, lX14_asks_130 N (nI (yCn T A (T 0 16))) (nI g) R N (nI 0) M1 = some M2 ∧ mAs M M2 (qS T A g (qG T A g) (T 0 0)) := by
      refine gFor (fun n i M' => lX14_asks_130 N (nI (yCn T A (T 0 16))) (nI g) R n (nI i) M') (fun h M' => mAs M M' (qS T A g (qG T A g) h)) _ (T 0 0) ?_ ?_ N 0 M1 (Nat.zero_le _) hP (by omega)
      · intro n h M2 hh hP2
        obtain ⟨hM2, hw2⟩ := fr M2 _ hP2
        obtain ⟨M3, M4, m1, m2, m3⟩ := mMost (g := g) (h := h) hT hN hw2 hg hh
        obtain ⟨a1, a2, a3, a4⟩ := hP2
        have hml := yMx_le (T := T) (A := A) (g := g) (h := h) (T 0 16)
        have hle : (qS T A g (qG T A g) h).1 ≤ 82 := Nat.le_trans (qS_le _) (qG_le g)
        have r102 : M4 102 = M2 102 := m3 102 (by decide)
        have e2 : qS T A g (qG T A g) (h + 1) = if yMx T A g h (T 0 16) < (qS T A g (qG T A g) h).1 then (yMx T A g h (T 0 16), g, h) else qS T A g (qG T A g) h := rfl
        by_cases c1 : yMx T A g h (T 0 16) < (qS T A g (qG T A g) h).1
        · refine ⟨goWI (goWI M4 102 31 (nI (yMx T A g h (T 0 16)))) 102 30 (nI (100 * g + h)), ?_, ?_⟩
          · show lX14_asks_130 _ _ _ _ _ _ _ = lX14_asks_130 _ _ _ _ _ _ _
            rw [lX14_asks_130, hR, gBd, tM_0 hM2 (by decide), if_pos (nI_lt hh (by omega)), m1, gBd, m2, gB2, r102, a1, if_neg (nI_ge c1 (by omega)), gNm, gL_100, gN_100, nI_add, gNm, gBd, nI_1]
          · rw [e2, if_pos c1]
            refine ⟨?_, fun _ => ?_, fun b h1 h2 => ?_, fun j hj => ?_⟩
            · rw [gWI_nk (by decide), gWI_self, if_pos rfl]
            · rw [gWI_self, if_pos rfl]
            · rw [goWI_ne h1, goWI_ne h1, m3 b h2]; exact a3 b h1 h2
            · rw [gWI_nk (by omega), gWI_nk (by omega), r102]; exact a4 j hj
        · refine ⟨M4, ?_, ?_⟩
          · show lX14_asks_130 _ _ _ _ _ _ _ = lX14_asks_130 _ _ _ _ _ _ _
            rw [lX14_asks_130, hR, gBd, tM_0 hM2 (by decide), if_pos (nI_lt hh (by omega)), m1, gBd, m2, gB2, r102, a1, if_pos (nI_le (by omega) (by omega)), gBd, nI_1]
          · rw [e2, if_neg c1]
            exact ⟨by rw [r102]; exact a1, fun x => by rw [r102]; exact a2 x, fun b h1 h2 => by rw [m3 b h2]; exact a3 b h1 h2, fun j hj => by rw [r102]; exact a4 j hj⟩
      · intro n M2 hP2
        refine ⟨M2, ?_, hP2⟩
        obtain ⟨hM2, hw2⟩ := fr M2 _ hP2
        show lX14_asks_130 _ _ _ _ _ _ _ = _
        rw [lX14_asks_130, hR, gBd, tM_0 hM2 (by decide), if_neg (nI_nlt (Nat.le_refl _) (by omega))]
    obtain ⟨M2, i1, i2⟩ := inner
    refine ⟨M2, ?_, i2⟩
    obtain ⟨hM1, hw1⟩ := fr M1 _ hP
    have i1' : lX14_asks_130 N (nI (yCn T A (T 0 16))) (nI g) R N 0 M1 = some M2 := i1
    show lX14_asks_117 _ _ _ _ _ _ = lX14_asks_117 _ _ _ _ _ _
    rw [lX14_asks_117, hR, gBd, tM_0 hM1 (by decide), if_pos (nI_lt hg (by omega)), i1', gBd, nI_1]
  · intro n M1 hP
    refine ⟨M1, ?_, hP⟩
    obtain ⟨hM1, hw1⟩ := fr M1 _ hP
    show lX14_asks_117 _ _ _ _ _ _ = _
    rw [lX14_asks_117, hR, gBd, tM_0 hM1 (by decide), if_neg (nI_nlt (Nat.le_refl _) (by omega))]
theorem kOk_q3 {M M' : goMI} {A : Nat → Nat} (h : kOk k M T A) (hf : ∀ b, b ≠ 74 → b ≠ 77 → b < 102 → M' b = M b) (h74 : ∀ j, j < 9 → M' 74 j = M 74 j) : kOk k M' T A := by
  obtain ⟨⟨v, v1, v2, v3, v4⟩, k2, k3, k4, k5⟩ := h
  refine ⟨⟨v, v1, by rw [hf 3 (by decide) (by decide) (by decide)]; exact v2, by rw [h74 6 (by decide)]; exact v3, by rw [h74 7 (by decide)]; exact v4⟩, ?_, ?_, by rw [hf 84 (by decide) (by decide) (by decide)]; exact k4, by rw [hf 98 (by decide) (by decide) (by decide)]; exact k5⟩
  · rw [h74 7 (by decide), h74 8 (by decide), hf 3 (by decide) (by decide) (by decide)]
    intro e
    obtain ⟨c, c1, c2, c3⟩ := k2 e
    exact ⟨c, c1, c2, dayIs_fr c3 (fun r h1 h2 => hf _ (by omega) (by omega) (by omega))⟩
  · rw [h74 6 (by decide), hf 3 (by decide) (by decide) (by decide), hf 75 (by decide) (by decide) (by decide), hf 76 (by decide) (by decide) (by decide)]
    exact k3
end ask2
/-- both ask -/
theorem iAsk {k : Nat} {G : goG} {M : goMI} {L : goML} {R : goMR} {t b : Nat} {T : tH} {A B : Nat → Nat} (hX : iX k G M L R t T A B) (b1 : R 102 3 = some b) (b2 : 121 ≤ b) (b3 : tM M b T) (b4 : tOk T) :
    ∃ Me, fX4_freshened 5000 M R = some Me ∧
      ((∃ Mm, fX4_question 5000 Me R = some (0, Me) ∧ fX14_asks 5000 (goWI (goWI Me 0 8 6) 102 0 0) R = some (6, Mm) ∧ gInv (k + 1) G (goWI (goWI Mm 102 1 6) 102 2 (-1)) L R) ∨
       (∃ (Mq Mm : goMI) (s : Nat × Nat × Nat), fX4_question 5000 Me R = some (1, Mq) ∧ Mq 74 11 = nI s.1 ∧ Mq 74 9 = nI s.2.1 ∧ Mq 74 10 = nI s.2.2 ∧ fX14_asks 5000 (goWI (goWI Mq 0 8 0) 102 0 0) R = some (0, Mm) ∧ Mm 102 31 = nI s.1 ∧ Mm 102 30 = nI (100 * s.2.1 + s.2.2) ∧ gInv (k + 1) G (goWI (goWI Mm 102 1 0) 102 2 (-1)) L R)) := by
  obtain ⟨x1, x2, x3, x4, x5, x6, x7, x8, x9⟩ := id hX
  have hAB := x5.2.2.1.1
  have hA25 := hAB.2.2.2.2.2.2
  have hz := tO_sz b4
  have hcs := tCases_le (T := T) (by omega) (tO_stories b4)
  have h74 : goRr R 74 2 = t := by unfold goRr; rw [x2.2.2.2.1]; rfl
  have ht := x2.1
  have hcl := yCn_le (T := T) (A := A) (n := T 0 16)
  obtain ⟨Me, e1, e2, e3, e4, e5, e6, e7⟩ := iEv hX b1 b2 b3 b4
  refine ⟨Me, e1, ?_⟩
  have hmany := cHowMany (N := 5000) h74 e2 b4 (by decide) e3 hA25 e4
  -- the model up to the count
  have mod : ∀ (w : Int32) (Mc : goMI), (∀ b, 102 ≤ b → Mc b = Me b) → ∃ Mm, Option.bind (fX14_laysHonest 5000 (goWI (goWI Mc 0 8 w) 102 0 0) R) (fun M12 => lX14_asks_17 5000 R 5000 0 0 M12) = some (nI (yCn T A (T 0 16)), Mm) ∧ mWh Mm T A (T 0 16) ∧ tM Mm b T ∧ ∀ b, b < 108 ∨ 116 < b → Mm b = goWI (goWI Mc 0 8 w) 102 0 0 b := by
    intro w Mc hMc
    have f121 : ∀ b, 103 ≤ b → goWI (goWI Mc 0 8 w) 102 0 0 b = M b := fun b hb => by rw [goWI_ne (by omega), goWI_ne (by omega), hMc b (by omega)]; exact e6 b (by omega)
    have hM1 : tM (goWI (goWI Mc 0 8 w) 102 0 0) b T := tM_fr b3 (fun r hr => f121 _ (by omega))
    obtain ⟨M1, m1, m2, m3⟩ := mLays (N := 5000) b1 b2 hM1 b4 (by decide) (fun i hi => by rw [f121 105 (by decide)]; exact x5.2.1 i hi) hAB
    have hM2 : tM M1 b T := tM_fr hM1 (fun r hr => m3 _ (by omega))
    obtain ⟨M2, a1, a2, a3⟩ := mAsks1 (N := 5000) b1 b2 hM2 b4 (by decide) (fun i hi => by rw [m3 105 (by decide), f121 105 (by decide)]; exact x5.2.1 i hi) hAB m2
    exact ⟨M2, by rw [m1, gBd, a1], a2, tM_fr hM2 (fun r hr => a3 _ (by omega)), fun b hb => by rw [a3 b (by omega), m3 b (by omega)]⟩
  have unf : ∀ (w : Int32) (Mc Mm : goMI), Option.bind (fX14_laysHonest 5000 (goWI (goWI Mc 0 8 w) 102 0 0) R) (fun M12 => lX14_asks_17 5000 R 5000 0 0 M12) = some (nI (yCn T A (T 0 16)), Mm) → fX14_asks 5000 (goWI (goWI Mc 0 8 w) 102 0 0) R = (if 2 ≤ nI (yCn T A (T 0 16)) then Option.bind (R 102 3) fun b41 => if (Mm b41 5) = 0 then some (6, Mm) else goNm (goWI Mm 102 31 82) fun M44 => Option.bind (lX14_asks_117 5000 (nI (yCn T A (T 0 16))) R 5000 0 M44) fun M86 => some (0, M86) else some (6, Mm)) := by
    intro w Mc Mm h
    unfold fX14_asks
    rw [b1, if_neg (by simp)]
    cases hl : fX14_laysHonest 5000 (goWI (goWI Mc 0 8 w) 102 0 0) R with
    | none => rw [hl] at h; cases h
    | some y =>
      rw [hl, gBd] at h
      rw [gBd, h, gB2]
  have hno : ∀ Mm, (∀ b, b < 108 ∨ 116 < b → Mm b = goWI (goWI Me 0 8 6) 102 0 0 b) → gInv (k + 1) G (goWI (goWI Mm 102 1 6) 102 2 (-1)) L R := by
    intro Mm hf
    refine ⟨t, T, A, B, iX_q hX (M1 := goWI Me 0 8 6) (w := 6) ?_ (kOk_q e5) ?_ (by decide)⟩
    · refine ⟨fun b hb h74 _ => by rw [goWI_ne hb]; exact e6 b (by omega), fun b hb => by rw [goWI_ne (by omega)]; exact e6 b (by omega), ?_, ?_⟩
      · rw [gWI_nk (by decide), e6 0 (by decide)]
      · rw [gWI_self, if_pos rfl]
    · refine qM_w ?_ ?_ ?_ ?_
      · intro b hb; rw [hf b (by omega), goWI_ne (by omega)]
      · intro b h1 h2; rw [hf b (by omega), goWI_ne (by omega)]
      · intro b hb; rw [hf b (by omega), goWI_ne (by omega)]
      · intro j hj; rw [hf 102 (by decide), gWI_nk (by omega)]
  by_cases c5 : T 0 5 = 0
  · left
    obtain ⟨Mm, m1, m2, m3, m4⟩ := mod 6 Me (fun _ _ => rfl)
    refine ⟨Mm, ?_, ?_, hno Mm m4⟩
    · unfold fX4_question
      rw [h74, (tC_herd e2).1, c5, if_pos (by rfl)]
    · rw [unf 6 Me Mm m1, b1, gBd, tM_0 m3 (by decide), c5]
      split
      · rw [if_pos (by rfl)]
      · rfl
  · by_cases c2 : yCn T A (T 0 16) < 2
    · left
      obtain ⟨Mm, m1, m2, m3, m4⟩ := mod 6 Me (fun _ _ => rfl)
      refine ⟨Mm, ?_, ?_, hno Mm m4⟩
      · unfold fX4_question
        rw [h74, (tC_herd e2).1, if_neg (nI_ne0 (by omega) (by omega)), hmany, gBd, if_pos (show nI (yCn T A (T 0 16)) < 2 from (nI_lt c2 (by decide) : nI (yCn T A (T 0 16)) < nI 2))]
      · rw [unf 6 Me Mm m1, if_neg (show ¬ (2 : Int32) ≤ nI (yCn T A (T 0 16)) from (nI_ge c2 (by decide) : ¬ nI 2 ≤ nI (yCn T A (T 0 16))))]
    · right
      obtain ⟨Mq, q1, q2⟩ := cQuestion (N := 5000) h74 ht e2 b4 (by decide) e3 hA25 e4
      obtain ⟨qa, qb, qc, qd⟩ := q2
      obtain ⟨Mm, m1, m2, m3, m4⟩ := mod 0 Mq (fun b hb => qc b (by omega) (by omega))
      obtain ⟨Mn, n1, n2⟩ := mQuestion (N := 5000) b1 b2 m3 b4 (by decide) m2
      obtain ⟨na, nb, nc, nd⟩ := n2
      have hlt : (qG T A (T 0 5)).1 < 82 := by
        have := qG_lt (A := A) b4 (T 0 5 - 1)
        rw [show T 0 5 - 1 + 1 = T 0 5 by omega] at this
        omega
      refine ⟨Mq, Mn, qG T A (T 0 5), ?_, qa, (qb hlt).1, (qb hlt).2, ?_, na, nb hlt, ?_⟩
      · unfold fX4_question
        rw [h74, (tC_herd e2).1, if_neg (nI_ne0 (by omega) (by omega)), hmany, gBd, if_neg (show ¬ nI (yCn T A (T 0 16)) < 2 from (nI_nlt (by omega) (by omega) : ¬ nI (yCn T A (T 0 16)) < nI 2)), gNm, q1, gBd]
      · rw [unf 0 Mq Mm m1, if_pos (show (2 : Int32) ≤ nI (yCn T A (T 0 16)) from (nI_le (by omega) (by omega) : nI 2 ≤ nI (yCn T A (T 0 16)))), b1, gBd, tM_0 m3 (by decide), if_neg (nI_ne0 (by omega) (by omega)), gNm, n1, gBd]
      · refine ⟨t, T, A, B, iX_q hX (M1 := goWI Mq 0 8 0) (w := 0) ?_ (kOk_q (kOk_q3 e5 (fun b h1 h2 _ => qc b h1 h2) qd)) ?_ (by decide)⟩
        · refine ⟨fun b hb h74 _ => by rw [goWI_ne hb, qc b (by omega) (by omega)]; exact e6 b (by omega), fun b hb => by rw [goWI_ne (by omega), qc b (by omega) (by omega)]; exact e6 b (by omega), ?_, ?_⟩
          · rw [gWI_nk (by decide), qc 0 (by decide) (by decide), e6 0 (by decide)]
          · rw [gWI_self, if_pos rfl]
        · refine qM_w ?_ ?_ ?_ ?_
          · intro b hb; rw [nc b (by omega) (by omega), m4 b (by omega), goWI_ne (by omega)]
          · intro b h1 h2; rw [nc b (by omega) (by omega), m4 b (by omega), goWI_ne (by omega)]
          · intro b hb; rw [nc b (by omega) (by omega), m4 b (by omega), goWI_ne (by omega)]
          · intro j hj; rw [nd j (by omega), m4 102 (by decide), gWI_nk (by omega)]
theorem go_ask : goS_ask gInv := by
  rintro k G M L R ⟨t, T, A, B, hX⟩ hk
  rcases hX.2.2.2.1 with ⟨h1, h2⟩ | ⟨b, b1, b2, b3, b4⟩
  · refine ⟨5000, -1, goWI M 0 8 1, _, ?_, ?_, iNo hX (w := 1) (by decide)⟩
    · unfold fX12_ask
      rw [cIsHill0 hX h1, if_pos rfl, cRef, gB2]
    · unfold fX14_ask fX14_asks
      rw [gNm, if_pos h1, gB2, if_pos (by decide), mRef, gB2]
  · obtain ⟨Me, e1, h | h⟩ := iAsk hX b1 b2 b3 b4
    · obtain ⟨Mm, q1, q2, q3⟩ := h
      refine ⟨5000, -1, goWI Me 0 8 6, _, ?_, ?_, q3⟩
      · unfold fX12_ask
        rw [cIsHill1 hX b4, if_neg (by decide), e1, gBd, q1, gB2, if_pos rfl, cRef, gB2]
      · unfold fX14_ask
        rw [gNm, q2, gB2, if_pos (by decide), mRef, gB2]
    · obtain ⟨Mq, Mm, s, q1, q2, q3, q4, q5, q6, q7, q8⟩ := h
      refine ⟨5000, nI (100 * s.2.1 + s.2.2), goWI Mq 0 8 0, _, ?_, ?_, q8⟩
      · unfold fX12_ask
        rw [cIsHill1 hX b4, if_neg (by decide), e1, gBd, q1, gB2, if_neg (by decide), q3, q4, gL_100, gM_100, nI_add, cAns, gB2]
      · unfold fX14_ask
        rw [gNm, q5, gB2, if_neg (by decide), q7, mGood, gB2]
theorem go_askMost : goS_askMost gInv := by
  rintro k G M L R ⟨t, T, A, B, hX⟩ hk
  rcases hX.2.2.2.1 with ⟨h1, h2⟩ | ⟨b, b1, b2, b3, b4⟩
  · refine ⟨5000, -1, goWI M 0 8 1, _, ?_, ?_, iNo hX (w := 1) (by decide)⟩
    · unfold fX12_askMost
      rw [cIsHill0 hX h1, if_pos rfl, cRef, gB2]
    · unfold fX14_askMost fX14_asks
      rw [gNm, if_pos h1, gB2, if_pos (by decide), mRef, gB2]
  · obtain ⟨Me, e1, h | h⟩ := iAsk hX b1 b2 b3 b4
    · obtain ⟨Mm, q1, q2, q3⟩ := h
      refine ⟨5000, -1, goWI Me 0 8 6, _, ?_, ?_, q3⟩
      · unfold fX12_askMost
        rw [cIsHill1 hX b4, if_neg (by decide), e1, gBd, q1, gB2, if_pos rfl, cRef, gB2]
      · unfold fX14_askMost
        rw [gNm, q2, gB2, if_pos (by decide), mRef, gB2]
    · obtain ⟨Mq, Mm, s, q1, q2, q3, q4, q5, q6, q7, q8⟩ := h
      refine ⟨5000, nI s.1, goWI Mq 0 8 0, _, ?_, ?_, q8⟩
      · unfold fX12_askMost
        rw [cIsHill1 hX b4, if_neg (by decide), e1, gBd, q1, gB2, if_neg (by decide), q2, cAns, gB2]
      · unfold fX14_askMost
        rw [gNm, q5, gB2, if_neg (by decide), q6, mGood, gB2]
