/-! THE COMPONENT'S DAY, as it is told -/
section cDay2
variable {M M' : goMI} {R : goMR} {T : tH} {t a N : Nat} {A S op fe L : Nat → Nat}
/-- what is told of a day, where goat g has had f g hours -/
def rJ (M : goMI) (a : Nat) (T : tH) (op fe L S : Nat → Nat) (f : Nat → Nat) : Prop :=
  (∀ g h, g < T 0 5 → h < f g → M (a + 5) (12 * g + h) = nI (dSp T op fe L S h g) ∧ M (a + 6) (12 * g + h) = nI (dBc T op fe L S h g)) ∧
  (∀ g k, g < T 0 5 → k < 4 → M (a + 7) (4 * g + k) = nI (dEt T op fe L S g k (f g))) ∧
  (∀ g k q, g < T 0 5 → k < 4 → q < 8 → M (a + 8) (8 * (4 * g + k) + q) = nI (dDr T op fe L S g k q (f g))) ∧
  ∀ g, g < T 0 5 → M (a + 9) g = nI (dFs T op fe L S g (f g))
theorem dSp_lt {h g : Nat} (hT : tOk T) (hS : dSok T (cS T op fe L S h g)) (hg : g < T 0 5) : dSp T op fe L S h g < T 0 2 := dTo_lt hT hS hg
theorem dCo_parts {fe sa dg g : Nat} (hT : tOk T) (hg : g < T 0 5) (he : dEa T op fe sa dg S g = true) : dCo T op fe sa dg S g % 4 = dPl T S g ∧ dCo T op fe sa dg S g / 4 = dBt T S g := by
  have hz := tO_sz hT
  have c := he
  have hrk : dRk T S g (S (8 + g)) < T 8 g := by
    unfold dEa at c
    simp only [Bool.and_eq_true, decide_eq_true_eq, Bool.not_eq_true'] at c
    have c3 := c.1.1.2
    have hlt := c.2
    unfold dWo at hlt
    rw [c3, if_neg Bool.false_ne_true] at hlt
    split at hlt
    · assumption
    · omega
  have hpl : dPl T S g < T 0 1 := (tO_goat hT g hg).2.2.2.2.2.2.2 _ hrk
  unfold dCo
  rw [he, if_pos rfl]
  omega
theorem rJ_step {g h : Nat} (hT : tOk T) (hg : g < T 0 5) (hh : h < 12) (hS : dSok T (cS T op fe L S h g)) (hJ : rJ M a T op fe L S (fun g' => if g' < g then h + 1 else h)) (hZ : cZ M M' a T op fe L (cS T op fe L S h g) g h) : rJ M' a T op fe L S (fun g' => if g' < g + 1 then h + 1 else h) := by
  have hz := tO_sz hT
  obtain ⟨j1, j2, j3, j4⟩ := hJ
  obtain ⟨z1, z5, z6, z7, z9, z8⟩ := hZ
  have hsp : dTo T op (fe (12 * g + h)) (L h) (L (12 + h)) (cS T op fe L S h g) g = dSp T op fe L S h g := rfl
  have hbc : dCo T op (fe (12 * g + h)) (L h) (L (12 + h)) (cS T op fe L S h g) g = dBc T op fe L S h g := rfl
  have hfd : dFl T op (fe (12 * g + h)) (L h) (L (12 + h)) (cS T op fe L S h g) g = dFd T op fe L S h g := rfl
  have hfg : (if g < g then h + 1 else h) = h := if_neg (Nat.lt_irrefl _)
  have hfg' : (if g < g + 1 then h + 1 else h) = h + 1 := if_pos (Nat.lt_succ_self _)
  have hne : ∀ g', g' ≠ g → (if g' < g + 1 then h + 1 else h) = (if g' < g then h + 1 else h) := fun g' hn => by
    by_cases c : g' < g
    · rw [if_pos c, if_pos (by omega)]
    · rw [if_neg c, if_neg (by omega)]
  have hspl := dSp_lt hT hS hg
  refine ⟨fun g' h' hg' hh' => ?_, fun g' k hg' hk => ?_, fun g' k q hg' hk hq => ?_, fun g' hg' => ?_⟩
  · by_cases c : g' = g ∧ h' = h
    · rw [c.1, c.2, z5, z6, if_pos rfl, if_pos rfl]
      exact ⟨rfl, rfl⟩
    · have hh1 : h' < h + 1 := by
        have : (if g' < g + 1 then h + 1 else h) ≤ h + 1 := by split <;> omega
        exact Nat.lt_of_lt_of_le hh' this
      have : h' < (if g' < g then h + 1 else h) := by
        by_cases c2 : g' = g
        · rw [c2, hfg]; omega
        · rw [← hne g' c2]; exact hh'
      have hd : ¬ 12 * g' + h' = 12 * g + h := by omega
      rw [z5, z6, if_neg hd, if_neg hd]
      exact j1 g' h' hg' this
  · rw [z7]
    by_cases c : g' = g
    · rw [c]
      show _ = nI (dEt T op fe L S g k (if g < g + 1 then h + 1 else h))
      rw [hfg']
      have e0 : M (a + 7) (4 * g + k) = nI (dEt T op fe L S g k (if g < g then h + 1 else h)) := j2 g k hg hk
      rw [hfg] at e0
      have e1 : dEt T op fe L S g k (h + 1) = dEt T op fe L S g k h + (if dBc T op fe L S h g % 4 = k then dBc T op fe L S h g / 4 else 0) := rfl
      rw [e1]
      cases he : dEa T op (fe (12 * g + h)) (L h) (L (12 + h)) (cS T op fe L S h g) g
      · have : dBc T op fe L S h g = 0 := by rw [← hbc]; unfold dCo; rw [he]; rfl
        rw [this, Bool.false_and, if_neg Bool.false_ne_true, e0]
        congr 1
        split <;> rfl
      · obtain ⟨p1, p2⟩ := dCo_parts hT hg he
        rw [hbc] at p1 p2
        rw [p1, p2, Bool.true_and]
        by_cases c2 : dPl T (cS T op fe L S h g) g = k
        · rw [if_pos (decide_eq_true (by omega)), if_pos c2, e0, nI_add]
        · rw [if_neg (by rw [decide_eq_false (by omega)]; exact Bool.false_ne_true), if_neg c2, e0, Nat.add_zero]
    · have hpl4 : dEa T op (fe (12 * g + h)) (L h) (L (12 + h)) (cS T op fe L S h g) g = true → dPl T (cS T op fe L S h g) g < 4 := fun he => by
        have := (dCo_parts hT hg he).1
        omega
      have : (dEa T op (fe (12 * g + h)) (L h) (L (12 + h)) (cS T op fe L S h g) g && decide (4 * g' + k = 4 * g + dPl T (cS T op fe L S h g) g)) = false := by
        cases he : dEa T op (fe (12 * g + h)) (L h) (L (12 + h)) (cS T op fe L S h g) g
        · rfl
        · have := hpl4 he
          rw [Bool.true_and]
          exact decide_eq_false (by omega)
      rw [this, if_neg Bool.false_ne_true, j2 g' k hg' hk]
      show nI (dEt T op fe L S g' k (if g' < g then h + 1 else h)) = nI (dEt T op fe L S g' k (if g' < g + 1 then h + 1 else h))
      rw [hne g' c]
  · have hn : 2 ≤ h → M (a + 6) (12 * g + h - 2) = nI (dBc T op fe L S (h - 2) g) := fun c2 => by
      have := (j1 g (h - 2) hg (by show h - 2 < (if g < g then h + 1 else h); rw [hfg]; omega)).2
      rw [show 12 * g + h - 2 = 12 * g + (h - 2) by omega]
      exact this
    have hlt : dBc T op fe L S (h - 2) g < 12 := dCo_lt hT hg
    rw [z8 _ hlt hn, hsp]
    by_cases c : g' = g
    · rw [c]
      show _ = nI (dDr T op fe L S g k q (if g < g + 1 then h + 1 else h))
      rw [hfg']
      have e0 : M (a + 8) (8 * (4 * g + k) + q) = nI (dDr T op fe L S g k q (if g < g then h + 1 else h)) := j3 g k q hg hk hq
      rw [hfg] at e0
      have e1 : dDr T op fe L S g k q (h + 1) = dDr T op fe L S g k q h + (if 2 ≤ h ∧ dBc T op fe L S (h - 2) g % 4 = k ∧ dSp T op fe L S h g = q then dBc T op fe L S (h - 2) g / 4 else 0) := rfl
      rw [e1, e0]
      by_cases c2 : 2 ≤ h ∧ dBc T op fe L S (h - 2) g % 4 = k ∧ dSp T op fe L S h g = q
      · rw [if_pos c2, if_pos (by omega), nI_add]
      · rw [if_neg c2, if_neg (by omega), Nat.add_zero]
    · rw [if_neg (by omega), j3 g' k q hg' hk hq]
      show nI (dDr T op fe L S g' k q (if g' < g then h + 1 else h)) = nI (dDr T op fe L S g' k q (if g' < g + 1 then h + 1 else h))
      rw [hne g' c]
  · rw [z9]
    by_cases c : g' = g
    · rw [c, if_pos rfl]
      show _ = nI (dFs T op fe L S g (if g < g + 1 then h + 1 else h))
      rw [hfg']
      have e0 : M (a + 9) g = nI (dFs T op fe L S g (if g < g then h + 1 else h)) := j4 g hg
      rw [hfg] at e0
      rw [e0, nI_add]
      rfl
    · rw [if_neg c, j4 g' hg']
      show nI (dFs T op fe L S g' (if g' < g then h + 1 else h)) = nI (dFs T op fe L S g' (if g' < g + 1 then h + 1 else h))
      rw [hne g' c]
theorem dFr_b (hT : tOk T) (c : Nat) : ∀ i, i < 72 → dFr T c i < 256 := fun i hi => by
  unfold dFr
  split
  · exact dPf_b hT (by omega) _ (Nat.le_refl _)
  · decide
theorem cK_of (hT : tOk T) (hA : ∀ i, i < 24 → A i < 256) (c : Nat) : cK (dOp T (A 24)) (dFr T c) A := ⟨hA, fun p _ => dOp_b _ _, dFr_b hT c⟩
/-- the day of a case lies at a -/
def dayIs (M : goMI) (a : Nat) (T : tH) (A : Nat → Nat) (c : Nat) : Prop :=
  (∀ i, i < 14 → M (a + 1) i = nI (cR T (dOp T (A 24)) (dFr T c) A 0 (dS0 T) (T 0 0) i)) ∧ rJ M a T (dOp T (A 24)) (dFr T c) A (dS0 T) (fun _ => T 0 0)
theorem cDayRun (hC : tC M t T) (hT : tOk T) (hR : goRr R a 1 = t) (hta : t + 29 < a) (h4t : 4 < t) (hN : 5000 ≤ N) (hA : ∀ i, i < 26 → M 4 i = nI (A i)) (hAb : ∀ i, i < 24 → A i < 256) (hA24 : A 24 < 16384) (hb6 : ∀ i, i < 72 → ∃ n, n < 12 ∧ M (a + 6) i = nI n) {c : Nat} (hc : c < 2 ^ 31) :
    ∃ M1 M2, fX3_prepare N M R a (nI c) = some M1 ∧ fX3_play N M1 R a 0 ((M1 t 0) - 1) = some M2 ∧ dayIs M2 a T A c ∧ (∀ b, b ≤ a ∨ a + 9 < b → M2 b = M b) ∧ (∀ i, i < 72 → ∃ n, n < 12 ∧ M2 (a + 6) i = nI n) := by
  have hz := tO_sz hT
  obtain ⟨M1, e1, hB, fr, r7, r8, r9⟩ := cPrepare hC hT hR hta h4t hN hA hA24 hb6 hc
  have hpl := cPlay (M := M1) (f := 0) (to := T 0 0 - 1) hT hR hta hN (cK_of hT hAb c) (Nat.zero_le _) (by omega)
    (fun h g M => (∀ b, b ≤ a ∨ a + 9 < b → M b = M1 b) ∧ rJ M a T (dOp T (A 24)) (dFr T c) A (dS0 T) (fun g' => if g' < g then h + 1 else h))
    (fun h g Ma Mb _ hh hg hBa hj hZ => ⟨fun b hb => by rw [hZ.1 b (by omega)]; exact hj.1 b hb, rJ_step hT hg (by omega) hBa.2.2.2.2.2.1 hj.2 hZ⟩)
    (fun h Ma _ _ hj => ⟨hj.1, by
      have h2 := hj.2
      refine ⟨fun g h' hg hh' => h2.1 g h' hg ?_, fun g k hg hk => ?_, fun g k q hg hk hq => ?_, fun g hg => ?_⟩
      · show h' < (if g < T 0 5 then h + 1 else h)
        rw [if_pos hg]
        have hh2 : h' < (if g < 0 then h + 1 + 1 else h + 1) := hh'
        rw [if_neg (Nat.not_lt_zero _)] at hh2
        exact hh2
      · have := h2.2.1 g k hg hk
        simp only [hg, ↓reduceIte] at this
        show _ = nI (dEt _ _ _ _ _ _ _ (if g < 0 then h + 1 + 1 else h + 1))
        rw [if_neg (Nat.not_lt_zero _)]
        exact this
      · have := h2.2.2.1 g k q hg hk hq
        simp only [hg, ↓reduceIte] at this
        show _ = nI (dDr _ _ _ _ _ _ _ _ (if g < 0 then h + 1 + 1 else h + 1))
        rw [if_neg (Nat.not_lt_zero _)]
        exact this
      · have := h2.2.2.2 g hg
        simp only [hg, ↓reduceIte] at this
        show _ = nI (dFs _ _ _ _ _ _ (if g < 0 then h + 1 + 1 else h + 1))
        rw [if_neg (Nat.not_lt_zero _)]
        exact this⟩)
    hB ⟨fun _ _ => rfl, ⟨fun g h' _ hh' => absurd hh' (by show ¬ h' < (if g < 0 then 0 + 1 else 0); rw [if_neg (Nat.not_lt_zero _)]; omega), fun g k hg hk => by
      rw [r7 _ (by omega)]
      show _ = nI (dEt _ _ _ _ _ _ _ (if g < 0 then 0 + 1 else 0))
      rw [if_neg (Nat.not_lt_zero _)]; rfl, fun g k q hg hk hq => by
      rw [r8 _ (by omega)]
      show _ = nI (dDr _ _ _ _ _ _ _ _ (if g < 0 then 0 + 1 else 0))
      rw [if_neg (Nat.not_lt_zero _)]; rfl, fun g hg => by
      rw [r9 _ (by omega)]
      show _ = nI (dFs _ _ _ _ _ _ (if g < 0 then 0 + 1 else 0))
      rw [if_neg (Nat.not_lt_zero _)]; rfl⟩⟩
  obtain ⟨M2, p1, p2, p3, p4⟩ := hpl
  have e0 : T 0 0 - 1 + 1 = T 0 0 := by omega
  rw [e0] at p2 p4
  have hsub : nI (T 0 0) - 1 = nI (T 0 0 - 1) := pk_sub (b := 1) (by omega)
  refine ⟨M1, M2, e1, ?_, ⟨?_, ?_⟩, fun b hb => by rw [p3 b hb]; exact fr b (by omega), p2.2.2.2.2.2.2⟩
  · rw [tC_hours hB.1, hsub]
    exact p1
  · exact p2.2.2.2.2.1
  · refine ⟨fun g h' hg hh' => p4.1 g h' hg ?_, fun g k hg hk => ?_, fun g k q hg hk hq => ?_, fun g hg => ?_⟩
    · show h' < (if g < 0 then T 0 0 + 1 else T 0 0)
      rw [if_neg (Nat.not_lt_zero _)]
      exact hh'
    · exact p4.2.1 g k hg hk
    · exact p4.2.2.1 g k q hg hk hq
    · exact p4.2.2.2 g hg
end cDay2
