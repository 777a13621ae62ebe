/-! WHAT TO ASK -/
def yCn (T : tH) (A : Nat → Nat) (n : Nat) : Nat := gSum (fun c => (eB T A c (yHd T A)).toNat) n
def yTl (T : tH) (A : Nat → Nat) (g h q n : Nat) : Nat := gSum (fun c => (eB T A c (yHd T A) && decide (yS T A c h g = q)).toNat) n
def yMx (T : tH) (A : Nat → Nat) (g h : Nat) : Nat → Nat
  | 0 => 0
  | c + 1 => if eB T A c (yHd T A) then Nat.max (yMx T A g h c) (yTl T A g h (yS T A c h g) (c + 1)) else yMx T A g h c
theorem yTl_le {T : tH} {A : Nat → Nat} {g h q n : Nat} : yTl T A g h q n ≤ n := by
  have := gSum_le (f := fun c => (eB T A c (yHd T A) && decide (yS T A c h g = q)).toNat) (c := 1) (n := n) (fun i _ => by
    show (eB T A i (yHd T A) && decide (yS T A i h g = q)).toNat ≤ 1
    cases (eB T A i (yHd T A) && decide (yS T A i h g = q)) <;> decide)
  unfold yTl
  omega
theorem yCn_le {T : tH} {A : Nat → Nat} {n : Nat} : yCn T A n ≤ n := by
  have := gSum_le (f := fun c => (eB T A c (yHd T A)).toNat) (c := 1) (n := n) (fun i _ => by
    show (eB T A i (yHd T A)).toNat ≤ 1
    cases eB T A i (yHd T A) <;> decide)
  unfold yCn
  omega
theorem yMx_le {T : tH} {A : Nat → Nat} {g h : Nat} : ∀ n, yMx T A g h n ≤ n
  | 0 => Nat.le_refl _
  | n + 1 => by
    have ih := yMx_le (T := T) (A := A) (g := g) (h := h) n
    unfold yMx
    split
    · exact Nat.max_le.mpr ⟨by omega, yTl_le⟩
    · omega
theorem yCn_s (T : tH) (A : Nat → Nat) (n : Nat) : yCn T A (n + 1) = yCn T A n + (eB T A n (yHd T A)).toNat := rfl
theorem yTl_s (T : tH) (A : Nat → Nat) (g h q n : Nat) : yTl T A g h q (n + 1) = yTl T A g h q n + (eB T A n (yHd T A) && decide (yS T A n h g = q)).toNat := rfl
theorem yNext {T : tH} {A : Nat → Nat} {g h n : Nat} : ∀ d c, c + d = n → yCn T A c < yCn T A n → ∃ c', c' < n ∧ eB T A c' (yHd T A) = true ∧ yCn T A c' = yCn T A c ∧ (∀ q, yTl T A g h q c' = yTl T A g h q c) ∧ yMx T A g h c' = yMx T A g h c
  | 0, c, h1, h2 => by
    have : c = n := h1
    rw [this] at h2
    exact absurd h2 (Nat.lt_irrefl _)
  | d + 1, c, h1, h2 => by
    cases e : eB T A c (yHd T A)
    · have e1 : yCn T A (c + 1) = yCn T A c := by rw [yCn_s, e]; rfl
      obtain ⟨c', k1, k2, k3, k4, k5⟩ := yNext (g := g) (h := h) (n := n) d (c + 1) (by omega) (by rw [e1]; exact h2)
      refine ⟨c', k1, k2, by rw [k3, e1], fun q => ?_, ?_⟩
      · rw [k4 q, yTl_s, e]; rfl
      · rw [k5]
        show (if eB T A c (yHd T A) then _ else _) = _
        rw [e]; rfl
    · exact ⟨c, by omega, e, rfl, fun _ => rfl, rfl⟩
theorem ySame {T : tH} {A : Nat → Nat} {g h n : Nat} : ∀ d c, c + d = n → yCn T A c = yCn T A n → (∀ q, yTl T A g h q n = yTl T A g h q c) ∧ yMx T A g h n = yMx T A g h c
  | 0, c, h1, _ => by
    have : c = n := h1
    rw [this]
    exact ⟨fun _ => rfl, rfl⟩
  | d + 1, c, h1, h2 => by
    have hmono : ∀ m, c + 1 ≤ m → yCn T A (c + 1) ≤ yCn T A m := by
      intro m hm
      induction m with
      | zero => omega
      | succ m ih =>
        by_cases e : c + 1 = m + 1
        · rw [e]; exact Nat.le_refl _
        · have := ih (by omega)
          rw [yCn_s T A m]
          omega
    have hm := hmono n (by omega)
    cases e : eB T A c (yHd T A)
    · have e1 : yCn T A (c + 1) = yCn T A c := by rw [yCn_s, e]; rfl
      obtain ⟨k1, k2⟩ := ySame (g := g) (h := h) (n := n) d (c + 1) (by omega) (by rw [e1]; exact h2)
      refine ⟨fun q => ?_, ?_⟩
      · rw [k1 q, yTl_s, e]; rfl
      · rw [k2]
        show (if eB T A c (yHd T A) then _ else _) = _
        rw [e]; rfl
    · have e1 : yCn T A (c + 1) = yCn T A c + 1 := by rw [yCn_s, e]; rfl
      omega
/-- what is best to ask so far: (most left, goat, hour) -/
def qS (T : tH) (A : Nat → Nat) (g : Nat) (s : Nat × Nat × Nat) : Nat → Nat × Nat × Nat
  | 0 => s
  | h + 1 => if yMx T A g h (T 0 16) < (qS T A g s h).1 then (yMx T A g h (T 0 16), g, h) else qS T A g s h
def qG (T : tH) (A : Nat → Nat) : Nat → Nat × Nat × Nat
  | 0 => (82, 0, 0)
  | g + 1 => qS T A g (qG T A g) (T 0 0)
theorem qS_le {T : tH} {A : Nat → Nat} {g : Nat} {s : Nat × Nat × Nat} : ∀ h, (qS T A g s h).1 ≤ s.1
  | 0 => Nat.le_refl _
  | h + 1 => by
    have ih := qS_le (T := T) (A := A) (g := g) (s := s) h
    unfold qS
    split
    · show yMx T A g h (T 0 16) ≤ s.1
      omega
    · exact ih
theorem qG_le {T : tH} {A : Nat → Nat} : ∀ g, (qG T A g).1 ≤ 82
  | 0 => Nat.le_refl _
  | g + 1 => Nat.le_trans (qS_le _) (qG_le g)
theorem qG_lt {T : tH} {A : Nat → Nat} (hT : tOk T) : ∀ g, (qG T A (g + 1)).1 ≤ 81
  | 0 => by
    have hz := tO_sz hT
    have hcs := tCases_le (T := T) (by omega) (tO_stories hT)
    have hm := yMx_le (T := T) (A := A) (g := 0) (h := 0) (T 0 16)
    have h1 : (qS T A 0 (82, 0, 0) 1).1 ≤ 81 := by
      show (if yMx T A 0 0 (T 0 16) < 82 then (yMx T A 0 0 (T 0 16), 0, 0) else (82, 0, 0)).1 ≤ 81
      rw [if_pos (by omega)]
      show yMx T A 0 0 (T 0 16) ≤ 81
      omega
    have key : ∀ d, (qS T A 0 (82, 0, 0) (1 + d)).1 ≤ 81 := by
      intro d
      induction d with
      | zero => exact h1
      | succ d ih =>
        show (if yMx T A 0 (1 + d) (T 0 16) < (qS T A 0 (82, 0, 0) (1 + d)).1 then (yMx T A 0 (1 + d) (T 0 16), 0, 1 + d) else qS T A 0 (82, 0, 0) (1 + d)).1 ≤ 81
        split
        · show yMx T A 0 (1 + d) (T 0 16) ≤ 81
          omega
        · exact ih
    have := key (T 0 0 - 1)
    rw [show 1 + (T 0 0 - 1) = T 0 0 by omega] at this
    exact this
  | g + 1 => Nat.le_trans (qS_le _) (qG_lt hT g)
section ask
variable {k : Nat} {M : goMI} {R : goMR} {t b N : Nat} {T : tH} {A B : Nat → Nat}
theorem goMax_nI {x y : Nat} (hx : x < 2 ^ 31) (hy : y < 2 ^ 31) : goMax (nI x) (nI y) = nI (Nat.max x y) := by
  unfold goMax
  by_cases c : x < y
  · rw [if_pos (nI_lt c hy)]
    exact congrArg nI (Nat.max_eq_right (by omega)).symm
  · rw [if_neg (nI_nlt (by omega) hx)]
    exact congrArg nI (Nat.max_eq_left (by omega)).symm
theorem cMost (h74 : goRr R 74 2 = t) (ht : t = 7 ∨ t = 37) (hC : tC M t T) (hT : tOk T) (hN : 5000 ≤ N) (hA : ∀ i, i < 26 → M 4 i = nI (A i)) (hA25 : A 25 < 64) (he : eT M T A (T 0 16)) {g h : Nat} (hg : g < T 0 5) (hh : h < T 0 0) : ∃ M', fX4_mostLeft N M R (nI g) (nI h) = some (nI (yMx T A g h (T 0 16)), M') ∧ ∀ b, b ≠ 77 → M' b = M b := by
  have hz := tO_sz hT
  have hcs := tCases_le (T := T) (by omega) (tO_stories hT)
  obtain ⟨M1, e1, f1, g1⟩ := gFill (M := M) (a := 77) (n := 8) (v := 0) (N := N) (by decide) hN
  have key : ∃ r : Int32 × goMI, lX4_mostLeft_19 (nI g) (nI h) (nI (tCl T (A 25))) R N (nI 0) (nI 0) M1 = some r ∧ r.1 = nI (yMx T A g h (T 0 16)) ∧ ∀ b, b ≠ 77 → r.2 b = M b := by
    refine gFor (fun n i (x : Int32 × goMI) => lX4_mostLeft_19 (nI g) (nI h) (nI (tCl T (A 25))) R n x.1 (nI i) x.2) (fun c x => x.1 = nI (yMx T A g h c) ∧ (∀ b, b ≠ 77 → x.2 b = M b) ∧ ∀ q, q < 8 → x.2 77 q = nI (yTl T A g h q c)) _ (T 0 16) ?_ ?_ N 0 (nI 0, M1) (Nat.zero_le _) ⟨rfl, f1, fun q hq => g1 q hq⟩ (by omega)
    · rintro n c ⟨x, M2⟩ hc ⟨p1, p2, p3⟩
      have p1' : x = nI (yMx T A g h c) := p1
      have p2' : ∀ b, b ≠ 77 → M2 b = M b := p2
      have p3' : ∀ q, q < 8 → M2 77 q = nI (yTl T A g h q c) := p3
      have hC2 : tC M2 t T := tC_fr hC (fun r hr => p2' _ (by omega))
      have he2 : eT M2 T A (T 0 16) := by unfold eT; rw [p2' 75 (by decide), p2' 76 (by decide)]; exact he
      have hml := yMx_le (T := T) (A := A) (g := g) (h := h) c
      show ∃ a', lX4_mostLeft_19 (nI g) (nI h) (nI (tCl T (A 25))) R (n + 1) x (nI c) M2 = lX4_mostLeft_19 _ _ _ _ _ _ _ _ ∧ _
      rw [lX4_mostLeft_19, h74, tC_cases hC2, if_pos (nI_lt hc (by omega)), cBears hT he2 hc hA25, gBd, eB_hd hT hA25, nI_1 c]
      cases e : eB T A c (yHd T A)
      · refine ⟨(x, M2), ?_, ?_, p2', fun q hq => ?_⟩
        · rw [if_pos (by decide), gB2]
        · show x = nI (if eB T A c (yHd T A) then _ else _)
          rw [e]; exact p1'
        · rw [yTl_s, e]; exact p3' q hq
      · have hs := yS_lt (A := A) (c := c) (h := h) (g := g) hT hg
        have htl := yTl_le (T := T) (A := A) (g := g) (h := h) (q := yS T A c h g) (n := c)
        have h76 : M2 76 (72 * c + 12 * g + h) = nI (yS T A c h g) := by
          rw [show 72 * c + 12 * g + h = 72 * c + (12 * g + h) by omega]
          exact (he2 c hc).2 g h hg hh
        have h1 : yTl T A g h (yS T A c h g) (c + 1) = yTl T A g h (yS T A c h g) c + 1 := by
          rw [yTl_s, e, decide_eq_true rfl]; rfl
        refine ⟨(nI (yMx T A g h (c + 1)), goWI M2 77 (yS T A c h g) (nI (yTl T A g h (yS T A c h g) c + 1))), ?_, rfl, fun b hb => (goWI_ne hb).trans (p2' b hb), fun q hq => ?_⟩
        · rw [if_neg (by decide), gL_72, gM_72, gL_12, gM_12, nI_add, nI_add, gRd (by omega), gBd, h76, gRd (by omega), gBd, p3' _ (by omega), nI_1, gWr (by omega), gBd, gRd (by omega), gBd, gWI_self, if_pos rfl, p1', goMax_nI (by omega) (by omega), gNm, gB2]
          show _ = lX4_mostLeft_19 _ _ _ _ _ (nI (if eB T A c (yHd T A) then _ else _)) _ _
          rw [e, if_pos rfl, h1]
        · show goWI M2 77 (yS T A c h g) (nI (yTl T A g h (yS T A c h g) c + 1)) 77 q = _
          rw [gWI_self, yTl_s, e]
          by_cases cq : q = yS T A c h g
          · rw [if_pos cq, cq, decide_eq_true rfl]; rfl
          · rw [if_neg cq, decide_eq_false (fun x => cq x.symm)]; exact p3' q hq
    · rintro n ⟨x, M2⟩ ⟨p1, p2, p3⟩
      have p2' : ∀ b, b ≠ 77 → M2 b = M b := p2
      refine ⟨(x, M2), ?_, p1, p2⟩
      have hC2 : tC M2 t T := tC_fr hC (fun r hr => p2' _ (by omega))
      show lX4_mostLeft_19 (nI g) (nI h) (nI (tCl T (A 25))) R (n + 1) x (nI (T 0 16)) M2 = _
      rw [lX4_mostLeft_19, h74, tC_cases hC2, if_neg (nI_nlt (Nat.le_refl _) (by omega))]
  obtain ⟨⟨r, M2⟩, k1, k2, k3⟩ := key
  have k1' : lX4_mostLeft_19 (nI g) (nI h) (nI (tCl T (A 25))) R N 0 0 M1 = some (r, M2) := k1
  have k2' : r = nI (yMx T A g h (T 0 16)) := k2
  refine ⟨M2, ?_, k3⟩
  unfold fX4_mostLeft
  rw [cHeard h74 hC hT hN hA hA25, gBd, e1, gBd, k1', gB2, k2']
/-- what the component has found out to ask -/
def cAs (M0 M : goMI) (s : Nat × Nat × Nat) : Prop := M 74 11 = nI s.1 ∧ (s.1 < 82 → M 74 9 = nI s.2.1 ∧ M 74 10 = nI s.2.2) ∧ (∀ b, b ≠ 74 → b ≠ 77 → M b = M0 b) ∧ ∀ j, j < 9 → M 74 j = M0 74 j
theorem cQuestion (h74 : goRr R 74 2 = t) (ht : t = 7 ∨ t = 37) (hC : tC M t T) (hT : tOk T) (hN : 5000 ≤ N) (hA : ∀ i, i < 26 → M 4 i = nI (A i)) (hA25 : A 25 < 64) (he : eT M T A (T 0 16)) : ∃ M', lX4_question_31 N R N 0 (goWI M 74 11 82) = some M' ∧ cAs M M' (qG T A (T 0 5)) := by
  have hz := tO_sz hT
  have hcs := tCases_le (T := T) (by omega) (tO_stories hT)
  have fr : ∀ M1 s, cAs M M1 s → tC M1 t T ∧ (∀ i, i < 26 → M1 4 i = nI (A i)) ∧ eT M1 T A (T 0 16) := by
    intro M1 s h
    refine ⟨tC_fr hC (fun r hr => h.2.2.1 _ (by omega) (by omega)), fun i hi => by rw [h.2.2.1 4 (by decide) (by decide)]; exact hA i hi, ?_⟩
    unfold eT
    rw [h.2.2.1 75 (by decide) (by decide), h.2.2.1 76 (by decide) (by decide)]
    exact he
  refine gFor (fun n i M' => lX4_question_31 N R n (nI i) M') (fun g M' => cAs M M' (qG T A g)) _ (T 0 5) ?_ ?_ N 0 _ (Nat.zero_le _) ⟨by rw [gWI_self, if_pos rfl]; rfl, fun h => absurd h (by show ¬ (82 : Nat) < 82; decide), fun b h1 _ => goWI_ne h1, fun j hj => gWI_nk (by omega)⟩ (by omega)
  · intro n g M1 hg hP
    have inner : ∃ M2, lX4_question_47 N (nI g) R N (nI 0) M1 = some M2 ∧ cAs M M2 (qS T A g (qG T A g) (T 0 0)) := by
      refine gFor (fun n i M' => lX4_question_47 N (nI g) R n (nI i) M') (fun h M' => cAs M M' (qS T A g (qG T A g) h)) _ (T 0 0) ?_ ?_ N 0 M1 (Nat.zero_le _) hP (by omega)
      · intro n h M2 hh hP2
        obtain ⟨hC2, hA2, he2⟩ := fr M2 _ hP2
        obtain ⟨M3, m1, m2⟩ := cMost (g := g) (h := h) h74 ht hC2 hT hN hA2 hA25 he2 hg hh
        obtain ⟨a1, a2, a3, a4⟩ := hP2
        have hml := yMx_le (T := T) (A := A) (g := g) (h := h) (T 0 16)
        have hle : (qS T A g (qG T A g) h).1 ≤ 82 := Nat.le_trans (qS_le _) (qG_le g)
        have r74 : M3 74 = M2 74 := m2 74 (by decide)
        have e2 : qS T A g (qG T A g) (h + 1) = if yMx T A g h (T 0 16) < (qS T A g (qG T A g) h).1 then (yMx T A g h (T 0 16), g, h) else qS T A g (qG T A g) h := rfl
        by_cases c1 : yMx T A g h (T 0 16) < (qS T A g (qG T A g) h).1
        · refine ⟨goWI (goWI (goWI M3 74 11 (nI (yMx T A g h (T 0 16)))) 74 9 (nI g)) 74 10 (nI h), ?_, ?_⟩
          · show lX4_question_47 _ _ _ _ _ _ = lX4_question_47 _ _ _ _ _ _
            rw [lX4_question_47, h74, tC_hours hC2, if_pos (nI_lt hh (by omega)), m1, gB2, r74, a1, if_pos (nI_lt c1 (by omega)), gNm, gNm, gNm, gBd, nI_1]
          · rw [e2, if_pos c1]
            refine ⟨?_, fun _ => ⟨?_, ?_⟩, fun b h1 h2 => ?_, fun j hj => ?_⟩
            · rw [gWI_nk (by decide), gWI_nk (by decide), gWI_self, if_pos rfl]
            · rw [gWI_nk (by decide), gWI_self, if_pos rfl]
            · rw [gWI_self, if_pos rfl]
            · rw [goWI_ne h1, goWI_ne h1, goWI_ne h1, m2 b h2]; exact a3 b h1 h2
            · rw [gWI_nk (by omega), gWI_nk (by omega), gWI_nk (by omega), r74]; exact a4 j hj
        · refine ⟨M3, ?_, ?_⟩
          · show lX4_question_47 _ _ _ _ _ _ = lX4_question_47 _ _ _ _ _ _
            rw [lX4_question_47, h74, tC_hours hC2, if_pos (nI_lt hh (by omega)), m1, gB2, r74, a1, if_neg (nI_nlt (by omega) (by omega)), gBd, nI_1]
          · rw [e2, if_neg c1]
            exact ⟨by rw [r74]; exact a1, fun x => by rw [r74]; exact a2 x, fun b h1 h2 => by rw [m2 b h2]; exact a3 b h1 h2, fun j hj => by rw [r74]; exact a4 j hj⟩
      · intro n M2 hP2
        refine ⟨M2, ?_, hP2⟩
        obtain ⟨hC2, hA2, he2⟩ := fr M2 _ hP2
        show lX4_question_47 _ _ _ _ _ _ = _
        rw [lX4_question_47, h74, tC_hours hC2, if_neg (nI_nlt (Nat.le_refl _) (by omega))]
    obtain ⟨M2, i1, i2⟩ := inner
    refine ⟨M2, ?_, i2⟩
    obtain ⟨hC1, hA1, he1⟩ := fr M1 _ hP
    have i1' : lX4_question_47 N (nI g) R N 0 M1 = some M2 := i1
    show lX4_question_31 _ _ _ _ _ = lX4_question_31 _ _ _ _ _
    rw [lX4_question_31, h74, (tC_herd hC1).1, if_pos (nI_lt hg (by omega)), i1', gBd, nI_1]
  · intro n M1 hP
    refine ⟨M1, ?_, hP⟩
    obtain ⟨hC1, hA1, he1⟩ := fr M1 _ hP
    show lX4_question_31 _ _ _ _ _ = _
    rw [lX4_question_31, h74, (tC_herd hC1).1, if_neg (nI_nlt (Nat.le_refl _) (by omega))]
theorem cHowMany (h74 : goRr R 74 2 = t) (hC : tC M t T) (hT : tOk T) (hN : 5000 ≤ N) (hA : ∀ i, i < 26 → M 4 i = nI (A i)) (hA25 : A 25 < 64) (he : eT M T A (T 0 16)) : fX4_howManyFit N M R = some (nI (yCn T A (T 0 16))) := by
  have hz := tO_sz hT
  have hcs := tCases_le (T := T) (by omega) (tO_stories hT)
  unfold fX4_howManyFit
  have key : lX4_howManyFit_9 (nI (tCl T (A 25))) M R N 0 0 = some (nI (yCn T A (T 0 16))) := by
    refine gUp (fun n i (x : Int32) => lX4_howManyFit_9 (nI (tCl T (A 25))) M R n x (nI i)) (fun i => nI (yCn T A i)) (T 0 16) _ ?_ ?_ N 0 (Nat.zero_le _) (by omega)
    · intro n c hc
      show lX4_howManyFit_9 _ _ _ _ _ _ = lX4_howManyFit_9 _ _ _ _ _ _
      rw [lX4_howManyFit_9, h74, tC_cases hC, if_pos (nI_lt hc (by omega)), cBears hT he hc hA25, gBd, gNm, gNm, eB_hd hT hA25, nI_1 c, yCn_s]
      cases eB T A c (yHd T A)
      · rw [if_pos (by decide), gL_0, nI_add]; rfl
      · rw [if_neg (by decide), gL_1, nI_add]; rfl
    · intro n
      show lX4_howManyFit_9 _ _ _ _ _ _ = _
      rw [lX4_howManyFit_9, h74, tC_cases hC, if_neg (nI_nlt (Nat.le_refl _) (by omega))]
  rw [cHeard h74 hC hT hN hA hA25, gBd, key, gBd]
end ask
