/-! FALSE GOATS, odds, what is proved -/
theorem gMin_sub {w : Nat → Nat} {r1 r2 : Nat → Bool} {b l : Nat} : ∀ {n : Nat}, (∀ s, s < n → r2 s = true → r1 s = true) → (∀ s, s < n → r1 s = true → r2 s = false → ∃ s', s' < s ∧ r1 s' = true ∧ w s' < w s) → gMin w r1 b l n = gMin w r2 b l n
  | 0, _, _ => rfl
  | n + 1, h1, h2 => by
    have ih := gMin_sub (w := w) (r1 := r1) (r2 := r2) (b := b) (l := l) (n := n) (fun s hs => h1 s (by omega)) (fun s hs => h2 s (by omega))
    unfold gMin
    rw [← ih]
    cases c1 : r1 n
    · cases c2 : r2 n
      · rfl
      · have := h1 n (by omega) c2
        rw [c1] at this
        cases this
    · cases c2 : r2 n
      · obtain ⟨s', e1, e2, e3⟩ := h2 n (by omega) c1 c2
        have hm := gMin_min (w := w) (b := b) (l := l) e2 e1
        rw [Bool.true_and, Bool.false_and, decide_eq_false (by omega)]
      · rfl
/-- whether some case bears with goats -/
def eAny (T : tH) (A : Nat → Nat) (g : Nat) : Bool := decide (gFst (fun c => eB T A c g) (T 0 16) < T 0 16)
/-- the fewest false goats -/
def eFz (T : tH) (A : Nat → Nat) (n : Nat) : Nat × Nat := gMin gPc (fun s => eAny T A (dAn (A 25) s)) 4294967294 7 n
section ev3
variable {M : goMI} {R : goMR} {t b N : Nat} {T : tH} {A B : Nat → Nat}
theorem eAny_eq {g g' : Nat} (h : ∀ c, c < T 0 16 → eB T A c g = eB T A c g') : eAny T A g = eAny T A g' := by
  unfold eAny
  rw [gFst_eq h]
theorem eB_cut (hT : tOk T) (hA : A 25 < 64) (s c : Nat) : eB T A c (dAn (A 25) s) = eB T A c (dAn (yHd T A) s) := by
  unfold eB
  have h1 : dAn (A 25) s < 64 := dAn_lt (n := 6) hA
  have h2 : dAn (yHd T A) s < 64 := dAn_lt (n := 6) (yHd_lt hA)
  rw [decide_eq_decide, eB_iff h1, eB_iff h2]
  constructor
  · intro h k hk hb
    rw [dAn_tb, yHd_tb, Bool.and_eq_true, Bool.and_eq_true] at hb
    refine h k hk ?_
    rw [dAn_tb, hb.1.2, hb.2]; rfl
  · intro h k hk hb
    rw [dAn_tb, Bool.and_eq_true] at hb
    refine h k hk ?_
    rw [dAn_tb, yHd_tb, hb.1, hb.2, decide_eq_true (tO_clue hT k hk).2.1]; rfl
theorem cAny (h74 : goRr R 74 2 = t) (hC : tC M t T) (hT : tOk T) (hN : 5000 ≤ N) (he : eT M T A (T 0 16)) {g : Nat} (hg : g < 64) : fX4_anyBears N M R (nI (tCl T g)) = some (nI (eAny T A g).toNat) := by
  have hz := tO_sz hT
  have hcs := tCases_le (T := T) (by omega) (tO_stories hT)
  unfold fX4_anyBears eAny
  refine gUpE (fun n i => lX4_anyBears_2 (nI (tCl T g)) M R n (nI i)) (T 0 16) _ (fun i => gFst (fun c => eB T A c g) i = i) ?_ ?_ N 0 (Nat.zero_le _) rfl (by omega)
  · intro n c hc hP
    show lX4_anyBears_2 _ _ _ _ _ = _ ∨ lX4_anyBears_2 _ _ _ _ _ = lX4_anyBears_2 _ _ _ _ _ ∧ _
    rw [lX4_anyBears_2, h74, tC_cases hC, if_pos (nI_lt hc (by omega)), cBears hT he hc hg, gBd, nI_1 c]
    cases e : eB T A c g
    · right
      exact ⟨if_pos (by decide), gFst_go hP e⟩
    · left
      rw [if_neg (by decide), gFst_stop hP hc e, decide_eq_true hc]; rfl
  · intro n hP
    show lX4_anyBears_2 _ _ _ _ _ = _
    rw [lX4_anyBears_2, h74, tC_cases hC, if_neg (nI_nlt (Nat.le_refl _) (by omega)), hP, decide_eq_false (Nat.lt_irrefl _)]; rfl
theorem mAny (hR : R 102 3 = some b) (hM : tM M b T) (hT : tOk T) (hN : 5000 ≤ N) (he : ∀ c, c < T 0 16 → M 114 c = nI (yH T A c)) {g : Nat} (hg : g < 64) : fX14_anyFits N M R (nI g) = some (nI (eAny T A g).toNat) := by
  have hz := tO_sz hT
  have hcs := tCases_le (T := T) (by omega) (tO_stories hT)
  unfold fX14_anyFits eAny
  refine gUpE (fun n i => lX14_anyFits_2 N (nI g) M R n (nI i)) (T 0 16) _ (fun i => gFst (fun c => eB T A c g) i = i) ?_ ?_ N 0 (Nat.zero_le _) rfl (by omega)
  · intro n c hc hP
    show lX14_anyFits_2 _ _ _ _ _ _ = _ ∨ lX14_anyFits_2 _ _ _ _ _ _ = lX14_anyFits_2 _ _ _ _ _ _ ∧ _
    rw [lX14_anyFits_2, hR, gBd, mCasesT hM hT hN, gBd, if_pos (nI_lt hc (by omega)), mTrue hT he hc hg, gBd, nI_1 c]
    cases e : eB T A c g
    · right
      exact ⟨if_pos (by decide), gFst_go hP e⟩
    · left
      rw [if_neg (by decide), gFst_stop hP hc e, decide_eq_true hc]; rfl
  · intro n hP
    show lX14_anyFits_2 _ _ _ _ _ _ = _
    rw [lX14_anyFits_2, hR, gBd, mCasesT hM hT hN, gBd, if_neg (nI_nlt (Nat.le_refl _) (by omega)), hP, decide_eq_false (Nat.lt_irrefl _)]; rfl
theorem cFalse (h74 : goRr R 74 2 = t) (hC : tC M t T) (hT : tOk T) (hN : 5000 ≤ N) (hA : ∀ i, i < 26 → M 4 i = nI (A i)) (hA25 : A 25 < 64) (he : eT M T A (T 0 16)) : fX4_fewestFalse N M R = some (nI (eFz T A (2 ^ T 0 5)).1) := by
  have hz := tO_sz hT
  have hp := gP2 (n := T 0 5) (by omega)
  unfold fX4_fewestFalse
  have key := gUp (fun n i (x : Int32 × Int32) => lX4_fewestFalse_8 N M R n x.1 x.2 (nI i)) (fun i => (nI (eFz T A i).1, nI (eFz T A i).2)) (2 ^ T 0 5) (nI (eFz T A (2 ^ T 0 5)).1) ?_ ?_ N 0 (Nat.zero_le _) (by omega)
  · have key' : lX4_fewestFalse_8 N M R N (-2) 7 0 = _ := key
    rw [key', gBd]
  · intro n s hs
    have hd : dAn (A 25) s < 64 := dAn_lt (n := 6) hA25
    have hpc := gPc_le s
    have hle : (eFz T A s).2 ≤ 7 := gMin_le _
    show lX4_fewestFalse_8 _ _ _ _ _ _ _ = lX4_fewestFalse_8 _ _ _ _ _ _ _
    have e2 : eFz T A (s + 1) = if eAny T A (dAn (A 25) s) && decide (gPc s < (eFz T A s).2) then (s, gPc s) else eFz T A s := rfl
    have e3 : nI (A 25) &&& (nI s ^^^ (-1)) = nI (dAn (A 25) s) := gI_not _ _ (by omega)
    rw [lX4_fewestFalse_8, h74, (tC_herd hC).1, gI_shl1 (by omega), if_pos (nI_lt hs (by omega)), gL_25, gRd (by decide), gBd, hA 25 (by decide), e3, cCluesOf hC hT hN hd, gBd, gPc_bc _ (by omega), e2, nI_1 s]
    by_cases c2 : gPc s < (eFz T A s).2
    · rw [if_pos (nI_lt c2 (by omega)), cAny h74 hC hT hN he hd, gBd, decide_eq_true c2, Bool.and_true]
      cases eAny T A (dAn (A 25) s)
      · rw [if_pos (by decide), gB2, if_neg Bool.false_ne_true]
      · rw [if_neg (by decide), gNm, gB2, if_pos rfl]
    · rw [if_neg (nI_nlt (by omega) (by omega)), gB2, decide_eq_false c2, Bool.and_false, if_neg Bool.false_ne_true]
  · intro n
    show lX4_fewestFalse_8 _ _ _ _ _ _ _ = _
    rw [lX4_fewestFalse_8, h74, (tC_herd hC).1, gI_shl1 (by omega), if_neg (nI_nlt (Nat.le_refl _) (by omega))]
/-- the model looks only at goats that are heard -/
theorem eFz_m (hT : tOk T) (hA25 : A 25 < 64) : ∀ n, n ≤ 64 → eFz T A n = gMin gPc (fun s => decide (dAn s (yHd T A) = 0) && eAny T A (dAn (yHd T A) s)) 4294967294 7 n := by
  intro n hn
  unfold eFz
  refine gMin_sub (fun s hs h => ?_) (fun s hs h1 h2 => ?_)
  · rw [Bool.and_eq_true] at h
    rw [eAny_eq (fun c _ => eB_cut hT hA25 s c)]
    exact h.2
  · rw [eAny_eq (fun c _ => eB_cut hT hA25 s c)] at h1
    rw [h1, Bool.and_true, decide_eq_false_iff_not] at h2
    have hex : ∃ i, s.testBit i = true ∧ (yHd T A).testBit i = false := by
      apply Classical.byContradiction
      intro hc
      apply h2
      rw [dAn_sub]
      intro i hi
      cases e : (yHd T A).testBit i
      · exact absurd ⟨i, hi, e⟩ hc
      · rfl
    obtain ⟨i, i1, i2⟩ := hex
    have i6 : i < 6 := by
      apply Classical.byContradiction
      intro h6
      rw [gTb_hi (n := 6) (show s < 2 ^ 6 by omega) (by omega)] at i1
      cases i1
    have hpc : gPc (s &&& yHd T A) < gPc s := by
      unfold gPc
      refine gSum_lt (j := i) ?_ (by omega) (fun k _ => ?_)
      · show ((s &&& yHd T A).testBit i).toNat < (s.testBit i).toNat
        rw [Nat.testBit_and, i1, i2]; decide
      · show ((s &&& yHd T A).testBit k).toNat ≤ (s.testBit k).toNat
        rw [Nat.testBit_and]
        cases s.testBit k <;> cases (yHd T A).testBit k <;> decide
    have hne : s &&& yHd T A ≠ s := fun e => by rw [e] at hpc; exact absurd hpc (Nat.lt_irrefl _)
    have hle : s &&& yHd T A ≤ s := Nat.and_le_left
    refine ⟨s &&& yHd T A, by omega, ?_, hpc⟩
    show eAny T A (dAn (A 25) (s &&& yHd T A)) = true
    rw [eAny_eq (fun c _ => eB_cut hT hA25 (s &&& yHd T A) c)]
    have : dAn (yHd T A) (s &&& yHd T A) = dAn (yHd T A) s := by
      apply Nat.eq_of_testBit_eq
      intro j
      rw [dAn_tb, dAn_tb, Nat.testBit_and]
      cases (yHd T A).testBit j <;> cases s.testBit j <;> rfl
    rw [this]
    exact h1
theorem gMin_no {w : Nat → Nat} {r : Nat → Bool} {b l n : Nat} : (gMin w r b l n).2 < l ∨ gMin w r b l n = (b, l) := by
  have := gMin_l (w := w) (r := r) (b := b) (b0 := b) (l := l) (l' := l) (Nat.le_refl _) n
  by_cases c : (gMin w r b l n).2 < l
  · exact Or.inl c
  · right
    rw [if_neg c] at this
    exact this
theorem mFalse (hR : R 102 3 = some b) (hM : tM M b T) (hT : tOk T) (hN : 5000 ≤ N) (hv : ∀ i, i < 18 → M 105 i = nI (B i)) (hAB : aB A B) (he : ∀ c, c < T 0 16 → M 114 c = nI (yH T A c)) : lX14_falseOnes_27 N M R N (-2) 0 = some (nI (eFz T A (2 ^ T 0 5)).1) := by
  have hz := tO_sz hT
  have hp := gP2 (n := T 0 5) (by omega)
  have hp0 := gP2pos (T 0 5)
  have hA25 := hAB.2.2.2.2.2.2
  have hhd := yHd_lt (T := T) hA25
  rw [eFz_m hT hA25 _ hp]
  refine gUp (fun n i (x : Int32) => lX14_falseOnes_27 N M R n x (nI i)) (fun i => nI (gMin gPc (fun s => decide (dAn s (yHd T A) = 0) && eAny T A (dAn (yHd T A) s)) 4294967294 7 i).1) (2 ^ T 0 5) _ ?_ ?_ N 0 (Nat.zero_le _) (by omega)
  · intro n s hs
    have hpc := gPc_le2 (n := T 0 5) (by omega) hs
    have hd : dAn (yHd T A) s < 64 := dAn_lt (n := 6) hhd
    have hal := mAny hR hM hT hN he hd
    have e3 : nI (yHd T A) &&& (nI s ^^^ (-1)) = nI (dAn (yHd T A) s) := gI_not _ _ (by omega)
    show lX14_falseOnes_27 _ _ _ _ _ _ = lX14_falseOnes_27 _ _ _ _ _ _
    have hno := gMin_no (w := gPc) (r := fun s => decide (dAn s (yHd T A) = 0) && eAny T A (dAn (yHd T A) s)) (b := 4294967294) (l := 7) (n := s)
    have hin := gMin_in (w := gPc) (r := fun s => decide (dAn s (yHd T A) = 0) && eAny T A (dAn (yHd T A) s)) (b := 4294967294) (l := 7) (n := s)
    conv => rhs; unfold gMin
    generalize gMin gPc (fun s => decide (dAn s (yHd T A) = 0) && eAny T A (dAn (yHd T A) s)) 4294967294 7 s = m at *
    rw [lX14_falseOnes_27, m_all hR hM (by omega), gBd, if_pos (nI_le (by omega) (by omega)), mHeard hR hM hT hv hAB, gBd, nI_1 s]
    by_cases c1 : dAn s (yHd T A) = 0
    · rw [if_pos ((dAn_0 (by omega)).mpr c1), decide_eq_true c1, Bool.true_and]
      rcases hno with h9 | h9
      · obtain ⟨i1, i2, i3⟩ := hin h9
        rw [if_neg (gI_nm2 (by omega)), gPc_bits (by omega) (by omega), gBd, gPc_bits (by omega) (by omega), gBd, i3]
        by_cases c2 : gPc s < m.2
        · rw [if_pos (nI_lt c2 (by omega)), gBd, e3, hal, gBd, decide_eq_true c2, Bool.and_true]
          cases eAny T A (dAn (yHd T A) s)
          · rw [if_pos (by decide), gBd, if_neg Bool.false_ne_true]
          · rw [if_neg (by decide), gBd, if_pos rfl]
        · rw [if_neg (nI_nlt (by omega) (by omega)), gBd, decide_eq_false c2, Bool.and_false, if_neg Bool.false_ne_true]
      · rw [h9, if_pos (show nI 4294967294 = -2 from rfl), gBd, e3, hal, gBd, decide_eq_true (show gPc s < 7 by omega), Bool.and_true]
        cases eAny T A (dAn (yHd T A) s)
        · rw [if_pos (by decide), gBd, if_neg Bool.false_ne_true]
        · rw [if_neg (by decide), gBd, if_pos rfl]
    · rw [if_neg (fun e => c1 ((dAn_0 (by omega)).mp e)), gBd, decide_eq_false c1, Bool.false_and, Bool.false_and, if_neg Bool.false_ne_true]
  · intro n
    show lX14_falseOnes_27 _ _ _ _ _ _ = _
    rw [lX14_falseOnes_27, m_all hR hM (by omega), gBd, if_neg (nI_ge (by omega) (by omega))]
end ev3
theorem go_falseOnes : goS_falseOnes gInv := by
  rintro k G M L R ⟨t, T, A, B, hX⟩ hk
  rcases hX.2.2.2.1 with ⟨h1, h2⟩ | ⟨b, b1, b2, b3, b4⟩
  · refine ⟨5000, -1, goWI M 0 8 1, _, ?_, ?_, iNo hX (w := 1) (by decide)⟩
    · unfold fX12_falseOnes
      rw [cIsHill0 hX h1, if_pos rfl, cRef, gB2]
    · unfold fX14_falseOnes
      rw [gNm, if_pos h1, mRef, gB2]
  · have hAB := hX.2.2.2.2.1.2.2.1.1
    have hA25 := hAB.2.2.2.2.2.2
    have h74 : goRr R 74 2 = t := by unfold goRr; rw [hX.2.1.2.2.2.1]; rfl
    obtain ⟨Me, e1, e2, e3, e4, e5, e6, e7⟩ := iEv hX b1 b2 b3 b4
    obtain ⟨Mm, m1, m2, m3, m4, m5, m6⟩ := e7 0
    refine ⟨5000, nI (eFz T A (2 ^ T 0 5)).1, goWI Me 0 8 0, _, ?_, ?_, m5 (by decide)⟩
    · unfold fX12_falseOnes
      rw [cIsHill1 hX b4, if_neg (by decide), e1, gBd, cFalse h74 e2 b4 (by decide) e3 hA25 e4, gBd, cAns, gB2]
    · unfold fX14_falseOnes
      rw [gNm, b1, if_neg (by simp), m1, gBd, mFalse b1 m3 b4 (by decide) m4 hAB m2, gBd, mGood, gB2]
