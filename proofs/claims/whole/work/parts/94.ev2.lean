/-! WHERE SOMEONE COULD BE, who lies -/
/-- places in which a person is in cases in which goats' clues are true -/
def sW (T : tH) (A : Nat → Nat) (g p h : Nat) : Nat → Nat
  | 0 => 0
  | c + 1 => sW T A g p h c ||| (if decide (0 < T 4 p) && eB T A c g then 2 ^ tPl T c p h else 0)
theorem sW_lt {T : tH} {A : Nat → Nat} {g p h : Nat} (hT : tOk T) (hp : p < 4) (hh : h < 12) : ∀ n, sW T A g p h n < 256
  | 0 => by show 0 < 256; decide
  | n + 1 => by
    have hz := tO_sz hT
    unfold sW
    refine Nat.or_lt_two_pow (n := 8) (sW_lt hT hp hh n) ?_
    split
    · rename_i c
      rw [Bool.and_eq_true, decide_eq_true_eq] at c
      have := tPl_lt (c := n) (h := h) hT hp hh c.1
      exact Nat.pow_lt_pow_right (by decide) (by omega)
    · decide
def sL (T : tH) (A : Nat → Nat) (g p : Nat) : Nat → Nat
  | 0 => 2 ^ T 4 p - 1
  | c + 1 => if decide (0 < T 4 p) && eB T A c g then dAn (sL T A g p c) (2 ^ tSt T c p) else sL T A g p c
theorem sL_lt {T : tH} {A : Nat → Nat} {g p : Nat} (hT : tOk T) (hp : p < 4) : ∀ n, sL T A g p n < 8
  | 0 => by
    have h := tO_stories hT p hp
    have : 2 ^ T 4 p ≤ 2 ^ 3 := Nat.pow_le_pow_right (by decide) h
    show 2 ^ T 4 p - 1 < 8
    omega
  | n + 1 => by
    unfold sL
    split
    · exact dAn_lt (n := 3) (sL_lt hT hp n)
    · exact sL_lt hT hp n
section ev2
variable {M : goMI} {R : goMR} {t b N : Nat} {T : tH} {A B : Nat → Nat}
theorem cSome (h74 : goRr R 74 2 = t) (hC : tC M t T) (hT : tOk T) (hN : 5000 ≤ N) (hA : ∀ i, i < 26 → M 4 i = nI (A i)) (hA25 : A 25 < 64) (he : eT M T A (T 0 16)) {p h : Nat} (hp : p < T 0 4) (hh : h < T 0 0) : fX4_somewhere N M R (nI p) (nI h) = some (nI (sW T A (yHd T A) p h (T 0 16))) := by
  have hz := tO_sz hT
  have hcs := tCases_le (T := T) (by omega) (tO_stories hT)
  unfold fX4_somewhere
  have key : lX4_somewhere_11 (nI p) (nI h) (nI (tCl T (A 25))) M R N 0 0 = some (nI (sW T A (yHd T A) p h (T 0 16))) := by
    refine gUp (fun n i (x : Int32) => lX4_somewhere_11 (nI p) (nI h) (nI (tCl T (A 25))) M R n x (nI i)) (fun i => nI (sW T A (yHd T A) p h i)) (T 0 16) _ ?_ ?_ N 0 (Nat.zero_le _) (by omega)
    · intro n c hc
      show lX4_somewhere_11 _ _ _ _ _ _ _ _ = lX4_somewhere_11 _ _ _ _ _ _ _ _
      rw [lX4_somewhere_11, h74, tC_cases hC, if_pos (nI_lt hc (by omega)), cPlaceIn hC hT hp (by omega) (by omega), gBd, nI_1 c]
      conv => rhs; unfold sW
      by_cases c0 : T 4 p = 0
      · rw [if_pos c0, if_neg (by decide), gBd, decide_eq_false (by omega), Bool.false_and, if_neg Bool.false_ne_true, Nat.or_zero]
      · have hpl := tPl_lt (c := c) (h := h) hT (show p < 4 by omega) (by omega) (by omega)
        rw [if_neg c0, if_pos (nI_pos' (by omega)), cBears hT he hc hA25, gBd, eB_hd hT hA25, decide_eq_true (by omega : 0 < T 4 p), Bool.true_and]
        cases eB T A c (yHd T A)
        · rw [if_pos (by decide), gBd, if_neg Bool.false_ne_true, Nat.or_zero]
        · rw [if_neg (by decide), gI_shl1 (by omega), gI_or, gNm, gBd, if_pos rfl]
    · intro n
      show lX4_somewhere_11 _ _ _ _ _ _ _ _ = _
      rw [lX4_somewhere_11, h74, tC_cases hC, if_neg (nI_nlt (Nat.le_refl _) (by omega))]
  rw [cHeard h74 hC hT hN hA hA25, gBd, key, gBd]
theorem mCould (hR : R 102 3 = some b) (hM : tM M b T) (hT : tOk T) (hN : 5000 ≤ N) (he : ∀ c, c < T 0 16 → M 114 c = nI (yH T A c)) {p h g : Nat} (hp : p < T 0 4) (hh : h < T 0 0) (hg : g < 64) : fX14_couldBe N M R (nI p) (nI h) (nI g) = some (nI (sW T A g p h (T 0 16))) := by
  have hz := tO_sz hT
  have hcs := tCases_le (T := T) (by omega) (tO_stories hT)
  unfold fX14_couldBe
  have key : lX14_couldBe_6 N (nI p) (nI h) (nI g) M R N 0 0 = some (nI (sW T A g p h (T 0 16))) := by
    refine gUp (fun n i (x : Int32) => lX14_couldBe_6 N (nI p) (nI h) (nI g) M R n x (nI i)) (fun i => nI (sW T A g p h i)) (T 0 16) _ ?_ ?_ N 0 (Nat.zero_le _) (by omega)
    · intro n c hc
      have o4 := tO_stories hT p (by omega)
      show lX14_couldBe_6 _ _ _ _ _ _ _ _ _ = lX14_couldBe_6 _ _ _ _ _ _ _ _ _
      rw [lX14_couldBe_6, hR, gBd, mCasesT hM hT hN, gBd, if_pos (nI_lt hc (by omega)), gBd, gRd (by omega), gBd, tM_4 hM (by omega), nI_1 c]
      conv => rhs; unfold sW
      by_cases c0 : T 4 p = 0
      · rw [c0, if_neg (by decide), gBd, decide_eq_false (by decide), Bool.false_and, if_neg Bool.false_ne_true, Nat.or_zero]
      · have hpl := tPl_lt (c := c) (h := h) hT (show p < 4 by omega) (by omega) (by omega)
        rw [if_pos (show (0 : Int32) < nI (T 4 p) from (nI_lt (by omega) (by omega) : nI 0 < nI (T 4 p))), mTrue hT he hc hg, gBd, decide_eq_true (by omega : 0 < T 4 p), Bool.true_and]
        cases eB T A c g
        · rw [if_pos (by decide), gBd, if_neg Bool.false_ne_true, Nat.or_zero]
        · rw [if_neg (by decide), gBd, mPlaceIn hM (by omega) (tO_stories hT) hN hp (by omega) (by omega), gBd, if_neg c0, gI_shl1 (by omega), gI_or, gNm, gBd, if_pos rfl]
    · intro n
      show lX14_couldBe_6 _ _ _ _ _ _ _ _ _ = _
      rw [lX14_couldBe_6, hR, gBd, mCasesT hM hT hN, gBd, if_neg (nI_nlt (Nat.le_refl _) (by omega))]
  rw [key, gBd]
/-- the only place -/
def sO (T : tH) (s q : Nat) : Bool := decide (s = 2 ^ q)
theorem cEvery (h74 : goRr R 74 2 = t) (hC : tC M t T) (hT : tOk T) (hN : 5000 ≤ N) {s : Nat} (hs : s < 256) : lX4_everywhere_10 (nI s) M R N 0 = some (if gFst (sO T s) (T 0 2) < T 0 2 then nI (gFst (sO T s) (T 0 2)) else -2) := by
  have hz := tO_sz hT
  refine gUpE (fun n i => lX4_everywhere_10 (nI s) M R n (nI i)) (T 0 2) _ (fun i => gFst (sO T s) i = i) ?_ ?_ N 0 (Nat.zero_le _) rfl (by omega)
  · intro n q hq hP
    have hq2 : 2 ^ q < 2 ^ 8 := Nat.pow_lt_pow_right (by decide) (by omega)
    show lX4_everywhere_10 _ _ _ _ _ = _ ∨ lX4_everywhere_10 _ _ _ _ _ = lX4_everywhere_10 _ _ _ _ _ ∧ _
    rw [lX4_everywhere_10, h74, tC_places hC, if_pos (nI_lt hq (by omega)), gI_shl1 (by omega), nI_1]
    by_cases c1 : s = 2 ^ q
    · left
      rw [if_pos (by rw [c1]), gFst_stop hP hq (decide_eq_true c1), if_pos hq]
    · right
      exact ⟨if_neg (fun e => c1 ((nI_eq (by omega) (by omega)).mp e)), gFst_go hP (decide_eq_false c1)⟩
  · intro n hP
    show lX4_everywhere_10 _ _ _ _ _ = _
    rw [lX4_everywhere_10, h74, tC_places hC, if_neg (nI_nlt (Nat.le_refl _) (by omega)), hP, if_neg (Nat.lt_irrefl _)]
theorem mSurely (hR : R 102 3 = some b) (hM : tM M b T) (hT : tOk T) (hN : 5000 ≤ N) {s : Nat} (hs : s < 256) : lX14_surely_41 (nI s) M R N 0 = some (if gFst (sO T s) (T 0 2) < T 0 2 then nI (gFst (sO T s) (T 0 2)) else -2, goWI (goWI M 102 1 0) 102 2 (-1)) := by
  have hz := tO_sz hT
  refine gUpE (fun n i => lX14_surely_41 (nI s) M R n (nI i)) (T 0 2) _ (fun i => gFst (sO T s) i = i) ?_ ?_ N 0 (Nat.zero_le _) rfl (by omega)
  · intro n q hq hP
    have hq2 : 2 ^ q < 2 ^ 8 := Nat.pow_lt_pow_right (by decide) (by omega)
    show lX14_surely_41 _ _ _ _ _ = _ ∨ lX14_surely_41 _ _ _ _ _ = lX14_surely_41 _ _ _ _ _ ∧ _
    rw [lX14_surely_41, hR, gBd, tM_0 hM (by decide), if_pos (nI_lt hq (by omega)), gI_shl1 (by omega), nI_1]
    by_cases c1 : s = 2 ^ q
    · left
      rw [if_pos (by rw [c1]), gFst_stop hP hq (decide_eq_true c1), if_pos hq, mGood, gB2]
    · right
      exact ⟨if_neg (fun e => c1 ((nI_eq (by omega) (by omega)).mp e)), gFst_go hP (decide_eq_false c1)⟩
  · intro n hP
    show lX14_surely_41 _ _ _ _ _ = _
    rw [lX14_surely_41, hR, gBd, tM_0 hM (by decide), if_neg (nI_nlt (Nat.le_refl _) (by omega)), hP, if_neg (Nat.lt_irrefl _), mGood, gB2]
theorem cUntold (h74 : goRr R 74 2 = t) (hC : tC M t T) (hT : tOk T) (hN : 5000 ≤ N) (hA : ∀ i, i < 26 → M 4 i = nI (A i)) (hA25 : A 25 < 64) (he : eT M T A (T 0 16)) {p : Nat} (hp : p < T 0 4) : fX4_untold N M R (nI p) = some (nI (sL T A (yHd T A) p (T 0 16))) := by
  have hz := tO_sz hT
  have hcs := tCases_le (T := T) (by omega) (tO_stories hT)
  have o4 := tO_stories hT p (by omega)
  have hpos := gP2pos (T 4 p)
  unfold fX4_untold
  have key : lX4_untold_22 (nI p) (nI (tCl T (A 25))) M R N (nI (2 ^ T 4 p - 1)) 0 = some (nI (sL T A (yHd T A) p (T 0 16))) := by
    refine gUp (fun n i (x : Int32) => lX4_untold_22 (nI p) (nI (tCl T (A 25))) M R n x (nI i)) (fun i => nI (sL T A (yHd T A) p i)) (T 0 16) _ ?_ ?_ N 0 (Nat.zero_le _) (by omega)
    · intro n c hc
      have hl := sL_lt (A := A) (g := yHd T A) hT (show p < 4 by omega) c
      show lX4_untold_22 _ _ _ _ _ _ _ = lX4_untold_22 _ _ _ _ _ _ _
      rw [lX4_untold_22, h74, tC_cases hC, if_pos (nI_lt hc (by omega)), cStoryIn hC (by omega) (tO_stories hT) hp (by omega), gBd, nI_1 c]
      conv => rhs; unfold sL
      by_cases c0 : T 4 p = 0
      · rw [if_pos c0, if_neg (by decide), gBd, decide_eq_false (by omega), Bool.false_and, if_neg Bool.false_ne_true]
      · have hst : tSt T c p < T 4 p := Nat.mod_lt _ (by omega)
        rw [if_neg c0, if_pos (nI_pos' (by omega)), cBears hT he hc hA25, gBd, eB_hd hT hA25, decide_eq_true (by omega : 0 < T 4 p), Bool.true_and]
        cases eB T A c (yHd T A)
        · rw [if_pos (by decide), gBd, if_neg Bool.false_ne_true]
        · rw [if_neg (by decide), gI_shl1 (by omega), gI_not _ _ (by omega), gNm, gBd, if_pos rfl]
          rfl
    · intro n
      show lX4_untold_22 _ _ _ _ _ _ _ = _
      rw [lX4_untold_22, h74, tC_cases hC, if_neg (nI_nlt (Nat.le_refl _) (by omega))]
  rw [cHeard h74 hC hT hN hA hA25, gBd, h74, gRd (by omega), gBd, tC_stories hC p (by omega), gI_shl1 (by omega), gL_1, pk_sub (by omega), gNm, key, gBd]
theorem mLies (hR : R 102 3 = some b) (hM : tM M b T) (hT : tOk T) (hN : 5000 ≤ N) (hv : ∀ i, i < 18 → M 105 i = nI (B i)) (hAB : aB A B) (he : ∀ c, c < T 0 16 → M 114 c = nI (yH T A c)) {p : Nat} (hp : p < T 0 4) : lX14_lies_39 N (nI p) M R N (nI (2 ^ T 4 p - 1)) 0 = some (nI (sL T A (yHd T A) p (T 0 16))) := by
  have hz := tO_sz hT
  have hcs := tCases_le (T := T) (by omega) (tO_stories hT)
  have o4 := tO_stories hT p (by omega)
  refine gUp (fun n i (x : Int32) => lX14_lies_39 N (nI p) M R n x (nI i)) (fun i => nI (sL T A (yHd T A) p i)) (T 0 16) _ ?_ ?_ N 0 (Nat.zero_le _) (by omega)
  · intro n c hc
    have hl := sL_lt (A := A) (g := yHd T A) hT (show p < 4 by omega) c
    show lX14_lies_39 _ _ _ _ _ _ _ = lX14_lies_39 _ _ _ _ _ _ _
    rw [lX14_lies_39, hR, gBd, mCasesT hM hT hN, gBd, if_pos (nI_lt hc (by omega)), gBd, gRd (by omega), gBd, tM_4 hM (by omega), nI_1 c]
    conv => rhs; unfold sL
    by_cases c0 : T 4 p = 0
    · rw [c0, if_neg (by decide), gBd, decide_eq_false (by decide), Bool.false_and, if_neg Bool.false_ne_true]
    · have hst : tSt T c p < T 4 p := Nat.mod_lt _ (by omega)
      rw [if_pos (show (0 : Int32) < nI (T 4 p) from (nI_lt (by omega) (by omega) : nI 0 < nI (T 4 p))), mHeard hR hM hT hv hAB, gBd, mTrue hT he hc (yHd_lt hAB.2.2.2.2.2.2), gBd, decide_eq_true (by omega : 0 < T 4 p), Bool.true_and]
      cases eB T A c (yHd T A)
      · rw [if_pos (by decide), gBd, if_neg Bool.false_ne_true]
      · rw [if_neg (by decide), gBd, mStory hM (by omega) (tO_stories hT) hN hp (by omega), gBd, if_neg c0, gI_shl1 (by omega), gI_not _ _ (by omega), gNm, gBd, if_pos rfl]
        rfl
  · intro n
    show lX14_lies_39 _ _ _ _ _ _ _ = _
    rw [lX14_lies_39, hR, gBd, mCasesT hM hT hN, gBd, if_neg (nI_nlt (Nat.le_refl _) (by omega))]
end ev2
theorem go_could : goS_could gInv := by
  rintro k G M L R a1 a2 ⟨t, T, A, B, hX⟩ hk
  have hI := iM_b hX.2.2.2.1
  have hC := hX.2.2.1
  by_cases c0 : wi a1 (T 0 4) = true
  · obtain ⟨p, hp, rfl⟩ := wi_t (by omega) c0
    obtain ⟨b, b1, b2, b3, b4⟩ := iM_some hX.2.2.2.1 (i := 0) (j := 4) (by omega)
    have b3' := fun w => tM_w (w := w) b2 b3
    have hAB := hX.2.2.2.2.1.2.2.1.1
    have hA25 := hAB.2.2.2.2.2.2
    have h74 : goRr R 74 2 = t := by unfold goRr; rw [hX.2.1.2.2.2.1]; rfl
    by_cases c1 : wi a2 (T 0 0) = true
    · obtain ⟨h, hh, rfl⟩ := wi_t (by omega) c1
      obtain ⟨Me, e1, e2, e3, e4, e5, e6, e7⟩ := iEv hX b1 b2 b3 b4
      obtain ⟨Mm, m1, m2, m3, m4, m5, m6, m7, m8⟩ := e7 0
      refine ⟨5000, nI (sW T A (yHd T A) p h (T 0 16)), goWI Me 0 8 0, _, ?_, ?_, m5 (by decide)⟩
      · unfold fX12_could fX12_isPerson fX12_isHour
        rw [iR5 hX, tC_people hC, tC_hours hC, cWithin, cWithin, c0, c1, if_neg (by decide), if_neg (by decide), e1, gBd, cSome h74 e2 b4 (by decide) e3 hA25 e4 hp hh, gBd, cAns, gB2]
      · unfold fX14_could fX14_refusesPerson
        rw [gNm, m_isPerson m6, m_isHour b1 m7, c0, c1, gBd, if_neg (by decide), gBd, if_neg (by decide), gBd, if_neg (by decide), m1, gBd, mHeard b1 m3 b4 m4 hAB, gBd, mCould b1 m3 b4 (by decide) m2 hp hh (yHd_lt hA25), gBd, mGood, gB2]
    · rw [Bool.not_eq_true] at c1
      refine ⟨5000, -1, goWI M 0 8 2, _, ?_, ?_, iNo hX (w := 2) (by decide)⟩
      · unfold fX12_could fX12_isPerson fX12_isHour
        rw [iR5 hX, tC_people hC, tC_hours hC, cWithin, cWithin, c0, c1, if_neg (by decide), if_pos (by decide), cRef, gB2]
      · unfold fX14_could fX14_refusesPerson
        rw [gNm, m_isPerson (iI hX 2), m_isHour b1 (b3' 2), c0, c1, gBd, if_neg (by decide), gBd, if_pos (by decide), gBd, if_pos (by decide), mRef, gB2]
  · rw [Bool.not_eq_true] at c0
    refine ⟨5000, -1, goWI M 0 8 1, _, ?_, ?_, iNo hX (w := 1) (by decide)⟩
    · unfold fX12_could fX12_isPerson
      rw [iR5 hX, tC_people hC, cWithin, c0, if_pos (by decide), cRef, gB2]
    · unfold fX14_could fX14_refusesPerson
      rw [gNm, m_isPerson (iI hX 1), c0, gBd, if_pos (by decide), gBd, if_pos (by decide), mRef, gB2]
theorem go_surely : goS_surely gInv := by
  rintro k G M L R a1 a2 ⟨t, T, A, B, hX⟩ hk
  have hI := iM_b hX.2.2.2.1
  have hC := hX.2.2.1
  by_cases c0 : wi a1 (T 0 4) = true
  · obtain ⟨p, hp, rfl⟩ := wi_t (by omega) c0
    obtain ⟨b, b1, b2, b3, b4⟩ := iM_some hX.2.2.2.1 (i := 0) (j := 4) (by omega)
    have b3' := fun w => tM_w (w := w) b2 b3
    have hAB := hX.2.2.2.2.1.2.2.1.1
    have hA25 := hAB.2.2.2.2.2.2
    have h74 : goRr R 74 2 = t := by unfold goRr; rw [hX.2.1.2.2.2.1]; rfl
    by_cases c1 : wi a2 (T 0 0) = true
    · obtain ⟨h, hh, rfl⟩ := wi_t (by omega) c1
      obtain ⟨Me, e1, e2, e3, e4, e5, e6, e7⟩ := iEv hX b1 b2 b3 b4
      obtain ⟨Mm, m1, m2, m3, m4, m5, m6, m7, m8⟩ := e7 0
      have hs := sW_lt (A := A) (g := yHd T A) b4 (show p < 4 by omega) (show h < 12 by omega) (T 0 16)
      refine ⟨5000, if gFst (sO T (sW T A (yHd T A) p h (T 0 16))) (T 0 2) < T 0 2 then nI (gFst (sO T (sW T A (yHd T A) p h (T 0 16))) (T 0 2)) else -2, goWI Me 0 8 0, _, ?_, ?_, m5 (by decide)⟩
      · unfold fX12_surely fX12_isPerson fX12_isHour fX4_everywhere
        rw [iR5 hX, tC_people hC, tC_hours hC, cWithin, cWithin, c0, c1, if_neg (by decide), if_neg (by decide), e1, gBd, cSome h74 e2 b4 (by decide) e3 hA25 e4 hp hh, gBd, cEvery h74 e2 b4 (by decide) hs, gBd, cAns, gB2]
      · unfold fX14_surely fX14_refusesPerson
        rw [gNm, m_isPerson m6, m_isHour b1 m7, c0, c1, gBd, if_neg (by decide), gBd, if_neg (by decide), gBd, if_neg (by decide), m1, gBd, mHeard b1 m3 b4 m4 hAB, gBd, mCould b1 m3 b4 (by decide) m2 hp hh (yHd_lt hA25), gBd, mSurely b1 m3 b4 (by decide) hs]
    · rw [Bool.not_eq_true] at c1
      refine ⟨5000, -1, goWI M 0 8 2, _, ?_, ?_, iNo hX (w := 2) (by decide)⟩
      · unfold fX12_surely fX12_isPerson fX12_isHour
        rw [iR5 hX, tC_people hC, tC_hours hC, cWithin, cWithin, c0, c1, if_neg (by decide), if_pos (by decide), cRef, gB2]
      · unfold fX14_surely fX14_refusesPerson
        rw [gNm, m_isPerson (iI hX 2), m_isHour b1 (b3' 2), c0, c1, gBd, if_neg (by decide), gBd, if_pos (by decide), gBd, if_pos (by decide), mRef, gB2]
  · rw [Bool.not_eq_true] at c0
    refine ⟨5000, -1, goWI M 0 8 1, _, ?_, ?_, iNo hX (w := 1) (by decide)⟩
    · unfold fX12_surely fX12_isPerson
      rw [iR5 hX, tC_people hC, cWithin, c0, if_pos (by decide), cRef, gB2]
    · unfold fX14_surely fX14_refusesPerson
      rw [gNm, m_isPerson (iI hX 1), c0, gBd, if_pos (by decide), gBd, if_pos (by decide), mRef, gB2]
theorem go_lies : goS_lies gInv := by
  rintro k G M L R a1 ⟨t, T, A, B, hX⟩ hk
  have hI := iM_b hX.2.2.2.1
  have hC := hX.2.2.1
  by_cases c0 : wi a1 (T 0 4) = true
  · obtain ⟨p, hp, rfl⟩ := wi_t (by omega) c0
    obtain ⟨b, b1, b2, b3, b4⟩ := iM_some hX.2.2.2.1 (i := 0) (j := 4) (by omega)
    have hAB := hX.2.2.2.2.1.2.2.1.1
    have hA25 := hAB.2.2.2.2.2.2
    have h74 : goRr R 74 2 = t := by unfold goRr; rw [hX.2.1.2.2.2.1]; rfl
    have hz := tO_sz b4
    have o4 := tO_stories b4 p (by omega)
    have hpos := gP2pos (T 4 p)
    obtain ⟨Me, e1, e2, e3, e4, e5, e6, e7⟩ := iEv hX b1 b2 b3 b4
    obtain ⟨Mm, m1, m2, m3, m4, m5, m6, m7, m8⟩ := e7 0
    refine ⟨5000, nI (sL T A (yHd T A) p (T 0 16)), goWI Me 0 8 0, _, ?_, ?_, m5 (by decide)⟩
    · unfold fX12_lies fX12_isPerson
      rw [iR5 hX, tC_people hC, cWithin, c0, if_neg (by decide), e1, gBd, cUntold h74 e2 b4 (by decide) e3 hA25 e4 hp, gBd, cAns, gB2]
    · unfold fX14_lies
      rw [gNm, m_isPerson m6, c0, gBd, if_neg (by decide), m1, gBd, b1, gBd, gRd (by omega), gBd, tM_4 m3 (by omega), gI_shl1 (by omega), gL_1, pk_sub (by omega), gNm, mLies b1 m3 b4 (by decide) m4 hAB m2 hp, gBd, mGood, gB2]
      rfl
  · rw [Bool.not_eq_true] at c0
    refine ⟨5000, -1, goWI M 0 8 1, _, ?_, ?_, iNo hX (w := 1) (by decide)⟩
    · unfold fX12_lies fX12_isPerson
      rw [iR5 hX, tC_people hC, cWithin, c0, if_pos (by decide), cRef, gB2]
    · unfold fX14_lies
      rw [gNm, m_isPerson (iI hX 1), c0, gBd, if_pos (by decide), mRef, gB2]
