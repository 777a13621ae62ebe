/-! CALLS that tell what was told -/
theorem cRef (M : goMI) (w : Int32) : fX12_refuse M w = some (-1, goWI M 0 8 w) := rfl
theorem cAns (M : goMI) (v : Int32) : fX12_answer M v = some (v, goWI M 0 8 0) := rfl
theorem mRef (M : goMI) (w : Int32) : fX14_refused M w = some (-1, goWI (goWI M 102 1 w) 102 2 (-1)) := rfl
theorem mGood (M : goMI) (v : Int32) : fX14_good M v = some (v, goWI (goWI M 102 1 0) 102 2 (-1)) := rfl
theorem iM_fr {M M' : goMI} {R : goMR} {T : tH} (h : iM M R T) (hf : ∀ b, 121 ≤ b → M' b = M b) : iM M' R T := by
  rcases h with h | ⟨b, b1, b2, b3, b4⟩
  · exact Or.inl h
  · exact Or.inr ⟨b, b1, b2, tM_fr b3 (fun r hr => hf _ (by omega)), b4⟩
theorem iM_some {M : goMI} {R : goMR} {T : tH} (h : iM M R T) {i j : Nat} (h0 : 0 < T i j) : ∃ b, R 102 3 = some b ∧ 121 ≤ b ∧ tM M b T ∧ tOk T := by
  rcases h with ⟨_, h⟩ | h
  · rw [h] at h0; exact absurd h0 (Nat.lt_irrefl _)
  · exact h
/-- bounds that hold with and without a hill -/
theorem iM_b {M : goMI} {R : goMR} {T : tH} (h : iM M R T) : T 0 0 ≤ 12 ∧ T 0 1 ≤ 4 ∧ T 0 2 ≤ 8 ∧ T 0 3 ≤ 14 ∧ T 0 4 ≤ 4 ∧ T 0 5 ≤ 6 ∧ T 0 7 ≤ 10 ∧ T 0 8 ≤ 8 ∧ T 0 9 ≤ 8 ∧ T 0 10 ≤ 8 ∧ T 0 11 ≤ 6 ∧ T 0 15 ≤ 1 ∧ T 0 16 ≤ 81 := by
  rcases h with ⟨_, h⟩ | ⟨b, _, _, _, h4⟩
  · rw [h]; decide
  · have hz := tO_sz h4
    have := tCases_le (T := T) (by omega) (tO_stories h4)
    omega
section getters
variable {k : Nat} {G : goG} {M : goMI} {L : goML} {R : goMR} {t : Nat} {T : tH} {A B : Nat → Nat}
theorem iNo (hX : iX k G M L R t T A B) {w : Int32} (hw : w ≠ 4) : gInv (k + 1) G (goWI (goWI (goWI (goWI M 0 8 w) 102 0 0) 102 1 w) 102 2 (-1)) L R :=
  ⟨t, T, A, B, iX_q hX qC_0 (kOk_q hX.2.2.2.2.2.2.2.1) qM_0 hw⟩
theorem iI (hX : iX k G M L R t T A B) (w : Int32) : iM (goWI (goWI M 0 8 w) 102 0 0) R T := iM_fr hX.2.2.2.1 (fun b hb => by rw [goWI_ne (by omega), goWI_ne (by omega)])
theorem iR5 (hX : iX k G M L R t T A B) : goRr R 0 5 = t := by
  unfold goRr
  rw [hX.2.1.2.1]
  rfl
theorem tM_w {b : Nat} {w : Int32} (hb : 121 ≤ b) (h : tM M b T) : tM (goWI (goWI M 0 8 w) 102 0 0) b T := tM_fr h (fun r hr => by rw [goWI_ne (by omega), goWI_ne (by omega)])
theorem iX_0 (hX : iX k G M L R t T A B) (w : Int32) : gInv (k + 1) G (goWI M 102 0 w) L R := by
  obtain ⟨x1, x2, x3, x4, x5, x6, x7, x8, x9⟩ := hX
  have f0 : ∀ b, b ≠ 102 → goWI M 102 0 w b = M b := fun b hb => goWI_ne hb
  have f1 : ∀ j, j ≠ 0 → goWI M 102 0 w 102 j = M 102 j := fun j hj => gWI_nk hj
  have ht := x2.1
  refine ⟨t, T, A, B, x1, x2, tC_fr x3 (fun r hr => f0 _ (by omega)), iM_fr x4 (fun b hb => f0 _ (by omega)), iA_fr x5 (f0 _ (by decide)) (f0 _ (by decide)) (f0 _ (by decide)) (f0 _ (by decide)) (f0 _ (by decide)) (f0 _ (by decide)) (f0 _ (by decide)) (f1 _ (by decide)) (f1 _ (by decide)), ?_, ?_, kOk_fr x8 (by omega) (f0 _ (by decide)) (fun b h1 h2 => f0 _ (by omega)), x9⟩
  · unfold iT
    rw [f0 1 (by decide), f0 2 (by decide), f0 103 (by decide), f1 6 (by decide)]
    exact x6
  · unfold iE
    rw [f0 0 (by decide), f0 67 (by decide), f1 1 (by decide), f1 2 (by decide), f1 14 (by decide)]
    exact x7
end getters
theorem go_fault : goS_fault gInv := by
  rintro k G M L R ⟨t, T, A, B, hX⟩ hk
  refine ⟨0, goWI M 102 0 0, ?_, iX_0 hX 0⟩
  unfold fX14_fault fX12_fault
  rw [gNm, gWI_nk (by decide), hX.2.2.2.2.2.2.1.2.1]
theorem go_where : goS_where gInv := by
  rintro k G M L R ⟨t, T, A, B, hX⟩ hk
  refine ⟨0, goWI M 102 0 0, ?_, iX_0 hX 0⟩
  unfold fX14_where fX12_where
  rw [gNm, gWI_nk (by decide), hX.2.2.2.2.2.2.1.2.2]
theorem go_trouble : goS_trouble gInv := by
  rintro k G M L R ⟨t, T, A, B, hX⟩ hk
  refine ⟨0, goWI M 102 0 0, ?_, iX_0 hX 0⟩
  unfold fX14_trouble fX12_trouble
  rw [gNm, gWI_nk (by decide), hX.2.2.2.2.2.2.1.1]
theorem go_plants : goS_plants gInv := by
  rintro k G M L R a1 a2 ⟨t, T, A, B, hX⟩ hk
  have hI := iM_b hX.2.2.2.1
  have hC := hX.2.2.1
  by_cases c1 : wi a1 (T 0 2) = true
  · by_cases c2 : wi a2 (T 0 1) = true
    · obtain ⟨p, hp, rfl⟩ := wi_t (by omega) c1
      obtain ⟨q, hq, rfl⟩ := wi_t (by omega) c2
      obtain ⟨b, b1, b2, b3, b4⟩ := iM_some hX.2.2.2.1 (i := 0) (j := 2) (by omega)
      have b3' := tM_w (w := 0) b2 b3
      refine ⟨5000, nI (T 1 (4 * p + q)), goWI M 0 8 0, _, ?_, ?_, iNo hX (w := 0) (by decide)⟩
      · unfold fX12_plants fX12_isPlace fX12_isPlant
        have hg := (dS0_ok b4).1 p (by omega)
        unfold dS0 at hg
        rw [if_pos (by omega)] at hg
        rw [iR5 hX, tC_places hC, tC_plants hC, cWithin, cWithin, c1, c2, if_neg (by decide), if_neg (by decide), gRd (by omega), gBd, tC_grows hC p (by omega), cNib hg (by omega), dNib_tG b4 (by omega) (by omega), cAns, gB2]
      · unfold fX14_plants
        rw [gNm, m_isPlace (iI hX 0), m_isPlant (iI hX 0), b1, c1, c2, gBd, if_neg (by decide), gBd, if_neg (by decide), gBd, gL_4, gN_4, nI_add, gRd (by omega), gBd, tM_1 b3' (by omega), mGood, gB2]
    · rw [Bool.not_eq_true] at c2
      refine ⟨5000, -1, goWI M 0 8 1, _, ?_, ?_, iNo hX (w := 1) (by decide)⟩
      · unfold fX12_plants fX12_isPlace fX12_isPlant
        rw [iR5 hX, tC_places hC, tC_plants hC, cWithin, cWithin, c1, c2, if_neg (by decide), if_pos (by decide), cRef, gB2]
      · unfold fX14_plants
        rw [gNm, m_isPlace (iI hX 1), m_isPlant (iI hX 1), c1, c2, gBd, if_neg (by decide), gBd, if_pos (by decide), mRef, gB2]
  · rw [Bool.not_eq_true] at c1
    refine ⟨5000, -1, goWI M 0 8 1, _, ?_, ?_, iNo hX (w := 1) (by decide)⟩
    · unfold fX12_plants fX12_isPlace
      rw [iR5 hX, tC_places hC, cWithin, c1, if_pos (by decide), cRef, gB2]
    · unfold fX14_plants
      rw [gNm, m_isPlace (iI hX 1), c1, gBd, if_pos (by decide), mRef, gB2]
theorem go_near : goS_near gInv := by
  rintro k G M L R a1 ⟨t, T, A, B, hX⟩ hk
  have hI := iM_b hX.2.2.2.1
  have hC := hX.2.2.1
  by_cases c1 : wi a1 (T 0 2) = true
  · obtain ⟨p, hp, rfl⟩ := wi_t (by omega) c1
    obtain ⟨b, b1, b2, b3, b4⟩ := iM_some hX.2.2.2.1 (i := 0) (j := 2) (by omega)
    have b3' := tM_w (w := 0) b2 b3
    have hz := tO_sz b4
    refine ⟨5000, nI (tNr T p), goWI M 0 8 0, _, ?_, ?_, iNo hX (w := 0) (by decide)⟩
    · unfold fX12_near fX12_isPlace
      rw [iR5 hX, tC_places hC, cWithin, c1, if_neg (by decide), gRd (by omega), gBd, tC_nearby hC p (by omega), cAns, gB2]
    · unfold fX14_near
      rw [gNm, m_isPlace (iI hX 0), c1, gBd, if_neg (by decide)]
      have key := gUp (fun n i (s : Int32) => lX14_near_23 5000 (nI p) (goWI (goWI M 0 8 0) 102 0 0) R n s (nI i)) (fun i => nI (gBits (fun q => decide (tPath T p q < T 0 3)) i)) (T 0 2) (nI (tNr T p)) ?_ ?_ 5000 0 (Nat.zero_le _) (by omega)
      · have key' : lX14_near_23 5000 (nI p) (goWI (goWI M 0 8 0) 102 0 0) R 5000 0 0 = _ := key
        rw [key', gBd, mGood, gB2]
      · intro n i hi
        show lX14_near_23 _ _ _ _ _ _ _ = lX14_near_23 _ _ _ _ _ _ _
        rw [lX14_near_23, b1, gBd, tM_0 b3' (by decide), if_pos (nI_lt hi (by omega)), gBd, mPath b3' (by omega) (fun i hi => by have := tO_path b4 i hi; omega) (by decide) (by omega) (by omega), gBd, nI_1]
        conv => rhs; unfold gBits
        by_cases c2 : tPath T p i < T 0 3
        · rw [if_pos c2, if_neg (gI_nm1 (by omega)), gI_shl1 (by omega), gNm, gNm, gI_or, decide_eq_true c2, if_pos rfl]
        · rw [if_neg c2, if_pos rfl, gNm, gNm, gL_0, gI_or, decide_eq_false c2, if_neg Bool.false_ne_true]
      · intro n
        show lX14_near_23 _ _ _ _ _ _ _ = _
        rw [lX14_near_23, b1, gBd, tM_0 b3' (by decide), if_neg (nI_nlt (Nat.le_refl _) (by omega))]
        congr 2
        apply Nat.eq_of_testBit_eq
        intro q
        unfold tNr
        rw [gBits_tb, gBits_tb]
        by_cases c3 : tPath T p q < T 0 3
        · have h1 := gFst_p c3
          have h2 := tO_path b4 _ c3
          unfold tJ at h1
          simp only [Bool.or_eq_true, Bool.and_eq_true, decide_eq_true_eq] at h1
          have hq : q < T 0 2 := by
            rcases h1 with h1 | h1
            · rw [← h1.2]; exact h2.2.1
            · rw [← h1.1]; exact h2.1
          rw [decide_eq_true hq, decide_eq_true (by omega : q < 8)]
        · rw [decide_eq_false c3, Bool.and_false, Bool.and_false]
  · rw [Bool.not_eq_true] at c1
    refine ⟨5000, -1, goWI M 0 8 1, _, ?_, ?_, iNo hX (w := 1) (by decide)⟩
    · unfold fX12_near fX12_isPlace
      rw [iR5 hX, tC_places hC, cWithin, c1, if_pos (by decide), cRef, gB2]
    · unfold fX14_near
      rw [gNm, m_isPlace (iI hX 1), c1, gBd, if_pos (by decide), mRef, gB2]
theorem go_stories : goS_stories gInv := by
  rintro k G M L R a1 ⟨t, T, A, B, hX⟩ hk
  have hI := iM_b hX.2.2.2.1
  have hC := hX.2.2.1
  by_cases c1 : wi a1 (T 0 4) = true
  · obtain ⟨p, hp, rfl⟩ := wi_t (by omega) c1
    obtain ⟨b, b1, b2, b3, b4⟩ := iM_some hX.2.2.2.1 (i := 0) (j := 4) (by omega)
    have b3' := tM_w (w := 0) b2 b3
    refine ⟨5000, nI (T 4 p), goWI M 0 8 0, _, ?_, ?_, iNo hX (w := 0) (by decide)⟩
    · unfold fX12_stories fX12_isPerson
      rw [iR5 hX, tC_people hC, cWithin, c1, if_neg (by decide), gRd (by omega), gBd, tC_stories hC p (by omega), cAns, gB2]
    · unfold fX14_stories
      rw [gNm, m_isPerson (iI hX 0), c1, gBd, if_neg (by decide), b1, gBd, gRd (by omega), gBd, tM_4 b3' (by omega), mGood, gB2]
  · rw [Bool.not_eq_true] at c1
    refine ⟨5000, -1, goWI M 0 8 1, _, ?_, ?_, iNo hX (w := 1) (by decide)⟩
    · unfold fX12_stories fX12_isPerson
      rw [iR5 hX, tC_people hC, cWithin, c1, if_pos (by decide), cRef, gB2]
    · unfold fX14_stories
      rw [gNm, m_isPerson (iI hX 1), c1, gBd, if_pos (by decide), mRef, gB2]
theorem go_caseOf : goS_caseOf gInv := by
  rintro k G M L R a1 a2 ⟨t, T, A, B, hX⟩ hk
  have hI := iM_b hX.2.2.2.1
  have hC := hX.2.2.1
  by_cases c1 : wi a1 (T 0 16) = true
  · by_cases c2 : wi a2 (T 0 4) = true
    · obtain ⟨c, hc, rfl⟩ := wi_t (by omega) c1
      obtain ⟨p, hp, rfl⟩ := wi_t (by omega) c2
      obtain ⟨b, b1, b2, b3, b4⟩ := iM_some hX.2.2.2.1 (i := 0) (j := 4) (by omega)
      have b3' := tM_w (w := 0) b2 b3
      refine ⟨5000, if T 4 p = 0 then -2 else nI (tSt T c p), goWI M 0 8 0, _, ?_, ?_, iNo hX (w := 0) (by decide)⟩
      · unfold fX12_caseOf fX12_isCase fX12_isPerson
        rw [iR5 hX, tC_cases hC, tC_people hC, cWithin, cWithin, c1, c2, if_neg (by decide), if_neg (by decide), cStoryIn hC (by omega) (tO_stories b4) hp (by omega), gBd, cAns, gB2]
      · unfold fX14_caseOf
        rw [gNm, m_isCase (by decide) (iI hX 0), m_isPerson (iI hX 0), c1, c2, gBd, if_neg (by decide), gBd, if_neg (by decide), b1, gBd, mStory b3' (by omega) (tO_stories b4) (by decide) hp (by omega), gBd, mGood, gB2]
    · rw [Bool.not_eq_true] at c2
      refine ⟨5000, -1, goWI M 0 8 1, _, ?_, ?_, iNo hX (w := 1) (by decide)⟩
      · unfold fX12_caseOf fX12_isCase fX12_isPerson
        rw [iR5 hX, tC_cases hC, tC_people hC, cWithin, cWithin, c1, c2, if_neg (by decide), if_pos (by decide), cRef, gB2]
      · unfold fX14_caseOf
        rw [gNm, m_isCase (by decide) (iI hX 1), m_isPerson (iI hX 1), c1, c2, gBd, if_neg (by decide), gBd, if_pos (by decide), mRef, gB2]
  · rw [Bool.not_eq_true] at c1
    refine ⟨5000, -1, goWI M 0 8 1, _, ?_, ?_, iNo hX (w := 1) (by decide)⟩
    · unfold fX12_caseOf fX12_isCase
      rw [iR5 hX, tC_cases hC, cWithin, c1, if_pos (by decide), cRef, gB2]
    · unfold fX14_caseOf
      rw [gNm, m_isCase (by decide) (iI hX 1), c1, gBd, if_pos (by decide), mRef, gB2]
