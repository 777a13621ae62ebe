/-! CHEESE and sizes -/
theorem gP2 {n : Nat} (h : n ≤ 6) : 2 ^ n ≤ 64 := show 2 ^ n ≤ 2 ^ 6 from Nat.pow_le_pow_right (by decide) h
theorem gP2pos (n : Nat) : 0 < 2 ^ n := Nat.two_pow_pos n
theorem m_all {M : goMI} {R : goMR} {T : tH} {b : Nat} (hR : R 102 3 = some b) (hM : tM M b T) (hg : T 0 5 ≤ 6) : fX14_allGoats M R = some (nI (2 ^ T 0 5 - 1)) := by
  have := gP2pos (T 0 5)
  unfold fX14_allGoats
  rw [hR, gBd, tM_0 hM (by decide), gI_shl1 (by omega), gL_1, pk_sub (by omega)]
section cheese
variable {M : goMI} {R : goMR} {T : tH} {t b N : Nat} {A : Nat → Nat}
theorem cCount (hR : goRr R 78 1 = t) (hC : tC M t T) (hT : tOk T) (h15 : T 0 15 = 1) (hN : 5000 ≤ N) {c : Nat} (hd : dayIs M 78 T A c) : fX3_countMilkers N M R 78 = some (nI (gSum (fun s => (yC T A c s).toNat) (2 ^ T 0 5))) := by
  have hz := tO_sz hT
  have hp := gP2 (n := T 0 5) (by omega)
  unfold fX3_countMilkers
  have key := gUp (fun n i (x : Int32) => lX3_countMilkers_4 N M R 78 n x (nI i)) (fun i => nI (gSum (fun s => (yC T A c s).toNat) i)) (2 ^ T 0 5) (nI (gSum (fun s => (yC T A c s).toNat) (2 ^ T 0 5))) ?_ ?_ N 0 (Nat.zero_le _) (by omega)
  · have key' : lX3_countMilkers_4 N M R 78 N 0 0 = _ := key
    rw [key', gBd]
  · intro n s hs
    show lX3_countMilkers_4 _ _ _ _ _ _ _ = lX3_countMilkers_4 _ _ _ _ _ _ _
    have e2 : gSum (fun s => (yC T A c s).toNat) (s + 1) = gSum (fun s => (yC T A c s).toNat) s + (yC T A c s).toNat := rfl
    rw [lX3_countMilkers_4, hR, (tC_herd hC).1, gI_shl1 (by omega), if_pos (nI_lt hs (by omega)), cGive hR hC hT h15 hN hd (by omega), gBd, gNm, e2, nI_1 s]
    cases yC T A c s
    · rw [if_pos (by decide)]; rfl
    · rw [if_neg (by decide), nI_1]; rfl
  · intro n
    show lX3_countMilkers_4 _ _ _ _ _ _ _ = _
    rw [lX3_countMilkers_4, hR, (tC_herd hC).1, gI_shl1 (by omega), if_neg (nI_nlt (Nat.le_refl _) (by omega))]
theorem mCount (hR : R 102 3 = some b) (hM : tM M b T) (hT : tOk T) (hN : 5000 ≤ N) {c : Nat} (hd : mdIs M T A c) : lX14_cheese_31 N M R N 0 0 = some (nI (gSum (fun s => (yC T A c s).toNat) (2 ^ T 0 5))) := by
  have hz := tO_sz hT
  have hp := gP2 (n := T 0 5) (by omega)
  have hp0 := gP2pos (T 0 5)
  refine gUp (fun n i (x : Int32) => lX14_cheese_31 N M R n x (nI i)) (fun i => nI (gSum (fun s => (yC T A c s).toNat) i)) (2 ^ T 0 5) _ ?_ ?_ N 0 (Nat.zero_le _) (by omega)
  · intro n s hs
    show lX14_cheese_31 _ _ _ _ _ _ = lX14_cheese_31 _ _ _ _ _ _
    have e2 : gSum (fun s => (yC T A c s).toNat) (s + 1) = gSum (fun s => (yC T A c s).toNat) s + (yC T A c s).toNat := rfl
    rw [lX14_cheese_31, m_all hR hM (by omega), gBd, if_pos (nI_le (by omega) (by omega)), mGive hR hM hT hN hd (by omega), gBd, gNm, gNm, e2, nI_1 s]
    cases yC T A c s
    · rw [if_pos (by decide), gL_0, nI_add]; rfl
    · rw [if_neg (by decide), gL_1, nI_add]; rfl
  · intro n
    show lX14_cheese_31 _ _ _ _ _ _ = _
    rw [lX14_cheese_31, m_all hR hM (by omega), gBd, if_neg (nI_ge (by omega) (by omega))]
theorem cLeast (hR : goRr R 78 1 = t) (hC : tC M t T) (hT : tOk T) (h15 : T 0 15 = 1) (hN : 5000 ≤ N) {c : Nat} (hd : dayIs M 78 T A c) : fX3_leastMilkers N M R 78 = some (if gFst (yC T A c) (2 ^ T 0 5) < 2 ^ T 0 5 then nI (gFst (yC T A c) (2 ^ T 0 5)) else -2) := by
  have hz := tO_sz hT
  have hp := gP2 (n := T 0 5) (by omega)
  unfold fX3_leastMilkers
  refine gUpE (fun n i => lX3_leastMilkers_2 N M R 78 n (nI i)) (2 ^ T 0 5) _ (fun i => gFst (yC T A c) i = i) ?_ ?_ N 0 (Nat.zero_le _) rfl (by omega)
  · intro n s hs hP
    show lX3_leastMilkers_2 _ _ _ _ _ _ = _ ∨ lX3_leastMilkers_2 _ _ _ _ _ _ = lX3_leastMilkers_2 _ _ _ _ _ _ ∧ _
    rw [lX3_leastMilkers_2, hR, (tC_herd hC).1, gI_shl1 (by omega), if_pos (nI_lt hs (by omega)), cGive hR hC hT h15 hN hd (by omega), gBd, nI_1 s]
    cases e : yC T A c s
    · right
      exact ⟨if_pos (by decide), gFst_go hP e⟩
    · left
      rw [if_neg (by decide), gFst_stop hP hs e, if_pos hs]
  · intro n hP
    show lX3_leastMilkers_2 _ _ _ _ _ _ = _
    rw [lX3_leastMilkers_2, hR, (tC_herd hC).1, gI_shl1 (by omega), if_neg (nI_nlt (Nat.le_refl _) (by omega)), hP, if_neg (Nat.lt_irrefl _)]
theorem mLeast (hR : R 102 3 = some b) (hM : tM M b T) (hT : tOk T) (hN : 5000 ≤ N) {c : Nat} (hd : mdIs M T A c) : lX14_cheeseOf_28 N M R N 0 = some (if gFst (yC T A c) (2 ^ T 0 5) < 2 ^ T 0 5 then nI (gFst (yC T A c) (2 ^ T 0 5)) else -2, goWI (goWI M 102 1 0) 102 2 (-1)) := by
  have hz := tO_sz hT
  have hp := gP2 (n := T 0 5) (by omega)
  have hp0 := gP2pos (T 0 5)
  refine gUpE (fun n i => lX14_cheeseOf_28 N M R n (nI i)) (2 ^ T 0 5) _ (fun i => gFst (yC T A c) i = i) ?_ ?_ N 0 (Nat.zero_le _) rfl (by omega)
  · intro n s hs hP
    show lX14_cheeseOf_28 _ _ _ _ _ = _ ∨ lX14_cheeseOf_28 _ _ _ _ _ = lX14_cheeseOf_28 _ _ _ _ _ ∧ _
    rw [lX14_cheeseOf_28, m_all hR hM (by omega), gBd, if_pos (nI_le (by omega) (by omega)), mGive hR hM hT hN hd (by omega), gBd, nI_1 s]
    cases e : yC T A c s
    · right
      exact ⟨if_pos (by decide), gFst_go hP e⟩
    · left
      rw [if_neg (by decide), gFst_stop hP hs e, if_pos hs, mGood, gB2]
  · intro n hP
    show lX14_cheeseOf_28 _ _ _ _ _ = _
    rw [lX14_cheeseOf_28, m_all hR hM (by omega), gBd, if_neg (nI_ge (by omega) (by omega)), hP, if_neg (Nat.lt_irrefl _), mGood, gB2]
end cheese
theorem go_cheese : goS_cheese gInv := by
  rintro k G M L R a1 ⟨t, T, A, B, hX⟩ hk
  have hI := iM_b hX.2.2.2.1
  have hC := hX.2.2.1
  by_cases c0 : wi a1 (T 0 16) = true
  · obtain ⟨c, hc, rfl⟩ := wi_t (by omega) c0
    obtain ⟨b, b1, b2, b3, b4⟩ := iM_some hX.2.2.2.1 (i := 0) (j := 16) (by omega)
    have b3' := fun w => tM_w (w := w) b2 b3
    have hz := tO_sz b4
    by_cases c1 : T 0 15 = 1
    · obtain ⟨Md, Mm, d1, d2, d3, m1, m2, m3, inv, dI, dM⟩ := iDay hX b1 b2 b3 b4 hc
      refine ⟨5000, nI (gSum (fun s => (yC T A c s).toNat) (2 ^ T 0 5)), goWI Md 0 8 0, goWI (goWI Mm 102 1 0) 102 2 (-1), ?_, ?_, inv⟩
      · unfold fX12_cheese fX12_isCase
        rw [iR5 hX, tC_cases hC, tC_hasCheese hC, cWithin, c0, if_neg (by decide), c1, if_neg (by decide), d1, gBd, cCount (iR_a hX.2.1.2.2.2.2.1) d3 b4 c1 (by decide) d2, gBd, cAns, gB2]
      · unfold fX14_cheese fX14_refusesCheese
        rw [gNm, m_isCase (by decide) dI, c0, gBd, if_neg (by decide), b1, gBd, tM_0 dM (by decide), c1, if_neg (by decide), gBd, if_neg (by decide), m1, gBd, mCount b1 m3 b4 (by decide) m2, gBd, mGood, gB2]
    · have c1' : T 0 15 = 0 := by omega
      refine ⟨5000, -1, goWI M 0 8 6, _, ?_, ?_, iNo hX (w := 6) (by decide)⟩
      · unfold fX12_cheese fX12_isCase
        rw [iR5 hX, tC_cases hC, tC_hasCheese hC, cWithin, c0, if_neg (by decide), c1', if_pos (by decide), cRef, gB2]
      · unfold fX14_cheese fX14_refusesCheese
        rw [gNm, m_isCase (by decide) (iI hX 6), c0, gBd, if_neg (by decide), b1, gBd, tM_0 (b3' 6) (by decide), c1', if_pos (by decide), gBd, if_pos (by decide), mRef, gB2]
  · rw [Bool.not_eq_true] at c0
    refine ⟨5000, -1, goWI M 0 8 1, _, ?_, ?_, iNo hX (w := 1) (by decide)⟩
    · unfold fX12_cheese fX12_isCase
      rw [iR5 hX, tC_cases hC, cWithin, c0, if_pos (by decide), cRef, gB2]
    · unfold fX14_cheese fX14_refusesCheese
      rw [gNm, m_isCase (by decide) (iI hX 1), c0, gBd, if_pos (by decide), gBd, if_pos (by decide), mRef, gB2]
theorem go_cheeseOf : goS_cheeseOf gInv := by
  rintro k G M L R a1 ⟨t, T, A, B, hX⟩ hk
  have hI := iM_b hX.2.2.2.1
  have hC := hX.2.2.1
  by_cases c0 : wi a1 (T 0 16) = true
  · obtain ⟨c, hc, rfl⟩ := wi_t (by omega) c0
    obtain ⟨b, b1, b2, b3, b4⟩ := iM_some hX.2.2.2.1 (i := 0) (j := 16) (by omega)
    have b3' := fun w => tM_w (w := w) b2 b3
    have hz := tO_sz b4
    by_cases c1 : T 0 15 = 1
    · obtain ⟨Md, Mm, d1, d2, d3, m1, m2, m3, inv, dI, dM⟩ := iDay hX b1 b2 b3 b4 hc
      refine ⟨5000, if gFst (yC T A c) (2 ^ T 0 5) < 2 ^ T 0 5 then nI (gFst (yC T A c) (2 ^ T 0 5)) else -2, goWI Md 0 8 0, goWI (goWI Mm 102 1 0) 102 2 (-1), ?_, ?_, inv⟩
      · unfold fX12_cheeseOf fX12_isCase
        rw [iR5 hX, tC_cases hC, tC_hasCheese hC, cWithin, c0, if_neg (by decide), c1, if_neg (by decide), d1, gBd, cLeast (iR_a hX.2.1.2.2.2.2.1) d3 b4 c1 (by decide) d2, gBd, cAns, gB2]
      · unfold fX14_cheeseOf fX14_refusesCheese
        rw [gNm, m_isCase (by decide) dI, c0, gBd, if_neg (by decide), b1, gBd, tM_0 dM (by decide), c1, if_neg (by decide), gBd, if_neg (by decide), m1, gBd, mLeast b1 m3 b4 (by decide) m2]
    · have c1' : T 0 15 = 0 := by omega
      refine ⟨5000, -1, goWI M 0 8 6, _, ?_, ?_, iNo hX (w := 6) (by decide)⟩
      · unfold fX12_cheeseOf fX12_isCase
        rw [iR5 hX, tC_cases hC, tC_hasCheese hC, cWithin, c0, if_neg (by decide), c1', if_pos (by decide), cRef, gB2]
      · unfold fX14_cheeseOf fX14_refusesCheese
        rw [gNm, m_isCase (by decide) (iI hX 6), c0, gBd, if_neg (by decide), b1, gBd, tM_0 (b3' 6) (by decide), c1', if_pos (by decide), gBd, if_pos (by decide), mRef, gB2]
  · rw [Bool.not_eq_true] at c0
    refine ⟨5000, -1, goWI M 0 8 1, _, ?_, ?_, iNo hX (w := 1) (by decide)⟩
    · unfold fX12_cheeseOf fX12_isCase
      rw [iR5 hX, tC_cases hC, cWithin, c0, if_pos (by decide), cRef, gB2]
    · unfold fX14_cheeseOf fX14_refusesCheese
      rw [gNm, m_isCase (by decide) (iI hX 1), c0, gBd, if_pos (by decide), gBd, if_pos (by decide), mRef, gB2]
theorem go_size : goS_size gInv := by
  rintro k G M L R a1 ⟨t, T, A, B, hX⟩ hk
  refine ⟨5000, goWI M 102 0 0, ?_, iX_0 hX 0⟩
  have hC := hX.2.2.1
  obtain ⟨n, n1, n2, n3, n4⟩ := hX.2.2.2.2.2.1
  obtain ⟨i1, i2, i3, ⟨u, As, Bs, u1, u2, u3, u4, u5⟩, ⟨m, q1, q2, q3, q4, q5⟩, i6⟩ := hX.2.2.2.2.1
  by_cases c2 : wi a1 15 = true
  · obtain ⟨j, hj, rfl⟩ := wi_t (by omega) c2
    have hj15 : j = 0 ∨ j = 1 ∨ j = 2 ∨ j = 3 ∨ j = 4 ∨ j = 5 ∨ j = 6 ∨ j = 7 ∨ j = 8 ∨ j = 9 ∨ j = 10 ∨ j = 11 ∨ j = 12 ∨ j = 13 ∨ j = 14 := by omega
    have hw : j < 14 → fX14_within (nI j) 0 13 = nI 1 := fun h => by
      rw [show fX14_within (nI j) 0 13 = nI (wi (nI j) 14).toNat from mWithin (m := 13) (by decide), wi_n h (by decide)]
      rfl
    rcases hj15 with e | e | e | e | e | e | e | e | e | e | e | e | e | e | e <;> subst e
    · have hc : fX12_size M R (nI 0) = nI (T 0 0) := by
        unfold fX12_size
        rw [if_pos (by decide), iR5 hX, tC_hours hC]
      rw [hc]
      unfold fX14_size
      rw [gNm, if_neg (by decide), hw (by decide), if_neg (by decide)]
      rcases hX.2.2.2.1 with ⟨h1, h2⟩ | ⟨b, b1, b2, b3, b4⟩
      · rw [if_pos h1, h2]; rfl
      · rw [b1, if_neg (by simp), if_pos (by decide), gBd, tM_0 (tM_fr b3 (fun r hr => goWI_ne (by omega)) : tM (goWI M 102 0 0) b T) (by decide)]
    · have hc : fX12_size M R (nI 1) = nI (T 0 1) := by
        unfold fX12_size
        rw [if_neg (by decide), if_pos (by decide), iR5 hX, tC_plants hC]
      rw [hc]
      unfold fX14_size
      rw [gNm, if_neg (by decide), hw (by decide), if_neg (by decide)]
      rcases hX.2.2.2.1 with ⟨h1, h2⟩ | ⟨b, b1, b2, b3, b4⟩
      · rw [if_pos h1, h2]; rfl
      · rw [b1, if_neg (by simp), if_neg (by decide), if_pos (by decide), gBd, tM_0 (tM_fr b3 (fun r hr => goWI_ne (by omega)) : tM (goWI M 102 0 0) b T) (by decide)]
    · have hc : fX12_size M R (nI 2) = nI (T 0 2) := by
        unfold fX12_size
        rw [if_neg (by decide), if_neg (by decide), if_pos (by decide), iR5 hX, tC_places hC]
      rw [hc]
      unfold fX14_size
      rw [gNm, if_neg (by decide), hw (by decide), if_neg (by decide)]
      rcases hX.2.2.2.1 with ⟨h1, h2⟩ | ⟨b, b1, b2, b3, b4⟩
      · rw [if_pos h1, h2]; rfl
      · rw [b1, if_neg (by simp), if_neg (by decide), if_neg (by decide), if_pos (by decide), gBd, tM_0 (tM_fr b3 (fun r hr => goWI_ne (by omega)) : tM (goWI M 102 0 0) b T) (by decide)]
    · have hc : fX12_size M R (nI 3) = nI (T 0 3) := by
        unfold fX12_size
        rw [if_neg (by decide), if_neg (by decide), if_neg (by decide), if_pos (by decide), iR5 hX, tC_paths hC]
      rw [hc]
      unfold fX14_size
      rw [gNm, if_neg (by decide), hw (by decide), if_neg (by decide)]
      rcases hX.2.2.2.1 with ⟨h1, h2⟩ | ⟨b, b1, b2, b3, b4⟩
      · rw [if_pos h1, h2]; rfl
      · rw [b1, if_neg (by simp), if_neg (by decide), if_neg (by decide), if_neg (by decide), if_pos (by decide), gBd, tM_0 (tM_fr b3 (fun r hr => goWI_ne (by omega)) : tM (goWI M 102 0 0) b T) (by decide)]
    · have hc : fX12_size M R (nI 4) = nI (T 0 4) := by
        unfold fX12_size
        rw [if_neg (by decide), if_neg (by decide), if_neg (by decide), if_neg (by decide), if_pos (by decide), iR5 hX, tC_people hC]
      rw [hc]
      unfold fX14_size
      rw [gNm, if_neg (by decide), hw (by decide), if_neg (by decide)]
      rcases hX.2.2.2.1 with ⟨h1, h2⟩ | ⟨b, b1, b2, b3, b4⟩
      · rw [if_pos h1, h2]; rfl
      · rw [b1, if_neg (by simp), if_neg (by decide), if_neg (by decide), if_neg (by decide), if_neg (by decide), if_pos (by decide), gBd, tM_0 (tM_fr b3 (fun r hr => goWI_ne (by omega)) : tM (goWI M 102 0 0) b T) (by decide)]
    · have hc : fX12_size M R (nI 5) = nI (T 0 5) := by
        unfold fX12_size
        rw [if_neg (by decide), if_neg (by decide), if_neg (by decide), if_neg (by decide), if_neg (by decide), if_pos (by decide), iR5 hX, (tC_herd hC).1]
      rw [hc]
      unfold fX14_size
      rw [gNm, if_neg (by decide), hw (by decide), if_neg (by decide)]
      rcases hX.2.2.2.1 with ⟨h1, h2⟩ | ⟨b, b1, b2, b3, b4⟩
      · rw [if_pos h1, h2]; rfl
      · rw [b1, if_neg (by simp), if_neg (by decide), if_neg (by decide), if_neg (by decide), if_neg (by decide), if_neg (by decide), if_pos (by decide), gBd, tM_0 (tM_fr b3 (fun r hr => goWI_ne (by omega)) : tM (goWI M 102 0 0) b T) (by decide)]
    · have hc : fX12_size M R (nI 6) = nI (T 0 7) := by
        unfold fX12_size
        rw [if_neg (by decide), if_neg (by decide), if_neg (by decide), if_neg (by decide), if_neg (by decide), if_neg (by decide), if_pos (by decide), iR5 hX, (tC_herd hC).2]
      rw [hc]
      unfold fX14_size
      rw [gNm, if_neg (by decide), hw (by decide), if_neg (by decide)]
      rcases hX.2.2.2.1 with ⟨h1, h2⟩ | ⟨b, b1, b2, b3, b4⟩
      · rw [if_pos h1, h2]; rfl
      · rw [b1, if_neg (by simp), if_neg (by decide), if_neg (by decide), if_neg (by decide), if_neg (by decide), if_neg (by decide), if_neg (by decide), if_pos (by decide), gBd, tM_0 (tM_fr b3 (fun r hr => goWI_ne (by omega)) : tM (goWI M 102 0 0) b T) (by decide)]
    · have hc : fX12_size M R (nI 7) = nI (T 0 8) := by
        unfold fX12_size
        rw [if_neg (by decide), if_neg (by decide), if_neg (by decide), if_neg (by decide), if_neg (by decide), if_neg (by decide), if_neg (by decide), if_pos (by decide), iR5 hX, (tC_law hC).1]
      rw [hc]
      unfold fX14_size
      rw [gNm, if_neg (by decide), hw (by decide), if_neg (by decide)]
      rcases hX.2.2.2.1 with ⟨h1, h2⟩ | ⟨b, b1, b2, b3, b4⟩
      · rw [if_pos h1, h2]; rfl
      · rw [b1, if_neg (by simp), if_neg (by decide), if_neg (by decide), if_neg (by decide), if_neg (by decide), if_neg (by decide), if_neg (by decide), if_neg (by decide), if_pos (by decide), gBd, tM_0 (tM_fr b3 (fun r hr => goWI_ne (by omega)) : tM (goWI M 102 0 0) b T) (by decide)]
    · have hc : fX12_size M R (nI 8) = nI (T 0 9) := by
        unfold fX12_size
        rw [if_neg (by decide), if_neg (by decide), if_neg (by decide), if_neg (by decide), if_neg (by decide), if_neg (by decide), if_neg (by decide), if_neg (by decide), if_pos (by decide), iR5 hX, (tC_law hC).2.2.1]
      rw [hc]
      unfold fX14_size
      rw [gNm, if_neg (by decide), hw (by decide), if_neg (by decide)]
      rcases hX.2.2.2.1 with ⟨h1, h2⟩ | ⟨b, b1, b2, b3, b4⟩
      · rw [if_pos h1, h2]; rfl
      · rw [b1, if_neg (by simp), if_neg (by decide), if_neg (by decide), if_neg (by decide), if_neg (by decide), if_neg (by decide), if_neg (by decide), if_neg (by decide), if_neg (by decide), if_pos (by decide), gBd, tM_0 (tM_fr b3 (fun r hr => goWI_ne (by omega)) : tM (goWI M 102 0 0) b T) (by decide)]
    · have hc : fX12_size M R (nI 9) = nI (T 0 10) := by
        unfold fX12_size
        rw [if_neg (by decide), if_neg (by decide), if_neg (by decide), if_neg (by decide), if_neg (by decide), if_neg (by decide), if_neg (by decide), if_neg (by decide), if_neg (by decide), if_pos (by decide), iR5 hX, (tC_law hC).2.2.2]
      rw [hc]
      unfold fX14_size
      rw [gNm, if_neg (by decide), hw (by decide), if_neg (by decide)]
      rcases hX.2.2.2.1 with ⟨h1, h2⟩ | ⟨b, b1, b2, b3, b4⟩
      · rw [if_pos h1, h2]; rfl
      · rw [b1, if_neg (by simp), if_neg (by decide), if_neg (by decide), if_neg (by decide), if_neg (by decide), if_neg (by decide), if_neg (by decide), if_neg (by decide), if_neg (by decide), if_neg (by decide), if_pos (by decide), gBd, tM_0 (tM_fr b3 (fun r hr => goWI_ne (by omega)) : tM (goWI M 102 0 0) b T) (by decide)]
    · have hc : fX12_size M R (nI 10) = nI (T 0 11) := by
        unfold fX12_size
        rw [if_neg (by decide), if_neg (by decide), if_neg (by decide), if_neg (by decide), if_neg (by decide), if_neg (by decide), if_neg (by decide), if_neg (by decide), if_neg (by decide), if_neg (by decide), if_pos (by decide), iR5 hX, tC_courts hC]
      rw [hc]
      unfold fX14_size
      rw [gNm, if_neg (by decide), hw (by decide), if_neg (by decide)]
      rcases hX.2.2.2.1 with ⟨h1, h2⟩ | ⟨b, b1, b2, b3, b4⟩
      · rw [if_pos h1, h2]; rfl
      · rw [b1, if_neg (by simp), if_neg (by decide), if_neg (by decide), if_neg (by decide), if_neg (by decide), if_neg (by decide), if_neg (by decide), if_neg (by decide), if_neg (by decide), if_neg (by decide), if_neg (by decide), if_pos (by decide), gBd, tM_0 (tM_fr b3 (fun r hr => goWI_ne (by omega)) : tM (goWI M 102 0 0) b T) (by decide)]
    · have hc : fX12_size M R (nI 11) = nI (T 0 16) := by
        unfold fX12_size
        rw [if_neg (by decide), if_neg (by decide), if_neg (by decide), if_neg (by decide), if_neg (by decide), if_neg (by decide), if_neg (by decide), if_neg (by decide), if_neg (by decide), if_neg (by decide), if_neg (by decide), if_pos (by decide), iR5 hX, tC_cases hC]
      rw [hc]
      unfold fX14_size
      rw [gNm, if_neg (by decide), hw (by decide), if_neg (by decide)]
      rcases hX.2.2.2.1 with ⟨h1, h2⟩ | ⟨b, b1, b2, b3, b4⟩
      · rw [if_pos h1, h2]; rfl
      · have hz := tO_sz b4
        rw [b1, if_neg (by simp), if_neg (by decide), if_neg (by decide), if_neg (by decide), if_neg (by decide), if_neg (by decide), if_neg (by decide), if_neg (by decide), if_neg (by decide), if_neg (by decide), if_neg (by decide), if_neg (by decide), if_pos (by decide), gBd, mCases (tM_fr b3 (fun r hr => goWI_ne (by omega)) : tM (goWI M 102 0 0) b T) (by omega) (tO_stories b4) (by decide), gBd, hz.2.2.2.2.2.2.2.2.2.2.2.2.2.2.2.2]
    · have hc : fX12_size M R (nI 12) = nI (u) := by
        unfold fX12_size
        rw [if_neg (by decide), if_neg (by decide), if_neg (by decide), if_neg (by decide), if_neg (by decide), if_neg (by decide), if_neg (by decide), if_neg (by decide), if_neg (by decide), if_neg (by decide), if_neg (by decide), if_neg (by decide), if_pos (by decide), u2]
      rw [hc]
      unfold fX14_size
      rw [gNm, if_neg (by decide), hw (by decide), if_neg (by decide)]
      rcases hX.2.2.2.1 with ⟨h1, h2⟩ | ⟨b, b1, b2, b3, b4⟩
      · rw [if_pos h1, u4 h1]; rfl
      · rw [b1, if_neg (by simp), if_neg (by decide), if_neg (by decide), if_neg (by decide), if_neg (by decide), if_neg (by decide), if_neg (by decide), if_neg (by decide), if_neg (by decide), if_neg (by decide), if_neg (by decide), if_neg (by decide), if_neg (by decide), if_pos (by decide), gWI_nk (by decide), u3]
    · have hc : fX12_size M R (nI 13) = nI (m) := by
        unfold fX12_size
        rw [if_neg (by decide), if_neg (by decide), if_neg (by decide), if_neg (by decide), if_neg (by decide), if_neg (by decide), if_neg (by decide), if_neg (by decide), if_neg (by decide), if_neg (by decide), if_neg (by decide), if_neg (by decide), if_neg (by decide), if_pos (by decide), q2]
      rw [hc]
      unfold fX14_size
      rw [gNm, if_neg (by decide), hw (by decide), if_neg (by decide)]
      rcases hX.2.2.2.1 with ⟨h1, h2⟩ | ⟨b, b1, b2, b3, b4⟩
      · rw [if_pos h1, q4 h1]; rfl
      · rw [b1, if_neg (by simp), if_neg (by decide), if_neg (by decide), if_neg (by decide), if_neg (by decide), if_neg (by decide), if_neg (by decide), if_neg (by decide), if_neg (by decide), if_neg (by decide), if_neg (by decide), if_neg (by decide), if_neg (by decide), if_neg (by decide), gWI_nk (by decide), q3]
    · have hc : fX12_size M R (nI 14) = nI (n) := by
        unfold fX12_size
        rw [if_neg (by decide), if_neg (by decide), if_neg (by decide), if_neg (by decide), if_neg (by decide), if_neg (by decide), if_neg (by decide), if_neg (by decide), if_neg (by decide), if_neg (by decide), if_neg (by decide), if_neg (by decide), if_neg (by decide), if_neg (by decide), if_pos (by decide), n2]
      rw [hc]
      unfold fX14_size
      rw [gNm, if_pos (by decide), gWI_nk (by decide), n3]
  · rw [Bool.not_eq_true] at c2
    have hne : ∀ j, j < 15 → ¬ a1 = nI j := fun j hj e => by
      rw [e, wi_n hj (by decide)] at c2
      cases c2
    have hw : fX14_within a1 0 13 = nI 0 := by
      rw [show fX14_within a1 0 13 = nI (wi a1 14).toNat from mWithin (m := 13) (by decide)]
      cases e : wi a1 14
      · rfl
      · obtain ⟨j, hj, e2⟩ := wi_t (by decide) e
        exact absurd e2 (hne j (by omega))
    unfold fX14_size fX12_size
    rw [gNm, if_neg (show ¬ a1 = 14 from hne 14 (by decide)), hw, if_pos (by decide), if_neg (show ¬ a1 = 0 from hne 0 (by decide)), if_neg (show ¬ a1 = 1 from hne 1 (by decide)), if_neg (show ¬ a1 = 2 from hne 2 (by decide)), if_neg (show ¬ a1 = 3 from hne 3 (by decide)), if_neg (show ¬ a1 = 4 from hne 4 (by decide)), if_neg (show ¬ a1 = 5 from hne 5 (by decide)), if_neg (show ¬ a1 = 6 from hne 6 (by decide)), if_neg (show ¬ a1 = 7 from hne 7 (by decide)), if_neg (show ¬ a1 = 8 from hne 8 (by decide)), if_neg (show ¬ a1 = 9 from hne 9 (by decide)), if_neg (show ¬ a1 = 10 from hne 10 (by decide)), if_neg (show ¬ a1 = 11 from hne 11 (by decide)), if_neg (show ¬ a1 = 12 from hne 12 (by decide)), if_neg (show ¬ a1 = 13 from hne 13 (by decide)), if_neg (show ¬ a1 = 14 from hne 14 (by decide))]
