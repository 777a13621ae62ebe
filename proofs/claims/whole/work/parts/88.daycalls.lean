/-! CALLS that tell of a day -/
theorem cPlaceIn {M : goMI} {T : tH} {t c p h : Nat} (hC : tC M t T) (hT : tOk T) (hp : p < T 0 4) (hc : c < 2 ^ 31) (hh : h < 12) : fX6_placeIn M t (nI c) (nI p) (nI h) = some (if T 4 p = 0 then -1 else nI (tPl T c p h)) := by
  have hz := tO_sz hT
  unfold fX6_placeIn
  rw [cStoryIn hC (by omega) (tO_stories hT) hp hc, gBd]
  by_cases c0 : T 4 p = 0
  · rw [if_pos c0, if_pos c0, if_pos (by decide)]
  · have hst : tSt T c p < T 4 p := Nat.mod_lt _ (by omega)
    have := tO_stories hT p (by omega)
    rw [if_neg c0, if_neg c0, if_neg (nI_pos (by omega)), cToldPlace hC hT (by omega) hst hh, gBd]
    rfl
def yM (T : tH) (A : Nat → Nat) (c g p n : Nat) : Nat := gSum (fun h => if 0 < T 4 p ∧ yS T A c h g = tPl T c p h then 1 else 0) n
/-- whether goats give the cheese -/
def yCs (T : tH) (A : Nat → Nat) (c s q n : Nat) : Nat := gSum (fun g => (s.testBit g).toNat * yE T A c g q) n
def yC (T : tH) (A : Nat → Nat) (c s : Nat) : Bool := decide (gFst (fun q => !decide (yCs T A c s q (T 0 5) = T 22 q)) (T 0 1) = T 0 1)
section day2
variable {M : goMI} {R : goMR} {T : tH} {t b N : Nat} {A : Nat → Nat}
theorem tPl_lt (hT : tOk T) {c p h : Nat} (hp : p < 4) (hh : h < 12) (h0 : 0 < T 4 p) : tPl T c p h < T 0 2 := tO_story hT p _ h hp (Nat.mod_lt _ h0) hh
theorem cMet (hR : goRr R 0 5 = t) (hC : tC M t T) (hT : tOk T) (hN : 5000 ≤ N) {c g p : Nat} (hd : dayIs M 78 T A c) (hc : c < 2 ^ 31) (hg : g < T 0 5) (hp : p < T 0 4) : lX12_met_46 (nI c) (nI g) (nI p) M R N 0 0 = some (nI (yM T A c g p (T 0 0))) := by
  have hz := tO_sz hT
  refine gUp (fun n i (s : Int32) => lX12_met_46 (nI c) (nI g) (nI p) M R n s (nI i)) (fun i => nI (yM T A c g p i)) (T 0 0) _ ?_ ?_ N 0 (Nat.zero_le _) (by omega)
  · intro n h hh
    show lX12_met_46 _ _ _ _ _ _ _ _ = lX12_met_46 _ _ _ _ _ _ _ _
    have e1 : M 83 (12 * g + h) = nI (yS T A c h g) := (hd.2.1 g h hg hh).1
    have hs := yS_lt (A := A) (c := c) (h := h) (g := g) hT hg
    rw [lX12_met_46, hR, tC_hours hC, if_pos (nI_lt hh (by omega)), gL_12, gM_12, nI_add, gRd (by omega), gBd, e1, cPlaceIn hC hT hp hc (by omega), gBd, gNm, nI_1]
    have e2 : yM T A c g p (h + 1) = yM T A c g p h + (if 0 < T 4 p ∧ yS T A c h g = tPl T c p h then 1 else 0) := rfl
    rw [e2]
    by_cases c0 : T 4 p = 0
    · rw [if_pos c0, if_neg (gI_nm1 (by omega)), if_neg (by omega), Nat.add_zero, nI_1]
    · have hpl := tPl_lt (c := c) (h := h) hT (show p < 4 by omega) (by omega) (by omega)
      rw [if_neg c0]
      by_cases c1 : yS T A c h g = tPl T c p h
      · rw [if_pos (by rw [c1]), if_pos ⟨by omega, c1⟩, nI_1]
      · rw [if_neg (fun e => c1 ((nI_eq (by omega) (by omega)).mp e)), if_neg (fun e => c1 e.2), Nat.add_zero, nI_1]
  · intro n
    show lX12_met_46 _ _ _ _ _ _ _ _ = _
    rw [lX12_met_46, hR, tC_hours hC, if_neg (nI_nlt (Nat.le_refl _) (by omega))]
theorem mMet (hR : R 102 3 = some b) (hM : tM M b T) (hT : tOk T) (hN : 5000 ≤ N) {c g p : Nat} (hd : mdIs M T A c) (hc : c < 2 ^ 31) (hg : g < T 0 5) (hp : p < T 0 4) : lX14_met_46 N (nI c) (nI g) (nI p) M R N 0 0 = some (nI (yM T A c g p (T 0 0))) := by
  have hz := tO_sz hT
  refine gUp (fun n i (s : Int32) => lX14_met_46 N (nI c) (nI g) (nI p) M R n s (nI i)) (fun i => nI (yM T A c g p i)) (T 0 0) _ ?_ ?_ N 0 (Nat.zero_le _) (by omega)
  · intro n h hh
    show lX14_met_46 _ _ _ _ _ _ _ _ _ = lX14_met_46 _ _ _ _ _ _ _ _ _
    have e1 : M 108 (12 * g + h) = nI (yS T A c h g) := (hd.2.1 g h hg hh).1
    have hs := yS_lt (A := A) (c := c) (h := h) (g := g) hT hg
    rw [lX14_met_46, hR, gBd, tM_0 hM (by decide), if_pos (nI_lt hh (by omega)), gBd, mPlaceIn hM (by omega) (tO_stories hT) hN hp hc (by omega), gBd, gL_12, gN_12, nI_add, gRd (by omega), gBd, e1, gNm, gNm, nI_1]
    have e2 : yM T A c g p (h + 1) = yM T A c g p h + (if 0 < T 4 p ∧ yS T A c h g = tPl T c p h then 1 else 0) := rfl
    rw [e2]
    by_cases c0 : T 4 p = 0
    · rw [if_pos c0, if_neg (fun e => gI_nm2 (by omega) e.symm), if_neg (by omega), gL_0, nI_add]
    · have hpl := tPl_lt (c := c) (h := h) hT (show p < 4 by omega) (by omega) (by omega)
      rw [if_neg c0]
      by_cases c1 : yS T A c h g = tPl T c p h
      · rw [if_pos (by rw [c1]), if_pos ⟨by omega, c1⟩, gL_1, nI_add]
      · rw [if_neg (fun e => c1 ((nI_eq (by omega) (by omega)).mp e).symm), if_neg (fun e => c1 e.2), gL_0, nI_add]
  · intro n
    show lX14_met_46 _ _ _ _ _ _ _ _ _ = _
    rw [lX14_met_46, hR, gBd, tM_0 hM (by decide), if_neg (nI_nlt (Nat.le_refl _) (by omega))]
theorem yCs_le (hT : tOk T) {c s q n : Nat} (hn : n ≤ T 0 5) : yCs T A c s q n ≤ 144 := by
  have hz := tO_sz hT
  have h1 : yCs T A c s q n ≤ n * 24 := gSum_le (fun g hg => by
    have h1 := yE_le (A := A) (c := c) (g := g) (k := q) hT (by omega)
    show (s.testBit g).toNat * yE T A c g q ≤ 24
    cases s.testBit g
    · simp
    · simpa using h1)
  omega
theorem cGive (hR : goRr R 78 1 = t) (hC : tC M t T) (hT : tOk T) (h15 : T 0 15 = 1) (hN : 5000 ≤ N) {c s : Nat} (hd : dayIs M 78 T A c) (hs : s < 64) : fX3_giveCheese N M R 78 (nI s) = some (nI (yC T A c s).toNat) := by
  have hz := tO_sz hT
  have hsum : ∀ q, q < T 0 1 → lX3_giveCheese_18 (nI s) (nI q) M R 78 N 0 0 = some (nI (yCs T A c s q (T 0 5))) := by
    intro q hq
    refine gUp (fun n i (x : Int32) => lX3_giveCheese_18 (nI s) (nI q) M R 78 n x (nI i)) (fun i => nI (yCs T A c s q i)) (T 0 5) _ ?_ ?_ N 0 (Nat.zero_le _) (by omega)
    · intro n g hg
      show lX3_giveCheese_18 _ _ _ _ _ _ _ _ = lX3_giveCheese_18 _ _ _ _ _ _ _ _
      have e1 : M 85 (4 * g + q) = nI (yE T A c g q) := hd.2.2.1 g q hg (by omega)
      rw [lX3_giveCheese_18, hR, (tC_herd hC).1, if_pos (nI_lt hg (by omega)), gL_4, gM_4, nI_add, gRd (by omega), gBd, e1, gI_bit (by omega) (by omega), pk_mul, nI_add, gNm, nI_1]
      rfl
    · intro n
      show lX3_giveCheese_18 _ _ _ _ _ _ _ _ = _
      rw [lX3_giveCheese_18, hR, (tC_herd hC).1, if_neg (nI_nlt (Nat.le_refl _) (by omega))]
  unfold fX3_giveCheese yC
  refine gUpE (fun n i => lX3_giveCheese_2 N (nI s) M R 78 n (nI i)) (T 0 1) _ (fun i => gFst (fun q => !decide (yCs T A c s q (T 0 5) = T 22 q)) i = i) ?_ ?_ N 0 (Nat.zero_le _) rfl (by omega)
  · intro n q hq hP
    show lX3_giveCheese_2 _ _ _ _ _ _ _ = _ ∨ lX3_giveCheese_2 _ _ _ _ _ _ _ = lX3_giveCheese_2 _ _ _ _ _ _ _ ∧ _
    have e2 := tC_cheeses hC q h15 hq
    have o22 := tO_cheese hT q (by omega)
    have le := yCs_le (A := A) (c := c) (s := s) (q := q) hT (Nat.le_refl _)
    rw [lX3_giveCheese_2, hR, tC_plants hC, if_pos (nI_lt hq (by omega)), hsum q hq, gBd, gRd (by omega), gBd, e2, nI_1]
    by_cases c1 : yCs T A c s q (T 0 5) = T 22 q
    · right
      exact ⟨if_pos (by rw [c1]), gFst_go hP (by simp [c1])⟩
    · left
      rw [if_neg (fun e => c1 ((nI_eq (by omega) (by omega)).mp e)), gFst_stop hP hq (by simp [c1]), decide_eq_false (by omega)]
      rfl
  · intro n hP
    show lX3_giveCheese_2 _ _ _ _ _ _ _ = _
    rw [lX3_giveCheese_2, hR, tC_plants hC, if_neg (nI_nlt (Nat.le_refl _) (by omega)), hP, decide_eq_true rfl]
    rfl
theorem mGive (hR : R 102 3 = some b) (hM : tM M b T) (hT : tOk T) (hN : 5000 ≤ N) {c s : Nat} (hd : mdIs M T A c) (hs : s < 64) : fX14_isCheese N M R (nI s) = some (nI (yC T A c s).toNat) := by
  have hz := tO_sz hT
  have hsum : ∀ q, q < T 0 1 → lX14_isCheese_18 N (nI s) (nI q) M R N 0 0 = some (nI (yCs T A c s q (T 0 5))) := by
    intro q hq
    refine gUp (fun n i (x : Int32) => lX14_isCheese_18 N (nI s) (nI q) M R n x (nI i)) (fun i => nI (yCs T A c s q i)) (T 0 5) _ ?_ ?_ N 0 (Nat.zero_le _) (by omega)
    · intro n g hg
      show lX14_isCheese_18 _ _ _ _ _ _ _ _ = lX14_isCheese_18 _ _ _ _ _ _ _ _
      have e1 := mAteOf (k := q) hR hM hT hN hd hg (by omega)
      have e2 : yCs T A c s q (g + 1) = yCs T A c s q g + (s.testBit g).toNat * yE T A c g q := rfl
      rw [lX14_isCheese_18, hR, gBd, tM_0 hM (by decide), if_pos (nI_lt hg (by omega)), gI_bit14 (by omega) (by omega), nI_1, e2]
      cases s.testBit g
      · rw [if_pos (by decide), gBd, gNm, gL_0, nI_add]; simp
      · rw [if_neg (by decide), e1, gBd, gBd, gNm, nI_add]; simp
    · intro n
      show lX14_isCheese_18 _ _ _ _ _ _ _ _ = _
      rw [lX14_isCheese_18, hR, gBd, tM_0 hM (by decide), if_neg (nI_nlt (Nat.le_refl _) (by omega))]
  unfold fX14_isCheese yC
  refine gUpE (fun n i => lX14_isCheese_2 N (nI s) M R n (nI i)) (T 0 1) _ (fun i => gFst (fun q => !decide (yCs T A c s q (T 0 5) = T 22 q)) i = i) ?_ ?_ N 0 (Nat.zero_le _) rfl (by omega)
  · intro n q hq hP
    show lX14_isCheese_2 _ _ _ _ _ _ = _ ∨ lX14_isCheese_2 _ _ _ _ _ _ = lX14_isCheese_2 _ _ _ _ _ _ ∧ _
    have o22 := tO_cheese hT q (by omega)
    have le := yCs_le (A := A) (c := c) (s := s) (q := q) hT (Nat.le_refl _)
    rw [lX14_isCheese_2, hR, gBd, tM_0 hM (by decide), if_pos (nI_lt hq (by omega)), hsum q hq, gBd, gBd, gRd (by omega), gBd, tM_22 hM (by omega), nI_1]
    by_cases c1 : yCs T A c s q (T 0 5) = T 22 q
    · right
      exact ⟨if_pos (by rw [c1]), gFst_go hP (by simp [c1])⟩
    · left
      rw [if_neg (fun e => c1 ((nI_eq (by omega) (by omega)).mp e)), gFst_stop hP hq (by simp [c1]), decide_eq_false (by omega)]
      rfl
  · intro n hP
    show lX14_isCheese_2 _ _ _ _ _ _ = _
    rw [lX14_isCheese_2, hR, gBd, tM_0 hM (by decide), if_neg (nI_nlt (Nat.le_refl _) (by omega)), hP, decide_eq_true rfl]
    rfl
end day2
theorem go_at : goS_at gInv := by
  rintro k G M L R a1 a2 a3 ⟨t, T, A, B, hX⟩ hk
  have hI := iM_b hX.2.2.2.1
  have hC := hX.2.2.1
  by_cases c0 : wi a1 (T 0 16) = true
  · obtain ⟨c, hc, rfl⟩ := wi_t (by omega) c0
    obtain ⟨b, b1, b2, b3, b4⟩ := iM_some hX.2.2.2.1 (i := 0) (j := 16) (by omega)
    have b3' := fun w => tM_w (w := w) b2 b3
    have hz := tO_sz b4
    by_cases c1 : wi a2 (T 0 5) = true
    · obtain ⟨g, hg, rfl⟩ := wi_t (by omega) c1
      by_cases c2 : wi a3 (T 0 0) = true
      · obtain ⟨h, hh, rfl⟩ := wi_t (by omega) c2
        skip
        obtain ⟨Md, Mm, d1, d2, d3, m1, m2, m3, inv, dI, dM⟩ := iDay hX b1 b2 b3 b4 hc
        refine ⟨5000, nI (yS T A c h g), goWI Md 0 8 0, goWI (goWI Mm 102 1 0) 102 2 (-1), ?_, ?_, inv⟩
        · unfold fX12_at fX12_isCase fX12_isGoat fX12_isHour
          rw [iR5 hX, tC_cases hC, (tC_herd hC).1, tC_hours hC, cWithin, cWithin, cWithin, c0, c1, c2, if_neg (by decide), if_neg (by decide), if_neg (by decide), d1, gBd, gL_12, gM_12, nI_add, gRd (by omega), gBd, show Md 83 (12 * g + h) = nI (yS T A c h g) from (d2.2.1 g h hg hh).1, cAns, gB2]
        · unfold fX14_at
          rw [gNm, m_isCase (by decide) (dI), m_isGoat (dI), m_isHour b1 (dM), c0, c1, c2, gBd, if_neg (by decide), gBd, if_neg (by decide), gBd, if_neg (by decide), m1, gBd, gL_12, gN_12, nI_add, gRd (by omega), gBd, show Mm 108 (12 * g + h) = nI (yS T A c h g) from (m2.2.1 g h hg hh).1, mGood, gB2]
      · rw [Bool.not_eq_true] at c2
        refine ⟨5000, -1, goWI M 0 8 2, _, ?_, ?_, iNo hX (w := 2) (by decide)⟩
        · unfold fX12_at fX12_isCase fX12_isGoat fX12_isHour
          rw [iR5 hX, tC_cases hC, (tC_herd hC).1, tC_hours hC, cWithin, cWithin, cWithin, c0, c1, c2, if_neg (by decide), if_neg (by decide), if_pos (by decide), cRef, gB2]
        · unfold fX14_at
          rw [gNm, m_isCase (by decide) (iI hX 2), m_isGoat (iI hX 2), m_isHour b1 (b3' 2), c0, c1, c2, gBd, if_neg (by decide), gBd, if_neg (by decide), gBd, if_pos (by decide), mRef, gB2]
    · rw [Bool.not_eq_true] at c1
      refine ⟨5000, -1, goWI M 0 8 1, _, ?_, ?_, iNo hX (w := 1) (by decide)⟩
      · unfold fX12_at fX12_isCase fX12_isGoat fX12_isHour
        rw [iR5 hX, tC_cases hC, (tC_herd hC).1, cWithin, cWithin, c0, c1, if_neg (by decide), if_pos (by decide), cRef, gB2]
      · unfold fX14_at
        rw [gNm, m_isCase (by decide) (iI hX 1), m_isGoat (iI hX 1), c0, c1, gBd, if_neg (by decide), gBd, if_pos (by decide), mRef, gB2]
  · rw [Bool.not_eq_true] at c0
    refine ⟨5000, -1, goWI M 0 8 1, _, ?_, ?_, iNo hX (w := 1) (by decide)⟩
    · unfold fX12_at fX12_isCase fX12_isGoat fX12_isHour
      rw [iR5 hX, tC_cases hC, cWithin, c0, if_pos (by decide), cRef, gB2]
    · unfold fX14_at
      rw [gNm, m_isCase (by decide) (iI hX 1), c0, gBd, if_pos (by decide), mRef, gB2]
theorem go_ate : goS_ate gInv := by
  rintro k G M L R a1 a2 a3 ⟨t, T, A, B, hX⟩ hk
  have hI := iM_b hX.2.2.2.1
  have hC := hX.2.2.1
  by_cases c0 : wi a1 (T 0 16) = true
  · obtain ⟨c, hc, rfl⟩ := wi_t (by omega) c0
    obtain ⟨b, b1, b2, b3, b4⟩ := iM_some hX.2.2.2.1 (i := 0) (j := 16) (by omega)
    have b3' := fun w => tM_w (w := w) b2 b3
    have hz := tO_sz b4
    by_cases c1 : wi a2 (T 0 5) = true
    · obtain ⟨g, hg, rfl⟩ := wi_t (by omega) c1
      by_cases c2 : wi a3 (T 0 1) = true
      · obtain ⟨q, hq, rfl⟩ := wi_t (by omega) c2
        skip
        obtain ⟨Md, Mm, d1, d2, d3, m1, m2, m3, inv, dI, dM⟩ := iDay hX b1 b2 b3 b4 hc
        refine ⟨5000, nI (yE T A c g q), goWI Md 0 8 0, goWI (goWI Mm 102 1 0) 102 2 (-1), ?_, ?_, inv⟩
        · unfold fX12_ate fX12_isCase fX12_isGoat fX12_isPlant
          rw [iR5 hX, tC_cases hC, (tC_herd hC).1, tC_plants hC, cWithin, cWithin, cWithin, c0, c1, c2, if_neg (by decide), if_neg (by decide), if_neg (by decide), d1, gBd, gL_4, gM_4, nI_add, gRd (by omega), gBd, show Md 85 (4 * g + q) = nI (yE T A c g q) from d2.2.2.1 g q hg (by omega), cAns, gB2]
        · unfold fX14_ate
          rw [gNm, m_isCase (by decide) (dI), m_isGoat (dI), m_isPlant (dI), c0, c1, c2, gBd, if_neg (by decide), gBd, if_neg (by decide), gBd, if_neg (by decide), m1, gBd, mAteOf b1 m3 b4 (by decide) m2 hg (show q < 4 by omega), gBd, mGood, gB2]
      · rw [Bool.not_eq_true] at c2
        refine ⟨5000, -1, goWI M 0 8 1, _, ?_, ?_, iNo hX (w := 1) (by decide)⟩
        · unfold fX12_ate fX12_isCase fX12_isGoat fX12_isPlant
          rw [iR5 hX, tC_cases hC, (tC_herd hC).1, tC_plants hC, cWithin, cWithin, cWithin, c0, c1, c2, if_neg (by decide), if_neg (by decide), if_pos (by decide), cRef, gB2]
        · unfold fX14_ate
          rw [gNm, m_isCase (by decide) (iI hX 1), m_isGoat (iI hX 1), m_isPlant (iI hX 1), c0, c1, c2, gBd, if_neg (by decide), gBd, if_neg (by decide), gBd, if_pos (by decide), mRef, gB2]
    · rw [Bool.not_eq_true] at c1
      refine ⟨5000, -1, goWI M 0 8 1, _, ?_, ?_, iNo hX (w := 1) (by decide)⟩
      · unfold fX12_ate fX12_isCase fX12_isGoat fX12_isPlant
        rw [iR5 hX, tC_cases hC, (tC_herd hC).1, cWithin, cWithin, c0, c1, if_neg (by decide), if_pos (by decide), cRef, gB2]
      · unfold fX14_ate
        rw [gNm, m_isCase (by decide) (iI hX 1), m_isGoat (iI hX 1), c0, c1, gBd, if_neg (by decide), gBd, if_pos (by decide), mRef, gB2]
  · rw [Bool.not_eq_true] at c0
    refine ⟨5000, -1, goWI M 0 8 1, _, ?_, ?_, iNo hX (w := 1) (by decide)⟩
    · unfold fX12_ate fX12_isCase fX12_isGoat fX12_isPlant
      rw [iR5 hX, tC_cases hC, cWithin, c0, if_pos (by decide), cRef, gB2]
    · unfold fX14_ate
      rw [gNm, m_isCase (by decide) (iI hX 1), c0, gBd, if_pos (by decide), mRef, gB2]
theorem go_drops : goS_drops gInv := by
  rintro k G M L R a1 a2 a3 a4 ⟨t, T, A, B, hX⟩ hk
  have hI := iM_b hX.2.2.2.1
  have hC := hX.2.2.1
  by_cases c0 : wi a1 (T 0 16) = true
  · obtain ⟨c, hc, rfl⟩ := wi_t (by omega) c0
    obtain ⟨b, b1, b2, b3, b4⟩ := iM_some hX.2.2.2.1 (i := 0) (j := 16) (by omega)
    have b3' := fun w => tM_w (w := w) b2 b3
    have hz := tO_sz b4
    by_cases c1 : wi a2 (T 0 5) = true
    · obtain ⟨g, hg, rfl⟩ := wi_t (by omega) c1
      by_cases c2 : wi a3 (T 0 1) = true
      · obtain ⟨q, hq, rfl⟩ := wi_t (by omega) c2
        by_cases c3 : wi a4 (T 0 2) = true
        · obtain ⟨p, hp, rfl⟩ := wi_t (by omega) c3
          skip
          obtain ⟨Md, Mm, d1, d2, d3, m1, m2, m3, inv, dI, dM⟩ := iDay hX b1 b2 b3 b4 hc
          refine ⟨5000, nI (yD T A c g q p), goWI Md 0 8 0, goWI (goWI Mm 102 1 0) 102 2 (-1), ?_, ?_, inv⟩
          · unfold fX12_drops fX12_isCase fX12_isGoat fX12_isPlace fX12_isPlant
            rw [iR5 hX, tC_cases hC, (tC_herd hC).1, tC_plants hC, tC_places hC, cWithin, cWithin, cWithin, cWithin, c0, c1, c2, c3, if_neg (by decide), if_neg (by decide), if_neg (by decide), if_neg (by decide), d1, gBd, gL_4, gM_4, nI_add, gL_8, gM_8, nI_add, gRd (by omega), gBd, show Md 86 (8 * (4 * g + q) + p) = nI (yD T A c g q p) from d2.2.2.2.1 g q p hg (by omega) (by omega), cAns, gB2]
          · unfold fX14_drops
            rw [gNm, m_isCase (by decide) (dI), m_isGoat (dI), m_isPlant (dI), m_isPlace (dI), c0, c1, c2, c3, gBd, if_neg (by decide), gBd, if_neg (by decide), gBd, if_neg (by decide), gBd, if_neg (by decide), m1, gBd, mDropped b1 m3 b4 (by decide) m2 hg (show q < 4 by omega) (show p < 8 by omega), gBd, mGood, gB2]
        · rw [Bool.not_eq_true] at c3
          refine ⟨5000, -1, goWI M 0 8 1, _, ?_, ?_, iNo hX (w := 1) (by decide)⟩
          · unfold fX12_drops fX12_isCase fX12_isGoat fX12_isPlace fX12_isPlant
            rw [iR5 hX, tC_cases hC, (tC_herd hC).1, tC_plants hC, tC_places hC, cWithin, cWithin, cWithin, cWithin, c0, c1, c2, c3, if_neg (by decide), if_neg (by decide), if_neg (by decide), if_pos (by decide), cRef, gB2]
          · unfold fX14_drops
            rw [gNm, m_isCase (by decide) (iI hX 1), m_isGoat (iI hX 1), m_isPlant (iI hX 1), m_isPlace (iI hX 1), c0, c1, c2, c3, gBd, if_neg (by decide), gBd, if_neg (by decide), gBd, if_neg (by decide), gBd, if_pos (by decide), mRef, gB2]
      · rw [Bool.not_eq_true] at c2
        refine ⟨5000, -1, goWI M 0 8 1, _, ?_, ?_, iNo hX (w := 1) (by decide)⟩
        · unfold fX12_drops fX12_isCase fX12_isGoat fX12_isPlace fX12_isPlant
          rw [iR5 hX, tC_cases hC, (tC_herd hC).1, tC_plants hC, cWithin, cWithin, cWithin, c0, c1, c2, if_neg (by decide), if_neg (by decide), if_pos (by decide), cRef, gB2]
        · unfold fX14_drops
          rw [gNm, m_isCase (by decide) (iI hX 1), m_isGoat (iI hX 1), m_isPlant (iI hX 1), c0, c1, c2, gBd, if_neg (by decide), gBd, if_neg (by decide), gBd, if_pos (by decide), mRef, gB2]
    · rw [Bool.not_eq_true] at c1
      refine ⟨5000, -1, goWI M 0 8 1, _, ?_, ?_, iNo hX (w := 1) (by decide)⟩
      · unfold fX12_drops fX12_isCase fX12_isGoat fX12_isPlace fX12_isPlant
        rw [iR5 hX, tC_cases hC, (tC_herd hC).1, cWithin, cWithin, c0, c1, if_neg (by decide), if_pos (by decide), cRef, gB2]
      · unfold fX14_drops
        rw [gNm, m_isCase (by decide) (iI hX 1), m_isGoat (iI hX 1), c0, c1, gBd, if_neg (by decide), gBd, if_pos (by decide), mRef, gB2]
  · rw [Bool.not_eq_true] at c0
    refine ⟨5000, -1, goWI M 0 8 1, _, ?_, ?_, iNo hX (w := 1) (by decide)⟩
    · unfold fX12_drops fX12_isCase fX12_isGoat fX12_isPlace fX12_isPlant
      rw [iR5 hX, tC_cases hC, cWithin, c0, if_pos (by decide), cRef, gB2]
    · unfold fX14_drops
      rw [gNm, m_isCase (by decide) (iI hX 1), c0, gBd, if_pos (by decide), mRef, gB2]
theorem go_flees : goS_flees gInv := by
  rintro k G M L R a1 a2 ⟨t, T, A, B, hX⟩ hk
  have hI := iM_b hX.2.2.2.1
  have hC := hX.2.2.1
  by_cases c0 : wi a1 (T 0 16) = true
  · obtain ⟨c, hc, rfl⟩ := wi_t (by omega) c0
    obtain ⟨b, b1, b2, b3, b4⟩ := iM_some hX.2.2.2.1 (i := 0) (j := 16) (by omega)
    have b3' := fun w => tM_w (w := w) b2 b3
    have hz := tO_sz b4
    by_cases c1 : wi a2 (T 0 5) = true
    · obtain ⟨g, hg, rfl⟩ := wi_t (by omega) c1
      skip
      obtain ⟨Md, Mm, d1, d2, d3, m1, m2, m3, inv, dI, dM⟩ := iDay hX b1 b2 b3 b4 hc
      refine ⟨5000, nI (yF T A c g), goWI Md 0 8 0, goWI (goWI Mm 102 1 0) 102 2 (-1), ?_, ?_, inv⟩
      · unfold fX12_flees fX12_isCase fX12_isGoat
        rw [iR5 hX, tC_cases hC, (tC_herd hC).1, cWithin, cWithin, c0, c1, if_neg (by decide), if_neg (by decide), d1, gBd, gRd (by omega), gBd, show Md 87 g = nI (yF T A c g) from d2.2.2.2.2 g hg, cAns, gB2]
      · unfold fX14_flees
        rw [gNm, m_isCase (by decide) (dI), m_isGoat (dI), c0, c1, gBd, if_neg (by decide), gBd, if_neg (by decide), m1, gBd, gRd (by omega), gBd, show Mm 112 g = nI (yF T A c g) from m2.2.2.2 g hg, mGood, gB2]
    · rw [Bool.not_eq_true] at c1
      refine ⟨5000, -1, goWI M 0 8 1, _, ?_, ?_, iNo hX (w := 1) (by decide)⟩
      · unfold fX12_flees fX12_isCase fX12_isGoat
        rw [iR5 hX, tC_cases hC, (tC_herd hC).1, cWithin, cWithin, c0, c1, if_neg (by decide), if_pos (by decide), cRef, gB2]
      · unfold fX14_flees
        rw [gNm, m_isCase (by decide) (iI hX 1), m_isGoat (iI hX 1), c0, c1, gBd, if_neg (by decide), gBd, if_pos (by decide), mRef, gB2]
  · rw [Bool.not_eq_true] at c0
    refine ⟨5000, -1, goWI M 0 8 1, _, ?_, ?_, iNo hX (w := 1) (by decide)⟩
    · unfold fX12_flees fX12_isCase fX12_isGoat
      rw [iR5 hX, tC_cases hC, cWithin, c0, if_pos (by decide), cRef, gB2]
    · unfold fX14_flees
      rw [gNm, m_isCase (by decide) (iI hX 1), c0, gBd, if_pos (by decide), mRef, gB2]
theorem go_left : goS_left gInv := by
  rintro k G M L R a1 a2 a3 ⟨t, T, A, B, hX⟩ hk
  have hI := iM_b hX.2.2.2.1
  have hC := hX.2.2.1
  by_cases c0 : wi a1 (T 0 16) = true
  · obtain ⟨c, hc, rfl⟩ := wi_t (by omega) c0
    obtain ⟨b, b1, b2, b3, b4⟩ := iM_some hX.2.2.2.1 (i := 0) (j := 16) (by omega)
    have b3' := fun w => tM_w (w := w) b2 b3
    have hz := tO_sz b4
    by_cases c1 : wi a2 (T 0 2) = true
    · obtain ⟨p, hp, rfl⟩ := wi_t (by omega) c1
      by_cases c2 : wi a3 (T 0 1) = true
      · obtain ⟨q, hq, rfl⟩ := wi_t (by omega) c2
        have hR : yR T A c p < 65536 := (cR_ok b4 (dS0_ok b4) (T 0 0)).1 p (by omega)
        obtain ⟨Md, Mm, d1, d2, d3, m1, m2, m3, inv, dI, dM⟩ := iDay hX b1 b2 b3 b4 hc
        refine ⟨5000, nI (dNib (yR T A c p) q), goWI Md 0 8 0, goWI (goWI Mm 102 1 0) 102 2 (-1), ?_, ?_, inv⟩
        · unfold fX12_left fX12_isCase fX12_isPlace fX12_isPlant
          rw [iR5 hX, tC_cases hC, tC_places hC, tC_plants hC, cWithin, cWithin, cWithin, c0, c1, c2, if_neg (by decide), if_neg (by decide), if_neg (by decide), d1, gBd, gRd (by omega), gBd, show Md 79 p = nI (yR T A c p) from d2.1 p (by omega), cNib hR (by omega), cAns, gB2]
        · unfold fX14_left
          rw [gNm, m_isCase (by decide) (dI), m_isPlace (dI), m_isPlant (dI), c0, c1, c2, gBd, if_neg (by decide), gBd, if_neg (by decide), gBd, if_neg (by decide), m1, gBd, gL_4, gN_4, nI_add, gRd (by omega), gBd, show Mm 111 (4 * p + q) = nI (dNib (yR T A c p) q) from m2.1 p q (by omega) (by omega), mGood, gB2]
      · rw [Bool.not_eq_true] at c2
        refine ⟨5000, -1, goWI M 0 8 1, _, ?_, ?_, iNo hX (w := 1) (by decide)⟩
        · unfold fX12_left fX12_isCase fX12_isPlace fX12_isPlant
          rw [iR5 hX, tC_cases hC, tC_places hC, tC_plants hC, cWithin, cWithin, cWithin, c0, c1, c2, if_neg (by decide), if_neg (by decide), if_pos (by decide), cRef, gB2]
        · unfold fX14_left
          rw [gNm, m_isCase (by decide) (iI hX 1), m_isPlace (iI hX 1), m_isPlant (iI hX 1), c0, c1, c2, gBd, if_neg (by decide), gBd, if_neg (by decide), gBd, if_pos (by decide), mRef, gB2]
    · rw [Bool.not_eq_true] at c1
      refine ⟨5000, -1, goWI M 0 8 1, _, ?_, ?_, iNo hX (w := 1) (by decide)⟩
      · unfold fX12_left fX12_isCase fX12_isPlace fX12_isPlant
        rw [iR5 hX, tC_cases hC, tC_places hC, cWithin, cWithin, c0, c1, if_neg (by decide), if_pos (by decide), cRef, gB2]
      · unfold fX14_left
        rw [gNm, m_isCase (by decide) (iI hX 1), m_isPlace (iI hX 1), c0, c1, gBd, if_neg (by decide), gBd, if_pos (by decide), mRef, gB2]
  · rw [Bool.not_eq_true] at c0
    refine ⟨5000, -1, goWI M 0 8 1, _, ?_, ?_, iNo hX (w := 1) (by decide)⟩
    · unfold fX12_left fX12_isCase fX12_isPlace fX12_isPlant
      rw [iR5 hX, tC_cases hC, cWithin, c0, if_pos (by decide), cRef, gB2]
    · unfold fX14_left
      rw [gNm, m_isCase (by decide) (iI hX 1), c0, gBd, if_pos (by decide), mRef, gB2]
theorem go_met : goS_met gInv := by
  rintro k G M L R a1 a2 a3 ⟨t, T, A, B, hX⟩ hk
  have hI := iM_b hX.2.2.2.1
  have hC := hX.2.2.1
  by_cases c0 : wi a1 (T 0 16) = true
  · obtain ⟨c, hc, rfl⟩ := wi_t (by omega) c0
    obtain ⟨b, b1, b2, b3, b4⟩ := iM_some hX.2.2.2.1 (i := 0) (j := 16) (by omega)
    have b3' := fun w => tM_w (w := w) b2 b3
    have hz := tO_sz b4
    by_cases c1 : wi a2 (T 0 5) = true
    · obtain ⟨g, hg, rfl⟩ := wi_t (by omega) c1
      by_cases c2 : wi a3 (T 0 4) = true
      · obtain ⟨p, hp, rfl⟩ := wi_t (by omega) c2
        skip
        obtain ⟨Md, Mm, d1, d2, d3, m1, m2, m3, inv, dI, dM⟩ := iDay hX b1 b2 b3 b4 hc
        refine ⟨5000, nI (yM T A c g p (T 0 0)), goWI Md 0 8 0, goWI (goWI Mm 102 1 0) 102 2 (-1), ?_, ?_, inv⟩
        · unfold fX12_met fX12_isCase fX12_isGoat fX12_isPerson
          rw [iR5 hX, tC_cases hC, (tC_herd hC).1, tC_people hC, cWithin, cWithin, cWithin, c0, c1, c2, if_neg (by decide), if_neg (by decide), if_neg (by decide), d1, gBd, cMet (iR5 hX) d3 b4 (by decide) d2 (by omega) hg hp, gBd, cAns, gB2]
        · unfold fX14_met
          rw [gNm, m_isCase (by decide) (dI), m_isGoat (dI), m_isPerson (dI), c0, c1, c2, gBd, if_neg (by decide), gBd, if_neg (by decide), gBd, if_neg (by decide), m1, gBd, mMet b1 m3 b4 (by decide) m2 (by omega) hg hp, gBd, mGood, gB2]
      · rw [Bool.not_eq_true] at c2
        refine ⟨5000, -1, goWI M 0 8 1, _, ?_, ?_, iNo hX (w := 1) (by decide)⟩
        · unfold fX12_met fX12_isCase fX12_isGoat fX12_isPerson
          rw [iR5 hX, tC_cases hC, (tC_herd hC).1, tC_people hC, cWithin, cWithin, cWithin, c0, c1, c2, if_neg (by decide), if_neg (by decide), if_pos (by decide), cRef, gB2]
        · unfold fX14_met
          rw [gNm, m_isCase (by decide) (iI hX 1), m_isGoat (iI hX 1), m_isPerson (iI hX 1), c0, c1, c2, gBd, if_neg (by decide), gBd, if_neg (by decide), gBd, if_pos (by decide), mRef, gB2]
    · rw [Bool.not_eq_true] at c1
      refine ⟨5000, -1, goWI M 0 8 1, _, ?_, ?_, iNo hX (w := 1) (by decide)⟩
      · unfold fX12_met fX12_isCase fX12_isGoat fX12_isPerson
        rw [iR5 hX, tC_cases hC, (tC_herd hC).1, cWithin, cWithin, c0, c1, if_neg (by decide), if_pos (by decide), cRef, gB2]
      · unfold fX14_met
        rw [gNm, m_isCase (by decide) (iI hX 1), m_isGoat (iI hX 1), c0, c1, gBd, if_neg (by decide), gBd, if_pos (by decide), mRef, gB2]
  · rw [Bool.not_eq_true] at c0
    refine ⟨5000, -1, goWI M 0 8 1, _, ?_, ?_, iNo hX (w := 1) (by decide)⟩
    · unfold fX12_met fX12_isCase fX12_isGoat fX12_isPerson
      rw [iR5 hX, tC_cases hC, cWithin, c0, if_pos (by decide), cRef, gB2]
    · unfold fX14_met
      rw [gNm, m_isCase (by decide) (iI hX 1), c0, gBd, if_pos (by decide), mRef, gB2]
theorem go_isTrue : goS_isTrue gInv := by
  rintro k G M L R a1 a2 ⟨t, T, A, B, hX⟩ hk
  have hI := iM_b hX.2.2.2.1
  have hC := hX.2.2.1
  by_cases c0 : wi a1 (T 0 16) = true
  · obtain ⟨c, hc, rfl⟩ := wi_t (by omega) c0
    obtain ⟨b, b1, b2, b3, b4⟩ := iM_some hX.2.2.2.1 (i := 0) (j := 16) (by omega)
    have b3' := fun w => tM_w (w := w) b2 b3
    have hz := tO_sz b4
    by_cases c1 : wi a2 (T 0 7) = true
    · obtain ⟨q, hq, rfl⟩ := wi_t (by omega) c1
      have nz1 : (if nI (dSh T A c q).toNat = 0 then (0 : Int32) else 1) = nI (dSh T A c q).toNat := by cases dSh T A c q <;> rfl
      obtain ⟨Md, Mm, d1, d2, d3, m1, m2, m3, inv, dI, dM⟩ := iDay hX b1 b2 b3 b4 hc
      refine ⟨5000, nI (dSh T A c q).toNat, goWI Md 0 8 0, goWI (goWI Mm 102 1 0) 102 2 (-1), ?_, ?_, inv⟩
      · unfold fX12_isTrue fX12_isCase
        rw [iR5 hX, tC_cases hC, (tC_herd hC).2, cWithin, cWithin, c0, c1, if_neg (by decide), if_neg (by decide), d1, gBd, cShows d3 b4 (iR_a hX.2.1.2.2.2.2.1) d2 hq, gBd, nz1, gNm, cAns, gB2]
      · unfold fX14_isTrue
        rw [gNm, m_isCase (by decide) (dI), m_isClue (dI), c0, c1, gBd, if_neg (by decide), gBd, if_neg (by decide), m1, gBd, mHolds b1 m3 b4 (by decide) m2 hq, gBd, nz1, gNm, mGood, gB2]
    · rw [Bool.not_eq_true] at c1
      refine ⟨5000, -1, goWI M 0 8 1, _, ?_, ?_, iNo hX (w := 1) (by decide)⟩
      · unfold fX12_isTrue fX12_isCase
        rw [iR5 hX, tC_cases hC, (tC_herd hC).2, cWithin, cWithin, c0, c1, if_neg (by decide), if_pos (by decide), cRef, gB2]
      · unfold fX14_isTrue
        rw [gNm, m_isCase (by decide) (iI hX 1), m_isClue (iI hX 1), c0, c1, gBd, if_neg (by decide), gBd, if_pos (by decide), mRef, gB2]
  · rw [Bool.not_eq_true] at c0
    refine ⟨5000, -1, goWI M 0 8 1, _, ?_, ?_, iNo hX (w := 1) (by decide)⟩
    · unfold fX12_isTrue fX12_isCase
      rw [iR5 hX, tC_cases hC, cWithin, c0, if_pos (by decide), cRef, gB2]
    · unfold fX14_isTrue
      rw [gNm, m_isCase (by decide) (iI hX 1), c0, gBd, if_pos (by decide), mRef, gB2]
