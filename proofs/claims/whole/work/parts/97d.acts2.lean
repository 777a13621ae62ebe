/-! HEDGES, hearing, undoing, marks, what is put -/
theorem go_hedge : goS_hedge gInv := by
  rintro k G M L R a1 a2 ⟨t, T, A, B, hX⟩ hk
  have hI := iM_b hX.2.2.2.1
  have hC := hX.2.2.1
  obtain ⟨is, his⟩ := goNb_b a2
  rw [his]
  obtain ⟨i1, i2, i3, i4, i5, i6⟩ := hX.2.2.2.2.1
  have hAB := i3.1
  by_cases c0 : wi a1 (T 0 3) = true
  · obtain ⟨q, hq, rfl⟩ := wi_t (by omega) c0
    obtain ⟨b, b1, b2, b3, b4⟩ := iM_some hX.2.2.2.1 (i := 0) (j := 3) (by omega)
    have b3' := fun w => tM_w (w := w) b2 b3
    have hA24 := hAB.2.2.2.2.2.1
    have hB24 := hAB.2.1
    by_cases c2 : (A 24).testBit q = is
    · refine ⟨5000, 0, goWI M 0 8 5, _, ?_, ?_, iNo hX (w := 5) (by decide)⟩
      · unfold fX12_hedge
        rw [iR5 hX, tC_paths hC, cWithin, c0, if_neg (by decide), show fX1_change M 24 (nI q) (nI is.toNat) = some (5, M) from cSame (c := 24) i1 (by decide) (by omega) (by omega) c2, gB2, gB2, cDoneW (by decide), gB2, gZ0, gBd]
      · unfold fX14_hedge
        have hr : goRd (goWI (goWI M 0 8 5) 102 0 0) 105 18 16 = some (nI (B 16)) := by
          rw [gL_16, gRd (by decide), gWI_na (by decide), gWI_na (by decide)]
          exact congrArg some (i2 16 (by decide))
        rw [gNm, b1, if_neg (by simp), if_pos (nI_pos' (by omega)), gBd, tM_0 (b3' 5) (by decide), if_neg (nI_ge hq (by omega)), hr, gBd, gI_bit14 (by omega) (by omega), ← hB24, c2, if_pos rfl, mDen, gB2, gZ0, gBd]
    · have c2' : (A 24).testBit q = !is := by
        cases e1 : (A 24).testBit q <;> cases is <;> simp_all
      have hS : aS (aF A 24 q) (aF B 16 q) := ⟨aB_hedge hAB (by omega), by rw [aCnt_other (fun i hi => by omega)]; exact i3.2.1, by rw [aCnt_other (fun i hi => by omega)]; exact i3.2.2⟩
      obtain ⟨M1, M2, f1, f2, f3, f4, f5, f6⟩ := iFlip hX hk (by rw [b1]; simp) b4 (c := 24) (p := q) (c' := 16) (p' := q) (is := is) (by decide) (by omega) (by omega) c2' (by decide) (by omega) hS
      have bM : tM (goWI (goWI M1 0 8 0) 102 0 0) b T := tM_fr b3 (fun r hr => by rw [goWI_ne (by omega), goWI_ne (by omega)]; exact f4 _ (by omega))
      refine ⟨5000, 1, goWI M1 0 8 0, _, ?_, ?_, f6⟩
      · unfold fX12_hedge
        rw [iR5 hX, tC_paths hC, cWithin, c0, if_neg (by decide), show fX1_change M 24 (nI q) (nI is.toNat) = some (0, M1) from f1, gB2, gB2, cDone0, gB2, gZ1, gBd]
      · unfold fX14_hedge
        have hr : goRd (goWI (goWI M1 0 8 0) 102 0 0) 105 18 16 = some (nI (B 16)) := by
          rw [gL_16, gRd (by decide), gWI_na (by decide), gWI_na (by decide), f5 105 (by decide)]
          exact congrArg some (i2 16 (by decide))
        have hr2 : goRd M2 105 18 16 = some (nI (B 16)) := by rw [gL_16, gRd (by decide), f3]
        have hx : nI (B 16) ^^^ (1 <<< (nI q &&& 31)) = nI (B 16 ^^^ 2 ^ q) := by rw [gI_shl1 (by omega), gI_xor]
        have hw : ∀ x, goWr M2 105 18 16 x = some (goWI M2 105 16 x) := fun x => gWr (i := 16) (by decide)
        rw [gNm, b1, if_neg (by simp), if_pos (nI_pos' (by omega)), gBd, tM_0 bM (by decide), if_neg (nI_ge hq (by omega)), hr, gBd, gI_bit14 (by omega) (by omega), ← hB24, c2', if_neg (by cases is <;> decide), f2, gBd, hr2, gBd, hx, hw, gBd, mGra, gB2, gZ1, gBd, hB24]
  · rw [Bool.not_eq_true] at c0
    refine ⟨5000, 0, goWI M 0 8 1, _, ?_, ?_, iNo hX (w := 1) (by decide)⟩
    · unfold fX12_hedge
      rw [iR5 hX, tC_paths hC, cWithin, c0, if_pos (by decide), gB2, cDoneW (by decide), gB2, gZ0, gBd]
    · unfold fX14_hedge
      rw [gNm]
      rcases hX.2.2.2.1 with ⟨h1, h2⟩ | ⟨b, b1, b2, b3, b4⟩
      · rw [if_pos h1, mDen, gB2, gZ0, gBd]
      · have b3' := fun w => tM_w (w := w) b2 b3
        unfold wi at c0
        rw [decide_eq_false_iff_not] at c0
        rw [b1, if_neg (by simp)]
        by_cases c3 : 0 ≤ a1
        · rw [if_pos c3, gBd, tM_0 (b3' 1) (by decide), if_pos (Int32.not_lt.mp (fun h => c0 ⟨c3, h⟩)), mDen, gB2, gZ0, gBd]
        · rw [if_neg c3, mDen, gB2, gZ0, gBd]
theorem go_hear : goS_hear gInv := by
  rintro k G M L R a1 a2 ⟨t, T, A, B, hX⟩ hk
  have hI := iM_b hX.2.2.2.1
  have hC := hX.2.2.1
  obtain ⟨is, his⟩ := goNb_b a2
  rw [his]
  obtain ⟨i1, i2, i3, i4, i5, i6⟩ := hX.2.2.2.2.1
  have hAB := i3.1
  have hz2 : ∀ x : Bool, goZr (nI x.toNat) = some (nI x.toNat) := fun x => by cases x <;> rfl
  by_cases c0 : wi a1 (T 0 5) = true
  · obtain ⟨q, hq, rfl⟩ := wi_t (by omega) c0
    obtain ⟨b, b1, b2, b3, b4⟩ := iM_some hX.2.2.2.1 (i := 0) (j := 5) (by omega)
    have hA25 := hAB.2.2.2.2.2.2
    have hB25 := hAB.2.2.1
    by_cases c2 : (A 25).testBit q = is
    · refine ⟨5000, 0, goWI M 0 8 5, _, ?_, ?_, iNo hX (w := 5) (by decide)⟩
      · unfold fX12_hear fX12_isGoat
        rw [iR5 hX, (tC_herd hC).1, cWithin, c0, if_neg (by decide), show fX1_change M 25 (nI q) (nI is.toNat) = some (5, M) from cSame (c := 25) i1 (by decide) (by omega) (by omega) c2, gB2, gB2, cDoneW (by decide), gB2, gZ0, gBd]
      · unfold fX14_hear fX14_isHeard
        have hr : goRd (goWI (goWI M 0 8 5) 102 0 0) 105 18 17 = some (nI (B 17)) := by
          rw [gL_17, gRd (by decide), gWI_na (by decide), gWI_na (by decide)]
          exact congrArg some (i2 17 (by decide))
        rw [gNm, m_isGoat (iI hX 5), c0, gBd, if_neg (by decide), hr, gBd, gI_bit14 (by omega) (by omega), ← hB25, c2, hz2, gBd, gBd, if_pos rfl, mDen, gB2, gZ0, gBd]
    · have c2' : (A 25).testBit q = !is := by
        cases e1 : (A 25).testBit q <;> cases is <;> simp_all
      have hS : aS (aF A 25 q) (aF B 17 q) := ⟨aB_hear hAB (by omega), by rw [aCnt_other (fun i hi => by omega)]; exact i3.2.1, by rw [aCnt_other (fun i hi => by omega)]; exact i3.2.2⟩
      obtain ⟨M1, M2, f1, f2, f3, f4, f5, f6⟩ := iFlip hX hk (by rw [b1]; simp) b4 (c := 25) (p := q) (c' := 17) (p' := q) (is := is) (by decide) (by omega) (by omega) c2' (by decide) (by omega) hS
      have bI : iM (goWI (goWI M1 0 8 0) 102 0 0) R T := iM_fr hX.2.2.2.1 (fun b hb => by rw [goWI_ne (by omega), goWI_ne (by omega)]; exact f4 b hb)
      refine ⟨5000, 1, goWI M1 0 8 0, _, ?_, ?_, f6⟩
      · unfold fX12_hear fX12_isGoat
        rw [iR5 hX, (tC_herd hC).1, cWithin, c0, if_neg (by decide), show fX1_change M 25 (nI q) (nI is.toNat) = some (0, M1) from f1, gB2, gB2, cDone0, gB2, gZ1, gBd]
      · unfold fX14_hear fX14_isHeard
        have hr : goRd (goWI (goWI M1 0 8 0) 102 0 0) 105 18 17 = some (nI (B 17)) := by
          rw [gL_17, gRd (by decide), gWI_na (by decide), gWI_na (by decide), f5 105 (by decide)]
          exact congrArg some (i2 17 (by decide))
        have hr2 : goRd M2 105 18 17 = some (nI (B 17)) := by rw [gL_17, gRd (by decide), f3]
        have hx : nI (B 17) ^^^ (1 <<< (nI q &&& 31)) = nI (B 17 ^^^ 2 ^ q) := by rw [gI_shl1 (by omega), gI_xor]
        have hw : ∀ x, goWr M2 105 18 17 x = some (goWI M2 105 17 x) := fun x => gWr (i := 17) (by decide)
        rw [gNm, m_isGoat bI, c0, gBd, if_neg (by decide), hr, gBd, gI_bit14 (by omega) (by omega), ← hB25, c2', hz2, gBd, gBd, if_neg (by cases is <;> decide), f2, gBd, hr2, gBd, hx, hw, gBd, mGra, gB2, gZ1, gBd, hB25]
  · rw [Bool.not_eq_true] at c0
    refine ⟨5000, 0, goWI M 0 8 1, _, ?_, ?_, iNo hX (w := 1) (by decide)⟩
    · unfold fX12_hear fX12_isGoat
      rw [iR5 hX, (tC_herd hC).1, cWithin, c0, if_pos (by decide), gB2, cDoneW (by decide), gB2, gZ0, gBd]
    · unfold fX14_hear
      rw [gNm, m_isGoat (iI hX 1), c0, gBd, if_pos (by decide), mDen, gB2, gZ0, gBd]
theorem kOk_fr2 {k k' : Nat} {M M' : goMI} {T : tH} {A : Nat → Nat} (h : kOk k M T A) (hk : k ≤ k') (h35 : M' 3 5 = M 3 5) (hf : ∀ b, 74 ≤ b → b ≤ 101 → M' b = M b) : kOk k' M' T A := by
  obtain ⟨⟨v, k1, k2⟩, k3, k4, k5, k6⟩ := h
  unfold kOk
  rw [h35, hf 74 (by decide) (by decide), hf 75 (by decide) (by decide), hf 76 (by decide) (by decide), hf 84 (by decide) (by decide), hf 98 (by decide) (by decide)]
  refine ⟨⟨v, by omega, k2⟩, fun h => ?_, k4, k5, k6⟩
  obtain ⟨c, c1, c2, c3⟩ := k3 h
  exact ⟨c, c1, c2, dayIs_fr c3 (fun r h1 h2 => hf _ (by omega) (by omega))⟩
theorem mCopy105 {M : goMI} {N s : Nat} {F : Nat → Int32 → goMI → Option goMI} (hN : 5000 ≤ N) (src : Nat) (hs : src ≠ 105) (val : Nat → Int32) (hF : ∀ n i M', i < 18 → (∀ b, b ≠ 105 → M' b = M b) → F (n + 1) (nI i) M' = F n (nI (i + 1)) (goWI M' 105 i (val i))) (hF' : ∀ n M', F (n + 1) (nI 18) M' = some M') : ∃ M', F N (nI 0) M = some M' ∧ (∀ b, b ≠ 105 → M' b = M b) ∧ ∀ j, j < 18 → M' 105 j = val j := by
  refine gFor (fun n i M' => F n (nI i) M') (fun i M' => (∀ b, b ≠ 105 → M' b = M b) ∧ ∀ j, j < i → M' 105 j = val j) _ 18 ?_ ?_ N 0 M (Nat.zero_le _) ⟨fun _ _ => rfl, fun j hj => absurd hj (Nat.not_lt_zero _)⟩ (by omega)
  · intro n i M1 hi hP
    refine ⟨_, hF n i M1 hi hP.1, fun b hb => by rw [goWI_ne hb]; exact hP.1 b hb, fun j hj => ?_⟩
    rw [gWI_self]
    by_cases e : j = i
    · rw [if_pos e, e]
    · rw [if_neg e]; exact hP.2 j (by omega)
  · intro n M1 hP
    exact ⟨M1, hF' n M1, hP⟩
theorem go_undo : goS_undo gInv := by
  rintro k G M L R ⟨t, T, A, B, hX⟩ hk
  obtain ⟨x1, x2, x3, x4, x5, x6, x7, x8, x9⟩ := id hX
  obtain ⟨i1, i2, i3, ⟨u, As, Bs, u1, u2, u3, u4, u5, u6, u7⟩, i5, i6⟩ := id x5
  by_cases c0 : u = 0
  · refine ⟨5000, 0, goWI M 0 8 6, _, ?_, ?_, iNo hX (w := 6) (by decide)⟩
    · unfold fX12_undo fX1_takeBack
      rw [u2, c0, if_pos (by decide), gB2, gNm, if_pos rfl, cDoneW (by decide), gB2, gZ0, gBd]
    · unfold fX14_undo
      have h21 : goWI (goWI M 0 8 6) 102 0 0 102 21 = 0 := by rw [gWI_nk (by decide), gWI_na (by decide), u3, c0]; rfl
      rw [gNm, h21, if_pos rfl]
      by_cases h1 : R 102 3 = none
      · rw [if_pos h1, mDen, gB2, gZ0, gBd]
      · rw [if_neg h1, mDen, gB2, gZ0, gBd]
  · obtain ⟨v, rfl⟩ : ∃ v, u = v + 1 := ⟨u - 1, by omega⟩
    obtain ⟨s1, s2, c, p, s3, s4, s5, s6⟩ := u7 v (by omega)
    have hR : R 102 3 ≠ none := fun e => by have := u4 e; omega
    rcases x4 with ⟨h1, _⟩ | ⟨b, b1, b2, b3, b4⟩
    · exact absurd h1 hR
    have h1 : ∀ i, i < 26 → goWI M 3 3 (nI v) 4 i = nI (A i) := fun i hi => by rw [gWI_na (by decide)]; exact i1 i hi
    obtain ⟨M1, t1, t2, t3, t4, t5⟩ := cTurnA (p := p) h1 s3 s4
    have hAs : ∀ i, i < 26 → As v i = aF A c p i := fun i hi => by
      rw [s6 i hi, u5]; rfl
    -- the model
    have r102 : ∀ j, j ≠ 0 → goWI (goWI M1 0 8 0) 102 0 0 102 j = M 102 j := fun j hj => by rw [gWI_nk hj, goWI_ne (by decide), t2 102 (by decide) (by decide), goWI_ne (by decide)]
    obtain ⟨M2, e1, e2, e3⟩ := mCopy105 (M := goWI (goWI (goWI M1 0 8 0) 102 0 0) 102 21 (nI v)) (N := 5000) (F := lX14_undo_38) (s := 0) (by decide) 106 (by decide) (fun i => nI (Bs v i)) (fun n i M' hi hf => by
      have h21 : M' 102 21 = nI v := by rw [hf 102 (by decide), gWI_self, if_pos rfl]
      have h106 : M' 106 (18 * v + i) = nI (Bs v i) := by
        rw [hf 106 (by decide), gWI_na (by decide), gWI_na (by decide), gWI_na (by decide), t2 106 (by decide) (by decide), gWI_na (by decide)]
        exact s2 i hi
      rw [lX14_undo_38, gL_18, if_pos (nI_lt hi (by decide)), h21, gN_18, nI_add, gRd (by omega), gBd, h106, gWr hi, gBd, nI_1]) (fun n M' => by
      rw [lX14_undo_38, gL_18, if_neg (nI_nlt (Nat.le_refl _) (by decide))])
    have z : ∀ b, b ≠ 102 → b ≠ 105 → goWI (goWI M2 102 1 0) 102 2 (-1) b = goWI M1 0 8 0 b := fun b h1 h2 => by
      rw [goWI_ne h1, goWI_ne h1, e2 b h2, goWI_ne h1, goWI_ne h1]
    have zi : ∀ b, b ≠ 0 → b ≠ 3 → b ≠ 4 → b ≠ 102 → b ≠ 105 → goWI (goWI M2 102 1 0) 102 2 (-1) b = M b := fun b h0 h3 h4 h1 h2 => by
      rw [z b h1 h2, goWI_ne h0, t2 b h3 h4, goWI_ne h3]
    have z102 : ∀ j, j ≠ 0 → j ≠ 1 → j ≠ 2 → j ≠ 21 → goWI (goWI M2 102 1 0) 102 2 (-1) 102 j = M 102 j := fun j h0 h1 h2 h3 => by
      rw [gWI_nk h2, gWI_nk h1, e2 102 (by decide), gWI_nk h3, r102 j h0]
    have z3 : ∀ j, goWI (goWI M2 102 1 0) 102 2 (-1) 3 j = M1 3 j := fun j => by rw [z 3 (by decide) (by decide), gWI_na (by decide)]
    refine ⟨5000, 1, goWI M1 0 8 0, goWI (goWI M2 102 1 0) 102 2 (-1), ?_, ?_, iX_act (w := 0) (A' := As v) (B' := Bs v) hX (fun b h0 h3 h4 h5 h6 h7 h8 h9 h10 => zi b h0 h3 h4 h7 h8) ?_ ?_ (by decide) ?_ ?_ (z102 6 (by decide) (by decide) (by decide) (by decide)) (z102 14 (by decide) (by decide) (by decide) (by decide)) ?_ ?_⟩
    · unfold fX12_undo fX1_takeBack
      have h5 : goRd (goWI M 3 3 (nI v)) 5 16 (nI v) = some (nI (16 * c + p)) := by rw [gRd (by omega), gWI_na (by decide), s5]
      have d1 : nI (16 * c + p) / 16 = nI c := by
        rw [gL_16, pk_div (by omega) (by decide) (by decide)]
        exact congrArg nI (by omega)
      have d2 : nI (16 * c + p) - nI c * 16 = nI p := by
        rw [gL_16, gM_16, pk_sub (by omega)]
        exact congrArg nI (by omega)
      rw [u2, if_neg (nI_nle (by omega) (by omega)), gNm, nI_pred, gWI_self, if_pos rfl, h5, gBd, gBd, d1, d2, t1, gBd, gB2, gNm, if_neg (by decide), cDone0, gB2, gZ1, gBd]
    · unfold fX14_undo
      have h21 : goWI (goWI M1 0 8 0) 102 0 0 102 21 = nI (v + 1) := by rw [r102 21 (by decide)]; exact u3
      have e1' : lX14_undo_38 5000 0 (goWI (goWI (goWI M1 0 8 0) 102 0 0) 102 21 (nI v)) = some M2 := e1
      rw [gNm, if_neg hR, h21, if_neg (nI_ne0 (by omega) (by omega)), nI_pred, gNm, e1', gBd, mGra, gB2, gZ1, gBd]
    · rw [z 0 (by decide) (by decide), gWI_nk (by decide), t2 0 (by decide) (by decide), gWI_na (by decide)]
    · rw [z 0 (by decide) (by decide), gWI_self, if_pos rfl]
    · rw [gWI_nk (by decide), gWI_self, if_pos rfl]
    · rw [gWI_self, if_pos rfl]
    · obtain ⟨m, q1, q2, q3, q4, q5⟩ := i5
      refine ⟨fun i hi => ?_, fun i hi => ?_, s1, ⟨v, As, Bs, by omega, ?_, ?_, fun e => absurd e hR, rfl, rfl, fun i hi => ?_⟩, ⟨m, q1, ?_, ?_, q4, ?_⟩, fun e => absurd e hR⟩
      · rw [z 4 (by decide) (by decide), gWI_na (by decide), hAs i hi]; exact t5 i hi
      · rw [gWI_na (by decide), gWI_na (by decide)]; exact e3 i hi
      · rw [z3, t3 3 (by decide), gWI_self, if_pos rfl]
      · rw [gWI_nk (by decide), gWI_nk (by decide), e2 102 (by decide), gWI_self, if_pos rfl]
      · rw [zi 106 (by decide) (by decide) (by decide) (by decide) (by decide), zi 5 (by decide) (by decide) (by decide) (by decide) (by decide)]
        exact u7 i (by omega)
      · rw [z3, t3 4 (by decide), gWI_nk (by decide)]; exact q2
      · rw [z102 22 (by decide) (by decide) (by decide) (by decide)]; exact q3
      · rw [zi 6 (by decide) (by decide) (by decide) (by decide) (by decide), zi 107 (by decide) (by decide) (by decide) (by decide) (by decide)]; exact q5
    · have h35 : goWI (goWI M2 102 1 0) 102 2 (-1) 3 5 = if c = 25 then M 3 5 else M 3 5 + 1 := by
        rw [z3, t4, gWI_nk (by decide)]
      by_cases c25 : c = 25
      · rw [if_pos c25] at h35
        refine kOk_fr2 (kOk_congr b4 (fun i hi => ?_) x8) (by omega) h35 (fun b h1 h2 => zi b (by omega) (by omega) (by omega) (by omega) (by omega))
        rw [hAs i (by omega)]
        unfold aF
        rw [if_neg (by omega)]
      · rw [if_neg c25] at h35
        exact kOk_new hk x8 h35 (fun b h1 h2 => zi b (by omega) (by omega) (by omega) (by omega) (by omega))
theorem go_mark : goS_mark gInv := by
  rintro k G M L R ⟨t, T, A, B, hX⟩ hk
  obtain ⟨x1, x2, x3, x4, x5, x6, x7, x8, x9⟩ := id hX
  obtain ⟨i1, i2, i3, i4, ⟨m, q1, q2, q3, q4, q5⟩, i6⟩ := id x5
  rcases x4 with ⟨h1, h2⟩ | ⟨b, b1, b2, b3, b4⟩
  · refine ⟨5000, -1, goWI M 0 8 1, _, ?_, ?_, iNo hX (w := 1) (by decide)⟩
    · unfold fX12_mark
      rw [cIsHill0 hX h1, if_pos rfl, cRef, gB2]
    · unfold fX14_mark
      rw [gNm, if_pos h1, mRef, gB2]
  · have hR : R 102 3 ≠ none := by rw [b1]; simp
    by_cases c3 : m = 3
    · refine ⟨5000, -1, goWI M 0 8 3, _, ?_, ?_, iNo hX (w := 3) (by decide)⟩
      · unfold fX12_mark fX1_keep
        rw [cIsHill1 hX b4, if_neg (by decide), q2, c3, if_pos (by decide), gB2, if_neg (by decide), cRef, gB2]
      · unfold fX14_mark
        have h22 : goWI (goWI M 0 8 3) 102 0 0 102 22 = 3 := by rw [gWI_nk (by decide), gWI_na (by decide), q3, c3]; rfl
        rw [gNm, if_neg hR, h22, if_pos rfl, mRef, gB2]
    · have cp := gCp (M := M) (s := 4) (ns := 26) (sp := 0) (d := 6) (nd := 78) (dp := 26 * m) (n := 26) (by decide) (by omega)
      have cp' : goCp M 4 26 0 6 78 (nI (26 * m)) 26 = some (fun b => if b = 6 then va_cpy (M 4) (M 6) 0 (26 * m) 26 else M b) := cp
      generalize hM1 : (goWI (fun b => if b = 6 then va_cpy (M 4) (M 6) 0 (26 * m) 26 else M b) 3 4 (nI (m + 1)) : goMI) = M1 at *
      have f1 : ∀ b, b ≠ 3 → b ≠ 6 → M1 b = M b := fun b h3 h6 => by rw [← hM1, goWI_ne h3]; exact if_neg h6
      have f3 : ∀ j, j ≠ 4 → M1 3 j = M 3 j := fun j hj => by rw [← hM1, gWI_nk hj]; rfl
      have f34 : M1 3 4 = nI (m + 1) := by rw [← hM1, gWI_self, if_pos rfl]
      have f6 : ∀ j, j < 26 * m → M1 6 j = M 6 j := fun j hj => by
        rw [← hM1, gWI_na (by decide)]
        show (if (6 : Nat) = 6 then va_cpy (M 4) (M 6) 0 (26 * m) 26 else M 6) j = _
        rw [if_pos rfl, pk_cpy_out (by omega)]
      have f6' : ∀ j, j < 26 → M1 6 (26 * m + j) = M 4 j := fun j hj => by
        rw [← hM1, gWI_na (by decide)]
        show (if (6 : Nat) = 6 then va_cpy (M 4) (M 6) 0 (26 * m) 26 else M 6) (26 * m + j) = _
        rw [if_pos rfl, pk_cpy_in (by omega) (by omega)]
        exact congrArg (M 4) (by omega)
      have r102 : ∀ j, j ≠ 0 → goWI (goWI M1 0 8 0) 102 0 0 102 j = M 102 j := fun j hj => by rw [gWI_nk hj, goWI_ne (by decide), f1 102 (by decide) (by decide)]
      have k2 : ∃ M2, lX14_mark_34 5000 (nI 0) (goWI (goWI M1 0 8 0) 102 0 0) = some M2 ∧ (∀ b, b ≠ 107 → M2 b = goWI (goWI M1 0 8 0) 102 0 0 b) ∧ (∀ j, j < 18 * m → M2 107 j = M 107 j) ∧ ∀ j, j < 18 → M2 107 (18 * m + j) = nI (B j) := by
        refine gFor (fun n i M' => lX14_mark_34 n (nI i) M') (fun i M' => (∀ b, b ≠ 107 → M' b = goWI (goWI M1 0 8 0) 102 0 0 b) ∧ (∀ j, j < 18 * m → M' 107 j = M 107 j) ∧ ∀ j, j < i → M' 107 (18 * m + j) = nI (B j)) _ 18 ?_ ?_ 5000 0 _ (Nat.zero_le _) ⟨fun _ _ => rfl, fun j _ => by rw [gWI_na (by decide), gWI_na (by decide), f1 107 (by decide) (by decide)], fun j hj => absurd hj (Nat.not_lt_zero _)⟩ (by decide)
        · intro n i M2 hi hP
          obtain ⟨p1, p2, p3⟩ := hP
          have h22 : M2 102 22 = nI m := by rw [p1 102 (by decide), r102 22 (by decide)]; exact q3
          have h105 : M2 105 i = nI (B i) := by rw [p1 105 (by decide), gWI_na (by decide), gWI_na (by decide), f1 105 (by decide) (by decide)]; exact i2 i hi
          refine ⟨goWI M2 107 (18 * m + i) (nI (B i)), ?_, fun b hb => by rw [goWI_ne hb]; exact p1 b hb, fun j hj => by rw [gWI_nk (by omega)]; exact p2 j hj, fun j hj => ?_⟩
          · show lX14_mark_34 _ _ _ = lX14_mark_34 _ _ _
            rw [lX14_mark_34, gL_18, if_pos (nI_lt hi (by decide)), gRd hi, gBd, h105, h22, gN_18, nI_add, gWr (by omega), gBd, nI_1]
          · rw [gWI_self]
            by_cases e : j = i
            · rw [if_pos (by omega), e]
            · rw [if_neg (by omega)]; exact p3 j (by omega)
        · intro n M2 hP
          refine ⟨M2, ?_, hP⟩
          show lX14_mark_34 _ _ _ = _
          rw [lX14_mark_34, gL_18, if_neg (nI_nlt (Nat.le_refl _) (by decide))]
      obtain ⟨M2, e1, e2, e3, e4⟩ := k2
      have z : ∀ b, b ≠ 102 → b ≠ 107 → goWI (goWI (goWI M2 102 22 (nI (m + 1))) 102 1 0) 102 2 (-1) b = goWI M1 0 8 0 b := fun b h1 h2 => by
        rw [goWI_ne h1, goWI_ne h1, goWI_ne h1, e2 b h2, goWI_ne h1]
      have zi : ∀ b, b ≠ 0 → b ≠ 3 → b ≠ 6 → b ≠ 102 → b ≠ 107 → goWI (goWI (goWI M2 102 22 (nI (m + 1))) 102 1 0) 102 2 (-1) b = M b := fun b h0 h3 h6 h1 h2 => by
        rw [z b h1 h2, goWI_ne h0, f1 b h3 h6]
      have z102 : ∀ j, j ≠ 0 → j ≠ 1 → j ≠ 2 → j ≠ 22 → goWI (goWI (goWI M2 102 22 (nI (m + 1))) 102 1 0) 102 2 (-1) 102 j = M 102 j := fun j h0 h1 h2 h3 => by
        rw [gWI_nk h2, gWI_nk h1, gWI_nk h3, e2 102 (by decide), r102 j h0]
      have z3 : ∀ j, goWI (goWI (goWI M2 102 22 (nI (m + 1))) 102 1 0) 102 2 (-1) 3 j = M1 3 j := fun j => by rw [z 3 (by decide) (by decide), gWI_na (by decide)]
      have hpm : nI (m + 1) - 1 = nI m := nI_pred m
      refine ⟨5000, nI m, goWI M1 0 8 0, goWI (goWI (goWI M2 102 22 (nI (m + 1))) 102 1 0) 102 2 (-1), ?_, ?_, iX_act (w := 0) (A' := A) (B' := B) hX (fun b h0 h3 h4 h5 h6 h7 h8 h9 h10 => zi b h0 h3 h6 h7 h10) ?_ ?_ (by decide) ?_ ?_ (z102 6 (by decide) (by decide) (by decide) (by decide)) (z102 14 (by decide) (by decide) (by decide) (by decide)) ?_ (kOk_fr2 x8 (by omega) ?_ (fun b h1 h2 => zi b (by omega) (by omega) (by omega) (by omega) (by omega)))⟩
      · unfold fX12_mark fX1_keep
        have h34 : (fun b => if b = 6 then va_cpy (M 4) (M 6) 0 (26 * m) 26 else M b : goMI) 3 4 = nI m := q2
        rw [cIsHill1 hX b4, if_neg (by decide), q2, if_neg (show ¬ (3 : Int32) ≤ nI m from (nI_ge (show m < 3 by omega) (by decide) : ¬ nI 3 ≤ nI m)), show nI m * 26 = nI (26 * m) from gM_26 m, cp', gBd, gNm, h34, nI_1, hM1, f34, hpm, gB2, if_pos (nI_pos' (by omega)), cAns, gB2]
      · unfold fX14_mark
        have h22 : goWI (goWI M1 0 8 0) 102 0 0 102 22 = nI m := by rw [r102 22 (by decide)]; exact q3
        have h22' : M2 102 22 = nI m := by rw [e2 102 (by decide)]; exact h22
        have e1' : lX14_mark_34 5000 0 (goWI (goWI M1 0 8 0) 102 0 0) = some M2 := e1
        rw [gNm, if_neg hR, h22, if_neg (show ¬ nI m = 3 from fun e => c3 ((nI_eq (a := m) (b := 3) (by omega) (by decide)).mp e)), e1', gBd, gNm, h22', nI_1, gWI_self, if_pos rfl, hpm, mGood, gB2]
      · rw [z 0 (by decide) (by decide), gWI_nk (by decide), f1 0 (by decide) (by decide)]
      · rw [z 0 (by decide) (by decide), gWI_self, if_pos rfl]
      · rw [gWI_nk (by decide), gWI_self, if_pos rfl]
      · rw [gWI_self, if_pos rfl]
      · obtain ⟨u, As, Bs, u1, u2, u3, u4, u5, u6, u7⟩ := i4
        refine ⟨fun i hi => ?_, fun i hi => ?_, i3, ⟨u, As, Bs, u1, ?_, ?_, u4, u5, u6, ?_⟩, ⟨m + 1, by omega, ?_, ?_, fun e => absurd e hR, fun i hi => ?_⟩, i6⟩
        · rw [zi 4 (by decide) (by decide) (by decide) (by decide) (by decide)]; exact i1 i hi
        · rw [zi 105 (by decide) (by decide) (by decide) (by decide) (by decide)]; exact i2 i hi
        · rw [z3, f3 3 (by decide)]; exact u2
        · rw [z102 21 (by decide) (by decide) (by decide) (by decide)]; exact u3
        · rw [zi 106 (by decide) (by decide) (by decide) (by decide) (by decide), zi 5 (by decide) (by decide) (by decide) (by decide) (by decide)]; exact u7
        · rw [z3]; exact f34
        · rw [gWI_nk (by decide), gWI_nk (by decide), gWI_self, if_pos rfl]
        · have r6 : ∀ j, goWI (goWI (goWI M2 102 22 (nI (m + 1))) 102 1 0) 102 2 (-1) 6 j = M1 6 j := fun j => by rw [z 6 (by decide) (by decide), gWI_na (by decide)]
          have r107 : ∀ j, goWI (goWI (goWI M2 102 22 (nI (m + 1))) 102 1 0) 102 2 (-1) 107 j = M2 107 j := fun j => by rw [gWI_na (by decide), gWI_na (by decide), gWI_na (by decide)]
          by_cases e : i = m
          · refine ⟨A, B, i3, fun j hj => ?_, fun j hj => ?_⟩
            · rw [r6, e, f6' j hj]; exact i1 j hj
            · rw [r107, e]; exact e4 j hj
          · obtain ⟨A', B', g1, g2, g3⟩ := q5 i (by omega)
            refine ⟨A', B', g1, fun j hj => ?_, fun j hj => ?_⟩
            · rw [r6, f6 _ (by omega)]; exact g2 j hj
            · rw [r107, e3 _ (by omega)]; exact g3 j hj
      · rw [z3, f3 5 (by decide)]
