/-! BACK to a mark, and what is put -/
theorem go_back : goS_back gInv := by
  rintro k G M L R a1 ⟨t, T, A, B, hX⟩ hk
  obtain ⟨x1, x2, x3, x4, x5, x6, x7, x8, x9⟩ := id hX
  obtain ⟨i1, i2, i3, i4, ⟨m, q1, q2, q3, q4, q5⟩, i6⟩ := id x5
  by_cases c0 : wi a1 m = true
  · obtain ⟨n, hn, rfl⟩ := wi_t (by omega) c0
    have hR : R 102 3 ≠ none := fun e => by have := q4 e; omega
    obtain ⟨A', B', g1, g2, g3⟩ := q5 n hn
    have cp := gCp (M := M) (s := 6) (ns := 78) (sp := 26 * n) (d := 4) (nd := 26) (dp := 0) (n := 26) (by omega) (by decide)
    have cp' : goCp M 6 78 (nI (26 * n)) 4 26 0 26 = some (fun b => if b = 4 then va_cpy (M 6) (M 4) (26 * n) 0 26 else M b) := cp
    generalize hM1 : (goWI (goWI (fun b => if b = 4 then va_cpy (M 6) (M 4) (26 * n) 0 26 else M b) 3 3 0) 3 5 (M 3 5 + 1) : goMI) = M1 at *
    have f1 : ∀ b, b ≠ 3 → b ≠ 4 → M1 b = M b := fun b h3 h4 => by rw [← hM1, goWI_ne h3, goWI_ne h3]; exact if_neg h4
    have f3 : ∀ j, j ≠ 3 → j ≠ 5 → M1 3 j = M 3 j := fun j h3 h5 => by rw [← hM1, gWI_nk h5, gWI_nk h3]; rfl
    have f33 : M1 3 3 = nI 0 := by rw [← hM1, gWI_nk (by decide), gWI_self, if_pos rfl]; rfl
    have f35 : M1 3 5 = M 3 5 + 1 := by rw [← hM1, gWI_self, if_pos rfl]
    have f4 : ∀ j, j < 26 → M1 4 j = nI (A' j) := fun j hj => by
      rw [← hM1, gWI_na (by decide), gWI_na (by decide)]
      show (if (4 : Nat) = 4 then va_cpy (M 6) (M 4) (26 * n) 0 26 else M 4) j = _
      rw [if_pos rfl, pk_cpy_in (by omega) (by omega), show 26 * n + (j - 0) = 26 * n + j by omega]
      exact g2 j hj
    have r102 : ∀ j, j ≠ 0 → goWI (goWI M1 0 8 0) 102 0 0 102 j = M 102 j := fun j hj => by rw [gWI_nk hj, goWI_ne (by decide), f1 102 (by decide) (by decide)]
    obtain ⟨M2, e1, e2, e3⟩ := mCopy105 (M := goWI (goWI M1 0 8 0) 102 0 0) (N := 5000) (F := lX14_back_32 (nI n)) (s := 0) (by decide) 107 (by decide) (fun i => nI (B' i)) (fun N i M' hi hf => by
      have h107 : M' 107 (18 * n + i) = nI (B' i) := by
        rw [hf 107 (by decide), gWI_na (by decide), gWI_na (by decide), f1 107 (by decide) (by decide)]
        exact g3 i hi
      rw [lX14_back_32, gL_18, if_pos (nI_lt hi (by decide)), gN_18, nI_add, gRd (by omega), gBd, h107, gWr hi, gBd, nI_1]) (fun N M' => by
      rw [lX14_back_32, gL_18, if_neg (nI_nlt (Nat.le_refl _) (by decide))])
    have z : ∀ b, b ≠ 102 → b ≠ 105 → goWI (goWI (goWI M2 102 21 0) 102 1 0) 102 2 (-1) b = goWI M1 0 8 0 b := fun b h1 h2 => by
      rw [goWI_ne h1, goWI_ne h1, goWI_ne h1, e2 b h2, goWI_ne h1]
    have zi : ∀ b, b ≠ 0 → b ≠ 3 → b ≠ 4 → b ≠ 102 → b ≠ 105 → goWI (goWI (goWI M2 102 21 0) 102 1 0) 102 2 (-1) b = M b := fun b h0 h3 h4 h1 h2 => by
      rw [z b h1 h2, goWI_ne h0, f1 b h3 h4]
    have z102 : ∀ j, j ≠ 0 → j ≠ 1 → j ≠ 2 → j ≠ 21 → goWI (goWI (goWI M2 102 21 0) 102 1 0) 102 2 (-1) 102 j = M 102 j := fun j h0 h1 h2 h3 => by
      rw [gWI_nk h2, gWI_nk h1, gWI_nk h3, e2 102 (by decide), r102 j h0]
    have z3 : ∀ j, goWI (goWI (goWI M2 102 21 0) 102 1 0) 102 2 (-1) 3 j = M1 3 j := fun j => by rw [z 3 (by decide) (by decide), gWI_na (by decide)]
    refine ⟨5000, 1, goWI M1 0 8 0, goWI (goWI (goWI M2 102 21 0) 102 1 0) 102 2 (-1), ?_, ?_, iX_act (w := 0) (A' := A') (B' := B') hX (fun b h0 h3 h4 h5 h6 h7 h8 h9 h10 => zi b h0 h3 h4 h7 h8) ?_ ?_ (by decide) ?_ ?_ (z102 6 (by decide) (by decide) (by decide) (by decide)) (z102 14 (by decide) (by decide) (by decide) (by decide)) ?_ (kOk_new hk x8 ?_ (fun b h1 h2 => zi b (by omega) (by omega) (by omega) (by omega) (by omega)))⟩
    · unfold fX12_back fX1_restore
      have h35 : goWI (fun b => if b = 4 then va_cpy (M 6) (M 4) (26 * n) 0 26 else M b) 3 3 0 3 5 = M 3 5 := by rw [gWI_nk (by decide)]; rfl
      rw [q2, cWithin, c0, if_neg (by decide), show nI n * 26 = nI (26 * n) from gM_26 n, cp', gBd, gNm, gNm, h35, hM1, gB2, gNm, if_neg (by decide), cDone0, gB2, gZ1, gBd]
    · unfold fX14_back
      have h22 : goWI (goWI M1 0 8 0) 102 0 0 102 22 = nI m := by rw [r102 22 (by decide)]; exact q3
      have e1' : lX14_back_32 (nI n) 5000 0 (goWI (goWI M1 0 8 0) 102 0 0) = some M2 := e1
      rw [gNm, if_neg hR, if_pos (nI_pos' (by omega)), h22, if_neg (nI_ge hn (by omega)), e1', gBd, gNm, mGra, gB2, gZ1, gBd]
    · rw [z 0 (by decide) (by decide), gWI_nk (by decide), f1 0 (by decide) (by decide)]
    · rw [z 0 (by decide) (by decide), gWI_self, if_pos rfl]
    · rw [gWI_nk (by decide), gWI_self, if_pos rfl]
    · rw [gWI_self, if_pos rfl]
    · refine ⟨fun i hi => ?_, fun i hi => ?_, g1, ⟨0, fun _ => A', fun _ => B', by decide, ?_, ?_, fun _ => rfl, rfl, rfl, fun i hi => absurd hi (Nat.not_lt_zero _)⟩, ⟨m, q1, ?_, ?_, q4, ?_⟩, fun e => absurd e hR⟩
      · rw [z 4 (by decide) (by decide), gWI_na (by decide)]; exact f4 i hi
      · rw [gWI_na (by decide), gWI_na (by decide), gWI_na (by decide)]; exact e3 i hi
      · rw [z3]; exact f33
      · rw [gWI_nk (by decide), gWI_nk (by decide), gWI_self, if_pos rfl]; rfl
      · rw [z3, f3 4 (by decide) (by decide)]; exact q2
      · rw [z102 22 (by decide) (by decide) (by decide) (by decide)]; exact q3
      · rw [zi 6 (by decide) (by decide) (by decide) (by decide) (by decide), zi 107 (by decide) (by decide) (by decide) (by decide) (by decide)]; exact q5
    · rw [z3]; exact f35
  · rw [Bool.not_eq_true] at c0
    refine ⟨5000, 0, goWI M 0 8 1, _, ?_, ?_, iNo hX (w := 1) (by decide)⟩
    · unfold fX12_back fX1_restore
      rw [q2, cWithin, c0, if_pos (by decide), gB2, gNm, if_pos rfl, cDoneW (by decide), gB2, gZ0, gBd]
    · unfold fX14_back
      have h22 : goWI (goWI M 0 8 1) 102 0 0 102 22 = nI m := by rw [gWI_nk (by decide), gWI_na (by decide)]; exact q3
      unfold wi at c0
      rw [decide_eq_false_iff_not] at c0
      rw [gNm, h22]
      by_cases h1 : R 102 3 = none
      · rw [if_pos h1, mDen, gB2, gZ0, gBd]
      · rw [if_neg h1]
        by_cases c3 : 0 ≤ a1
        · rw [if_pos c3, if_pos (Int32.not_lt.mp (fun h => c0 ⟨c3, h⟩)), mDen, gB2, gZ0, gBd]
        · rw [if_neg c3, mDen, gB2, gZ0, gBd]
/-- whether one is put at a spot -/
def aP (A : Nat → Nat) (w s : Nat) : Bool := (A (w + s % 12)).testBit (s / 12)
def aQ (A : Nat → Nat) (w : Nat) (x : Int32) (s : Nat) : Bool := aP A w s && decide (nI (gSum (fun s => (aP A w s).toNat) s) = x)
theorem iX_L {k : Nat} {G : goG} {M : goMI} {L L' : goML} {R : goMR} (h : gInv k G M L R) (hL : L' 73 = L 73) : gInv k G M L' R := by
  obtain ⟨t, T, A, B, x1, x2, x3, x4, x5, x6, x7, x8, x9⟩ := h
  refine ⟨t, T, A, B, x1, x2, x3, x4, x5, x6, x7, x8, ?_⟩
  unfold iL
  rw [hL]
  exact x9
theorem gq_put : goS_put gInv := by
  rintro k G M L R a1 a2 ⟨t, T, A, B, hX⟩ hk
  obtain ⟨i1, i2, i3, i4, i5, i6⟩ := hX.2.2.2.2.1
  have hAB := i3.1
  obtain ⟨is, his⟩ := goNb_b a2
  rw [his]
  have hw : ∃ w w', w + 12 ≤ 24 ∧ w' + 8 ≤ 16 ∧ (if nI is.toNat = 0 then (0 : Int32) else 12) = nI w ∧ (if nI is.toNat = 0 then (0 : Int32) else 8) = nI w' ∧ ∀ h p, h < 12 → p < 8 → (A (w + h)).testBit p = (B (w' + p)).testBit h := by
    cases is
    · exact ⟨0, 0, by decide, by decide, rfl, rfl, fun h p hh hp => by rw [Nat.zero_add, Nat.zero_add]; exact (hAB.1 h p hh hp).1⟩
    · exact ⟨12, 8, by decide, by decide, rfl, rfl, fun h p hh hp => (hAB.1 h p hh hp).2⟩
  obtain ⟨w, w', w1, w2, w3, w4, w5⟩ := hw
  have keyc : fX1_spot 5000 M (nI w) a1 = some (if gFst (aQ A w a1) 96 < 96 then nI (gFst (aQ A w a1) 96) else -1) := by
    unfold fX1_spot
    refine gUpE (fun n i => lX1_spot_5 (nI w) a1 M n (nI (gSum (fun s => (aP A w s).toNat) i)) (nI i)) 96 _ (fun i => gFst (aQ A w a1) i = i) ?_ ?_ 5000 0 (Nat.zero_le _) rfl (by decide)
    · intro n s hs hP
      have hAs := hAB.2.2.2.1 (w + s % 12) (by omega)
      have e2 : gSum (fun s => (aP A w s).toNat) (s + 1) = gSum (fun s => (aP A w s).toNat) s + (aP A w s).toNat := rfl
      show lX1_spot_5 _ _ _ _ _ _ = _ ∨ lX1_spot_5 _ _ _ _ _ _ = lX1_spot_5 _ _ _ _ _ _ ∧ _
      rw [lX1_spot_5, gL_96, if_pos (nI_lt hs (by decide)), gL_12, pk_rem (by omega) (by decide) (by decide), pk_div (by omega) (by decide) (by decide), nI_add, gRd (by omega), gBd, i1 _ (by omega), gI_bit (by omega) (by omega), nI_1 s, e2, show (A (w + s % 12)).testBit (s / 12) = aP A w s from rfl]
      cases e : aP A w s
      · right
        refine ⟨?_, gFst_go hP (by unfold aQ; rw [e]; rfl)⟩
        rw [if_neg (by decide)]; rfl
      · rw [if_pos (by decide)]
        by_cases c1 : nI (gSum (fun s => (aP A w s).toNat) s) = a1
        · left
          rw [if_pos c1, gFst_stop hP hs (by unfold aQ; rw [e, decide_eq_true c1]; rfl), if_pos hs]
        · right
          refine ⟨?_, gFst_go hP (by unfold aQ; rw [decide_eq_false c1, Bool.and_false])⟩
          rw [if_neg c1, nI_1]; rfl
    · intro n hP
      show lX1_spot_5 _ _ _ _ _ _ = _
      rw [lX1_spot_5, gL_96, if_neg (nI_nlt (Nat.le_refl _) (by decide)), hP, if_neg (Nat.lt_irrefl _)]
  have hcode : ∀ s, s < 96 → fX12_spotCode (nI s) = nI (100 * (s / 12) + s % 12) := fun s hs => by
    unfold fX12_spotCode
    rw [gL_12, pk_rem (by omega) (by decide) (by decide), pk_div (by omega) (by decide) (by decide), gL_100, gM_100, nI_add]
  have keym : fX14_put 5000 M R a1 (nI is.toNat) = some (if gFst (aQ A w a1) 96 < 96 then (nI (100 * (gFst (aQ A w a1) 96 / 12) + gFst (aQ A w a1) 96 % 12), goWI M 102 0 0) else (0, goWI (goWI M 102 0 0) 102 0 1)) := by
    unfold fX14_put
    rw [gNm]
    by_cases hR : R 102 3 = none
    · have hno : gFst (aQ A w a1) 96 = 96 := gFst_all (fun s hs => by
        unfold aQ aP
        rw [(i6 hR).1 _ (by omega), Nat.zero_testBit, Bool.false_and])
      rw [hno, if_neg (by decide), show (5000 : Nat) = 4999 + 1 from rfl, lX14_put_10, if_pos hR, gNm]
    · refine gUpE (fun n i => lX14_put_10 a1 (nI is.toNat) (goWI M 102 0 0) R n (nI (gSum (fun s => (aP A w s).toNat) i)) (nI i)) 96 _ (fun i => gFst (aQ A w a1) i = i) ?_ ?_ 5000 0 (Nat.zero_le _) rfl (by decide)
      · intro n s hs hP
        have hBs := hAB.2.2.2.2.1 (w' + s / 12) (by omega)
        have hbit := w5 (s % 12) (s / 12) (by omega) (by omega)
        have h105 : goWI M 102 0 0 105 (w' + s / 12) = nI (B (w' + s / 12)) := by rw [gWI_na (by decide)]; exact i2 _ (by omega)
        have e2 : gSum (fun s => (aP A w s).toNat) (s + 1) = gSum (fun s => (aP A w s).toNat) s + (aP A w s).toNat := rfl
        show lX14_put_10 _ _ _ _ _ _ _ = _ ∨ lX14_put_10 _ _ _ _ _ _ _ = lX14_put_10 _ _ _ _ _ _ _ ∧ _
        rw [lX14_put_10, if_neg hR, gL_96, if_pos (nI_lt hs (by decide)), w4, gNm, gL_12, pk_rem (by omega) (by decide) (by decide), pk_div (by omega) (by decide) (by decide), nI_add, gRd (by omega), gBd, h105, gI_bit14 (by omega) (by omega), ← hbit, nI_1 s, e2, show (A (w + s % 12)).testBit (s / 12) = aP A w s from rfl]
        cases e : aP A w s
        · right
          refine ⟨?_, gFst_go hP (by unfold aQ; rw [e]; rfl)⟩
          rw [if_pos (by decide)]; rfl
        · rw [if_neg (by decide)]
          by_cases c1 : nI (gSum (fun s => (aP A w s).toNat) s) = a1
          · left
            rw [if_pos c1, gFst_stop hP hs (by unfold aQ; rw [e, decide_eq_true c1]; rfl), if_pos hs, gL_100, gN_100, nI_add]
          · right
            refine ⟨?_, gFst_go hP (by unfold aQ; rw [decide_eq_false c1, Bool.and_false])⟩
            rw [if_neg c1, nI_1]; rfl
      · intro n hP
        show lX14_put_10 _ _ _ _ _ _ _ = _
        rw [lX14_put_10, if_neg hR, gL_96, if_neg (nI_nlt (Nat.le_refl _) (by decide)), hP, if_neg (Nat.lt_irrefl _), gNm]
  rw [w3]
  by_cases c : gFst (aQ A w a1) 96 < 96
  · rw [if_pos c] at keyc keym
    refine ⟨5000, _, _, _, keyc, keym, fun h => absurd h (nI_pos (by omega)), fun _ => ⟨by rw [gWI_self, if_pos rfl], (hcode _ c).symm, iX_L (iX_0 hX 0) ?_⟩⟩
    exact goWL_ne (by decide)
  · rw [if_neg c] at keyc keym
    refine ⟨5000, _, _, _, keyc, keym, fun _ => ⟨by rw [gWI_self, if_pos rfl], ?_⟩, fun h => absurd (by decide) h⟩
    have e : goWI (goWI M 102 0 0) 102 0 1 = goWI M 102 0 1 := by
      funext b j
      unfold goWI
      by_cases h1 : b = 102
      · by_cases h2 : j = 0
        · rw [if_pos h1, if_pos h2, if_pos h1, if_pos h2]
        · rw [if_pos h1, if_neg h2, if_pos h1, if_neg h2, if_pos h1, if_neg h2]
      · rw [if_neg h1, if_neg h1, if_neg h1]
    rw [e]
    exact iX_0 hX 1
