/-! MORE CALLS that tell what was told -/
theorem gSum_cut {f : Nat → Nat} {n : Nat} : ∀ {m : Nat}, n ≤ m → (∀ i, n ≤ i → i < m → f i = 0) → gSum f m = gSum f n
  | 0, h, _ => by have : n = 0 := by omega
                  rw [this]
  | m + 1, h, h0 => by
    by_cases c : n = m + 1
    · rw [c]
    · show gSum f m + f m = _
      rw [gSum_cut (n := n) (m := m) (by omega) (fun i h1 h2 => h0 i h1 (by omega)), h0 m (by omega) (by omega)]
      rfl
theorem gPc_gBits {p : Nat → Bool} {n : Nat} (hn : n ≤ 12) : gPc (gBits p n) = gSum (fun k => (p k).toNat) n := by
  unfold gPc
  rw [gSum_cut (n := n) hn (fun i h1 _ => by
    show ((gBits p n).testBit i).toNat = 0
    rw [gBits_tb, decide_eq_false (by omega)]; rfl)]
  exact gSum_eq (fun i hi => by
    show ((gBits p n).testBit i).toNat = _
    rw [gBits_tb, decide_eq_true hi]; rfl)
/-- the clues of goats -/
def tCl (T : tH) (g : Nat) : Nat := gBits (fun k => g.testBit (T 14 k)) (T 0 7)
theorem mWithin {x : Int32} {m : Nat} (hm : m + 1 < 2 ^ 31) : fX14_within x 0 (nI m) = nI (wi x (m + 1)).toNat := by
  unfold fX14_within wi
  by_cases c1 : 0 ≤ x
  · rw [if_pos c1]
    have : x ≤ nI m ↔ x < nI (m + 1) := by
      rcases pk_ix x (n := m + 1) hm with h | h | ⟨j, hj, rfl⟩
      · exact absurd h (Int32.not_lt.mpr c1)
      · constructor
        · intro h2
          exact absurd (Int32.le_trans h h2) (nI_ge (by omega) hm)
        · intro h2
          exact absurd h2 (Int32.not_lt.mpr h)
      · rw [nI_leI (by omega) (by omega), nI_ltI (by omega) (by omega)]
        omega
    by_cases c2 : x ≤ nI m
    · rw [if_pos c2, decide_eq_true ⟨c1, this.mp c2⟩]; rfl
    · rw [if_neg c2, decide_eq_false (fun h => c2 (this.mpr h.2))]; rfl
  · rw [if_neg c1, decide_eq_false (fun h => c1 h.1)]; rfl
theorem cCluesOf {M : goMI} {T : tH} {t N g : Nat} (hC : tC M t T) (hT : tOk T) (hN : 5000 ≤ N) (hg : g < 64) : fX5_cluesOf N M (t + 9) (nI g) = some (nI (tCl T g)) := by
  have hz := tO_sz hT
  unfold fX5_cluesOf
  have key := gUp (fun n i (s : Int32) => lX5_cluesOf_4 (nI g) M (t + 9) n s (nI i)) (fun i => nI (gBits (fun k => g.testBit (T 14 k)) i)) (T 0 7) (nI (tCl T g)) ?_ ?_ N 0 (Nat.zero_le _) (by omega)
  · have key' : lX5_cluesOf_4 (nI g) M (t + 9) N 0 0 = _ := key
    rw [key', gBd]
  · intro n i hi
    obtain ⟨c13, c14, c15, c16⟩ := tC_clues hC i hi
    obtain ⟨o13, o14, o15, o16a, o16b⟩ := tO_clue hT i hi
    show lX5_cluesOf_4 _ _ _ _ _ _ = lX5_cluesOf_4 _ _ _ _ _ _
    rw [lX5_cluesOf_4, (tC_herd hC).2, if_pos (nI_lt hi (by omega)), show t + 9 + 9 = t + 18 from rfl, gRd (by omega), gBd, c14, gI_bit (by omega) (by omega), nI_1]
    conv => rhs; unfold gBits
    cases g.testBit (T 14 i)
    · rw [gNm, gI_shl (by omega) (by simp), gI_or]; simp
    · rw [gNm, gI_shl (by omega) (by
        have : 2 ^ i < 2 ^ 32 := Nat.pow_lt_pow_right (by decide) (by omega)
        simpa using this), gI_or]; simp
  · intro n
    show lX5_cluesOf_4 _ _ _ _ _ _ = _
    rw [lX5_cluesOf_4, (tC_herd hC).2, if_neg (nI_nlt (Nat.le_refl _) (by omega))]
    rfl
theorem tCl_lt {T : tH} (hT : tOk T) (g : Nat) : tCl T g < 1024 := Nat.lt_of_lt_of_le (gBits_lt _) (show 2 ^ T 0 7 ≤ 2 ^ 10 from Nat.pow_le_pow_right (by decide) (by have := tO_sz hT; omega))
section getters2
variable {k : Nat} {G : goG} {M : goMI} {L : goML} {R : goMR} {t : Nat} {T : tH} {A B : Nat → Nat}
theorem gPc_one {g : Nat} (hg : g < 6) : gPc (tCl T (2 ^ g)) = gSum (fun k => (decide (T 14 k = g)).toNat) (T 0 7) ∨ 12 < T 0 7 := by
  by_cases c : T 0 7 ≤ 12
  · left
    unfold tCl
    rw [gPc_gBits c]
    exact gSum_eq (fun i _ => by
      show ((2 ^ g).testBit (T 14 i)).toNat = _
      rw [gTb_pow]
      congr 1
      rw [decide_eq_decide]
      exact eq_comm)
  · right; omega
end getters2
theorem go_goat : goS_goat gInv := by
  rintro k G M L R a1 a2 ⟨t, T, A, B, hX⟩ hk
  have hI := iM_b hX.2.2.2.1
  have hC := hX.2.2.1
  by_cases c1 : wi a1 (T 0 5) = true
  · obtain ⟨g, hg, rfl⟩ := wi_t (by omega) c1
    obtain ⟨b, b1, b2, b3, b4⟩ := iM_some hX.2.2.2.1 (i := 0) (j := 5) (by omega)
    have b3' := fun w => tM_w (w := w) b2 b3
    have hz := tO_sz b4
    obtain ⟨h10, h11, h13, h16, h15⟩ := tC_goats hC g hg
    obtain ⟨o6, o7, o8, o10, o23, o11, o11', o9⟩ := tO_goat b4 g hg
    have hlp : ∀ w, lX14_goat_34 (nI g) (goWI (goWI M 0 8 w) 102 0 0) R 5000 0 0 = some (nI (gSum (fun k => (decide (T 14 k = g)).toNat) (T 0 7))) := by
      intro w
      refine gUp (fun n i (s : Int32) => lX14_goat_34 (nI g) (goWI (goWI M 0 8 w) 102 0 0) R n s (nI i)) (fun i => nI (gSum (fun k => (decide (T 14 k = g)).toNat) i)) (T 0 7) _ ?_ ?_ 5000 0 (Nat.zero_le _) (by omega)
      · intro n i hi
        have o14 := (tO_clue b4 i hi).2.1
        show lX14_goat_34 _ _ _ _ _ _ = lX14_goat_34 _ _ _ _ _ _
        rw [lX14_goat_34, b1, gBd, tM_0 (b3' w) (by decide), if_pos (nI_lt hi (by omega)), gBd, gRd (by omega), gBd, tM_14 (b3' w) (by omega), nI_1]
        conv => rhs; unfold gSum
        by_cases c : T 14 i = g
        · rw [if_pos (by rw [c]), gNm, gNm, gL_1, nI_add, decide_eq_true c]; rfl
        · rw [if_neg (fun e => c ((nI_eq (by omega) (by omega)).mp e)), gNm, gNm, gL_0, nI_add, decide_eq_false c]; rfl
      · intro n
        show lX14_goat_34 _ _ _ _ _ _ = _
        rw [lX14_goat_34, b1, gBd, tM_0 (b3' w) (by decide), if_neg (nI_nlt (Nat.le_refl _) (by omega))]
    by_cases c2 : wi a2 7 = true
    · obtain ⟨j, hj, rfl⟩ := wi_t (by omega) c2
      have hv := hX.2.2.2.2.1.2.1 17 (by decide)
      have hA := hX.2.2.2.2.1.1 25 (by decide)
      have hAB := hX.2.2.2.2.1.2.2.1.1
      have hw6 : ∀ x, fX14_within x 0 6 = nI (wi x 7).toNat := fun x => mWithin (m := 6) (by decide)
      have hj7 : j = 0 ∨ j = 1 ∨ j = 2 ∨ j = 3 ∨ j = 4 ∨ j = 5 ∨ j = 6 := by omega
      have cl := cCluesOf (N := 5000) (g := 2 ^ g) hC b4 (by decide) (show 2 ^ g < 2 ^ 6 from Nat.pow_lt_pow_right (by decide) (by omega))
      have pc := (gPc_one (T := T) (show g < 6 by omega)).resolve_right (by omega)
      have ctl := tCl_lt b4 (2 ^ g)
      rcases hj7 with e | e | e | e | e | e | e <;> subst e
      · refine ⟨5000, nI (T 6 g), goWI M 0 8 0, _, ?_, ?_, iNo hX (w := 0) (by decide)⟩
        · unfold fX12_goat fX12_isGoat
          rw [iR5 hX, (tC_herd hC).1, cWithin, c1, if_neg (by decide), if_pos (by decide), gRd (by omega), gBd, h10, cAns, gB2]
        · unfold fX14_goat
          rw [gNm, m_isGoat (iI hX 0), c1, gBd, if_neg (by decide), hw6, c2, if_neg (by decide), hlp, gBd, if_pos (by decide), b1, gBd, gRd (by omega), gBd, tM_6 (b3' 0) (by omega), mGood, gB2]
      · refine ⟨5000, nI (T 7 g), goWI M 0 8 0, _, ?_, ?_, iNo hX (w := 0) (by decide)⟩
        · unfold fX12_goat fX12_isGoat
          rw [iR5 hX, (tC_herd hC).1, cWithin, c1, if_neg (by decide), if_neg (by decide), if_pos (by decide), gRd (by omega), gBd, h11, cAns, gB2]
        · unfold fX14_goat
          rw [gNm, m_isGoat (iI hX 0), c1, gBd, if_neg (by decide), hw6, c2, if_neg (by decide), hlp, gBd, if_neg (by decide), if_pos (by decide), b1, gBd, gRd (by omega), gBd, tM_7 (b3' 0) (by omega), mGood, gB2]
      · refine ⟨5000, nI (T 10 g), goWI M 0 8 0, _, ?_, ?_, iNo hX (w := 0) (by decide)⟩
        · unfold fX12_goat fX12_isGoat
          rw [iR5 hX, (tC_herd hC).1, cWithin, c1, if_neg (by decide), if_neg (by decide), if_neg (by decide), if_pos (by decide), gRd (by omega), gBd, tC_start hC g (by omega), o23, cAns, gB2]
        · unfold fX14_goat
          rw [gNm, m_isGoat (iI hX 0), c1, gBd, if_neg (by decide), hw6, c2, if_neg (by decide), hlp, gBd, if_neg (by decide), if_neg (by decide), if_pos (by decide), b1, gBd, gRd (by omega), gBd, tM_10 (b3' 0) (by omega), mGood, gB2]
      · refine ⟨5000, nI (T 11 g), goWI M 0 8 0, _, ?_, ?_, iNo hX (w := 0) (by decide)⟩
        · unfold fX12_goat fX12_isGoat
          rw [iR5 hX, (tC_herd hC).1, cWithin, c1, if_neg (by decide), if_neg (by decide), if_neg (by decide), if_neg (by decide), if_pos (by decide), gRd (by omega), gBd, h13, cAns, gB2]
        · unfold fX14_goat
          rw [gNm, m_isGoat (iI hX 0), c1, gBd, if_neg (by decide), hw6, c2, if_neg (by decide), hlp, gBd, if_neg (by decide), if_neg (by decide), if_neg (by decide), if_pos (by decide), b1, gBd, gRd (by omega), gBd, tM_11 (b3' 0) (by omega), mGood, gB2]
      · refine ⟨5000, nI (T 12 g), goWI M 0 8 0, _, ?_, ?_, iNo hX (w := 0) (by decide)⟩
        · unfold fX12_goat fX12_isGoat
          rw [iR5 hX, (tC_herd hC).1, cWithin, c1, if_neg (by decide), if_neg (by decide), if_neg (by decide), if_neg (by decide), if_neg (by decide), if_pos (by decide), gRd (by omega), gBd, tC_fears hC g (by omega), cAns, gB2]
        · unfold fX14_goat
          rw [gNm, m_isGoat (iI hX 0), c1, gBd, if_neg (by decide), hw6, c2, if_neg (by decide), hlp, gBd, if_neg (by decide), if_neg (by decide), if_neg (by decide), if_neg (by decide), if_pos (by decide), b1, gBd, gRd (by omega), gBd, tM_12 (b3' 0) (by omega), mGood, gB2]
      · refine ⟨5000, nI (gPc (tCl T (2 ^ g))), goWI M 0 8 0, _, ?_, ?_, iNo hX (w := 0) (by decide)⟩
        · unfold fX12_goat fX12_isGoat
          rw [iR5 hX, (tC_herd hC).1, cWithin, c1, if_neg (by decide), if_neg (by decide), if_neg (by decide), if_neg (by decide), if_neg (by decide), if_neg (by decide), if_pos (by decide), gI_shl1 (by omega), cl, gBd, gPc_bc _ (by omega), cAns, gB2]
        · unfold fX14_goat
          rw [gNm, m_isGoat (iI hX 0), c1, gBd, if_neg (by decide), hw6, c2, if_neg (by decide), hlp, gBd, if_neg (by decide), if_neg (by decide), if_neg (by decide), if_neg (by decide), if_neg (by decide), if_pos (by decide), mGood, gB2, pc]
      · refine ⟨5000, nI ((A 25).testBit g).toNat, goWI M 0 8 0, _, ?_, ?_, iNo hX (w := 0) (by decide)⟩
        · unfold fX12_goat fX12_isGoat
          have hA25 := hAB.2.2.2.2.2.2
          rw [iR5 hX, (tC_herd hC).1, cWithin, c1, if_neg (by decide), if_neg (by decide), if_neg (by decide), if_neg (by decide), if_neg (by decide), if_neg (by decide), if_neg (by decide), if_pos (by decide), gL_25, gRd (by decide), gBd, hA, gI_bit (by omega) (by omega), cAns, gB2]
        · unfold fX14_goat fX14_isHeard
          have hA25 := hAB.2.2.2.2.2.2
          have hB25 := hAB.2.2.1
          have hz2 : ∀ x : Bool, goZr (nI x.toNat) = some (nI x.toNat) := fun x => by cases x <;> rfl
          have hr : goRd (goWI (goWI M 0 8 0) 102 0 0) 105 18 17 = some (nI (B 17)) := by
            rw [gL_17, gRd (by decide), gWI_na (by decide), gWI_na (by decide), hv]
          rw [gNm, m_isGoat (iI hX 0), c1, gBd, if_neg (by decide), hw6, c2, if_neg (by decide), hlp, gBd, if_neg (by decide), if_neg (by decide), if_neg (by decide), if_neg (by decide), if_neg (by decide), if_neg (by decide), hr, gBd, gI_bit14 (by omega) (by omega), hz2, gBd, gBd, ← hB25]
          cases (A 25).testBit g <;> rfl
    · rw [Bool.not_eq_true] at c2
      have hne : ∀ j, j < 7 → ¬ a2 = nI j := fun j hj e => by
        rw [e, wi_n hj (by decide)] at c2
        cases c2
      refine ⟨5000, -1, goWI M 0 8 1, _, ?_, ?_, iNo hX (w := 1) (by decide)⟩
      · unfold fX12_goat fX12_isGoat
        rw [iR5 hX, (tC_herd hC).1, cWithin, c1, if_neg (by decide), if_neg (show ¬ a2 = 0 from hne 0 (by decide)), if_neg (show ¬ a2 = 1 from hne 1 (by decide)), if_neg (show ¬ a2 = 2 from hne 2 (by decide)), if_neg (show ¬ a2 = 3 from hne 3 (by decide)), if_neg (show ¬ a2 = 4 from hne 4 (by decide)), if_neg (show ¬ a2 = 5 from hne 5 (by decide)), if_neg (show ¬ a2 = 6 from hne 6 (by decide)), cRef, gB2]
      · unfold fX14_goat
        rw [gNm, m_isGoat (iI hX 1), c1, gBd, if_neg (by decide), show fX14_within a2 0 6 = nI (wi a2 7).toNat from mWithin (m := 6) (by decide), c2, if_pos (by decide), mRef, gB2]
  · rw [Bool.not_eq_true] at c1
    refine ⟨5000, -1, goWI M 0 8 1, _, ?_, ?_, iNo hX (w := 1) (by decide)⟩
    · unfold fX12_goat fX12_isGoat
      rw [iR5 hX, (tC_herd hC).1, cWithin, c1, if_pos (by decide), cRef, gB2]
    · unfold fX14_goat
      rw [gNm, m_isGoat (iI hX 1), c1, gBd, if_pos (by decide), mRef, gB2]
theorem go_likes : goS_likes gInv := by
  rintro k G M L R a1 a2 ⟨t, T, A, B, hX⟩ hk
  have hI := iM_b hX.2.2.2.1
  have hC := hX.2.2.1
  by_cases c1 : wi a1 (T 0 5) = true
  · obtain ⟨g, hg, rfl⟩ := wi_t (by omega) c1
    obtain ⟨b, b1, b2, b3, b4⟩ := iM_some hX.2.2.2.1 (i := 0) (j := 5) (by omega)
    have b3' := fun w => tM_w (w := w) b2 b3
    have hz := tO_sz b4
    obtain ⟨h10, h11, h13, h16, h15⟩ := tC_goats hC g hg
    obtain ⟨o6, o7, o8, o10, o23, o11, o11', o9⟩ := tO_goat b4 g hg
    by_cases c2 : wi a2 (T 8 g) = true
    · obtain ⟨i, hi, rfl⟩ := wi_t (by omega) c2
      refine ⟨5000, nI (T 9 (4 * g + i)), goWI M 0 8 0, _, ?_, ?_, iNo hX (w := 0) (by decide)⟩
      · unfold fX12_likes fX12_isGoat
        rw [iR5 hX, (tC_herd hC).1, cWithin, c1, if_neg (by decide), gRd (by omega), gBd, h16, cWithin, c2, if_neg (by decide), gL_4, gM_4, nI_add, gRd (by omega), gBd, h15 i hi, cAns, gB2]
      · unfold fX14_likes
        rw [gNm, m_isGoat (iI hX 0), c1, gBd, if_neg (by decide), if_pos (nI_pos' (by omega)), b1, gBd, gRd (by omega), gBd, tM_8 (b3' 0) (by omega), if_pos (nI_lt hi (by omega)), gBd, gL_4, gN_4, nI_add, gRd (by omega), gBd, tM_9 (b3' 0) (by omega), mGood, gB2]
    · rw [Bool.not_eq_true] at c2
      refine ⟨5000, -1, goWI M 0 8 1, _, ?_, ?_, iNo hX (w := 1) (by decide)⟩
      · unfold fX12_likes fX12_isGoat
        rw [iR5 hX, (tC_herd hC).1, cWithin, c1, if_neg (by decide), gRd (by omega), gBd, h16, cWithin, c2, if_pos (by decide), cRef, gB2]
      · unfold wi at c2
        rw [decide_eq_false_iff_not] at c2
        unfold fX14_likes
        rw [gNm, m_isGoat (iI hX 1), c1, gBd, if_neg (by decide)]
        by_cases c3 : 0 ≤ a2
        · rw [if_pos c3, b1, gBd, gRd (by omega), gBd, tM_8 (b3' 1) (by omega), if_neg (fun h => c2 ⟨c3, h⟩), mRef, gB2]
        · rw [if_neg c3, mRef, gB2]
  · rw [Bool.not_eq_true] at c1
    refine ⟨5000, -1, goWI M 0 8 1, _, ?_, ?_, iNo hX (w := 1) (by decide)⟩
    · unfold fX12_likes fX12_isGoat
      rw [iR5 hX, (tC_herd hC).1, cWithin, c1, if_pos (by decide), cRef, gB2]
    · unfold fX14_likes
      rw [gNm, m_isGoat (iI hX 1), c1, gBd, if_pos (by decide), mRef, gB2]
theorem go_clue : goS_clue gInv := by
  rintro k G M L R a1 a2 ⟨t, T, A, B, hX⟩ hk
  have hI := iM_b hX.2.2.2.1
  have hC := hX.2.2.1
  by_cases c1 : wi a1 (T 0 7) = true
  · obtain ⟨c, hc, rfl⟩ := wi_t (by omega) c1
    obtain ⟨b, b1, b2, b3, b4⟩ := iM_some hX.2.2.2.1 (i := 0) (j := 7) (by omega)
    have b3' := fun w => tM_w (w := w) b2 b3
    obtain ⟨c13, c14, c15, c16⟩ := tC_clues hC c hc
    have hw3 : ∀ x, fX14_within x 0 3 = nI (wi x 4).toNat := fun x => mWithin (m := 3) (by decide)
    by_cases c2 : wi a2 4 = true
    · obtain ⟨j, hj, rfl⟩ := wi_t (by omega) c2
      have hj4 : j = 0 ∨ j = 1 ∨ j = 2 ∨ j = 3 := by omega
      rcases hj4 with e | e | e | e <;> subst e
      · refine ⟨5000, nI (T 13 c), goWI M 0 8 0, _, ?_, ?_, iNo hX (w := 0) (by decide)⟩
        · unfold fX12_clue
          rw [iR5 hX, (tC_herd hC).2, cWithin, c1, if_neg (by decide), if_pos (by decide), gRd (by omega), gBd, c13, cAns, gB2]
        · unfold fX14_clue
          rw [gNm, m_isClue (iI hX 0), c1, gBd, if_neg (by decide), hw3, c2, if_neg (by decide), if_pos (by decide), b1, gBd, gRd (by omega), gBd, tM_13 (b3' 0) (by omega), gBd, mGood, gB2]
      · refine ⟨5000, nI (T 14 c), goWI M 0 8 0, _, ?_, ?_, iNo hX (w := 0) (by decide)⟩
        · unfold fX12_clue
          rw [iR5 hX, (tC_herd hC).2, cWithin, c1, if_neg (by decide), if_neg (by decide), if_pos (by decide), gRd (by omega), gBd, c14, cAns, gB2]
        · unfold fX14_clue
          rw [gNm, m_isClue (iI hX 0), c1, gBd, if_neg (by decide), hw3, c2, if_neg (by decide), if_neg (by decide), if_pos (by decide), b1, gBd, gRd (by omega), gBd, tM_14 (b3' 0) (by omega), gBd, mGood, gB2]
      · refine ⟨5000, nI (T 15 c), goWI M 0 8 0, _, ?_, ?_, iNo hX (w := 0) (by decide)⟩
        · unfold fX12_clue
          rw [iR5 hX, (tC_herd hC).2, cWithin, c1, if_neg (by decide), if_neg (by decide), if_neg (by decide), if_pos (by decide), gRd (by omega), gBd, c15, cAns, gB2]
        · unfold fX14_clue
          rw [gNm, m_isClue (iI hX 0), c1, gBd, if_neg (by decide), hw3, c2, if_neg (by decide), if_neg (by decide), if_neg (by decide), if_pos (by decide), b1, gBd, gRd (by omega), gBd, tM_15 (b3' 0) (by omega), gBd, mGood, gB2]
      · refine ⟨5000, nI (T 16 c), goWI M 0 8 0, _, ?_, ?_, iNo hX (w := 0) (by decide)⟩
        · unfold fX12_clue
          rw [iR5 hX, (tC_herd hC).2, cWithin, c1, if_neg (by decide), if_neg (by decide), if_neg (by decide), if_neg (by decide), if_pos (by decide), gRd (by omega), gBd, c16, cAns, gB2]
        · unfold fX14_clue
          rw [gNm, m_isClue (iI hX 0), c1, gBd, if_neg (by decide), hw3, c2, if_neg (by decide), if_neg (by decide), if_neg (by decide), if_neg (by decide), b1, gBd, gRd (by omega), gBd, tM_16 (b3' 0) (by omega), gBd, mGood, gB2]
    · rw [Bool.not_eq_true] at c2
      have hne : ∀ j, j < 4 → ¬ a2 = nI j := fun j hj e => by
        rw [e, wi_n hj (by decide)] at c2
        cases c2
      refine ⟨5000, -1, goWI M 0 8 1, _, ?_, ?_, iNo hX (w := 1) (by decide)⟩
      · unfold fX12_clue
        rw [iR5 hX, (tC_herd hC).2, cWithin, c1, if_neg (by decide), if_neg (show ¬ a2 = 0 from hne 0 (by decide)), if_neg (show ¬ a2 = 1 from hne 1 (by decide)), if_neg (show ¬ a2 = 2 from hne 2 (by decide)), if_neg (show ¬ a2 = 3 from hne 3 (by decide)), cRef, gB2]
      · unfold fX14_clue
        rw [gNm, m_isClue (iI hX 1), c1, gBd, if_neg (by decide), hw3, c2, if_pos (by decide), mRef, gB2]
  · rw [Bool.not_eq_true] at c1
    refine ⟨5000, -1, goWI M 0 8 1, _, ?_, ?_, iNo hX (w := 1) (by decide)⟩
    · unfold fX12_clue
      rw [iR5 hX, (tC_herd hC).2, cWithin, c1, if_pos (by decide), cRef, gB2]
    · unfold fX14_clue
      rw [gNm, m_isClue (iI hX 1), c1, gBd, if_pos (by decide), mRef, gB2]
theorem go_story : goS_story gInv := by
  rintro k G M L R a1 a2 a3 ⟨t, T, A, B, hX⟩ hk
  have hI := iM_b hX.2.2.2.1
  have hC := hX.2.2.1
  by_cases c1 : wi a1 (T 0 4) = true
  · obtain ⟨p, hp, rfl⟩ := wi_t (by omega) c1
    obtain ⟨b, b1, b2, b3, b4⟩ := iM_some hX.2.2.2.1 (i := 0) (j := 4) (by omega)
    have b3' := fun w => tM_w (w := w) b2 b3
    have o4 := tO_stories b4 p (by omega)
    have h5 := tC_stories hC p (by omega)
    by_cases c2 : wi a2 (T 4 p) = true
    · obtain ⟨i, hi, rfl⟩ := wi_t (by omega) c2
      have hnle : ¬ nI (T 4 p) ≤ nI i := nI_ge hi (by omega)
      by_cases c3 : wi a3 (T 0 0) = true
      · obtain ⟨h, hh, rfl⟩ := wi_t (by omega) c3
        refine ⟨5000, nI (T 5 (12 * (3 * p + i) + h)), goWI M 0 8 0, _, ?_, ?_, iNo hX (w := 0) (by decide)⟩
        · unfold fX12_story fX12_isPerson fX12_isHour
          rw [iR5 hX, tC_people hC, tC_hours hC, cWithin, c1, if_neg (by decide), gRd (by omega), gBd, h5, cWithin, c2, if_neg (by decide), cWithin, c3, if_neg (by decide), cToldPlace hC b4 (by omega) hi (by omega), gBd, cAns, gB2]
        · unfold fX14_story fX13_place
          rw [gNm, m_isPerson (iI hX 0), m_isHour b1 (b3' 0), c1, c3, gBd, if_neg (by decide), if_pos (nI_pos' (by omega)), b1, gBd, gRd (by omega), gBd, tM_4 (b3' 0) (by omega), if_neg hnle, gBd, if_neg (by decide), gBd, gL_3, gN_3, nI_add, gL_12, gM_12, nI_add, gRd (by omega), gBd, tM_5 (b3' 0) (by omega), gBd, mGood, gB2]
      · rw [Bool.not_eq_true] at c3
        refine ⟨5000, -1, goWI M 0 8 2, _, ?_, ?_, iNo hX (w := 2) (by decide)⟩
        · unfold fX12_story fX12_isPerson fX12_isHour
          rw [iR5 hX, tC_people hC, tC_hours hC, cWithin, c1, if_neg (by decide), gRd (by omega), gBd, h5, cWithin, c2, if_neg (by decide), cWithin, c3, if_pos (by decide), cRef, gB2]
        · unfold fX14_story
          rw [gNm, m_isPerson (iI hX 2), m_isHour b1 (b3' 2), c1, c3, gBd, if_neg (by decide), if_pos (nI_pos' (by omega)), b1, gBd, gRd (by omega), gBd, tM_4 (b3' 2) (by omega), if_neg hnle, gBd, if_pos (by decide), mRef, gB2]
    · rw [Bool.not_eq_true] at c2
      refine ⟨5000, -1, goWI M 0 8 1, _, ?_, ?_, iNo hX (w := 1) (by decide)⟩
      · unfold fX12_story fX12_isPerson
        rw [iR5 hX, tC_people hC, cWithin, c1, if_neg (by decide), gRd (by omega), gBd, h5, cWithin, c2, if_pos (by decide), cRef, gB2]
      · unfold wi at c2
        rw [decide_eq_false_iff_not] at c2
        unfold fX14_story
        rw [gNm, m_isPerson (iI hX 1), c1, gBd, if_neg (by decide)]
        by_cases c3 : 0 ≤ a2
        · rw [if_pos c3, b1, gBd, gRd (by omega), gBd, tM_4 (b3' 1) (by omega), if_pos (Int32.not_lt.mp (fun h => c2 ⟨c3, h⟩)), mRef, gB2]
        · rw [if_neg c3, mRef, gB2]
  · rw [Bool.not_eq_true] at c1
    refine ⟨5000, -1, goWI M 0 8 1, _, ?_, ?_, iNo hX (w := 1) (by decide)⟩
    · unfold fX12_story fX12_isPerson
      rw [iR5 hX, tC_people hC, cWithin, c1, if_pos (by decide), cRef, gB2]
    · unfold fX14_story
      rw [gNm, m_isPerson (iI hX 1), c1, gBd, if_pos (by decide), mRef, gB2]
