/-! SALT, DOGS, HEDGES, goats that are heard -/
theorem goNb_b (x : Int32) : ∃ is : Bool, goNb x = nI is.toNat := by
  unfold goNb
  by_cases h : x = 0
  · exact ⟨false, by rw [if_pos h]; rfl⟩
  · exact ⟨true, by rw [if_neg h]; rfl⟩
section acts3
variable {k : Nat} {G : goG} {M : goMI} {L : goML} {R : goMR} {t N : Nat} {T : tH} {A B : Nat → Nat}
theorem cCount3 (hN : 5000 ≤ N) (hA : ∀ i, i < 26 → M 4 i = nI (A i)) (hAb : ∀ i, i < 24 → A i < 256) {w : Nat} (hw : w ≤ 12) : fX1_countPut N M (nI w) = some (nI (aCnt A w)) := by
  unfold fX1_countPut
  have key : lX1_countPut_4 (nI w) M N 0 0 = some (nI (aCnt A w)) := by
    refine gUp (fun n i (x : Int32) => lX1_countPut_4 (nI w) M n x (nI i)) (fun i => nI (gSum (fun h => gPc (A (w + h))) i)) 12 _ ?_ ?_ N 0 (Nat.zero_le _) (by omega)
    · intro n h hh
      have := hAb (w + h) (by omega)
      show lX1_countPut_4 _ _ _ _ _ = lX1_countPut_4 _ _ _ _ _
      rw [lX1_countPut_4, gL_12, if_pos (nI_lt hh (by decide)), nI_add, gRd (by omega), gBd, hA _ (by omega), gPc_bc _ (by omega), nI_add, gNm, nI_1]
      rfl
    · intro n
      show lX1_countPut_4 _ _ _ _ _ = _
      rw [lX1_countPut_4, gL_12, if_neg (nI_nlt (Nat.le_refl _) (by decide))]
      rfl
  rw [key, gBd]
theorem mCount3 (hN : 5000 ≤ N) (hv : ∀ i, i < 18 → M 105 i = nI (B i)) (hBb : ∀ i, i < 16 → B i < 4096) {w : Nat} (hw : w ≤ 8) : fX14_spots N M (nI w) = some (nI (gSum (fun p => gPc (B (w + p))) 8)) := by
  unfold fX14_spots
  have key : lX14_spots_4 N (nI w) M N 0 0 = some (nI (gSum (fun p => gPc (B (w + p))) 8)) := by
    refine gUp (fun n i (x : Int32) => lX14_spots_4 N (nI w) M n x (nI i)) (fun i => nI (gSum (fun p => gPc (B (w + p))) i)) 8 _ ?_ ?_ N 0 (Nat.zero_le _) (by omega)
    · intro n h hh
      have := hBb (w + h) (by omega)
      show lX14_spots_4 _ _ _ _ _ _ = lX14_spots_4 _ _ _ _ _ _
      rw [lX14_spots_4, gL_8, if_pos (nI_lt hh (by decide)), nI_add, gRd (by omega), gBd, hv _ (by omega), gPc_bits (by omega) (by omega), gBd, nI_add, gNm, nI_1]
      rfl
    · intro n
      show lX14_spots_4 _ _ _ _ _ _ = _
      rw [lX14_spots_4, gL_8, if_neg (nI_nlt (Nat.le_refl _) (by decide))]
  rw [key, gBd]
/-- a bit is turned: both, with what is kept -/
theorem iFlip (hX : iX k G M L R t T A B) (hk : k < 4000) (hR : R 102 3 ≠ none) (hT : tOk T) {c p c' p' : Nat} {is : Bool} (hc : c < 26) (hp : p < 16) (hAc : A c < 2 ^ 31) (hb : (A c).testBit p = !is) (hc' : c' < 18) (hp' : p' < 32) (hS : aS (aF A c p) (aF B c' p')) :
    ∃ M1 M2, fX1_change M (nI c) (nI p) (nI is.toNat) = some (0, M1) ∧ fX14_keeps 5000 (goWI (goWI M1 0 8 0) 102 0 0) = some M2 ∧ M2 105 c' = nI (B c') ∧ (∀ b, 121 ≤ b → M1 b = M b) ∧ (∀ b, 103 ≤ b → M1 b = M b) ∧ gInv (k + 1) G (goWI (goWI (goWI M2 105 c' (nI (B c' ^^^ 2 ^ p'))) 102 1 0) 102 2 (-1)) L R := by
  obtain ⟨x1, x2, x3, x4, x5, x6, x7, x8, x9⟩ := id hX
  obtain ⟨i1, i2, i3, ⟨u, As, Bs, u1, u2, u3, u4, u5, u6, u7⟩, i5, i6⟩ := id x5
  obtain ⟨M1, c1, c2, c3, c4, c5, c6, c7, c8⟩ := cChange (M := M) (is := is) i1 hc hp hAc hb u1 u2
  have r102 : ∀ j, j ≠ 0 → goWI (goWI M1 0 8 0) 102 0 0 102 j = M 102 j := fun j hj => by rw [gWI_nk hj, goWI_ne (by decide), c2 102 (by decide) (by decide) (by decide)]
  have rr : ∀ b, b ≠ 0 → b ≠ 102 → goWI (goWI M1 0 8 0) 102 0 0 b = M1 b := fun b h0 h1 => by rw [goWI_ne h1, goWI_ne h0]
  obtain ⟨M2, m1, m2, m3, m4, m5, m6⟩ := mKeeps (M := goWI (goWI M1 0 8 0) 102 0 0) (N := 5000) (by decide) u1 (by rw [r102 21 (by decide)]; exact u3)
  have r105 : ∀ j, M2 105 j = M 105 j := fun j => by rw [m2 105 (by decide) (by decide), rr 105 (by decide) (by decide), c2 105 (by decide) (by decide) (by decide)]
  -- the rows at the end
  have z : ∀ b, b ≠ 102 → b ≠ 105 → b ≠ 106 → goWI (goWI (goWI M2 105 c' (nI (B c' ^^^ 2 ^ p'))) 102 1 0) 102 2 (-1) b = goWI M1 0 8 0 b := fun b h1 h2 h3 => by
    rw [goWI_ne h1, goWI_ne h1, goWI_ne h2, m2 b h1 h3, goWI_ne h1]
  have z102 : ∀ j, j ≠ 0 → j ≠ 1 → j ≠ 2 → j ≠ 21 → goWI (goWI (goWI M2 105 c' (nI (B c' ^^^ 2 ^ p'))) 102 1 0) 102 2 (-1) 102 j = M 102 j := fun j h0 h1 h2 h3 => by
    rw [gWI_nk h2, gWI_nk h1, gWI_na (by decide), m3 j h3, r102 j h0]
  have z106 : ∀ j, goWI (goWI (goWI M2 105 c' (nI (B c' ^^^ 2 ^ p'))) 102 1 0) 102 2 (-1) 106 j = M2 106 j := fun j => by
    rw [gWI_na (by decide), gWI_na (by decide), gWI_na (by decide)]
  have zi : ∀ b, b ≠ 0 → b ≠ 3 → b ≠ 4 → b ≠ 5 → b ≠ 102 → b ≠ 105 → b ≠ 106 → goWI (goWI (goWI M2 105 c' (nI (B c' ^^^ 2 ^ p'))) 102 1 0) 102 2 (-1) b = M b := fun b h0 h3 h4 h5 h1 h2 h6 => by
    rw [z b h1 h2 h6, goWI_ne h0, c2 b h3 h4 h5]
  refine ⟨M1, M2, c1, m1, by rw [r105]; exact i2 c' hc', fun b hb => c2 b (by omega) (by omega) (by omega), fun b hb => c2 b (by omega) (by omega) (by omega), ?_⟩
  have hIA : iA (goWI (goWI (goWI M2 105 c' (nI (B c' ^^^ 2 ^ p'))) 102 1 0) 102 2 (-1)) R (aF A c p) (aF B c' p') := by
    refine iA_push (M := M) (u := u) (As := As) (Bs := Bs) x5 hR u1 u5 u6 u7 hc hp hS ?_ ?_ ?_ ?_ ?_ ?_ ?_ ?_ ?_ ?_ ?_ ?_
    · intro i hi; rw [z 4 (by decide) (by decide) (by decide), gWI_na (by decide)]; exact c6 i hi
    · intro i hi
      rw [gWI_na (by decide), gWI_na (by decide), gWI_self]
      unfold aF
      by_cases e : i = c'
      · rw [if_pos e, if_pos e, e]
      · rw [if_neg e, if_neg e, r105]; exact i2 i hi
    · rw [z 3 (by decide) (by decide) (by decide), gWI_na (by decide)]; exact c4
    · rw [gWI_nk (by decide), gWI_nk (by decide), gWI_na (by decide)]; exact m4
    · rw [z 3 (by decide) (by decide) (by decide), gWI_na (by decide)]; exact c3 4 (by decide) (by decide)
    · exact z102 22 (by decide) (by decide) (by decide) (by decide)
    · intro i hi; rw [z 5 (by decide) (by decide) (by decide), gWI_na (by decide)]; exact c7 i hi
    · rw [z 5 (by decide) (by decide) (by decide), gWI_na (by decide)]; exact c8
    · intro i j hi hj
      rw [z106, m5 i j hi hj, rr 106 (by decide) (by decide), c2 106 (by decide) (by decide) (by decide)]
    · intro j hj
      rw [z106, m6 j hj, rr 105 (by decide) (by decide), c2 105 (by decide) (by decide) (by decide)]
    · exact zi 6 (by decide) (by decide) (by decide) (by decide) (by decide) (by decide) (by decide)
    · exact zi 107 (by decide) (by decide) (by decide) (by decide) (by decide) (by decide) (by decide)
  have hKO : kOk (k + 1) (goWI (goWI (goWI M2 105 c' (nI (B c' ^^^ 2 ^ p'))) 102 1 0) 102 2 (-1)) T (aF A c p) := by
    have h35 : goWI (goWI (goWI M2 105 c' (nI (B c' ^^^ 2 ^ p'))) 102 1 0) 102 2 (-1) 3 5 = if c = 25 then M 3 5 else M 3 5 + 1 := by rw [z 3 (by decide) (by decide) (by decide), gWI_na (by decide)]; exact c5
    by_cases c25 : c = 25
    · rw [if_pos c25] at h35
      have hsame : ∀ i, i < 25 → A i = aF A c p i := fun i hi => by unfold aF; rw [if_neg (by omega)]
      have h1 := kOk_congr hT hsame x8
      obtain ⟨⟨v, v1, v2, v3, v4⟩, k2, k3, k4, k5⟩ := h1
      have f74 : ∀ b, 74 ≤ b → b ≤ 101 → goWI (goWI (goWI M2 105 c' (nI (B c' ^^^ 2 ^ p'))) 102 1 0) 102 2 (-1) b = M b := fun b h1 h2 => zi b (by omega) (by omega) (by omega) (by omega) (by omega) (by omega) (by omega)
      refine ⟨⟨v, by omega, by rw [h35]; exact v2, by rw [f74 74 (by decide) (by decide)]; exact v3, by rw [f74 74 (by decide) (by decide)]; exact v4⟩, ?_, ?_, by rw [f74 84 (by decide) (by decide)]; exact k4, by rw [f74 98 (by decide) (by decide)]; exact k5⟩
      · rw [f74 74 (by decide) (by decide), h35]
        intro e
        obtain ⟨y, y1, y2, y3⟩ := k2 e
        exact ⟨y, y1, y2, dayIs_fr y3 (fun r h1 h2 => f74 _ (by omega) (by omega))⟩
      · rw [f74 74 (by decide) (by decide), h35, f74 75 (by decide) (by decide), f74 76 (by decide) (by decide)]
        exact k3
    · rw [if_neg c25] at h35
      exact kOk_new hk x8 h35 (fun b h1 h2 => zi b (by omega) (by omega) (by omega) (by omega) (by omega) (by omega) (by omega))
  refine iX_act (w := 0) hX (fun b h0 h3 h4 h5 h6 h7 h8 h9 h10 => zi b h0 h3 h4 h5 h7 h8 h9) ?_ ?_ (by decide) ?_ ?_ ?_ ?_ hIA hKO
  · rw [z 0 (by decide) (by decide) (by decide), gWI_nk (by decide), c2 0 (by decide) (by decide) (by decide)]
  · rw [z 0 (by decide) (by decide) (by decide), gWI_self, if_pos rfl]
  · rw [gWI_nk (by decide), gWI_self, if_pos rfl]
  · rw [gWI_self, if_pos rfl]
  · exact z102 6 (by decide) (by decide) (by decide) (by decide)
  · exact z102 14 (by decide) (by decide) (by decide) (by decide)
end acts3
theorem go_salt : goS_salt gInv := by
  rintro k G M L R a1 a2 a3 ⟨t, T, A, B, hX⟩ hk
  have hI := iM_b hX.2.2.2.1
  have hC := hX.2.2.1
  obtain ⟨is, his⟩ := goNb_b a3
  rw [his]
  obtain ⟨i1, i2, i3, i4, i5, i6⟩ := hX.2.2.2.2.1
  have hAB := i3.1
  by_cases c0 : wi a1 (T 0 2) = true
  · obtain ⟨p, hp, rfl⟩ := wi_t (by omega) c0
    obtain ⟨b, b1, b2, b3, b4⟩ := iM_some hX.2.2.2.1 (i := 0) (j := 2) (by omega)
    have b3' := fun w => tM_w (w := w) b2 b3
    by_cases c1 : wi a2 (T 0 0) = true
    · obtain ⟨h, hh, rfl⟩ := wi_t (by omega) c1
      have hAc := hAB.2.2.2.1 h (by omega)
      have hBc := hAB.2.2.2.2.1 p (by omega)
      have hbit := (hAB.1 h p (by omega) (by omega)).1
      have hcell : (0 : Int32) + nI h = nI h := by rw [gL_0, nI_add, Nat.zero_add]
      have hmid : (0 : Int32) + nI p = nI p := by rw [gL_0, nI_add, Nat.zero_add]
      by_cases c2 : (A h).testBit p = is
      · -- it is so already
        refine ⟨5000, 0, goWI M 0 8 5, _, ?_, ?_, iNo hX (w := 5) (by decide)⟩
        · unfold fX12_salt fX12_putOrTake fX12_isPlace fX12_isHour
          rw [iR5 hX, tC_places hC, tC_hours hC, cWithin, cWithin, c0, c1, if_neg (by decide), if_neg (by decide), hcell, cSame i1 (by omega) (by omega) (by omega) c2]
          cases is
          · rw [if_pos (by decide), gB2, gB2, cDoneW (by decide), gB2, gZ0, gBd]
          · rw [if_neg (by decide), gRd (by omega), gBd, i1 _ (by omega), gI_bit (by omega) (by omega), c2, if_neg (by decide), gB2, gB2, cDoneW (by decide), gB2, gZ0, gBd]
        · unfold fX14_salt fX14_puts
          have hr : goWI (goWI M 0 8 5) 102 0 0 105 p = nI (B p) := by rw [gWI_na (by decide), gWI_na (by decide)]; exact i2 _ (by omega)
          rw [gNm, m_isPlace (iI hX 5), m_isHour b1 (b3' 5), c0, c1, gBd, if_neg (by decide), gBd, if_neg (by decide), hmid, gRd (by omega), gBd, hr, gI_bit14 (by omega) (by omega), ← hbit, c2, if_pos rfl, mDen, gB2, gZ0, gBd, gB2, gZ0, gBd]
      · have c2' : (A h).testBit p = !is := by
          cases e1 : (A h).testBit p <;> cases is <;> simp_all
        have hcnt := aCnt_flip (A := A) (w := 0) (h := h) (p := p) (by omega) (by omega)
        rw [Nat.zero_add] at hcnt
        rw [c2'] at hcnt
        by_cases c3 : is = true ∧ aCnt A 0 = 4
        · -- no room
          obtain ⟨c3a, c3b⟩ := c3
          subst c3a
          refine ⟨5000, 0, goWI M 0 8 3, _, ?_, ?_, iNo hX (w := 3) (by decide)⟩
          · unfold fX12_salt fX12_putOrTake fX12_isPlace fX12_isHour
            have hct : fX1_countPut 5000 M 0 = some (nI 4) := by
              have := cCount3 (N := 5000) (w := 0) (by decide) i1 hAB.2.2.2.1 (by decide)
              rw [c3b] at this
              exact this
            rw [iR5 hX, tC_places hC, tC_hours hC, cWithin, cWithin, c0, c1, if_neg (by decide), if_neg (by decide), if_neg (by decide), hcell, gRd (by omega), gBd, i1 _ (by omega), gI_bit (by omega) (by omega), c2', if_pos (by decide), hct, gBd, if_pos (by decide), gB2, cDoneW (by decide), gB2, gZ0, gBd]
          · unfold fX14_salt fX14_puts
            have hr : goWI (goWI M 0 8 3) 102 0 0 105 p = nI (B p) := by rw [gWI_na (by decide), gWI_na (by decide)]; exact i2 _ (by omega)
            have hsp : fX14_spots 5000 (goWI (goWI M 0 8 3) 102 0 0) 0 = some (nI 4) := by
              have := mCount3 (N := 5000) (M := goWI (goWI M 0 8 3) 102 0 0) (B := B) (w := 0) (by decide) (fun i hi => by rw [gWI_na (by decide), gWI_na (by decide)]; exact i2 i hi) hAB.2.2.2.2.1 (by decide)
              rw [aCnt_B (A := A) (w := 0) (fun i hi => hAB.2.2.2.1 _ (by omega)) (fun h p hh hp => by rw [Nat.zero_add, Nat.zero_add]; exact (hAB.1 h p hh hp).1), c3b] at this
              exact this
            rw [gNm, m_isPlace (iI hX 3), m_isHour b1 (b3' 3), c0, c1, gBd, if_neg (by decide), gBd, if_neg (by decide), hmid, gRd (by omega), gBd, hr, gI_bit14 (by omega) (by omega), ← hbit, c2', if_neg (by decide), if_neg (by decide), hsp, gBd, if_pos (by decide), mDen, gB2, gZ0, gBd, gB2, gZ0, gBd]
        · -- it is done
          have hS : aS (aF A h p) (aF B p h) := by
            refine ⟨aB_put hAB (by omega) (by omega), ?_, ?_⟩
            · have := i3.2.1; cases is <;> simp_all <;> omega
            · rw [aCnt_other (fun i hi => by omega)]; exact i3.2.2
          obtain ⟨M1, M2, f1, f2, f3, f4, f5, f6⟩ := iFlip hX hk (by rw [b1]; simp) b4 (c := h) (p := p) (c' := p) (p' := h) (is := is) (by omega) (by omega) (by omega) c2' (by omega) (by omega) hS
          have bI : iM (goWI (goWI M1 0 8 0) 102 0 0) R T := iM_fr hX.2.2.2.1 (fun b hb => by rw [goWI_ne (by omega), goWI_ne (by omega)]; exact f4 b hb)
          have bM : tM (goWI (goWI M1 0 8 0) 102 0 0) b T := tM_fr b3 (fun r hr => by rw [goWI_ne (by omega), goWI_ne (by omega)]; exact f4 _ (by omega))
          refine ⟨5000, 1, goWI M1 0 8 0, _, ?_, ?_, f6⟩
          · unfold fX12_salt fX12_putOrTake fX12_isPlace fX12_isHour
            rw [iR5 hX, tC_places hC, tC_hours hC, cWithin, cWithin, c0, c1, if_neg (by decide), if_neg (by decide), hcell, f1]
            cases is
            · rw [if_pos (by decide), gB2, gB2, cDone0, gB2, gZ1, gBd]
            · have hct := cCount3 (N := 5000) (w := 0) (by decide) i1 hAB.2.2.2.1 (by decide)
              have hct' : fX1_countPut 5000 M 0 = some (nI (aCnt A 0)) := hct
              have hne : aCnt A 0 < 4 := by have := i3.2.1; simp at c3; omega
              rw [if_neg (by decide), gRd (by omega), gBd, i1 _ (by omega), gI_bit (by omega) (by omega), c2', if_pos (by decide), hct', gBd, if_neg (show ¬ (4 : Int32) ≤ nI (aCnt A 0) from nI_ge hne (by decide)), gB2, gB2, cDone0, gB2, gZ1, gBd]
          · unfold fX14_salt fX14_puts
            have hr : goWI (goWI M1 0 8 0) 102 0 0 105 p = nI (B p) := by rw [gWI_na (by decide), gWI_na (by decide), f5 105 (by decide)]; exact i2 _ (by omega)
            have hx : nI (B p) ^^^ (1 <<< (nI h &&& 31)) = nI (B p ^^^ 2 ^ h) := by rw [gI_shl1 (by omega), gI_xor]
            rw [gNm, m_isPlace bI, m_isHour b1 bM, c0, c1, gBd, if_neg (by decide), gBd, if_neg (by decide), hmid, gRd (by omega), gBd, hr, gI_bit14 (by omega) (by omega), ← hbit, c2', f2, gBd, gRd (by omega), gBd, f3, hx, gWr (by omega), gBd, mGra, gB2, gZ1, gBd]
            cases is
            · rw [if_neg (by decide), if_pos (by decide), gB2, gZ1, gBd]
            · have hsp : fX14_spots 5000 (goWI (goWI M1 0 8 0) 102 0 0) 0 = some (nI (aCnt A 0)) := by
                have := mCount3 (N := 5000) (M := goWI (goWI M1 0 8 0) 102 0 0) (B := B) (w := 0) (by decide) (fun i hi => by rw [gWI_na (by decide), gWI_na (by decide), f5 105 (by decide)]; exact i2 i hi) hAB.2.2.2.2.1 (by decide)
                rw [aCnt_B (A := A) (w := 0) (fun i hi => hAB.2.2.2.1 _ (by omega)) (fun h p hh hp => by rw [Nat.zero_add, Nat.zero_add]; exact (hAB.1 h p hh hp).1)] at this
                exact this
              have hne : aCnt A 0 < 4 := by have := i3.2.1; simp at c3; omega
              rw [if_neg (by decide), if_neg (by decide), hsp, gBd, if_neg (show ¬ nI (aCnt A 0) = 4 from fun e => by have := (nI_eq (a := aCnt A 0) (b := 4) (by omega) (by decide)).mp e; omega), gB2, gZ1, gBd]
    · rw [Bool.not_eq_true] at c1
      refine ⟨5000, 0, goWI M 0 8 2, _, ?_, ?_, iNo hX (w := 2) (by decide)⟩
      · unfold fX12_salt fX12_putOrTake fX12_isPlace fX12_isHour
        rw [iR5 hX, tC_places hC, tC_hours hC, cWithin, cWithin, c0, c1, if_neg (by decide), if_pos (by decide), gB2, cDoneW (by decide), gB2, gZ0, gBd]
      · unfold fX14_salt fX14_puts
        rw [gNm, m_isPlace (iI hX 2), m_isHour b1 (b3' 2), c0, c1, gBd, if_neg (by decide), gBd, if_pos (by decide), mDen, gB2, gZ0, gBd, gB2, gZ0, gBd]
  · rw [Bool.not_eq_true] at c0
    refine ⟨5000, 0, goWI M 0 8 1, _, ?_, ?_, iNo hX (w := 1) (by decide)⟩
    · unfold fX12_salt fX12_putOrTake fX12_isPlace
      rw [iR5 hX, tC_places hC, cWithin, c0, if_pos (by decide), gB2, cDoneW (by decide), gB2, gZ0, gBd]
    · unfold fX14_salt fX14_puts
      rw [gNm, m_isPlace (iI hX 1), c0, gBd, if_pos (by decide), mDen, gB2, gZ0, gBd, gB2, gZ0, gBd]
theorem go_dog : goS_dog gInv := by
  rintro k G M L R a1 a2 a3 ⟨t, T, A, B, hX⟩ hk
  have hI := iM_b hX.2.2.2.1
  have hC := hX.2.2.1
  obtain ⟨is, his⟩ := goNb_b a3
  rw [his]
  obtain ⟨i1, i2, i3, i4, i5, i6⟩ := hX.2.2.2.2.1
  have hAB := i3.1
  by_cases c0 : wi a1 (T 0 2) = true
  · obtain ⟨p, hp, rfl⟩ := wi_t (by omega) c0
    obtain ⟨b, b1, b2, b3, b4⟩ := iM_some hX.2.2.2.1 (i := 0) (j := 2) (by omega)
    have b3' := fun w => tM_w (w := w) b2 b3
    by_cases c1 : wi a2 (T 0 0) = true
    · obtain ⟨h, hh, rfl⟩ := wi_t (by omega) c1
      have hAc := hAB.2.2.2.1 (12 + h) (by omega)
      have hBc := hAB.2.2.2.2.1 (8 + p) (by omega)
      have hbit := (hAB.1 h p (by omega) (by omega)).2
      have hcell : (12 : Int32) + nI h = nI (12 + h) := by rw [gL_12, nI_add]
      have hmid : (8 : Int32) + nI p = nI (8 + p) := by rw [gL_8, nI_add]
      by_cases c2 : (A (12 + h)).testBit p = is
      · -- it is so already
        refine ⟨5000, 0, goWI M 0 8 5, _, ?_, ?_, iNo hX (w := 5) (by decide)⟩
        · unfold fX12_dog fX12_putOrTake fX12_isPlace fX12_isHour
          rw [iR5 hX, tC_places hC, tC_hours hC, cWithin, cWithin, c0, c1, if_neg (by decide), if_neg (by decide), hcell, cSame i1 (by omega) (by omega) (by omega) c2]
          cases is
          · rw [if_pos (by decide), gB2, gB2, cDoneW (by decide), gB2, gZ0, gBd]
          · rw [if_neg (by decide), gRd (by omega), gBd, i1 _ (by omega), gI_bit (by omega) (by omega), c2, if_neg (by decide), gB2, gB2, cDoneW (by decide), gB2, gZ0, gBd]
        · unfold fX14_dog fX14_puts
          have hr : goWI (goWI M 0 8 5) 102 0 0 105 (8 + p) = nI (B (8 + p)) := by rw [gWI_na (by decide), gWI_na (by decide)]; exact i2 _ (by omega)
          rw [gNm, m_isPlace (iI hX 5), m_isHour b1 (b3' 5), c0, c1, gBd, if_neg (by decide), gBd, if_neg (by decide), hmid, gRd (by omega), gBd, hr, gI_bit14 (by omega) (by omega), ← hbit, c2, if_pos rfl, mDen, gB2, gZ0, gBd, gB2, gZ0, gBd]
      · have c2' : (A (12 + h)).testBit p = !is := by
          cases e1 : (A (12 + h)).testBit p <;> cases is <;> simp_all
        have hcnt := aCnt_flip (A := A) (w := 12) (h := h) (p := p) (by omega) (by omega)
        skip
        rw [c2'] at hcnt
        by_cases c3 : is = true ∧ aCnt A 12 = 4
        · -- no room
          obtain ⟨c3a, c3b⟩ := c3
          subst c3a
          refine ⟨5000, 0, goWI M 0 8 3, _, ?_, ?_, iNo hX (w := 3) (by decide)⟩
          · unfold fX12_dog fX12_putOrTake fX12_isPlace fX12_isHour
            have hct : fX1_countPut 5000 M 12 = some (nI 4) := by
              have := cCount3 (N := 5000) (w := 12) (by decide) i1 hAB.2.2.2.1 (by decide)
              rw [c3b] at this
              exact this
            rw [iR5 hX, tC_places hC, tC_hours hC, cWithin, cWithin, c0, c1, if_neg (by decide), if_neg (by decide), if_neg (by decide), hcell, gRd (by omega), gBd, i1 _ (by omega), gI_bit (by omega) (by omega), c2', if_pos (by decide), hct, gBd, if_pos (by decide), gB2, cDoneW (by decide), gB2, gZ0, gBd]
          · unfold fX14_dog fX14_puts
            have hr : goWI (goWI M 0 8 3) 102 0 0 105 (8 + p) = nI (B (8 + p)) := by rw [gWI_na (by decide), gWI_na (by decide)]; exact i2 _ (by omega)
            have hsp : fX14_spots 5000 (goWI (goWI M 0 8 3) 102 0 0) 8 = some (nI 4) := by
              have := mCount3 (N := 5000) (M := goWI (goWI M 0 8 3) 102 0 0) (B := B) (w := 8) (by decide) (fun i hi => by rw [gWI_na (by decide), gWI_na (by decide)]; exact i2 i hi) hAB.2.2.2.2.1 (by decide)
              rw [aCnt_B (A := A) (w := 12) (fun i hi => hAB.2.2.2.1 _ (by omega)) (fun h p hh hp => by exact (hAB.1 h p hh hp).2), c3b] at this
              exact this
            rw [gNm, m_isPlace (iI hX 3), m_isHour b1 (b3' 3), c0, c1, gBd, if_neg (by decide), gBd, if_neg (by decide), hmid, gRd (by omega), gBd, hr, gI_bit14 (by omega) (by omega), ← hbit, c2', if_neg (by decide), if_neg (by decide), hsp, gBd, if_pos (by decide), mDen, gB2, gZ0, gBd, gB2, gZ0, gBd]
        · -- it is done
          have hS : aS (aF A (12 + h) p) (aF B (8 + p) h) := by
            refine ⟨aB_dog hAB (by omega) (by omega), ?_, ?_⟩
            · rw [aCnt_other (fun i hi => by omega)]; exact i3.2.1
            · have := i3.2.2; cases is <;> simp_all <;> omega
          obtain ⟨M1, M2, f1, f2, f3, f4, f5, f6⟩ := iFlip hX hk (by rw [b1]; simp) b4 (c := (12 + h)) (p := p) (c' := (8 + p)) (p' := h) (is := is) (by omega) (by omega) (by omega) c2' (by omega) (by omega) hS
          have bI : iM (goWI (goWI M1 0 8 0) 102 0 0) R T := iM_fr hX.2.2.2.1 (fun b hb => by rw [goWI_ne (by omega), goWI_ne (by omega)]; exact f4 b hb)
          have bM : tM (goWI (goWI M1 0 8 0) 102 0 0) b T := tM_fr b3 (fun r hr => by rw [goWI_ne (by omega), goWI_ne (by omega)]; exact f4 _ (by omega))
          refine ⟨5000, 1, goWI M1 0 8 0, _, ?_, ?_, f6⟩
          · unfold fX12_dog fX12_putOrTake fX12_isPlace fX12_isHour
            rw [iR5 hX, tC_places hC, tC_hours hC, cWithin, cWithin, c0, c1, if_neg (by decide), if_neg (by decide), hcell, f1]
            cases is
            · rw [if_pos (by decide), gB2, gB2, cDone0, gB2, gZ1, gBd]
            · have hct := cCount3 (N := 5000) (w := 12) (by decide) i1 hAB.2.2.2.1 (by decide)
              have hct' : fX1_countPut 5000 M 12 = some (nI (aCnt A 12)) := hct
              have hne : aCnt A 12 < 4 := by have := i3.2.2; simp at c3; omega
              rw [if_neg (by decide), gRd (by omega), gBd, i1 _ (by omega), gI_bit (by omega) (by omega), c2', if_pos (by decide), hct', gBd, if_neg (show ¬ (4 : Int32) ≤ nI (aCnt A 12) from nI_ge hne (by decide)), gB2, gB2, cDone0, gB2, gZ1, gBd]
          · unfold fX14_dog fX14_puts
            have hr : goWI (goWI M1 0 8 0) 102 0 0 105 (8 + p) = nI (B (8 + p)) := by rw [gWI_na (by decide), gWI_na (by decide), f5 105 (by decide)]; exact i2 _ (by omega)
            have hx : nI (B (8 + p)) ^^^ (1 <<< (nI h &&& 31)) = nI (B (8 + p) ^^^ 2 ^ h) := by rw [gI_shl1 (by omega), gI_xor]
            rw [gNm, m_isPlace bI, m_isHour b1 bM, c0, c1, gBd, if_neg (by decide), gBd, if_neg (by decide), hmid, gRd (by omega), gBd, hr, gI_bit14 (by omega) (by omega), ← hbit, c2', f2, gBd, gRd (by omega), gBd, f3, hx, gWr (by omega), gBd, mGra, gB2, gZ1, gBd]
            cases is
            · rw [if_neg (by decide), if_pos (by decide), gB2, gZ1, gBd]
            · have hsp : fX14_spots 5000 (goWI (goWI M1 0 8 0) 102 0 0) 8 = some (nI (aCnt A 12)) := by
                have := mCount3 (N := 5000) (M := goWI (goWI M1 0 8 0) 102 0 0) (B := B) (w := 8) (by decide) (fun i hi => by rw [gWI_na (by decide), gWI_na (by decide), f5 105 (by decide)]; exact i2 i hi) hAB.2.2.2.2.1 (by decide)
                rw [aCnt_B (A := A) (w := 12) (fun i hi => hAB.2.2.2.1 _ (by omega)) (fun h p hh hp => by exact (hAB.1 h p hh hp).2)] at this
                exact this
              have hne : aCnt A 12 < 4 := by have := i3.2.2; simp at c3; omega
              rw [if_neg (by decide), if_neg (by decide), hsp, gBd, if_neg (show ¬ nI (aCnt A 12) = 4 from fun e => by have := (nI_eq (a := aCnt A 12) (b := 4) (by omega) (by decide)).mp e; omega), gB2, gZ1, gBd]
    · rw [Bool.not_eq_true] at c1
      refine ⟨5000, 0, goWI M 0 8 2, _, ?_, ?_, iNo hX (w := 2) (by decide)⟩
      · unfold fX12_dog fX12_putOrTake fX12_isPlace fX12_isHour
        rw [iR5 hX, tC_places hC, tC_hours hC, cWithin, cWithin, c0, c1, if_neg (by decide), if_pos (by decide), gB2, cDoneW (by decide), gB2, gZ0, gBd]
      · unfold fX14_dog fX14_puts
        rw [gNm, m_isPlace (iI hX 2), m_isHour b1 (b3' 2), c0, c1, gBd, if_neg (by decide), gBd, if_pos (by decide), mDen, gB2, gZ0, gBd, gB2, gZ0, gBd]
  · rw [Bool.not_eq_true] at c0
    refine ⟨5000, 0, goWI M 0 8 1, _, ?_, ?_, iNo hX (w := 1) (by decide)⟩
    · unfold fX12_dog fX12_putOrTake fX12_isPlace
      rw [iR5 hX, tC_places hC, cWithin, c0, if_pos (by decide), gB2, cDoneW (by decide), gB2, gZ0, gBd]
    · unfold fX14_dog fX14_puts
      rw [gNm, m_isPlace (iI hX 1), c0, gBd, if_pos (by decide), mDen, gB2, gZ0, gBd, gB2, gZ0, gBd]
