/-! THE DAY OF A CASE in a call -/
section dayof
variable {k : Nat} {G : goG} {M : goMI} {L : goML} {R : goMR} {t : Nat} {T : tH} {A B : Nat → Nat} {N : Nat}
theorem iR_a {a : Nat} (h : R a 1 = some t) : goRr R a 1 = t := by unfold goRr; rw [h]; rfl
theorem cDayOf (hN : 5000 ≤ N) (hR78 : R 78 1 = some t) (hR74 : R 74 2 = some t) (ht : t = 7 ∨ t = 37) (hC : tC M t T) (hT : tOk T) (hA : ∀ i, i < 26 → M 4 i = nI (A i)) (hAb : ∀ i, i < 24 → A i < 256) (hA24 : A 24 < 16384) (hk : kOk k M T A) {c : Nat} (hc : c < T 0 16) :
    ∃ M', fX4_dayOf N M R (nI c) = some M' ∧ dayIs M' 78 T A c ∧ kOk k M' T A ∧ (∀ b, b < 74 ∨ 88 ≤ b ∨ b = 75 ∨ b = 76 ∨ b = 77 → M' b = M b) ∧ ∀ j, j ≠ 7 → j ≠ 8 → M' 74 j = M 74 j := by
  have hz := tO_sz hT
  have hcs := tCases_le (T := T) (by omega) (tO_stories hT)
  obtain ⟨⟨v, v1, v2, v3, v4⟩, k2, k3, k4, k5⟩ := hk
  have run : ∃ M1 M2, fX3_prepare N M R 78 (nI c) = some M1 ∧ fX3_play N M1 R 78 0 ((M1 (goRr R 74 2) 0) - 1) = some M2 ∧ dayIs (goWI (goWI M2 74 7 (M2 3 5)) 74 8 (nI c)) 78 T A c ∧ kOk k (goWI (goWI M2 74 7 (M2 3 5)) 74 8 (nI c)) T A ∧ (∀ b, b < 74 ∨ 88 ≤ b ∨ b = 75 ∨ b = 76 ∨ b = 77 → goWI (goWI M2 74 7 (M2 3 5)) 74 8 (nI c) b = M b) ∧ ∀ j, j ≠ 7 → j ≠ 8 → goWI (goWI M2 74 7 (M2 3 5)) 74 8 (nI c) 74 j = M 74 j := by
    obtain ⟨M1, M2, e1, e2, e3, e4, e5⟩ := cDayRun (a := 78) hC hT (iR_a hR78) (by omega) (by omega) hN hA hAb hA24 k4 (c := c) (by omega)
    have fr : ∀ b, b ≠ 74 → goWI (goWI M2 74 7 (M2 3 5)) 74 8 (nI c) b = M2 b := fun b hb => by rw [goWI_ne hb, goWI_ne hb]
    have frM : ∀ b, b ≠ 74 → (b ≤ 78 ∨ 78 + 9 < b) → goWI (goWI M2 74 7 (M2 3 5)) 74 8 (nI c) b = M b := fun b hb hb' => by rw [fr b hb]; exact e4 b hb'
    have j74 : ∀ j, j ≠ 7 → j ≠ 8 → goWI (goWI M2 74 7 (M2 3 5)) 74 8 (nI c) 74 j = M 74 j := fun j h7 h8 => by rw [gWI_nk h8, gWI_nk h7, e4 74 (by decide)]
    have hd : dayIs (goWI (goWI M2 74 7 (M2 3 5)) 74 8 (nI c)) 78 T A c := dayIs_fr e3 (fun r h1 h2 => fr _ (by omega))
    refine ⟨M1, M2, e1, ?_, hd, ?_, ?_, j74⟩
    · have : goRr R 74 2 = t := by unfold goRr; rw [hR74]; rfl
      rw [this]
      exact e2
    · have h35 : M2 3 5 = nI v := by rw [e4 3 (by decide)]; exact v2
      have h7 : goWI (goWI M2 74 7 (M2 3 5)) 74 8 (nI c) 74 7 = M2 3 5 := by rw [gWI_nk (by decide), gWI_self, if_pos rfl]
      have h8 : goWI (goWI M2 74 7 (M2 3 5)) 74 8 (nI c) 74 8 = nI c := by rw [gWI_self, if_pos rfl]
      refine ⟨⟨v, v1, ?_, ?_, Or.inr ⟨v, Nat.le_refl _, ?_⟩⟩, fun _ => ⟨c, hc, h8, hd⟩, ?_, ?_, ?_⟩
      · rw [frM 3 (by decide) (by decide)]; exact v2
      · rw [j74 6 (by decide) (by decide)]; exact v3
      · rw [h7]; exact h35
      · rw [j74 6 (by decide) (by decide), frM 3 (by decide) (by decide), frM 75 (by decide) (by decide), frM 76 (by decide) (by decide)]; exact k3
      · rw [fr 84 (by decide)]; exact e5
      · rw [frM 98 (by decide) (by decide)]; exact k5
    · intro b hb
      exact frM b (by omega) (by omega)
  obtain ⟨M1, M2, r1, r2, r3, r4, r5, r6⟩ := run
  unfold fX4_dayOf
  by_cases c7 : M 74 7 = M 3 5
  · rw [if_pos c7]
    obtain ⟨c', c1, c2, c3⟩ := k2 c7
    by_cases c8 : c' = c
    · rw [if_pos (by rw [c2, c8]), gBd]
      rw [c8] at c3
      exact ⟨M, rfl, c3, ⟨⟨v, v1, v2, v3, v4⟩, k2, k3, k4, k5⟩, fun _ _ => rfl, fun _ _ _ => rfl⟩
    · rw [if_neg (fun e => c8 ((nI_eq (by omega) (by omega)).mp (c2.symm.trans e))), r1, gBd, r2, gBd, gNm, gNm, gBd]
      exact ⟨_, rfl, r3, r4, r5, r6⟩
  · rw [if_neg c7, r1, gBd, r2, gBd, gNm, gNm, gBd]
    exact ⟨_, rfl, r3, r4, r5, r6⟩
/-- a day in both -/
theorem iDay (hX : iX k G M L R t T A B) {b : Nat} (b1 : R 102 3 = some b) (b2 : 121 ≤ b) (b3 : tM M b T) (b4 : tOk T) {c : Nat} (hc : c < T 0 16) :
    ∃ Md Mm, fX4_dayOf 5000 M R (nI c) = some Md ∧ dayIs Md 78 T A c ∧ tC Md t T ∧ fX14_day 5000 (goWI (goWI Md 0 8 0) 102 0 0) R (nI c) = some Mm ∧ mdIs Mm T A c ∧ tM Mm b T ∧ gInv (k + 1) G (goWI (goWI Mm 102 1 0) 102 2 (-1)) L R ∧ iM (goWI (goWI Md 0 8 0) 102 0 0) R T ∧ tM (goWI (goWI Md 0 8 0) 102 0 0) b T := by
  obtain ⟨x1, x2, x3, x4, x5, x6, x7, x8, x9⟩ := id hX
  obtain ⟨r1, r2, r3, r4, r5, r6⟩ := x2
  have hz := tO_sz b4
  have hcs := tCases_le (T := T) (by omega) (tO_stories b4)
  have hAB := x5.2.2.1.1
  obtain ⟨Md, d1, d2, d3, d4, d5⟩ := cDayOf (N := 5000) (by decide) r5 r4 r1 x3 b4 x5.1 hAB.2.2.2.1 hAB.2.2.2.2.2.1 x8 hc
  have f121 : ∀ b, 103 ≤ b → goWI (goWI Md 0 8 0) 102 0 0 b = M b := fun b hb => by rw [goWI_ne (by omega), goWI_ne (by omega)]; exact d4 b (by omega)
  have hM1 : tM (goWI (goWI Md 0 8 0) 102 0 0) b T := tM_fr b3 (fun r hr => f121 _ (by omega))
  obtain ⟨Mm, m1, m2, m3⟩ := mDayRun (N := 5000) b1 b2 hM1 b4 (by decide) (fun i hi => by rw [f121 105 (by decide)]; exact x5.2.1 i hi) hAB (c := c) (by omega)
  refine ⟨Md, Mm, d1, d2, tC_fr x3 (fun r hr => d4 _ (by omega)), m1, m3, tM_fr hM1 (fun r hr => m2 _ (by omega)), ⟨t, T, A, B, iX_q hX (M1 := goWI Md 0 8 0) (w := 0) ?_ (kOk_q d3) ?_ (by decide)⟩, iM_fr x4 (fun b hb => f121 b (by omega)), hM1⟩
  · refine ⟨fun b hb h74 _ => by rw [goWI_ne hb]; exact d4 b (by omega), fun b hb => by rw [goWI_ne (by omega)]; exact d4 b (by omega), ?_, ?_⟩
    · rw [gWI_nk (by decide), d4 0 (by decide)]
    · rw [gWI_self, if_pos rfl]
  · refine qM_w ?_ ?_ ?_ ?_
    · intro b hb; rw [m2 b (by omega), goWI_ne (by omega)]
    · intro b h1 h2; rw [m2 b (by omega), goWI_ne (by omega)]
    · intro b hb; rw [m2 b (by omega), goWI_ne (by omega)]
    · intro j hj; rw [m2 102 (by decide), gWI_nk (by omega)]
end dayof
