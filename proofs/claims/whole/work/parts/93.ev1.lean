/-! CALLS that ask what fits -/
def yHd (T : tH) (A : Nat → Nat) : Nat := A 25 % 2 ^ T 0 5
section ev1
variable {k : Nat} {G : goG} {M : goMI} {L : goML} {R : goMR} {t b N : Nat} {T : tH} {A B : Nat → Nat}
theorem iEv (hX : iX k G M L R t T A B) (b1 : R 102 3 = some b) (b2 : 121 ≤ b) (b3 : tM M b T) (b4 : tOk T) :
    ∃ Me, fX4_freshened 5000 M R = some Me ∧ tC Me t T ∧ (∀ i, i < 26 → Me 4 i = nI (A i)) ∧ eT Me T A (T 0 16) ∧ kOk k Me T A ∧ (∀ b, b < 74 ∨ 88 ≤ b → Me b = M b) ∧ ∀ w : Int32, ∃ Mm, fX14_laysHonest 5000 (goWI (goWI Me 0 8 w) 102 0 0) R = some Mm ∧ (∀ c, c < T 0 16 → Mm 114 c = nI (yH T A c)) ∧ tM Mm b T ∧ (∀ i, i < 18 → Mm 105 i = nI (B i)) ∧ (w ≠ 4 → gInv (k + 1) G (goWI (goWI Mm 102 1 w) 102 2 (-1)) L R) ∧ iM (goWI (goWI Me 0 8 w) 102 0 0) R T ∧ tM (goWI (goWI Me 0 8 w) 102 0 0) b T ∧ (∀ b, b < 108 ∨ 114 < b → Mm b = goWI (goWI Me 0 8 w) 102 0 0 b) := by
  obtain ⟨x1, x2, x3, x4, x5, x6, x7, x8, x9⟩ := id hX
  obtain ⟨r1, r2, r3, r4, r5, r6⟩ := x2
  have hAB := x5.2.2.1.1
  obtain ⟨Me, d1, d2, d3, d4⟩ := cFresh (N := 5000) r5 r4 r1 x3 b4 (by decide) x5.1 hAB.2.2.2.1 hAB.2.2.2.2.2.1 x8
  refine ⟨Me, d1, tC_fr x3 (fun r hr => d4 _ (by omega)), fun i hi => by rw [d4 4 (by decide)]; exact x5.1 i hi, d3, d2, d4, fun w => ?_⟩
  have f121 : ∀ b, 103 ≤ b → goWI (goWI Me 0 8 w) 102 0 0 b = M b := fun b hb => by rw [goWI_ne (by omega), goWI_ne (by omega)]; exact d4 b (by omega)
  have hM1 : tM (goWI (goWI Me 0 8 w) 102 0 0) b T := tM_fr b3 (fun r hr => f121 _ (by omega))
  obtain ⟨Mm, m1, m2, m3⟩ := mLays (N := 5000) b1 b2 hM1 b4 (by decide) (fun i hi => by rw [f121 105 (by decide)]; exact x5.2.1 i hi) hAB
  refine ⟨Mm, m1, m2, tM_fr hM1 (fun r hr => m3 _ (by omega)), fun i hi => by rw [m3 105 (by decide), f121 105 (by decide)]; exact x5.2.1 i hi, fun hw => ⟨t, T, A, B, iX_q hX (M1 := goWI Me 0 8 w) (w := w) ?_ (kOk_q d2) ?_ hw⟩, iM_fr x4 (fun b hb => f121 b (by omega)), hM1, m3⟩
  · refine ⟨fun b hb h74 _ => by rw [goWI_ne hb]; exact d4 b (by omega), fun b hb => by rw [goWI_ne (by omega)]; exact d4 b (by omega), ?_, ?_⟩
    · rw [gWI_nk (by decide), d4 0 (by decide)]
    · rw [gWI_self, if_pos rfl]
  · refine qM_w ?_ ?_ ?_ ?_
    · intro b hb; rw [m3 b (by omega), goWI_ne (by omega)]
    · intro b h1 h2; rw [m3 b (by omega), goWI_ne (by omega)]
    · intro b hb; rw [m3 b (by omega), goWI_ne (by omega)]
    · intro j hj; rw [m3 102 (by decide), gWI_nk (by omega)]
theorem yHd_tb (T : tH) (A : Nat → Nat) (i : Nat) : (yHd T A).testBit i = (decide (i < T 0 5) && (A 25).testBit i) := Nat.testBit_mod_two_pow _ _ _
theorem yHd_lt (h : A 25 < 64) : yHd T A < 64 := Nat.lt_of_le_of_lt (Nat.mod_le _ _) h
theorem eB_hd (hT : tOk T) (hA : A 25 < 64) (c : Nat) : eB T A c (A 25) = eB T A c (yHd T A) := by
  unfold eB
  rw [decide_eq_decide, eB_iff hA, eB_iff (yHd_lt hA)]
  constructor
  · intro h k hk hb
    rw [yHd_tb, Bool.and_eq_true] at hb
    exact h k hk hb.2
  · intro h k hk hb
    refine h k hk ?_
    rw [yHd_tb, hb, decide_eq_true (tO_clue hT k hk).2.1]
    rfl
theorem cBears (hT : tOk T) (he : eT M T A (T 0 16)) {c g : Nat} (hc : c < T 0 16) (hg : g < 64) : fX4_bears M (nI c) (nI (tCl T g)) = some (nI (eB T A c g).toNat) := by
  have hz := tO_sz hT
  have hcs := tCases_le (T := T) (by omega) (tO_stories hT)
  have h1 := tCl_lt hT g
  unfold fX4_bears eB
  rw [gRd (by omega), gBd, (he c hc).1]
  by_cases c1 : dAn g (yH T A c) = 0
  · rw [if_pos ((dAn_0 (by omega)).mpr ((tCl_bear hg).mpr c1)), decide_eq_true c1]; rfl
  · rw [if_neg (fun e => c1 ((tCl_bear hg).mp ((dAn_0 (by omega)).mp e))), decide_eq_false c1]; rfl
theorem mTrue (hT : tOk T) (he : ∀ c, c < T 0 16 → M 114 c = nI (yH T A c)) {c g : Nat} (hc : c < T 0 16) (hg : g < 64) : fX14_areTrue M (nI c) (nI g) = some (nI (eB T A c g).toNat) := by
  have hz := tO_sz hT
  have hcs := tCases_le (T := T) (by omega) (tO_stories hT)
  unfold fX14_areTrue eB
  rw [gRd (by omega), gBd, he c hc]
  by_cases c1 : dAn g (yH T A c) = 0
  · rw [if_pos ((dAn_0 (by omega)).mpr c1), decide_eq_true c1]; rfl
  · rw [if_neg (fun e => c1 ((dAn_0 (by omega)).mp e)), decide_eq_false c1]; rfl
theorem cHeard (hR74 : goRr R 74 2 = t) (hC : tC M t T) (hT : tOk T) (hN : 5000 ≤ N) (hA : ∀ i, i < 26 → M 4 i = nI (A i)) (hA25 : A 25 < 64) : fX4_heardClues N M R = some (nI (tCl T (A 25))) := by
  unfold fX4_heardClues
  rw [gL_25, gRd (by decide), gBd, hA 25 (by decide), hR74, cCluesOf hC hT hN hA25, gBd]
theorem mHeard (hR : R 102 3 = some b) (hM : tM M b T) (hT : tOk T) (hv : ∀ i, i < 18 → M 105 i = nI (B i)) (hAB : aB A B) : fX14_heard M R = some (nI (yHd T A)) := by
  have hz := tO_sz hT
  unfold fX14_heard
  rw [gL_17, gRd (by decide), gBd, hv 17 (by decide), m_all hR hM (by omega), gBd, gI_and, Nat.and_two_pow_sub_one_eq_mod, ← hAB.2.2.1]
  rfl
theorem mCasesT (hM : tM M b T) (hT : tOk T) (hN : 5000 ≤ N) : fX13_cases N M b = some (nI (T 0 16)) := by
  have hz := tO_sz hT
  rw [mCases hM (by omega) (tO_stories hT) hN, ← hz.2.2.2.2.2.2.2.2.2.2.2.2.2.2.2.2]
end ev1
theorem go_fits : goS_fits gInv := by
  rintro k G M L R ⟨t, T, A, B, hX⟩ hk
  rcases hX.2.2.2.1 with ⟨h1, h2⟩ | ⟨b, b1, b2, b3, b4⟩
  · refine ⟨5000, -1, goWI M 0 8 1, _, ?_, ?_, iNo hX (w := 1) (by decide)⟩
    · unfold fX12_fits
      rw [cIsHill0 hX h1, if_pos rfl, cRef, gB2]
    · unfold fX14_fits
      rw [gNm, if_pos h1, mRef, gB2]
  · have hz := tO_sz b4
    have hcs := tCases_le (T := T) (by omega) (tO_stories b4)
    have hAB := hX.2.2.2.2.1.2.2.1.1
    have hA25 := hAB.2.2.2.2.2.2
    have h74 : goRr R 74 2 = t := by unfold goRr; rw [hX.2.1.2.2.2.1]; rfl
    obtain ⟨Me, e1, e2, e3, e4, e5, e6, e7⟩ := iEv hX b1 b2 b3 b4
    obtain ⟨Mm, m1, m2, m3, m4, m5, m6⟩ := e7 0
    refine ⟨5000, nI (gSum (fun c => (eB T A c (yHd T A)).toNat) (T 0 16)), goWI Me 0 8 0, _, ?_, ?_, m5 (by decide)⟩
    · have key : lX4_howManyFit_9 (nI (tCl T (A 25))) Me R 5000 0 0 = some (nI (gSum (fun c => (eB T A c (yHd T A)).toNat) (T 0 16))) := by
        refine gUp (fun n i (x : Int32) => lX4_howManyFit_9 (nI (tCl T (A 25))) Me R n x (nI i)) (fun i => nI (gSum (fun c => (eB T A c (yHd T A)).toNat) i)) (T 0 16) _ ?_ ?_ 5000 0 (Nat.zero_le _) (by omega)
        · intro n c hc
          show lX4_howManyFit_9 _ _ _ _ _ _ = lX4_howManyFit_9 _ _ _ _ _ _
          have e2' : gSum (fun c => (eB T A c (yHd T A)).toNat) (c + 1) = gSum (fun c => (eB T A c (yHd T A)).toNat) c + (eB T A c (yHd T A)).toNat := rfl
          rw [lX4_howManyFit_9, h74, tC_cases e2, if_pos (nI_lt hc (by omega)), cBears b4 e4 hc hA25, gBd, gNm, gNm, eB_hd b4 hA25, nI_1 c, e2']
          cases eB T A c (yHd T A)
          · rw [if_pos (by decide), gL_0, nI_add]; rfl
          · rw [if_neg (by decide), gL_1, nI_add]; rfl
        · intro n
          show lX4_howManyFit_9 _ _ _ _ _ _ = _
          rw [lX4_howManyFit_9, h74, tC_cases e2, if_neg (nI_nlt (Nat.le_refl _) (by omega))]
      unfold fX12_fits fX4_howManyFit
      rw [cIsHill1 hX b4, if_neg (by decide), e1, gBd, cHeard h74 e2 b4 (by decide) e3 hA25, gBd, key, gBd, gBd, cAns, gB2]
    · have key : lX14_fits_26 5000 Mm R 5000 0 0 = some (nI (gSum (fun c => (eB T A c (yHd T A)).toNat) (T 0 16))) := by
        refine gUp (fun n i (x : Int32) => lX14_fits_26 5000 Mm R n x (nI i)) (fun i => nI (gSum (fun c => (eB T A c (yHd T A)).toNat) i)) (T 0 16) _ ?_ ?_ 5000 0 (Nat.zero_le _) (by omega)
        · intro n c hc
          show lX14_fits_26 _ _ _ _ _ _ = lX14_fits_26 _ _ _ _ _ _
          have e2' : gSum (fun c => (eB T A c (yHd T A)).toNat) (c + 1) = gSum (fun c => (eB T A c (yHd T A)).toNat) c + (eB T A c (yHd T A)).toNat := rfl
          rw [lX14_fits_26, b1, gBd, mCasesT m3 b4 (by decide), gBd, if_pos (nI_lt hc (by omega)), mHeard b1 m3 b4 m4 hAB, gBd, mTrue b4 m2 hc (yHd_lt hA25), gBd, gNm, gNm, nI_1 c, e2']
          cases eB T A c (yHd T A)
          · rw [if_pos (by decide), gL_0, nI_add]; rfl
          · rw [if_neg (by decide), gL_1, nI_add]; rfl
        · intro n
          show lX14_fits_26 _ _ _ _ _ _ = _
          rw [lX14_fits_26, b1, gBd, mCasesT m3 b4 (by decide), gBd, if_neg (nI_nlt (Nat.le_refl _) (by omega))]
      unfold fX14_fits
      rw [gNm, b1, if_neg (by simp), m1, gBd, key, gBd, mGood, gB2]
/-- the first case that fits with so many ahead -/
def eFi (T : tH) (A : Nat → Nat) (x : Int32) (c : Nat) : Bool := eB T A c (yHd T A) && decide (nI (gSum (fun c => (eB T A c (yHd T A)).toNat) c) = x)
theorem go_fit : goS_fit gInv := by
  rintro k G M L R a1 ⟨t, T, A, B, hX⟩ hk
  rcases hX.2.2.2.1 with ⟨h1, h2⟩ | ⟨b, b1, b2, b3, b4⟩
  · have hC := hX.2.2.1
    have h74 : goRr R 74 2 = t := by unfold goRr; rw [hX.2.1.2.2.2.1]; rfl
    have c5 : M t 5 = 0 := by rw [tC_cases hC, h2]; rfl
    have c9 : M (t + 9) 1 = 0 := by rw [(tC_herd hC).2, h2]; rfl
    have hfr : fX4_freshened 5000 M R = some (goWI M 74 6 (M 3 5)) := by
      unfold fX4_freshened
      rw [show (5000 : Nat) = 4999 + 1 from rfl, lX4_freshened_2, h74, c5, if_neg (by decide), gBd, gNm]
    have ht := hX.2.1.1
    have c5' : goWI M 74 6 (M 3 5) t 5 = 0 := by rw [gWI_na (by omega)]; exact c5
    have c9' : goWI M 74 6 (M 3 5) (t + 9) 1 = 0 := by rw [gWI_na (by omega)]; exact c9
    have hhd : fX4_heardClues 5000 (goWI M 74 6 (M 3 5)) R = some 0 := by
      unfold fX4_heardClues fX5_cluesOf
      rw [gL_25, gRd (by decide), gBd, h74, show (5000 : Nat) = 4999 + 1 from rfl, lX5_cluesOf_4, c9', if_neg (by decide), gBd, gBd]
    refine ⟨5000, -1, goWI (goWI M 74 6 (M 3 5)) 0 8 1, goWI (goWI (goWI (goWI (goWI M 74 6 (M 3 5)) 0 8 1) 102 0 0) 102 1 1) 102 2 (-1), ?_, ?_, ⟨t, T, A, B, iX_q hX (M1 := goWI (goWI M 74 6 (M 3 5)) 0 8 1) (w := 1) ?_ (kOk_q ?_) qM_0 (by decide)⟩⟩
    · unfold fX12_fit fX4_fitting
      rw [hfr, gBd, hhd, gBd, show (5000 : Nat) = 4999 + 1 from rfl, lX4_fitting_10, h74, c5', if_neg (by decide), gBd, if_neg (by decide), cRef, gB2]
    · unfold fX14_fit
      rw [gNm, if_pos h1, mRef, gB2]
    · refine ⟨fun b hb h74' _ => by rw [goWI_ne hb, goWI_ne (by omega)], fun b hb => by rw [goWI_ne (by omega), goWI_ne (by omega)], ?_, ?_⟩
      · rw [gWI_nk (by decide), gWI_na (by decide)]
      · rw [gWI_self, if_pos rfl]
    · obtain ⟨⟨v, v1, v2, v3, v4⟩, k2, k3, k4, k5⟩ := hX.2.2.2.2.2.2.2.1
      have fr : ∀ b, b ≠ 74 → goWI M 74 6 (M 3 5) b = M b := fun b hb => goWI_ne hb
      refine ⟨⟨v, v1, by rw [fr 3 (by decide)]; exact v2, Or.inr ⟨v, Nat.le_refl _, by rw [gWI_self, if_pos rfl]; exact v2⟩, by rw [gWI_nk (by decide)]; exact v4⟩, ?_, ?_, by rw [fr 84 (by decide)]; exact k4, by rw [fr 98 (by decide)]; exact k5⟩
      · rw [gWI_nk (by decide), gWI_nk (by decide), fr 3 (by decide)]
        intro h
        obtain ⟨c, c1, c2, c3⟩ := k2 h
        exact ⟨c, c1, c2, dayIs_fr c3 (fun r h1 h2 => fr _ (by omega))⟩
      · intro _ c hc
        rw [h2] at hc
        exact absurd hc (Nat.not_lt_zero _)
  · have hz := tO_sz b4
    have hcs := tCases_le (T := T) (by omega) (tO_stories b4)
    have hAB := hX.2.2.2.2.1.2.2.1.1
    have hA25 := hAB.2.2.2.2.2.2
    have h74 : goRr R 74 2 = t := by unfold goRr; rw [hX.2.1.2.2.2.1]; rfl
    obtain ⟨Me, e1, e2, e3, e4, e5, e6, e7⟩ := iEv hX b1 b2 b3 b4
    have keyc : lX4_fitting_10 a1 (nI (tCl T (A 25))) Me R 5000 0 0 = some (if gFst (eFi T A a1) (T 0 16) < T 0 16 then nI (gFst (eFi T A a1) (T 0 16)) else -1) := by
      refine gUpE (fun n i => lX4_fitting_10 a1 (nI (tCl T (A 25))) Me R n (nI (gSum (fun c => (eB T A c (yHd T A)).toNat) i)) (nI i)) (T 0 16) _ (fun i => gFst (eFi T A a1) i = i) ?_ ?_ 5000 0 (Nat.zero_le _) rfl (by omega)
      · intro n c hc hP
        show lX4_fitting_10 _ _ _ _ _ _ _ = _ ∨ lX4_fitting_10 _ _ _ _ _ _ _ = lX4_fitting_10 _ _ _ _ _ _ _ ∧ _
        have e2' : gSum (fun c => (eB T A c (yHd T A)).toNat) (c + 1) = gSum (fun c => (eB T A c (yHd T A)).toNat) c + (eB T A c (yHd T A)).toNat := rfl
        rw [lX4_fitting_10, h74, tC_cases e2, if_pos (nI_lt hc (by omega)), cBears b4 e4 hc hA25, gBd, eB_hd b4 hA25, nI_1 c, e2']
        cases e : eB T A c (yHd T A)
        · right
          refine ⟨?_, gFst_go hP (by unfold eFi; rw [e]; rfl)⟩
          rw [if_pos (by decide)]; rfl
        · rw [if_neg (by decide)]
          by_cases c1 : nI (gSum (fun c => (eB T A c (yHd T A)).toNat) c) = a1
          · left
            rw [if_pos c1, gFst_stop hP hc (by unfold eFi; rw [e, decide_eq_true c1]; rfl), if_pos hc]
          · right
            refine ⟨?_, gFst_go hP (by unfold eFi; rw [decide_eq_false c1, Bool.and_false])⟩
            rw [if_neg c1, nI_1]; rfl
      · intro n hP
        show lX4_fitting_10 _ _ _ _ _ _ _ = _
        rw [lX4_fitting_10, h74, tC_cases e2, if_neg (nI_nlt (Nat.le_refl _) (by omega)), hP, if_neg (Nat.lt_irrefl _)]
    have keym : ∀ Mm, (∀ c, c < T 0 16 → Mm 114 c = nI (yH T A c)) → tM Mm b T → (∀ i, i < 18 → Mm 105 i = nI (B i)) → lX14_fit_26 5000 a1 Mm R 5000 0 0 = some (if gFst (eFi T A a1) (T 0 16) < T 0 16 then (nI (gFst (eFi T A a1) (T 0 16)), goWI (goWI Mm 102 1 0) 102 2 (-1)) else (-1, goWI (goWI Mm 102 1 1) 102 2 (-1))) := by
      intro Mm m2 m3 m4
      refine gUpE (fun n i => lX14_fit_26 5000 a1 Mm R n (nI (gSum (fun c => (eB T A c (yHd T A)).toNat) i)) (nI i)) (T 0 16) _ (fun i => gFst (eFi T A a1) i = i) ?_ ?_ 5000 0 (Nat.zero_le _) rfl (by omega)
      · intro n c hc hP
        show lX14_fit_26 _ _ _ _ _ _ _ = _ ∨ lX14_fit_26 _ _ _ _ _ _ _ = lX14_fit_26 _ _ _ _ _ _ _ ∧ _
        have e2' : gSum (fun c => (eB T A c (yHd T A)).toNat) (c + 1) = gSum (fun c => (eB T A c (yHd T A)).toNat) c + (eB T A c (yHd T A)).toNat := rfl
        rw [lX14_fit_26, b1, gBd, mCasesT m3 b4 (by decide), gBd, if_pos (nI_lt hc (by omega)), mHeard b1 m3 b4 m4 hAB, gBd, mTrue b4 m2 hc (yHd_lt hA25), gBd, nI_1 c, e2']
        cases e : eB T A c (yHd T A)
        · right
          refine ⟨?_, gFst_go hP (by unfold eFi; rw [e]; rfl)⟩
          rw [if_pos (by decide)]; rfl
        · rw [if_neg (by decide)]
          by_cases c1 : nI (gSum (fun c => (eB T A c (yHd T A)).toNat) c) = a1
          · left
            rw [if_pos c1, gFst_stop hP hc (by unfold eFi; rw [e, decide_eq_true c1]; rfl), if_pos hc, mGood, gB2]
          · right
            refine ⟨?_, gFst_go hP (by unfold eFi; rw [decide_eq_false c1, Bool.and_false])⟩
            rw [if_neg c1, nI_1]; rfl
      · intro n hP
        show lX14_fit_26 _ _ _ _ _ _ _ = _
        rw [lX14_fit_26, b1, gBd, mCasesT m3 b4 (by decide), gBd, if_neg (nI_nlt (Nat.le_refl _) (by omega)), hP, if_neg (Nat.lt_irrefl _), mRef, gB2]
    by_cases cf : gFst (eFi T A a1) (T 0 16) < T 0 16
    · obtain ⟨Mm, m1, m2, m3, m4, m5, m6⟩ := e7 0
      refine ⟨5000, nI (gFst (eFi T A a1) (T 0 16)), goWI Me 0 8 0, _, ?_, ?_, m5 (by decide)⟩
      · unfold fX12_fit fX4_fitting
        rw [e1, gBd, cHeard h74 e2 b4 (by decide) e3 hA25, gBd, keyc, if_pos cf, gBd, if_pos (nI_pos' (by omega)), cAns, gB2]
      · unfold fX14_fit
        rw [gNm, b1, if_neg (by simp), m1, gBd, keym Mm m2 m3 m4, if_pos cf]
    · obtain ⟨Mm, m1, m2, m3, m4, m5, m6⟩ := e7 1
      refine ⟨5000, -1, goWI Me 0 8 1, _, ?_, ?_, m5 (by decide)⟩
      · unfold fX12_fit fX4_fitting
        rw [e1, gBd, cHeard h74 e2 b4 (by decide) e3 hA25, gBd, keyc, if_neg cf, gBd, if_neg (by decide), cRef, gB2]
      · unfold fX14_fit
        rw [gNm, b1, if_neg (by simp), m1, gBd, keym Mm m2 m3 m4, if_neg cf]
