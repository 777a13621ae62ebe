/-! LURE: the calls -/
section lure6
variable {k : Nat} {G : goG} {M : goMI} {L : goML} {R : goMR} {t : Nat} {T : tH} {A B : Nat → Nat}
theorem kOk_98 {M' : goMI} (h : kOk k M T A) (h3 : M' 3 = M 3) (hf : ∀ b, 74 ≤ b → b < 88 → M' b = M b) (h98 : ∀ i, i < 72 → ∃ n, n < 12 ∧ M' 98 i = nI n) : kOk k M' T A := by
  obtain ⟨⟨v, k1, k2⟩, k3, k4, k5, k6⟩ := h
  unfold kOk
  rw [h3, hf 74 (by decide) (by decide), hf 75 (by decide) (by decide), hf 76 (by decide) (by decide), hf 84 (by decide) (by decide)]
  refine ⟨⟨v, by omega, k2⟩, fun h => ?_, k4, k5, h98⟩
  obtain ⟨c, c1, c2, c3⟩ := k3 h
  exact ⟨c, c1, c2, dayIs_fr c3 (fun r h1 h2 => hf _ (by omega) (by omega))⟩
theorem luWhy (hX : iX k G M L R t T A B) (a1 a2 a3 a4 : Int32) : ∃ q : Int32, fX12_whyNoQuest M R a1 a2 a3 a4 = q ∧ (∀ Mx, iM Mx R T → fX14_refusesLed 5000 Mx R a1 a2 a3 a4 = some q) ∧ (q = 1 ∨ q = 2 ∨ (q = 0 ∧ ∃ c g p h b, a1 = nI c ∧ a2 = nI g ∧ a3 = nI p ∧ a4 = nI h ∧ c < T 0 16 ∧ g < T 0 5 ∧ p < T 0 2 ∧ h < T 0 0 ∧ R 102 3 = some b ∧ 121 ≤ b ∧ tM M b T ∧ tOk T)) := by
  have hI := iM_b hX.2.2.2.1
  have hC := hX.2.2.1
  unfold fX12_whyNoQuest fX12_isCase fX12_isGoat fX12_isPlace fX12_isHour
  rw [iR5 hX, tC_cases hC, (tC_herd hC).1, tC_places hC, tC_hours hC, cWithin, cWithin, cWithin, cWithin]
  by_cases c0 : wi a1 (T 0 16) = true
  · obtain ⟨c, hc, rfl⟩ := wi_t (by omega) c0
    obtain ⟨b, b1, b2, b3, b4⟩ := iM_some hX.2.2.2.1 (i := 0) (j := 16) (by omega)
    by_cases c1 : wi a2 (T 0 5) = true
    · obtain ⟨g, hg, rfl⟩ := wi_t (by omega) c1
      by_cases c2 : wi a3 (T 0 2) = true
      · obtain ⟨p, hp, rfl⟩ := wi_t (by omega) c2
        have hHour : ∀ Mx, iM Mx R T → fX14_isHour Mx R a4 = some (nI (wi a4 (T 0 0)).toNat) := by
          intro Mx h
          rcases h with ⟨h1, h2⟩ | ⟨b', h1, h2, h3, h4⟩
          · rw [b1] at h1; cases h1
          · exact m_isHour h1 h3 a4
        by_cases c3 : wi a4 (T 0 0) = true
        · obtain ⟨h, hh, rfl⟩ := wi_t (by omega) c3
          refine ⟨0, ?_, fun Mx hx => ?_, Or.inr (Or.inr ⟨rfl, c, g, p, h, b, rfl, rfl, rfl, rfl, hc, hg, hp, hh, b1, b2, b3, b4⟩)⟩
          · rw [c0, c1, c2, c3, if_neg (by decide), if_neg (by decide), if_neg (by decide), if_neg (by decide)]
          · unfold fX14_refusesLed
            rw [m_isCase (by decide) hx, m_isGoat hx, m_isPlace hx, hHour Mx hx, c0, c1, c2, c3, gBd, if_neg (by decide), gBd, if_neg (by decide), gBd, if_neg (by decide), gBd, if_neg (by decide)]
        · rw [Bool.not_eq_true] at c3
          refine ⟨2, ?_, fun Mx hx => ?_, Or.inr (Or.inl rfl)⟩
          · rw [c0, c1, c2, c3, if_neg (by decide), if_neg (by decide), if_neg (by decide), if_pos (by decide)]
          · unfold fX14_refusesLed
            rw [m_isCase (by decide) hx, m_isGoat hx, m_isPlace hx, hHour Mx hx, c0, c1, c2, c3, gBd, if_neg (by decide), gBd, if_neg (by decide), gBd, if_neg (by decide), gBd, if_pos (by decide)]
      · rw [Bool.not_eq_true] at c2
        refine ⟨1, ?_, fun Mx hx => ?_, Or.inl rfl⟩
        · rw [c0, c1, c2, if_neg (by decide), if_neg (by decide), if_pos (by decide)]
        · unfold fX14_refusesLed
          rw [m_isCase (by decide) hx, m_isGoat hx, m_isPlace hx, c0, c1, c2, gBd, if_neg (by decide), gBd, if_neg (by decide), gBd, if_pos (by decide)]
    · rw [Bool.not_eq_true] at c1
      refine ⟨1, ?_, fun Mx hx => ?_, Or.inl rfl⟩
      · rw [c0, c1, if_neg (by decide), if_pos (by decide)]
      · unfold fX14_refusesLed
        rw [m_isCase (by decide) hx, m_isGoat hx, c0, c1, gBd, if_neg (by decide), gBd, if_pos (by decide)]
  · rw [Bool.not_eq_true] at c0
    refine ⟨1, ?_, fun Mx hx => ?_, Or.inl rfl⟩
    · rw [c0, if_pos (by decide)]
    · unfold fX14_refusesLed
      rw [m_isCase (by decide) hx, c0, gBd, if_pos (by decide)]
theorem luBoth (hX : iX k G M L R t T A B) {c g p hr b w v : Nat} (hc : c < T 0 16) (hg : g < T 0 5) (hp : p < T 0 2) (hh : hr < T 0 0) (b1 : R 102 3 = some b) (b2 : 121 ≤ b) (b3 : tM M b T) (b4 : tOk T) (hw : (w = 0 ∧ v = 0) ∨ (w = 12 ∧ v = 8)) :
    ∃ r Mc, fX8_fewest 5000 M R (nI c) (nI g) (nI p) (nI hr) (nI w) = some (r, Mc) ∧ ∀ x : Int32, x ≠ 4 → ∃ Mm, fX14_fewest 5000 (goWI (goWI Mc 0 8 x) 102 0 0) R (nI v) (nI c) (nI g) (nI p) (nI hr) = some (r, Mm) ∧ (r = 0 ∨ r = -2 ∨ (r = 1 ∧ ∃ s1, s1 < 96 ∧ Mc 88 8 = nI s1 ∧ Mm 102 35 = nI s1) ∨ (r = 2 ∧ ∃ s1 s2, s1 < 96 ∧ s2 < 96 ∧ Mc 88 8 = nI s1 ∧ Mc 88 9 = nI s2 ∧ Mm 102 35 = nI s1 ∧ Mm 102 36 = nI s2)) ∧ iM (goWI (goWI Mc 0 8 x) 102 0 0) R T ∧ gInv (k + 1) G (goWI (goWI Mm 102 1 x) 102 2 (-1)) L R := by
  have hX' := hX
  obtain ⟨x1, x2, x3, x4, x5, x6, x7, x8, x9⟩ := hX'
  obtain ⟨r1, r2, r3, r4, r5, r6⟩ := x2
  have hz := tO_sz b4
  have hcs := tCases_le (T := T) (by omega) (tO_stories b4)
  have hAB := x5.2.2.1.1
  obtain ⟨r, Mc, s1, s2, e1, e2, e3, e4, e5⟩ := luFewest (M := M) (R := R) (T := T) (t := t) (c := c) (w := w) (hr := hr) (g := g) (p := p) (A := A) ⟨b4, iR_a r6, r1, hh, hg, hp, by omega⟩ x3 x5.1 hAB.2.2.2.1 hAB.2.2.2.2.2.1 x8.2.2.2.2 (by omega)
  refine ⟨r, Mc, e1, fun x hx => ?_⟩
  have frb : ∀ b, 103 ≤ b → goWI (goWI Mc 0 8 x) 102 0 0 b = M b := fun b hb => by rw [goWI_ne (by omega), goWI_ne (by omega)]; exact e2.1 b (by omega)
  have hMb : tM (goWI (goWI Mc 0 8 x) 102 0 0) b T := tM_fr b3 (fun r hr => frb _ (by omega))
  have h105 : ∀ i, i < 18 → goWI (goWI Mc 0 8 x) 102 0 0 105 i = nI (B i) := fun i hi => by rw [frb 105 (by decide)]; exact x5.2.1 i hi
  obtain ⟨r', Mm, s1', s2', m1, m2, m3, m4, m5⟩ := lmFewest (R := R) (b := b) (T := T) (c := c) (w := w) (v := v) (hr := hr) (g := g) (p := p) (A := A) (B := B) ⟨b1, b2, hMb, b4, hh, hg, hp, hw⟩ hAB (by omega) h105
  obtain ⟨q1, q2⟩ := luAn_eq b4 e3 m3
  subst q1
  refine ⟨Mm, m1, ?_, iM_fr x4 (fun b hb => frb b (by omega)), ⟨t, T, A, B, iX_q hX (M1 := goWI Mc 0 8 x) (w := x) ?_ ?_ ?_ hx⟩⟩
  · rcases q2 with q | q | ⟨q, z1⟩ | ⟨q, z1, z2⟩
    · exact Or.inl q
    · exact Or.inr (Or.inl q)
    · refine Or.inr (Or.inr (Or.inl ⟨q, s1, ?_, e4 (Or.inl q), by rw [z1]; exact m4 (Or.inl q)⟩))
      rw [q] at e3
      rcases e3 with ⟨y, _⟩ | ⟨_, ⟨_, y, _⟩ | ⟨_, ⟨y, _⟩ | ⟨y, _⟩⟩⟩
      · cases y
      · have := y.1.1; omega
      · cases y
      · cases y
    · refine Or.inr (Or.inr (Or.inr ⟨q, s1, s2, ?_⟩))
      rw [q] at e3
      rcases e3 with ⟨y, _⟩ | ⟨_, ⟨y, _⟩ | ⟨_, ⟨_, y, _⟩ | ⟨y, _⟩⟩⟩
      · cases y
      · cases y
      · have := luG_lt b4 y
        exact ⟨this.1, this.2, e4 (Or.inr q), e5 q, by rw [z1]; exact m4 (Or.inr q), by rw [z2]; exact m5 q⟩
      · cases y
  · refine ⟨fun b hb h74 _ => by rw [goWI_ne hb]; exact e2.1 b (by omega), fun b hb => by rw [goWI_ne (by omega)]; exact e2.1 b (by omega), ?_, ?_⟩
    · rw [gWI_nk (by decide), e2.1 0 (by decide)]
    · rw [gWI_self, if_pos rfl]
  · exact kOk_98 x8 (by rw [goWI_ne (by decide)]; exact e2.1 3 (by decide)) (fun b h1 h2 => by rw [goWI_ne (by omega)]; exact e2.1 b (by omega)) (fun i hi => by rw [gWI_na (by decide)]; exact e2.2 i hi)
  · have m105 : Mm 105 = goWI Mc 0 8 x 105 := by
      funext i
      by_cases hi : i < 18
      · rw [m2.2.1 i hi, ← h105 i hi, gWI_na (by decide)]
      · rw [m2.2.2.1 i (by omega), gWI_na (by decide)]
    refine qM_w ?_ ?_ ?_ ?_
    · intro b hb; rw [m2.1 b (by omega), goWI_ne (by omega)]
    · intro b h1 h2
      by_cases e : b = 105
      · rw [e]; exact m105
      · rw [m2.1 b (by omega), goWI_ne (by omega)]
    · intro b hb; rw [m2.1 b (by omega), goWI_ne (by omega)]
    · intro j hj; rw [m2.2.2.2 j (by omega) (by omega), gWI_nk (by omega)]
end lure6
theorem go_led : goS_led gInv := by
  rintro k G M L R a1 a2 a3 a4 ⟨t, T, A, B, hX⟩ hk
  obtain ⟨q, w1, w2, w3⟩ := luWhy hX a1 a2 a3 a4
  have no : q ≠ 0 → q ≠ 4 → 0 < q → ∃ (N : Nat) (r : Int32) (M1 : goMI) (M2 : goMI), fX12_led N M R a1 a2 a3 a4 = some (r, M1) ∧ fX14_led N M1 R a1 a2 a3 a4 = some (r, M2) ∧ gInv (k + 1) G M2 L R := by
    intro h0 h4 hp
    refine ⟨5000, -1, goWI M 0 8 q, _, ?_, ?_, iNo hX (w := q) h4⟩
    · unfold fX12_led
      rw [gNm, w1, if_neg h0, cRef, gB2]
    · unfold fX14_led
      rw [gNm, w2 _ (iI hX q), gBd, if_pos hp, mRef, gB2]
  rcases w3 with e | e | ⟨e, c, g, p, h, b, rfl, rfl, rfl, rfl, hc, hg, hp, hh, b1, b2, b3, b4⟩
  · exact no (by rw [e]; decide) (by rw [e]; decide) (by rw [e]; decide)
  · exact no (by rw [e]; decide) (by rw [e]; decide) (by rw [e]; decide)
  · obtain ⟨r, Mc, e1, e2⟩ := luBoth hX (w := 0) (v := 0) hc hg hp hh b1 b2 b3 b4 (Or.inl ⟨rfl, rfl⟩)
    obtain ⟨Mm, m1, m2, m3, m4⟩ := e2 0 (by decide)
    have e1' : fX8_fewest 5000 M R (nI c) (nI g) (nI p) (nI h) 0 = some (r, Mc) := e1
    have m1' : fX14_fewest 5000 (goWI (goWI Mc 0 8 0) 102 0 0) R 0 (nI c) (nI g) (nI p) (nI h) = some (r, Mm) := m1
    refine ⟨5000, r, goWI Mc 0 8 0, _, ?_, ?_, m4⟩
    · unfold fX12_led
      rw [gNm, w1, e, if_pos rfl, e1', gB2, cAns, gB2]
    · unfold fX14_led
      rw [gNm, w2 _ m3, gBd, e, if_neg (by decide), m1', gB2, mGood, gB2]
theorem go_scared : goS_scared gInv := by
  rintro k G M L R a1 a2 a3 a4 ⟨t, T, A, B, hX⟩ hk
  obtain ⟨q, w1, w2, w3⟩ := luWhy hX a1 a2 a3 a4
  have no : q ≠ 0 → q ≠ 4 → 0 < q → ∃ (N : Nat) (r : Int32) (M1 : goMI) (M2 : goMI), fX12_scared N M R a1 a2 a3 a4 = some (r, M1) ∧ fX14_scared N M1 R a1 a2 a3 a4 = some (r, M2) ∧ gInv (k + 1) G M2 L R := by
    intro h0 h4 hp
    refine ⟨5000, -1, goWI M 0 8 q, _, ?_, ?_, iNo hX (w := q) h4⟩
    · unfold fX12_scared
      rw [gNm, w1, if_neg h0, cRef, gB2]
    · unfold fX14_scared
      rw [gNm, w2 _ (iI hX q), gBd, if_pos hp, mRef, gB2]
  rcases w3 with e | e | ⟨e, c, g, p, h, b, rfl, rfl, rfl, rfl, hc, hg, hp, hh, b1, b2, b3, b4⟩
  · exact no (by rw [e]; decide) (by rw [e]; decide) (by rw [e]; decide)
  · exact no (by rw [e]; decide) (by rw [e]; decide) (by rw [e]; decide)
  · obtain ⟨r, Mc, e1, e2⟩ := luBoth hX (w := 12) (v := 8) hc hg hp hh b1 b2 b3 b4 (Or.inr ⟨rfl, rfl⟩)
    obtain ⟨Mm, m1, m2, m3, m4⟩ := e2 0 (by decide)
    have e1' : fX8_fewest 5000 M R (nI c) (nI g) (nI p) (nI h) 12 = some (r, Mc) := e1
    have m1' : fX14_fewest 5000 (goWI (goWI Mc 0 8 0) 102 0 0) R 8 (nI c) (nI g) (nI p) (nI h) = some (r, Mm) := m1
    refine ⟨5000, r, goWI Mc 0 8 0, _, ?_, ?_, m4⟩
    · unfold fX12_scared
      rw [gNm, w1, e, if_pos rfl, e1', gB2, cAns, gB2]
    · unfold fX14_scared
      rw [gNm, w2 _ m3, gBd, e, if_neg (by decide), m1', gB2, mGood, gB2]
theorem luCode {s : Nat} (hs : s < 96) : fX12_spotCode (nI s) = nI (100 * (s / 12) + s % 12) ∧ (100 * (nI s / 12)) + (nI s - nI s / 12 * 12) = nI (100 * (s / 12) + s % 12) := by
  unfold fX12_spotCode
  rw [luSm (by omega), luSd (by omega), gL_100, gM_100, gN_100, nI_add]
  exact ⟨rfl, rfl⟩
theorem go_ledAt : goS_ledAt gInv := by
  rintro k G M L R a1 a2 a3 a4 a5 ⟨t, T, A, B, hX⟩ hk
  obtain ⟨q, w1, w2, w3⟩ := luWhy hX a1 a2 a3 a4
  have no : q ≠ 0 → q ≠ 4 → 0 < q → ∃ (N : Nat) (r : Int32) (M1 : goMI) (M2 : goMI), fX12_ledAt N M R a1 a2 a3 a4 a5 = some (r, M1) ∧ fX14_ledAt N M1 R a1 a2 a3 a4 a5 = some (r, M2) ∧ gInv (k + 1) G M2 L R := by
    intro h0 h4 hp
    refine ⟨5000, -1, goWI M 0 8 q, _, ?_, ?_, iNo hX (w := q) h4⟩
    · unfold fX12_ledAt
      rw [gNm, w1, if_neg h0, cRef, gB2]
    · unfold fX14_ledAt
      rw [gNm, w2 _ (iI hX q), gBd, if_pos hp, mRef, gB2]
  rcases w3 with e | e | ⟨e, c, g, p, h, b, rfl, rfl, rfl, rfl, hc, hg, hp, hh, b1, b2, b3, b4⟩
  · exact no (by rw [e]; decide) (by rw [e]; decide) (by rw [e]; decide)
  · exact no (by rw [e]; decide) (by rw [e]; decide) (by rw [e]; decide)
  · obtain ⟨r, Mc, e1, e2⟩ := luBoth hX (w := 0) (v := 0) hc hg hp hh b1 b2 b3 b4 (Or.inl ⟨rfl, rfl⟩)
    have e1' : fX8_fewest 5000 M R (nI c) (nI g) (nI p) (nI h) 0 = some (r, Mc) := e1
    have bad : ¬ (0 ≤ a5 ∧ a5 < r) → ∃ (N : Nat) (r : Int32) (M1 : goMI) (M2 : goMI), fX12_ledAt N M R (nI c) (nI g) (nI p) (nI h) a5 = some (r, M1) ∧ fX14_ledAt N M1 R (nI c) (nI g) (nI p) (nI h) a5 = some (r, M2) ∧ gInv (k + 1) G M2 L R := by
      intro hn
      obtain ⟨Mm, m1, m2, m3, m4⟩ := e2 1 (by decide)
      have m1' : fX14_fewest 5000 (goWI (goWI Mc 0 8 1) 102 0 0) R 0 (nI c) (nI g) (nI p) (nI h) = some (r, Mm) := m1
      refine ⟨5000, -1, goWI Mc 0 8 1, _, ?_, ?_, m4⟩
      · unfold fX12_ledAt
        have hw0 : fX12_within a5 r = 0 := by
          unfold fX12_within
          by_cases c1 : 0 ≤ a5
          · rw [if_pos c1, if_neg (fun h => hn ⟨c1, h⟩)]
          · rw [if_neg c1]
        rw [gNm, w1, e, if_pos rfl, e1', gB2, hw0, if_pos rfl, cRef, gB2]
      · unfold fX14_ledAt
        rw [gNm, w2 _ m3, gBd, e, if_neg (by decide), m1', gB2]
        by_cases c1 : 0 ≤ a5
        · rw [if_pos c1, if_pos (Int32.not_lt.mp (fun h => hn ⟨c1, h⟩)), mRef, gB2]
        · rw [if_neg c1, mRef, gB2]
    by_cases hin : 0 ≤ a5 ∧ a5 < r
    · obtain ⟨Mm, m1, m2, m3, m4⟩ := e2 0 (by decide)
      have m1' : fX14_fewest 5000 (goWI (goWI Mc 0 8 0) 102 0 0) R 0 (nI c) (nI g) (nI p) (nI h) = some (r, Mm) := m1
      have hpick : ∃ s, s < 96 ∧ (if a5 = 0 then Mc 88 8 else Mc 88 9) = nI s ∧ (if a5 = 0 then Mm 102 35 else Mm 102 36) = nI s := by
        rcases m2 with z | z | ⟨z, s1, z1, z2, z3⟩ | ⟨z, s1, s2, z1, z2, z3, z4, z5, z6⟩
        · rw [z] at hin; exact absurd hin.2 (Int32.not_lt.mpr hin.1)
        · rw [z] at hin
          exfalso
          have h1 := Int32.lt_iff_toInt_lt.mp hin.2
          have h2 := Int32.le_iff_toInt_le.mp hin.1
          have h3 : (-2 : Int32).toInt = -2 := rfl
          have h4 : (0 : Int32).toInt = 0 := rfl
          omega
        · have e0 : a5 = 0 := by
            rw [z] at hin
            have h1 := Int32.lt_iff_toInt_lt.mp hin.2
            have h2 := Int32.le_iff_toInt_le.mp hin.1
            have h3 : (1 : Int32).toInt = 1 := rfl
            have h4 : (0 : Int32).toInt = 0 := rfl
            exact Int32.toInt_inj.mp (by omega)
          rw [if_pos e0, if_pos e0]
          exact ⟨s1, z1, z2, z3⟩
        · by_cases e0 : a5 = 0
          · rw [if_pos e0, if_pos e0]; exact ⟨s1, z1, z3, z5⟩
          · rw [if_neg e0, if_neg e0]; exact ⟨s2, z2, z4, z6⟩
      obtain ⟨s, s96, p1, p2⟩ := hpick
      refine ⟨5000, nI (100 * (s / 12) + s % 12), goWI Mc 0 8 0, _, ?_, ?_, m4⟩
      · unfold fX12_ledAt
        have hw1 : fX12_within a5 r = 1 := by
          unfold fX12_within
          rw [if_pos hin.1, if_pos hin.2]
        rw [gNm, w1, e, if_pos rfl, e1', gB2, hw1, if_neg (by decide), p1, gNm, (luCode s96).1, cAns, gB2]
      · unfold fX14_ledAt
        rw [gNm, w2 _ m3, gBd, e, if_neg (by decide), m1', gB2, if_pos hin.1, if_neg (Int32.not_le.mpr hin.2), p2, gNm, (luCode s96).2, mGood, gB2]
    · exact bad hin
