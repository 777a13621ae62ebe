/-! WHAT THE CLUES SAY OF THE CASES -/
/-- the goats of whom all clues are true, after some clues -/
def yHn (T : tH) (A : Nat → Nat) (c : Nat) : Nat → Nat
  | 0 => 63
  | k + 1 => if dSh T A c k then yHn T A c k else dAn (yHn T A c k) (2 ^ T 14 k)
def yH (T : tH) (A : Nat → Nat) (c : Nat) : Nat := yHn T A c (T 0 7)
theorem yHn_lt {T : tH} {A : Nat → Nat} {c : Nat} : ∀ n, yHn T A c n < 64
  | 0 => by show 63 < 64; decide
  | n + 1 => by
    unfold yHn
    split
    · exact yHn_lt n
    · exact dAn_lt (n := 6) (yHn_lt n)
theorem yHn_tb {T : tH} {A : Nat → Nat} {c g : Nat} : ∀ n, (yHn T A c n).testBit g = true ↔ g < 6 ∧ ∀ k, k < n → T 14 k = g → dSh T A c k = true
  | 0 => by
    show (63 : Nat).testBit g = true ↔ _
    rw [show (63 : Nat) = 2 ^ 6 - 1 from rfl, Nat.testBit_two_pow_sub_one, decide_eq_true_eq]
    constructor
    · intro h; exact ⟨h, fun k hk => absurd hk (Nat.not_lt_zero _)⟩
    · intro h; exact h.1
  | n + 1 => by
    have ih := yHn_tb (T := T) (A := A) (c := c) (g := g) n
    unfold yHn
    cases e : dSh T A c n
    · rw [if_neg Bool.false_ne_true, dAn_tb, Bool.and_eq_true, ih, gTb_pow, Bool.not_eq_true', decide_eq_false_iff_not]
      constructor
      · rintro ⟨⟨h1, h2⟩, h3⟩
        refine ⟨h1, fun k hk hg => ?_⟩
        by_cases ck : k = n
        · rw [ck] at hg; exact absurd hg h3
        · exact h2 k (by omega) hg
      · rintro ⟨h1, h2⟩
        refine ⟨⟨h1, fun k hk => h2 k (by omega)⟩, fun h3 => ?_⟩
        rw [h2 n (by omega) h3] at e
        cases e
    · rw [if_pos rfl, ih]
      constructor
      · rintro ⟨h1, h2⟩
        refine ⟨h1, fun k hk hg => ?_⟩
        by_cases ck : k = n
        · rw [ck]; exact e
        · exact h2 k (by omega) hg
      · rintro ⟨h1, h2⟩
        exact ⟨h1, fun k hk => h2 k (by omega)⟩
theorem dAn_sub {a b : Nat} : dAn a b = 0 ↔ ∀ i, a.testBit i = true → b.testBit i = true := by
  constructor
  · intro h i hi
    have := dAn_tb a b i
    rw [h, Nat.zero_testBit, hi, Bool.true_and] at this
    cases e : b.testBit i
    · rw [e] at this; cases this
    · rfl
  · intro h
    apply Nat.eq_of_testBit_eq
    intro i
    rw [Nat.zero_testBit, dAn_tb]
    cases e : a.testBit i
    · rfl
    · rw [h i e]; rfl
/-- whether all clues of goats are true of a case -/
def eB (T : tH) (A : Nat → Nat) (c g : Nat) : Bool := decide (dAn g (yH T A c) = 0)
theorem eB_iff {T : tH} {A : Nat → Nat} {c g : Nat} (hg : g < 64) : dAn g (yH T A c) = 0 ↔ ∀ k, k < T 0 7 → g.testBit (T 14 k) = true → dSh T A c k = true := by
  rw [dAn_sub]
  constructor
  · intro h k hk hb
    exact ((yHn_tb (T 0 7)).mp (h _ hb)).2 k hk rfl
  · intro h i hi
    refine (yHn_tb (T 0 7)).mpr ⟨?_, fun k hk e => ?_⟩
    · apply Classical.byContradiction
      intro h6
      rw [gTb_hi (n := 6) hg (by omega)] at hi
      cases hi
    · rw [← e] at hi
      exact h k hk hi
theorem tCl_bear {T : tH} {A : Nat → Nat} {c g : Nat} (hg : g < 64) : dAn (tCl T g) (gBits (dSh T A c) (T 0 7)) = 0 ↔ dAn g (yH T A c) = 0 := by
  rw [eB_iff hg, dAn_sub]
  constructor
  · intro h k hk hb
    have h1 : (tCl T g).testBit k = true := by
      unfold tCl
      rw [gBits_tb, decide_eq_true hk, Bool.true_and]
      exact hb
    have h2 := h k h1
    rw [gBits_tb, Bool.and_eq_true] at h2
    exact h2.2
  · intro h i hi
    unfold tCl at hi
    rw [gBits_tb, Bool.and_eq_true, decide_eq_true_eq] at hi
    rw [gBits_tb, decide_eq_true hi.1, Bool.true_and]
    exact h i hi.1 hi.2
/-- what the component keeps of all cases -/
def eT (M : goMI) (T : tH) (A : Nat → Nat) (n : Nat) : Prop := ∀ c, c < n → M 75 c = nI (gBits (dSh T A c) (T 0 7)) ∧ ∀ g h, g < T 0 5 → h < T 0 0 → M 76 (72 * c + (12 * g + h)) = nI (yS T A c h g)
theorem gByte8 : ∀ v, v < 8 → (Int8.toInt32 (Int32.toInt8 (Int8.toInt32 (Int32.toInt8 (nI v))))) = nI v := by decide
section evid
variable {k : Nat} {M : goMI} {R : goMR} {T : tH} {t b N : Nat} {A B : Nat → Nat}
theorem cFresh1 (hR78 : R 78 1 = some t) (hR74 : R 74 2 = some t) (ht : t = 7 ∨ t = 37) (hC : tC M t T) (hT : tOk T) (hN : 5000 ≤ N) {c : Nat} (hc : c < 81) (hd : dayIs M 78 T A c) :
    ∃ M1 M2, (Option.bind (goWr M 75 81 (nI c) 0) fun M15 => lX4_freshened_42 (nI c) R N 0 M15) = some M1 ∧ lX4_freshened_91 (nI c) N 0 M1 = some M2 ∧ (∀ b, b ≠ 75 → b ≠ 76 → M2 b = M b) ∧ (∀ j, j ≠ c → M2 75 j = M 75 j) ∧ (∀ j, j < 72 * c → M2 76 j = M 76 j) ∧ M2 75 c = nI (gBits (dSh T A c) (T 0 7)) ∧ ∀ g h, g < T 0 5 → h < T 0 0 → M2 76 (72 * c + (12 * g + h)) = nI (yS T A c h g) := by
  have hz := tO_sz hT
  have h74 : goRr R 74 2 = t := by unfold goRr; rw [hR74]; rfl
  have k1 : ∃ M1, lX4_freshened_42 (nI c) R N (nI 0) (goWI M 75 c 0) = some M1 ∧ (∀ b, b ≠ 75 → M1 b = M b) ∧ (∀ j, j ≠ c → M1 75 j = M 75 j) ∧ M1 75 c = nI (gBits (dSh T A c) (T 0 7)) := by
    refine gFor (fun n i M' => lX4_freshened_42 (nI c) R n (nI i) M') (fun i M' => (∀ b, b ≠ 75 → M' b = M b) ∧ (∀ j, j ≠ c → M' 75 j = M 75 j) ∧ M' 75 c = nI (gBits (dSh T A c) i)) _ (T 0 7) ?_ ?_ N 0 _ (Nat.zero_le _) ⟨fun b hb => goWI_ne hb, fun j hj => gWI_nk hj, by rw [gWI_self, if_pos rfl]; rfl⟩ (by omega)
    · intro n i M1 hi hP
      obtain ⟨p1, p2, p3⟩ := hP
      have hC1 : tC M1 t T := tC_fr hC (fun r hr => p1 _ (by omega))
      have hd1 : dayIs M1 78 T A c := dayIs_fr hd (fun r h1 h2 => p1 _ (by omega))
      have hlt : gBits (dSh T A c) i < 2 ^ 10 := Nat.lt_of_lt_of_le (gBits_lt i) (Nat.pow_le_pow_right (by decide) (by omega))
      refine ⟨goWI M1 75 c (nI (gBits (dSh T A c) (i + 1))), ?_, fun b hb => by rw [goWI_ne hb]; exact p1 b hb, fun j hj => by rw [gWI_nk hj]; exact p2 j hj, by rw [gWI_self, if_pos rfl]⟩
      show lX4_freshened_42 _ _ _ _ _ = lX4_freshened_42 _ _ _ _ _
      rw [lX4_freshened_42, h74, (tC_herd hC1).2, if_pos (nI_lt hi (by omega)), gRd (by omega), gBd, p3, cShows hC1 hT (iR_a hR78) hd1 hi, gBd, gNm, nI_1]
      conv => rhs; unfold gBits
      cases dSh T A c i
      · rw [if_pos (by decide), gL_0, gI_or, gWr (by omega), gBd]; rfl
      · rw [if_neg (by decide), gI_shl1 (by omega), gI_or, gWr (by omega), gBd]; rfl
    · intro n M1 hP
      refine ⟨M1, ?_, hP⟩
      have hC1 : tC M1 t T := tC_fr hC (fun r hr => hP.1 _ (by omega))
      show lX4_freshened_42 _ _ _ _ _ = _
      rw [lX4_freshened_42, h74, (tC_herd hC1).2, if_neg (nI_nlt (Nat.le_refl _) (by omega))]
  obtain ⟨M1, e1, f1, g1, v1⟩ := k1
  have hd1 : dayIs M1 78 T A c := dayIs_fr hd (fun r h1 h2 => f1 _ (by omega))
  have k2 : ∃ M2, lX4_freshened_91 (nI c) N (nI 0) M1 = some M2 ∧ (∀ b, b ≠ 76 → M2 b = M1 b) ∧ (∀ j, j < 72 * c → M2 76 j = M1 76 j) ∧ ∀ j, j < 72 → M2 76 (72 * c + j) = Int8.toInt32 (Int32.toInt8 (Int8.toInt32 (Int32.toInt8 (M1 83 j)))) := by
    refine gFor (fun n i M' => lX4_freshened_91 (nI c) n (nI i) M') (fun i M' => (∀ b, b ≠ 76 → M' b = M1 b) ∧ (∀ j, j < 72 * c → M' 76 j = M1 76 j) ∧ ∀ j, j < i → M' 76 (72 * c + j) = Int8.toInt32 (Int32.toInt8 (Int8.toInt32 (Int32.toInt8 (M1 83 j))))) _ 72 ?_ ?_ N 0 M1 (Nat.zero_le _) ⟨fun _ _ => rfl, fun _ _ => rfl, fun j hj => absurd hj (Nat.not_lt_zero _)⟩ (by omega)
    · intro n i M2 hi hP
      obtain ⟨p1, p2, p3⟩ := hP
      refine ⟨goWI M2 76 (72 * c + i) (Int8.toInt32 (Int32.toInt8 (Int8.toInt32 (Int32.toInt8 (M1 83 i))))), ?_, fun b hb => by rw [goWI_ne hb]; exact p1 b hb, fun j hj => by rw [gWI_nk (by omega)]; exact p2 j hj, fun j hj => ?_⟩
      · show lX4_freshened_91 _ _ _ _ = lX4_freshened_91 _ _ _ _
        rw [lX4_freshened_91, gL_72, if_pos (nI_lt hi (by decide)), gRd hi, gBd, p1 83 (by decide), gM_72, nI_add, gWrB (by omega), gBd, nI_1]
      · rw [gWI_self]
        by_cases cj : j = i
        · rw [if_pos (by omega), cj]
        · rw [if_neg (by omega)]; exact p3 j (by omega)
    · intro n M2 hP
      refine ⟨M2, ?_, hP⟩
      show lX4_freshened_91 _ _ _ _ = _
      rw [lX4_freshened_91, gL_72, if_neg (nI_nlt (Nat.le_refl _) (by decide))]
  obtain ⟨M2, e2, f2, g2, v2⟩ := k2
  refine ⟨M1, M2, ?_, e2, fun b h1 h2 => by rw [f2 b h2]; exact f1 b h1, fun j hj => by rw [f2 75 (by decide)]; exact g1 j hj, fun j hj => by rw [g2 j hj, f1 76 (by decide)], by rw [f2 75 (by decide)]; exact v1, fun g h hg hh => ?_⟩
  · rw [gWr (by omega), gBd]
    exact e1
  · rw [v2 _ (by omega), show M1 83 (12 * g + h) = nI (yS T A c h g) from (hd1.2.1 g h hg hh).1, gByte8 _ (by have := yS_lt (A := A) (c := c) (h := h) (g := g) hT hg; omega)]
theorem cFresh (hR78 : R 78 1 = some t) (hR74 : R 74 2 = some t) (ht : t = 7 ∨ t = 37) (hC : tC M t T) (hT : tOk T) (hN : 5000 ≤ N) (hA : ∀ i, i < 26 → M 4 i = nI (A i)) (hAb : ∀ i, i < 24 → A i < 256) (hA24 : A 24 < 16384) (hk : kOk k M T A) :
    ∃ M', fX4_freshened N M R = some M' ∧ kOk k M' T A ∧ eT M' T A (T 0 16) ∧ ∀ b, b < 74 ∨ 88 ≤ b → M' b = M b := by
  have hz := tO_sz hT
  have hcs := tCases_le (T := T) (by omega) (tO_stories hT)
  have h74 : goRr R 74 2 = t := by unfold goRr; rw [hR74]; rfl
  unfold fX4_freshened
  have fin : ∀ M1, kOk k M1 T A → eT M1 T A (T 0 16) → (∀ b, b < 74 ∨ 88 ≤ b → M1 b = M b) → kOk k (goWI M1 74 6 (M1 3 5)) T A ∧ eT (goWI M1 74 6 (M1 3 5)) T A (T 0 16) ∧ ∀ b, b < 74 ∨ 88 ≤ b → goWI M1 74 6 (M1 3 5) b = M b := by
    intro M1 h1 h2 h3
    have fr : ∀ b, b ≠ 74 → goWI M1 74 6 (M1 3 5) b = M1 b := fun b hb => goWI_ne hb
    have j74 : ∀ j, j ≠ 6 → goWI M1 74 6 (M1 3 5) 74 j = M1 74 j := fun j hj => gWI_nk hj
    obtain ⟨⟨v, v1, v2, v3, v4⟩, k2, k3, k4, k5⟩ := h1
    refine ⟨⟨⟨v, v1, by rw [fr 3 (by decide)]; exact v2, Or.inr ⟨v, Nat.le_refl _, by rw [gWI_self, if_pos rfl]; exact v2⟩, by rw [j74 7 (by decide)]; exact v4⟩, ?_, ?_, by rw [fr 84 (by decide)]; exact k4, by rw [fr 98 (by decide)]; exact k5⟩, ?_, fun b hb => by rw [fr b (by omega)]; exact h3 b hb⟩
    · rw [j74 7 (by decide), j74 8 (by decide), fr 3 (by decide)]
      intro h
      obtain ⟨c, c1, c2, c3⟩ := k2 h
      exact ⟨c, c1, c2, dayIs_fr c3 (fun r h1 h2 => fr _ (by omega))⟩
    · intro _
      rw [fr 75 (by decide), fr 76 (by decide)]
      exact h2
    · unfold eT
      rw [fr 75 (by decide), fr 76 (by decide)]
      exact h2
  by_cases c6 : M 74 6 = M 3 5
  · have hloop : lX4_freshened_2 N R N 0 M = some M := by
      obtain ⟨m, rfl⟩ : ∃ m, N = m + 1 := ⟨N - 1, by omega⟩
      rw [lX4_freshened_2, if_pos c6]
      split <;> rfl
    rw [hloop, gBd, gNm]
    exact ⟨_, rfl, fin M hk (hk.2.2.1 c6) (fun _ _ => rfl)⟩
  · have key : ∃ M', lX4_freshened_2 N R N (nI 0) M = some M' ∧ kOk k M' T A ∧ eT M' T A (T 0 16) ∧ ∀ b, b < 74 ∨ 88 ≤ b → M' b = M b := by
      refine gFor (fun n i M' => lX4_freshened_2 N R n (nI i) M') (fun c M' => kOk k M' T A ∧ eT M' T A c ∧ (∀ b, b < 74 ∨ 88 ≤ b → M' b = M b) ∧ M' 74 6 = M 74 6) _ (T 0 16) ?_ ?_ N 0 M (Nat.zero_le _) ⟨hk, fun c hc => absurd hc (Nat.not_lt_zero _), fun _ _ => rfl, rfl⟩ (by omega)
      · intro n c M1 hc hP
        obtain ⟨p1, p2, p3, p4⟩ := hP
        have hC1 : tC M1 t T := tC_fr hC (fun r hr => p3 _ (by omega))
        have hA1 : ∀ i, i < 26 → M1 4 i = nI (A i) := fun i hi => by rw [p3 4 (by decide)]; exact hA i hi
        obtain ⟨M2, d1, d2, d3, d4, d5⟩ := cDayOf hN hR78 hR74 ht hC1 hT hA1 hAb hA24 p1 hc
        have hC2 : tC M2 t T := tC_fr hC1 (fun r hr => d4 _ (by omega))
        obtain ⟨M3, M4, e1, e2, e3, e4, e5, e6, e7⟩ := cFresh1 (A := A) (c := c) hR78 hR74 ht hC2 hT hN (by omega) d2
        have h46 : M4 74 6 = M 74 6 := by rw [e3 74 (by decide) (by decide), d5 6 (by decide) (by decide)]; exact p4
        have h43 : M4 3 = M 3 := by rw [e3 3 (by decide) (by decide), d4 3 (by decide), p3 3 (by decide)]
        refine ⟨M4, ?_, ?_, ?_, fun b hb => by rw [e3 b (by omega) (by omega), d4 b (by omega)]; exact p3 b hb, h46⟩
        · show lX4_freshened_2 _ _ _ _ _ = lX4_freshened_2 _ _ _ _ _
          rw [lX4_freshened_2, h74, tC_cases hC1, if_pos (nI_lt hc (by omega)), p4, p3 3 (by decide), if_neg c6, d1, gBd, nI_1]
          cases hw : goWr M2 75 81 (nI c) 0 with
          | none => rw [hw] at e1; cases e1
          | some x =>
            rw [hw, gBd] at e1
            rw [gBd, e1, gBd, e2, gBd]
        · obtain ⟨⟨v, v1, v2, v3, v4⟩, k2, k3, k4, k5⟩ := d3
          have r74 : M4 74 = M2 74 := e3 74 (by decide) (by decide)
          have r3 : M4 3 = M2 3 := e3 3 (by decide) (by decide)
          refine ⟨⟨v, v1, by rw [r3]; exact v2, by rw [r74]; exact v3, by rw [r74]; exact v4⟩, ?_, ?_, by rw [e3 84 (by decide) (by decide)]; exact k4, by rw [e3 98 (by decide) (by decide)]; exact k5⟩
          · rw [r74, r3]
            intro h
            obtain ⟨c', c1, c2, c3⟩ := k2 h
            exact ⟨c', c1, c2, dayIs_fr c3 (fun r h1 h2 => e3 _ (by omega) (by omega))⟩
          · intro h
            rw [h46, h43] at h
            exact absurd h c6
        · intro c' hc'
          by_cases cc : c' = c
          · rw [cc]; exact ⟨e6, e7⟩
          · have := p2 c' (by omega)
            refine ⟨?_, fun g h hg hh => ?_⟩
            · rw [e4 c' cc, d4 75 (by decide)]; exact this.1
            · rw [e5 _ (by omega), d4 76 (by decide)]; exact this.2 g h hg hh
      · intro n M1 hP
        refine ⟨M1, ?_, hP.1, hP.2.1, hP.2.2.1⟩
        have hC1 : tC M1 t T := tC_fr hC (fun r hr => hP.2.2.1 _ (by omega))
        show lX4_freshened_2 _ _ _ _ _ = _
        rw [lX4_freshened_2, h74, tC_cases hC1, if_neg (nI_nlt (Nat.le_refl _) (by omega))]
    obtain ⟨M1, e1, e2, e3, e4⟩ := key
    have e1' : lX4_freshened_2 N R N 0 M = some M1 := e1
    rw [e1', gBd, gNm]
    exact ⟨_, rfl, fin M1 e2 e3 e4⟩
theorem mLays (hR : R 102 3 = some b) (hb : 121 ≤ b) (hM : tM M b T) (hT : tOk T) (hN : 5000 ≤ N) (hv : ∀ i, i < 18 → M 105 i = nI (B i)) (hAB : aB A B) :
    ∃ M', fX14_laysHonest N M R = some M' ∧ (∀ c, c < T 0 16 → M' 114 c = nI (yH T A c)) ∧ ∀ b, b < 108 ∨ 114 < b → M' b = M b := by
  have hz := tO_sz hT
  have hcs := tCases_le (T := T) (by omega) (tO_stories hT)
  have key : ∃ M', lX14_laysHonest_2 N R N (nI 0) M = some M' ∧ (∀ c, c < T 0 16 → M' 114 c = nI (yH T A c)) ∧ ∀ b, b < 108 ∨ 114 < b → M' b = M b := by
    refine gFor (fun n i M' => lX14_laysHonest_2 N R n (nI i) M') (fun n M' => (∀ c, c < n → M' 114 c = nI (yH T A c)) ∧ ∀ b, b < 108 ∨ 114 < b → M' b = M b) _ (T 0 16) ?_ ?_ N 0 M (Nat.zero_le _) ⟨fun c hc => absurd hc (Nat.not_lt_zero _), fun _ _ => rfl⟩ (by omega)
    · intro n c M1 hc hP
      have hM1 : tM M1 b T := tM_fr hM (fun r hr => hP.2 _ (by omega))
      obtain ⟨M2, m1, m2, m3⟩ := mDayRun hR hb hM1 hT hN (fun i hi => by rw [hP.2 105 (by decide)]; exact hv i hi) hAB (c := c) (by omega)
      have hM2 : tM M2 b T := tM_fr hM1 (fun r hr => m2 _ (by omega))
      have k2 : ∃ M3, lX14_laysHonest_28 N (nI c) R N (nI 0) (goWI M2 114 c 63) = some M3 ∧ (∀ b, b ≠ 114 → M3 b = M2 b) ∧ (∀ j, j ≠ c → M3 114 j = M2 114 j) ∧ M3 114 c = nI (yH T A c) := by
        refine gFor (fun n i M' => lX14_laysHonest_28 N (nI c) R n (nI i) M') (fun i M' => (∀ b, b ≠ 114 → M' b = M2 b) ∧ (∀ j, j ≠ c → M' 114 j = M2 114 j) ∧ M' 114 c = nI (yHn T A c i)) _ (T 0 7) ?_ ?_ N 0 _ (Nat.zero_le _) ⟨fun b hb => goWI_ne hb, fun j hj => gWI_nk hj, by rw [gWI_self, if_pos rfl]; rfl⟩ (by omega)
        · intro n i M3 hi hP3
          obtain ⟨p1, p2, p3⟩ := hP3
          have hM3 : tM M3 b T := tM_fr hM2 (fun r hr => p1 _ (by omega))
          have hd3 : mdIs M3 T A c := by
            unfold mdIs mJ
            rw [p1 108 (by decide), p1 109 (by decide), p1 110 (by decide), p1 111 (by decide), p1 112 (by decide)]
            exact m3
          have o14 := (tO_clue hT i hi).2.1
          have hl := yHn_lt (T := T) (A := A) (c := c) i
          cases e : dSh T A c i
          · refine ⟨goWI M3 114 c (nI (yHn T A c (i + 1))), ?_, fun b hb => by rw [goWI_ne hb]; exact p1 b hb, fun j hj => by rw [gWI_nk hj]; exact p2 j hj, by rw [gWI_self, if_pos rfl]⟩
            show lX14_laysHonest_28 _ _ _ _ _ _ = lX14_laysHonest_28 _ _ _ _ _ _
            have e1 : yHn T A c (i + 1) = dAn (yHn T A c i) (2 ^ T 14 i) := by
              show (if dSh T A c i then _ else _) = _
              rw [e]; rfl
            rw [lX14_laysHonest_28, hR, gBd, tM_0 hM3 (by decide), if_pos (nI_lt hi (by omega)), mHolds hR hM3 hT hN hd3 hi, gBd, e, if_pos (by decide), gRd (by omega), gBd, p3, gBd, gRd (by omega), gBd, tM_14 hM3 (by omega), gI_shl1 (by omega), gI_not _ _ (by omega), gWr (by omega), gBd, gBd, nI_1, e1]
            rfl
          · refine ⟨M3, ?_, p1, p2, ?_⟩
            · show lX14_laysHonest_28 _ _ _ _ _ _ = lX14_laysHonest_28 _ _ _ _ _ _
              rw [lX14_laysHonest_28, hR, gBd, tM_0 hM3 (by decide), if_pos (nI_lt hi (by omega)), mHolds hR hM3 hT hN hd3 hi, gBd, e, if_neg (by decide), gBd, nI_1]
            · rw [p3]
              show _ = nI (if dSh T A c i then _ else _)
              rw [e]; rfl
        · intro n M3 hP3
          refine ⟨M3, ?_, hP3⟩
          have hM3 : tM M3 b T := tM_fr hM2 (fun r hr => hP3.1 _ (by omega))
          show lX14_laysHonest_28 _ _ _ _ _ _ = _
          rw [lX14_laysHonest_28, hR, gBd, tM_0 hM3 (by decide), if_neg (nI_nlt (Nat.le_refl _) (by omega))]
      obtain ⟨M3, e1, e2, e3, e4⟩ := k2
      refine ⟨M3, ?_, fun c' hc' => ?_, fun b hb => by rw [e2 b (by omega), m2 b (by omega)]; exact hP.2 b hb⟩
      · show lX14_laysHonest_2 _ _ _ _ _ = lX14_laysHonest_2 _ _ _ _ _
        have e1' : lX14_laysHonest_28 N (nI c) R N 0 (goWI M2 114 c 63) = some M3 := e1
        rw [lX14_laysHonest_2, hR, gBd, mCases hM1 (by omega) (tO_stories hT) hN, gBd, ← hz.2.2.2.2.2.2.2.2.2.2.2.2.2.2.2.2, if_pos (nI_lt hc (by omega)), m1, gBd, gWr (by omega), gBd, e1', gBd, nI_1]
      · by_cases cc : c' = c
        · rw [cc]; exact e4
        · rw [e3 c' cc, m2 114 (by decide)]
          exact hP.1 c' (by omega)
    · intro n M1 hP
      refine ⟨M1, ?_, hP⟩
      have hM1 : tM M1 b T := tM_fr hM (fun r hr => hP.2 _ (by omega))
      show lX14_laysHonest_2 _ _ _ _ _ = _
      rw [lX14_laysHonest_2, hR, gBd, mCases hM1 (by omega) (tO_stories hT) hN, gBd, ← hz.2.2.2.2.2.2.2.2.2.2.2.2.2.2.2.2, if_neg (nI_nlt (Nat.le_refl _) (by omega))]
  obtain ⟨M', e1, e2⟩ := key
  unfold fX14_laysHonest
  have e1' : lX14_laysHonest_2 N R N 0 M = some M' := e1
  rw [e1', gBd]
  exact ⟨M', rfl, e2⟩
end evid
