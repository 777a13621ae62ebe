/-! COURTS in both -/
theorem gLc_lt {x y : Int64} : lg_cmp x y < 0 ↔ x < y := by
  unfold lg_cmp
  by_cases h1 : x > y
  · rw [if_pos h1]
    constructor
    · intro h; exact absurd h (by decide)
    · intro h; exact absurd (Int64.lt_trans h h1) Int64.lt_irrefl
  · rw [if_neg h1]
    by_cases h2 : x = y
    · rw [if_pos h2, h2]
      constructor
      · intro h; exact absurd h (by decide)
      · intro h; exact absurd h Int64.lt_irrefl
    · rw [if_neg h2]
      constructor
      · intro _
        exact Int64.lt_of_le_of_ne (Int64.not_lt.mp h1) h2
      · intro _; decide
theorem gLc_0 {x y : Int64} : lg_cmp x y = 0 ↔ x = y := by
  unfold lg_cmp
  by_cases h1 : x > y
  · rw [if_pos h1]
    constructor
    · intro h; exact absurd h (by decide)
    · intro h; rw [h] at h1; exact absurd h1 Int64.lt_irrefl
  · rw [if_neg h1]
    by_cases h2 : x = y
    · rw [if_pos h2]; exact ⟨fun _ => h2, fun _ => rfl⟩
    · rw [if_neg h2]; exact ⟨fun h => absurd h (by decide), fun h => absurd h h2⟩
theorem gWL_self {M : goML} {a k j : Nat} {x : Int64} : goWL M a k x a j = if j = k then x else M a j := by simp [goWL]
theorem gWL_nk {M : goML} {a k j : Nat} {x : Int64} (h : j ≠ k) : goWL M a k x a j = M a j := by simp [goWL, h]
theorem gMin_cut {w : Nat → Nat} {r : Nat → Bool} {b l n : Nat} : ∀ {m : Nat}, n ≤ m → (∀ k, n ≤ k → k < m → r k = false) → gMin w r b l m = gMin w r b l n
  | 0, h, _ => by
    have : n = 0 := by omega
    rw [this]
  | m + 1, h, hr => by
    by_cases c : n = m + 1
    · rw [c]
    · show (if (r m && _) then _ else _) = _
      rw [hr m (by omega) (by omega), Bool.false_and, if_neg Bool.false_ne_true]
      exact gMin_cut (by omega) (fun k h1 h2 => hr k h1 (by omega))
/-- the least costs met so far, as the class keeps them: -1 while there are none -/
def cV (v : Nat) : Int64 := if v < kBig then lN v else -1
theorem cV_lt {v : Nat} (h : v < kBig) : cV v = lN v := if_pos h
theorem cV_no {v : Nat} (h : ¬ v < kBig) : cV v = -1 := if_neg h
theorem cV_m1 {v : Nat} (h : v < kBig) : ¬ lg_cmp (lN v) (-1) = 0 := by
  rw [gLc_0]
  intro e
  have hb : kBig = 9223372036854775807 := rfl
  have h1 : ¬ lN v < lN 0 := by
    rw [pk_lLT (by omega) (by decide)]
    omega
  rw [e] at h1
  exact h1 (by decide)
section courts2
variable {M : goMI} {L : goML} {R : goMR} {T : tH} {t b N : Nat}
/-- what is known of sets below one -/
def cWe (M : goMI) (L : goML) (a : Nat) (T : tH) (s : Nat) : Prop := ∀ x, x < s → L (a + 3) x = lN (kL T (gPc x) x) ∧ M (a + 4) x = nI (kF T (gPc x) x)
theorem cWeigh (hC : tC M t T) (hT : tOk T) (hN : 5000 ≤ N) : ∃ M' L', fX2_weigh N M L (t + 25) = some (M', L') ∧ cWe M' L' (t + 25) T (2 ^ T 0 11) ∧ (∀ b, b ≠ t + 29 → M' b = M b) ∧ ∀ b, b ≠ t + 28 → L' b = L b := by
  have hz := tO_sz hT
  have hp := gP2 (n := T 0 11) (by omega)
  have hpp := gP2pos (T 0 11)
  have hkT : kOkT T (T 0 11) := ⟨by omega, fun k hk => tO_court hT k hk⟩
  have scale : ∀ j, j ≤ 6 → ∀ n w, j < n → lX2_weigh_34 n (lN w) (nI j) = some (lN (w * 10 ^ j)) := by
    intro j
    induction j with
    | zero =>
      intro _ n w hn
      obtain ⟨m, rfl⟩ : ∃ m, n = m + 1 := ⟨n - 1, by omega⟩
      rw [lX2_weigh_34, if_neg (by decide), Nat.pow_zero, Nat.mul_one]
    | succ j ih =>
      intro hj n w hn
      obtain ⟨m, rfl⟩ : ∃ m, n = m + 1 := ⟨n - 1, by omega⟩
      rw [lX2_weigh_34, if_pos (show (0 : Int32) < nI (j + 1) from (nI_lt (by omega) (by omega) : nI 0 < nI (j + 1))), gNm, show lN w * 10 = lN (w * 10) from lN_mul w 10, pk_m1, ih (by omega) m _ (by omega), Nat.pow_succ, Nat.mul_comm (10 ^ j) 10, Nat.mul_assoc]
  unfold fX2_weigh
  rw [show (t + 25) + 3 = t + 28 from rfl, show (t + 25) + 4 = t + 29 from rfl]
  have w1 : goWrL L (t + 28) 64 0 0 = some (goWL L (t + 28) 0 0) := gWrL (i := 0) (by decide)
  have w2 : goWr M (t + 29) 64 0 0 = some (goWI M (t + 29) 0 0) := gWr (i := 0) (by decide)
  rw [w1, gBd, w2, gBd]
  have key : ∃ r : goMI × goML, lX2_weigh_16 N (t + 25) N (nI 1) (goWI M (t + 29) 0 0) (goWL L (t + 28) 0 0) = some r ∧ cWe r.1 r.2 (t + 25) T (2 ^ T 0 11) ∧ (∀ b, b ≠ t + 29 → r.1 b = M b) ∧ ∀ b, b ≠ t + 28 → r.2 b = L b := by
    refine gFor (fun n i (x : goMI × goML) => lX2_weigh_16 N (t + 25) n (nI i) x.1 x.2) (fun s x => 1 ≤ s ∧ cWe x.1 x.2 (t + 25) T s ∧ (∀ b, b ≠ t + 29 → x.1 b = M b) ∧ ∀ b, b ≠ t + 28 → x.2 b = L b) _ (2 ^ T 0 11) ?_ ?_ N 1 (goWI M (t + 29) 0 0, goWL L (t + 28) 0 0) (by omega) ⟨Nat.le_refl _, fun x hx => ?_, fun b hb => goWI_ne hb, fun b hb => goWL_ne hb⟩ (by omega)
    · rintro n s ⟨M1, L1⟩ hs ⟨p0, p1, p2, p3⟩
      have p1' : cWe M1 L1 (t + 25) T s := p1
      have p2' : ∀ b, b ≠ t + 29 → M1 b = M b := p2
      have p3' : ∀ b, b ≠ t + 28 → L1 b = L b := p3
      have hC1 : tC M1 t T := tC_fr hC (fun r hr => p2' _ (by omega))
      have hpc := gPc_le2 (n := T 0 11) (by omega) hs
      have hs1 : 1 ≤ s := p0
      have hpos : gPc s ≠ 0 := by
        intro e
        obtain ⟨k, hk⟩ := gTb_ex (show s ≠ 0 by omega)
        have hk6 : k < 12 := by
          apply Classical.byContradiction
          intro h
          rw [gTb_hi (n := 6) (show s < 2 ^ 6 by omega) (by omega)] at hk
          cases hk
        have := gPc_flip (x := s) hk6
        rw [hk, e] at this
        have h1 : true.toNat = 1 := rfl
        have h0 : (!true).toNat = 0 := rfl
        omega
      obtain ⟨m, hm⟩ : ∃ m, gPc s = m + 1 := ⟨gPc s - 1, by omega⟩
      have hin : ∃ r : goMI × goML, lX2_weigh_63 (nI s) (lN (10 ^ (m + 1))) (t + 25) N (nI 0) M1 (goWL L1 (t + 28) s (-1)) = some r ∧ r.2 (t + 28) s = cV (gMin (kW T (kL T m) m s) (fun k => s.testBit k) 0 kBig (T 0 11)).2 ∧ ((gMin (kW T (kL T m) m s) (fun k => s.testBit k) 0 kBig (T 0 11)).2 < kBig → r.1 (t + 29) s = nI (gMin (kW T (kL T m) m s) (fun k => s.testBit k) 0 kBig (T 0 11)).1) ∧ (∀ b, b ≠ t + 29 → r.1 b = M1 b) ∧ (∀ b, b ≠ t + 28 → r.2 b = L1 b) ∧ (∀ x, x ≠ s → r.1 (t + 29) x = M1 (t + 29) x) ∧ ∀ x, x ≠ s → r.2 (t + 28) x = L1 (t + 28) x := by
        refine gFor (fun n i (x : goMI × goML) => lX2_weigh_63 (nI s) (lN (10 ^ (m + 1))) (t + 25) n (nI i) x.1 x.2) (fun k r => r.2 (t + 28) s = cV (gMin (kW T (kL T m) m s) (fun k => s.testBit k) 0 kBig k).2 ∧ ((gMin (kW T (kL T m) m s) (fun k => s.testBit k) 0 kBig k).2 < kBig → r.1 (t + 29) s = nI (gMin (kW T (kL T m) m s) (fun k => s.testBit k) 0 kBig k).1) ∧ (∀ b, b ≠ t + 29 → r.1 b = M1 b) ∧ (∀ b, b ≠ t + 28 → r.2 b = L1 b) ∧ (∀ x, x ≠ s → r.1 (t + 29) x = M1 (t + 29) x) ∧ ∀ x, x ≠ s → r.2 (t + 28) x = L1 (t + 28) x) _ (T 0 11) ?_ ?_ N 0 (M1, goWL L1 (t + 28) s (-1)) (Nat.zero_le _) ⟨by show goWL L1 (t + 28) s (-1) (t + 28) s = _; rw [gWL_self, if_pos rfl]; exact (cV_no (Nat.lt_irrefl _)).symm, fun h => absurd h (Nat.lt_irrefl _), fun _ _ => rfl, fun b hb => goWL_ne hb, fun _ _ => rfl, fun x hx => gWL_nk hx⟩ (by omega)
        · rintro n k ⟨M2, L2⟩ hk ⟨q1, q2, q3, q4, q5, q6⟩
          have q1' : L2 (t + 28) s = cV (gMin (kW T (kL T m) m s) (fun k => s.testBit k) 0 kBig k).2 := q1
          have q2' : (gMin (kW T (kL T m) m s) (fun k => s.testBit k) 0 kBig k).2 < kBig → M2 (t + 29) s = nI (gMin (kW T (kL T m) m s) (fun k => s.testBit k) 0 kBig k).1 := q2
          have q3' : ∀ b, b ≠ t + 29 → M2 b = M1 b := q3
          have q4' : ∀ b, b ≠ t + 28 → L2 b = L1 b := q4
          have q5' : ∀ x, x ≠ s → M2 (t + 29) x = M1 (t + 29) x := q5
          have q6' : ∀ x, x ≠ s → L2 (t + 28) x = L1 (t + 28) x := q6
          have hC2 : tC M2 t T := tC_fr hC1 (fun r hr => q3' _ (by omega))
          have hle := gMin_le (w := kW T (kL T m) m s) (r := fun k => s.testBit k) (b := 0) (l := kBig) k
          show ∃ a', lX2_weigh_63 (nI s) (lN (10 ^ (m + 1))) (t + 25) (n + 1) (nI k) M2 L2 = lX2_weigh_63 _ _ _ _ _ _ _ ∧ _
          rw [lX2_weigh_63, tC_courts hC2, if_pos (nI_lt hk (by omega)), gI_bit (by omega) (by omega), nI_1, show t + 25 + 1 = t + 26 from rfl, show t + 25 + 2 = t + 27 from rfl, show t + 25 + 3 = t + 28 from rfl, show t + 25 + 4 = t + 29 from rfl]
          cases hb : s.testBit k
          · have hg : gMin (kW T (kL T m) m s) (fun k => s.testBit k) 0 kBig (k + 1) = gMin (kW T (kL T m) m s) (fun k => s.testBit k) 0 kBig k := by
              show (if (s.testBit k && _) then _ else _) = _
              rw [hb, Bool.false_and, if_neg Bool.false_ne_true]
            refine ⟨(M2, L2), ?_, ?_⟩
            · rw [if_neg (by decide), gB2]
            · rw [hg]; exact ⟨q1', q2', q3', q4', q5', q6'⟩
          · obtain ⟨o20, o21, o21'⟩ := tO_court hT k hk
            obtain ⟨c26, c27⟩ := tC_costs hC2 k hk
            have hdl : dAn s (2 ^ k) < s := by
              have h1 : dAn s (2 ^ k) &&& s = dAn s (2 ^ k) := by
                apply Nat.eq_of_testBit_eq
                intro i
                rw [Nat.testBit_and, dAn_tb]
                cases s.testBit i <;> cases (2 ^ k).testBit i <;> rfl
              have h2 : dAn s (2 ^ k) ≤ s := by
                have := Nat.and_le_right (n := dAn s (2 ^ k)) (m := s)
                rw [h1] at this
                exact this
              have h3 : dAn s (2 ^ k) ≠ s := by
                intro e
                have := dAn_tb s (2 ^ k) k
                rw [e, hb, gTb_pow, decide_eq_true rfl] at this
                cases this
              omega
            have hdn : dAn s (2 ^ k) < 2 ^ T 0 11 := by omega
            have hdp : gPc (dAn s (2 ^ k)) = m := gPc_rem (by omega) hb hm
            have hld : L2 (t + 28) (dAn s (2 ^ k)) = lN (kL T m (dAn s (2 ^ k))) := by
              rw [q6' _ (by omega), (p1' _ hdl).1, hdp]
            have hkl := kL_lt hkT hdn hdp
            have hkw := kW_lt hkT hs hm hb
            have hbg : kBig = 9223372036854775807 := rfl
            have hval : (Int32.toInt64 (nI (T 20 k))) * lN (10 ^ (m + 1)) + (Int32.toInt64 (10 - nI (T 21 k))) * lN (kL T m (dAn s (2 ^ k))) = lN (kW T (kL T m) m s k) := by
              rw [nI_l (by omega), gL_10, pk_sub (by omega), nI_l (by omega), lN_mul, lN_mul, lN_add]
              rfl
            have hcmp : (lg_cmp (lN (kW T (kL T m) m s k)) (lN (gMin (kW T (kL T m) m s) (fun k => s.testBit k) 0 kBig k).2) < 0) ↔ kW T (kL T m) m s k < (gMin (kW T (kL T m) m s) (fun k => s.testBit k) 0 kBig k).2 := by
              rw [gLc_lt, pk_lLT (by omega) (by omega)]
            have hg : gMin (kW T (kL T m) m s) (fun k => s.testBit k) 0 kBig (k + 1) = if kW T (kL T m) m s k < (gMin (kW T (kL T m) m s) (fun k => s.testBit k) 0 kBig k).2 then (k, kW T (kL T m) m s k) else gMin (kW T (kL T m) m s) (fun k => s.testBit k) 0 kBig k := by
              show (if (s.testBit k && decide _) = true then _ else _) = _
              rw [hb, Bool.true_and]
              by_cases c : kW T (kL T m) m s k < (gMin (kW T (kL T m) m s) (fun k => s.testBit k) 0 kBig k).2
              · rw [if_pos (decide_eq_true c), if_pos c]
              · rw [if_neg (by rw [decide_eq_false c]; exact Bool.false_ne_true), if_neg c]
            have hn1 : nI s &&& ((1 <<< (nI k &&& 31)) ^^^ (-1)) = nI (dAn s (2 ^ k)) := by
              rw [gI_shl1 (by omega)]
              exact gI_not _ _ (by omega)
            rw [if_pos (by decide), gRd (by omega), gBd, c26, gRd (by omega), gBd, c27, hn1, gRdL (by omega), gBd, hld, hval, gNm, gRdL (by omega), gBd, q1']
            by_cases c : kW T (kL T m) m s k < (gMin (kW T (kL T m) m s) (fun k => s.testBit k) 0 kBig k).2
            · refine ⟨(goWI M2 (t + 29) s (nI k), goWL L2 (t + 28) s (lN (kW T (kL T m) m s k))), ?_, ?_⟩
              · by_cases cb : (gMin (kW T (kL T m) m s) (fun k => s.testBit k) 0 kBig k).2 < kBig
                · rw [cV_lt cb, if_neg (cV_m1 cb), gBd, if_pos (hcmp.mpr c), gWrL (by omega), gBd, gWr (by omega), gBd, gB2]
                · rw [cV_no cb, if_pos (gLc_0.mpr rfl), gWrL (by omega), gBd, gWr (by omega), gBd, gB2]
              · rw [hg, if_pos c]
                refine ⟨?_, fun _ => ?_, fun b hb => (goWI_ne hb).trans (q3' b hb), fun b hb => (goWL_ne hb).trans (q4' b hb), fun x hx => (gWI_nk hx).trans (q5' x hx), fun x hx => (gWL_nk hx).trans (q6' x hx)⟩
                · show goWL L2 (t + 28) s (lN (kW T (kL T m) m s k)) (t + 28) s = _
                  rw [gWL_self, if_pos rfl]
                  exact (cV_lt (by omega)).symm
                · show goWI M2 (t + 29) s (nI k) (t + 29) s = _
                  rw [gWI_self, if_pos rfl]
            · refine ⟨(M2, L2), ?_, ?_⟩
              · have cb : (gMin (kW T (kL T m) m s) (fun k => s.testBit k) 0 kBig k).2 < kBig := by omega
                rw [cV_lt cb, if_neg (cV_m1 cb), gBd, if_neg (fun e => c (hcmp.mp e)), gB2]
              · rw [hg, if_neg c]; exact ⟨q1', q2', q3', q4', q5', q6'⟩
        · rintro n ⟨M2, L2⟩ ⟨q1, q2, q3, q4, q5, q6⟩
          have q3' : ∀ b, b ≠ t + 29 → M2 b = M1 b := q3
          have hC2 : tC M2 t T := tC_fr hC1 (fun r hr => q3' _ (by omega))
          refine ⟨(M2, L2), ?_, q1, q2, q3, q4, q5, q6⟩
          show lX2_weigh_63 (nI s) (lN (10 ^ (m + 1))) (t + 25) (n + 1) (nI (T 0 11)) M2 L2 = _
          rw [lX2_weigh_63, tC_courts hC2, if_neg (nI_nlt (Nat.le_refl _) (by omega))]
      obtain ⟨⟨M2, L2⟩, i1, i2, i3, i4, i5, i6, i7⟩ := hin
      have i2' : L2 (t + 28) s = cV (gMin (kW T (kL T m) m s) (fun k => s.testBit k) 0 kBig (T 0 11)).2 := i2
      have i3' : (gMin (kW T (kL T m) m s) (fun k => s.testBit k) 0 kBig (T 0 11)).2 < kBig → M2 (t + 29) s = nI (gMin (kW T (kL T m) m s) (fun k => s.testBit k) 0 kBig (T 0 11)).1 := i3
      have hcut : gMin (kW T (kL T m) m s) (fun k => s.testBit k) 0 kBig 6 = gMin (kW T (kL T m) m s) (fun k => s.testBit k) 0 kBig (T 0 11) := gMin_cut (by omega) (fun k h1 _ => gTb_hi hs h1)
      have hkl := kL_lt hkT hs hm
      have hlt : (gMin (kW T (kL T m) m s) (fun k => s.testBit k) 0 kBig (T 0 11)).2 < kBig := by
        rw [← hcut]
        show kL T (m + 1) s < 9223372036854775807
        omega
      refine ⟨(M2, L2), ?_, by omega, fun x hx => ?_, fun b hb => (i4 b hb).trans (p2' b hb), fun b hb => (i5 b hb).trans (p3' b hb)⟩
      · show lX2_weigh_16 N (t + 25) (n + 1) (nI s) M1 L1 = lX2_weigh_16 _ _ _ _ _ _
        have i1' : lX2_weigh_63 (nI s) (lN (10 ^ (m + 1))) (t + 25) N 0 M1 (goWL L1 (t + 28) s (-1)) = some (M2, L2) := i1
        have hsc : lX2_weigh_34 N 1 (nI (m + 1)) = some (lN (10 ^ (m + 1))) := by
          have := scale (m + 1) (by omega) N 1 (by omega)
          rw [Nat.one_mul] at this
          exact this
        have hw : goWrL L1 (t + 25 + 3) 64 (nI s) (-1) = some (goWL L1 (t + 28) s (-1)) := gWrL (by omega)
        rw [lX2_weigh_16, tC_courts hC1, gI_shl1 (by omega), if_pos (nI_lt hs (by omega)), gPc_bc _ (by omega), gNm, hm, hsc, gBd, hw, gBd, i1', gB2, nI_1]
      · show L2 (t + 28) x = _ ∧ M2 (t + 29) x = _
        by_cases e : x = s
        · rw [e, i2', cV_lt hlt, i3' hlt, hm, ← hcut]
          exact ⟨rfl, rfl⟩
        · have h7 : L2 (t + 28) x = L1 (t + 28) x := i7 x e
          have h6 : M2 (t + 29) x = M1 (t + 29) x := i6 x e
          rw [h7, h6]
          exact p1' x (by omega)
    · rintro n ⟨M1, L1⟩ ⟨p0, p1, p2, p3⟩
      have p2' : ∀ b, b ≠ t + 29 → M1 b = M b := p2
      have hC1 : tC M1 t T := tC_fr hC (fun r hr => p2' _ (by omega))
      refine ⟨(M1, L1), ?_, p1, p2, p3⟩
      show lX2_weigh_16 N (t + 25) (n + 1) (nI (2 ^ T 0 11)) M1 L1 = _
      rw [lX2_weigh_16, tC_courts hC1, gI_shl1 (by omega), if_neg (nI_nlt (Nat.le_refl _) (by omega))]
    · have : x = 0 := by omega
      rw [this]
      refine ⟨?_, ?_⟩
      · show goWL L (t + 28) 0 0 (t + 28) 0 = _
        rw [gWL_self, if_pos rfl]; rfl
      · show goWI M (t + 29) 0 0 (t + 29) 0 = _
        rw [gWI_self, if_pos rfl]; rfl
  obtain ⟨⟨M1, L1⟩, k1, k2, k3, k4⟩ := key
  have k1' : lX2_weigh_16 N (t + 25) N 1 (goWI M (t + 29) 0 0) (goWL L (t + 28) 0 0) = some (M1, L1) := k1
  rw [k1', gB2]
  exact ⟨M1, L1, rfl, k2, k3, k4⟩
end courts2
