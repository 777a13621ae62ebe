/-! FACTS AND RULES -/
theorem gSum_mono {f g : Nat → Nat} : ∀ {n : Nat}, (∀ i, i < n → f i ≤ g i) → gSum f n ≤ gSum g n
  | 0, _ => Nat.le_refl _
  | n + 1, h => Nat.add_le_add (gSum_mono (fun i hi => h i (by omega))) (h n (by omega))
theorem gSum_lt {f g : Nat → Nat} {j : Nat} (hj : f j < g j) : ∀ {n : Nat}, j < n → (∀ i, i < n → f i ≤ g i) → gSum f n < gSum g n
  | 0, h, _ => absurd h (Nat.not_lt_zero _)
  | n + 1, hn, h => by
    show gSum f n + f n < gSum g n + g n
    by_cases c : j = n
    · have := gSum_mono (n := n) (fun i hi => h i (by omega))
      rw [c] at hj
      omega
    · have := gSum_lt hj (n := n) (by omega) (fun i hi => h i (by omega))
      have := h n (by omega)
      omega
/-- once through the rules, but one -/
def lR (T : tH) (w s : Nat) : Nat → Nat
  | 0 => s
  | r + 1 => if r ≠ w ∧ dAn (T 18 r) (lR T w s r) = 0 then lR T w s r ||| 2 ^ T 17 r else lR T w s r
/-- some times through the rules -/
def lK (T : tH) (w s : Nat) : Nat → Nat
  | 0 => s
  | i + 1 => lR T w (lK T w s i) (T 0 9)
theorem lR_sub {T : tH} {w s i : Nat} (h : s.testBit i = true) : ∀ r, (lR T w s r).testBit i = true
  | 0 => h
  | r + 1 => by
    have ih := lR_sub (T := T) (w := w) h r
    unfold lR
    split
    · rw [Nat.testBit_or, ih]; rfl
    · exact ih
theorem lR_lt {T : tH} {w s : Nat} (hT : tOk T) (h : s < 2 ^ T 0 8) : ∀ r, r ≤ T 0 9 → lR T w s r < 2 ^ T 0 8
  | 0, _ => h
  | r + 1, hr => by
    have ih := lR_lt (w := w) hT h r (by omega)
    unfold lR
    split
    · exact Nat.or_lt_two_pow ih (Nat.pow_lt_pow_right (by decide) (tO_rule hT r hr).1)
    · exact ih
theorem lK_lt {T : tH} {w s : Nat} (hT : tOk T) (h : s < 2 ^ T 0 8) : ∀ i, lK T w s i < 2 ^ T 0 8
  | 0 => h
  | i + 1 => lR_lt hT (lK_lt hT h i) _ (Nat.le_refl _)
theorem lK_fix {T : tH} {w s j : Nat} (h : lK T w s (j + 1) = lK T w s j) : ∀ d, lK T w s (j + d) = lK T w s j
  | 0 => rfl
  | d + 1 => by
    show lR T w (lK T w s (j + d)) (T 0 9) = _
    rw [lK_fix h d]
    exact h
theorem gP2_8 {n : Nat} (h : n ≤ 8) : 2 ^ n ≤ 256 := show 2 ^ n ≤ 2 ^ 8 from Nat.pow_le_pow_right (by decide) h
theorem gPc_le2 {s n : Nat} (hn : n ≤ 12) (h : s < 2 ^ n) : gPc s ≤ n := by
  unfold gPc
  rw [gSum_cut (n := n) hn (fun i h1 _ => by
    show (s.testBit i).toNat = 0
    rw [gTb_hi h h1]; rfl)]
  have := gSum_le (f := fun i => (s.testBit i).toNat) (c := 1) (n := n) (fun i _ => by
    show (s.testBit i).toNat ≤ 1
    cases s.testBit i <;> decide)
  omega
theorem lK_stops {T : tH} {w s : Nat} (hT : tOk T) (h : s < 2 ^ T 0 8) : ∃ j, j ≤ T 0 8 ∧ lK T w s (j + 1) = lK T w s j := by
  have hz := tO_sz hT
  apply Classical.byContradiction
  intro hn
  have key : ∀ n, n ≤ T 0 8 + 1 → n ≤ gPc (lK T w s n) := by
    intro n
    induction n with
    | zero => intro _; exact Nat.zero_le _
    | succ n ih =>
      intro hle
      have ih' := ih (by omega)
      have hne : lK T w s (n + 1) ≠ lK T w s n := fun e => hn ⟨n, by omega, e⟩
      have hex : ∃ i, (lK T w s n).testBit i = false ∧ (lK T w s (n + 1)).testBit i = true := by
        apply Classical.byContradiction
        intro hc
        apply hne
        apply Nat.eq_of_testBit_eq
        intro i
        cases e : (lK T w s n).testBit i
        · cases e2 : (lK T w s (n + 1)).testBit i
          · rfl
          · exact absurd ⟨i, e, e2⟩ hc
        · exact lR_sub e _
      obtain ⟨i, i1, i2⟩ := hex
      have hi : i < 12 := by
        apply Classical.byContradiction
        intro hi
        rw [gTb_hi (lK_lt hT h (n + 1)) (by omega)] at i2
        cases i2
      have : gPc (lK T w s n) < gPc (lK T w s (n + 1)) := by
        unfold gPc
        refine gSum_lt (j := i) ?_ hi (fun k _ => ?_)
        · show ((lK T w s n).testBit i).toNat < ((lK T w s (n + 1)).testBit i).toNat
          rw [i1, i2]; decide
        · show ((lK T w s n).testBit k).toNat ≤ ((lK T w s (n + 1)).testBit k).toNat
          cases e : (lK T w s n).testBit k
          · exact Nat.zero_le _
          · have : (lK T w s (n + 1)).testBit k = true := lR_sub e _
            rw [this]
            exact Nat.le_refl _
      omega
  have h1 := key (T 0 8 + 1) (Nat.le_refl _)
  have h2 := gPc_le2 (n := T 0 8) (by omega) (lK_lt (w := w) hT h (T 0 8 + 1))
  omega
/-- what follows -/
def lF (T : tH) (w s : Nat) : Nat := lK T w s (T 0 8)
theorem lF_lt {T : tH} {w s : Nat} (hT : tOk T) (h : s < 2 ^ T 0 8) : lF T w s < 2 ^ T 0 8 := lK_lt hT h _
/-- a skipped rule as it is passed: none is -1 -/
def lW (w : Nat) : Int32 := if w < 8 then nI w else -1
theorem lW_eq {r w : Nat} (hr : r < 8) : (nI r = lW w) ↔ r = w := by
  unfold lW
  by_cases c : w < 8
  · rw [if_pos c, nI_eq (by omega) (by omega)]
  · rw [if_neg c]
    constructor
    · intro h; exact absurd h (gI_nm1 (by omega))
    · intro h; omega
theorem dAn_0 {a b : Nat} (ha : a < 2 ^ 31) : (nI a &&& (nI b ^^^ (-1)) = 0) ↔ dAn a b = 0 := by
  have hlt : dAn a b < 2 ^ 31 := dAn_lt ha
  have : nI a &&& (nI b ^^^ (-1)) = nI (dAn a b) := gI_not a b (by omega)
  rw [this]
  exact gI_zero hlt
section law
variable {M : goMI} {R : goMR} {T : tH} {t b N : Nat}
theorem cKnown (hC : tC M t T) (hT : tOk T) (hN : 5000 ≤ N) {s w : Nat} (hs : s < 2 ^ T 0 8) : fX7_known N M (t + 21) (nI s) (lW w) = some (nI (lF T w s)) := by
  have hz := tO_sz hT
  have hp := gP2_8 (n := T 0 8) (by omega)
  have inner : ∀ s, s < 2 ^ T 0 8 → lX7_known_17 (lW w) M (t + 21) N (nI s) 0 = some (nI (lR T w s (T 0 9))) := by
    intro s hs
    refine gUp (fun n i (x : Int32) => lX7_known_17 (lW w) M (t + 21) n x (nI i)) (fun i => nI (lR T w s i)) (T 0 9) _ ?_ ?_ N 0 (Nat.zero_le _) (by omega)
    · intro n r hr
      obtain ⟨c22, c23⟩ := tC_rules hC r hr
      obtain ⟨o17, o18⟩ := tO_rule hT r hr
      have hlt := lR_lt (w := w) hT hs r (by omega)
      show lX7_known_17 _ _ _ _ _ _ = lX7_known_17 _ _ _ _ _ _
      rw [lX7_known_17, (tC_law hC).2.2.1, if_pos (nI_lt hr (by omega)), show t + 21 + 2 = t + 23 from rfl, show t + 21 + 1 = t + 22 from rfl, nI_1]
      conv => rhs; unfold lR
      by_cases c1 : r = w
      · rw [if_pos ((lW_eq (by omega)).mpr c1), gBd, if_neg (fun h => h.1 c1)]
      · rw [if_neg (fun e => c1 ((lW_eq (by omega)).mp e)), gRd (by omega), gBd, c23]
        by_cases c2 : dAn (T 18 r) (lR T w s r) = 0
        · rw [if_pos ((dAn_0 (by omega)).mpr c2), gRd (by omega), gBd, c22, gI_shl1 (by omega), gI_or, gNm, gBd, if_pos ⟨c1, c2⟩]
        · rw [if_neg (fun e => c2 ((dAn_0 (by omega)).mp e)), gBd, if_neg (fun h => c2 h.2)]
    · intro n
      show lX7_known_17 _ _ _ _ _ _ = _
      rw [lX7_known_17, (tC_law hC).2.2.1, if_neg (nI_nlt (Nat.le_refl _) (by omega))]
  unfold fX7_known
  have key := gUp (fun n i (x : Int32) => lX7_known_5 N (lW w) M (t + 21) n x (nI i)) (fun i => nI (lK T w s i)) (T 0 8) (nI (lF T w s)) ?_ ?_ N 0 (Nat.zero_le _) (by omega)
  · have key' : lX7_known_5 N (lW w) M (t + 21) N (nI s) 0 = _ := key
    rw [key', gBd]
  · intro n i hi
    show lX7_known_5 _ _ _ _ _ _ _ = lX7_known_5 _ _ _ _ _ _ _
    rw [lX7_known_5, (tC_law hC).1, if_pos (nI_lt hi (by omega)), inner _ (lK_lt hT hs i), gBd, nI_1]
    rfl
  · intro n
    show lX7_known_5 _ _ _ _ _ _ _ = _
    rw [lX7_known_5, (tC_law hC).1, if_neg (nI_nlt (Nat.le_refl _) (by omega))]
    rfl
theorem mFollowing (hR : R 102 3 = some b) (hM : tM M b T) (hT : tOk T) (hN : 5000 ≤ N) {s w : Nat} (hs : s < 2 ^ T 0 8) : fX14_following N M R (nI s) (lW w) = some (nI (lF T w s)) := by
  have hz := tO_sz hT
  have hp := gP2_8 (n := T 0 8) (by omega)
  have inner : ∀ s, s < 2 ^ T 0 8 → lX14_following_16 (lW w) M R N (nI s) 0 = some (nI (lR T w s (T 0 9))) := by
    intro s hs
    refine gUp (fun n i (x : Int32) => lX14_following_16 (lW w) M R n x (nI i)) (fun i => nI (lR T w s i)) (T 0 9) _ ?_ ?_ N 0 (Nat.zero_le _) (by omega)
    · intro n r hr
      obtain ⟨o17, o18⟩ := tO_rule hT r hr
      have hlt := lR_lt (w := w) hT hs r (by omega)
      show lX14_following_16 _ _ _ _ _ _ = lX14_following_16 _ _ _ _ _ _
      rw [lX14_following_16, hR, gBd, tM_0 hM (by decide), if_pos (nI_lt hr (by omega)), nI_1]
      conv => rhs; unfold lR
      by_cases c1 : r = w
      · rw [if_pos ((lW_eq (by omega)).mpr c1), gBd, if_neg (fun h => h.1 c1)]
      · rw [if_neg (fun e => c1 ((lW_eq (by omega)).mp e)), gBd, gRd (by omega), gBd, tM_18 hM (by omega)]
        by_cases c2 : dAn (T 18 r) (lR T w s r) = 0
        · rw [if_pos ((dAn_0 (by omega)).mpr c2), gBd, gRd (by omega), gBd, tM_17 hM (by omega), gI_shl1 (by omega), gI_or, gNm, gBd, if_pos ⟨c1, c2⟩]
        · rw [if_neg (fun e => c2 ((dAn_0 (by omega)).mp e)), gBd, if_neg (fun h => c2 h.2)]
    · intro n
      show lX14_following_16 _ _ _ _ _ _ = _
      rw [lX14_following_16, hR, gBd, tM_0 hM (by decide), if_neg (nI_nlt (Nat.le_refl _) (by omega))]
  obtain ⟨J, hJ, hfix⟩ := lK_stops (w := w) hT hs
  have loop : ∀ d i n, i ≤ J → J ≤ i + d → d + 2 ≤ n → lX14_following_5 N (lW w) M R n (nI (lK T w s i)) 1 = some (nI (lK T w s J)) := by
    intro d
    induction d with
    | zero =>
      intro i n h1 h2 h3
      have e : i = J := by omega
      subst e
      obtain ⟨m, rfl⟩ : ∃ m, n = m + 2 := ⟨n - 2, by omega⟩
      have hl := lK_lt (w := w) hT hs i
      rw [lX14_following_5, if_neg (by decide), inner _ hl, gBd, gNm, show lR T w (lK T w s i) (T 0 9) = lK T w s i from hfix, if_pos rfl, lX14_following_5, if_pos rfl]
    | succ d ih =>
      intro i n h1 h2 h3
      obtain ⟨m, rfl⟩ : ∃ m, n = m + 1 := ⟨n - 1, by omega⟩
      have hl := lK_lt (w := w) hT hs i
      have hl1 := lK_lt (w := w) hT hs (i + 1)
      rw [lX14_following_5, if_neg (by decide), inner _ hl, gBd, gNm]
      show lX14_following_5 N (lW w) M R m (nI (lK T w s (i + 1))) (if nI (lK T w s (i + 1)) = nI (lK T w s i) then 0 else 1) = _
      by_cases c : lK T w s (i + 1) = lK T w s i
      · obtain ⟨m', rfl⟩ : ∃ m', m = m' + 1 := ⟨m - 1, by omega⟩
        have := lK_fix c (J - i)
        rw [show i + (J - i) = J by omega] at this
        rw [if_pos (by rw [c]), lX14_following_5, if_pos rfl, c, this]
      · have hne : i ≠ J := fun e => c (by rw [e]; exact hfix)
        rw [if_neg (fun e => c ((nI_eq (by omega) (by omega)).mp e))]
        exact ih (i + 1) m (by omega) (by omega) (by omega)
  have key := loop J 0 N (Nat.zero_le _) (by omega) (by omega)
  have key' : lX14_following_5 N (lW w) M R N (nI s) 1 = _ := key
  unfold fX14_following
  rw [key', gBd]
  congr 2
  have := lK_fix hfix (T 0 8 - J)
  rw [show J + (T 0 8 - J) = T 0 8 by omega] at this
  exact this.symm
end law
theorem go_follows : goS_follows gInv := by
  rintro k G M L R a1 ⟨t, T, A, B, hX⟩ hk
  have hI := iM_b hX.2.2.2.1
  have hC := hX.2.2.1
  by_cases c0 : wi a1 (T 0 8) = true
  · obtain ⟨f, hf, rfl⟩ := wi_t (by omega) c0
    obtain ⟨b, b1, b2, b3, b4⟩ := iM_some hX.2.2.2.1 (i := 0) (j := 8) (by omega)
    have b3' := fun w => tM_w (w := w) b2 b3
    have hz := tO_sz b4
    have hp := gP2_8 (n := T 0 8) (by omega)
    have hlt := lF_lt (w := 8) b4 (show T 0 13 < 2 ^ T 0 8 by omega)
    refine ⟨5000, nI ((lF T 8 (T 0 13)).testBit f).toNat, goWI M 0 8 0, _, ?_, ?_, iNo hX (w := 0) (by decide)⟩
    · unfold fX12_follows fX12_isFact
      rw [iR5 hX, (tC_law hC).1, cWithin, c0, if_neg (by decide), (tC_law hC).2.1, show (-1 : Int32) = lW 8 from rfl, cKnown hC b4 (by decide) (by omega), gBd, gI_bit (by omega) (by omega), cAns, gB2]
    · have hz2 : ∀ x : Bool, goZr (nI x.toNat) = some (nI x.toNat) := fun x => by cases x <;> rfl
      unfold fX14_follows fX14_followsNow
      rw [gNm, m_isFact (iI hX 0), c0, gBd, if_neg (by decide), b1, gBd, tM_0 (b3' 0) (by decide), show fX14_following 5000 (goWI (goWI M 0 8 0) 102 0 0) R (nI (T 0 13)) (-1) = some (nI (lF T 8 (T 0 13))) from mFollowing (N := 5000) (w := 8) b1 (b3' 0) b4 (by decide) (by omega), gBd, gI_bit14 (by omega) (by omega), hz2, gBd, gBd, gNm, mGood]
      cases (lF T 8 (T 0 13)).testBit f <;> rfl
  · rw [Bool.not_eq_true] at c0
    refine ⟨5000, -1, goWI M 0 8 1, _, ?_, ?_, iNo hX (w := 1) (by decide)⟩
    · unfold fX12_follows fX12_isFact
      rw [iR5 hX, (tC_law hC).1, cWithin, c0, if_pos (by decide), cRef, gB2]
    · unfold fX14_follows
      rw [gNm, m_isFact (iI hX 1), c0, gBd, if_pos (by decide), mRef, gB2]
