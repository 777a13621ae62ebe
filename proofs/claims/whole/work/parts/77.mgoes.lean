/-! A GOAT'S TURN in the model -/
theorem gMin_in {w : Nat → Nat} {r : Nat → Bool} {b l : Nat} : ∀ {n : Nat}, (gMin w r b l n).2 < l → (gMin w r b l n).1 < n ∧ r (gMin w r b l n).1 = true ∧ w (gMin w r b l n).1 = (gMin w r b l n).2
  | 0, h => absurd h (Nat.lt_irrefl _)
  | n + 1, h => by
    unfold gMin at h ⊢
    by_cases c : (r n && decide (w n < (gMin w r b l n).2)) = true
    · rw [if_pos c]
      rw [Bool.and_eq_true] at c
      exact ⟨Nat.lt_succ_self n, c.1, rfl⟩
    · rw [if_neg c] at h ⊢
      obtain ⟨h1, h2⟩ := gMin_in h
      exact ⟨Nat.lt_succ_of_lt h1, h2⟩
theorem gMin_l {w : Nat → Nat} {r : Nat → Bool} {b b0 l l' : Nat} (hl : l' ≤ l) : ∀ n, gMin w r b l' n = if (gMin w r b0 l n).2 < l' then gMin w r b0 l n else (b, l')
  | 0 => by
    show (b, l') = if l < l' then _ else _
    rw [if_neg (by omega)]
  | n + 1 => by
    have ih := gMin_l (w := w) (r := r) (b := b) (b0 := b0) hl n
    unfold gMin
    rw [ih]
    by_cases c1 : (gMin w r b0 l n).2 < l'
    · rw [if_pos c1]
      by_cases c : (r n && decide (w n < (gMin w r b0 l n).2)) = true
      · rw [if_pos c]
        rw [Bool.and_eq_true, decide_eq_true_eq] at c
        rw [if_pos (show w n < l' by omega)]
      · rw [if_neg c, if_pos c1]
    · rw [if_neg c1]
      show (if (r n && decide (w n < l')) = true then (n, w n) else (b, l')) = _
      by_cases c : (r n && decide (w n < l')) = true
      · have c' := c
        rw [Bool.and_eq_true, decide_eq_true_eq] at c'
        have c2 : (r n && decide (w n < (gMin w r b0 l n).2)) = true := by
          rw [Bool.and_eq_true, decide_eq_true_eq]
          exact ⟨c'.1, by omega⟩
        rw [if_pos c, if_pos c2, if_pos c'.2]
      · rw [if_neg c]
        by_cases c2 : (r n && decide (w n < (gMin w r b0 l n).2)) = true
        · rw [if_pos c2]
          rw [Bool.and_eq_true, decide_eq_true_eq] at c c2
          rw [if_neg (fun h => c ⟨c2.1, h⟩)]
        · rw [if_neg c2, if_neg c1]
theorem gMin_min {w : Nat → Nat} {r : Nat → Bool} {b l p : Nat} (hr : r p = true) : ∀ {n : Nat}, p < n → (gMin w r b l n).2 ≤ w p
  | 0, h => absurd h (Nat.not_lt_zero _)
  | n + 1, h => by
    unfold gMin
    by_cases c : (r n && decide (w n < (gMin w r b l n).2)) = true
    · rw [if_pos c]
      have c' := c
      rw [Bool.and_eq_true, decide_eq_true_eq] at c'
      by_cases e : p = n
      · rw [e]; exact Nat.le_refl _
      · have := gMin_min (w := w) (b := b) (l := l) hr (n := n) (by omega)
        show w n ≤ w p
        omega
    · rw [if_neg c]
      by_cases e : p = n
      · rw [e] at hr
        rw [hr, Bool.true_and, decide_eq_true_eq] at c
        rw [e]
        omega
      · exact gMin_min hr (by omega)
theorem gTb_ex {x : Nat} (h : x ≠ 0) : ∃ i, x.testBit i = true := by
  apply Classical.byContradiction
  intro hn
  apply h
  apply Nat.eq_of_testBit_eq
  intro i
  rw [Nat.zero_testBit]
  cases e : x.testBit i
  · rfl
  · exact absurd ⟨i, e⟩ hn
/-- the best place to which a goat can go: (it, its worth), worth 10 if there is none -/
def dM (T : tH) (op : Nat → Nat) (fe sa dg : Nat) (S : Nat → Nat) (g : Nat) : Nat × Nat := gMin (dWo T sa S g) (fun p => (dRe T op fe dg S g).testBit p) 0 10 (T 0 2)
theorem dSa_m {T : tH} {op : Nat → Nat} {fe sa dg : Nat} {S : Nat → Nat} {g : Nat} (hop : ∀ q, (op (S (8 + g))).testBit q = true → q < T 0 2) : dRe T op fe dg S g &&& sa = 0 ↔ ¬ (dM T op fe sa dg S g).2 = 0 := by
  constructor
  · intro h0 h1
    obtain ⟨_, h3, h4⟩ := gMin_in (w := dWo T sa S g) (r := fun p => (dRe T op fe dg S g).testBit p) (b := 0) (l := 10) (n := T 0 2) (by unfold dM at h1; omega)
    have h5 : sa.testBit (dM T op fe sa dg S g).1 = true := by
      cases e : sa.testBit (dM T op fe sa dg S g).1
      · have h6 : dWo T sa S g (dM T op fe sa dg S g).1 = 0 := h4.trans h1
        unfold dWo at h6
        rw [e, if_neg Bool.false_ne_true] at h6
        split at h6 <;> omega
      · rfl
    have h7 : (dRe T op fe dg S g &&& sa).testBit (dM T op fe sa dg S g).1 = true := by
      rw [Nat.testBit_and, h5, Bool.and_true]
      exact h3
    rw [h0, Nat.zero_testBit] at h7
    cases h7
  · intro h1
    apply Classical.byContradiction
    intro h0
    obtain ⟨p, hp⟩ := gTb_ex h0
    rw [Nat.testBit_and, Bool.and_eq_true] at hp
    have hr := hp.1
    unfold dRe at hr
    rw [dAn_tb, Bool.and_eq_true] at hr
    have hp2 := hop p hr.1
    have hm := gMin_min (w := dWo T sa S g) (r := fun p => (dRe T op fe dg S g).testBit p) (b := 0) (l := 10) hp.1 hp2
    have hw : dWo T sa S g p = 0 := by unfold dWo; rw [hp.2, if_pos rfl]
    apply h1
    unfold dM
    omega
/-- where a goat goes, as the model has it -/
theorem dTo_m {T : tH} {op : Nat → Nat} {fe sa dg : Nat} {S : Nat → Nat} {g : Nat} (hop : ∀ q, (op (S (8 + g))).testBit q = true → q < T 0 2) : dTo T op fe sa dg S g = if dFo T op S g then S (8 + T 7 g)
    else if (dFe T fe dg g).testBit (S (8 + g)) then (if (dM T op fe sa dg S g).2 < 10 then (dM T op fe sa dg S g).1 else S (8 + g))
    else if sa.testBit (S (8 + g)) then S (8 + g)
    else if (dM T op fe sa dg S g).2 = 0 then (dM T op fe sa dg S g).1
    else if dWo T sa S g (S (8 + g)) < 9 then S (8 + g)
    else if (dM T op fe sa dg S g).2 < 9 then (dM T op fe sa dg S g).1 else S (8 + g) := by
  have key : ∀ l, l ≤ 10 → dBs T sa S g (dRe T op fe dg S g) (S (8 + g)) l = if (dM T op fe sa dg S g).2 < l then (dM T op fe sa dg S g).1 else S (8 + g) := by
    intro l hl
    unfold dBs dM
    rw [gMin_l (b0 := 0) hl]
    split <;> rfl
  have salt : ∀ n, gMin (dWo T sa S g) (fun p => (dRe T op fe dg S g &&& sa).testBit p) (S (8 + g)) 1 n = gMin (dWo T sa S g) (fun p => (dRe T op fe dg S g).testBit p) (S (8 + g)) 1 n := by
    intro n
    induction n with
    | zero => rfl
    | succ n ih =>
      have hle := gMin_le (w := dWo T sa S g) (r := fun p => (dRe T op fe dg S g).testBit p) (b := S (8 + g)) (l := 1) n
      unfold gMin
      rw [ih, Nat.testBit_and]
      by_cases hs : sa.testBit n = true
      · rw [hs, Bool.and_true]
      · rw [Bool.not_eq_true] at hs
        have : ¬ dWo T sa S g n < (gMin (dWo T sa S g) (fun p => (dRe T op fe dg S g).testBit p) (S (8 + g)) 1 n).2 := by
          unfold dWo
          rw [hs, if_neg Bool.false_ne_true]
          unfold dWo at hle
          split <;> omega
        rw [decide_eq_false this, Bool.and_false, Bool.and_false]
  have k1 : dBs T sa S g (dRe T op fe dg S g &&& sa) (S (8 + g)) 1 = if (dM T op fe sa dg S g).2 < 1 then (dM T op fe sa dg S g).1 else S (8 + g) := by
    rw [← key 1 (by decide)]
    unfold dBs
    rw [salt]
  have k2 := dSa_m (T := T) (fe := fe) (sa := sa) (dg := dg) hop
  unfold dTo
  by_cases c1 : dFo T op S g = true
  · rw [if_pos c1, if_pos c1]
  · rw [if_neg c1, if_neg c1]
    by_cases c2 : (dFe T fe dg g).testBit (S (8 + g)) = true
    · rw [if_pos c2, if_pos c2, key 10 (by decide)]
    · rw [if_neg c2, if_neg c2]
      by_cases c3 : sa.testBit (S (8 + g)) = true
      · rw [if_pos c3, if_pos c3]
      · rw [if_neg c3, if_neg c3]
        by_cases c4 : (dM T op fe sa dg S g).2 = 0
        · rw [if_neg (fun e => (k2.mp e) c4), if_pos c4, k1, if_pos (by omega)]
        · rw [if_pos (k2.mpr c4), if_neg c4]
          by_cases c5 : dWo T sa S g (S (8 + g)) < 9
          · rw [if_pos c5, if_pos c5]
          · rw [if_neg c5, if_neg c5, key 9 (by decide)]
section mGoes
variable {M : goMI} {R : goMR} {T : tH} {b N : Nat} {A B S : Nat → Nat}
theorem dOp_lt {hg p q : Nat} (hT : tOk T) (h : (dOp T hg p).testBit q = true) : q < T 0 2 := by
  unfold dOp at h
  rw [gBits_tb, Bool.and_eq_true, Bool.and_eq_true, decide_eq_true_eq, decide_eq_true_eq] at h
  have h1 := gFst_p h.2.1
  have h2 := tO_path hT _ h.2.1
  unfold tJ at h1
  simp only [Bool.or_eq_true, Bool.and_eq_true, decide_eq_true_eq] at h1
  rcases h1 with h1 | h1
  · rw [← h1.2]; exact h2.2.1
  · rw [← h1.1]; exact h2.1
theorem dOp_b (hg p : Nat) : dOp T hg p < 256 := gBits_lt 8
theorem gI_nm1 {n : Nat} (h : n < 2 ^ 31) : ¬ nI n = -1 := fun e => by
  have := (gI_eq32 (a := n) (b := 4294967295) (by omega) (by omega)).mp e
  omega
theorem gI_nm2 {n : Nat} (h : n < 2 ^ 31) : ¬ nI n = -2 := fun e => by
  have := (gI_eq32 (a := n) (b := 4294967294) (by omega) (by omega)).mp e
  omega
theorem mBestFor (hR : R 102 3 = some b) (hM : tM M b T) (hT : tOk T) (hN : 5000 ≤ N) (hv : ∀ i, i < 18 → M 105 i = nI (B i)) (hAB : aB A B) (hl : ∀ p k, p < 8 → k < 4 → M 111 (4 * p + k) = nI (dNib (S p) k)) (hn : ∀ g, g < T 0 5 → M 113 g = nI (S (8 + g))) (hSo : dSok T S) {c g h : Nat} (hc : c < 2 ^ 31) (hg : g < T 0 5) (hh : h < T 0 0) : fX14_bestFor N M R (nI c) (nI g) (nI h) = some (if (dM T (dOp T (A 24)) (dFr T c (12 * g + h)) (A h) (A (12 + h)) S g).2 < 10 then nI (dM T (dOp T (A 24)) (dFr T c (12 * g + h)) (A h) (A (12 + h)) S g).1 else -1) := by
  have hz := tO_sz hT
  have hhere := hSo.2.2 g hg
  unfold fX14_bestFor
  have key := gUp (fun n i (s : Int32) => lX14_bestFor_6 N (nI c) (nI g) (nI h) M R n s (nI i)) (fun i => if (gMin (dWo T (A h) S g) (fun p => (dRe T (dOp T (A 24)) (dFr T c (12 * g + h)) (A (12 + h)) S g).testBit p) 0 10 i).2 < 10 then nI (gMin (dWo T (A h) S g) (fun p => (dRe T (dOp T (A 24)) (dFr T c (12 * g + h)) (A (12 + h)) S g).testBit p) 0 10 i).1 else -1) (T 0 2) (if (dM T (dOp T (A 24)) (dFr T c (12 * g + h)) (A h) (A (12 + h)) S g).2 < 10 then nI (dM T (dOp T (A 24)) (dFr T c (12 * g + h)) (A h) (A (12 + h)) S g).1 else -1) ?_ ?_ N 0 (Nat.zero_le _) (by omega)
  · have key' : lX14_bestFor_6 N (nI c) (nI g) (nI h) M R N (-1) 0 = _ := key
    rw [key', gBd]
  · intro n i hi
    show lX14_bestFor_6 N (nI c) (nI g) (nI h) M R (n + 1) _ (nI i) = lX14_bestFor_6 N (nI c) (nI g) (nI h) M R n _ _
    have hop := mOpen hR hM hT hN hv hAB (show S (8 + g) < 8 by omega) (show i < 8 by omega)
    have hfe := mFears (q := i) hR hM hT hN hv hAB hc hg (by omega) hh
    have hwi := mWorth (p := i) (h := h) hR hM hT hN hv hAB hl hg (by omega) (by omega)
    have hwl : ∀ p, dWo T (A h) S g p ≤ 9 := fun p => dWo_le (by have := (tO_goat hT g hg).2.2.1; omega)
    have hli := hwl i
    rw [lX14_bestFor_6, hR]
    conv => rhs; unfold gMin
    have hre : (dRe T (dOp T (A 24)) (dFr T c (12 * g + h)) (A (12 + h)) S g).testBit i = ((dOp T (A 24) (S (8 + g))).testBit i && !(dFe T (dFr T c (12 * g + h)) (A (12 + h)) g).testBit i) := dAn_tb _ _ _
    simp (disch := omega) only [tM_0 hM, hi, hn, hop, hfe, hre, ↓reduceIte, gL_0, gL_1, gL_2, gL_3, gL_4, gL_5, gL_6, gL_7, gL_8, gL_9, gL_10, gL_11, gL_12, gL_13, gL_14, gL_15, gL_16, gL_17, gL_18, gL_19, gL_20, gL_21, gL_22, gL_23, gL_24, gL_25, gL_26, gL_27, gL_31, gL_32, gL_40, gL_44, gL_48, gL_57, gL_59, gL_63, gL_72, gL_78, gL_81, gL_82, gL_96, gL_97, gL_99, gL_100, gL_122, gL_144, gL_192, gL_255, gL_270, gL_288, gL_1200, nI_add, pk_sub, pk_div, gMod, gM_2, gN_2, gM_3, gN_3, gM_4, gN_4, gM_8, gN_8, gM_10, gN_10, gM_12, gN_12, gM_14, gN_14, gM_16, gN_16, gM_18, gN_18, gM_26, gN_26, gM_32, gN_32, gM_72, gN_72, gM_100, gN_100, gBd, gNm, gB2, gB3, gB4, gRd, gWr, gI_bit, gI_bit14, gI_tn1n, gI_tn0n, Bool.toNat_true, Bool.toNat_false, Nat.one_ne_zero, Nat.zero_ne_one, eq_self, gIe00, gIe01, gIe10, gIe11, nI_eq, nI_leI, nI_ltI, gI_or, gI_xor, gI_shl1n, gI_shr31, gI_not1, gI_and15, gI_and1n]
    cases c1 : (dOp T (A 24) (S (8 + g))).testBit i
    · simp only [Bool.false_and, Bool.false_eq_true, ↓reduceIte, gBd]
    · cases c2 : (dFe T (dFr T c (12 * g + h)) (A (12 + h)) g).testBit i
      · simp only [Bool.true_eq_false, ↓reduceIte, Bool.not_false, Bool.and_self, Bool.true_and, decide_eq_true_eq]
        by_cases c3 : (gMin (dWo T (A h) S g) (fun p => (dRe T (dOp T (A 24)) (dFr T c (12 * g + h)) (A (12 + h)) S g).testBit p) 0 10 i).2 < 10
        · obtain ⟨i1, i2, i3⟩ := gMin_in c3
          have hwb := mWorth (p := (gMin (dWo T (A h) S g) (fun p => (dRe T (dOp T (A 24)) (dFr T c (12 * g + h)) (A (12 + h)) S g).testBit p) 0 10 i).1) (h := h) hR hM hT hN hv hAB hl hg (by omega) (by omega)
          have hnm : ¬ nI (gMin (dWo T (A h) S g) (fun p => (dRe T (dOp T (A 24)) (dFr T c (12 * g + h)) (A (12 + h)) S g).testBit p) 0 10 i).1 = -nI 1 := gI_nm1 (by omega)
          simp only [c3, ↓reduceIte, hnm, hwi, hwb, gBd, i3]
          simp (disch := omega) only [nI_ltI]
          by_cases c4 : dWo T (A h) S g i < (gMin (dWo T (A h) S g) (fun p => (dRe T (dOp T (A 24)) (dFr T c (12 * g + h)) (A (12 + h)) S g).testBit p) 0 10 i).2
          · simp only [c4, ↓reduceIte, gBd]
            rw [if_pos (by omega)]
          · simp only [c4, ↓reduceIte, gBd, c3]
        · have hle := gMin_le (w := dWo T (A h) S g) (r := fun p => (dRe T (dOp T (A 24)) (dFr T c (12 * g + h)) (A (12 + h)) S g).testBit p) (b := 0) (l := 10) i
          have c4 : dWo T (A h) S g i < (gMin (dWo T (A h) S g) (fun p => (dRe T (dOp T (A 24)) (dFr T c (12 * g + h)) (A (12 + h)) S g).testBit p) 0 10 i).2 := by omega
          have c5 : dWo T (A h) S g i < 10 := by omega
          simp only [c3, c4, c5, ↓reduceIte, eq_self, gBd]
      · simp only [Bool.not_true, Bool.and_false, Bool.true_eq_false, Bool.false_eq_true, Bool.false_and, ↓reduceIte, gBd]
  · intro n
    show lX14_bestFor_6 N (nI c) (nI g) (nI h) M R (n + 1) _ (nI (T 0 2)) = _
    rw [lX14_bestFor_6, hR]
    simp (disch := omega) only [tM_0 hM, Nat.lt_irrefl, ↓reduceIte, gL_0, gL_1, gL_2, gL_3, gL_4, gL_5, gL_6, gL_7, gL_8, gL_9, gL_10, gL_11, gL_12, gL_13, gL_14, gL_15, gL_16, gL_17, gL_18, gL_19, gL_20, gL_21, gL_22, gL_23, gL_24, gL_25, gL_26, gL_27, gL_31, gL_32, gL_40, gL_44, gL_48, gL_57, gL_59, gL_63, gL_72, gL_78, gL_81, gL_82, gL_96, gL_97, gL_99, gL_100, gL_122, gL_144, gL_192, gL_255, gL_270, gL_288, gL_1200, nI_add, pk_sub, pk_div, gMod, gM_2, gN_2, gM_3, gN_3, gM_4, gN_4, gM_8, gN_8, gM_10, gN_10, gM_12, gN_12, gM_14, gN_14, gM_16, gN_16, gM_18, gN_18, gM_26, gN_26, gM_32, gN_32, gM_72, gN_72, gM_100, gN_100, gBd, gNm, gB2, gB3, gB4, gRd, gWr, gI_bit, gI_bit14, gI_tn1n, gI_tn0n, Bool.toNat_true, Bool.toNat_false, Nat.one_ne_zero, Nat.zero_ne_one, eq_self, gIe00, gIe01, gIe10, gIe11, nI_eq, nI_leI, nI_ltI, gI_or, gI_xor, gI_shl1n, gI_shr31, gI_not1, gI_and15, gI_and1n]
    rfl
end mGoes
