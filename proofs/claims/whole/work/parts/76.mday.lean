/-! THE MODEL'S DAY -/
/-- acts of the component and of the model are the same -/
def aB (A B : Nat → Nat) : Prop := (∀ h p, h < 12 → p < 8 → (A h).testBit p = (B p).testBit h ∧ (A (12 + h)).testBit p = (B (8 + p)).testBit h) ∧ A 24 = B 16 ∧ A 25 = B 17 ∧ (∀ i, i < 24 → A i < 256) ∧ (∀ i, i < 16 → B i < 4096) ∧ A 24 < 16384 ∧ A 25 < 64
/-- whether person p makes the goat fear a place -/
def dPp (T : tH) (c g h q p : Nat) : Bool := decide (0 < T 4 p) && dMi T g p && decide (tPl T c p h = q)
theorem dPf_tb {T : tH} {c g h q : Nat} : ∀ n, (dPf T c g h n).testBit q = decide (gFst (dPp T c g h q) n < n)
  | 0 => by simp [dPf]
  | n + 1 => by
    have ih := dPf_tb (T := T) (c := c) (g := g) (h := h) (q := q) n
    have hle := gFst_le (p := dPp T c g h q) n
    unfold dPf
    rw [Nat.testBit_or, ih]
    by_cases h1 : gFst (dPp T c g h q) n < n
    · have : gFst (dPp T c g h q) (n + 1) = gFst (dPp T c g h q) n := gFst_lt h1 1
      rw [this, decide_eq_true h1, decide_eq_true (by omega : gFst (dPp T c g h q) n < n + 1)]
      rfl
    · have h2 : gFst (dPp T c g h q) n = n := by omega
      rw [decide_eq_false h1, Bool.false_or]
      by_cases h3 : dPp T c g h q n = true
      · rw [gFst_hit h2 h3, decide_eq_true (by omega : n < n + 1)]
        unfold dPp at h3
        rw [Bool.and_eq_true, decide_eq_true_eq] at h3
        rw [if_pos h3.1, gTb_pow]
        exact decide_eq_true h3.2
      · rw [Bool.not_eq_true] at h3
        rw [gFst_go h2 h3, decide_eq_false (Nat.lt_irrefl _)]
        split
        · rename_i h4
          unfold dPp at h3
          rw [h4, Bool.true_and] at h3
          rw [gTb_pow]
          exact h3
        · exact Nat.zero_testBit q
theorem dFr_at {T : tH} {c g h : Nat} (hg : g < T 0 5) (hh : h < T 0 0) (h12 : T 0 0 ≤ 12) : dFr T c (12 * g + h) = dPf T c g h (T 0 4) := by
  unfold dFr
  rw [show (12 * g + h) / 12 = g by omega, show (12 * g + h) % 12 = h by omega, if_pos ⟨hg, hh⟩]
section mDay
variable {M : goMI} {R : goMR} {T : tH} {b N : Nat} {A B S : Nat → Nat}
theorem mFears (hR : R 102 3 = some b) (hM : tM M b T) (hT : tOk T) (hN : 5000 ≤ N) (hv : ∀ i, i < 18 → M 105 i = nI (B i)) (hAB : aB A B) {c g q h : Nat} (hc : c < 2 ^ 31) (hg : g < T 0 5) (hq : q < 8) (hh : h < T 0 0) : fX14_fears N M R (nI c) (nI g) (nI q) (nI h) = some (nI ((dFe T (dFr T c (12 * g + h)) (A (12 + h)) g).testBit q).toNat) := by
  have hz := tO_sz hT
  obtain ⟨o6, o7, o8, o10, o23, o11, o11', o9⟩ := tO_goat hT g hg
  obtain ⟨ab1, ab2, ab3, ab4, ab5, ab6, ab7⟩ := hAB
  have hq1 := (ab1 h q (by omega) hq).2
  have hbq := ab5 (8 + q) (by omega)
  have hf12 := (tO_fear hT g (by omega)).1
  rw [dFr_at hg hh (by omega)]
  unfold fX14_fears dFe
  rw [hR]
  simp (disch := omega) only [tM_6 hM, hv, ↓reduceIte, gL_0, gL_1, gL_2, gL_3, gL_4, gL_5, gL_6, gL_7, gL_8, gL_9, gL_10, gL_11, gL_12, gL_13, gL_14, gL_15, gL_16, gL_17, gL_18, gL_19, gL_20, gL_21, gL_22, gL_23, gL_24, gL_25, gL_26, gL_27, gL_31, gL_32, gL_40, gL_44, gL_48, gL_57, gL_59, gL_63, gL_72, gL_78, gL_81, gL_82, gL_96, gL_97, gL_99, gL_100, gL_122, gL_144, gL_192, gL_255, gL_270, gL_288, gL_1200, nI_add, pk_sub, pk_div, gMod, gM_2, gN_2, gM_3, gN_3, gM_4, gN_4, gM_8, gN_8, gM_10, gN_10, gM_12, gN_12, gM_14, gN_14, gM_16, gN_16, gM_18, gN_18, gM_26, gN_26, gM_32, gN_32, gM_72, gN_72, gM_100, gN_100, gBd, gNm, gB2, gB3, gB4, gRd, gWr, gI_bit, gI_bit14, gI_tn1n, gI_tn0n, Bool.toNat_true, Bool.toNat_false, Nat.one_ne_zero, Nat.zero_ne_one, eq_self, gIe00, gIe01, gIe10, gIe11, nI_eq, nI_leI, nI_ltI, gI_or, gI_xor, gI_shl1n, gI_shr31, gI_not1, gI_and15, gI_and1n]
  by_cases c2 : T 6 g = 2
  · have : (dPf T c g h (T 0 4)).testBit q = false := by
      rw [dPf_tb, gFst_all (fun i _ => ?_), decide_eq_false (Nat.lt_irrefl _)]
      unfold dPp dMi
      simp [c2]
    simp only [c2, ↓reduceIte, this]
    rfl
  · simp only [c2, ↓reduceIte]
    rw [Nat.testBit_or, hq1, dPf_tb]
    by_cases hd : (B (8 + q)).testBit h = true
    · simp only [hd, Bool.true_eq_false, ↓reduceIte, Bool.or_true]; rfl
    · rw [Bool.not_eq_true] at hd
      simp only [hd, ↓reduceIte, Bool.or_false]
      refine gUpE (fun n k => lX14_fears_37 N (nI c) (nI g) (nI q) (nI h) M R n (nI k)) (T 0 4) _ (fun k => gFst (dPp T c g h q) k = k) ?_ ?_ N 0 (Nat.zero_le _) rfl (by omega)
      · intro n k hk hP
        have hsk := tO_stories hT k (by omega)
        have hst : 0 < T 4 k → tPl T c k h < 8 := fun h0 => by
          have := tO_story hT k (tSt T c k) h (by omega) (Nat.mod_lt _ h0) (by omega)
          unfold tPl
          omega
        have e4 : lX14_fears_37 N (nI c) (nI g) (nI q) (nI h) M R (n + 1) (nI k) = if dPp T c g h q k then some (nI 1) else lX14_fears_37 N (nI c) (nI g) (nI q) (nI h) M R n (nI (k + 1)) := by
          rw [lX14_fears_37, hR]
          simp (disch := omega) only [tM_0 hM, tM_6 hM, tM_12 hM, hk, mPlaceIn hM (by omega) (tO_stories hT) hN, ↓reduceIte, gL_0, gL_1, gL_2, gL_3, gL_4, gL_5, gL_6, gL_7, gL_8, gL_9, gL_10, gL_11, gL_12, gL_13, gL_14, gL_15, gL_16, gL_17, gL_18, gL_19, gL_20, gL_21, gL_22, gL_23, gL_24, gL_25, gL_26, gL_27, gL_31, gL_32, gL_40, gL_44, gL_48, gL_57, gL_59, gL_63, gL_72, gL_78, gL_81, gL_82, gL_96, gL_97, gL_99, gL_100, gL_122, gL_144, gL_192, gL_255, gL_270, gL_288, gL_1200, nI_add, pk_sub, pk_div, gMod, gM_2, gN_2, gM_3, gN_3, gM_4, gN_4, gM_8, gN_8, gM_10, gN_10, gM_12, gN_12, gM_14, gN_14, gM_16, gN_16, gM_18, gN_18, gM_26, gN_26, gM_32, gN_32, gM_72, gN_72, gM_100, gN_100, gBd, gNm, gB2, gB3, gB4, gRd, gWr, gI_bit, gI_bit14, gI_tn1n, gI_tn0n, Bool.toNat_true, Bool.toNat_false, Nat.one_ne_zero, Nat.zero_ne_one, eq_self, gIe00, gIe01, gIe10, gIe11, nI_eq, nI_leI, nI_ltI, gI_or, gI_xor, gI_shl1n, gI_shr31, gI_not1, gI_and15, gI_and1n]
          unfold dPp dMi
          by_cases c0 : T 4 k = 0
          · have : ¬ (-nI 2 : Int32) = nI q := by
              intro e
              have := (gI_eq32 (a := 4294967294) (b := q) (by omega) (by omega)).mp e
              omega
            simp only [c0, ↓reduceIte, this, Nat.lt_irrefl, decide_false, Bool.false_and, Bool.false_eq_true]
          · have c1 : 0 < T 4 k := by omega
            have hp8 := hst c1
            simp (disch := omega) only [c0, c1, c2, ↓reduceIte, nI_eq, decide_true, decide_false, Bool.true_and, Bool.not_false]
            by_cases c3 : tPl T c k h = q <;> by_cases c4 : T 6 g = 1 <;> by_cases c5 : (T 12 g).testBit k = true <;> simp [c3, c4, c5]
        show lX14_fears_37 _ _ _ _ _ _ _ _ _ = _ ∨ _
        rw [e4]
        by_cases hcc : dPp T c g h q k = true
        · left
          have := gFst_stop hP hk hcc
          rw [if_pos hcc, this, decide_eq_true hk]
          rfl
        · right
          exact ⟨if_neg hcc, gFst_go hP (by simpa using hcc)⟩
      · intro n hP
        show lX14_fears_37 _ _ _ _ _ _ _ _ _ = _
        rw [lX14_fears_37, hP, hR]
        simp (disch := omega) only [tM_0 hM, Nat.lt_irrefl, decide_false, ↓reduceIte, gL_0, gL_1, gL_2, gL_3, gL_4, gL_5, gL_6, gL_7, gL_8, gL_9, gL_10, gL_11, gL_12, gL_13, gL_14, gL_15, gL_16, gL_17, gL_18, gL_19, gL_20, gL_21, gL_22, gL_23, gL_24, gL_25, gL_26, gL_27, gL_31, gL_32, gL_40, gL_44, gL_48, gL_57, gL_59, gL_63, gL_72, gL_78, gL_81, gL_82, gL_96, gL_97, gL_99, gL_100, gL_122, gL_144, gL_192, gL_255, gL_270, gL_288, gL_1200, nI_add, pk_sub, pk_div, gMod, gM_2, gN_2, gM_3, gN_3, gM_4, gN_4, gM_8, gN_8, gM_10, gN_10, gM_12, gN_12, gM_14, gN_14, gM_16, gN_16, gM_18, gN_18, gM_26, gN_26, gM_32, gN_32, gM_72, gN_72, gM_100, gN_100, gBd, gNm, gB2, gB3, gB4, gRd, gWr, gI_bit, gI_bit14, gI_tn1n, gI_tn0n, Bool.toNat_true, Bool.toNat_false, Nat.one_ne_zero, Nat.zero_ne_one, eq_self, gIe00, gIe01, gIe10, gIe11, nI_eq, nI_leI, nI_ltI, gI_or, gI_xor, gI_shl1n, gI_shr31, gI_not1, gI_and15, gI_and1n]
theorem mWorth (hR : R 102 3 = some b) (hM : tM M b T) (hT : tOk T) (hN : 5000 ≤ N) (hv : ∀ i, i < 18 → M 105 i = nI (B i)) (hAB : aB A B) (hl : ∀ p k, p < 8 → k < 4 → M 111 (4 * p + k) = nI (dNib (S p) k)) {g p h : Nat} (hg : g < T 0 5) (hp : p < 8) (hh : h < 12) : fX14_worth N M R (nI g) (nI p) (nI h) = some (nI (dWo T (A h) S g p)) := by
  have hz := tO_sz hT
  obtain ⟨o6, o7, o8, o10, o23, o11, o11', o9⟩ := tO_goat hT g hg
  obtain ⟨ab1, ab2, ab3, ab4, ab5, ab6, ab7⟩ := hAB
  have hq1 := (ab1 h p (by omega) hp).1
  have hbq := ab5 p (by omega)
  unfold fX14_worth dWo
  rw [hq1]
  simp (disch := omega) only [hv, Nat.zero_add, ↓reduceIte, gL_0, gL_1, gL_2, gL_3, gL_4, gL_5, gL_6, gL_7, gL_8, gL_9, gL_10, gL_11, gL_12, gL_13, gL_14, gL_15, gL_16, gL_17, gL_18, gL_19, gL_20, gL_21, gL_22, gL_23, gL_24, gL_25, gL_26, gL_27, gL_31, gL_32, gL_40, gL_44, gL_48, gL_57, gL_59, gL_63, gL_72, gL_78, gL_81, gL_82, gL_96, gL_97, gL_99, gL_100, gL_122, gL_144, gL_192, gL_255, gL_270, gL_288, gL_1200, nI_add, pk_sub, pk_div, gMod, gM_2, gN_2, gM_3, gN_3, gM_4, gN_4, gM_8, gN_8, gM_10, gN_10, gM_12, gN_12, gM_14, gN_14, gM_16, gN_16, gM_18, gN_18, gM_26, gN_26, gM_32, gN_32, gM_72, gN_72, gM_100, gN_100, gBd, gNm, gB2, gB3, gB4, gRd, gWr, gI_bit, gI_bit14, gI_tn1n, gI_tn0n, Bool.toNat_true, Bool.toNat_false, Nat.one_ne_zero, Nat.zero_ne_one, eq_self, gIe00, gIe01, gIe10, gIe11, nI_eq, nI_leI, nI_ltI, gI_or, gI_xor, gI_shl1n, gI_shr31, gI_not1, gI_and15, gI_and1n]
  by_cases hb : (B p).testBit h = true
  · simp only [hb, Bool.true_eq_false, ↓reduceIte]
  · rw [Bool.not_eq_true] at hb
    simp only [hb, ↓reduceIte, Bool.false_eq_true]
    refine gUpE (fun n k => lX14_worth_20 (nI g) (nI p) M R n (nI k)) (T 8 g) _ (fun k => gFst (fun k => decide (0 < dNib (S p) (T 9 (4 * g + k)))) k = k) ?_ ?_ N 0 (Nat.zero_le _) rfl (by omega)
    · intro n k hk hP
      have o9k := o9 k hk
      have e3 := dNib_lt (S p) (T 9 (4 * g + k))
      have e4 : lX14_worth_20 (nI g) (nI p) M R (n + 1) (nI k) = if 0 < dNib (S p) (T 9 (4 * g + k)) then some (nI (k + 1)) else lX14_worth_20 (nI g) (nI p) M R n (nI (k + 1)) := by
        rw [lX14_worth_20, hR]
        simp (disch := omega) only [tM_8 hM, tM_9 hM, hl, hk, ↓reduceIte, gL_0, gL_1, gL_2, gL_3, gL_4, gL_5, gL_6, gL_7, gL_8, gL_9, gL_10, gL_11, gL_12, gL_13, gL_14, gL_15, gL_16, gL_17, gL_18, gL_19, gL_20, gL_21, gL_22, gL_23, gL_24, gL_25, gL_26, gL_27, gL_31, gL_32, gL_40, gL_44, gL_48, gL_57, gL_59, gL_63, gL_72, gL_78, gL_81, gL_82, gL_96, gL_97, gL_99, gL_100, gL_122, gL_144, gL_192, gL_255, gL_270, gL_288, gL_1200, nI_add, pk_sub, pk_div, gMod, gM_2, gN_2, gM_3, gN_3, gM_4, gN_4, gM_8, gN_8, gM_10, gN_10, gM_12, gN_12, gM_14, gN_14, gM_16, gN_16, gM_18, gN_18, gM_26, gN_26, gM_32, gN_32, gM_72, gN_72, gM_100, gN_100, gBd, gNm, gB2, gB3, gB4, gRd, gWr, gI_bit, gI_bit14, gI_tn1n, gI_tn0n, Bool.toNat_true, Bool.toNat_false, Nat.one_ne_zero, Nat.zero_ne_one, eq_self, gIe00, gIe01, gIe10, gIe11, nI_eq, nI_leI, nI_ltI, gI_or, gI_xor, gI_shl1n, gI_shr31, gI_not1, gI_and15, gI_and1n]
      show lX14_worth_20 _ _ _ _ _ _ = _ ∨ _
      rw [e4]
      by_cases hc : 0 < dNib (S p) (T 9 (4 * g + k))
      · left
        have := gFst_stop hP hk (decide_eq_true hc)
        rw [if_pos hc, dRk, this, if_pos hk]
      · right
        exact ⟨if_neg hc, gFst_go hP (decide_eq_false hc)⟩
    · intro n hP
      have : dRk T S g p = T 8 g := hP
      show lX14_worth_20 _ _ _ _ _ _ = _
      rw [lX14_worth_20, this, if_neg (Nat.lt_irrefl _), hR]
      simp (disch := omega) only [tM_8 hM, Nat.lt_irrefl, ↓reduceIte, gL_0, gL_1, gL_2, gL_3, gL_4, gL_5, gL_6, gL_7, gL_8, gL_9, gL_10, gL_11, gL_12, gL_13, gL_14, gL_15, gL_16, gL_17, gL_18, gL_19, gL_20, gL_21, gL_22, gL_23, gL_24, gL_25, gL_26, gL_27, gL_31, gL_32, gL_40, gL_44, gL_48, gL_57, gL_59, gL_63, gL_72, gL_78, gL_81, gL_82, gL_96, gL_97, gL_99, gL_100, gL_122, gL_144, gL_192, gL_255, gL_270, gL_288, gL_1200, nI_add, pk_sub, pk_div, gMod, gM_2, gN_2, gM_3, gN_3, gM_4, gN_4, gM_8, gN_8, gM_10, gN_10, gM_12, gN_12, gM_14, gN_14, gM_16, gN_16, gM_18, gN_18, gM_26, gN_26, gM_32, gN_32, gM_72, gN_72, gM_100, gN_100, gBd, gNm, gB2, gB3, gB4, gRd, gWr, gI_bit, gI_bit14, gI_tn1n, gI_tn0n, Bool.toNat_true, Bool.toNat_false, Nat.one_ne_zero, Nat.zero_ne_one, eq_self, gIe00, gIe01, gIe10, gIe11, nI_eq, nI_leI, nI_ltI, gI_or, gI_xor, gI_shl1n, gI_shr31, gI_not1, gI_and15, gI_and1n]
theorem mPlantAt (hR : R 102 3 = some b) (hM : tM M b T) (hT : tOk T) (hN : 5000 ≤ N) (hl : ∀ p k, p < 8 → k < 4 → M 111 (4 * p + k) = nI (dNib (S p) k)) {g p : Nat} (hg : g < T 0 5) (hp : p < 8) (hk0 : dRk T S g p < T 8 g) : fX14_plantAt N M R (nI g) (nI p) = some (nI (T 9 (4 * g + dRk T S g p))) := by
  have hz := tO_sz hT
  obtain ⟨o6, o7, o8, o10, o23, o11, o11', o9⟩ := tO_goat hT g hg
  unfold fX14_plantAt
  refine gUpE (fun n k => lX14_plantAt_2 (nI g) (nI p) M R n (nI k)) (T 8 g) _ (fun k => gFst (fun k => decide (0 < dNib (S p) (T 9 (4 * g + k)))) k = k) ?_ ?_ N 0 (Nat.zero_le _) rfl (by omega)
  · intro n k hk hP
    have o9k := o9 k hk
    have e3 := dNib_lt (S p) (T 9 (4 * g + k))
    have e4 : lX14_plantAt_2 (nI g) (nI p) M R (n + 1) (nI k) = if 0 < dNib (S p) (T 9 (4 * g + k)) then some (nI (T 9 (4 * g + k))) else lX14_plantAt_2 (nI g) (nI p) M R n (nI (k + 1)) := by
      rw [lX14_plantAt_2, hR]
      simp (disch := omega) only [tM_8 hM, tM_9 hM, hl, hk, ↓reduceIte, gL_0, gL_1, gL_2, gL_3, gL_4, gL_5, gL_6, gL_7, gL_8, gL_9, gL_10, gL_11, gL_12, gL_13, gL_14, gL_15, gL_16, gL_17, gL_18, gL_19, gL_20, gL_21, gL_22, gL_23, gL_24, gL_25, gL_26, gL_27, gL_31, gL_32, gL_40, gL_44, gL_48, gL_57, gL_59, gL_63, gL_72, gL_78, gL_81, gL_82, gL_96, gL_97, gL_99, gL_100, gL_122, gL_144, gL_192, gL_255, gL_270, gL_288, gL_1200, nI_add, pk_sub, pk_div, gMod, gM_2, gN_2, gM_3, gN_3, gM_4, gN_4, gM_8, gN_8, gM_10, gN_10, gM_12, gN_12, gM_14, gN_14, gM_16, gN_16, gM_18, gN_18, gM_26, gN_26, gM_32, gN_32, gM_72, gN_72, gM_100, gN_100, gBd, gNm, gB2, gB3, gB4, gRd, gWr, gI_bit, gI_bit14, gI_tn1n, gI_tn0n, Bool.toNat_true, Bool.toNat_false, Nat.one_ne_zero, Nat.zero_ne_one, eq_self, gIe00, gIe01, gIe10, gIe11, nI_eq, nI_leI, nI_ltI, gI_or, gI_xor, gI_shl1n, gI_shr31, gI_not1, gI_and15, gI_and1n]
    show lX14_plantAt_2 _ _ _ _ _ _ = _ ∨ _
    rw [e4]
    by_cases hc : 0 < dNib (S p) (T 9 (4 * g + k))
    · left
      have := gFst_stop hP hk (decide_eq_true hc)
      rw [if_pos hc, dRk, this]
    · right
      exact ⟨if_neg hc, gFst_go hP (decide_eq_false hc)⟩
  · intro n hP
    have : dRk T S g p = T 8 g := hP
    omega
theorem mOpen (hR : R 102 3 = some b) (hM : tM M b T) (hT : tOk T) (hN : 5000 ≤ N) (hv : ∀ i, i < 18 → M 105 i = nI (B i)) (hAB : aB A B) {p q : Nat} (hp : p < 8) (hq : q < 8) : fX14_isOpen N M R (nI p) (nI q) = some (nI ((dOp T (A 24) p).testBit q).toNat) := by
  have hz := tO_sz hT
  obtain ⟨ab1, ab2, ab3, ab4, ab5, ab6, ab7⟩ := hAB
  unfold fX14_isOpen dOp
  rw [hR, gBits_tb, decide_eq_true hq, Bool.true_and]
  simp (disch := omega) only [mPath hM (by omega) (fun i hi => by have := tO_path hT i hi; omega) hN, hv, ↓reduceIte, gL_0, gL_1, gL_2, gL_3, gL_4, gL_5, gL_6, gL_7, gL_8, gL_9, gL_10, gL_11, gL_12, gL_13, gL_14, gL_15, gL_16, gL_17, gL_18, gL_19, gL_20, gL_21, gL_22, gL_23, gL_24, gL_25, gL_26, gL_27, gL_31, gL_32, gL_40, gL_44, gL_48, gL_57, gL_59, gL_63, gL_72, gL_78, gL_81, gL_82, gL_96, gL_97, gL_99, gL_100, gL_122, gL_144, gL_192, gL_255, gL_270, gL_288, gL_1200, nI_add, pk_sub, pk_div, gMod, gM_2, gN_2, gM_3, gN_3, gM_4, gN_4, gM_8, gN_8, gM_10, gN_10, gM_12, gN_12, gM_14, gN_14, gM_16, gN_16, gM_18, gN_18, gM_26, gN_26, gM_32, gN_32, gM_72, gN_72, gM_100, gN_100, gBd, gNm, gB2, gB3, gB4, gRd, gWr, gI_bit, gI_bit14, gI_tn1n, gI_tn0n, Bool.toNat_true, Bool.toNat_false, Nat.one_ne_zero, Nat.zero_ne_one, eq_self, gIe00, gIe01, gIe10, gIe11, nI_eq, nI_leI, nI_ltI, gI_or, gI_xor, gI_shl1n, gI_shr31, gI_not1, gI_and15, gI_and1n]
  by_cases h1 : tPath T p q < T 0 3
  · have : ¬ nI (tPath T p q) = -1 := by
      intro e
      have := (gI_eq32 (a := tPath T p q) (b := 4294967295) (by omega) (by omega)).mp e
      omega
    rw [gI_m1]
    simp only [h1, ↓reduceIte, this, decide_true, Bool.true_and]
    rw [gI_bit14 (by omega) (by omega), ← ab2]
    by_cases hb : (A 24).testBit (tPath T p q) = true
    · simp only [hb]; rfl
    · rw [Bool.not_eq_true] at hb
      simp only [hb]; rfl
  · simp only [h1, ↓reduceIte, decide_false, Bool.false_and]; rfl
end mDay
