/-! THE COMPONENT'S DAY -/
theorem dWo_le {T : tH} {sa g p : Nat} {S : Nat → Nat} (h : T 8 g ≤ 8) : dWo T sa S g p ≤ 9 := by
  unfold dWo
  split
  · omega
  · split <;> omega
section cDay
variable {M : goMI} {R : goMR} {T : tH} {t a N : Nat} {S op fe L : Nat → Nat}
theorem cWorth (hC : tC M t T) (hT : tOk T) (hR : goRr R a 1 = t) (hN : 5000 ≤ N) (hL : ∀ i, i < 24 → M (a + 2) i = nI (L i)) (hLb : ∀ i, i < 24 → L i < 256) (hS : ∀ i, i < 14 → M (a + 1) i = nI (S i)) (hSo : dSok T S) {g h p : Nat} (hg : g < T 0 5) (hh : h < 12) (hp : p < 8) : fX3_worth N M R a (nI g) (nI h) (nI p) = some (nI (dWo T (L h) S g p)) := by
  have hz := tO_sz hT
  obtain ⟨h10, h11, h13, h16, h15⟩ := tC_goats hC g hg
  obtain ⟨o6, o7, o8, o10, o23, o11, o11', o9⟩ := tO_goat hT g hg
  have hSp := hSo.1 p hp
  have hLh := hLb h (by omega)
  have e1 : (nI (L h) >>> (nI p &&& 31)) &&& 1 = nI ((L h).testBit p).toNat := gI_bit (by omega) (by omega)
  unfold fX3_worth dWo
  rw [gRd (by omega : h < 24), gBd, hL h (by omega), e1]
  by_cases hb : (L h).testBit p = true
  · rw [if_pos (gI_tn1.mpr hb), if_pos hb]; rfl
  · rw [if_neg (fun e => hb (gI_tn1.mp e)), if_neg hb]
    refine gUpE (fun n k => lX3_worth_19 (nI g) (nI p) M R a n (nI k)) (T 8 g) _ (fun k => gFst (fun k => decide (0 < dNib (S p) (T 9 (4 * g + k)))) k = k) ?_ ?_ N 0 (Nat.zero_le _) rfl (by omega)
    · intro n k hk hP
      have o9k := o9 k hk
      have e2 : S p / 2 ^ (4 * T 9 (4 * g + k)) % 16 = dNib (S p) (T 9 (4 * g + k)) := rfl
      have e3 : dNib (S p) (T 9 (4 * g + k)) < 16 := Nat.mod_lt _ (by decide)
      have e4 : lX3_worth_19 (nI g) (nI p) M R a (n + 1) (nI k) = if 0 < dNib (S p) (T 9 (4 * g + k)) then some (nI (k + 1)) else lX3_worth_19 (nI g) (nI p) M R a n (nI (k + 1)) := by
        rw [lX3_worth_19]
        simp (disch := omega) only [hR, h16, h15, hS, hk, e2, ↓reduceIte, gL_0, gL_1, gL_2, gL_3, gL_4, gL_5, gL_6, gL_7, gL_8, gL_9, gL_10, gL_11, gL_12, gL_13, gL_14, gL_15, gL_16, gL_17, gL_18, gL_19, gL_20, gL_21, gL_22, gL_23, gL_24, gL_25, gL_26, gL_27, gL_31, gL_32, gL_40, gL_44, gL_48, gL_57, gL_59, gL_63, gL_72, gL_78, gL_81, gL_82, gL_96, gL_97, gL_99, gL_100, gL_122, gL_144, gL_192, gL_255, gL_270, gL_288, gL_1200, nI_add, pk_sub, pk_div, gMod, gM_2, gN_2, gM_3, gN_3, gM_4, gN_4, gM_8, gN_8, gM_10, gN_10, gM_12, gN_12, gM_14, gN_14, gM_16, gN_16, gM_18, gN_18, gM_26, gN_26, gM_32, gN_32, gM_72, gN_72, gM_100, gN_100, gBd, gNm, gB2, gB3, gB4, gRd, gWr, gI_bit, gI_bit14, gI_tn1n, gI_tn0n, Bool.toNat_true, Bool.toNat_false, Nat.one_ne_zero, Nat.zero_ne_one, eq_self, gIe00, gIe01, gIe10, gIe11, nI_eq, nI_leI, nI_ltI, gI_or, gI_xor, gI_shl1n, gI_shr31, gI_not1, gI_and15, gI_and1n]
        rw [Nat.add_comm 1 k]
      show lX3_worth_19 _ _ _ _ _ _ _ = _ ∨ _
      rw [e4]
      by_cases hc : 0 < dNib (S p) (T 9 (4 * g + k))
      · left
        have := gFst_stop hP hk (decide_eq_true hc)
        rw [if_pos hc, dRk, this, if_pos hk]
      · right
        exact ⟨if_neg hc, gFst_go hP (decide_eq_false hc)⟩
    · intro n hP
      have : dRk T S g p = T 8 g := hP
      show lX3_worth_19 _ _ _ _ _ _ _ = _
      rw [lX3_worth_19, this, if_neg (Nat.lt_irrefl _)]
      simp (disch := omega) only [hR, h16, Nat.lt_irrefl, ↓reduceIte, gL_0, gL_1, gL_2, gL_3, gL_4, gL_5, gL_6, gL_7, gL_8, gL_9, gL_10, gL_11, gL_12, gL_13, gL_14, gL_15, gL_16, gL_17, gL_18, gL_19, gL_20, gL_21, gL_22, gL_23, gL_24, gL_25, gL_26, gL_27, gL_31, gL_32, gL_40, gL_44, gL_48, gL_57, gL_59, gL_63, gL_72, gL_78, gL_81, gL_82, gL_96, gL_97, gL_99, gL_100, gL_122, gL_144, gL_192, gL_255, gL_270, gL_288, gL_1200, nI_add, pk_sub, pk_div, gMod, gM_2, gN_2, gM_3, gN_3, gM_4, gN_4, gM_8, gN_8, gM_10, gN_10, gM_12, gN_12, gM_14, gN_14, gM_16, gN_16, gM_18, gN_18, gM_26, gN_26, gM_32, gN_32, gM_72, gN_72, gM_100, gN_100, gBd, gNm, gB2, gB3, gB4, gRd, gWr, gI_bit, gI_bit14, gI_tn1n, gI_tn0n, Bool.toNat_true, Bool.toNat_false, Nat.one_ne_zero, Nat.zero_ne_one, eq_self, gIe00, gIe01, gIe10, gIe11, nI_eq, nI_leI, nI_ltI, gI_or, gI_xor, gI_shl1n, gI_shr31, gI_not1, gI_and15, gI_and1n]
theorem cBest (hC : tC M t T) (hT : tOk T) (hR : goRr R a 1 = t) (hN : 5000 ≤ N) (hL : ∀ i, i < 24 → M (a + 2) i = nI (L i)) (hLb : ∀ i, i < 24 → L i < 256) (hS : ∀ i, i < 14 → M (a + 1) i = nI (S i)) (hSo : dSok T S) {g h re he l : Nat} (hg : g < T 0 5) (hh : h < 12) (hre : re < 256) (hl : l < 10) : fX3_best N M R a (nI g) (nI h) (nI re) (nI he) (nI l) = some (nI (dBs T (L h) S g re he (l + 1))) := by
  have hz := tO_sz hT
  unfold fX3_best dBs
  rw [gNm, gL_1, nI_add]
  have key := gUp (fun n i (s : Int32 × Int32) => lX3_best_13 N (nI g) (nI h) (nI re) M R a n s.1 s.2 (nI i)) (fun i => (nI (gMin (dWo T (L h) S g) (fun p => re.testBit p) he (l + 1) i).1, nI (gMin (dWo T (L h) S g) (fun p => re.testBit p) he (l + 1) i).2)) (T 0 2) (nI (gMin (dWo T (L h) S g) (fun p => re.testBit p) he (l + 1) (T 0 2)).1) ?_ ?_ N 0 (Nat.zero_le _) (by omega)
  · have key' : lX3_best_13 N (nI g) (nI h) (nI re) M R a N (nI he) (nI (l + 1)) 0 = _ := key
    rw [key', gBd]
  · intro n i hi
    have hw := cWorth hC hT hR hN hL hLb hS hSo hg hh (show i < 8 by omega)
    have hwl : dWo T (L h) S g i ≤ 9 := dWo_le (by have := (tO_goat hT g hg).2.2.1; omega)
    have hm := gMin_le (w := dWo T (L h) S g) (r := fun p => re.testBit p) (b := he) (l := l + 1) i
    show lX3_best_13 N (nI g) (nI h) (nI re) M R a (n + 1) _ _ (nI i) = lX3_best_13 N (nI g) (nI h) (nI re) M R a n _ _ _
    rw [lX3_best_13]
    conv => rhs; unfold gMin
    simp (disch := omega) only [hR, tC_places hC, hi, hw, ↓reduceIte, gL_0, gL_1, gL_2, gL_3, gL_4, gL_5, gL_6, gL_7, gL_8, gL_9, gL_10, gL_11, gL_12, gL_13, gL_14, gL_15, gL_16, gL_17, gL_18, gL_19, gL_20, gL_21, gL_22, gL_23, gL_24, gL_25, gL_26, gL_27, gL_31, gL_32, gL_40, gL_44, gL_48, gL_57, gL_59, gL_63, gL_72, gL_78, gL_81, gL_82, gL_96, gL_97, gL_99, gL_100, gL_122, gL_144, gL_192, gL_255, gL_270, gL_288, gL_1200, nI_add, pk_sub, pk_div, gMod, gM_2, gN_2, gM_3, gN_3, gM_4, gN_4, gM_8, gN_8, gM_10, gN_10, gM_12, gN_12, gM_14, gN_14, gM_16, gN_16, gM_18, gN_18, gM_26, gN_26, gM_32, gN_32, gM_72, gN_72, gM_100, gN_100, gBd, gNm, gB2, gB3, gB4, gRd, gWr, gI_bit, gI_bit14, gI_tn1n, gI_tn0n, Bool.toNat_true, Bool.toNat_false, Nat.one_ne_zero, Nat.zero_ne_one, eq_self, gIe00, gIe01, gIe10, gIe11, nI_eq, nI_leI, nI_ltI, gI_or, gI_xor, gI_shl1n, gI_shr31, gI_not1, gI_and15, gI_and1n]
    by_cases hb : re.testBit i = true
    · by_cases hc : dWo T (L h) S g i < (gMin (dWo T (L h) S g) (fun p => re.testBit p) he (l + 1) i).2
      · simp only [hb, hc, ↓reduceIte, gL_0, gL_1, gL_2, gL_3, gL_4, gL_5, gL_6, gL_7, gL_8, gL_9, gL_10, gL_11, gL_12, gL_13, gL_14, gL_15, gL_16, gL_17, gL_18, gL_19, gL_20, gL_21, gL_22, gL_23, gL_24, gL_25, gL_26, gL_27, gL_31, gL_32, gL_40, gL_44, gL_48, gL_57, gL_59, gL_63, gL_72, gL_78, gL_81, gL_82, gL_96, gL_97, gL_99, gL_100, gL_122, gL_144, gL_192, gL_255, gL_270, gL_288, gL_1200, nI_add, pk_sub, pk_div, gMod, gM_2, gN_2, gM_3, gN_3, gM_4, gN_4, gM_8, gN_8, gM_10, gN_10, gM_12, gN_12, gM_14, gN_14, gM_16, gN_16, gM_18, gN_18, gM_26, gN_26, gM_32, gN_32, gM_72, gN_72, gM_100, gN_100, gBd, gNm, gB2, gB3, gB4, gRd, gWr, gI_bit, gI_bit14, gI_tn1n, gI_tn0n, Bool.toNat_true, Bool.toNat_false, Nat.one_ne_zero, Nat.zero_ne_one, eq_self, gIe00, gIe01, gIe10, gIe11, nI_eq, nI_leI, nI_ltI, gI_or, gI_xor, gI_shl1n, gI_shr31, gI_not1, gI_and15, gI_and1n, decide_true, Bool.and_self]
      · simp only [hb, hc, ↓reduceIte, gL_0, gL_1, gL_2, gL_3, gL_4, gL_5, gL_6, gL_7, gL_8, gL_9, gL_10, gL_11, gL_12, gL_13, gL_14, gL_15, gL_16, gL_17, gL_18, gL_19, gL_20, gL_21, gL_22, gL_23, gL_24, gL_25, gL_26, gL_27, gL_31, gL_32, gL_40, gL_44, gL_48, gL_57, gL_59, gL_63, gL_72, gL_78, gL_81, gL_82, gL_96, gL_97, gL_99, gL_100, gL_122, gL_144, gL_192, gL_255, gL_270, gL_288, gL_1200, nI_add, pk_sub, pk_div, gMod, gM_2, gN_2, gM_3, gN_3, gM_4, gN_4, gM_8, gN_8, gM_10, gN_10, gM_12, gN_12, gM_14, gN_14, gM_16, gN_16, gM_18, gN_18, gM_26, gN_26, gM_32, gN_32, gM_72, gN_72, gM_100, gN_100, gBd, gNm, gB2, gB3, gB4, gRd, gWr, gI_bit, gI_bit14, gI_tn1n, gI_tn0n, Bool.toNat_true, Bool.toNat_false, Nat.one_ne_zero, Nat.zero_ne_one, eq_self, gIe00, gIe01, gIe10, gIe11, nI_eq, nI_leI, nI_ltI, gI_or, gI_xor, gI_shl1n, gI_shr31, gI_not1, gI_and15, gI_and1n, decide_false, Bool.and_false, Bool.false_eq_true]
    · rw [Bool.not_eq_true] at hb
      simp only [hb, Bool.false_eq_true, Bool.false_and, ↓reduceIte, gL_0, gL_1, gL_2, gL_3, gL_4, gL_5, gL_6, gL_7, gL_8, gL_9, gL_10, gL_11, gL_12, gL_13, gL_14, gL_15, gL_16, gL_17, gL_18, gL_19, gL_20, gL_21, gL_22, gL_23, gL_24, gL_25, gL_26, gL_27, gL_31, gL_32, gL_40, gL_44, gL_48, gL_57, gL_59, gL_63, gL_72, gL_78, gL_81, gL_82, gL_96, gL_97, gL_99, gL_100, gL_122, gL_144, gL_192, gL_255, gL_270, gL_288, gL_1200, nI_add, pk_sub, pk_div, gMod, gM_2, gN_2, gM_3, gN_3, gM_4, gN_4, gM_8, gN_8, gM_10, gN_10, gM_12, gN_12, gM_14, gN_14, gM_16, gN_16, gM_18, gN_18, gM_26, gN_26, gM_32, gN_32, gM_72, gN_72, gM_100, gN_100, gBd, gNm, gB2, gB3, gB4, gRd, gWr, gI_bit, gI_bit14, gI_tn1n, gI_tn0n, Bool.toNat_true, Bool.toNat_false, Nat.one_ne_zero, Nat.zero_ne_one, eq_self, gIe00, gIe01, gIe10, gIe11, nI_eq, nI_leI, nI_ltI, gI_or, gI_xor, gI_shl1n, gI_shr31, gI_not1, gI_and15, gI_and1n]
  · intro n
    show lX3_best_13 N (nI g) (nI h) (nI re) M R a (n + 1) _ _ (nI (T 0 2)) = _
    rw [lX3_best_13]
    simp (disch := omega) only [hR, tC_places hC, Nat.lt_irrefl, ↓reduceIte, gL_0, gL_1, gL_2, gL_3, gL_4, gL_5, gL_6, gL_7, gL_8, gL_9, gL_10, gL_11, gL_12, gL_13, gL_14, gL_15, gL_16, gL_17, gL_18, gL_19, gL_20, gL_21, gL_22, gL_23, gL_24, gL_25, gL_26, gL_27, gL_31, gL_32, gL_40, gL_44, gL_48, gL_57, gL_59, gL_63, gL_72, gL_78, gL_81, gL_82, gL_96, gL_97, gL_99, gL_100, gL_122, gL_144, gL_192, gL_255, gL_270, gL_288, gL_1200, nI_add, pk_sub, pk_div, gMod, gM_2, gN_2, gM_3, gN_3, gM_4, gN_4, gM_8, gN_8, gM_10, gN_10, gM_12, gN_12, gM_14, gN_14, gM_16, gN_16, gM_18, gN_18, gM_26, gN_26, gM_32, gN_32, gM_72, gN_72, gM_100, gN_100, gBd, gNm, gB2, gB3, gB4, gRd, gWr, gI_bit, gI_bit14, gI_tn1n, gI_tn0n, Bool.toNat_true, Bool.toNat_false, Nat.one_ne_zero, Nat.zero_ne_one, eq_self, gIe00, gIe01, gIe10, gIe11, nI_eq, nI_leI, nI_ltI, gI_or, gI_xor, gI_shl1n, gI_shr31, gI_not1, gI_and15, gI_and1n]
theorem cFollows (hC : tC M t T) (hT : tOk T) (hR : goRr R a 1 = t) (hop : ∀ p, p < 8 → M (a + 3) p = nI (op p)) (hopb : ∀ p, p < 8 → op p < 256) (hS : ∀ i, i < 14 → M (a + 1) i = nI (S i)) (hSo : dSok T S) {g : Nat} (hg : g < T 0 5) : fX3_followsMother M R a (nI g) (nI (S (8 + g))) = some (nI (dFo T op S g).toNat) := by
  have hz := tO_sz hT
  obtain ⟨h10, h11, h13, h16, h15⟩ := tC_goats hC g hg
  obtain ⟨o6, o7, o8, o10, o23, o11, o11', o9⟩ := tO_goat hT g hg
  have hh := hSo.2.2 g hg
  have hoh := hopb (S (8 + g)) (by omega)
  unfold fX3_followsMother dFo
  simp (disch := omega) only [hR, h11, ↓reduceIte, gL_0, gL_1, gL_2, gL_3, gL_4, gL_5, gL_6, gL_7, gL_8, gL_9, gL_10, gL_11, gL_12, gL_13, gL_14, gL_15, gL_16, gL_17, gL_18, gL_19, gL_20, gL_21, gL_22, gL_23, gL_24, gL_25, gL_26, gL_27, gL_31, gL_32, gL_40, gL_44, gL_48, gL_57, gL_59, gL_63, gL_72, gL_78, gL_81, gL_82, gL_96, gL_97, gL_99, gL_100, gL_122, gL_144, gL_192, gL_255, gL_270, gL_288, gL_1200, nI_add, pk_sub, pk_div, gMod, gM_2, gN_2, gM_3, gN_3, gM_4, gN_4, gM_8, gN_8, gM_10, gN_10, gM_12, gN_12, gM_14, gN_14, gM_16, gN_16, gM_18, gN_18, gM_26, gN_26, gM_32, gN_32, gM_72, gN_72, gM_100, gN_100, gBd, gNm, gB2, gB3, gB4, gRd, gWr, gI_bit, gI_bit14, gI_tn1n, gI_tn0n, Bool.toNat_true, Bool.toNat_false, Nat.one_ne_zero, Nat.zero_ne_one, eq_self, gIe00, gIe01, gIe10, gIe11, nI_eq, nI_leI, nI_ltI, gI_or, gI_xor, gI_shl1n, gI_shr31, gI_not1, gI_and15, gI_and1n]
  rcases o7 with o7 | o7
  · have hm := hSo.2.2 (T 7 g) o7
    have c : T 7 g < 6 := by omega
    simp (disch := omega) only [nI_leI, Nat.zero_le, hop, hS, c, decide_true, Bool.true_and, ↓reduceIte, gL_0, gL_1, gL_2, gL_3, gL_4, gL_5, gL_6, gL_7, gL_8, gL_9, gL_10, gL_11, gL_12, gL_13, gL_14, gL_15, gL_16, gL_17, gL_18, gL_19, gL_20, gL_21, gL_22, gL_23, gL_24, gL_25, gL_26, gL_27, gL_31, gL_32, gL_40, gL_44, gL_48, gL_57, gL_59, gL_63, gL_72, gL_78, gL_81, gL_82, gL_96, gL_97, gL_99, gL_100, gL_122, gL_144, gL_192, gL_255, gL_270, gL_288, gL_1200, nI_add, pk_sub, pk_div, gMod, gM_2, gN_2, gM_3, gN_3, gM_4, gN_4, gM_8, gN_8, gM_10, gN_10, gM_12, gN_12, gM_14, gN_14, gM_16, gN_16, gM_18, gN_18, gM_26, gN_26, gM_32, gN_32, gM_72, gN_72, gM_100, gN_100, gBd, gNm, gB2, gB3, gB4, gRd, gWr, gI_bit, gI_bit14, gI_tn1n, gI_tn0n, Bool.toNat_true, Bool.toNat_false, Nat.one_ne_zero, Nat.zero_ne_one, eq_self, gIe00, gIe01, gIe10, gIe11, nI_eq, nI_leI, nI_ltI, gI_or, gI_xor, gI_shl1n, gI_shr31, gI_not1, gI_and15, gI_and1n]
    by_cases hb : (op (S (8 + g))).testBit (S (8 + T 7 g)) = true
    · simp only [hb, ↓reduceIte, gL_0, gL_1, gL_2, gL_3, gL_4, gL_5, gL_6, gL_7, gL_8, gL_9, gL_10, gL_11, gL_12, gL_13, gL_14, gL_15, gL_16, gL_17, gL_18, gL_19, gL_20, gL_21, gL_22, gL_23, gL_24, gL_25, gL_26, gL_27, gL_31, gL_32, gL_40, gL_44, gL_48, gL_57, gL_59, gL_63, gL_72, gL_78, gL_81, gL_82, gL_96, gL_97, gL_99, gL_100, gL_122, gL_144, gL_192, gL_255, gL_270, gL_288, gL_1200, nI_add, pk_sub, pk_div, gMod, gM_2, gN_2, gM_3, gN_3, gM_4, gN_4, gM_8, gN_8, gM_10, gN_10, gM_12, gN_12, gM_14, gN_14, gM_16, gN_16, gM_18, gN_18, gM_26, gN_26, gM_32, gN_32, gM_72, gN_72, gM_100, gN_100, gBd, gNm, gB2, gB3, gB4, gRd, gWr, gI_bit, gI_bit14, gI_tn1n, gI_tn0n, Bool.toNat_true, Bool.toNat_false, Nat.one_ne_zero, Nat.zero_ne_one, eq_self, gIe00, gIe01, gIe10, gIe11, nI_eq, nI_leI, nI_ltI, gI_or, gI_xor, gI_shl1n, gI_shr31, gI_not1, gI_and15, gI_and1n]
    · rw [Bool.not_eq_true] at hb
      simp only [hb, Bool.false_eq_true, ↓reduceIte, gL_0, gL_1, gL_2, gL_3, gL_4, gL_5, gL_6, gL_7, gL_8, gL_9, gL_10, gL_11, gL_12, gL_13, gL_14, gL_15, gL_16, gL_17, gL_18, gL_19, gL_20, gL_21, gL_22, gL_23, gL_24, gL_25, gL_26, gL_27, gL_31, gL_32, gL_40, gL_44, gL_48, gL_57, gL_59, gL_63, gL_72, gL_78, gL_81, gL_82, gL_96, gL_97, gL_99, gL_100, gL_122, gL_144, gL_192, gL_255, gL_270, gL_288, gL_1200, nI_add, pk_sub, pk_div, gMod, gM_2, gN_2, gM_3, gN_3, gM_4, gN_4, gM_8, gN_8, gM_10, gN_10, gM_12, gN_12, gM_14, gN_14, gM_16, gN_16, gM_18, gN_18, gM_26, gN_26, gM_32, gN_32, gM_72, gN_72, gM_100, gN_100, gBd, gNm, gB2, gB3, gB4, gRd, gWr, gI_bit, gI_bit14, gI_tn1n, gI_tn0n, Bool.toNat_true, Bool.toNat_false, Nat.one_ne_zero, Nat.zero_ne_one, eq_self, gIe00, gIe01, gIe10, gIe11, nI_eq, nI_leI, nI_ltI, gI_or, gI_xor, gI_shl1n, gI_shr31, gI_not1, gI_and15, gI_and1n]
  · rw [o7]
    rfl
theorem cNib {x k : Nat} (hx : x < 65536) (hk : k < 4) : fX12_countOf (nI x) (nI k) = nI (dNib x k) := by
  unfold fX12_countOf dNib
  rw [gL_4, gN_4, gI_shr (by omega) (by omega)]
  exact pk_andN (by have := Nat.div_le_self x (2 ^ (4 * k)); omega) 4 rfl
theorem dNib_lt (x k : Nat) : dNib x k < 16 := Nat.mod_lt _ (by decide)
theorem dNib_le {x k : Nat} : dNib x k * 2 ^ (4 * k) ≤ x := Nat.le_trans (Nat.mul_le_mul_right _ (Nat.mod_le _ _)) (Nat.div_mul_le_self x _)
theorem cEat (hC : tC M t T) (hT : tOk T) (hR : goRr R a 1 = t) (hta : t + 29 < a) (hS : ∀ i, i < 14 → M (a + 1) i = nI (S i)) (hSo : dSok T S) {g h : Nat} (hg : g < T 0 5) (hh : h < 12) (hk : dRk T S g (S (8 + g)) < T 8 g) : fX3_eat M R a (nI g) (nI h) (nI (S (8 + g))) (nI (dPl T S g)) = some (goWI (goWI (goWI M (a + 1) (S (8 + g)) (nI (S (S (8 + g)) - dBt T S g * 2 ^ (4 * dPl T S g)))) (a + 7) (4 * g + dPl T S g) (M (a + 7) (4 * g + dPl T S g) + nI (dBt T S g))) (a + 6) (12 * g + h) (nI (dBt T S g * 4 + dPl T S g))) := by
  have hz := tO_sz hT
  obtain ⟨h10, h11, h13, h16, h15⟩ := tC_goats hC g hg
  obtain ⟨o6, o7, o8, o10, o23, o11, o11', o9⟩ := tO_goat hT g hg
  have hhere := hSo.2.2 g hg
  have hSh := hSo.1 (S (8 + g)) (by omega)
  have hpl : dPl T S g < T 0 1 := o9 _ hk
  have hn1 : 0 < dNib (S (S (8 + g))) (dPl T S g) := of_decide_eq_true (gFst_p hk)
  have hn2 := dNib_lt (S (S (8 + g))) (dPl T S g)
  have hn3 := dNib_le (x := S (S (8 + g))) (k := dPl T S g)
  have hbt : dBt T S g ≤ dNib (S (S (8 + g))) (dPl T S g) ∧ dBt T S g ≤ 2 := by unfold dBt; split <;> omega
  have hle : dBt T S g * 2 ^ (4 * dPl T S g) ≤ S (S (8 + g)) := Nat.le_trans (Nat.mul_le_mul_right _ hbt.1) hn3
  have e13 : (if nI (T 6 g) = 2 then Option.bind (goRd M (a + 1) 14 (nI (S (8 + g)))) fun x17 => if 1 < fX12_countOf x17 (nI (dPl T S g)) then some 2 else some 1 else some 1) = some (nI (dBt T S g)) := by
    unfold dBt
    simp (disch := omega) only [hS, cNib, ↓reduceIte, gL_0, gL_1, gL_2, gL_3, gL_4, gL_5, gL_6, gL_7, gL_8, gL_9, gL_10, gL_11, gL_12, gL_13, gL_14, gL_15, gL_16, gL_17, gL_18, gL_19, gL_20, gL_21, gL_22, gL_23, gL_24, gL_25, gL_26, gL_27, gL_31, gL_32, gL_40, gL_44, gL_48, gL_57, gL_59, gL_63, gL_72, gL_78, gL_81, gL_82, gL_96, gL_97, gL_99, gL_100, gL_122, gL_144, gL_192, gL_255, gL_270, gL_288, gL_1200, nI_add, pk_sub, pk_div, gMod, gM_2, gN_2, gM_3, gN_3, gM_4, gN_4, gM_8, gN_8, gM_10, gN_10, gM_12, gN_12, gM_14, gN_14, gM_16, gN_16, gM_18, gN_18, gM_26, gN_26, gM_32, gN_32, gM_72, gN_72, gM_100, gN_100, gBd, gNm, gB2, gB3, gB4, gRd, gWr, gI_bit, gI_bit14, gI_tn1n, gI_tn0n, Bool.toNat_true, Bool.toNat_false, Nat.one_ne_zero, Nat.zero_ne_one, eq_self, gIe00, gIe01, gIe10, gIe11, nI_eq, nI_leI, nI_ltI, gI_or, gI_xor, gI_shl1n, gI_shr31, gI_not1, gI_and15, gI_and1n]
    by_cases c1 : T 6 g = 2
    · by_cases c2 : 1 < dNib (S (S (8 + g))) (dPl T S g)
      · simp only [c1, c2, and_self, ↓reduceIte]
      · simp only [c1, c2, and_false, ↓reduceIte]
    · simp only [c1, false_and, ↓reduceIte]
  unfold fX3_eat
  rw [hR, gRd (by omega), gBd, h10, e13, gBd]
  simp (disch := omega) only [hS, gI_shln, gWI_na, ↓reduceIte, gL_0, gL_1, gL_2, gL_3, gL_4, gL_5, gL_6, gL_7, gL_8, gL_9, gL_10, gL_11, gL_12, gL_13, gL_14, gL_15, gL_16, gL_17, gL_18, gL_19, gL_20, gL_21, gL_22, gL_23, gL_24, gL_25, gL_26, gL_27, gL_31, gL_32, gL_40, gL_44, gL_48, gL_57, gL_59, gL_63, gL_72, gL_78, gL_81, gL_82, gL_96, gL_97, gL_99, gL_100, gL_122, gL_144, gL_192, gL_255, gL_270, gL_288, gL_1200, nI_add, pk_sub, pk_div, gMod, gM_2, gN_2, gM_3, gN_3, gM_4, gN_4, gM_8, gN_8, gM_10, gN_10, gM_12, gN_12, gM_14, gN_14, gM_16, gN_16, gM_18, gN_18, gM_26, gN_26, gM_32, gN_32, gM_72, gN_72, gM_100, gN_100, gBd, gNm, gB2, gB3, gB4, gRd, gWr, gI_bit, gI_bit14, gI_tn1n, gI_tn0n, Bool.toNat_true, Bool.toNat_false, Nat.one_ne_zero, Nat.zero_ne_one, eq_self, gIe00, gIe01, gIe10, gIe11, nI_eq, nI_leI, nI_ltI, gI_or, gI_xor, gI_shl1n, gI_shr31, gI_not1, gI_and15, gI_and1n]
  rw [Nat.mul_comm 4 (dBt T S g)]
end cDay
