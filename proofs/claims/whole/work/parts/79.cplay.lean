/-! HOURS in the component -/
section cPlay
variable {M : goMI} {R : goMR} {T : tH} {t a N : Nat} {S op fe L : Nat → Nat}
def cB (M : goMI) (a t : Nat) (T : tH) (op fe L S : Nat → Nat) : Prop := tC M t T ∧ (∀ i, i < 24 → M (a + 2) i = nI (L i)) ∧ (∀ p, p < 8 → M (a + 3) p = nI (op p)) ∧ (∀ i, i < 72 → M (a + 4) i = nI (fe i)) ∧ (∀ i, i < 14 → M (a + 1) i = nI (S i)) ∧ dSok T S ∧ ∀ i, i < 72 → ∃ n, n < 12 ∧ M (a + 6) i = nI n
def cK (op fe L : Nat → Nat) : Prop := (∀ i, i < 24 → L i < 256) ∧ (∀ p, p < 8 → op p < 256) ∧ ∀ i, i < 72 → fe i < 256
/-- what a goat's hour changes -/
def cZ (M M' : goMI) (a : Nat) (T : tH) (op fe L S : Nat → Nat) (g h : Nat) : Prop :=
  (∀ b, b ≤ a ∨ a + 9 < b ∨ b = a + 2 ∨ b = a + 3 ∨ b = a + 4 → M' b = M b) ∧
  (∀ j, M' (a + 5) j = if j = 12 * g + h then nI (dTo T op (fe (12 * g + h)) (L h) (L (12 + h)) S g) else M (a + 5) j) ∧
  (∀ j, M' (a + 6) j = if j = 12 * g + h then nI (dCo T op (fe (12 * g + h)) (L h) (L (12 + h)) S g) else M (a + 6) j) ∧
  (∀ j, M' (a + 7) j = if dEa T op (fe (12 * g + h)) (L h) (L (12 + h)) S g && decide (j = 4 * g + dPl T S g) then M (a + 7) j + nI (dBt T S g) else M (a + 7) j) ∧
  (∀ j, M' (a + 9) j = if j = g then M (a + 9) j + nI (dFl T op (fe (12 * g + h)) (L h) (L (12 + h)) S g) else M (a + 9) j) ∧
  (∀ n, n < 12 → (2 ≤ h → M (a + 6) (12 * g + h - 2) = nI n) → ∀ j, M' (a + 8) j = if 2 ≤ h ∧ j = 8 * (4 * g + n % 4) + dTo T op (fe (12 * g + h)) (L h) (L (12 + h)) S g then M (a + 8) j + nI (n / 4) else M (a + 8) j)
theorem dCo_lt {fe sa dg g : Nat} (hT : tOk T) (hg : g < T 0 5) : dCo T op fe sa dg S g < 12 := by
  have hz := tO_sz hT
  unfold dCo
  split
  · rename_i c
    have hrk : dRk T S g (S (8 + g)) < T 8 g := by
      unfold dEa at c
      simp only [Bool.and_eq_true, decide_eq_true_eq, Bool.not_eq_true'] at c
      have c3 := c.1.1.2
      have hlt := c.2
      unfold dWo at hlt
      rw [c3, if_neg Bool.false_ne_true] at hlt
      split at hlt
      · assumption
      · omega
    have hpl : dPl T S g < T 0 1 := (tO_goat hT g hg).2.2.2.2.2.2.2 _ hrk
    have hbt : dBt T S g ≤ 2 := by unfold dBt; split <;> omega
    omega
  · omega
theorem cDrop {g h n s : Nat} (hg : g < 6) (hh : h < 12) (hb : 2 ≤ h → M (a + 6) (12 * g + h - 2) = nI n) (hn : n < 12) (hs : M (a + 1) (8 + g) = nI s) (hs8 : s < 8) : fX3_drop M a (nI g) (nI h) = some (if 2 ≤ h then goWI M (a + 8) (8 * (4 * g + n % 4) + s) (M (a + 8) (8 * (4 * g + n % 4) + s) + nI (n / 4)) else M) := by
  unfold fX3_drop
  by_cases c : 2 ≤ h
  · have hb' := hb c
    simp (disch := omega) only [c, hb', hs, ↓reduceIte, gL_0, gL_1, gL_2, gL_3, gL_4, gL_5, gL_6, gL_7, gL_8, gL_9, gL_10, gL_11, gL_12, gL_13, gL_14, gL_15, gL_16, gL_17, gL_18, gL_19, gL_20, gL_21, gL_22, gL_23, gL_24, gL_25, gL_26, gL_27, gL_31, gL_32, gL_40, gL_44, gL_48, gL_57, gL_59, gL_63, gL_72, gL_78, gL_81, gL_82, gL_96, gL_97, gL_99, gL_100, gL_122, gL_144, gL_192, gL_255, gL_270, gL_288, gL_1200, nI_add, pk_sub, pk_div, gMod, gM_2, gN_2, gM_3, gN_3, gM_4, gN_4, gM_8, gN_8, gM_10, gN_10, gM_12, gN_12, gM_14, gN_14, gM_16, gN_16, gM_18, gN_18, gM_26, gN_26, gM_32, gN_32, gM_72, gN_72, gM_100, gN_100, gBd, gNm, gB2, gB3, gB4, gRd, gWr, gI_bit, gI_bit14, gI_tn1n, gI_tn0n, Bool.toNat_true, Bool.toNat_false, Nat.one_ne_zero, Nat.zero_ne_one, eq_self, gIe00, gIe01, gIe10, gIe11, nI_eq, nI_leI, nI_ltI, gI_or, gI_xor, gI_shl1n, gI_shr31, gI_not1, gI_and15, gI_and1n]
  · simp (disch := omega) only [c, ↓reduceIte, gL_0, gL_1, gL_2, gL_3, gL_4, gL_5, gL_6, gL_7, gL_8, gL_9, gL_10, gL_11, gL_12, gL_13, gL_14, gL_15, gL_16, gL_17, gL_18, gL_19, gL_20, gL_21, gL_22, gL_23, gL_24, gL_25, gL_26, gL_27, gL_31, gL_32, gL_40, gL_44, gL_48, gL_57, gL_59, gL_63, gL_72, gL_78, gL_81, gL_82, gL_96, gL_97, gL_99, gL_100, gL_122, gL_144, gL_192, gL_255, gL_270, gL_288, gL_1200, nI_add, pk_sub, pk_div, gMod, gM_2, gN_2, gM_3, gN_3, gM_4, gN_4, gM_8, gN_8, gM_10, gN_10, gM_12, gN_12, gM_14, gN_14, gM_16, gN_16, gM_18, gN_18, gM_26, gN_26, gM_32, gN_32, gM_72, gN_72, gM_100, gN_100, gBd, gNm, gB2, gB3, gB4, gRd, gWr, gI_bit, gI_bit14, gI_tn1n, gI_tn0n, Bool.toNat_true, Bool.toNat_false, Nat.one_ne_zero, Nat.zero_ne_one, eq_self, gIe00, gIe01, gIe10, gIe11, nI_eq, nI_leI, nI_ltI, gI_or, gI_xor, gI_shl1n, gI_shr31, gI_not1, gI_and15, gI_and1n]
theorem cStep (hT : tOk T) (hR : goRr R a 1 = t) (hta : t + 29 < a) (hN : 5000 ≤ N) (hK : cK op fe L) (hB : cB M a t T op fe L S) {g h : Nat} (hg : g < T 0 5) (hh : h < 12) :
    ∃ M', (Option.bind (fX3_turn N M R a (nI g) (nI h)) fun M14 => fX3_drop M14 a (nI g) (nI h)) = some M' ∧ cB M' a t T op fe L (dNx T op (fe (12 * g + h)) (L h) (L (12 + h)) S g) ∧ cZ M M' a T op fe L S g h := by
  have hz := tO_sz hT
  obtain ⟨b1, b2, b3, b4, b5, b6, b7⟩ := hB
  obtain ⟨k1, k2, k3⟩ := hK
  obtain ⟨M1, h1, q1, q2, q3, q4, q5, q6⟩ := cTurn b1 hT hR hta hN b2 k1 b3 k2 b4 k3 b5 b6 hg hh
  have hto := dTo_lt (op := op) (sa := L h) (fe := fe (12 * g + h)) (dg := L (12 + h)) hT b6 hg
  have hs : M1 (a + 1) (8 + g) = nI (dTo T op (fe (12 * g + h)) (L h) (L (12 + h)) S g) := by
    rw [q2 _ (by omega)]
    unfold dNx
    rw [if_pos rfl]
  have hex : ∃ n, n < 12 ∧ (2 ≤ h → M (a + 6) (12 * g + h - 2) = nI n) := by
    by_cases c : 2 ≤ h
    · obtain ⟨n, hn, e⟩ := b7 (12 * g + h - 2) (by omega)
      exact ⟨n, hn, fun _ => e⟩
    · exact ⟨0, by decide, fun c' => absurd c' c⟩
  obtain ⟨n, hn, hnb⟩ := hex
  have hnb1 : 2 ≤ h → M1 (a + 6) (12 * g + h - 2) = nI n := fun c => by
    rw [q4, if_neg (by omega)]
    exact hnb c
  have hd := cDrop (M := M1) (a := a) (g := g) (h := h) (n := n) (by omega) hh hnb1 hn hs (by omega)
  have fr : ∀ b, b ≠ a + 8 → (if 2 ≤ h then goWI M1 (a + 8) (8 * (4 * g + n % 4) + dTo T op (fe (12 * g + h)) (L h) (L (12 + h)) S g) (M1 (a + 8) (8 * (4 * g + n % 4) + dTo T op (fe (12 * g + h)) (L h) (L (12 + h)) S g) + nI (n / 4)) else M1) b = M1 b := by
    intro b hb
    split
    · exact goWI_ne hb
    · rfl
  refine ⟨_, by rw [h1, gBd, hd], ⟨?_, ?_, ?_, ?_, ?_, dNx_ok hT b6 hg, ?_⟩, ?_, ?_, ?_, ?_, ?_, ?_⟩
  · exact tC_fr b1 (fun r hr => by rw [fr _ (by omega), q1 _ (by omega)])
  · intro i hi; rw [fr _ (by omega), q1 _ (by omega)]; exact b2 i hi
  · intro i hi; rw [fr _ (by omega), q1 _ (by omega)]; exact b3 i hi
  · intro i hi; rw [fr _ (by omega), q1 _ (by omega)]; exact b4 i hi
  · intro i hi; rw [fr _ (by omega)]; exact q2 i hi
  · intro i hi
    rw [fr _ (by omega), q4]
    split
    · exact ⟨_, dCo_lt hT hg, rfl⟩
    · exact b7 i hi
  · intro b hb; rw [fr _ (by omega)]; exact q1 b (by omega)
  · intro j; rw [fr _ (by omega)]; exact q3 j
  · intro j; rw [fr _ (by omega)]; exact q4 j
  · intro j; rw [fr _ (by omega)]; exact q5 j
  · intro j; rw [fr _ (by omega)]; exact q6 j
  · intro n' hn' hb' j
    by_cases c : 2 ≤ h
    · have e : n' = n := by
        have e1 := hb' c
        rw [hnb c, nI_eq (by omega) (by omega)] at e1
        exact e1.symm
      rw [e, if_pos c, gWI_self]
      by_cases c2 : j = 8 * (4 * g + n % 4) + dTo T op (fe (12 * g + h)) (L h) (L (12 + h)) S g
      · rw [if_pos c2, if_pos ⟨c, c2⟩, ← c2, q1 _ (by omega)]
      · rw [if_neg c2, if_neg (fun x => c2 x.2), q1 _ (by omega)]
    · rw [if_neg c, if_neg (fun x => c x.1), q1 _ (by omega)]
theorem cHour (hT : tOk T) (hR : goRr R a 1 = t) (hta : t + 29 < a) (hN : 5000 ≤ N) (hK : cK op fe L) {h : Nat} (hh : h < 12) (J : Nat → goMI → Prop) (hJ : ∀ g M M', g < T 0 5 → cB M a t T op fe L (cG T op fe L h S g) → J g M → cZ M M' a T op fe L (cG T op fe L h S g) g h → J (g + 1) M') (hB : cB M a t T op fe L S) (h0 : J 0 M) :
    ∃ M', lX3_play_16 N (nI h) R a N (nI 0) M = some M' ∧ cB M' a t T op fe L (cG T op fe L h S (T 0 5)) ∧ J (T 0 5) M' := by
  have hz := tO_sz hT
  refine gFor (fun n i M => lX3_play_16 N (nI h) R a n (nI i) M) (fun g M => cB M a t T op fe L (cG T op fe L h S g) ∧ J g M) (fun M' => cB M' a t T op fe L (cG T op fe L h S (T 0 5)) ∧ J (T 0 5) M') (T 0 5) ?_ ?_ N 0 M (Nat.zero_le _) ⟨hB, h0⟩ (by omega)
  · intro n g M1 hg hP
    obtain ⟨M2, e1, e2, e3⟩ := cStep hT hR hta hN hK hP.1 hg hh
    refine ⟨M2, ?_, e2, hJ g M1 M2 hg hP.1 hP.2 e3⟩
    show lX3_play_16 _ _ _ _ _ _ _ = lX3_play_16 _ _ _ _ _ _ _
    rw [lX3_play_16, hR, (tC_herd hP.1.1).1, if_pos (nI_lt hg (by omega)), ← nI_1]
    cases ht : fX3_turn N M1 R a (nI g) (nI h) with
    | none => rw [ht] at e1; cases e1
    | some x =>
      rw [ht, gBd] at e1
      rw [gBd, e1, gBd]
  · intro n M1 hP
    refine ⟨M1, ?_, hP⟩
    show lX3_play_16 _ _ _ _ _ _ _ = _
    rw [lX3_play_16, hR, (tC_herd hP.1.1).1, if_neg (nI_nlt (Nat.le_refl _) (by omega))]
theorem cPlay (hT : tOk T) (hR : goRr R a 1 = t) (hta : t + 29 < a) (hN : 5000 ≤ N) (hK : cK op fe L) {f to : Nat} (hf : f ≤ to + 1) (hto : to < 12) (J : Nat → Nat → goMI → Prop) (hJ : ∀ h g M M', f ≤ h → h < to + 1 → g < T 0 5 → cB M a t T op fe L (cG T op fe L h (cR T op fe L f S (h - f)) g) → J h g M → cZ M M' a T op fe L (cG T op fe L h (cR T op fe L f S (h - f)) g) g h → J h (g + 1) M') (hJ' : ∀ h M, f ≤ h → h < to + 1 → J h (T 0 5) M → J (h + 1) 0 M) (hB : cB M a t T op fe L S) (h0 : J f 0 M) :
    ∃ M', fX3_play N M R a (nI f) (nI to) = some M' ∧ cB M' a t T op fe L (cR T op fe L f S (to + 1 - f)) ∧ J (to + 1) 0 M' := by
  have key : ∃ M', lX3_play_2 N (nI to) R a N (nI f) M = some M' ∧ cB M' a t T op fe L (cR T op fe L f S (to + 1 - f)) ∧ J (to + 1) 0 M' := by
    refine gFor (fun n i M => lX3_play_2 N (nI to) R a n (nI i) M) (fun h M => f ≤ h ∧ cB M a t T op fe L (cR T op fe L f S (h - f)) ∧ J h 0 M) (fun M' => cB M' a t T op fe L (cR T op fe L f S (to + 1 - f)) ∧ J (to + 1) 0 M') (to + 1) ?_ ?_ N f M hf ⟨Nat.le_refl _, ?_, h0⟩ (by omega)
    · intro n h M1 hh hP
      obtain ⟨hfh, hB1, hJ1⟩ := hP
      obtain ⟨M2, e1, e2, e3⟩ := cHour hT hR hta hN hK (h := h) (by omega) (J h) (fun g M M' hg hB hj hz => hJ h g M M' hfh hh hg hB hj hz) hB1 hJ1
      refine ⟨M2, ?_, by omega, ?_, hJ' h M2 hfh hh e3⟩
      · show lX3_play_2 _ _ _ _ _ _ _ = lX3_play_2 _ _ _ _ _ _ _
        rw [lX3_play_2, if_pos (nI_le (by omega) (by omega)), gL_12, if_pos (nI_lt (by omega) (by omega) : nI h < nI 12), ← nI_1]
        have e1' : lX3_play_16 N (nI h) R a N 0 M1 = some M2 := e1
        rw [e1', gBd]
      · rw [show h + 1 - f = (h - f) + 1 by omega]
        show cB M2 a t T op fe L (cG T op fe L (f + (h - f)) (cR T op fe L f S (h - f)) (T 0 5))
        rw [show f + (h - f) = h by omega]
        exact e2
    · intro n M1 hP
      refine ⟨M1, ?_, hP.2⟩
      show lX3_play_2 _ _ _ _ _ _ _ = _
      rw [lX3_play_2, if_neg (nI_ge (by omega) (by omega))]
    · rw [Nat.sub_self]; exact hB
  obtain ⟨M', e1, e2⟩ := key
  refine ⟨M', ?_, e2⟩
  unfold fX3_play
  rw [e1, gBd]
end cPlay
