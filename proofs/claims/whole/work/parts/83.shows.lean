/-! WHAT A DAY SHOWS -/
def yS (T : tH) (A : Nat → Nat) (c h g : Nat) : Nat := dSp T (dOp T (A 24)) (dFr T c) A (dS0 T) h g
def yB (T : tH) (A : Nat → Nat) (c h g : Nat) : Nat := dBc T (dOp T (A 24)) (dFr T c) A (dS0 T) h g
def yE (T : tH) (A : Nat → Nat) (c g k : Nat) : Nat := dEt T (dOp T (A 24)) (dFr T c) A (dS0 T) g k (T 0 0)
def yD (T : tH) (A : Nat → Nat) (c g k q : Nat) : Nat := dDr T (dOp T (A 24)) (dFr T c) A (dS0 T) g k q (T 0 0)
def yF (T : tH) (A : Nat → Nat) (c g : Nat) : Nat := dFs T (dOp T (A 24)) (dFr T c) A (dS0 T) g (T 0 0)
def yR (T : tH) (A : Nat → Nat) (c p : Nat) : Nat := cR T (dOp T (A 24)) (dFr T c) A 0 (dS0 T) (T 0 0) p
/-- whether a clue is true of a case -/
def dSh (T : tH) (A : Nat → Nat) (c k : Nat) : Bool := if T 13 k = 0 then decide (0 < yD T A c (T 14 k) (T 16 k) (T 15 k)) else decide (yS T A c (T 16 k) (T 14 k) = T 15 k) == decide (T 13 k = 1)
section shows
variable {M : goMI} {R : goMR} {T : tH} {t a b N : Nat} {A S op fe L : Nat → Nat}
theorem cG_ok (hT : tOk T) (hS : dSok T S) {h : Nat} : ∀ g, g ≤ T 0 5 → dSok T (cG T op fe L h S g)
  | 0, _ => hS
  | g + 1, hg => dNx_ok hT (cG_ok hT hS g (by omega)) hg
theorem cR_ok (hT : tOk T) (hS : dSok T S) {f : Nat} : ∀ d, dSok T (cR T op fe L f S d)
  | 0 => hS
  | d + 1 => cG_ok hT (cR_ok hT hS d) _ (Nat.le_refl _)
theorem cS_ok (hT : tOk T) (hS : dSok T S) {h g : Nat} (hg : g ≤ T 0 5) : dSok T (cS T op fe L S h g) := cG_ok hT (cR_ok hT hS h) g hg
theorem yS_lt (hT : tOk T) {c h g : Nat} (hg : g < T 0 5) : yS T A c h g < T 0 2 := dSp_lt hT (cS_ok hT (dS0_ok hT) (by omega)) hg
theorem yB_lt (hT : tOk T) {c h g : Nat} (hg : g < T 0 5) : yB T A c h g < 12 := dCo_lt hT hg
theorem yE_le (hT : tOk T) {c g k : Nat} (hg : g < T 0 5) : yE T A c g k ≤ 24 := by
  have hz := tO_sz hT
  have h1 : yE T A c g k ≤ T 0 0 * 2 := gSum_le (fun h _ => by
    have : dBc T (dOp T (A 24)) (dFr T c) A (dS0 T) h g < 12 := yB_lt hT hg
    have h2 : dBc T (dOp T (A 24)) (dFr T c) A (dS0 T) h g / 4 ≤ 2 := by omega
    show (if _ then _ else _) ≤ 2
    split
    · exact h2
    · exact Nat.zero_le _)
  omega
theorem yD_le (hT : tOk T) {c g k q : Nat} (hg : g < T 0 5) : yD T A c g k q ≤ 24 := by
  have hz := tO_sz hT
  have h1 : yD T A c g k q ≤ T 0 0 * 2 := gSum_le (fun h _ => by
    have : dBc T (dOp T (A 24)) (dFr T c) A (dS0 T) (h - 2) g < 12 := yB_lt hT hg
    have h2 : dBc T (dOp T (A 24)) (dFr T c) A (dS0 T) (h - 2) g / 4 ≤ 2 := by omega
    show (if _ then _ else _) ≤ 2
    split
    · exact h2
    · exact Nat.zero_le _)
  omega
theorem yF_le (hT : tOk T) {c g : Nat} : yF T A c g ≤ 12 := by
  have hz := tO_sz hT
  have h1 : yF T A c g ≤ T 0 0 * 1 := gSum_le (fun h _ => by
    show dFl _ _ _ _ _ _ _ ≤ 1
    unfold dFl
    split <;> omega)
  omega
theorem gSum_shift {f : Nat → Nat} (h0 : f 0 = 0) (h1 : f 1 = 0) : ∀ n, gSum f (n + 2) = gSum (fun i => f (i + 2)) n
  | 0 => by simp [gSum, h0, h1]
  | n + 1 => by
    show gSum f (n + 2) + f (n + 2) = gSum (fun i => f (i + 2)) n + f (n + 2)
    rw [gSum_shift h0 h1 n]
theorem mAteOf (hR : R 102 3 = some b) (hM : tM M b T) (hT : tOk T) (hN : 5000 ≤ N) {c g k : Nat} (hd : mdIs M T A c) (hg : g < T 0 5) (hk : k < 4) : fX14_ateOf N M R (nI g) (nI k) = some (nI (yE T A c g k)) := by
  have hz := tO_sz hT
  unfold fX14_ateOf
  have key := gUp (fun n i (s : Int32) => lX14_ateOf_5 (nI g) (nI k) M R n s (nI i)) (fun i => nI (dEt T (dOp T (A 24)) (dFr T c) A (dS0 T) g k i)) (T 0 0) (nI (yE T A c g k)) ?_ ?_ N 0 (Nat.zero_le _) (by omega)
  · have key' : lX14_ateOf_5 (nI g) (nI k) M R N 0 0 = _ := key
    rw [key', gBd]
  · intro n i hi
    show lX14_ateOf_5 (nI g) (nI k) M R (n + 1) _ (nI i) = lX14_ateOf_5 (nI g) (nI k) M R n _ _
    obtain ⟨_, d1, d2⟩ := hd.2.1 g i hg hi
    have hb : dBc T (dOp T (A 24)) (dFr T c) A (dS0 T) i g < 12 := yB_lt hT hg
    rw [lX14_ateOf_5, hR]
    have e1 : dEt T (dOp T (A 24)) (dFr T c) A (dS0 T) g k (i + 1) = dEt T (dOp T (A 24)) (dFr T c) A (dS0 T) g k i + (if dBc T (dOp T (A 24)) (dFr T c) A (dS0 T) i g % 4 = k then dBc T (dOp T (A 24)) (dFr T c) A (dS0 T) i g / 4 else 0) := rfl
    rw [e1]
    simp (disch := omega) only [hi, tM_0 hM, d1, ↓reduceIte, gL_0, gL_1, gL_2, gL_3, gL_4, gL_5, gL_6, gL_7, gL_8, gL_9, gL_10, gL_11, gL_12, gL_13, gL_14, gL_15, gL_16, gL_17, gL_18, gL_19, gL_20, gL_21, gL_22, gL_23, gL_24, gL_25, gL_26, gL_27, gL_31, gL_32, gL_40, gL_44, gL_48, gL_57, gL_59, gL_63, gL_72, gL_78, gL_81, gL_82, gL_96, gL_97, gL_99, gL_100, gL_122, gL_144, gL_192, gL_255, gL_270, gL_288, gL_1200, nI_add, pk_sub, pk_div, gMod, gM_2, gN_2, gM_3, gN_3, gM_4, gN_4, gM_8, gN_8, gM_10, gN_10, gM_12, gN_12, gM_14, gN_14, gM_16, gN_16, gM_18, gN_18, gM_26, gN_26, gM_32, gN_32, gM_72, gN_72, gM_100, gN_100, gBd, gNm, gB2, gB3, gB4, gRd, gWr, gI_bit, gI_bit14, gI_tn1n, gI_tn0n, Bool.toNat_true, Bool.toNat_false, Nat.one_ne_zero, Nat.zero_ne_one, eq_self, gIe00, gIe01, gIe10, gIe11, nI_eq, nI_leI, nI_ltI, gI_or, gI_xor, gI_shl1n, gI_shr31, gI_not1, gI_and15, gI_and1n]
    by_cases c0 : 0 < dBc T (dOp T (A 24)) (dFr T c) A (dS0 T) i g / 4
    · have d2' := d2 c0
      simp (disch := omega) only [c0, d2', ↓reduceIte, gL_0, gL_1, gL_2, gL_3, gL_4, gL_5, gL_6, gL_7, gL_8, gL_9, gL_10, gL_11, gL_12, gL_13, gL_14, gL_15, gL_16, gL_17, gL_18, gL_19, gL_20, gL_21, gL_22, gL_23, gL_24, gL_25, gL_26, gL_27, gL_31, gL_32, gL_40, gL_44, gL_48, gL_57, gL_59, gL_63, gL_72, gL_78, gL_81, gL_82, gL_96, gL_97, gL_99, gL_100, gL_122, gL_144, gL_192, gL_255, gL_270, gL_288, gL_1200, nI_add, pk_sub, pk_div, gMod, gM_2, gN_2, gM_3, gN_3, gM_4, gN_4, gM_8, gN_8, gM_10, gN_10, gM_12, gN_12, gM_14, gN_14, gM_16, gN_16, gM_18, gN_18, gM_26, gN_26, gM_32, gN_32, gM_72, gN_72, gM_100, gN_100, gBd, gNm, gB2, gB3, gB4, gRd, gWr, gI_bit, gI_bit14, gI_tn1n, gI_tn0n, Bool.toNat_true, Bool.toNat_false, Nat.one_ne_zero, Nat.zero_ne_one, eq_self, gIe00, gIe01, gIe10, gIe11, nI_eq, nI_leI, nI_ltI, gI_or, gI_xor, gI_shl1n, gI_shr31, gI_not1, gI_and15, gI_and1n]
      by_cases c1 : dBc T (dOp T (A 24)) (dFr T c) A (dS0 T) i g % 4 = k
      · simp only [c1, ↓reduceIte, gBd, nI_add]
      · simp only [c1, ↓reduceIte, gBd, nI_add, Nat.add_zero]
    · have c0' : dBc T (dOp T (A 24)) (dFr T c) A (dS0 T) i g / 4 = 0 := by omega
      simp only [c0, c0', ↓reduceIte, gBd, nI_add, ite_self]
  · intro n
    show lX14_ateOf_5 (nI g) (nI k) M R (n + 1) _ (nI (T 0 0)) = _
    rw [lX14_ateOf_5, hR]
    simp (disch := omega) only [tM_0 hM, Nat.lt_irrefl, ↓reduceIte, gL_0, gL_1, gL_2, gL_3, gL_4, gL_5, gL_6, gL_7, gL_8, gL_9, gL_10, gL_11, gL_12, gL_13, gL_14, gL_15, gL_16, gL_17, gL_18, gL_19, gL_20, gL_21, gL_22, gL_23, gL_24, gL_25, gL_26, gL_27, gL_31, gL_32, gL_40, gL_44, gL_48, gL_57, gL_59, gL_63, gL_72, gL_78, gL_81, gL_82, gL_96, gL_97, gL_99, gL_100, gL_122, gL_144, gL_192, gL_255, gL_270, gL_288, gL_1200, nI_add, pk_sub, pk_div, gMod, gM_2, gN_2, gM_3, gN_3, gM_4, gN_4, gM_8, gN_8, gM_10, gN_10, gM_12, gN_12, gM_14, gN_14, gM_16, gN_16, gM_18, gN_18, gM_26, gN_26, gM_32, gN_32, gM_72, gN_72, gM_100, gN_100, gBd, gNm, gB2, gB3, gB4, gRd, gWr, gI_bit, gI_bit14, gI_tn1n, gI_tn0n, Bool.toNat_true, Bool.toNat_false, Nat.one_ne_zero, Nat.zero_ne_one, eq_self, gIe00, gIe01, gIe10, gIe11, nI_eq, nI_leI, nI_ltI, gI_or, gI_xor, gI_shl1n, gI_shr31, gI_not1, gI_and15, gI_and1n]
    rfl
theorem mDropped (hR : R 102 3 = some b) (hM : tM M b T) (hT : tOk T) (hN : 5000 ≤ N) {c g k q : Nat} (hd : mdIs M T A c) (hg : g < T 0 5) (hk : k < 4) (hq : q < 8) : fX14_dropped N M R (nI g) (nI k) (nI q) = some (nI (yD T A c g k q)) := by
  have hz := tO_sz hT
  unfold fX14_dropped
  have key := gUp (fun n i (s : Int32) => lX14_dropped_6 (nI g) (nI k) (nI q) M R n s (nI i)) (fun i => nI (gSum (fun h => if dBc T (dOp T (A 24)) (dFr T c) A (dS0 T) h g % 4 = k ∧ dSp T (dOp T (A 24)) (dFr T c) A (dS0 T) (h + 2) g = q then dBc T (dOp T (A 24)) (dFr T c) A (dS0 T) h g / 4 else 0) i)) (T 0 0 - 2) (nI (yD T A c g k q)) ?_ ?_ N 0 (Nat.zero_le _) (by omega)
  · have key' : lX14_dropped_6 (nI g) (nI k) (nI q) M R N 0 0 = _ := key
    rw [key', gBd]
  · intro n i hi
    show lX14_dropped_6 (nI g) (nI k) (nI q) M R (n + 1) _ (nI i) = lX14_dropped_6 (nI g) (nI k) (nI q) M R n _ _
    obtain ⟨_, d1, d2⟩ := hd.2.1 g i hg (by show i < T 0 0; omega)
    have d3 := (hd.2.1 g (i + 2) hg (by show i + 2 < T 0 0; omega)).1
    have hb : dBc T (dOp T (A 24)) (dFr T c) A (dS0 T) i g < 12 := yB_lt hT hg
    have hsp : dSp T (dOp T (A 24)) (dFr T c) A (dS0 T) (i + 2) g < T 0 2 := yS_lt hT hg
    rw [lX14_dropped_6, hR]
    conv => rhs; unfold gSum
    have hi2 : i + 2 < T 0 0 := by omega
    simp (disch := omega) only [hi2, tM_0 hM, d1, ↓reduceIte, gL_0, gL_1, gL_2, gL_3, gL_4, gL_5, gL_6, gL_7, gL_8, gL_9, gL_10, gL_11, gL_12, gL_13, gL_14, gL_15, gL_16, gL_17, gL_18, gL_19, gL_20, gL_21, gL_22, gL_23, gL_24, gL_25, gL_26, gL_27, gL_31, gL_32, gL_40, gL_44, gL_48, gL_57, gL_59, gL_63, gL_72, gL_78, gL_81, gL_82, gL_96, gL_97, gL_99, gL_100, gL_122, gL_144, gL_192, gL_255, gL_270, gL_288, gL_1200, nI_add, pk_sub, pk_div, gMod, gM_2, gN_2, gM_3, gN_3, gM_4, gN_4, gM_8, gN_8, gM_10, gN_10, gM_12, gN_12, gM_14, gN_14, gM_16, gN_16, gM_18, gN_18, gM_26, gN_26, gM_32, gN_32, gM_72, gN_72, gM_100, gN_100, gBd, gNm, gB2, gB3, gB4, gRd, gWr, gI_bit, gI_bit14, gI_tn1n, gI_tn0n, Bool.toNat_true, Bool.toNat_false, Nat.one_ne_zero, Nat.zero_ne_one, eq_self, gIe00, gIe01, gIe10, gIe11, nI_eq, nI_leI, nI_ltI, gI_or, gI_xor, gI_shl1n, gI_shr31, gI_not1, gI_and15, gI_and1n]
    by_cases c0 : 0 < dBc T (dOp T (A 24)) (dFr T c) A (dS0 T) i g / 4
    · have d2' := d2 c0
      simp (disch := omega) only [c0, d2', ↓reduceIte, gL_0, gL_1, gL_2, gL_3, gL_4, gL_5, gL_6, gL_7, gL_8, gL_9, gL_10, gL_11, gL_12, gL_13, gL_14, gL_15, gL_16, gL_17, gL_18, gL_19, gL_20, gL_21, gL_22, gL_23, gL_24, gL_25, gL_26, gL_27, gL_31, gL_32, gL_40, gL_44, gL_48, gL_57, gL_59, gL_63, gL_72, gL_78, gL_81, gL_82, gL_96, gL_97, gL_99, gL_100, gL_122, gL_144, gL_192, gL_255, gL_270, gL_288, gL_1200, nI_add, pk_sub, pk_div, gMod, gM_2, gN_2, gM_3, gN_3, gM_4, gN_4, gM_8, gN_8, gM_10, gN_10, gM_12, gN_12, gM_14, gN_14, gM_16, gN_16, gM_18, gN_18, gM_26, gN_26, gM_32, gN_32, gM_72, gN_72, gM_100, gN_100, gBd, gNm, gB2, gB3, gB4, gRd, gWr, gI_bit, gI_bit14, gI_tn1n, gI_tn0n, Bool.toNat_true, Bool.toNat_false, Nat.one_ne_zero, Nat.zero_ne_one, eq_self, gIe00, gIe01, gIe10, gIe11, nI_eq, nI_leI, nI_ltI, gI_or, gI_xor, gI_shl1n, gI_shr31, gI_not1, gI_and15, gI_and1n]
      by_cases c1 : dBc T (dOp T (A 24)) (dFr T c) A (dS0 T) i g % 4 = k
      · rw [if_pos c1, show 12 * g + i + 2 = 12 * g + (i + 2) by omega, d3]
        simp (disch := omega) only [nI_eq]
        by_cases c2 : dSp T (dOp T (A 24)) (dFr T c) A (dS0 T) (i + 2) g = q
        · simp only [c1, c2, and_self, ↓reduceIte, gBd, nI_add]
        · simp only [c1, c2, and_false, ↓reduceIte, gBd, nI_add, Nat.add_zero]
      · simp only [c1, false_and, ↓reduceIte, gBd, nI_add, Nat.add_zero]
    · have c0' : dBc T (dOp T (A 24)) (dFr T c) A (dS0 T) i g / 4 = 0 := by omega
      simp only [c0, c0', ↓reduceIte, gBd, nI_add, ite_self]
  · intro n
    show lX14_dropped_6 (nI g) (nI k) (nI q) M R (n + 1) _ (nI (T 0 0 - 2)) = _
    have e0 : T 0 0 - 2 + 2 = T 0 0 := by omega
    rw [lX14_dropped_6, hR]
    simp (disch := omega) only [tM_0 hM, e0, Nat.lt_irrefl, ↓reduceIte, gL_0, gL_1, gL_2, gL_3, gL_4, gL_5, gL_6, gL_7, gL_8, gL_9, gL_10, gL_11, gL_12, gL_13, gL_14, gL_15, gL_16, gL_17, gL_18, gL_19, gL_20, gL_21, gL_22, gL_23, gL_24, gL_25, gL_26, gL_27, gL_31, gL_32, gL_40, gL_44, gL_48, gL_57, gL_59, gL_63, gL_72, gL_78, gL_81, gL_82, gL_96, gL_97, gL_99, gL_100, gL_122, gL_144, gL_192, gL_255, gL_270, gL_288, gL_1200, nI_add, pk_sub, pk_div, gMod, gM_2, gN_2, gM_3, gN_3, gM_4, gN_4, gM_8, gN_8, gM_10, gN_10, gM_12, gN_12, gM_14, gN_14, gM_16, gN_16, gM_18, gN_18, gM_26, gN_26, gM_32, gN_32, gM_72, gN_72, gM_100, gN_100, gBd, gNm, gB2, gB3, gB4, gRd, gWr, gI_bit, gI_bit14, gI_tn1n, gI_tn0n, Bool.toNat_true, Bool.toNat_false, Nat.one_ne_zero, Nat.zero_ne_one, eq_self, gIe00, gIe01, gIe10, gIe11, nI_eq, nI_leI, nI_ltI, gI_or, gI_xor, gI_shl1n, gI_shr31, gI_not1, gI_and15, gI_and1n]
    congr 2
    unfold yD dDr
    conv => rhs; rw [← e0]
    rw [gSum_shift (by simp) (by simp)]
    refine (gSum_eq (fun h _ => ?_)).symm
    show (if 2 ≤ h + 2 ∧ _ then _ else _) = _
    simp only [Nat.add_sub_cancel, Nat.le_add_left, true_and]
theorem cShows (hC : tC M t T) (hT : tOk T) (hR : goRr R a 1 = t) {c k : Nat} (hd : dayIs M a T A c) (hk : k < T 0 7) : fX3_shows M R a (nI k) = some (nI (dSh T A c k).toNat) := by
  have hz := tO_sz hT
  obtain ⟨c13, c14, c15, c16⟩ := tC_clues hC k hk
  obtain ⟨o13, o14, o15, o16a, o16b⟩ := tO_clue hT k hk
  unfold fX3_shows dSh
  simp (disch := omega) only [hR, c13, c14, c15, c16, ↓reduceIte, gL_0, gL_1, gL_2, gL_3, gL_4, gL_5, gL_6, gL_7, gL_8, gL_9, gL_10, gL_11, gL_12, gL_13, gL_14, gL_15, gL_16, gL_17, gL_18, gL_19, gL_20, gL_21, gL_22, gL_23, gL_24, gL_25, gL_26, gL_27, gL_31, gL_32, gL_40, gL_44, gL_48, gL_57, gL_59, gL_63, gL_72, gL_78, gL_81, gL_82, gL_96, gL_97, gL_99, gL_100, gL_122, gL_144, gL_192, gL_255, gL_270, gL_288, gL_1200, nI_add, pk_sub, pk_div, gMod, gM_2, gN_2, gM_3, gN_3, gM_4, gN_4, gM_8, gN_8, gM_10, gN_10, gM_12, gN_12, gM_14, gN_14, gM_16, gN_16, gM_18, gN_18, gM_26, gN_26, gM_32, gN_32, gM_72, gN_72, gM_100, gN_100, gBd, gNm, gB2, gB3, gB4, gRd, gWr, gI_bit, gI_bit14, gI_tn1n, gI_tn0n, Bool.toNat_true, Bool.toNat_false, Nat.one_ne_zero, Nat.zero_ne_one, eq_self, gIe00, gIe01, gIe10, gIe11, nI_eq, nI_leI, nI_ltI, gI_or, gI_xor, gI_shl1n, gI_shr31, gI_not1, gI_and15, gI_and1n]
  by_cases c0 : T 13 k = 0
  · have o16 := o16a c0
    have e1 := hd.2.2.2.1 (T 14 k) (T 16 k) (T 15 k) o14 (by omega) (by omega)
    have e1' : M (a + 8) (8 * (4 * T 14 k + T 16 k) + T 15 k) = nI (yD T A c (T 14 k) (T 16 k) (T 15 k)) := e1
    have b1 := yD_le (A := A) (c := c) (g := T 14 k) (k := T 16 k) (q := T 15 k) hT o14
    simp (disch := omega) only [c0, e1', ↓reduceIte, gL_0, gL_1, gL_2, gL_3, gL_4, gL_5, gL_6, gL_7, gL_8, gL_9, gL_10, gL_11, gL_12, gL_13, gL_14, gL_15, gL_16, gL_17, gL_18, gL_19, gL_20, gL_21, gL_22, gL_23, gL_24, gL_25, gL_26, gL_27, gL_31, gL_32, gL_40, gL_44, gL_48, gL_57, gL_59, gL_63, gL_72, gL_78, gL_81, gL_82, gL_96, gL_97, gL_99, gL_100, gL_122, gL_144, gL_192, gL_255, gL_270, gL_288, gL_1200, nI_add, pk_sub, pk_div, gMod, gM_2, gN_2, gM_3, gN_3, gM_4, gN_4, gM_8, gN_8, gM_10, gN_10, gM_12, gN_12, gM_14, gN_14, gM_16, gN_16, gM_18, gN_18, gM_26, gN_26, gM_32, gN_32, gM_72, gN_72, gM_100, gN_100, gBd, gNm, gB2, gB3, gB4, gRd, gWr, gI_bit, gI_bit14, gI_tn1n, gI_tn0n, Bool.toNat_true, Bool.toNat_false, Nat.one_ne_zero, Nat.zero_ne_one, eq_self, gIe00, gIe01, gIe10, gIe11, nI_eq, nI_leI, nI_ltI, gI_or, gI_xor, gI_shl1n, gI_shr31, gI_not1, gI_and15, gI_and1n]
    by_cases c1 : 0 < yD T A c (T 14 k) (T 16 k) (T 15 k)
    · simp only [c1, ↓reduceIte, decide_true]; rfl
    · simp only [c1, ↓reduceIte, decide_false]; rfl
  · have o16 := o16b c0
    have e1 : M (a + 5) (12 * T 14 k + T 16 k) = nI (yS T A c (T 16 k) (T 14 k)) := (hd.2.1 (T 14 k) (T 16 k) o14 o16).1
    have b1 := yS_lt (A := A) (c := c) (h := T 16 k) (g := T 14 k) hT o14
    simp (disch := omega) only [c0, e1, ↓reduceIte, gL_0, gL_1, gL_2, gL_3, gL_4, gL_5, gL_6, gL_7, gL_8, gL_9, gL_10, gL_11, gL_12, gL_13, gL_14, gL_15, gL_16, gL_17, gL_18, gL_19, gL_20, gL_21, gL_22, gL_23, gL_24, gL_25, gL_26, gL_27, gL_31, gL_32, gL_40, gL_44, gL_48, gL_57, gL_59, gL_63, gL_72, gL_78, gL_81, gL_82, gL_96, gL_97, gL_99, gL_100, gL_122, gL_144, gL_192, gL_255, gL_270, gL_288, gL_1200, nI_add, pk_sub, pk_div, gMod, gM_2, gN_2, gM_3, gN_3, gM_4, gN_4, gM_8, gN_8, gM_10, gN_10, gM_12, gN_12, gM_14, gN_14, gM_16, gN_16, gM_18, gN_18, gM_26, gN_26, gM_32, gN_32, gM_72, gN_72, gM_100, gN_100, gBd, gNm, gB2, gB3, gB4, gRd, gWr, gI_bit, gI_bit14, gI_tn1n, gI_tn0n, Bool.toNat_true, Bool.toNat_false, Nat.one_ne_zero, Nat.zero_ne_one, eq_self, gIe00, gIe01, gIe10, gIe11, nI_eq, nI_leI, nI_ltI, gI_or, gI_xor, gI_shl1n, gI_shr31, gI_not1, gI_and15, gI_and1n]
    by_cases c1 : yS T A c (T 16 k) (T 14 k) = T 15 k <;> by_cases c2 : T 13 k = 1 <;> simp only [c1, c2, ↓reduceIte, decide_true, decide_false, BEq.rfl] <;> rfl
theorem mHolds (hR : R 102 3 = some b) (hM : tM M b T) (hT : tOk T) (hN : 5000 ≤ N) {c k : Nat} (hd : mdIs M T A c) (hk : k < T 0 7) : fX14_holdsNow N M R (nI k) = some (nI (dSh T A c k).toNat) := by
  have hz := tO_sz hT
  obtain ⟨o13, o14, o15, o16a, o16b⟩ := tO_clue hT k hk
  unfold fX14_holdsNow dSh
  rw [hR]
  simp (disch := omega) only [tM_13 hM, tM_14 hM, tM_15 hM, tM_16 hM, ↓reduceIte, gL_0, gL_1, gL_2, gL_3, gL_4, gL_5, gL_6, gL_7, gL_8, gL_9, gL_10, gL_11, gL_12, gL_13, gL_14, gL_15, gL_16, gL_17, gL_18, gL_19, gL_20, gL_21, gL_22, gL_23, gL_24, gL_25, gL_26, gL_27, gL_31, gL_32, gL_40, gL_44, gL_48, gL_57, gL_59, gL_63, gL_72, gL_78, gL_81, gL_82, gL_96, gL_97, gL_99, gL_100, gL_122, gL_144, gL_192, gL_255, gL_270, gL_288, gL_1200, nI_add, pk_sub, pk_div, gMod, gM_2, gN_2, gM_3, gN_3, gM_4, gN_4, gM_8, gN_8, gM_10, gN_10, gM_12, gN_12, gM_14, gN_14, gM_16, gN_16, gM_18, gN_18, gM_26, gN_26, gM_32, gN_32, gM_72, gN_72, gM_100, gN_100, gBd, gNm, gB2, gB3, gB4, gRd, gWr, gI_bit, gI_bit14, gI_tn1n, gI_tn0n, Bool.toNat_true, Bool.toNat_false, Nat.one_ne_zero, Nat.zero_ne_one, eq_self, gIe00, gIe01, gIe10, gIe11, nI_eq, nI_leI, nI_ltI, gI_or, gI_xor, gI_shl1n, gI_shr31, gI_not1, gI_and15, gI_and1n]
  by_cases c0 : T 13 k = 0
  · have o16 := o16a c0
    have e1 := mDropped hR hM hT hN hd o14 (show T 16 k < 4 by omega) (show T 15 k < 8 by omega)
    have b1 := yD_le (A := A) (c := c) (g := T 14 k) (k := T 16 k) (q := T 15 k) hT o14
    simp (disch := omega) only [c0, e1, ↓reduceIte, gL_0, gL_1, gL_2, gL_3, gL_4, gL_5, gL_6, gL_7, gL_8, gL_9, gL_10, gL_11, gL_12, gL_13, gL_14, gL_15, gL_16, gL_17, gL_18, gL_19, gL_20, gL_21, gL_22, gL_23, gL_24, gL_25, gL_26, gL_27, gL_31, gL_32, gL_40, gL_44, gL_48, gL_57, gL_59, gL_63, gL_72, gL_78, gL_81, gL_82, gL_96, gL_97, gL_99, gL_100, gL_122, gL_144, gL_192, gL_255, gL_270, gL_288, gL_1200, nI_add, pk_sub, pk_div, gMod, gM_2, gN_2, gM_3, gN_3, gM_4, gN_4, gM_8, gN_8, gM_10, gN_10, gM_12, gN_12, gM_14, gN_14, gM_16, gN_16, gM_18, gN_18, gM_26, gN_26, gM_32, gN_32, gM_72, gN_72, gM_100, gN_100, gBd, gNm, gB2, gB3, gB4, gRd, gWr, gI_bit, gI_bit14, gI_tn1n, gI_tn0n, Bool.toNat_true, Bool.toNat_false, Nat.one_ne_zero, Nat.zero_ne_one, eq_self, gIe00, gIe01, gIe10, gIe11, nI_eq, nI_leI, nI_ltI, gI_or, gI_xor, gI_shl1n, gI_shr31, gI_not1, gI_and15, gI_and1n]
    by_cases c1 : 0 < yD T A c (T 14 k) (T 16 k) (T 15 k)
    · simp only [c1, ↓reduceIte, decide_true]; rfl
    · simp only [c1, ↓reduceIte, decide_false]; rfl
  · have o16 := o16b c0
    have e1 : M 108 (12 * T 14 k + T 16 k) = nI (yS T A c (T 16 k) (T 14 k)) := (hd.2.1 (T 14 k) (T 16 k) o14 o16).1
    have b1 := yS_lt (A := A) (c := c) (h := T 16 k) (g := T 14 k) hT o14
    simp (disch := omega) only [c0, e1, ↓reduceIte, gL_0, gL_1, gL_2, gL_3, gL_4, gL_5, gL_6, gL_7, gL_8, gL_9, gL_10, gL_11, gL_12, gL_13, gL_14, gL_15, gL_16, gL_17, gL_18, gL_19, gL_20, gL_21, gL_22, gL_23, gL_24, gL_25, gL_26, gL_27, gL_31, gL_32, gL_40, gL_44, gL_48, gL_57, gL_59, gL_63, gL_72, gL_78, gL_81, gL_82, gL_96, gL_97, gL_99, gL_100, gL_122, gL_144, gL_192, gL_255, gL_270, gL_288, gL_1200, nI_add, pk_sub, pk_div, gMod, gM_2, gN_2, gM_3, gN_3, gM_4, gN_4, gM_8, gN_8, gM_10, gN_10, gM_12, gN_12, gM_14, gN_14, gM_16, gN_16, gM_18, gN_18, gM_26, gN_26, gM_32, gN_32, gM_72, gN_72, gM_100, gN_100, gBd, gNm, gB2, gB3, gB4, gRd, gWr, gI_bit, gI_bit14, gI_tn1n, gI_tn0n, Bool.toNat_true, Bool.toNat_false, Nat.one_ne_zero, Nat.zero_ne_one, eq_self, gIe00, gIe01, gIe10, gIe11, nI_eq, nI_leI, nI_ltI, gI_or, gI_xor, gI_shl1n, gI_shr31, gI_not1, gI_and15, gI_and1n]
    by_cases c1 : yS T A c (T 16 k) (T 14 k) = T 15 k <;> by_cases c2 : T 13 k = 1 <;> simp only [c1, c2, ↓reduceIte, decide_true, decide_false, BEq.rfl] <;> rfl
end shows
