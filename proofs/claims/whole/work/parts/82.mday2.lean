/-! THE MODEL'S DAY, as it is told -/
section mDay2
variable {M M' : goMI} {R : goMR} {T : tH} {b N : Nat} {A B S op fe L : Nat → Nat}
def mJ (M : goMI) (T : tH) (op fe L S : Nat → Nat) (f : Nat → Nat) : Prop :=
  (∀ g h, g < T 0 5 → h < f g → M 108 (12 * g + h) = nI (dSp T op fe L S h g) ∧ M 110 (12 * g + h) = nI (dBc T op fe L S h g / 4) ∧ (0 < dBc T op fe L S h g / 4 → M 109 (12 * g + h) = nI (dBc T op fe L S h g % 4))) ∧
  (∀ g h, g < T 0 5 → f g ≤ h → h < 12 → M 110 (12 * g + h) = nI 0) ∧
  ∀ g, g < T 0 5 → M 112 g = nI (dFs T op fe L S g (f g))
/-- the state of a day in the model -/
def mSt (M : goMI) (T : tH) (S : Nat → Nat) : Prop := (∀ p k, p < 8 → k < 4 → M 111 (4 * p + k) = nI (dNib (S p) k)) ∧ (∀ g, g < T 0 5 → M 113 g = nI (S (8 + g))) ∧ dSok T S
theorem mJ_step {g h : Nat} (hT : tOk T) (hg : g < T 0 5) (hh : h < 12) (hS : dSok T (cS T op fe L S h g)) (hJ : mJ M T op fe L S (fun g' => if g' < g then h + 1 else h)) (hQ : mQ M M' T op (fe (12 * g + h)) (L h) (L (12 + h)) (cS T op fe L S h g) g h) : mJ (goWI M' 108 (12 * g + h) (nI (dSp T op fe L S h g))) T op fe L S (fun g' => if g' < g + 1 then h + 1 else h) := by
  have hz := tO_sz hT
  obtain ⟨j1, j2, j3⟩ := hJ
  obtain ⟨q1, q113, q111, q112, q109, q110⟩ := hQ
  have hfg : (if g < g then h + 1 else h) = h := if_neg (Nat.lt_irrefl _)
  have hfg' : (if g < g + 1 then h + 1 else h) = h + 1 := if_pos (Nat.lt_succ_self _)
  have hne : ∀ g', g' ≠ g → (if g' < g + 1 then h + 1 else h) = (if g' < g then h + 1 else h) := fun g' hn => by
    by_cases c : g' < g
    · rw [if_pos c, if_pos (by omega)]
    · rw [if_neg c, if_neg (by omega)]
  have hbc : dCo T op (fe (12 * g + h)) (L h) (L (12 + h)) (cS T op fe L S h g) g = dBc T op fe L S h g := rfl
  refine ⟨fun g' h' hg' hh' => ?_, fun g' h' hg' hf hh' => ?_, fun g' hg' => ?_⟩
  · by_cases c : g' = g ∧ h' = h
    · rw [c.1, c.2, gWI_self, if_pos rfl, gWI_na (by decide), gWI_na (by decide), q110, q109]
      refine ⟨rfl, ?_⟩
      cases he : dEa T op (fe (12 * g + h)) (L h) (L (12 + h)) (cS T op fe L S h g) g
      · have h0 : dBc T op fe L S h g = 0 := by rw [← hbc]; unfold dCo; rw [he]; rfl
        rw [h0]
        refine ⟨?_, fun h => absurd h (by decide)⟩
        rw [Bool.false_and, if_neg Bool.false_ne_true]
        exact j2 g h hg (by show (if g < g then h + 1 else h) ≤ h; rw [hfg]; exact Nat.le_refl _) hh
      · obtain ⟨p1, p2⟩ := dCo_parts hT hg he
        rw [hbc] at p1 p2
        rw [p1, p2, decide_eq_true rfl]
        exact ⟨rfl, fun _ => rfl⟩
    · have hh1 : h' < h + 1 := by
        have : (if g' < g + 1 then h + 1 else h) ≤ h + 1 := by split <;> omega
        exact Nat.lt_of_lt_of_le hh' this
      have hlt : h' < (if g' < g then h + 1 else h) := by
        by_cases c2 : g' = g
        · rw [c2, hfg]; omega
        · rw [← hne g' c2]; exact hh'
      have hd : ¬ 12 * g' + h' = 12 * g + h := by omega
      have hd' : ∀ x : Bool, (x && decide (12 * g' + h' = 12 * g + h)) = false := fun x => by rw [decide_eq_false hd, Bool.and_false]
      rw [gWI_nk hd, gWI_na (by decide), gWI_na (by decide), q110, q109, hd', if_neg Bool.false_ne_true, if_neg Bool.false_ne_true, q1 108 (by decide)]
      exact j1 g' h' hg' hlt
  · have hd : ¬ 12 * g' + h' = 12 * g + h := by
      intro e
      have e1 : g' = g := by omega
      have e2 : h' = h := by omega
      have hf' : (if g' < g + 1 then h + 1 else h) ≤ h' := hf
      rw [e1, hfg'] at hf'
      omega
    rw [gWI_na (by decide), q110, decide_eq_false hd, Bool.and_false, if_neg Bool.false_ne_true]
    refine j2 g' h' hg' ?_ hh'
    show (if g' < g then h + 1 else h) ≤ h'
    have hf' : (if g' < g + 1 then h + 1 else h) ≤ h' := hf
    by_cases c2 : g' = g
    · rw [c2, hfg'] at hf'; rw [c2, hfg]; omega
    · rw [← hne g' c2]; exact hf'
  · rw [gWI_na (by decide), q112]
    by_cases c : g' = g
    · rw [c, if_pos rfl]
      show _ = nI (dFs T op fe L S g (if g < g + 1 then h + 1 else h))
      rw [hfg']
      have e0 : M 112 g = nI (dFs T op fe L S g (if g < g then h + 1 else h)) := j3 g hg
      rw [hfg] at e0
      rw [e0, nI_add]
      rfl
    · rw [if_neg c, j3 g' hg']
      show nI (dFs T op fe L S g' (if g' < g then h + 1 else h)) = nI (dFs T op fe L S g' (if g' < g + 1 then h + 1 else h))
      rw [hne g' c]
theorem dNib_tG {p k : Nat} (hT : tOk T) (hp : p < 8) (hk : k < 4) : dNib (tG T p) k = T 1 (4 * p + k) := by
  have ha := tO_amount hT
  have h0 := ha (4 * p) (by omega)
  have h1 := ha (4 * p + 1) (by omega)
  have h2 := ha (4 * p + 2) (by omega)
  have h3 := ha (4 * p + 3) (by omega)
  unfold dNib tG
  have hk4 : k = 0 ∨ k = 1 ∨ k = 2 ∨ k = 3 := by omega
  rcases hk4 with e | e | e | e <;> subst e <;> simp <;> omega
/-- the day of a case lies in the model -/
def mdIs (M : goMI) (T : tH) (A : Nat → Nat) (c : Nat) : Prop :=
  (∀ p k, p < 8 → k < 4 → M 111 (4 * p + k) = nI (dNib (cR T (dOp T (A 24)) (dFr T c) A 0 (dS0 T) (T 0 0) p) k)) ∧ mJ M T (dOp T (A 24)) (dFr T c) A (dS0 T) (fun _ => T 0 0)
theorem mDayG (hR : R 102 3 = some b) (hb : 121 ≤ b) (hM : tM M b T) (hT : tOk T) (hN : 5000 ≤ N) (hv : ∀ i, i < 18 → M 105 i = nI (B i)) (hAB : aB A B) {c h : Nat} (hc : c < 2 ^ 31) (hh : h < T 0 0)
    (hst : mSt M T (cR T (dOp T (A 24)) (dFr T c) A 0 (dS0 T) h)) (hJ : mJ M T (dOp T (A 24)) (dFr T c) A (dS0 T) (fun g' => if g' < 0 then h + 1 else h)) :
    ∃ M', lX14_day_106 N (nI c) (nI h) R N (nI 0) M = some M' ∧ (∀ b, b < 108 ∨ 113 < b → M' b = M b) ∧ mSt M' T (cR T (dOp T (A 24)) (dFr T c) A 0 (dS0 T) (h + 1)) ∧ mJ M' T (dOp T (A 24)) (dFr T c) A (dS0 T) (fun g' => if g' < T 0 5 then h + 1 else h) := by
  have hz := tO_sz hT
  have key := gFor (fun n i M' => lX14_day_106 N (nI c) (nI h) R n (nI i) M') (fun g M' => (∀ b, b < 108 ∨ 113 < b → M' b = M b) ∧ mSt M' T (cS T (dOp T (A 24)) (dFr T c) A (dS0 T) h g) ∧ mJ M' T (dOp T (A 24)) (dFr T c) A (dS0 T) (fun g' => if g' < g then h + 1 else h)) (fun M' => (∀ b, b < 108 ∨ 113 < b → M' b = M b) ∧ mSt M' T (cS T (dOp T (A 24)) (dFr T c) A (dS0 T) h (T 0 5)) ∧ mJ M' T (dOp T (A 24)) (dFr T c) A (dS0 T) (fun g' => if g' < T 0 5 then h + 1 else h)) (T 0 5) ?_ ?_ N 0 M (Nat.zero_le _) ⟨fun _ _ => rfl, hst, hJ⟩ (by omega)
  · obtain ⟨M', k1, k2, k3, k4⟩ := key
    refine ⟨M', k1, k2, ?_, k4⟩
    have : cR T (dOp T (A 24)) (dFr T c) A 0 (dS0 T) (h + 1) = cS T (dOp T (A 24)) (dFr T c) A (dS0 T) h (T 0 5) := by
      show cG T (dOp T (A 24)) (dFr T c) A (0 + h) _ _ = _
      rw [Nat.zero_add]
      rfl
    rw [this]
    exact k3
  · intro n g M1 hg hP
    obtain ⟨fr, hs, hj⟩ := hP
    have hM1 : tM M1 b T := tM_fr hM (fun r hr => fr _ (by omega))
    have hv1 : ∀ i, i < 18 → M1 105 i = nI (B i) := fun i hi => by rw [fr _ (by decide)]; exact hv i hi
    obtain ⟨M2, e2, hQ⟩ := mGoes hR hM1 hT hN hv1 hAB hs.1 hs.2.1 hs.2.2 hc hg hh
    have hto : M2 113 g = nI (dSp T (dOp T (A 24)) (dFr T c) A (dS0 T) h g) := by rw [hQ.2.1, if_pos rfl]; rfl
    refine ⟨goWI M2 108 (12 * g + h) (nI (dSp T (dOp T (A 24)) (dFr T c) A (dS0 T) h g)), ?_, fun b hb => ?_, ⟨fun p k hp hk => ?_, fun g' hg' => ?_, ?_⟩, mJ_step hT hg (by omega) hs.2.2 hj hQ⟩
    · show lX14_day_106 _ _ _ _ _ _ _ = lX14_day_106 _ _ _ _ _ _ _
      rw [lX14_day_106, hR, gBd, tM_0 hM1 (by decide), if_pos (nI_lt hg (by omega)), e2, gBd, gRd (by omega), gBd, hto, gL_12, gN_12, nI_add, gWr (by omega), gBd, nI_1]
    · rw [goWI_ne (by omega), hQ.1 b (by omega)]
      exact fr b hb
    · rw [gWI_na (by decide)]
      exact hQ.2.2.1 p k hp hk
    · rw [gWI_na (by decide), hQ.2.1]
      show _ = nI (dNx T (dOp T (A 24)) (dFr T c (12 * g + h)) (A h) (A (12 + h)) (cS T (dOp T (A 24)) (dFr T c) A (dS0 T) h g) g (8 + g'))
      unfold dNx
      by_cases cg : g' = g
      · rw [if_pos cg, if_pos (by omega)]
      · have := hs.2.2.2.2 g hg
        rw [if_neg cg, if_neg (by omega), hs.2.1 g' hg', decide_eq_false (by omega), Bool.and_false, if_neg Bool.false_ne_true]
    · exact dNx_ok hT hs.2.2 hg
  · intro n M1 hP
    refine ⟨M1, ?_, hP⟩
    have hM1 : tM M1 b T := tM_fr hM (fun r hr => hP.1 _ (by omega))
    show lX14_day_106 _ _ _ _ _ _ _ = _
    rw [lX14_day_106, hR, gBd, tM_0 hM1 (by decide), if_neg (nI_nlt (Nat.le_refl _) (by omega))]
theorem mDayRun (hR : R 102 3 = some b) (hb : 121 ≤ b) (hM : tM M b T) (hT : tOk T) (hN : 5000 ≤ N) (hv : ∀ i, i < 18 → M 105 i = nI (B i)) (hAB : aB A B) {c : Nat} (hc : c < 2 ^ 31) :
    ∃ M', fX14_day N M R (nI c) = some M' ∧ (∀ b, b < 108 ∨ 113 < b → M' b = M b) ∧ mdIs M' T A c := by
  have hz := tO_sz hT
  unfold fX14_day
  have k1 : ∃ M1, lX14_day_2 R N (nI 0) M = some M1 ∧ (∀ b, b ≠ 111 → M1 b = M b) ∧ ∀ j, j < 32 → M1 111 j = nI (T 1 j) := by
    refine gFor (fun n i M' => lX14_day_2 R n (nI i) M') (fun i M' => (∀ b, b ≠ 111 → M' b = M b) ∧ ∀ j, j < i → M' 111 j = nI (T 1 j)) _ 32 ?_ ?_ N 0 M (Nat.zero_le _) ⟨fun _ _ => rfl, fun j hj => absurd hj (Nat.not_lt_zero _)⟩ (by omega)
    · intro n i M1 hi hP
      have hM1 : tM M1 b T := tM_fr hM (fun r hr => hP.1 _ (by omega))
      refine ⟨goWI M1 111 i (nI (T 1 i)), ?_, fun b hb => by rw [goWI_ne hb]; exact hP.1 b hb, fun j hj => ?_⟩
      · show lX14_day_2 _ _ _ _ = lX14_day_2 _ _ _ _
        rw [lX14_day_2, hR]
        simp (disch := omega) only [hi, tM_1 hM1, ↓reduceIte, gL_0, gL_1, gL_2, gL_3, gL_4, gL_5, gL_6, gL_7, gL_8, gL_9, gL_10, gL_11, gL_12, gL_13, gL_14, gL_15, gL_16, gL_17, gL_18, gL_19, gL_20, gL_21, gL_22, gL_23, gL_24, gL_25, gL_26, gL_27, gL_31, gL_32, gL_40, gL_44, gL_48, gL_57, gL_59, gL_63, gL_72, gL_78, gL_81, gL_82, gL_96, gL_97, gL_99, gL_100, gL_122, gL_144, gL_192, gL_255, gL_270, gL_288, gL_1200, nI_add, pk_sub, pk_div, gMod, gM_2, gN_2, gM_3, gN_3, gM_4, gN_4, gM_8, gN_8, gM_10, gN_10, gM_12, gN_12, gM_14, gN_14, gM_16, gN_16, gM_18, gN_18, gM_26, gN_26, gM_32, gN_32, gM_72, gN_72, gM_100, gN_100, gBd, gNm, gB2, gB3, gB4, gRd, gWr, gI_bit, gI_bit14, gI_tn1n, gI_tn0n, Bool.toNat_true, Bool.toNat_false, Nat.one_ne_zero, Nat.zero_ne_one, eq_self, gIe00, gIe01, gIe10, gIe11, nI_eq, nI_leI, nI_ltI, gI_or, gI_xor, gI_shl1n, gI_shr31, gI_not1, gI_and15, gI_and1n]
      · rw [gWI_self]
        split
        · rename_i e; rw [e]
        · exact hP.2 j (by omega)
    · intro n M1 hP
      refine ⟨M1, ?_, hP⟩
      show lX14_day_2 _ _ _ _ = _
      rw [lX14_day_2, gL_32, if_neg (nI_nlt (Nat.le_refl _) (by decide) : ¬ nI 32 < nI 32)]
  obtain ⟨M1, e1, f1, g1⟩ := k1
  have e1' : lX14_day_2 R N 0 M = some M1 := e1
  rw [e1', gBd]
  have hM1 : tM M1 b T := tM_fr hM (fun r hr => f1 _ (by omega))
  have k2 : ∃ M2, lX14_day_31 N R N (nI 0) M1 = some M2 ∧ (∀ b, b ≠ 110 → b ≠ 112 → b ≠ 113 → M2 b = M1 b) ∧ (∀ g, g < 6 → M2 112 g = nI 0 ∧ M2 113 g = nI (T 10 g)) ∧ ∀ j, j < 72 → M2 110 j = nI 0 := by
    refine gFor (fun n i M' => lX14_day_31 N R n (nI i) M') (fun i M' => (∀ b, b ≠ 110 → b ≠ 112 → b ≠ 113 → M' b = M1 b) ∧ (∀ g, g < i → M' 112 g = nI 0 ∧ M' 113 g = nI (T 10 g)) ∧ ∀ j, j < 12 * i → M' 110 j = nI 0) _ 6 ?_ ?_ N 0 M1 (Nat.zero_le _) ⟨fun _ _ _ _ => rfl, fun g hg => absurd hg (Nat.not_lt_zero _), fun j hj => absurd hj (by omega)⟩ (by omega)
    · intro n g M2 hg hP
      have hM2 : tM M2 b T := tM_fr hM1 (fun r hr => hP.1 _ (by omega) (by omega) (by omega))
      have k3 : ∃ M3, lX14_day_61 (nI g) N (nI 0) (goWI (goWI M2 112 g (nI 0)) 113 g (nI (T 10 g))) = some M3 ∧ (∀ b, b ≠ 110 → M3 b = goWI (goWI M2 112 g (nI 0)) 113 g (nI (T 10 g)) b) ∧ ∀ j, j < 12 * g + 12 → M3 110 j = nI 0 := by
        refine gFor (fun n i M' => lX14_day_61 (nI g) n (nI i) M') (fun i M' => (∀ b, b ≠ 110 → M' b = goWI (goWI M2 112 g (nI 0)) 113 g (nI (T 10 g)) b) ∧ ∀ j, j < 12 * g + i → M' 110 j = nI 0) _ 12 ?_ ?_ N 0 _ (Nat.zero_le _) ⟨fun _ _ => rfl, fun j hj => by rw [gWI_na (by decide), gWI_na (by decide)]; exact hP.2.2 j (by omega)⟩ (by omega)
        · intro n i M3 hi hP3
          refine ⟨goWI M3 110 (12 * g + i) (nI 0), ?_, fun b hb => by rw [goWI_ne hb]; exact hP3.1 b hb, fun j hj => ?_⟩
          · show lX14_day_61 _ _ _ _ = lX14_day_61 _ _ _ _
            rw [lX14_day_61]
            simp (disch := omega) only [hi, ↓reduceIte, gL_0, gL_1, gL_2, gL_3, gL_4, gL_5, gL_6, gL_7, gL_8, gL_9, gL_10, gL_11, gL_12, gL_13, gL_14, gL_15, gL_16, gL_17, gL_18, gL_19, gL_20, gL_21, gL_22, gL_23, gL_24, gL_25, gL_26, gL_27, gL_31, gL_32, gL_40, gL_44, gL_48, gL_57, gL_59, gL_63, gL_72, gL_78, gL_81, gL_82, gL_96, gL_97, gL_99, gL_100, gL_122, gL_144, gL_192, gL_255, gL_270, gL_288, gL_1200, nI_add, pk_sub, pk_div, gMod, gM_2, gN_2, gM_3, gN_3, gM_4, gN_4, gM_8, gN_8, gM_10, gN_10, gM_12, gN_12, gM_14, gN_14, gM_16, gN_16, gM_18, gN_18, gM_26, gN_26, gM_32, gN_32, gM_72, gN_72, gM_100, gN_100, gBd, gNm, gB2, gB3, gB4, gRd, gWr, gI_bit, gI_bit14, gI_tn1n, gI_tn0n, Bool.toNat_true, Bool.toNat_false, Nat.one_ne_zero, Nat.zero_ne_one, eq_self, gIe00, gIe01, gIe10, gIe11, nI_eq, nI_leI, nI_ltI, gI_or, gI_xor, gI_shl1n, gI_shr31, gI_not1, gI_and15, gI_and1n]
          · rw [gWI_self]
            split
            · rfl
            · exact hP3.2 j (by omega)
        · intro n M3 hP3
          refine ⟨M3, ?_, hP3⟩
          show lX14_day_61 _ _ _ _ = _
          rw [lX14_day_61, gL_12, if_neg (nI_nlt (Nat.le_refl _) (by decide) : ¬ nI 12 < nI 12)]
      obtain ⟨M3, e3, f3, g3⟩ := k3
      refine ⟨M3, ?_, fun b h1 h2 h3 => by rw [f3 b h1, goWI_ne h3, goWI_ne h2]; exact hP.1 b h1 h2 h3, fun g' hg' => ?_, fun j hj => g3 j (by omega)⟩
      · have e3' : lX14_day_61 (nI g) N 0 (goWI (goWI M2 112 g (nI 0)) 113 g (nI (T 10 g))) = some M3 := e3
        show lX14_day_31 _ _ _ _ _ = lX14_day_31 _ _ _ _ _
        rw [lX14_day_31, hR]
        rw [gL_6, if_pos (nI_lt hg (by decide) : nI g < nI 6), gL_0, gWr (by omega), gBd, gBd, gRd (by omega), gBd, gWI_na (by omega), tM_10 hM2 hg, gWr (by omega), gBd, e3, gBd, nI_1]
      · rw [f3 112 (by decide), f3 113 (by decide), gWI_na (by decide), gWI_self, gWI_self]
        by_cases c : g' = g
        · rw [if_pos c, if_pos c, c]; exact ⟨rfl, rfl⟩
        · rw [if_neg c, if_neg c, gWI_na (by decide)]
          exact hP.2.1 g' (by omega)
    · intro n M2 hP
      refine ⟨M2, ?_, hP⟩
      show lX14_day_31 _ _ _ _ _ = _
      rw [lX14_day_31, gL_6, if_neg (nI_nlt (Nat.le_refl _) (by decide) : ¬ nI 6 < nI 6)]
  obtain ⟨M2, e2, f2, g2, g2'⟩ := k2
  have e2' : lX14_day_31 N R N 0 M1 = some M2 := e2
  rw [e2', gBd]
  have fr2 : ∀ b, b < 108 ∨ 113 < b → M2 b = M b := fun b hb => by rw [f2 b (by omega) (by omega) (by omega), f1 b (by omega)]
  have hM2 : tM M2 b T := tM_fr hM (fun r hr => fr2 _ (by omega))
  have k4 : ∃ M', lX14_day_93 N (nI c) R N (nI 0) M2 = some M' ∧ (∀ b, b < 108 ∨ 113 < b → M' b = M b) ∧ mSt M' T (cR T (dOp T (A 24)) (dFr T c) A 0 (dS0 T) (T 0 0)) ∧ mJ M' T (dOp T (A 24)) (dFr T c) A (dS0 T) (fun _ => T 0 0) := by
    refine gFor (fun n i M' => lX14_day_93 N (nI c) R n (nI i) M') (fun h M' => (∀ b, b < 108 ∨ 113 < b → M' b = M b) ∧ mSt M' T (cR T (dOp T (A 24)) (dFr T c) A 0 (dS0 T) h) ∧ mJ M' T (dOp T (A 24)) (dFr T c) A (dS0 T) (fun _ => h)) _ (T 0 0) ?_ ?_ N 0 M2 (Nat.zero_le _) ⟨fr2, ⟨?_, ?_, dS0_ok hT⟩, ?_, ?_, ?_⟩ (by omega)
    · intro n h M3 hh hP
      obtain ⟨fr, hs, hj⟩ := hP
      have hM3 : tM M3 b T := tM_fr hM (fun r hr => fr _ (by omega))
      have hv3 : ∀ i, i < 18 → M3 105 i = nI (B i) := fun i hi => by rw [fr _ (by decide)]; exact hv i hi
      obtain ⟨M4, e4, f4, s4, j4⟩ := mDayG hR hb hM3 hT hN hv3 hAB hc hh hs (by
        have : (fun g' : Nat => if g' < 0 then h + 1 else h) = fun _ => h := by funext g'; exact if_neg (Nat.not_lt_zero _)
        rw [this]
        exact hj)
      refine ⟨M4, ?_, fun b hb => by rw [f4 b hb]; exact fr b hb, s4, ?_⟩
      · show lX14_day_93 _ _ _ _ _ _ = lX14_day_93 _ _ _ _ _ _
        rw [lX14_day_93, hR, gBd, tM_0 hM3 (by decide), if_pos (nI_lt hh (by omega)), gL_0, e4, gBd, nI_1]
      · refine ⟨fun g h' hg hh' => j4.1 g h' hg ?_, fun g h' hg hf hh' => j4.2.1 g h' hg ?_ hh', fun g hg => ?_⟩
        · show h' < (if g < T 0 5 then h + 1 else h)
          rw [if_pos hg]; exact hh'
        · show (if g < T 0 5 then h + 1 else h) ≤ h'
          rw [if_pos hg]; exact hf
        · have := j4.2.2 g hg
          simp only [hg, ↓reduceIte] at this
          exact this
    · intro n M3 hP
      refine ⟨M3, ?_, hP⟩
      have hM3 : tM M3 b T := tM_fr hM (fun r hr => hP.1 _ (by omega))
      show lX14_day_93 _ _ _ _ _ _ = _
      rw [lX14_day_93, hR, gBd, tM_0 hM3 (by decide), if_neg (nI_nlt (Nat.le_refl _) (by omega))]
    · intro p k hp hk
      show _ = nI (dNib (dS0 T p) k)
      rw [f2 111 (by decide) (by decide) (by decide), g1 _ (by omega)]
      unfold dS0
      rw [if_pos hp, dNib_tG hT hp hk]
    · intro g hg
      show _ = nI (dS0 T (8 + g))
      unfold dS0
      rw [if_neg (by omega), show 8 + g - 8 = g by omega, (g2 g (by omega)).2, (tO_goat hT g hg).2.2.2.2.1]
    · intro g h' hg hh'
      exact absurd hh' (Nat.not_lt_zero _)
    · intro g h' hg hf hh'
      exact g2' _ (by omega)
    · intro g hg
      exact (g2 g (by omega)).1
  obtain ⟨M', e4, f4, s4, j4⟩ := k4
  have e4' : lX14_day_93 N (nI c) R N 0 M2 = some M' := e4
  rw [e4', gBd]
  exact ⟨M', rfl, f4, s4.1, j4⟩
end mDay2
