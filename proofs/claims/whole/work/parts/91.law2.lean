/-! STEPS, what is needed, what is enough -/
/-- the facts of the first steps -/
def lA (T : tH) : Nat → Nat
  | 0 => 0
  | i + 1 => lA T i ||| 2 ^ T 19 i
def lP (T : tH) (f s r : Nat) : Bool := decide (T 17 r = f) && decide (dAn (T 18 r) s = 0)
def lO (T : tH) (f s : Nat) : Bool := (T 0 13).testBit f || decide (gFst (lP T f s) (T 0 9) < T 0 9)
def lS (T : tH) (i : Nat) : Bool := !lO T (T 19 i) (lA T i)
theorem lA_lt {T : tH} (hT : tOk T) : ∀ i, i ≤ T 0 10 → lA T i < 2 ^ T 0 8
  | 0, _ => Nat.two_pow_pos _
  | i + 1, hi => Nat.or_lt_two_pow (lA_lt hT i (by omega)) (Nat.pow_lt_pow_right (by decide) (tO_step hT i hi))
section law2
variable {M : goMI} {R : goMR} {T : tH} {t b N : Nat}
theorem cRight (hC : tC M t T) (hT : tOk T) (hN : 5000 ≤ N) {f s : Nat} (hf : f < T 0 8) (hs : s < 2 ^ T 0 8) : fX7_isRight N M (t + 21) (nI f) (nI s) = some (nI (lO T f s).toNat) := by
  have hz := tO_sz hT
  have hp := gP2_8 (n := T 0 8) (by omega)
  unfold fX7_isRight lO
  rw [(tC_law hC).2.1, gI_bit (by omega) (by omega)]
  cases c0 : (T 0 13).testBit f
  · rw [if_neg (by decide), Bool.false_or]
    refine gUpE (fun n i => lX7_isRight_16 (nI f) (nI s) M (t + 21) n (nI i)) (T 0 9) _ (fun i => gFst (lP T f s) i = i) ?_ ?_ N 0 (Nat.zero_le _) rfl (by omega)
    · intro n r hr hP
      obtain ⟨c22, c23⟩ := tC_rules hC r hr
      obtain ⟨o17, o18⟩ := tO_rule hT r hr
      show lX7_isRight_16 _ _ _ _ _ _ = _ ∨ lX7_isRight_16 _ _ _ _ _ _ = lX7_isRight_16 _ _ _ _ _ _ ∧ _
      rw [lX7_isRight_16, (tC_law hC).2.2.1, if_pos (nI_lt hr (by omega)), show t + 21 + 2 = t + 23 from rfl, show t + 21 + 1 = t + 22 from rfl, gRd (by omega), gBd, c22, nI_1]
      by_cases c1 : T 17 r = f
      · rw [if_pos (by rw [c1]), gRd (by omega), gBd, c23]
        by_cases c2 : dAn (T 18 r) s = 0
        · left
          rw [if_pos ((dAn_0 (by omega)).mpr c2), gFst_stop hP hr (by unfold lP; rw [decide_eq_true c1, decide_eq_true c2]; rfl), decide_eq_true hr]
          rfl
        · right
          exact ⟨if_neg (fun e => c2 ((dAn_0 (by omega)).mp e)), gFst_go hP (by unfold lP; rw [decide_eq_false c2, Bool.and_false])⟩
      · right
        exact ⟨if_neg (fun e => c1 ((nI_eq (by omega) (by omega)).mp e)), gFst_go hP (by unfold lP; rw [decide_eq_false c1, Bool.false_and])⟩
    · intro n hP
      show lX7_isRight_16 _ _ _ _ _ _ = _
      rw [lX7_isRight_16, (tC_law hC).2.2.1, if_neg (nI_nlt (Nat.le_refl _) (by omega)), hP, decide_eq_false (Nat.lt_irrefl _)]
      rfl
  · rw [if_pos (by decide)]
    rfl
theorem cFirstWrong (hC : tC M t T) (hT : tOk T) (hN : 5000 ≤ N) : fX7_firstWrongStep N M (t + 21) = some (if gFst (lS T) (T 0 10) < T 0 10 then nI (gFst (lS T) (T 0 10)) else -2) := by
  have hz := tO_sz hT
  have hp := gP2_8 (n := T 0 8) (by omega)
  unfold fX7_firstWrongStep
  have key := gUpE (fun n i => lX7_firstWrongStep_4 N M (t + 21) n (nI (lA T i)) (nI i)) (T 0 10) (if gFst (lS T) (T 0 10) < T 0 10 then nI (gFst (lS T) (T 0 10)) else -2) (fun i => gFst (lS T) i = i) ?_ ?_ N 0 (Nat.zero_le _) rfl (by omega)
  · exact key
  · intro n i hi hP
    have hA := lA_lt hT i (by omega)
    have o19 := tO_step hT i hi
    show lX7_firstWrongStep_4 _ _ _ _ _ _ = _ ∨ lX7_firstWrongStep_4 _ _ _ _ _ _ = lX7_firstWrongStep_4 _ _ _ _ _ _ ∧ _
    rw [lX7_firstWrongStep_4, (tC_law hC).2.2.2, if_pos (nI_lt hi (by omega)), show t + 21 + 3 = t + 24 from rfl, gRd (by omega), gBd, tC_proof hC i hi, cRight hC hT hN o19 hA, gBd, nI_1]
    cases c1 : lO T (T 19 i) (lA T i)
    · left
      have : lS T i = true := by unfold lS; rw [c1]; rfl
      rw [if_pos (by decide), gFst_stop hP hi this, if_pos hi]
    · right
      have : lS T i = false := by unfold lS; rw [c1]; rfl
      refine ⟨?_, gFst_go hP this⟩
      rw [if_neg (by decide), gBd, gI_shl1 (by omega), gI_or, gNm]
      rfl
  · intro n hP
    show lX7_firstWrongStep_4 _ _ _ _ _ _ = _
    rw [lX7_firstWrongStep_4, (tC_law hC).2.2.2, if_neg (nI_nlt (Nat.le_refl _) (by omega)), hP, if_neg (Nat.lt_irrefl _)]
theorem mRight (hR : R 102 3 = some b) (hM : tM M b T) (hT : tOk T) (hN : 5000 ≤ N) {i s : Nat} (hi : i < T 0 10) (hs : s < 2 ^ T 0 8) : lX14_step_73 (nI s) (nI i) M R N (nI ((T 0 13).testBit (T 19 i)).toNat) 0 = some (nI (lO T (T 19 i) s).toNat) := by
  have hz := tO_sz hT
  have hp := gP2_8 (n := T 0 8) (by omega)
  have o19 := tO_step hT i hi
  have key := gUp (fun n r (x : Int32) => lX14_step_73 (nI s) (nI i) M R n x (nI r)) (fun r => nI ((T 0 13).testBit (T 19 i) || decide (gFst (lP T (T 19 i) s) r < r)).toNat) (T 0 9) (nI (lO T (T 19 i) s).toNat) ?_ ?_ N 0 (Nat.zero_le _) (by omega)
  · have e0 : ((T 0 13).testBit (T 19 i) || decide (gFst (lP T (T 19 i) s) 0 < 0)) = (T 0 13).testBit (T 19 i) := by
      rw [decide_eq_false (Nat.not_lt_zero _), Bool.or_false]
    have key' : lX14_step_73 (nI s) (nI i) M R N (nI ((T 0 13).testBit (T 19 i) || decide (gFst (lP T (T 19 i) s) 0 < 0)).toNat) 0 = _ := key
    rw [e0] at key'
    exact key'
  · intro n r hr
    obtain ⟨o17, o18⟩ := tO_rule hT r hr
    have hle := gFst_le (p := lP T (T 19 i) s) r
    show lX14_step_73 _ _ _ _ _ _ _ = lX14_step_73 _ _ _ _ _ _ _
    rw [lX14_step_73, hR, gBd, tM_0 hM (by decide), if_pos (nI_lt hr (by omega)), nI_1]
    cases c0 : ((T 0 13).testBit (T 19 i) || decide (gFst (lP T (T 19 i) s) r < r))
    · rw [Bool.or_eq_false_iff, decide_eq_false_iff_not] at c0
      have hP : gFst (lP T (T 19 i) s) r = r := by omega
      rw [if_pos (by decide), gBd, gRd (by omega), gBd, gBd, gRd (by omega), gBd, tM_17 hM (by omega), tM_19 hM (by omega), c0.1, Bool.false_or]
      by_cases c1 : T 17 r = T 19 i
      · rw [if_pos (by rw [c1]), gBd, gRd (by omega), gBd, tM_18 hM (by omega)]
        by_cases c2 : dAn (T 18 r) s = 0
        · rw [if_pos ((dAn_0 (by omega)).mpr c2), gBd, gFst_hit hP (by unfold lP; rw [decide_eq_true c1, decide_eq_true c2]; rfl), decide_eq_true (Nat.lt_succ_self _)]
          rfl
        · rw [if_neg (fun e => c2 ((dAn_0 (by omega)).mp e)), gBd, gFst_go hP (by unfold lP; rw [decide_eq_false c2, Bool.and_false]), decide_eq_false (Nat.lt_irrefl _)]
          rfl
      · rw [if_neg (fun e => c1 ((nI_eq (by omega) (by omega)).mp e)), gBd, gFst_go hP (by unfold lP; rw [decide_eq_false c1, Bool.false_and]), decide_eq_false (Nat.lt_irrefl _)]
        rfl
    · rw [if_neg (by decide), gBd]
      have : ((T 0 13).testBit (T 19 i) || decide (gFst (lP T (T 19 i) s) (r + 1) < r + 1)) = true := by
        rw [Bool.or_eq_true, decide_eq_true_eq] at c0 ⊢
        rcases c0 with c0 | c0
        · exact Or.inl c0
        · right
          have := gFst_lt (p := lP T (T 19 i) s) (n := r) c0 1
          omega
      rw [this]
      rfl
  · intro n
    show lX14_step_73 _ _ _ _ _ _ _ = _
    rw [lX14_step_73, hR, gBd, tM_0 hM (by decide), if_neg (nI_nlt (Nat.le_refl _) (by omega))]
    rfl
theorem mStep (hR : R 102 3 = some b) (hM : tM M b T) (hT : tOk T) (hN : 5000 ≤ N) : lX14_step_39 N M R N 0 0 = some (if gFst (lS T) (T 0 10) < T 0 10 then nI (gFst (lS T) (T 0 10)) else -2, goWI (goWI M 102 1 0) 102 2 (-1)) := by
  have hz := tO_sz hT
  have hp := gP2_8 (n := T 0 8) (by omega)
  have key := gUpE (fun n i => lX14_step_39 N M R n (nI (lA T i)) (nI i)) (T 0 10) (if gFst (lS T) (T 0 10) < T 0 10 then nI (gFst (lS T) (T 0 10)) else -2, goWI (goWI M 102 1 0) 102 2 (-1)) (fun i => gFst (lS T) i = i) ?_ ?_ N 0 (Nat.zero_le _) rfl (by omega)
  · exact key
  · intro n i hi hP
    have hA := lA_lt hT i (by omega)
    have o19 := tO_step hT i hi
    show lX14_step_39 _ _ _ _ _ _ = _ ∨ lX14_step_39 _ _ _ _ _ _ = lX14_step_39 _ _ _ _ _ _ ∧ _
    rw [lX14_step_39, hR, gBd, tM_0 hM (by decide), if_pos (nI_lt hi (by omega)), gBd, gBd, gRd (by omega), gBd, tM_19 hM (by omega), tM_0 hM (by decide), gI_bit14 (by omega) (by omega), gNm, mRight hR hM hT hN hi hA, gBd, nI_1]
    cases c1 : lO T (T 19 i) (lA T i)
    · left
      have : lS T i = true := by unfold lS; rw [c1]; rfl
      rw [if_pos (by decide), gFst_stop hP hi this, if_pos hi, mGood, gB2]
    · right
      have : lS T i = false := by unfold lS; rw [c1]; rfl
      refine ⟨?_, gFst_go hP this⟩
      rw [if_neg (by decide), gBd, gRd (by omega), gBd, tM_19 hM (by omega), gI_shl1 (by omega), gI_or, gNm]
      rfl
  · intro n hP
    show lX14_step_39 _ _ _ _ _ _ = _
    rw [lX14_step_39, hR, gBd, tM_0 hM (by decide), if_neg (nI_nlt (Nat.le_refl _) (by omega)), hP, if_neg (Nat.lt_irrefl _), mGood, gB2]
/-- rules without which a fact does not follow -/
def lN2 (T : tH) (f : Nat) : Nat := gBits (fun r => !(lF T r (T 0 13)).testBit f) (T 0 9)
theorem cNeeded (hC : tC M t T) (hT : tOk T) (hN : 5000 ≤ N) {f : Nat} (hf : f < T 0 8) : fX7_neededRules N M (t + 21) (nI f) = some (if (lF T 8 (T 0 13)).testBit f then nI (lN2 T f) else -2) := by
  have hz := tO_sz hT
  have hp := gP2_8 (n := T 0 8) (by omega)
  have hlt := fun w => lF_lt (w := w) hT (show T 0 13 < 2 ^ T 0 8 by omega)
  have h8 := hlt 8
  unfold fX7_neededRules
  rw [(tC_law hC).2.1, show (-1 : Int32) = lW 8 from rfl, cKnown hC hT hN (by omega), gBd, gI_bit (by omega) (by omega)]
  cases (lF T 8 (T 0 13)).testBit f
  · rw [if_pos (by decide), if_neg Bool.false_ne_true]
  · rw [if_neg (by decide), if_pos rfl]
    have key := gUp (fun n i (x : Int32) => lX7_neededRules_23 N (nI f) M (t + 21) n x (nI i)) (fun i => nI (gBits (fun r => !(lF T r (T 0 13)).testBit f) i)) (T 0 9) (nI (lN2 T f)) ?_ ?_ N 0 (Nat.zero_le _) (by omega)
    · have key' : lX7_neededRules_23 N (nI f) M (t + 21) N 0 0 = _ := key
      rw [key', gBd]
    · intro n r hr
      have hlr := hlt r
      have hw : nI r = lW r := by unfold lW; rw [if_pos (by omega)]
      show lX7_neededRules_23 _ _ _ _ _ _ _ = lX7_neededRules_23 _ _ _ _ _ _ _
      rw [lX7_neededRules_23, (tC_law hC).2.2.1, if_pos (nI_lt hr (by omega)), (tC_law hC).2.1, show fX7_known N M (t + 21) (nI (T 0 13)) (nI r) = some (nI (lF T r (T 0 13))) by rw [hw]; exact cKnown hC hT hN (by omega), gBd, gI_bit (by omega) (by omega), nI_1]
      conv => rhs; unfold gBits
      cases (lF T r (T 0 13)).testBit f
      · rw [if_pos (by decide), gI_shl1 (by omega), gI_or, gNm, gBd]; rfl
      · rw [if_neg (by decide), gBd]
        show _ = lX7_neededRules_23 _ _ _ _ _ (nI (_ ||| 0)) _
        rw [Nat.or_zero]
    · intro n
      show lX7_neededRules_23 _ _ _ _ _ _ _ = _
      rw [lX7_neededRules_23, (tC_law hC).2.2.1, if_neg (nI_nlt (Nat.le_refl _) (by omega))]
      rfl
theorem mNeeded (hR : R 102 3 = some b) (hM : tM M b T) (hT : tOk T) (hN : 5000 ≤ N) {f : Nat} (hf : f < T 0 8) : lX14_needs_38 N (nI f) M R N 0 0 = some (nI (lN2 T f)) := by
  have hz := tO_sz hT
  have hp := gP2_8 (n := T 0 8) (by omega)
  have hlt := fun w => lF_lt (w := w) hT (show T 0 13 < 2 ^ T 0 8 by omega)
  refine gUp (fun n i (x : Int32) => lX14_needs_38 N (nI f) M R n x (nI i)) (fun i => nI (gBits (fun r => !(lF T r (T 0 13)).testBit f) i)) (T 0 9) _ ?_ ?_ N 0 (Nat.zero_le _) (by omega)
  · intro n r hr
    have hlr := hlt r
    have hw : nI r = lW r := by unfold lW; rw [if_pos (by omega)]
    show lX14_needs_38 _ _ _ _ _ _ _ = lX14_needs_38 _ _ _ _ _ _ _
    rw [lX14_needs_38, hR, gBd, tM_0 hM (by decide), if_pos (nI_lt hr (by omega)), gBd, tM_0 hM (by decide), show fX14_following N M R (nI (T 0 13)) (nI r) = some (nI (lF T r (T 0 13))) by rw [hw]; exact mFollowing hR hM hT hN (by omega), gBd, gI_bit14 (by omega) (by omega), gNm, gNm, nI_1]
    conv => rhs; unfold gBits
    cases (lF T r (T 0 13)).testBit f
    · rw [if_pos (by decide), gI_shl1 (by omega), gI_or]; rfl
    · rw [if_neg (by decide), gL_0, gI_or]; rfl
  · intro n
    show lX14_needs_38 _ _ _ _ _ _ _ = _
    rw [lX14_needs_38, hR, gBd, tM_0 hM (by decide), if_neg (nI_nlt (Nat.le_refl _) (by omega))]
    rfl
/-- whether facts that hold are enough -/
def lE (T : tH) (f s : Nat) : Bool := decide (dAn s (T 0 13) = 0) && (lF T 8 s).testBit f
/-- the fewest of all, or -2 -/
def lM (T : tH) (f n : Nat) : Nat × Nat := gMin gPc (lE T f) 4294967294 9 n
theorem cFewest (hC : tC M t T) (hT : tOk T) (hN : 5000 ≤ N) {f : Nat} (hf : f < T 0 8) : fX7_fewestFacts N M (t + 21) (nI f) = some (nI (lM T f (2 ^ T 0 8)).1) := by
  have hz := tO_sz hT
  have hp := gP2_8 (n := T 0 8) (by omega)
  unfold fX7_fewestFacts
  have key := gUp (fun n i (x : Int32 × Int32) => lX7_fewestFacts_9 N (nI f) M (t + 21) n x.1 x.2 (nI i)) (fun i => (nI (lM T f i).1, nI (lM T f i).2)) (2 ^ T 0 8) (nI (lM T f (2 ^ T 0 8)).1) ?_ ?_ N 0 (Nat.zero_le _) (by omega)
  · have key' : lX7_fewestFacts_9 N (nI f) M (t + 21) N (-2) 9 0 = _ := key
    rw [key', gBd]
  · intro n s hs
    have hl := lF_lt (w := 8) hT hs
    have hpc := gPc_le s
    have hle := gMin_le (w := gPc) (r := lE T f) (b := 4294967294) (l := 9) s
    have hle' : (lM T f s).2 ≤ 9 := hle
    show lX7_fewestFacts_9 _ _ _ _ _ _ _ _ = lX7_fewestFacts_9 _ _ _ _ _ _ _ _
    have e2 : lM T f (s + 1) = if lE T f s && decide (gPc s < (lM T f s).2) then (s, gPc s) else lM T f s := rfl
    rw [lX7_fewestFacts_9, (tC_law hC).1, gI_shl1 (by omega), if_pos (nI_lt hs (by omega)), (tC_law hC).2.1, gPc_bc _ (by omega), gNm, e2, nI_1]
    unfold lE
    by_cases c1 : dAn s (T 0 13) = 0
    · rw [if_pos ((dAn_0 (by omega)).mpr c1), decide_eq_true c1, Bool.true_and]
      by_cases c2 : gPc s < (lM T f s).2
      · rw [if_pos (nI_lt c2 (by omega)), show (-1 : Int32) = lW 8 from rfl, cKnown hC hT hN hs, gBd, gI_bit (by omega) (by omega), decide_eq_true c2, Bool.and_true]
        cases (lF T 8 s).testBit f
        · rw [if_neg (by decide), gB2, if_neg Bool.false_ne_true]
        · rw [if_pos (by decide), gB2, if_pos rfl]
      · rw [if_neg (nI_nlt (by omega) (by omega)), gB2, decide_eq_false c2, Bool.and_false, if_neg Bool.false_ne_true]
    · rw [if_neg (fun e => c1 ((dAn_0 (by omega)).mp e)), gB2, decide_eq_false c1, Bool.false_and, Bool.false_and, if_neg Bool.false_ne_true]
  · intro n
    show lX7_fewestFacts_9 _ _ _ _ _ _ _ _ = _
    rw [lX7_fewestFacts_9, (tC_law hC).1, gI_shl1 (by omega), if_neg (nI_nlt (Nat.le_refl _) (by omega))]
theorem mFewest (hR : R 102 3 = some b) (hM : tM M b T) (hT : tOk T) (hN : 5000 ≤ N) {f : Nat} (hf : f < T 0 8) : lX14_enough_24 N (nI f) M R N (-2) 0 = some (nI (lM T f (2 ^ T 0 8)).1) := by
  have hz := tO_sz hT
  have hp := gP2_8 (n := T 0 8) (by omega)
  refine gUp (fun n i (x : Int32) => lX14_enough_24 N (nI f) M R n x (nI i)) (fun i => nI (lM T f i).1) (2 ^ T 0 8) _ ?_ ?_ N 0 (Nat.zero_le _) (by omega)
  · intro n s hs
    have hl := lF_lt (w := 8) hT hs
    have hpc := gPc_le2 (n := T 0 8) (by omega) hs
    show lX14_enough_24 _ _ _ _ _ _ _ = lX14_enough_24 _ _ _ _ _ _ _
    have e2 : lM T f (s + 1) = if lE T f s && decide (gPc s < (lM T f s).2) then (s, gPc s) else lM T f s := rfl
    have hfo := mFollowing (w := 8) hR hM hT hN hs
    have hfo' : fX14_following N M R (nI s) (-1) = some (nI (lF T 8 s)) := hfo
    rw [lX14_enough_24, hR, gBd, tM_0 hM (by decide), gI_shl1 (by omega), if_pos (nI_lt hs (by omega)), gBd, tM_0 hM (by decide), e2, nI_1]
    have hno : (lM T f s).2 < 9 ∨ lM T f s = (4294967294, 9) := by
      have := gMin_l (w := gPc) (r := lE T f) (b := 4294967294) (b0 := 4294967294) (l := 9) (l' := 9) (Nat.le_refl _) s
      by_cases c : (lM T f s).2 < 9
      · exact Or.inl c
      · right
        unfold lM at c ⊢
        rw [if_neg c] at this
        exact this
    unfold lE
    by_cases c1 : dAn s (T 0 13) = 0
    · rw [if_pos ((dAn_0 (by omega)).mpr c1), decide_eq_true c1, Bool.true_and]
      rcases hno with h9 | h9
      · obtain ⟨i1, i2, i3⟩ := gMin_in (w := gPc) (r := lE T f) (b := 4294967294) (l := 9) (n := s) h9
        have i1' : (lM T f s).1 < s := i1
        have i3' : gPc (lM T f s).1 = (lM T f s).2 := i3
        rw [if_neg (gI_nm2 (by omega)), gPc_bits (by omega) (by omega), gBd, gPc_bits (by omega) (by omega), gBd, i3']
        by_cases c2 : gPc s < (lM T f s).2
        · rw [if_pos (nI_lt c2 (by omega)), hfo', gBd, gI_bit14 (by omega) (by omega), decide_eq_true c2, Bool.and_true]
          cases (lF T 8 s).testBit f
          · rw [if_pos (by decide), gBd, if_neg Bool.false_ne_true]
          · rw [if_neg (by decide), gBd, if_pos rfl]
        · rw [if_neg (nI_nlt (by omega) (by omega)), gBd, decide_eq_false c2, Bool.and_false, if_neg Bool.false_ne_true]
      · rw [h9, if_pos (show nI 4294967294 = -2 from rfl), hfo', gBd, gI_bit14 (by omega) (by omega), decide_eq_true (show gPc s < 9 by omega), Bool.and_true]
        cases (lF T 8 s).testBit f
        · rw [if_pos (by decide), gBd, if_neg Bool.false_ne_true]
        · rw [if_neg (by decide), gBd, if_pos rfl]
    · rw [if_neg (fun e => c1 ((dAn_0 (by omega)).mp e)), gBd, decide_eq_false c1, Bool.false_and, Bool.false_and, if_neg Bool.false_ne_true]
  · intro n
    show lX14_enough_24 _ _ _ _ _ _ _ = _
    rw [lX14_enough_24, hR, gBd, tM_0 hM (by decide), gI_shl1 (by omega), if_neg (nI_nlt (Nat.le_refl _) (by omega))]
end law2
theorem cIsHill0 {k : Nat} {G : goG} {M : goMI} {L : goML} {R : goMR} {t : Nat} {T : tH} {A B : Nat → Nat} (hX : iX k G M L R t T A B) (h1 : R 102 3 = none) : fX12_isHill M R = 0 := by
  unfold fX12_isHill
  rw [iR5 hX, tC_cases hX.2.2.1]
  rcases hX.2.2.2.1 with ⟨h1, h2⟩ | ⟨b, b1, b2, b3, b4⟩
  · rw [h2]; rfl
  · rw [h1] at b1; cases b1
theorem cIsHill1 {k : Nat} {G : goG} {M : goMI} {L : goML} {R : goMR} {t : Nat} {T : tH} {A B : Nat → Nat} (hX : iX k G M L R t T A B) (b4 : tOk T) : fX12_isHill M R = 1 := by
  unfold fX12_isHill
  have hz := tO_sz b4
  have h1 := tCases_pos (T := T)
  have h2 := tCases_le (T := T) (by omega) (tO_stories b4)
  rw [iR5 hX, tC_cases hX.2.2.1, if_pos (show (0 : Int32) < nI (T 0 16) from (nI_lt (by omega) (by omega) : nI 0 < nI (T 0 16)))]
theorem go_step : goS_step gInv := by
  rintro k G M L R ⟨t, T, A, B, hX⟩ hk
  have hC := hX.2.2.1
  rcases hX.2.2.2.1 with ⟨h1, h2⟩ | ⟨b, b1, b2, b3, b4⟩
  · refine ⟨5000, -1, goWI M 0 8 1, _, ?_, ?_, iNo hX (w := 1) (by decide)⟩
    · unfold fX12_step
      rw [cIsHill0 hX h1, if_pos rfl, cRef, gB2]
    · unfold fX14_step
      rw [gNm, if_pos h1, mRef, gB2]
  · have b3' := fun w => tM_w (w := w) b2 b3
    have hz := tO_sz b4
    have o14 := tO_proof b4
    by_cases c1 : 0 < T 0 10
    · rw [if_pos c1] at o14
      refine ⟨5000, if gFst (lS T) (T 0 10) < T 0 10 then nI (gFst (lS T) (T 0 10)) else -2, goWI M 0 8 0, _, ?_, ?_, iNo hX (w := 0) (by decide)⟩
      · unfold fX12_step
        rw [cIsHill1 hX b4, if_neg (by decide), iR5 hX, (tC_law hC).2.2.2, if_pos (show (0 : Int32) < nI (T 0 10) from (nI_lt c1 (by omega) : nI 0 < nI (T 0 10))), cFirstWrong hC b4 (by decide), gBd, cAns, gB2]
      · unfold fX14_step
        rw [gNm, b1, if_neg (by simp), gBd, tM_0 (b3' 0) (by decide), o14, if_neg (by decide), mStep b1 (b3' 0) b4 (by decide)]
    · rw [if_neg c1] at o14
      refine ⟨5000, -1, goWI M 0 8 6, _, ?_, ?_, iNo hX (w := 6) (by decide)⟩
      · unfold fX12_step
        rw [cIsHill1 hX b4, if_neg (by decide), iR5 hX, (tC_law hC).2.2.2, if_neg (show ¬ (0 : Int32) < nI (T 0 10) from (nI_nlt (by omega) (by decide) : ¬ nI 0 < nI (T 0 10))), cRef, gB2]
      · unfold fX14_step
        rw [gNm, b1, if_neg (by simp), gBd, tM_0 (b3' 6) (by decide), o14, if_pos (by decide), mRef, gB2]
theorem go_needs : goS_needs gInv := by
  rintro k G M L R a1 ⟨t, T, A, B, hX⟩ hk
  have hI := iM_b hX.2.2.2.1
  have hC := hX.2.2.1
  by_cases c0 : wi a1 (T 0 8) = true
  · obtain ⟨f, hf, rfl⟩ := wi_t (by omega) c0
    obtain ⟨b, b1, b2, b3, b4⟩ := iM_some hX.2.2.2.1 (i := 0) (j := 8) (by omega)
    have b3' := fun w => tM_w (w := w) b2 b3
    have hz := tO_sz b4
    have hp := gP2_8 (n := T 0 8) (by omega)
    have hlt := lF_lt (w := 8) b4 (show T 0 13 < 2 ^ T 0 8 by omega)
    refine ⟨5000, if (lF T 8 (T 0 13)).testBit f then nI (lN2 T f) else -2, goWI M 0 8 0, _, ?_, ?_, iNo hX (w := 0) (by decide)⟩
    · unfold fX12_needs fX12_isFact
      rw [iR5 hX, (tC_law hC).1, cWithin, c0, if_neg (by decide), cNeeded hC b4 (by decide) hf, gBd, cAns, gB2]
    · have hz2 : ∀ x : Bool, goZr (nI x.toNat) = some (nI x.toNat) := fun x => by cases x <;> rfl
      unfold fX14_needs fX14_followsNow
      rw [gNm, m_isFact (iI hX 0), c0, gBd, if_neg (by decide), b1, gBd, tM_0 (b3' 0) (by decide), show fX14_following 5000 (goWI (goWI M 0 8 0) 102 0 0) R (nI (T 0 13)) (-1) = some (nI (lF T 8 (T 0 13))) from mFollowing (N := 5000) (w := 8) b1 (b3' 0) b4 (by decide) (by omega), gBd, gI_bit14 (by omega) (by omega), hz2, gBd, gBd, mNeeded b1 (b3' 0) b4 (by decide) hf]
      cases (lF T 8 (T 0 13)).testBit f
      · rw [if_pos (by decide), mGood, gB2, if_neg Bool.false_ne_true]
      · rw [if_neg (by decide), gBd, mGood, gB2, if_pos rfl]
  · rw [Bool.not_eq_true] at c0
    refine ⟨5000, -1, goWI M 0 8 1, _, ?_, ?_, iNo hX (w := 1) (by decide)⟩
    · unfold fX12_needs fX12_isFact
      rw [iR5 hX, (tC_law hC).1, cWithin, c0, if_pos (by decide), cRef, gB2]
    · unfold fX14_needs
      rw [gNm, m_isFact (iI hX 1), c0, gBd, if_pos (by decide), mRef, gB2]
theorem go_enough : goS_enough gInv := by
  rintro k G M L R a1 ⟨t, T, A, B, hX⟩ hk
  have hI := iM_b hX.2.2.2.1
  have hC := hX.2.2.1
  by_cases c0 : wi a1 (T 0 8) = true
  · obtain ⟨f, hf, rfl⟩ := wi_t (by omega) c0
    obtain ⟨b, b1, b2, b3, b4⟩ := iM_some hX.2.2.2.1 (i := 0) (j := 8) (by omega)
    have b3' := fun w => tM_w (w := w) b2 b3
    refine ⟨5000, nI (lM T f (2 ^ T 0 8)).1, goWI M 0 8 0, _, ?_, ?_, iNo hX (w := 0) (by decide)⟩
    · unfold fX12_enough fX12_isFact
      rw [iR5 hX, (tC_law hC).1, cWithin, c0, if_neg (by decide), cFewest hC b4 (by decide) hf, gBd, cAns, gB2]
    · unfold fX14_enough
      rw [gNm, m_isFact (iI hX 0), c0, gBd, if_neg (by decide), mFewest b1 (b3' 0) b4 (by decide) hf, gBd, mGood, gB2]
  · rw [Bool.not_eq_true] at c0
    refine ⟨5000, -1, goWI M 0 8 1, _, ?_, ?_, iNo hX (w := 1) (by decide)⟩
    · unfold fX12_enough fX12_isFact
      rw [iR5 hX, (tC_law hC).1, cWithin, c0, if_pos (by decide), cRef, gB2]
    · unfold fX14_enough
      rw [gNm, m_isFact (iI hX 1), c0, gBd, if_pos (by decide), mRef, gB2]
