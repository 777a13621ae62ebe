/-! ODDS, the likeliest, what is proved -/
def oH (T : tH) (g n : Nat) : Bool := decide (gFst (fun k => decide (T 14 k = g)) n < n)
def oF (T : tH) (A : Nat → Nat) (c g : Nat) : Nat := if oH T g (T 0 7) && (A 25).testBit g then (if (yH T A c).testBit g then T 11 g else 10 - T 11 g) else 1
def oG (T : tH) (A : Nat → Nat) (c n : Nat) : Nat := gPr (oF T A c) 0 n
def oC (T : tH) (A : Nat → Nat) (c : Nat) : Nat := oG T A c (T 0 5)
section ev4
variable {M : goMI} {R : goMR} {t b N : Nat} {T : tH} {A B : Nat → Nat}
theorem oF_b (hT : tOk T) {c g : Nat} (hg : g < T 0 5) : 1 ≤ oF T A c g ∧ oF T A c g ≤ 9 := by
  obtain ⟨o6, o7, o8, o10, o23, o11, o11', o9⟩ := tO_goat hT g hg
  unfold oF
  split
  · split <;> omega
  · omega
theorem oC_b (hT : tOk T) {c : Nat} : 1 ≤ oC T A c ∧ oC T A c ≤ 531441 := by
  have hz := tO_sz hT
  refine ⟨gPr_pos (fun j hj => by rw [Nat.zero_add]; exact (oF_b hT hj).1), ?_⟩
  have h1 : oC T A c ≤ 9 ^ T 0 5 := gPr_le (fun j hj => by rw [Nat.zero_add]; exact (oF_b hT hj).2)
  have h2 : 9 ^ T 0 5 ≤ 9 ^ 6 := Nat.pow_le_pow_right (by decide) (by omega)
  omega
theorem tCl_one (hA : A 25 < 64) {g : Nat} (hg : g < T 0 5) (hg6 : T 0 5 ≤ 6) : tCl T (A 25 &&& 2 ^ g) = 0 ↔ (oH T g (T 0 7) && (A 25).testBit g) = false := by
  have htb : ∀ i, (A 25 &&& 2 ^ g).testBit i = ((A 25).testBit i && decide (g = i)) := fun i => by rw [Nat.testBit_and, gTb_pow]
  constructor
  · intro h
    cases e : (A 25).testBit g
    · rw [Bool.and_false]
    · rw [Bool.and_true]
      unfold oH
      rw [decide_eq_false_iff_not]
      intro hlt
      have h1 := gFst_p hlt
      rw [decide_eq_true_eq] at h1
      have h2 : (tCl T (A 25 &&& 2 ^ g)).testBit (gFst (fun k => decide (T 14 k = g)) (T 0 7)) = true := by
        unfold tCl
        rw [gBits_tb, decide_eq_true hlt, Bool.true_and, htb, h1, e, decide_eq_true rfl]; rfl
      rw [h, Nat.zero_testBit] at h2
      cases h2
  · intro h
    apply Nat.eq_of_testBit_eq
    intro i
    rw [Nat.zero_testBit]
    unfold tCl
    rw [gBits_tb]
    by_cases hi : i < T 0 7
    · rw [decide_eq_true hi, Bool.true_and, htb]
      by_cases c1 : g = T 14 i
      · rw [decide_eq_true c1, Bool.and_true, ← c1]
        cases e : (A 25).testBit g
        · rfl
        · rw [e, Bool.and_true] at h
          unfold oH at h
          rw [decide_eq_false_iff_not] at h
          have h1 := gFst_le (p := fun k => decide (T 14 k = g)) (T 0 7)
          have h2 := gFst_np (p := fun k => decide (T 14 k = g)) (n := T 0 7) (i := i) (by omega)
          rw [decide_eq_false_iff_not] at h2
          exact absurd c1.symm h2
      · rw [decide_eq_false c1, Bool.and_false]
    · rw [decide_eq_false hi, Bool.false_and]
theorem eB_one {c g : Nat} (hb : (A 25).testBit g = true) (hA : A 25 < 64) : eB T A c (A 25 &&& 2 ^ g) = (yH T A c).testBit g := by
  have htb : ∀ i, (A 25 &&& 2 ^ g).testBit i = ((A 25).testBit i && decide (g = i)) := fun i => by rw [Nat.testBit_and, gTb_pow]
  unfold eB
  cases e : (yH T A c).testBit g
  · rw [decide_eq_false_iff_not, dAn_sub]
    intro h
    have := h g (by rw [htb, hb, decide_eq_true rfl]; rfl)
    rw [e] at this
    cases this
  · rw [decide_eq_true_eq, dAn_sub]
    intro i hi
    rw [htb, Bool.and_eq_true, decide_eq_true_eq] at hi
    rw [← hi.2]
    exact e
theorem cOdds (h74 : goRr R 74 2 = t) (hC : tC M t T) (hT : tOk T) (hN : 5000 ≤ N) (hA : ∀ i, i < 26 → M 4 i = nI (A i)) (hA25 : A 25 < 64) (he : eT M T A (T 0 16)) {c : Nat} (hc : c < T 0 16) : fX4_oddsOf N M R (nI c) = some (nI (oC T A c)) := by
  have hz := tO_sz hT
  unfold fX4_oddsOf
  have key : lX4_oddsOf_4 N (nI c) M R N 1 0 = some (nI (oC T A c)) := by
    refine gUp (fun n i (x : Int32) => lX4_oddsOf_4 N (nI c) M R n x (nI i)) (fun i => nI (oG T A c i)) (T 0 5) _ ?_ ?_ N 0 (Nat.zero_le _) (by omega)
    · intro n g hg
      obtain ⟨h10, h11, h13, h16, h15⟩ := tC_goats hC g hg
      obtain ⟨o6, o7, o8, o10, o23, o11, o11', o9⟩ := tO_goat hT g hg
      have hlt : A 25 &&& 2 ^ g < 64 := Nat.lt_of_le_of_lt Nat.and_le_left hA25
      have hcl := tCl_lt hT (A 25 &&& 2 ^ g)
      show lX4_oddsOf_4 _ _ _ _ _ _ _ = lX4_oddsOf_4 _ _ _ _ _ _ _
      have e2 : oG T A c (g + 1) = oG T A c g * oF T A c g := by
        show gPr (oF T A c) 0 g * oF T A c (0 + g) = _
        rw [Nat.zero_add]; rfl
      rw [lX4_oddsOf_4, h74, (tC_herd hC).1, if_pos (nI_lt hg (by omega)), gL_25, gRd (by decide), gBd, hA 25 (by decide), gI_shl1 (by omega), gI_and, cCluesOf hC hT hN hlt, gBd, nI_1 g, e2]
      unfold oF
      cases cc : (oH T g (T 0 7) && (A 25).testBit g)
      · rw [(tCl_one hA25 hg (by omega)).mpr cc, if_pos (by rfl), gBd, if_neg Bool.false_ne_true, Nat.mul_one]
      · have hne : ¬ tCl T (A 25 &&& 2 ^ g) = 0 := fun e => by
          rw [(tCl_one hA25 hg (by omega)).mp e] at cc
          cases cc
        rw [Bool.and_eq_true] at cc
        rw [if_neg (fun e => hne ((gI_zero (by omega)).mp e)), cBears hT he hc hlt, gBd, eB_one cc.2 hA25, if_pos rfl]
        cases (yH T A c).testBit g
        · rw [if_pos (by decide), gRd (by omega), gBd, h13, gBd, gL_10, pk_sub (by omega), pk_mul, gNm, gBd, if_neg Bool.false_ne_true]
        · rw [if_neg (by decide), gRd (by omega), gBd, h13, gBd, pk_mul, gNm, gBd, if_pos rfl]
    · intro n
      show lX4_oddsOf_4 _ _ _ _ _ _ _ = _
      rw [lX4_oddsOf_4, h74, (tC_herd hC).1, if_neg (nI_nlt (Nat.le_refl _) (by omega))]
      rfl
  rw [key, gBd]
theorem mOdds (hR : R 102 3 = some b) (hM : tM M b T) (hT : tOk T) (hN : 5000 ≤ N) (hv : ∀ i, i < 18 → M 105 i = nI (B i)) (hAB : aB A B) (he : ∀ c, c < T 0 16 → M 114 c = nI (yH T A c)) {c : Nat} (hc : c < T 0 16) : fX14_oddsOf N M R (nI c) = some (nI (oC T A c)) := by
  have hz := tO_sz hT
  have hcs := tCases_le (T := T) (by omega) (tO_stories hT)
  have hA25 := hAB.2.2.2.2.2.2
  have hhas : ∀ g, g < T 0 5 → lX14_oddsOf_21 (nI g) M R N 0 0 = some (nI (oH T g (T 0 7)).toNat) := by
    intro g hg
    refine gUp (fun n i (x : Int32) => lX14_oddsOf_21 (nI g) M R n x (nI i)) (fun i => nI (oH T g i).toNat) (T 0 7) _ ?_ ?_ N 0 (Nat.zero_le _) (by omega)
    · intro n i hi
      have o14 := (tO_clue hT i hi).2.1
      have hle := gFst_le (p := fun k => decide (T 14 k = g)) i
      show lX14_oddsOf_21 _ _ _ _ _ _ = lX14_oddsOf_21 _ _ _ _ _ _
      rw [lX14_oddsOf_21, hR, gBd, tM_0 hM (by decide), if_pos (nI_lt hi (by omega)), nI_1 i]
      cases c0 : oH T g i
      · unfold oH at c0
        rw [decide_eq_false_iff_not] at c0
        have hP : gFst (fun k => decide (T 14 k = g)) i = i := by omega
        rw [if_pos (by decide), gBd, gRd (by omega), gBd, tM_14 hM (by omega)]
        unfold oH
        by_cases c1 : T 14 i = g
        · rw [if_pos (by rw [c1]), gBd, gFst_hit hP (decide_eq_true c1), decide_eq_true (Nat.lt_succ_self _)]; rfl
        · rw [if_neg (fun e => c1 ((nI_eq (by omega) (by omega)).mp e)), gBd, gFst_go hP (decide_eq_false c1), decide_eq_false (Nat.lt_irrefl _)]; rfl
      · rw [if_neg (by decide), gBd]
        unfold oH at c0 ⊢
        rw [decide_eq_true_eq] at c0
        have := gFst_lt (p := fun k => decide (T 14 k = g)) (n := i) c0 1
        rw [this, decide_eq_true (by omega)]; rfl
    · intro n
      show lX14_oddsOf_21 _ _ _ _ _ _ = _
      rw [lX14_oddsOf_21, hR, gBd, tM_0 hM (by decide), if_neg (nI_nlt (Nat.le_refl _) (by omega))]
  have hhd : ∀ g, g < T 0 5 → fX14_isHeard M (nI g) = some (nI ((A 25).testBit g).toNat) := by
    intro g hg
    have hz2 : ∀ x : Bool, goZr (nI x.toNat) = some (nI x.toNat) := fun x => by cases x <;> rfl
    have hB := hAB.2.2.1
    unfold fX14_isHeard
    rw [gL_17, gRd (by decide), gBd, hv 17 (by decide), ← hB, gI_bit14 (by omega) (by omega), hz2, gBd]
  unfold fX14_oddsOf
  have key : lX14_oddsOf_4 N (nI c) M R N 1 0 = some (nI (oC T A c)) := by
    refine gUp (fun n i (x : Int32) => lX14_oddsOf_4 N (nI c) M R n x (nI i)) (fun i => nI (oG T A c i)) (T 0 5) _ ?_ ?_ N 0 (Nat.zero_le _) (by omega)
    · intro n g hg
      obtain ⟨o6, o7, o8, o10, o23, o11, o11', o9⟩ := tO_goat hT g hg
      have hyl : yH T A c < 64 := yHn_lt _
      show lX14_oddsOf_4 _ _ _ _ _ _ _ = lX14_oddsOf_4 _ _ _ _ _ _ _
      have e2 : oG T A c (g + 1) = oG T A c g * oF T A c g := by
        show gPr (oF T A c) 0 g * oF T A c (0 + g) = _
        rw [Nat.zero_add]; rfl
      rw [lX14_oddsOf_4, hR, gBd, tM_0 hM (by decide), if_pos (nI_lt hg (by omega)), hhas g hg, gBd, nI_1 g, e2]
      unfold oF
      cases oH T g (T 0 7)
      · rw [if_pos (by decide), gBd, Bool.false_and, if_neg Bool.false_ne_true, Nat.mul_one]
      · rw [if_neg (by decide), hhd g hg, gBd, Bool.true_and]
        cases (A 25).testBit g
        · rw [if_pos (by decide), gBd, if_neg Bool.false_ne_true, Nat.mul_one]
        · rw [if_neg (by decide), gRd (by omega), gBd, he c hc, gI_bit14 (by omega) (by omega), if_pos rfl]
          cases (yH T A c).testBit g
          · rw [if_pos (by decide), gBd, gRd (by omega), gBd, tM_11 hM (by omega), gBd, gL_10, pk_sub (by omega), pk_mul, gNm, gBd, if_neg Bool.false_ne_true]
          · rw [if_neg (by decide), gBd, gRd (by omega), gBd, tM_11 hM (by omega), gBd, pk_mul, gNm, gBd, if_pos rfl]
    · intro n
      show lX14_oddsOf_4 _ _ _ _ _ _ _ = _
      rw [lX14_oddsOf_4, hR, gBd, tM_0 hM (by decide), if_neg (nI_nlt (Nat.le_refl _) (by omega))]
      rfl
  rw [key, gBd]
/-- the first of greatest odds -/
def oM (T : tH) (A : Nat → Nat) : Nat → Nat
  | 0 => 0
  | c + 1 => if oC T A (oM T A c) < oC T A c then c else oM T A c
theorem oM_lt : ∀ n, oM T A n < n ∨ oM T A n = 0
  | 0 => Or.inr rfl
  | n + 1 => by
    unfold oM
    split
    · exact Or.inl (Nat.lt_succ_self _)
    · rcases oM_lt n with h | h
      · exact Or.inl (by omega)
      · exact Or.inr h
theorem cGreatest (h74 : goRr R 74 2 = t) (hC : tC M t T) (hT : tOk T) (hN : 5000 ≤ N) (hA : ∀ i, i < 26 → M 4 i = nI (A i)) (hA25 : A 25 < 64) (he : eT M T A (T 0 16)) : fX4_greatestOdds N M R = some (nI (oM T A (T 0 16))) := by
  have hz := tO_sz hT
  have hcs := tCases_le (T := T) (by omega) (tO_stories hT)
  unfold fX4_greatestOdds
  have key : lX4_greatestOdds_6 N M R N 0 0 0 = some (nI (oM T A (T 0 16))) := by
    refine gUp (fun n i (x : Int32 × Int32) => lX4_greatestOdds_6 N M R n x.1 x.2 (nI i)) (fun i => (nI (oM T A i), nI (if i = 0 then 0 else oC T A (oM T A i)))) (T 0 16) _ ?_ ?_ N 0 (Nat.zero_le _) (by omega)
    · intro n c hc
      have ob := oC_b (A := A) (c := c) hT
      have ob2 := oC_b (A := A) (c := oM T A c) hT
      show lX4_greatestOdds_6 _ _ _ _ _ _ _ = lX4_greatestOdds_6 _ _ _ _ _ _ _
      rw [lX4_greatestOdds_6, h74, tC_cases hC, if_pos (nI_lt hc (by omega)), cOdds h74 hC hT hN hA hA25 he hc, gBd, nI_1 c, if_neg (Nat.succ_ne_zero c)]
      conv => rhs; unfold oM
      by_cases c0 : c = 0
      · rw [if_pos c0, if_pos (nI_lt (by omega) (by omega)), gB2]
        have e0 : oM T A c = 0 := by rw [c0]; rfl
        rw [e0]
        by_cases c1 : oC T A 0 < oC T A c
        · rw [if_pos c1]
        · rw [if_neg c1, c0]
      · rw [if_neg c0]
        by_cases c1 : oC T A (oM T A c) < oC T A c
        · rw [if_pos (nI_lt c1 (by omega)), gB2, if_pos c1]
        · rw [if_neg (nI_nlt (by omega) (by omega)), gB2, if_neg c1]
    · intro n
      show lX4_greatestOdds_6 _ _ _ _ _ _ _ = _
      rw [lX4_greatestOdds_6, h74, tC_cases hC, if_neg (nI_nlt (Nat.le_refl _) (by omega))]
  rw [key, gBd]
theorem mLikeliest (hR : R 102 3 = some b) (hM : tM M b T) (hT : tOk T) (hN : 5000 ≤ N) (hv : ∀ i, i < 18 → M 105 i = nI (B i)) (hAB : aB A B) (he : ∀ c, c < T 0 16 → M 114 c = nI (yH T A c)) : lX14_likeliest_26 N M R N 0 1 = some (nI (oM T A (T 0 16))) := by
  have hz := tO_sz hT
  have hcs := tCases_le (T := T) (by omega) (tO_stories hT)
  have hcp := tCases_pos (T := T)
  have e1 : oM T A 1 = 0 := by
    unfold oM
    split
    · rfl
    · rfl
  have key := gUpF (fun n i (x : Int32) => lX14_likeliest_26 N M R n x (nI i)) (fun i => nI (oM T A i)) 1 (T 0 16) (nI (oM T A (T 0 16))) ?_ ?_ N 1 (Nat.le_refl _) (by omega) (by omega)
  · have key' : lX14_likeliest_26 N M R N (nI (oM T A 1)) 1 = _ := key
    rw [e1] at key'
    exact key'
  · intro n c h1 hc
    have hm : oM T A c < T 0 16 := by
      rcases oM_lt (T := T) (A := A) c with h | h <;> omega
    have ob := oC_b (A := A) (c := c) hT
    have ob2 := oC_b (A := A) (c := oM T A c) hT
    show lX14_likeliest_26 _ _ _ _ _ _ = lX14_likeliest_26 _ _ _ _ _ _
    rw [lX14_likeliest_26, hR, gBd, mCasesT hM hT hN, gBd, if_pos (nI_lt hc (by omega)), mOdds hR hM hT hN hv hAB he hc, gBd, mOdds hR hM hT hN hv hAB he hm, gBd, nI_1 c]
    conv => rhs; unfold oM
    by_cases c1 : oC T A (oM T A c) < oC T A c
    · rw [if_pos (nI_lt c1 (by omega)), gBd, if_pos c1]
    · rw [if_neg (nI_nlt (by omega) (by omega)), gBd, if_neg c1]
  · intro n
    show lX14_likeliest_26 _ _ _ _ _ _ = _
    rw [lX14_likeliest_26, hR, gBd, mCasesT hM hT hN, gBd, if_neg (nI_nlt (Nat.le_refl _) (by omega))]
theorem sW_tb {g p h x : Nat} : ∀ n, (sW T A g p h n).testBit x = true ↔ ∃ c, c < n ∧ 0 < T 4 p ∧ eB T A c g = true ∧ tPl T c p h = x
  | 0 => by
    show (0 : Nat).testBit x = true ↔ _
    rw [Nat.zero_testBit]
    constructor
    · intro h; cases h
    · rintro ⟨c, hc, _⟩; exact absurd hc (Nat.not_lt_zero _)
  | n + 1 => by
    unfold sW
    rw [Nat.testBit_or, Bool.or_eq_true, sW_tb n]
    constructor
    · rintro (⟨c, h1, h2⟩ | h)
      · exact ⟨c, by omega, h2⟩
      · split at h
        · rename_i c1
          rw [Bool.and_eq_true, decide_eq_true_eq] at c1
          rw [gTb_pow, decide_eq_true_eq] at h
          exact ⟨n, by omega, c1.1, c1.2, h⟩
        · rw [Nat.zero_testBit] at h; cases h
    · rintro ⟨c, h1, h2, h3, h4⟩
      by_cases e : c = n
      · right
        rw [← e, decide_eq_true h2, h3, Bool.and_self, if_pos rfl, gTb_pow, decide_eq_true h4]
      · left
        exact ⟨c, by omega, h2, h3, h4⟩
def pV (T : tH) (A : Nat → Nat) (p q h s : Nat) : Bool := decide (sW T A s p h (T 0 16) = 2 ^ q)
def pM (T : tH) (A : Nat → Nat) (p q h n : Nat) : Nat × Nat := gMin gPc (pV T A p q h) 4294967294 7 n
theorem cProve (h74 : goRr R 74 2 = t) (hC : tC M t T) (hT : tOk T) (hN : 5000 ≤ N) (he : eT M T A (T 0 16)) {p q h s : Nat} (hp : p < T 0 4) (hq : q < T 0 2) (hh : h < T 0 0) (hs : s < 64) : fX4_prove N M R (nI s) (nI p) (nI q) (nI h) = some (nI (pV T A p q h s).toNat) := by
  have hz := tO_sz hT
  have hcs := tCases_le (T := T) (by omega) (tO_stories hT)
  unfold fX4_prove
  rw [h74, cCluesOf hC hT hN hs, gBd]
  have hz2 : ∀ x : Bool, goZr (nI x.toNat) = some (nI x.toNat) := fun x => by cases x <;> rfl
  have key := gLoop (fun n (a : Nat × Bool) => lX4_prove_19 (nI p) (nI q) (nI h) (nI (tCl T s)) M R n (nI a.2.toNat) (nI a.1)) (fun j a => j = T 0 16 - a.1 ∧ a.1 ≤ T 0 16 ∧ sW T A s p h a.1 = if a.2 then 2 ^ q else 0) (fun r => r = nI (pV T A p q h s).toNat) ?_ N (T 0 16) (0, false) ⟨by simp, Nat.zero_le _, rfl⟩ (by omega)
  · obtain ⟨r, k1, k2⟩ := key
    have k1' : lX4_prove_19 (nI p) (nI q) (nI h) (nI (tCl T s)) M R N 0 0 = some r := k1
    rw [k1', k2]
  · rintro n j ⟨c, any⟩ ⟨hj, hc, hw⟩
    show (∃ r, lX4_prove_19 _ _ _ _ _ _ _ _ _ = some r ∧ _) ∨ ∃ a' j', j' < j ∧ lX4_prove_19 _ _ _ _ _ _ _ _ _ = lX4_prove_19 _ _ _ _ _ _ _ _ _ ∧ _
    have hc' : c ≤ T 0 16 := hc
    have hw' : sW T A s p h c = if any then 2 ^ q else 0 := hw
    by_cases e : c = T 0 16
    · left
      refine ⟨nI any.toNat, ?_, ?_⟩
      · rw [lX4_prove_19, h74, tC_cases hC, if_neg (nI_nlt (by show T 0 16 ≤ c; omega) (by show c < 2 ^ 31; omega)), hz2, gBd]
      · unfold pV
        rw [← e, hw']
        have := gP2pos q
        cases any
        · rw [if_neg Bool.false_ne_true, decide_eq_false (by omega)]
        · rw [if_pos rfl, decide_eq_true rfl]
    · have hlt : c < T 0 16 := by omega
      rw [lX4_prove_19, h74, tC_cases hC, if_pos (nI_lt hlt (by omega)), cBears hT he hlt hs, gBd]
      cases eb : eB T A c s
      · right
        refine ⟨(c + 1, any), T 0 16 - (c + 1), by have : j = T 0 16 - c := hj; omega, ?_, rfl, hlt, ?_⟩
        · rw [if_pos (by decide), nI_1]
        · show sW T A s p h (c + 1) = if any then 2 ^ q else 0
          unfold sW
          rw [eb, Bool.and_false, if_neg Bool.false_ne_true, Nat.or_zero]
          exact hw'
      · rw [if_neg (by decide), cPlaceIn hC hT hp (by omega) (by omega), gBd]
        by_cases c0 : T 4 p = 0
        · left
          refine ⟨0, ?_, ?_⟩
          · rw [if_pos c0, if_neg (fun x => gI_nm1 (by omega) x.symm)]
          · have : pV T A p q h s = false := by
              unfold pV
              rw [decide_eq_false_iff_not]
              intro e2
              have h1 : (sW T A s p h (T 0 16)).testBit q = true := by rw [e2, gTb_pow, decide_eq_true rfl]
              obtain ⟨_, _, h3, _⟩ := (sW_tb (T 0 16)).mp h1
              omega
            rw [this]; rfl
        · have hpl := tPl_lt (c := c) (h := h) hT (show p < 4 by omega) (by omega) (by omega)
          rw [if_neg c0]
          by_cases c1 : tPl T c p h = q
          · right
            refine ⟨(c + 1, true), T 0 16 - (c + 1), by have : j = T 0 16 - c := hj; omega, ?_, rfl, hlt, ?_⟩
            · rw [if_pos (by rw [c1]), nI_1]; rfl
            · show sW T A s p h (c + 1) = if true then 2 ^ q else 0
              unfold sW
              rw [eb, decide_eq_true (by omega), Bool.and_self, if_pos rfl, if_pos rfl, c1, hw']
              cases any
              · rw [if_neg Bool.false_ne_true, Nat.zero_or]
              · rw [if_pos rfl, Nat.or_self]
          · left
            refine ⟨0, ?_, ?_⟩
            · rw [if_neg (fun x => c1 ((nI_eq (by omega) (by omega)).mp x))]
            · have : pV T A p q h s = false := by
                unfold pV
                rw [decide_eq_false_iff_not]
                intro e2
                have h1 : (sW T A s p h (T 0 16)).testBit (tPl T c p h) = true := (sW_tb (T 0 16)).mpr ⟨c, hlt, by omega, eb, rfl⟩
                rw [e2, gTb_pow, decide_eq_true_eq] at h1
                exact c1 h1.symm
              rw [this]; rfl
theorem cProving (h74 : goRr R 74 2 = t) (hC : tC M t T) (hT : tOk T) (hN : 5000 ≤ N) (he : eT M T A (T 0 16)) {p q h : Nat} (hp : p < T 0 4) (hq : q < T 0 2) (hh : h < T 0 0) : fX4_fewestProving N M R (nI p) (nI q) (nI h) = some (nI (pM T A p q h (2 ^ T 0 5)).1) := by
  have hz := tO_sz hT
  have hp2 := gP2 (n := T 0 5) (by omega)
  unfold fX4_fewestProving
  have key := gUp (fun n i (x : Int32 × Int32) => lX4_fewestProving_11 N (nI p) (nI q) (nI h) M R n x.1 x.2 (nI i)) (fun i => (nI (pM T A p q h i).1, nI (pM T A p q h i).2)) (2 ^ T 0 5) (nI (pM T A p q h (2 ^ T 0 5)).1) ?_ ?_ N 0 (Nat.zero_le _) (by omega)
  · have key' : lX4_fewestProving_11 N (nI p) (nI q) (nI h) M R N (-2) 7 0 = _ := key
    rw [key', gBd]
  · intro n s hs
    have hpc := gPc_le s
    have hle : (pM T A p q h s).2 ≤ 7 := gMin_le _
    show lX4_fewestProving_11 _ _ _ _ _ _ _ _ _ _ = lX4_fewestProving_11 _ _ _ _ _ _ _ _ _ _
    have e2 : pM T A p q h (s + 1) = if pV T A p q h s && decide (gPc s < (pM T A p q h s).2) then (s, gPc s) else pM T A p q h s := rfl
    rw [lX4_fewestProving_11, h74, (tC_herd hC).1, gI_shl1 (by omega), if_pos (nI_lt hs (by omega)), gPc_bc _ (by omega), e2, nI_1 s]
    by_cases c2 : gPc s < (pM T A p q h s).2
    · rw [if_pos (nI_lt c2 (by omega)), cProve h74 hC hT hN he hp hq hh (by omega), gBd, decide_eq_true c2, Bool.and_true]
      cases pV T A p q h s
      · rw [if_pos (by decide), gB2, if_neg Bool.false_ne_true]
      · rw [if_neg (by decide), gNm, gB2, if_pos rfl]
    · rw [if_neg (nI_nlt (by omega) (by omega)), gB2, decide_eq_false c2, Bool.and_false, if_neg Bool.false_ne_true]
  · intro n
    show lX4_fewestProving_11 _ _ _ _ _ _ _ _ _ _ = _
    rw [lX4_fewestProving_11, h74, (tC_herd hC).1, gI_shl1 (by omega), if_neg (nI_nlt (Nat.le_refl _) (by omega))]
theorem mProving (hR : R 102 3 = some b) (hM : tM M b T) (hT : tOk T) (hN : 5000 ≤ N) (he : ∀ c, c < T 0 16 → M 114 c = nI (yH T A c)) {p q h : Nat} (hp : p < T 0 4) (hq : q < T 0 2) (hh : h < T 0 0) : lX14_proved_50 N (nI p) (nI q) (nI h) M R N (-2) 0 = some (nI (pM T A p q h (2 ^ T 0 5)).1) := by
  have hz := tO_sz hT
  have hp2 := gP2 (n := T 0 5) (by omega)
  have hp0 := gP2pos (T 0 5)
  have hq2 : 2 ^ q < 2 ^ 8 := Nat.pow_lt_pow_right (by decide) (by omega)
  refine gUp (fun n i (x : Int32) => lX14_proved_50 N (nI p) (nI q) (nI h) M R n x (nI i)) (fun i => nI (pM T A p q h i).1) (2 ^ T 0 5) _ ?_ ?_ N 0 (Nat.zero_le _) (by omega)
  · intro n s hs
    have hpc := gPc_le2 (n := T 0 5) (by omega) hs
    have hcb := mCould (h := h) (p := p) (g := s) hR hM hT hN he hp hh (by omega)
    have hwl := sW_lt (A := A) (g := s) hT (show p < 4 by omega) (show h < 12 by omega) (T 0 16)
    show lX14_proved_50 _ _ _ _ _ _ _ _ _ = lX14_proved_50 _ _ _ _ _ _ _ _ _
    have e2 : pM T A p q h (s + 1) = if pV T A p q h s && decide (gPc s < (pM T A p q h s).2) then (s, gPc s) else pM T A p q h s := rfl
    have hno : (pM T A p q h s).2 < 7 ∨ pM T A p q h s = (4294967294, 7) := gMin_no
    have hin : (pM T A p q h s).2 < 7 → (pM T A p q h s).1 < s ∧ pV T A p q h (pM T A p q h s).1 = true ∧ gPc (pM T A p q h s).1 = (pM T A p q h s).2 := fun x => gMin_in x
    have hpv : (nI (sW T A s p h (T 0 16)) = nI (2 ^ q)) ↔ pV T A p q h s = true := by
      unfold pV
      rw [decide_eq_true_eq, nI_eq (by omega) (by omega)]
    rw [lX14_proved_50, m_all hR hM (by omega), gBd, if_pos (nI_le (by omega) (by omega)), e2, nI_1 s, gI_shl1 (by omega), hcb, gBd]
    rcases hno with h9 | h9
    · obtain ⟨i1, i2, i3⟩ := hin h9
      rw [if_neg (gI_nm2 (by omega)), gPc_bits (by omega) (by omega), gBd, gPc_bits (by omega) (by omega), gBd, i3]
      by_cases c2 : gPc s < (pM T A p q h s).2
      · rw [if_pos (nI_lt c2 (by omega)), decide_eq_true c2, Bool.and_true]
        cases pv : pV T A p q h s
        · rw [if_neg (fun x => by rw [hpv.mp x] at pv; cases pv), gBd, if_neg Bool.false_ne_true]
        · rw [if_pos (hpv.mpr pv), gBd, if_pos rfl]
      · rw [if_neg (nI_nlt (by omega) (by omega)), gBd, decide_eq_false c2, Bool.and_false, if_neg Bool.false_ne_true]
    · rw [h9, if_pos (show nI 4294967294 = -2 from rfl), decide_eq_true (show gPc s < 7 by omega), Bool.and_true]
      cases pv : pV T A p q h s
      · rw [if_neg (fun x => by rw [hpv.mp x] at pv; cases pv), gBd, if_neg Bool.false_ne_true]
      · rw [if_pos (hpv.mpr pv), gBd, if_pos rfl]
  · intro n
    show lX14_proved_50 _ _ _ _ _ _ _ _ _ = _
    rw [lX14_proved_50, m_all hR hM (by omega), gBd, if_neg (nI_ge (by omega) (by omega))]
end ev4
theorem go_odds : goS_odds gInv := by
  rintro k G M L R a1 ⟨t, T, A, B, hX⟩ hk
  have hI := iM_b hX.2.2.2.1
  have hC := hX.2.2.1
  by_cases c0 : wi a1 (T 0 16) = true
  · obtain ⟨c, hc, rfl⟩ := wi_t (by omega) c0
    obtain ⟨b, b1, b2, b3, b4⟩ := iM_some hX.2.2.2.1 (i := 0) (j := 16) (by omega)
    have hAB := hX.2.2.2.2.1.2.2.1.1
    have hA25 := hAB.2.2.2.2.2.2
    have h74 : goRr R 74 2 = t := by unfold goRr; rw [hX.2.1.2.2.2.1]; rfl
    obtain ⟨Me, e1, e2, e3, e4, e5, e6, e7⟩ := iEv hX b1 b2 b3 b4
    obtain ⟨Mm, m1, m2, m3, m4, m5, m6, m7, m8⟩ := e7 0
    refine ⟨5000, nI (oC T A c), goWI Me 0 8 0, _, ?_, ?_, m5 (by decide)⟩
    · unfold fX12_odds fX12_isCase
      rw [iR5 hX, tC_cases hC, cWithin, c0, if_neg (by decide), e1, gBd, cOdds h74 e2 b4 (by decide) e3 hA25 e4 hc, gBd, cAns, gB2]
    · unfold fX14_odds
      rw [gNm, m_isCase (by decide) m6, c0, gBd, if_neg (by decide), m1, gBd, mOdds b1 m3 b4 (by decide) m4 hAB m2 hc, gBd, mGood, gB2]
  · rw [Bool.not_eq_true] at c0
    refine ⟨5000, -1, goWI M 0 8 1, _, ?_, ?_, iNo hX (w := 1) (by decide)⟩
    · unfold fX12_odds fX12_isCase
      rw [iR5 hX, tC_cases hC, cWithin, c0, if_pos (by decide), cRef, gB2]
    · unfold fX14_odds
      rw [gNm, m_isCase (by decide) (iI hX 1), c0, gBd, if_pos (by decide), mRef, gB2]
theorem go_likeliest : goS_likeliest gInv := by
  rintro k G M L R ⟨t, T, A, B, hX⟩ hk
  rcases hX.2.2.2.1 with ⟨h1, h2⟩ | ⟨b, b1, b2, b3, b4⟩
  · refine ⟨5000, -1, goWI M 0 8 1, _, ?_, ?_, iNo hX (w := 1) (by decide)⟩
    · unfold fX12_likeliest
      rw [cIsHill0 hX h1, if_pos rfl, cRef, gB2]
    · unfold fX14_likeliest
      rw [gNm, if_pos h1, mRef, gB2]
  · have hAB := hX.2.2.2.2.1.2.2.1.1
    have hA25 := hAB.2.2.2.2.2.2
    have h74 : goRr R 74 2 = t := by unfold goRr; rw [hX.2.1.2.2.2.1]; rfl
    obtain ⟨Me, e1, e2, e3, e4, e5, e6, e7⟩ := iEv hX b1 b2 b3 b4
    obtain ⟨Mm, m1, m2, m3, m4, m5, m6⟩ := e7 0
    refine ⟨5000, nI (oM T A (T 0 16)), goWI Me 0 8 0, _, ?_, ?_, m5 (by decide)⟩
    · unfold fX12_likeliest
      rw [cIsHill1 hX b4, if_neg (by decide), e1, gBd, cGreatest h74 e2 b4 (by decide) e3 hA25 e4, gBd, cAns, gB2]
    · unfold fX14_likeliest
      rw [gNm, b1, if_neg (by simp), m1, gBd, mLikeliest b1 m3 b4 (by decide) m4 hAB m2, gBd, mGood, gB2]
theorem go_proved : goS_proved gInv := by
  rintro k G M L R a1 a2 a3 ⟨t, T, A, B, hX⟩ hk
  have hI := iM_b hX.2.2.2.1
  have hC := hX.2.2.1
  by_cases c0 : wi a1 (T 0 4) = true
  · obtain ⟨p, hp, rfl⟩ := wi_t (by omega) c0
    obtain ⟨b, b1, b2, b3, b4⟩ := iM_some hX.2.2.2.1 (i := 0) (j := 4) (by omega)
    have b3' := fun w => tM_w (w := w) b2 b3
    have h74 : goRr R 74 2 = t := by unfold goRr; rw [hX.2.1.2.2.2.1]; rfl
    by_cases c1 : wi a2 (T 0 2) = true
    · obtain ⟨q, hq, rfl⟩ := wi_t (by omega) c1
      by_cases c2 : wi a3 (T 0 0) = true
      · obtain ⟨h, hh, rfl⟩ := wi_t (by omega) c2
        obtain ⟨Me, e1, e2, e3, e4, e5, e6, e7⟩ := iEv hX b1 b2 b3 b4
        obtain ⟨Mm, m1, m2, m3, m4, m5, m6, m7, m8⟩ := e7 0
        refine ⟨5000, nI (pM T A p q h (2 ^ T 0 5)).1, goWI Me 0 8 0, _, ?_, ?_, m5 (by decide)⟩
        · unfold fX12_proved fX12_isPerson fX12_isPlace fX12_isHour
          rw [iR5 hX, tC_people hC, tC_places hC, tC_hours hC, cWithin, cWithin, cWithin, c0, c1, c2, if_neg (by decide), if_neg (by decide), if_neg (by decide), e1, gBd, cProving h74 e2 b4 (by decide) e4 hp hq hh, gBd, cAns, gB2]
        · unfold fX14_proved fX14_refusesPerson
          rw [gNm, m_isPlace m6, m_isPerson m6, m_isHour b1 m7, c0, c1, c2, gBd, if_neg (by decide), gBd, if_neg (by decide), gBd, if_neg (by decide), gBd, if_neg (by decide), m1, gBd, mProving b1 m3 b4 (by decide) m2 hp hq hh, gBd, mGood, gB2]
      · rw [Bool.not_eq_true] at c2
        refine ⟨5000, -1, goWI M 0 8 2, _, ?_, ?_, iNo hX (w := 2) (by decide)⟩
        · unfold fX12_proved fX12_isPerson fX12_isPlace fX12_isHour
          rw [iR5 hX, tC_people hC, tC_places hC, tC_hours hC, cWithin, cWithin, cWithin, c0, c1, c2, if_neg (by decide), if_neg (by decide), if_pos (by decide), cRef, gB2]
        · unfold fX14_proved fX14_refusesPerson
          rw [gNm, m_isPlace (iI hX 2), m_isPerson (iI hX 2), m_isHour b1 (b3' 2), c0, c1, c2, gBd, if_neg (by decide), gBd, if_neg (by decide), gBd, if_pos (by decide), gBd, if_pos (by decide), mRef, gB2]
    · rw [Bool.not_eq_true] at c1
      refine ⟨5000, -1, goWI M 0 8 1, _, ?_, ?_, iNo hX (w := 1) (by decide)⟩
      · unfold fX12_proved fX12_isPerson fX12_isPlace
        rw [iR5 hX, tC_people hC, tC_places hC, cWithin, cWithin, c0, c1, if_neg (by decide), if_pos (by decide), cRef, gB2]
      · unfold fX14_proved
        rw [gNm, m_isPlace (iI hX 1), c1, gBd, if_pos (by decide), mRef, gB2]
  · rw [Bool.not_eq_true] at c0
    refine ⟨5000, -1, goWI M 0 8 1, _, ?_, ?_, iNo hX (w := 1) (by decide)⟩
    · unfold fX12_proved fX12_isPerson
      rw [iR5 hX, tC_people hC, cWithin, c0, if_pos (by decide), cRef, gB2]
    · unfold fX14_proved fX14_refusesPerson
      rw [gNm, m_isPlace (iI hX 1), m_isPerson (iI hX 1), gBd]
      cases c1 : wi a2 (T 0 2)
      · rw [if_pos (by decide), mRef, gB2]
      · rw [if_neg (by decide), c0, gBd, if_pos (by decide), gBd, if_pos (by decide), mRef, gB2]
