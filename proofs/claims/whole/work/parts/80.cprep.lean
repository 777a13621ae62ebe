/-! THE COMPONENT MAKES A DAY READY -/
theorem gFill {M : goMI} {a n N : Nat} {v : Int32} (hn : n < 4000) (hN : 5000 ≤ N) : ∃ M', fJ7_fill_53178 N M a n v = some M' ∧ (∀ b, b ≠ a → M' b = M b) ∧ ∀ j, j < n → M' a j = v := by
  have key : ∃ M', lJ7_fill_53178_5 v (nI n) a n N (nI 0) M = some M' ∧ (∀ b, b ≠ a → M' b = M b) ∧ ∀ j, j < n → M' a j = v := by
    refine gFor (fun k i M1 => lJ7_fill_53178_5 v (nI n) a n k (nI i) M1) (fun i M1 => (∀ b, b ≠ a → M1 b = M b) ∧ ∀ j, j < i → M1 a j = v) _ n ?_ ?_ N 0 M (Nat.zero_le _) ⟨fun _ _ => rfl, fun j hj => absurd hj (Nat.not_lt_zero _)⟩ (by omega)
    · intro k i M1 hi hP
      refine ⟨goWI M1 a i v, ?_, fun b hb => by rw [goWI_ne hb]; exact hP.1 b hb, fun j hj => ?_⟩
      · show lJ7_fill_53178_5 _ _ _ _ _ _ _ = lJ7_fill_53178_5 _ _ _ _ _ _ _
        rw [lJ7_fill_53178_5, if_pos (nI_lt hi (by omega)), gWr hi (by omega), gBd, nI_1]
      · rw [gWI_self]
        split
        · rfl
        · exact hP.2 j (by omega)
    · intro k M1 hP
      refine ⟨M1, ?_, hP⟩
      show lJ7_fill_53178_5 _ _ _ _ _ _ _ = _
      rw [lJ7_fill_53178_5, if_neg (nI_nlt (Nat.le_refl _) (by omega))]
  obtain ⟨M', e1, e2⟩ := key
  refine ⟨M', ?_, e2⟩
  unfold fJ7_fill_53178
  have e1' : lJ7_fill_53178_5 v (Int32.ofNat n) a n N 0 M = some M' := e1
  rw [gNm, e1', gBd]
/-- open ways after some of the paths -/
def dOi (T : tH) (hg p : Nat) : Nat → Nat
  | 0 => 0
  | i + 1 => dOi T hg p i ||| (if hg.testBit i then 0 else (if T 2 i = p then 2 ^ T 3 i else 0) ||| (if T 3 i = p then 2 ^ T 2 i else 0))
theorem dOi_tb {T : tH} {hg p q : Nat} : ∀ n, (dOi T hg p n).testBit q = true ↔ ∃ i, i < n ∧ hg.testBit i = false ∧ tJ T p q i = true
  | 0 => by
    unfold dOi
    rw [Nat.zero_testBit]
    constructor
    · intro h; cases h
    · intro h; obtain ⟨i, hi, _⟩ := h; omega
  | n + 1 => by
    have ih := dOi_tb (T := T) (hg := hg) (p := p) (q := q) n
    have hstep : (if hg.testBit n then 0 else (if T 2 n = p then 2 ^ T 3 n else 0) ||| (if T 3 n = p then 2 ^ T 2 n else 0)).testBit q = (!hg.testBit n && tJ T p q n) := by
      unfold tJ
      cases hg.testBit n
      · by_cases c1 : T 2 n = p <;> by_cases c2 : T 3 n = p <;> simp [c1, c2, gTb_pow, Nat.testBit_or]
      · simp
    unfold dOi
    rw [Nat.testBit_or, Bool.or_eq_true, ih, hstep, Bool.and_eq_true, Bool.not_eq_true']
    constructor
    · rintro (⟨i, h1, h2⟩ | h)
      · exact ⟨i, by omega, h2⟩
      · exact ⟨n, by omega, h⟩
    · rintro ⟨i, h1, h2⟩
      by_cases c : i = n
      · right; rw [← c]; exact h2
      · left; exact ⟨i, by omega, h2⟩
theorem tJ_one {T : tH} (hT : tOk T) {p q i j : Nat} (hi : i < T 0 3) (hj : j < T 0 3) (h1 : tJ T p q i = true) (h2 : tJ T p q j = true) : i = j := by
  have key : ∀ i j, i < T 0 3 → j < i → tJ T p q i = true → tJ T p q j = true → False := by
    intro i j hi hj h1 h2
    have h3 := (tO_path hT i hi).2.2.2 j hj
    unfold tJ at h1 h2 h3
    simp only [Bool.or_eq_true, Bool.and_eq_true, decide_eq_true_eq, Bool.or_eq_false_iff, Bool.and_eq_false_iff, decide_eq_false_iff_not] at h1 h2 h3
    omega
  rcases Nat.lt_trichotomy i j with h | h | h
  · exact (key j i hj h h2 h1).elim
  · exact h
  · exact (key i j hi h h1 h2).elim
theorem dOi_op {T : tH} (hT : tOk T) (hg p : Nat) : dOi T hg p (T 0 3) = dOp T hg p := by
  have hz := tO_sz hT
  apply Nat.eq_of_testBit_eq
  intro q
  rw [Bool.eq_iff_iff, dOi_tb]
  unfold dOp
  rw [gBits_tb, Bool.and_eq_true, Bool.and_eq_true, decide_eq_true_eq, decide_eq_true_eq, Bool.not_eq_true']
  constructor
  · rintro ⟨i, h1, h2, h3⟩
    have h4 : tPath T p q < T 0 3 := by
      apply Classical.byContradiction
      intro hn
      have : tPath T p q = T 0 3 := by have := gFst_le (p := tJ T p q) (T 0 3); unfold tPath at hn ⊢; omega
      have := gFst_np (p := tJ T p q) (n := T 0 3) (i := i) (by unfold tPath at this; omega)
      rw [h3] at this
      cases this
    have h5 : tJ T p q (tPath T p q) = true := gFst_p h4
    have h6 := tJ_one hT h1 h4 h3 h5
    have h7 := tO_path hT i h1
    refine ⟨?_, h4, by rw [← h6]; exact h2⟩
    unfold tJ at h3
    simp only [Bool.or_eq_true, Bool.and_eq_true, decide_eq_true_eq] at h3
    omega
  · rintro ⟨h1, h2, h3⟩
    exact ⟨tPath T p q, h2, h3, gFst_p h2⟩
theorem dOi_b {T : tH} (hT : tOk T) {hg p : Nat} : ∀ n, n ≤ T 0 3 → dOi T hg p n < 256
  | 0, _ => Nat.lt_of_lt_of_le Nat.one_pos (by decide)
  | n + 1, hn => by
    have hz := tO_sz hT
    have h7 := tO_path hT n hn
    have h2 : 2 ^ T 2 n < 2 ^ 8 := Nat.pow_lt_pow_right (by decide) (by omega)
    have h3 : 2 ^ T 3 n < 2 ^ 8 := Nat.pow_lt_pow_right (by decide) (by omega)
    unfold dOi
    refine Nat.or_lt_two_pow (n := 8) (dOi_b hT n (by omega)) ?_
    split
    · decide
    · refine Nat.or_lt_two_pow (n := 8) ?_ ?_
      · split
        · exact h3
        · decide
      · split
        · exact h2
        · decide
section cPrep
variable {M : goMI} {R : goMR} {T : tH} {t a N : Nat} {A : Nat → Nat}
theorem cOpenPaths (hC : tC M t T) (hT : tOk T) (hR : goRr R a 1 = t) (hta : t + 29 < a) (h4a : 4 < a) (hN : 5000 ≤ N) (hA : M 4 24 = nI (A 24)) (hA24 : A 24 < 16384) : ∃ M', fX3_openPaths N M R a = some M' ∧ (∀ b, b ≠ a + 3 → M' b = M b) ∧ ∀ p, p < 8 → M' (a + 3) p = nI (dOp T (A 24) p) := by
  have hz := tO_sz hT
  unfold fX3_openPaths
  obtain ⟨M1, e1, f1, g1⟩ := gFill (M := M) (a := a + 3) (n := 8) (v := 0) (N := N) (by decide) hN
  rw [e1, gBd]
  have key : ∃ M', lX3_openPaths_10 R a N (nI 0) M1 = some M' ∧ (∀ b, b ≠ a + 3 → M' b = M b) ∧ ∀ p, p < 8 → M' (a + 3) p = nI (dOp T (A 24) p) := by
    refine gFor (fun n i M' => lX3_openPaths_10 R a n (nI i) M') (fun i M' => (∀ b, b ≠ a + 3 → M' b = M b) ∧ ∀ p, p < 8 → M' (a + 3) p = nI (dOi T (A 24) p i)) _ (T 0 3) ?_ ?_ N 0 M1 (Nat.zero_le _) ⟨f1, fun p hp => by rw [g1 p hp]; rfl⟩ (by omega)
    · intro n i M2 hi hP
      obtain ⟨fr, rw2⟩ := hP
      obtain ⟨h2, h3, h23, _⟩ := tO_path hT i hi
      have p3 : M2 t 3 = nI (T 0 3) := by rw [fr _ (by omega)]; exact tC_paths hC
      have pf : M2 (t + 3) i = nI (T 2 i) := by rw [fr _ (by omega)]; exact tC_pathFrom hC i hi
      have pt : M2 (t + 4) i = nI (T 3 i) := by rw [fr _ (by omega)]; exact tC_pathTo hC i hi
      have h4 : M2 4 24 = nI (A 24) := by rw [fr _ (by omega)]; exact hA
      have r2 := rw2 (T 2 i) (by omega)
      have r3 := rw2 (T 3 i) (by omega)
      have b2 := dOi_b (hg := A 24) (p := T 2 i) hT i (by omega)
      have b3 := dOi_b (hg := A 24) (p := T 3 i) hT i (by omega)
      by_cases c : (A 24).testBit i = true
      · refine ⟨M2, ?_, fr, fun p hp => ?_⟩
        · show lX3_openPaths_10 _ _ _ _ _ = lX3_openPaths_10 _ _ _ _ _
          rw [lX3_openPaths_10, hR]
          simp (disch := omega) only [p3, hi, h4, c, Bool.true_eq_false, ↓reduceIte, gL_0, gL_1, gL_2, gL_3, gL_4, gL_5, gL_6, gL_7, gL_8, gL_9, gL_10, gL_11, gL_12, gL_13, gL_14, gL_15, gL_16, gL_17, gL_18, gL_19, gL_20, gL_21, gL_22, gL_23, gL_24, gL_25, gL_26, gL_27, gL_31, gL_32, gL_40, gL_44, gL_48, gL_57, gL_59, gL_63, gL_72, gL_78, gL_81, gL_82, gL_96, gL_97, gL_99, gL_100, gL_122, gL_144, gL_192, gL_255, gL_270, gL_288, gL_1200, nI_add, pk_sub, pk_div, gMod, gM_2, gN_2, gM_3, gN_3, gM_4, gN_4, gM_8, gN_8, gM_10, gN_10, gM_12, gN_12, gM_14, gN_14, gM_16, gN_16, gM_18, gN_18, gM_26, gN_26, gM_32, gN_32, gM_72, gN_72, gM_100, gN_100, gBd, gNm, gB2, gB3, gB4, gRd, gWr, gI_bit, gI_bit14, gI_tn1n, gI_tn0n, Bool.toNat_true, Bool.toNat_false, Nat.one_ne_zero, Nat.zero_ne_one, eq_self, gIe00, gIe01, gIe10, gIe11, nI_eq, nI_leI, nI_ltI, gI_or, gI_xor, gI_shl1n, gI_shr31, gI_not1, gI_and15, gI_and1n]
        · rw [rw2 p hp]
          conv => rhs; unfold dOi
          rw [c, if_pos rfl, Nat.or_zero]
      · rw [Bool.not_eq_true] at c
        refine ⟨goWI (goWI M2 (a + 3) (T 2 i) (nI (dOi T (A 24) (T 2 i) i ||| 2 ^ T 3 i))) (a + 3) (T 3 i) (nI (dOi T (A 24) (T 3 i) i ||| 2 ^ T 2 i)), ?_, fun b hb => by rw [goWI_ne hb, goWI_ne hb]; exact fr b hb, fun p hp => ?_⟩
        · show lX3_openPaths_10 _ _ _ _ _ = lX3_openPaths_10 _ _ _ _ _
          rw [lX3_openPaths_10, hR]
          have w1 : ∀ x k j, goWI M2 (a + 3) k x (t + 4) j = M2 (t + 4) j := fun x k j => gWI_na (by omega)
          have w2 : ∀ x k j, goWI M2 (a + 3) k x (t + 3) j = M2 (t + 3) j := fun x k j => gWI_na (by omega)
          have w3 : ∀ x, goWI M2 (a + 3) (T 2 i) x (a + 3) (T 3 i) = M2 (a + 3) (T 3 i) := fun x => gWI_nk (by omega)
          simp (disch := omega) only [p3, pf, pt, r2, r3, hi, h4, c, w1, w2, w3, ↓reduceIte, gL_0, gL_1, gL_2, gL_3, gL_4, gL_5, gL_6, gL_7, gL_8, gL_9, gL_10, gL_11, gL_12, gL_13, gL_14, gL_15, gL_16, gL_17, gL_18, gL_19, gL_20, gL_21, gL_22, gL_23, gL_24, gL_25, gL_26, gL_27, gL_31, gL_32, gL_40, gL_44, gL_48, gL_57, gL_59, gL_63, gL_72, gL_78, gL_81, gL_82, gL_96, gL_97, gL_99, gL_100, gL_122, gL_144, gL_192, gL_255, gL_270, gL_288, gL_1200, nI_add, pk_sub, pk_div, gMod, gM_2, gN_2, gM_3, gN_3, gM_4, gN_4, gM_8, gN_8, gM_10, gN_10, gM_12, gN_12, gM_14, gN_14, gM_16, gN_16, gM_18, gN_18, gM_26, gN_26, gM_32, gN_32, gM_72, gN_72, gM_100, gN_100, gBd, gNm, gB2, gB3, gB4, gRd, gWr, gI_bit, gI_bit14, gI_tn1n, gI_tn0n, Bool.toNat_true, Bool.toNat_false, Nat.one_ne_zero, Nat.zero_ne_one, eq_self, gIe00, gIe01, gIe10, gIe11, nI_eq, nI_leI, nI_ltI, gI_or, gI_xor, gI_shl1n, gI_shr31, gI_not1, gI_and15, gI_and1n]
        · conv => rhs; unfold dOi
          rw [c, if_neg Bool.false_ne_true, gWI_self, gWI_self, rw2 p hp]
          by_cases c3 : p = T 3 i
          · rw [if_pos c3, if_neg (show ¬ T 2 i = p by omega), if_pos c3.symm, Nat.zero_or, c3]
          · rw [if_neg c3]
            by_cases c2 : p = T 2 i
            · rw [if_pos c2, if_pos c2.symm, if_neg (fun e => c3 e.symm), Nat.or_zero, c2]
            · rw [if_neg c2, if_neg (fun e => c2 e.symm), if_neg (fun e => c3 e.symm), Nat.or_zero, Nat.or_zero]
    · intro n M2 hP
      refine ⟨M2, ?_, hP.1, fun p hp => by rw [← dOi_op hT]; exact hP.2 p hp⟩
      show lX3_openPaths_10 _ _ _ _ _ = _
      rw [lX3_openPaths_10, hR, hP.1 _ (by omega), tC_paths hC, if_neg (nI_nlt (Nat.le_refl _) (by omega))]
  obtain ⟨M', k1, k2⟩ := key
  have k1' : lX3_openPaths_10 R a N 0 M1 = some M' := k1
  rw [k1', gBd]
  exact ⟨M', rfl, k2⟩
theorem cStoryIn (hC : tC M t T) (h4 : T 0 4 ≤ 4) (hs : ∀ p, p < 4 → T 4 p ≤ 3) {c p : Nat} (hp : p < T 0 4) (hc : c < 2 ^ 31) : fX6_storyIn M t (nI c) (nI p) = some (if T 4 p = 0 then -2 else nI (tSt T c p)) := by
  have hsp := hs p (by omega)
  have h1 := tBy_pos (T := T) (p := p)
  have h2 := tBy_le (T := T) (p := p) h4 hs
  have e5 := tC_stories hC p (by omega)
  have e6 := tC_weights hC p hp
  unfold fX6_storyIn
  simp (disch := omega) only [e5, e6, gL_0, gL_1, gL_2, gL_3, gL_4, gL_5, gL_6, gL_7, gL_8, gL_9, gL_10, gL_11, gL_12, gL_13, gL_14, gL_15, gL_16, gL_17, gL_18, gL_19, gL_20, gL_21, gL_22, gL_23, gL_24, gL_25, gL_26, gL_27, gL_31, gL_32, gL_40, gL_44, gL_48, gL_57, gL_59, gL_63, gL_72, gL_78, gL_81, gL_82, gL_96, gL_97, gL_99, gL_100, gL_122, gL_144, gL_192, gL_255, gL_270, gL_288, gL_1200, gRd, gBd, nI_ltI, nI_leI]
  by_cases c0 : T 4 p = 0
  · simp only [c0, Nat.lt_irrefl, ↓reduceIte]
  · have hq := Nat.div_le_self c (tBy T p)
    have z1 : goNz (nI (tBy T p)) = some () := if_neg (nI_ne0 h1 (by omega))
    have z2 : goNz (nI (T 4 p)) = some () := if_neg (nI_ne0 (by omega) (by omega))
    rw [if_pos (by omega), if_neg (by omega), z1, gBd, z2, gBd, pk_div hc h1 (by omega), pk_rem (by omega) (by omega) (by omega), if_neg c0]
    rfl
theorem cMinds (hC : tC M t T) (hT : tOk T) {g p : Nat} (hg : g < T 0 5) (hp : p < 4) : fX5_minds M (t + 9) (nI g) (nI p) = some (nI (dMi T g p).toNat) := by
  have hz := tO_sz hT
  obtain ⟨h10, h11, h13, h16, h15⟩ := tC_goats hC g hg
  obtain ⟨o6, _⟩ := tO_goat hT g hg
  have h14 := tC_fears hC g (by omega)
  have hf := (tO_fear hT g (by omega)).1
  unfold fX5_minds dMi
  simp (disch := omega) only [show t + 9 + 1 = t + 10 from rfl, show t + 9 + 5 = t + 14 from rfl, h10, h14, ↓reduceIte, gL_0, gL_1, gL_2, gL_3, gL_4, gL_5, gL_6, gL_7, gL_8, gL_9, gL_10, gL_11, gL_12, gL_13, gL_14, gL_15, gL_16, gL_17, gL_18, gL_19, gL_20, gL_21, gL_22, gL_23, gL_24, gL_25, gL_26, gL_27, gL_31, gL_32, gL_40, gL_44, gL_48, gL_57, gL_59, gL_63, gL_72, gL_78, gL_81, gL_82, gL_96, gL_97, gL_99, gL_100, gL_122, gL_144, gL_192, gL_255, gL_270, gL_288, gL_1200, nI_add, pk_sub, pk_div, gMod, gM_2, gN_2, gM_3, gN_3, gM_4, gN_4, gM_8, gN_8, gM_10, gN_10, gM_12, gN_12, gM_14, gN_14, gM_16, gN_16, gM_18, gN_18, gM_26, gN_26, gM_32, gN_32, gM_72, gN_72, gM_100, gN_100, gBd, gNm, gB2, gB3, gB4, gRd, gWr, gI_bit, gI_bit14, gI_tn1n, gI_tn0n, Bool.toNat_true, Bool.toNat_false, Nat.one_ne_zero, Nat.zero_ne_one, eq_self, gIe00, gIe01, gIe10, gIe11, nI_eq, nI_leI, nI_ltI, gI_or, gI_xor, gI_shl1n, gI_shr31, gI_not1, gI_and15, gI_and1n]
  by_cases c1 : T 6 g = 1
  · simp [c1]
  · by_cases c2 : T 6 g = 2
    · simp [c2]
    · cases c3 : (T 12 g).testBit p <;> simp [c1, c2]
theorem cToldPlace (hC : tC M t T) (hT : tOk T) {p i h : Nat} (hp : p < 4) (hi : i < T 4 p) (hh : h < 12) : fX6_toldPlace M t (nI p) (nI i) (nI h) = some (nI (T 5 (12 * (3 * p + i) + h))) := by
  have := tO_stories hT p hp
  have e := tC_tells hC p i h hp hi hh
  unfold fX6_toldPlace
  simp (disch := omega) only [e, ↓reduceIte, gL_0, gL_1, gL_2, gL_3, gL_4, gL_5, gL_6, gL_7, gL_8, gL_9, gL_10, gL_11, gL_12, gL_13, gL_14, gL_15, gL_16, gL_17, gL_18, gL_19, gL_20, gL_21, gL_22, gL_23, gL_24, gL_25, gL_26, gL_27, gL_31, gL_32, gL_40, gL_44, gL_48, gL_57, gL_59, gL_63, gL_72, gL_78, gL_81, gL_82, gL_96, gL_97, gL_99, gL_100, gL_122, gL_144, gL_192, gL_255, gL_270, gL_288, gL_1200, nI_add, pk_sub, pk_div, gMod, gM_2, gN_2, gM_3, gN_3, gM_4, gN_4, gM_8, gN_8, gM_10, gN_10, gM_12, gN_12, gM_14, gN_14, gM_16, gN_16, gM_18, gN_18, gM_26, gN_26, gM_32, gN_32, gM_72, gN_72, gM_100, gN_100, gBd, gNm, gB2, gB3, gB4, gRd, gWr, gI_bit, gI_bit14, gI_tn1n, gI_tn0n, Bool.toNat_true, Bool.toNat_false, Nat.one_ne_zero, Nat.zero_ne_one, eq_self, gIe00, gIe01, gIe10, gIe11, nI_eq, nI_leI, nI_ltI, gI_or, gI_xor, gI_shl1n, gI_shr31, gI_not1, gI_and15, gI_and1n]
/-- the feared places, part of the way: person p, goat g, hour h are next -/
def dV (T : tH) (c p g h j : Nat) : Nat := if j / 12 < T 0 5 ∧ j % 12 < T 0 0 then dPf T c (j / 12) (j % 12) (if j / 12 < g ∨ (j / 12 = g ∧ j % 12 < h) then p + 1 else p) else 0
theorem dPf_b {c g h : Nat} (hT : tOk T) (hh : h < 12) : ∀ n, n ≤ T 0 4 → dPf T c g h n < 256
  | 0, _ => Nat.lt_of_lt_of_le Nat.one_pos (by decide)
  | n + 1, hn => by
    have hz := tO_sz hT
    unfold dPf
    refine Nat.or_lt_two_pow (n := 8) (dPf_b hT hh n (by omega)) ?_
    split
    · rename_i hc
      rw [Bool.and_eq_true, decide_eq_true_eq] at hc
      have := tO_story hT n (tSt T c n) h (by omega) (Nat.mod_lt _ hc.1) hh
      unfold tPl
      exact Nat.pow_lt_pow_right (by decide) (by omega)
    · decide
theorem cFearPerson (hC : tC M t T) (hT : tOk T) (hR : goRr R a 1 = t) (hta : t + 29 < a) (hN : 5000 ≤ N) {c p g : Nat} (hp : p < T 0 4) (hg : g < T 0 5) (h0 : 0 < T 4 p) (hm : dMi T g p = true) (hrow : ∀ j, j < 72 → M (a + 4) j = nI (dV T c p g 0 j)) : ∃ M', fX3_fearPerson N M R a (nI g) (nI p) (nI (tSt T c p)) = some M' ∧ (∀ b, b ≠ a + 4 → M' b = M b) ∧ ∀ j, j < 72 → M' (a + 4) j = nI (dV T c p (g + 1) 0 j) := by
  have hz := tO_sz hT
  have hst : tSt T c p < T 4 p := Nat.mod_lt _ h0
  have key : ∃ M', lX3_fearPerson_3 (nI g) (nI p) (nI (tSt T c p)) R a N (nI 0) M = some M' ∧ (∀ b, b ≠ a + 4 → M' b = M b) ∧ ∀ j, j < 72 → M' (a + 4) j = nI (dV T c p (g + 1) 0 j) := by
    refine gFor (fun n i M' => lX3_fearPerson_3 (nI g) (nI p) (nI (tSt T c p)) R a n (nI i) M') (fun i M' => (∀ b, b ≠ a + 4 → M' b = M b) ∧ ∀ j, j < 72 → M' (a + 4) j = nI (dV T c p g i j)) _ (T 0 0) ?_ ?_ N 0 M (Nat.zero_le _) ⟨fun _ _ => rfl, hrow⟩ (by omega)
    · intro n h M2 hh hP
      obtain ⟨fr, r2⟩ := hP
      have hC2 : tC M2 t T := tC_fr hC (fun r hr => fr _ (by omega))
      have e1 := r2 (12 * g + h) (by omega)
      have e2 : dV T c p g h (12 * g + h) = dPf T c g h p := by
        unfold dV
        rw [show (12 * g + h) / 12 = g by omega, show (12 * g + h) % 12 = h by omega, if_pos ⟨hg, hh⟩, if_neg (by omega)]
      rw [e2] at e1
      have e3 := cToldPlace hC2 hT (p := p) (i := tSt T c p) (h := h) (by omega) hst (by omega)
      have b3 := tO_story hT p (tSt T c p) h (by omega) hst (by omega)
      have b4 := dPf_b (c := c) (g := g) (h := h) hT (by omega) p (by omega)
      refine ⟨goWI M2 (a + 4) (12 * g + h) (nI (dPf T c g h p ||| 2 ^ T 5 (12 * (3 * p + tSt T c p) + h))), ?_, fun b hb => by rw [goWI_ne hb]; exact fr b hb, fun j hj => ?_⟩
      · show lX3_fearPerson_3 _ _ _ _ _ _ _ _ = lX3_fearPerson_3 _ _ _ _ _ _ _ _
        rw [lX3_fearPerson_3, hR, tC_hours hC2]
        simp (disch := omega) only [hh, e1, e3, ↓reduceIte, gL_0, gL_1, gL_2, gL_3, gL_4, gL_5, gL_6, gL_7, gL_8, gL_9, gL_10, gL_11, gL_12, gL_13, gL_14, gL_15, gL_16, gL_17, gL_18, gL_19, gL_20, gL_21, gL_22, gL_23, gL_24, gL_25, gL_26, gL_27, gL_31, gL_32, gL_40, gL_44, gL_48, gL_57, gL_59, gL_63, gL_72, gL_78, gL_81, gL_82, gL_96, gL_97, gL_99, gL_100, gL_122, gL_144, gL_192, gL_255, gL_270, gL_288, gL_1200, nI_add, pk_sub, pk_div, gMod, gM_2, gN_2, gM_3, gN_3, gM_4, gN_4, gM_8, gN_8, gM_10, gN_10, gM_12, gN_12, gM_14, gN_14, gM_16, gN_16, gM_18, gN_18, gM_26, gN_26, gM_32, gN_32, gM_72, gN_72, gM_100, gN_100, gBd, gNm, gB2, gB3, gB4, gRd, gWr, gI_bit, gI_bit14, gI_tn1n, gI_tn0n, Bool.toNat_true, Bool.toNat_false, Nat.one_ne_zero, Nat.zero_ne_one, eq_self, gIe00, gIe01, gIe10, gIe11, nI_eq, nI_leI, nI_ltI, gI_or, gI_xor, gI_shl1n, gI_shr31, gI_not1, gI_and15, gI_and1n]
      · rw [gWI_self, r2 j hj]
        by_cases cj : j = 12 * g + h
        · rw [if_pos cj, cj]
          unfold dV
          rw [show (12 * g + h) / 12 = g by omega, show (12 * g + h) % 12 = h by omega, if_pos ⟨hg, hh⟩, if_pos (by omega)]
          conv => rhs; unfold dPf
          rw [decide_eq_true h0, hm]
          rfl
        · rw [if_neg cj]
          unfold dV
          have : (j / 12 < g ∨ j / 12 = g ∧ j % 12 < h) ↔ (j / 12 < g ∨ j / 12 = g ∧ j % 12 < h + 1) := by omega
          simp only [this]
    · intro n M2 hP
      obtain ⟨fr, r2⟩ := hP
      refine ⟨M2, ?_, fr, fun j hj => ?_⟩
      · show lX3_fearPerson_3 _ _ _ _ _ _ _ _ = _
        rw [lX3_fearPerson_3, hR, fr _ (by omega), tC_hours hC, if_neg (nI_nlt (Nat.le_refl _) (by omega))]
      · rw [r2 j hj]
        unfold dV
        by_cases cj : j / 12 < T 0 5 ∧ j % 12 < T 0 0
        · rw [if_pos cj, if_pos cj]
          have : (j / 12 < g ∨ j / 12 = g ∧ j % 12 < T 0 0) ↔ (j / 12 < g + 1 ∨ j / 12 = g + 1 ∧ j % 12 < 0) := by omega
          simp only [this]
        · rw [if_neg cj, if_neg cj]
  obtain ⟨M', k1, k2⟩ := key
  unfold fX3_fearPerson
  have k1' : lX3_fearPerson_3 (nI g) (nI p) (nI (tSt T c p)) R a N 0 M = some M' := k1
  rw [k1', gBd]
  exact ⟨M', rfl, k2⟩
theorem dV_skip {c p g : Nat} (h : (decide (0 < T 4 p) && dMi T g p) = false) (j : Nat) : dV T c p (g + 1) 0 j = dV T c p g 0 j := by
  unfold dV
  by_cases cj : j / 12 < T 0 5 ∧ j % 12 < T 0 0
  · rw [if_pos cj, if_pos cj]
    by_cases c1 : j / 12 < g
    · rw [if_pos (by omega), if_pos (by omega)]
    · by_cases c2 : j / 12 = g
      · rw [if_pos (by omega), if_neg (by omega), c2]
        conv => lhs; unfold dPf
        rw [h]
        exact Nat.or_zero _
      · rw [if_neg (by omega), if_neg (by omega)]
  · rw [if_neg cj, if_neg cj]
theorem cPrepG (hC : tC M t T) (hT : tOk T) (hR : goRr R a 1 = t) (hta : t + 29 < a) (hN : 5000 ≤ N) {c p : Nat} (hp : p < T 0 4) (hrow : ∀ j, j < 72 → M (a + 4) j = nI (dV T c p 0 0 j)) : ∃ M', lX3_prepare_120 N (nI p) (if T 4 p = 0 then -2 else nI (tSt T c p)) R a N (nI 0) M = some M' ∧ (∀ b, b ≠ a + 4 → M' b = M b) ∧ ∀ j, j < 72 → M' (a + 4) j = nI (dV T c (p + 1) 0 0 j) := by
  have hz := tO_sz hT
  have hs := tO_stories hT p (by omega)
  refine gFor (fun n i M' => lX3_prepare_120 N (nI p) (if T 4 p = 0 then -2 else nI (tSt T c p)) R a n (nI i) M') (fun g M' => (∀ b, b ≠ a + 4 → M' b = M b) ∧ ∀ j, j < 72 → M' (a + 4) j = nI (dV T c p g 0 j)) _ (T 0 5) ?_ ?_ N 0 M (Nat.zero_le _) ⟨fun _ _ => rfl, hrow⟩ (by omega)
  · intro n g M2 hg hP
    obtain ⟨fr, r2⟩ := hP
    have hC2 : tC M2 t T := tC_fr hC (fun r hr => fr _ (by omega))
    have e1 := cMinds hC2 hT hg (show p < 4 by omega)
    by_cases c0 : T 4 p = 0
    · refine ⟨M2, ?_, fr, fun j hj => ?_⟩
      · show lX3_prepare_120 _ _ _ _ _ _ _ _ = lX3_prepare_120 _ _ _ _ _ _ _ _
        rw [lX3_prepare_120, hR, (tC_herd hC2).1, if_pos (nI_lt hg (by omega)), if_pos c0, if_neg (by decide), gBd, nI_1]
      · rw [dV_skip (by rw [decide_eq_false (by omega)]; rfl)]
        exact r2 j hj
    · have hst : tSt T c p < T 4 p := Nat.mod_lt _ (by omega)
      have hlt : 0 ≤ nI (tSt T c p) := nI_pos' (by omega)
      cases hm : dMi T g p
      · refine ⟨M2, ?_, fr, fun j hj => ?_⟩
        · show lX3_prepare_120 _ _ _ _ _ _ _ _ = lX3_prepare_120 _ _ _ _ _ _ _ _
          rw [lX3_prepare_120, hR, (tC_herd hC2).1, if_pos (nI_lt hg (by omega)), if_neg c0, if_pos hlt, e1, hm, gBd, if_pos (by decide), gBd, nI_1]
        · rw [dV_skip (by rw [hm, Bool.and_false])]
          exact r2 j hj
      · obtain ⟨M3, f1, f2, f3⟩ := cFearPerson hC2 hT hR hta hN hp hg (by omega) hm r2
        refine ⟨M3, ?_, fun b hb => by rw [f2 b hb]; exact fr b hb, f3⟩
        show lX3_prepare_120 _ _ _ _ _ _ _ _ = lX3_prepare_120 _ _ _ _ _ _ _ _
        rw [lX3_prepare_120, hR, (tC_herd hC2).1, if_pos (nI_lt hg (by omega)), if_neg c0, if_pos hlt, e1, hm, gBd, if_neg (by decide), f1, gBd, gBd, nI_1]
  · intro n M2 hP
    obtain ⟨fr, r2⟩ := hP
    refine ⟨M2, ?_, fr, fun j hj => ?_⟩
    · show lX3_prepare_120 _ _ _ _ _ _ _ _ = _
      rw [lX3_prepare_120, hR, fr _ (by omega), (tC_herd hC).1, if_neg (nI_nlt (Nat.le_refl _) (by omega))]
    · rw [r2 j hj]
      unfold dV
      by_cases cj : j / 12 < T 0 5 ∧ j % 12 < T 0 0
      · rw [if_pos cj, if_pos cj, if_pos (by omega), if_neg (by omega)]
      · rw [if_neg cj, if_neg cj]
theorem dS0_ok (hT : tOk T) : dSok T (dS0 T) := by
  have hz := tO_sz hT
  have ha := tO_amount hT
  have hG : ∀ p, p < 8 → dS0 T p < 65536 := fun p hp => by
    unfold dS0 tG
    rw [if_pos hp]
    have := ha (4 * p) (by omega)
    have := ha (4 * p + 1) (by omega)
    have := ha (4 * p + 2) (by omega)
    have := ha (4 * p + 3) (by omega)
    omega
  refine ⟨hG, fun i hi => ?_, fun g hg => ?_⟩
  · by_cases c : i < 8
    · have := hG i c; omega
    · unfold dS0
      rw [if_neg c]
      exact (tO_fear hT _ (by omega)).2
  · obtain ⟨_, _, _, o10, o23, _⟩ := tO_goat hT g hg
    unfold dS0
    rw [if_neg (by omega), show 8 + g - 8 = g by omega]
    omega
theorem cPrepare (hC : tC M t T) (hT : tOk T) (hR : goRr R a 1 = t) (hta : t + 29 < a) (h4t : 4 < t) (hN : 5000 ≤ N) (hA : ∀ i, i < 26 → M 4 i = nI (A i)) (hA24 : A 24 < 16384) (hb6 : ∀ i, i < 72 → ∃ n, n < 12 ∧ M (a + 6) i = nI n) {c : Nat} (hc : c < 2 ^ 31) :
    ∃ M', fX3_prepare N M R a (nI c) = some M' ∧ cB M' a t T (dOp T (A 24)) (dFr T c) A (dS0 T) ∧ (∀ b, b ≤ a ∨ a + 9 < b ∨ b = a + 5 ∨ b = a + 6 → M' b = M b) ∧ (∀ j, j < 24 → M' (a + 7) j = 0) ∧ (∀ j, j < 192 → M' (a + 8) j = 0) ∧ (∀ j, j < 6 → M' (a + 9) j = 0) := by
  have hz := tO_sz hT
  unfold fX3_prepare
  rw [hR]
  have cp1 := gCp (M := M) (s := 4) (ns := 26) (sp := 0) (d := a + 2) (nd := 24) (dp := 0) (n := 24) (by decide) (by decide)
  have cp1' : goCp M 4 26 0 (a + 2) 24 0 24 = _ := cp1
  rw [cp1', gBd]
  obtain ⟨M2, e2, f2, g2⟩ := gFill (M := fun b => if b = a + 2 then va_cpy (M 4) (M (a + 2)) 0 0 24 else M b) (a := a + 7) (n := 24) (v := 0) (N := N) (by decide) hN
  rw [e2, gBd]
  obtain ⟨M3, e3, f3, g3⟩ := gFill (M := M2) (a := a + 8) (n := 192) (v := 0) (N := N) (by decide) hN
  rw [e3, gBd]
  obtain ⟨M4, e4, f4, g4⟩ := gFill (M := M3) (a := a + 9) (n := 6) (v := 0) (N := N) (by decide) hN
  rw [e4, gBd]
  have cp2 := gCp (M := M4) (s := t + 1) (ns := 8) (sp := 0) (d := a + 1) (nd := 14) (dp := 0) (n := 8) (by decide) (by decide)
  have cp2' : goCp M4 (t + 1) 8 0 (a + 1) 14 0 8 = _ := cp2
  rw [cp2', gBd]
  have cp3 := gCp (M := fun b => if b = a + 1 then va_cpy (M4 (t + 1)) (M4 (a + 1)) 0 0 8 else M4 b) (s := t + 12) (ns := 6) (sp := 0) (d := a + 1) (nd := 14) (dp := 8) (n := 6) (by decide) (by decide)
  have cp3' : goCp (fun b => if b = a + 1 then va_cpy (M4 (t + 1)) (M4 (a + 1)) 0 0 8 else M4 b) (t + 12) 6 0 (a + 1) 14 8 6 = _ := cp3
  rw [cp3', gBd]
  generalize hM6 : (fun b => if b = a + 1 then va_cpy ((fun b => if b = a + 1 then va_cpy (M4 (t + 1)) (M4 (a + 1)) 0 0 8 else M4 b) (t + 12)) ((fun b => if b = a + 1 then va_cpy (M4 (t + 1)) (M4 (a + 1)) 0 0 8 else M4 b) (a + 1)) 0 8 6 else (fun b => if b = a + 1 then va_cpy (M4 (t + 1)) (M4 (a + 1)) 0 0 8 else M4 b) b : goMI) = M6
  have fr4 : ∀ b, b ≠ a + 2 → b ≠ a + 7 → b ≠ a + 8 → b ≠ a + 9 → M4 b = M b := fun b h1 h2 h3 h4 => by rw [f4 b h4, f3 b h3, f2 b h2]; exact if_neg h1
  have fr6 : ∀ b, b ≠ a + 1 → M6 b = M4 b := fun b hb => by rw [← hM6]; show (if b = a + 1 then _ else _) = _; rw [if_neg hb]; exact if_neg hb
  have hS6 : ∀ i, i < 14 → M6 (a + 1) i = nI (dS0 T i) := by
    intro i hi
    rw [← hM6]
    show (if a + 1 = a + 1 then va_cpy ((fun b => if b = a + 1 then va_cpy (M4 (t + 1)) (M4 (a + 1)) 0 0 8 else M4 b) (t + 12)) ((fun b => if b = a + 1 then va_cpy (M4 (t + 1)) (M4 (a + 1)) 0 0 8 else M4 b) (a + 1)) 0 8 6 else _) i = _
    rw [if_pos rfl]
    unfold dS0
    by_cases ci : i < 8
    · rw [pk_cpy_out (by omega), if_pos ci]
      show (if a + 1 = a + 1 then va_cpy (M4 (t + 1)) (M4 (a + 1)) 0 0 8 else _) i = _
      rw [if_pos rfl, pk_cpy_in (by omega) (by omega), show 0 + (i - 0) = i by omega, fr4 _ (by omega) (by omega) (by omega) (by omega)]
      exact tC_grows hC i ci
    · rw [pk_cpy_in (by omega) (by omega), if_neg ci]
      show (if t + 12 = a + 1 then _ else M4 (t + 12)) (0 + (i - 8)) = _
      rw [if_neg (by omega), Nat.zero_add, fr4 _ (by omega) (by omega) (by omega) (by omega)]
      exact tC_start hC _ (by omega)
  have hC6 : tC M6 t T := tC_fr hC (fun r hr => by rw [fr6 _ (by omega), fr4 _ (by omega) (by omega) (by omega) (by omega)])
  have h4 : M6 4 24 = nI (A 24) := by rw [fr6 _ (by omega), fr4 _ (by omega) (by omega) (by omega) (by omega)]; exact hA 24 (by decide)
  obtain ⟨M7, e7, f7, g7⟩ := cOpenPaths hC6 hT hR hta (by omega) hN h4 hA24
  rw [e7, gBd]
  obtain ⟨M8, e8, f8, g8⟩ := gFill (M := M7) (a := a + 4) (n := 72) (v := 0) (N := N) (by decide) hN
  rw [e8, gBd]
  have hC8 : tC M8 t T := tC_fr hC6 (fun r hr => by rw [f8 _ (by omega), f7 _ (by omega)])
  have key : ∃ M', lX3_prepare_96 N (nI c) R a N (nI 0) M8 = some M' ∧ (∀ b, b ≠ a + 4 → M' b = M8 b) ∧ ∀ j, j < 72 → M' (a + 4) j = nI (dV T c (T 0 4) 0 0 j) := by
    refine gFor (fun n i M' => lX3_prepare_96 N (nI c) R a n (nI i) M') (fun p M' => (∀ b, b ≠ a + 4 → M' b = M8 b) ∧ ∀ j, j < 72 → M' (a + 4) j = nI (dV T c p 0 0 j)) _ (T 0 4) ?_ ?_ N 0 M8 (Nat.zero_le _) ⟨fun _ _ => rfl, fun j hj => ?_⟩ (by omega)
    · intro n p M9 hp hP
      obtain ⟨fr, r9⟩ := hP
      have hC9 : tC M9 t T := tC_fr hC8 (fun r hr => fr _ (by omega))
      obtain ⟨M10, e10, f10, g10⟩ := cPrepG hC9 hT hR hta hN hp r9
      refine ⟨M10, ?_, fun b hb => by rw [f10 b hb]; exact fr b hb, g10⟩
      show lX3_prepare_96 _ _ _ _ _ _ _ = lX3_prepare_96 _ _ _ _ _ _ _
      have e10' : lX3_prepare_120 N (nI p) (if T 4 p = 0 then -2 else nI (tSt T c p)) R a N 0 M9 = some M10 := e10
      rw [lX3_prepare_96, hR, tC_people hC9, if_pos (nI_lt hp (by omega)), cStoryIn hC9 (by omega) (tO_stories hT) hp hc, gBd, e10', gBd, nI_1]
    · intro n M9 hP
      refine ⟨M9, ?_, hP⟩
      show lX3_prepare_96 _ _ _ _ _ _ _ = _
      rw [lX3_prepare_96, hR, hP.1 _ (by omega), tC_people hC8, if_neg (nI_nlt (Nat.le_refl _) (by omega))]
    · rw [g8 j hj]
      unfold dV
      by_cases cj : j / 12 < T 0 5 ∧ j % 12 < T 0 0
      · rw [if_pos cj, if_neg (by omega)]; rfl
      · rw [if_neg cj]; rfl
  obtain ⟨M', k1, k2, k3⟩ := key
  have k1' : lX3_prepare_96 N (nI c) R a N 0 M8 = some M' := k1
  rw [k1', gBd]
  have fr : ∀ b, b ≠ a + 4 → b ≠ a + 3 → b ≠ a + 1 → M' b = M4 b := fun b h1 h2 h3 => by rw [k2 b h1, f8 b h1, f7 b h2, fr6 b h3]
  refine ⟨M', rfl, ⟨?_, ?_, ?_, ?_, ?_, dS0_ok hT, ?_⟩, ?_, ?_, ?_, ?_⟩
  · exact tC_fr hC8 (fun r hr => k2 _ (by omega))
  · intro i hi
    rw [fr _ (by omega) (by omega) (by omega), f4 _ (by omega), f3 _ (by omega), f2 _ (by omega)]
    show (if a + 2 = a + 2 then va_cpy (M 4) (M (a + 2)) 0 0 24 else _) i = _
    rw [if_pos rfl, pk_cpy_in (by omega) (by omega), show 0 + (i - 0) = i by omega]
    exact hA i (by omega)
  · intro p hp
    rw [k2 _ (by omega), f8 _ (by omega)]
    exact g7 p hp
  · intro j hj
    rw [k3 j hj]
    unfold dV dFr
    by_cases cj : j / 12 < T 0 5 ∧ j % 12 < T 0 0
    · rw [if_pos cj, if_pos cj, if_neg (by omega)]
    · rw [if_neg cj, if_neg cj]
  · intro i hi
    rw [k2 _ (by omega), f8 _ (by omega), f7 _ (by omega)]
    exact hS6 i hi
  · intro i hi
    rw [fr _ (by omega) (by omega) (by omega), fr4 _ (by omega) (by omega) (by omega) (by omega)]
    exact hb6 i hi
  · intro b hb
    rw [fr _ (by omega) (by omega) (by omega), fr4 _ (by omega) (by omega) (by omega) (by omega)]
  · intro j hj
    rw [fr _ (by omega) (by omega) (by omega), f4 _ (by omega), f3 _ (by omega)]
    exact g2 j hj
  · intro j hj
    rw [fr _ (by omega) (by omega) (by omega), f4 _ (by omega)]
    exact g3 j hj
  · intro j hj
    rw [fr _ (by omega) (by omega) (by omega)]
    exact g4 j hj
end cPrep
