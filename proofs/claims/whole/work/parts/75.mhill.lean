/-! THE MODEL'S HILL: paths, cases, stories -/
theorem gPr_pos {f : Nat → Nat} {i : Nat} : ∀ {d : Nat}, (∀ j, j < d → 0 < f (i + j)) → 0 < gPr f i d
  | 0, _ => Nat.one_pos
  | d + 1, h => Nat.mul_pos (gPr_pos (fun j hj => h j (by omega))) (h d (by omega))
theorem gPr_le {f : Nat → Nat} {i c : Nat} : ∀ {d : Nat}, (∀ j, j < d → f (i + j) ≤ c) → gPr f i d ≤ c ^ d
  | 0, _ => Nat.le_refl 1
  | d + 1, h => by
    rw [Nat.pow_succ]
    exact Nat.mul_le_mul (gPr_le (fun j hj => h j (by omega))) (h d (by omega))
theorem gPr_head {f : Nat → Nat} {i : Nat} : ∀ d, gPr f i (d + 1) = f i * gPr f (i + 1) d
  | 0 => by simp [gPr]
  | d + 1 => by
    rw [gPr, gPr_head d]
    conv => rhs; rw [gPr]
    rw [show i + (d + 1) = i + 1 + d by omega, Nat.mul_assoc]
theorem tMx_pos {T : tH} {p : Nat} : 0 < tMx T p := by unfold tMx; split <;> omega
theorem tMx_le {T : tH} {p : Nat} (h : T 4 p ≤ 3) : tMx T p ≤ 3 := by unfold tMx; split <;> omega
theorem tBy_pos {T : tH} {p : Nat} : 0 < tBy T p := gPr_pos (fun _ _ => tMx_pos)
theorem tBy_le {T : tH} {p : Nat} (h4 : T 0 4 ≤ 4) (hs : ∀ p, p < 4 → T 4 p ≤ 3) : tBy T p ≤ 81 := by
  have h1 : tBy T p ≤ 3 ^ (T 0 4 - (p + 1)) := gPr_le (fun j hj => tMx_le (hs _ (by omega)))
  have h2 : 3 ^ (T 0 4 - (p + 1)) ≤ 3 ^ 4 := Nat.pow_le_pow_right (by decide) (by omega)
  omega
theorem tCases_pos {T : tH} : 0 < tCases T := gPr_pos (fun _ _ => tMx_pos)
theorem tCases_le {T : tH} (h4 : T 0 4 ≤ 4) (hs : ∀ p, p < 4 → T 4 p ≤ 3) : tCases T ≤ 81 := by
  have h1 : tCases T ≤ 3 ^ T 0 4 := gPr_le (fun j hj => tMx_le (hs _ (by omega)))
  have h2 : 3 ^ T 0 4 ≤ 3 ^ 4 := Nat.pow_le_pow_right (by decide) (by omega)
  omega
theorem gIf4 {α : Type} {P1 P2 P3 P4 : Prop} [Decidable P1] [Decidable P2] [Decidable P3] [Decidable P4] (x y : α) : (if P1 then if P2 then x else if P3 then if P4 then x else y else y else if P3 then if P4 then x else y else y) = if ((decide P1 && decide P2) || (decide P3 && decide P4)) = true then x else y := by
  by_cases c1 : P1 <;> by_cases c2 : P2 <;> by_cases c3 : P3 <;> by_cases c4 : P4 <;> simp [c1, c2, c3, c4]
section mHill
variable {M : goMI} {T : tH} {b N : Nat}
theorem mPath (hM : tM M b T) (h3 : T 0 3 ≤ 14) (hpt : ∀ i, i < T 0 3 → T 2 i < 8 ∧ T 3 i < 8) (hN : 5000 ≤ N) {p q : Nat} (hp : p < 8) (hq : q < 8) : fX13_path N M b (nI p) (nI q) = some (if tPath T p q < T 0 3 then nI (tPath T p q) else -1) := by
  unfold fX13_path
  refine gUpE (fun n k => lX13_path_2 (nI p) (nI q) M b n (nI k)) (T 0 3) _ (fun k => gFst (tJ T p q) k = k) ?_ ?_ N 0 (Nat.zero_le _) rfl (by omega)
  · intro n k hk hP
    obtain ⟨b2, b3⟩ := hpt k hk
    have e4 : lX13_path_2 (nI p) (nI q) M b (n + 1) (nI k) = if tJ T p q k then some (nI k) else lX13_path_2 (nI p) (nI q) M b n (nI (k + 1)) := by
      rw [lX13_path_2]
      simp (disch := omega) only [tM_0 hM, tM_2 hM, tM_3 hM, hk, ↓reduceIte, gL_0, gL_1, gL_2, gL_3, gL_4, gL_5, gL_6, gL_7, gL_8, gL_9, gL_10, gL_11, gL_12, gL_13, gL_14, gL_15, gL_16, gL_17, gL_18, gL_19, gL_20, gL_21, gL_22, gL_23, gL_24, gL_25, gL_26, gL_27, gL_31, gL_32, gL_40, gL_44, gL_48, gL_57, gL_59, gL_63, gL_72, gL_78, gL_81, gL_82, gL_96, gL_97, gL_99, gL_100, gL_122, gL_144, gL_192, gL_255, gL_270, gL_288, gL_1200, nI_add, pk_sub, pk_div, gMod, gM_2, gN_2, gM_3, gN_3, gM_4, gN_4, gM_8, gN_8, gM_10, gN_10, gM_12, gN_12, gM_14, gN_14, gM_16, gN_16, gM_18, gN_18, gM_26, gN_26, gM_32, gN_32, gM_72, gN_72, gM_100, gN_100, gBd, gNm, gB2, gB3, gB4, gRd, gWr, gI_bit, gI_bit14, gI_tn1n, gI_tn0n, Bool.toNat_true, Bool.toNat_false, Nat.one_ne_zero, Nat.zero_ne_one, eq_self, gIe00, gIe01, gIe10, gIe11, nI_eq, nI_leI, nI_ltI, gI_or, gI_xor, gI_shl1n, gI_shr31, gI_not1, gI_and15, gI_and1n]
      unfold tJ
      exact gIf4 _ _
    show lX13_path_2 _ _ _ _ _ _ = _ ∨ _
    rw [e4]
    by_cases hc : tJ T p q k = true
    · left
      have : tPath T p q = k := gFst_stop hP hk hc
      rw [if_pos hc, this, if_pos hk]
    · right
      exact ⟨if_neg hc, gFst_go hP (by simpa using hc)⟩
  · intro n hP
    have : tPath T p q = T 0 3 := hP
    show lX13_path_2 _ _ _ _ _ _ = _
    rw [lX13_path_2, this, if_neg (Nat.lt_irrefl _)]
    simp (disch := omega) only [tM_0 hM, Nat.lt_irrefl, ↓reduceIte, gL_0, gL_1, gL_2, gL_3, gL_4, gL_5, gL_6, gL_7, gL_8, gL_9, gL_10, gL_11, gL_12, gL_13, gL_14, gL_15, gL_16, gL_17, gL_18, gL_19, gL_20, gL_21, gL_22, gL_23, gL_24, gL_25, gL_26, gL_27, gL_31, gL_32, gL_40, gL_44, gL_48, gL_57, gL_59, gL_63, gL_72, gL_78, gL_81, gL_82, gL_96, gL_97, gL_99, gL_100, gL_122, gL_144, gL_192, gL_255, gL_270, gL_288, gL_1200, nI_add, pk_sub, pk_div, gMod, gM_2, gN_2, gM_3, gN_3, gM_4, gN_4, gM_8, gN_8, gM_10, gN_10, gM_12, gN_12, gM_14, gN_14, gM_16, gN_16, gM_18, gN_18, gM_26, gN_26, gM_32, gN_32, gM_72, gN_72, gM_100, gN_100, gBd, gNm, gB2, gB3, gB4, gRd, gWr, gI_bit, gI_bit14, gI_tn1n, gI_tn0n, Bool.toNat_true, Bool.toNat_false, Nat.one_ne_zero, Nat.zero_ne_one, eq_self, gIe00, gIe01, gIe10, gIe11, nI_eq, nI_leI, nI_ltI, gI_or, gI_xor, gI_shl1n, gI_shr31, gI_not1, gI_and15, gI_and1n]
theorem mCases (hM : tM M b T) (h4 : T 0 4 ≤ 4) (hs : ∀ p, p < 4 → T 4 p ≤ 3) (hN : 5000 ≤ N) : fX13_cases N M b = some (nI (tCases T)) := by
  unfold fX13_cases
  have key := gUp (fun n i (s : Int32) => lX13_cases_4 M b n s (nI i)) (fun i => nI (gPr (tMx T) 0 i)) (T 0 4) (nI (tCases T)) ?_ ?_ N 0 (Nat.zero_le _) (by omega)
  · have key' : lX13_cases_4 M b N 1 0 = _ := key
    rw [key', gBd]
  · intro n i hi
    have hsi := hs i (by omega)
    show lX13_cases_4 M b (n + 1) _ (nI i) = lX13_cases_4 M b n _ _
    rw [lX13_cases_4]
    simp (disch := omega) only [tM_0 hM, tM_4 hM, hi, ↓reduceIte, gL_0, gL_1, gL_2, gL_3, gL_4, gL_5, gL_6, gL_7, gL_8, gL_9, gL_10, gL_11, gL_12, gL_13, gL_14, gL_15, gL_16, gL_17, gL_18, gL_19, gL_20, gL_21, gL_22, gL_23, gL_24, gL_25, gL_26, gL_27, gL_31, gL_32, gL_40, gL_44, gL_48, gL_57, gL_59, gL_63, gL_72, gL_78, gL_81, gL_82, gL_96, gL_97, gL_99, gL_100, gL_122, gL_144, gL_192, gL_255, gL_270, gL_288, gL_1200, nI_add, pk_sub, pk_div, gMod, gM_2, gN_2, gM_3, gN_3, gM_4, gN_4, gM_8, gN_8, gM_10, gN_10, gM_12, gN_12, gM_14, gN_14, gM_16, gN_16, gM_18, gN_18, gM_26, gN_26, gM_32, gN_32, gM_72, gN_72, gM_100, gN_100, gBd, gNm, gB2, gB3, gB4, gRd, gWr, gI_bit, gI_bit14, gI_tn1n, gI_tn0n, Bool.toNat_true, Bool.toNat_false, Nat.one_ne_zero, Nat.zero_ne_one, eq_self, gIe00, gIe01, gIe10, gIe11, nI_eq, nI_leI, nI_ltI, gI_or, gI_xor, gI_shl1n, gI_shr31, gI_not1, gI_and15, gI_and1n]
    have : (if 0 < T 4 i then some (nI (T 4 i)) else some (nI 1)) = some (nI (tMx T i)) := by
      unfold tMx
      split <;> rfl
    rw [this, gBd, pk_mul, gPr, Nat.zero_add]
  · intro n
    show lX13_cases_4 M b (n + 1) _ (nI (T 0 4)) = _
    rw [lX13_cases_4]
    simp (disch := omega) only [tM_0 hM, Nat.lt_irrefl, ↓reduceIte, gL_0, gL_1, gL_2, gL_3, gL_4, gL_5, gL_6, gL_7, gL_8, gL_9, gL_10, gL_11, gL_12, gL_13, gL_14, gL_15, gL_16, gL_17, gL_18, gL_19, gL_20, gL_21, gL_22, gL_23, gL_24, gL_25, gL_26, gL_27, gL_31, gL_32, gL_40, gL_44, gL_48, gL_57, gL_59, gL_63, gL_72, gL_78, gL_81, gL_82, gL_96, gL_97, gL_99, gL_100, gL_122, gL_144, gL_192, gL_255, gL_270, gL_288, gL_1200, nI_add, pk_sub, pk_div, gMod, gM_2, gN_2, gM_3, gN_3, gM_4, gN_4, gM_8, gN_8, gM_10, gN_10, gM_12, gN_12, gM_14, gN_14, gM_16, gN_16, gM_18, gN_18, gM_26, gN_26, gM_32, gN_32, gM_72, gN_72, gM_100, gN_100, gBd, gNm, gB2, gB3, gB4, gRd, gWr, gI_bit, gI_bit14, gI_tn1n, gI_tn0n, Bool.toNat_true, Bool.toNat_false, Nat.one_ne_zero, Nat.zero_ne_one, eq_self, gIe00, gIe01, gIe10, gIe11, nI_eq, nI_leI, nI_ltI, gI_or, gI_xor, gI_shl1n, gI_shr31, gI_not1, gI_and15, gI_and1n]
    rfl
theorem mStory (hM : tM M b T) (h4 : T 0 4 ≤ 4) (hs : ∀ p, p < 4 → T 4 p ≤ 3) (hN : 5000 ≤ N) {c p : Nat} (hp : p < T 0 4) (hc : c < 2 ^ 31) : fX13_storyOf N M b (nI c) (nI p) = some (if T 4 p = 0 then -2 else nI (tSt T c p)) := by
  unfold fX13_storyOf
  have hsp := hs p (by omega)
  have h1 := tBy_pos (T := T) (p := p)
  have h2 := tBy_le (T := T) (p := p) h4 hs
  simp (disch := omega) only [tM_4 hM, ↓reduceIte, gL_0, gL_1, gL_2, gL_3, gL_4, gL_5, gL_6, gL_7, gL_8, gL_9, gL_10, gL_11, gL_12, gL_13, gL_14, gL_15, gL_16, gL_17, gL_18, gL_19, gL_20, gL_21, gL_22, gL_23, gL_24, gL_25, gL_26, gL_27, gL_31, gL_32, gL_40, gL_44, gL_48, gL_57, gL_59, gL_63, gL_72, gL_78, gL_81, gL_82, gL_96, gL_97, gL_99, gL_100, gL_122, gL_144, gL_192, gL_255, gL_270, gL_288, gL_1200, nI_add, pk_sub, pk_div, gMod, gM_2, gN_2, gM_3, gN_3, gM_4, gN_4, gM_8, gN_8, gM_10, gN_10, gM_12, gN_12, gM_14, gN_14, gM_16, gN_16, gM_18, gN_18, gM_26, gN_26, gM_32, gN_32, gM_72, gN_72, gM_100, gN_100, gBd, gNm, gB2, gB3, gB4, gRd, gWr, gI_bit, gI_bit14, gI_tn1n, gI_tn0n, Bool.toNat_true, Bool.toNat_false, Nat.one_ne_zero, Nat.zero_ne_one, eq_self, gIe00, gIe01, gIe10, gIe11, nI_eq, nI_leI, nI_ltI, gI_or, gI_xor, gI_shl1n, gI_shr31, gI_not1, gI_and15, gI_and1n]
  by_cases c0 : T 4 p = 0
  · simp only [c0, ↓reduceIte]
  · simp only [c0, ↓reduceIte]
    have key := gUpF (fun n i (s : Int32) => lX13_storyOf_19 M b n s (nI i)) (fun i => nI (gPr (tMx T) (p + 1) (i - (p + 1)))) (p + 1) (T 0 4) (nI (tBy T p)) ?_ ?_ N (p + 1) (Nat.le_refl _) (by omega) (by omega)
    · have key' : lX13_storyOf_19 M b N (nI 1) (nI (p + 1)) = some (nI (tBy T p)) := by
        have : p + 1 - (p + 1) = 0 := by omega
        simp only [this] at key
        exact key
      have hq := Nat.div_le_self c (tBy T p)
      rw [key', gBd]
      have z1 : goNz (nI (tBy T p)) = some () := if_neg (nI_ne0 h1 (by omega))
      have z2 : goNz (nI (T 4 p)) = some () := if_neg (nI_ne0 (by omega) (by omega))
      rw [z1, gBd, z2, gBd, pk_div hc h1 (by omega), pk_rem (by omega) (by omega) (by omega)]
      rfl
    · intro n i hle hi
      have hsi := hs i (by omega)
      show lX13_storyOf_19 M b (n + 1) _ (nI i) = lX13_storyOf_19 M b n _ _
      rw [lX13_storyOf_19]
      simp (disch := omega) only [tM_0 hM, tM_4 hM, hi, ↓reduceIte, gL_0, gL_1, gL_2, gL_3, gL_4, gL_5, gL_6, gL_7, gL_8, gL_9, gL_10, gL_11, gL_12, gL_13, gL_14, gL_15, gL_16, gL_17, gL_18, gL_19, gL_20, gL_21, gL_22, gL_23, gL_24, gL_25, gL_26, gL_27, gL_31, gL_32, gL_40, gL_44, gL_48, gL_57, gL_59, gL_63, gL_72, gL_78, gL_81, gL_82, gL_96, gL_97, gL_99, gL_100, gL_122, gL_144, gL_192, gL_255, gL_270, gL_288, gL_1200, nI_add, pk_sub, pk_div, gMod, gM_2, gN_2, gM_3, gN_3, gM_4, gN_4, gM_8, gN_8, gM_10, gN_10, gM_12, gN_12, gM_14, gN_14, gM_16, gN_16, gM_18, gN_18, gM_26, gN_26, gM_32, gN_32, gM_72, gN_72, gM_100, gN_100, gBd, gNm, gB2, gB3, gB4, gRd, gWr, gI_bit, gI_bit14, gI_tn1n, gI_tn0n, Bool.toNat_true, Bool.toNat_false, Nat.one_ne_zero, Nat.zero_ne_one, eq_self, gIe00, gIe01, gIe10, gIe11, nI_eq, nI_leI, nI_ltI, gI_or, gI_xor, gI_shl1n, gI_shr31, gI_not1, gI_and15, gI_and1n]
      have : (if 0 < T 4 i then some (nI (T 4 i)) else some (nI 1)) = some (nI (tMx T i)) := by
        unfold tMx
        split <;> rfl
      rw [this, gBd, pk_mul, show i + 1 - (p + 1) = (i - (p + 1)) + 1 by omega, gPr, show p + 1 + (i - (p + 1)) = i by omega]
    · intro n
      show lX13_storyOf_19 M b (n + 1) _ (nI (T 0 4)) = _
      rw [lX13_storyOf_19]
      simp (disch := omega) only [tM_0 hM, Nat.lt_irrefl, ↓reduceIte, gL_0, gL_1, gL_2, gL_3, gL_4, gL_5, gL_6, gL_7, gL_8, gL_9, gL_10, gL_11, gL_12, gL_13, gL_14, gL_15, gL_16, gL_17, gL_18, gL_19, gL_20, gL_21, gL_22, gL_23, gL_24, gL_25, gL_26, gL_27, gL_31, gL_32, gL_40, gL_44, gL_48, gL_57, gL_59, gL_63, gL_72, gL_78, gL_81, gL_82, gL_96, gL_97, gL_99, gL_100, gL_122, gL_144, gL_192, gL_255, gL_270, gL_288, gL_1200, nI_add, pk_sub, pk_div, gMod, gM_2, gN_2, gM_3, gN_3, gM_4, gN_4, gM_8, gN_8, gM_10, gN_10, gM_12, gN_12, gM_14, gN_14, gM_16, gN_16, gM_18, gN_18, gM_26, gN_26, gM_32, gN_32, gM_72, gN_72, gM_100, gN_100, gBd, gNm, gB2, gB3, gB4, gRd, gWr, gI_bit, gI_bit14, gI_tn1n, gI_tn0n, Bool.toNat_true, Bool.toNat_false, Nat.one_ne_zero, Nat.zero_ne_one, eq_self, gIe00, gIe01, gIe10, gIe11, nI_eq, nI_leI, nI_ltI, gI_or, gI_xor, gI_shl1n, gI_shr31, gI_not1, gI_and15, gI_and1n]
      rfl
theorem mPlaceIn (hM : tM M b T) (h4 : T 0 4 ≤ 4) (hs : ∀ p, p < 4 → T 4 p ≤ 3) (hN : 5000 ≤ N) {c p h : Nat} (hp : p < T 0 4) (hc : c < 2 ^ 31) (hh : h < 12) : fX13_placeIn N M b (nI c) (nI p) (nI h) = some (if T 4 p = 0 then -2 else nI (tPl T c p h)) := by
  unfold fX13_placeIn
  have hsp := hs p (by omega)
  rw [mStory hM h4 hs hN hp hc]
  simp (disch := omega) only [tM_4 hM, ↓reduceIte, gL_0, gL_1, gL_2, gL_3, gL_4, gL_5, gL_6, gL_7, gL_8, gL_9, gL_10, gL_11, gL_12, gL_13, gL_14, gL_15, gL_16, gL_17, gL_18, gL_19, gL_20, gL_21, gL_22, gL_23, gL_24, gL_25, gL_26, gL_27, gL_31, gL_32, gL_40, gL_44, gL_48, gL_57, gL_59, gL_63, gL_72, gL_78, gL_81, gL_82, gL_96, gL_97, gL_99, gL_100, gL_122, gL_144, gL_192, gL_255, gL_270, gL_288, gL_1200, nI_add, pk_sub, pk_div, gMod, gM_2, gN_2, gM_3, gN_3, gM_4, gN_4, gM_8, gN_8, gM_10, gN_10, gM_12, gN_12, gM_14, gN_14, gM_16, gN_16, gM_18, gN_18, gM_26, gN_26, gM_32, gN_32, gM_72, gN_72, gM_100, gN_100, gBd, gNm, gB2, gB3, gB4, gRd, gWr, gI_bit, gI_bit14, gI_tn1n, gI_tn0n, Bool.toNat_true, Bool.toNat_false, Nat.one_ne_zero, Nat.zero_ne_one, eq_self, gIe00, gIe01, gIe10, gIe11, nI_eq, nI_leI, nI_ltI, gI_or, gI_xor, gI_shl1n, gI_shr31, gI_not1, gI_and15, gI_and1n]
  by_cases c0 : T 4 p = 0
  · simp only [c0, ↓reduceIte]
  · simp only [c0, ↓reduceIte, gBd]
    have hst : tSt T c p < T 4 p := Nat.mod_lt _ (by omega)
    unfold fX13_place
    simp (disch := omega) only [tM_5 hM, ↓reduceIte, gL_0, gL_1, gL_2, gL_3, gL_4, gL_5, gL_6, gL_7, gL_8, gL_9, gL_10, gL_11, gL_12, gL_13, gL_14, gL_15, gL_16, gL_17, gL_18, gL_19, gL_20, gL_21, gL_22, gL_23, gL_24, gL_25, gL_26, gL_27, gL_31, gL_32, gL_40, gL_44, gL_48, gL_57, gL_59, gL_63, gL_72, gL_78, gL_81, gL_82, gL_96, gL_97, gL_99, gL_100, gL_122, gL_144, gL_192, gL_255, gL_270, gL_288, gL_1200, nI_add, pk_sub, pk_div, gMod, gM_2, gN_2, gM_3, gN_3, gM_4, gN_4, gM_8, gN_8, gM_10, gN_10, gM_12, gN_12, gM_14, gN_14, gM_16, gN_16, gM_18, gN_18, gM_26, gN_26, gM_32, gN_32, gM_72, gN_72, gM_100, gN_100, gBd, gNm, gB2, gB3, gB4, gRd, gWr, gI_bit, gI_bit14, gI_tn1n, gI_tn0n, Bool.toNat_true, Bool.toNat_false, Nat.one_ne_zero, Nat.zero_ne_one, eq_self, gIe00, gIe01, gIe10, gIe11, nI_eq, nI_leI, nI_ltI, gI_or, gI_xor, gI_shl1n, gI_shr31, gI_not1, gI_and15, gI_and1n]
    rfl
end mHill
