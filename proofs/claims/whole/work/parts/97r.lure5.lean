/-! LURE in the model -/
section lure5
variable {M M' Mb : goMI} {R : goMR} {T : tH} {b c w v hr g p : Nat} {A B : Nat → Nat}
def lmB (B : Nat → Nat) (v s : Nat) : Nat → Nat := aF B (v + s / 12) (s % 12)
theorem lmB_lmB {s : Nat} : lmB (lmB B v s) v s = B := aF_aF _ _ _
theorem luF_24 {s : Nat} (hw : w = 0 ∨ w = 12) : luF A w s 24 = A 24 := by
  have := Nat.mod_lt s (show 0 < 12 by decide)
  unfold luF aF
  rw [if_neg (by omega)]
theorem lm_aB {s : Nat} (hs : s < 96) (hw : (w = 0 ∧ v = 0) ∨ (w = 12 ∧ v = 8)) (h : aB A B) : aB (luF A w s) (lmB B v s) := by
  have hm := Nat.mod_lt s (show 0 < 12 by decide)
  unfold luF lmB
  rcases hw with ⟨rfl, rfl⟩ | ⟨rfl, rfl⟩
  · rw [Nat.zero_add, Nat.zero_add]
    exact aB_put h hm (by omega)
  · exact aB_dog h hm (by omega)
theorem lm_bit {s : Nat} (hs : s < 96) (hw : (w = 0 ∧ v = 0) ∨ (w = 12 ∧ v = 8)) (h : aB A B) : (A (w + s % 12)).testBit (s / 12) = (B (v + s / 12)).testBit (s % 12) := by
  have hm := Nat.mod_lt s (show 0 < 12 by decide)
  rcases hw with ⟨rfl, rfl⟩ | ⟨rfl, rfl⟩
  · rw [Nat.zero_add, Nat.zero_add]
    exact (h.1 _ _ hm (by omega)).1
  · exact (h.1 _ _ hm (by omega)).2
def lmS (Mb M : goMI) (B : Nat → Nat) : Prop := (∀ b, (b < 108 ∧ b ≠ 102 ∧ b ≠ 105) ∨ 113 < b → M b = Mb b) ∧ (∀ i, i < 18 → M 105 i = nI (B i)) ∧ (∀ i, 18 ≤ i → M 105 i = Mb 105 i) ∧ ∀ j, j ≠ 35 → j ≠ 36 → M 102 j = Mb 102 j
def lmK (Mb : goMI) (R : goMR) (b : Nat) (T : tH) (w v hr g p : Nat) : Prop := R 102 3 = some b ∧ 121 ≤ b ∧ tM Mb b T ∧ tOk T ∧ hr < T 0 0 ∧ g < T 0 5 ∧ p < T 0 2 ∧ ((w = 0 ∧ v = 0) ∨ (w = 12 ∧ v = 8))
theorem lm_tM (hk : lmK Mb R b T w v hr g p) (hS : lmS Mb M B) : tM M b T := tM_fr hk.2.2.1 (fun r hr => hS.1 _ (by have := hk.2.1; omega))
theorem lmThere (hk : lmK Mb R b T w v hr g p) (hS : lmS Mb M B) (hAB : aB A B) (hc : c < 2 ^ 31) : ∃ M', fX14_isThere 5000 M R (nI c) (nI g) (nI p) (nI hr) = some (nI (luW T (A 24) c hr g p A).toNat, M') ∧ lmS Mb M' B ∧ M' 102 = M 102 := by
  have hM := lm_tM hk hS
  obtain ⟨k1, k2, k3, k4, k5, k6, k7, k8⟩ := hk
  have hz := tO_sz k4
  obtain ⟨M1, e1, e2, e3⟩ := mDayRun (N := 5000) k1 k2 hM k4 (by decide) hS.2.1 hAB hc
  have hp := (e3.2.1 g hr k6 k5).1
  rw [← luS_dSp k4 k6] at hp
  have hlt : luS T (A 24) c A (hr + 1) (8 + g) < T 0 2 := (luS_ok k4 _).2.2 g k6
  refine ⟨M1, ?_, ⟨fun b hb => by rw [e2 b (by omega)]; exact hS.1 b hb, by rw [e2 105 (by decide)]; exact hS.2.1, by rw [e2 105 (by decide)]; exact hS.2.2.1, by rw [e2 102 (by decide)]; exact hS.2.2.2⟩, e2 102 (by decide)⟩
  unfold fX14_isThere
  rw [e1, gBd, gL_12, gN_12, nI_add, gRd (by omega), gBd, hp]
  unfold luW
  by_cases e : luS T (A 24) c A (hr + 1) (8 + g) = p
  · rw [if_pos (by rw [e]), decide_eq_true e]; rfl
  · rw [if_neg (fun h => e ((nI_eq (by omega) (by omega)).mp h)), decide_eq_false e]; rfl
theorem lmTurn {s : Nat} (hv : v = 0 ∨ v = 8) (hs : s < 96) (hS : lmS Mb M B) : ∃ M', fX14_turn M (nI v) (nI s) = some M' ∧ lmS Mb M' (lmB B v s) ∧ M' 102 = M 102 := by
  have hm := Nat.mod_lt s (show 0 < 12 by decide)
  refine ⟨goWI M 105 (v + s / 12) (nI (B (v + s / 12) ^^^ 2 ^ (s % 12))), ?_, ⟨fun b hb => by rw [goWI_ne (by omega)]; exact hS.1 b hb, fun i hi => ?_, fun i hi => by rw [gWI_nk (by omega)]; exact hS.2.2.1 i hi, by rw [goWI_ne (by decide)]; exact hS.2.2.2⟩, goWI_ne (by decide)⟩
  · unfold fX14_turn
    rw [luSm (by omega), luSd (by omega), nI_add, gRd (by omega), gBd, hS.2.1 _ (by omega), gI_shl1 (by omega), gI_xor, gWr (by omega), gBd]
  · rw [gWI_self]
    unfold lmB aF
    by_cases e : i = v + s / 12
    · rw [if_pos e, if_pos e, e]
    · rw [if_neg e, if_neg e]; exact hS.2.1 i hi
/-- a spot for the model -/
def lmO (T : tH) (A : Nat → Nat) (w s : Nat) : Bool := decide (s % 12 < T 0 0) && (decide (s / 12 < T 0 2) && !(A (w + s % 12)).testBit (s / 12))
theorem lmSpot {s : Nat} (hk : lmK Mb R b T w v hr g p) (hS : lmS Mb M B) (hAB : aB A B) (hs : s < 96) : fX14_isSpot M R (nI v) (nI s) = some (nI (lmO T A w s).toNat) := by
  have hM := lm_tM hk hS
  obtain ⟨k1, k2, k3, k4, k5, k6, k7, k8⟩ := hk
  have hz := tO_sz k4
  have hm := Nat.mod_lt s (show 0 < 12 by decide)
  have hbb := hAB.2.2.2.2.1 (v + s / 12) (by omega)
  unfold fX14_isSpot lmO
  rw [luSm (by omega), luSd (by omega), k1, gBd, tM_0 hM (by decide)]
  by_cases c1 : s % 12 < T 0 0
  · rw [if_pos (nI_lt c1 (by omega)), gBd, tM_0 hM (by decide), decide_eq_true c1, Bool.true_and]
    by_cases c2 : s / 12 < T 0 2
    · rw [if_pos (nI_lt c2 (by omega)), nI_add, gRd (by omega), gBd, hS.2.1 _ (by omega), gI_bit14 (by omega) (by omega), decide_eq_true c2, Bool.true_and, lm_bit hs k8 hAB]
      cases (B (v + s / 12)).testBit (s % 12) <;> rfl
    · rw [if_neg (nI_nlt (by omega) (by omega)), decide_eq_false c2, Bool.false_and]; rfl
  · rw [if_neg (nI_nlt (by omega) (by omega)), decide_eq_false c1, Bool.false_and]; rfl
theorem lmO_of {s : Nat} (hr' : hr < T 0 0) (h : luO T A w hr s) : lmO T A w s = true := by
  obtain ⟨h1, h2, h3⟩ := h
  unfold lmO
  rw [decide_eq_true (by omega), decide_eq_true (by omega), h3]
  rfl
theorem luO_of {s : Nat} (h : lmO T A w s = true) (h2 : s % 12 ≤ hr) : luO T A w hr s := by
  unfold lmO at h
  rw [Bool.and_eq_true, Bool.and_eq_true, decide_eq_true_eq, decide_eq_true_eq, Bool.not_eq_true'] at h
  exact ⟨by omega, h2, h.2.2⟩
theorem lm_one {s : Nat} (hw : w = 0 ∨ w = 12) (hA : luW T (A 24) c hr g p A = false) (h : lmO T A w s = true) (hW : luW T (A 24) c hr g p (luF A w s) = true) : luO T A w hr s := by
  refine luO_of h ?_
  apply Classical.byContradiction
  intro hn
  rw [luW_of (luS_early hw (by omega)), hA] at hW
  cases hW
theorem lm_two {x y : Nat} (hw : w = 0 ∨ w = 12) (hA : luW T (A 24) c hr g p A = false) (hone : ∀ x, luO T A w hr x → luW T (A 24) c hr g p (luF A w x) = false) (hxy : x < y) (h1 : lmO T A w x = true) (h2 : lmO T A w y = true) (hW : luW T (A 24) c hr g p (luF (luF A w x) w y) = true) : luG T A c w hr g p x y := by
  have h1' : ∀ z, lmO T A w z = true → luW T (A 24) c hr g p (luF A w z) = false := fun z hz => by
    cases e : luW T (A 24) c hr g p (luF A w z) with
    | false => rfl
    | true => rw [← e]; exact hone z (lm_one hw hA hz e)
  refine ⟨hxy, luO_of h1 ?_, luO_of h2 ?_, hW⟩
  · apply Classical.byContradiction
    intro hn
    rw [luF_comm, luW_of (luS_early hw (by omega)), h1' y h2] at hW
    cases hW
  · apply Classical.byContradiction
    intro hn
    rw [luW_of (luS_early hw (by omega)), h1' x h1] at hW
    cases hW
theorem lmInner (hk : lmK Mb R b T w v hr g p) (hAB : aB A B) (hc : c < 2 ^ 31) (hA : luW T (A 24) c hr g p A = false) (hone : ∀ x, luO T A w hr x → luW T (A 24) c hr g p (luF A w x) = false) {a : Nat} (ha : a < 96) (k : goMI → Option (Int32 × goMI)) : ∀ n i M, i ≤ 96 → 96 - i < n → a < i → lmS Mb M B → (∀ y, y < i → ¬ luG T A c w hr g p a y) →
    (∃ M' y, lX14_fewest_99 k 5000 (nI v) (nI c) (nI g) (nI p) (nI hr) (nI a) R n (nI i) M = some (2, M') ∧ lmS Mb M' B ∧ luG T A c w hr g p a y ∧ (∀ z, z < y → ¬ luG T A c w hr g p a z) ∧ M' 102 35 = nI a ∧ M' 102 36 = nI y) ∨ ∃ M', lX14_fewest_99 k 5000 (nI v) (nI c) (nI g) (nI p) (nI hr) (nI a) R n (nI i) M = k M' ∧ lmS Mb M' B ∧ ∀ y, ¬ luG T A c w hr g p a y := by
  intro n
  induction n with
  | zero => intro i M _ h; exact absurd h (Nat.not_lt_zero _)
  | succ n ih =>
    intro i M hi hn hai hS hno
    have hk8 := hk.2.2.2.2.2.2.2
    have hw : w = 0 ∨ w = 12 := by omega
    have hv : v = 0 ∨ v = 8 := by omega
    have hT := hk.2.2.2.1
    rw [lX14_fewest_99]
    by_cases hlt : i < 96
    · have next : ∀ M2, lmS Mb M2 B → ¬ luG T A c w hr g p a i → (∃ M' y, lX14_fewest_99 k 5000 (nI v) (nI c) (nI g) (nI p) (nI hr) (nI a) R n (nI i + 1) M2 = some (2, M') ∧ lmS Mb M' B ∧ luG T A c w hr g p a y ∧ (∀ z, z < y → ¬ luG T A c w hr g p a z) ∧ M' 102 35 = nI a ∧ M' 102 36 = nI y) ∨ ∃ M', lX14_fewest_99 k 5000 (nI v) (nI c) (nI g) (nI p) (nI hr) (nI a) R n (nI i + 1) M2 = k M' ∧ lmS Mb M' B ∧ ∀ y, ¬ luG T A c w hr g p a y := by
        intro M2 hS2 hno2
        rw [nI_1]
        exact ih (i + 1) M2 (by omega) (by omega) (by omega) hS2 (fun y hy => by
          by_cases e : y = i
          · rw [e]; exact hno2
          · exact hno y (by omega))
      rw [gL_96, if_pos (nI_lt hlt (by decide)), lmSpot hk hS hAB ha, gBd]
      cases o1 : lmO T A w a with
      | false =>
        rw [if_pos (show nI false.toNat = 0 from rfl)]
        refine next M hS (fun hG => ?_)
        rw [lmO_of hk.2.2.2.2.1 hG.2.1] at o1
        cases o1
      | true =>
        rw [if_neg (by decide), lmSpot hk hS hAB hlt, gBd]
        cases o2 : lmO T A w i with
        | false =>
          rw [if_pos (show nI false.toNat = 0 from rfl)]
          refine next M hS (fun hG => ?_)
          rw [lmO_of hk.2.2.2.2.1 hG.2.2.1] at o2
          cases o2
        | true =>
          obtain ⟨M1, e1, f1, g1⟩ := lmTurn hv ha hS
          obtain ⟨M2, e2, f2, g2⟩ := lmTurn hv hlt f1
          obtain ⟨M3, e3, f3, g3⟩ := lmThere hk f2 (lm_aB hlt hk8 (lm_aB ha hk8 hAB)) hc
          obtain ⟨M4, e4, f4, g4⟩ := lmTurn hv hlt f3
          rw [lmB_lmB] at f4
          obtain ⟨M5, e5, f5, g5⟩ := lmTurn hv ha f4
          rw [lmB_lmB] at f5
          rw [luF_24 hw, luF_24 hw] at e3
          have f6 : lmS Mb (goWI (goWI M5 102 35 (nI a)) 102 36 (nI i)) B := ⟨fun b hb => by rw [goWI_ne (by omega), goWI_ne (by omega)]; exact f5.1 b hb, by rw [goWI_ne (by decide), goWI_ne (by decide)]; exact f5.2.1, by rw [goWI_ne (by decide), goWI_ne (by decide)]; exact f5.2.2.1, fun j h1 h2 => by rw [gWI_nk h2, gWI_nk h1]; exact f5.2.2.2 j h1 h2⟩
          rw [if_neg (by decide), e1, gBd, e2, gBd, e3, gB2, e4, gBd, e5, gBd, gNm, gNm]
          cases hW : luW T (A 24) c hr g p (luF (luF A w a) w i) with
          | false =>
            rw [if_pos (show nI false.toNat = 0 from rfl)]
            refine next _ f6 (fun hG => ?_)
            rw [hG.2.2.2] at hW
            cases hW
          | true =>
            rw [if_neg (by decide)]
            exact Or.inl ⟨_, i, rfl, f6, lm_two hw hA hone hai o1 o2 hW, hno, by rw [gWI_nk (by decide), gWI_self, if_pos rfl], by rw [gWI_self, if_pos rfl]⟩
    · rw [gL_96, if_neg (nI_nlt (by omega) (by omega))]
      refine Or.inr ⟨M, rfl, hS, fun y hG => ?_⟩
      have := luG_lt hT hG
      exact hno y (by omega) hG
theorem lmOuter (hk : lmK Mb R b T w v hr g p) (hAB : aB A B) (hc : c < 2 ^ 31) (hA : luW T (A 24) c hr g p A = false) (hone : ∀ x, luO T A w hr x → luW T (A 24) c hr g p (luF A w x) = false) : ∀ n a M, a ≤ 96 → 96 - a < n → lmS Mb M B → (∀ x, x < a → ∀ y, ¬ luG T A c w hr g p x y) →
    ∃ r M' s1 s2, lX14_fewest_86 5000 (nI v) (nI c) (nI g) (nI p) (nI hr) R n (nI a) M = some (r, M') ∧ lmS Mb M' B ∧ luAn T A c w hr g p r s1 s2 ∧ (r = 1 ∨ r = 2 → M' 102 35 = nI s1) ∧ (r = 2 → M' 102 36 = nI s2) := by
  intro n
  induction n with
  | zero => intro a M _ h; exact absurd h (Nat.not_lt_zero _)
  | succ n ih =>
    intro a M ha hn hS hno
    have hT := hk.2.2.2.1
    rw [lX14_fewest_86]
    by_cases hlt : a < 96
    · rw [gL_96, if_pos (nI_lt hlt (by decide)), gNm, nI_1]
      rcases lmInner hk hAB hc hA hone hlt (fun M43 => lX14_fewest_86 5000 (nI v) (nI c) (nI g) (nI p) (nI hr) R n (nI (a + 1)) M43) 5000 (a + 1) M (by omega) (by omega) (by omega) hS (fun y hy hG => by have := hG.1; omega) with ⟨M1, y, e1, e2, e3, e4, e5, e6⟩ | ⟨M1, e1, e2, e3⟩
      · rw [e1]
        refine ⟨2, M1, a, y, rfl, e2, Or.inr ⟨hA, Or.inr ⟨hone, Or.inl ⟨rfl, e3, fun a' b' hG => ?_⟩⟩⟩, fun _ => e5, fun _ => e6⟩
        have h1 := luG_lt hT e3
        have h2 := luG_lt hT hG
        by_cases c1 : a' < a
        · exact absurd hG (hno a' c1 b')
        · by_cases c2 : a' = a
          · rw [c2] at hG ⊢
            have : ¬ b' < y := fun h => e4 b' h hG
            omega
          · omega
      · rw [e1]
        exact ih (a + 1) M1 (by omega) (by omega) e2 (fun x hx y => by
          by_cases e : x = a
          · rw [e]; exact e3 y
          · exact hno x (by omega) y)
    · rw [gL_96, if_neg (nI_nlt (by omega) (by omega))]
      exact ⟨-2, M, 0, 0, rfl, hS, Or.inr ⟨hA, Or.inr ⟨hone, Or.inr ⟨rfl, fun x y hG => hno x (by have := luG_lt hT hG; omega) y hG⟩⟩⟩, (fun h => (by rcases h with h | h <;> cases h)), (fun h => (by cases h))⟩
theorem lmSingle (hk : lmK Mb R b T w v hr g p) (hAB : aB A B) (hc : c < 2 ^ 31) (hA : luW T (A 24) c hr g p A = false) : ∀ n a M, a ≤ 96 → 96 - a < n → lmS Mb M B → (∀ x, x < a → luO T A w hr x → luW T (A 24) c hr g p (luF A w x) = false) →
    ∃ r M' s1 s2, lX14_fewest_18 5000 (nI v) (nI c) (nI g) (nI p) (nI hr) R n (nI a) M = some (r, M') ∧ lmS Mb M' B ∧ luAn T A c w hr g p r s1 s2 ∧ (r = 1 ∨ r = 2 → M' 102 35 = nI s1) ∧ (r = 2 → M' 102 36 = nI s2) := by
  intro n
  induction n with
  | zero => intro a M _ h; exact absurd h (Nat.not_lt_zero _)
  | succ n ih =>
    intro a M ha hn hS hno
    have hT := hk.2.2.2.1
    have hz := tO_sz hT
    have hk8 := hk.2.2.2.2.2.2.2
    have hw : w = 0 ∨ w = 12 := by omega
    have hv : v = 0 ∨ v = 8 := by omega
    rw [lX14_fewest_18]
    by_cases hlt : a < 96
    · have next : ∀ M2, lmS Mb M2 B → (luO T A w hr a → luW T (A 24) c hr g p (luF A w a) = false) → ∃ r M' s1 s2, lX14_fewest_18 5000 (nI v) (nI c) (nI g) (nI p) (nI hr) R n (nI a + 1) M2 = some (r, M') ∧ lmS Mb M' B ∧ luAn T A c w hr g p r s1 s2 ∧ (r = 1 ∨ r = 2 → M' 102 35 = nI s1) ∧ (r = 2 → M' 102 36 = nI s2) := by
        intro M2 hS2 h2
        rw [nI_1]
        exact ih (a + 1) M2 (by omega) (by omega) hS2 (fun x hx hO => by
          by_cases e : x = a
          · rw [e] at hO ⊢; exact h2 hO
          · exact hno x (by omega) hO)
      rw [gL_96, if_pos (nI_lt hlt (by decide)), lmSpot hk hS hAB hlt, gBd]
      cases o1 : lmO T A w a with
      | false =>
        rw [if_pos (show nI false.toNat = 0 from rfl)]
        refine next M hS (fun hO => ?_)
        rw [lmO_of hk.2.2.2.2.1 hO] at o1
        cases o1
      | true =>
        obtain ⟨M1, e1, f1, g1⟩ := lmTurn hv hlt hS
        obtain ⟨M3, e3, f3, g3⟩ := lmThere hk f1 (lm_aB hlt hk8 hAB) hc
        obtain ⟨M5, e5, f5, g5⟩ := lmTurn hv hlt f3
        rw [lmB_lmB] at f5
        rw [luF_24 hw] at e3
        have f6 : lmS Mb (goWI M5 102 35 (nI a)) B := ⟨fun b hb => by rw [goWI_ne (by omega)]; exact f5.1 b hb, by rw [goWI_ne (by decide)]; exact f5.2.1, by rw [goWI_ne (by decide)]; exact f5.2.2.1, fun j h1 h2 => by rw [gWI_nk h1]; exact f5.2.2.2 j h1 h2⟩
        rw [if_neg (by decide), e1, gBd, e3, gB2, e5, gBd, gNm]
        cases hW : luW T (A 24) c hr g p (luF A w a) with
        | false =>
          rw [if_pos (show nI false.toNat = 0 from rfl)]
          exact next _ f6 (fun _ => hW)
        | true =>
          rw [if_neg (by decide)]
          exact ⟨1, _, a, 0, rfl, f6, Or.inr ⟨hA, Or.inl ⟨rfl, ⟨lm_one hw hA o1 hW, hW⟩, hno⟩⟩, fun _ => (by rw [gWI_self, if_pos rfl]), (fun h => (by cases h))⟩
    · rw [gL_96, if_neg (nI_nlt (by omega) (by omega))]
      exact lmOuter hk hAB hc hA (fun x hO => hno x (by have := hO.1; omega) hO) 5000 0 M (by decide) (by decide) hS (fun x hx => absurd hx (Nat.not_lt_zero _))
theorem lmFewest (hk : lmK Mb R b T w v hr g p) (hAB : aB A B) (hc : c < 2 ^ 31) (hv : ∀ i, i < 18 → Mb 105 i = nI (B i)) : ∃ r M' s1 s2, fX14_fewest 5000 Mb R (nI v) (nI c) (nI g) (nI p) (nI hr) = some (r, M') ∧ lmS Mb M' B ∧ luAn T A c w hr g p r s1 s2 ∧ (r = 1 ∨ r = 2 → M' 102 35 = nI s1) ∧ (r = 2 → M' 102 36 = nI s2) := by
  obtain ⟨M1, e1, f1, g1⟩ := lmThere hk (M := Mb) (B := B) ⟨fun _ _ => rfl, hv, fun _ _ => rfl, fun _ _ _ => rfl⟩ hAB hc
  unfold fX14_fewest
  rw [e1, gB2]
  cases hA : luW T (A 24) c hr g p A with
  | true =>
    rw [if_neg (by decide)]
    exact ⟨0, M1, 0, 0, rfl, f1, Or.inl ⟨rfl, hA⟩, (fun h => (by rcases h with h | h <;> cases h)), (fun h => (by cases h))⟩
  | false =>
    rw [if_pos (show nI false.toNat = 0 from rfl)]
    exact lmSingle hk hAB hc hA 5000 0 M1 (by decide) (by decide) f1 (fun x hx => absurd hx (Nat.not_lt_zero _))
end lure5
