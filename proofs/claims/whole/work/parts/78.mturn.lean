/-! A GOAT'S TURN in the model, whole -/
noncomputable def mRest (N : Nat) (M : goMI) (R : goMR) (v1 : Int32) (v2 : Int32) (v3 : Int32) : Option (goMI) :=
  Option.bind (fX14_bestFor N M R v1 v2 v3) fun x16 =>
  Option.bind (goRd M 113 6 v2) fun x18 =>
  Option.bind (fX14_fears N M R v1 v2 x18 v3) fun x20 =>
  if x20 = 0 then
  Option.bind (goRd M 113 6 v2) fun x23 =>
  Option.bind (fX14_worth N M R v2 x23 v3) fun x25 =>
  if x25 = 0 then
  some M
  else
  if x16 = (-1) then
  if x25 < 9 then
  Option.bind (fX14_eats N M R v2 v3) fun M36 =>
  some M36
  else
  if x16 = (-1) then
  some M
  else
  Option.bind (fX14_worth N M R v2 x16 v3) fun x31 =>
  if x31 < 9 then
  Option.bind (goWr M 113 6 v2 x16) fun M34 =>
  some M34
  else
  some M
  else
  Option.bind (fX14_worth N M R v2 x16 v3) fun x38 =>
  if x38 = 0 then
  Option.bind (goWr M 113 6 v2 x16) fun M50 =>
  some M50
  else
  if x25 < 9 then
  Option.bind (fX14_eats N M R v2 v3) fun M48 =>
  some M48
  else
  if x16 = (-1) then
  some M
  else
  Option.bind (fX14_worth N M R v2 x16 v3) fun x43 =>
  if x43 < 9 then
  Option.bind (goWr M 113 6 v2 x16) fun M46 =>
  some M46
  else
  some M
  else
  if x16 = (-1) then
  some M
  else
  Option.bind (goWr M 113 6 v2 x16) fun M53 =>
  Option.bind (goRd M53 112 6 v2) fun x55 =>
  Option.bind (goWr M53 112 6 v2 (x55 + 1)) fun M57 =>
  some M57
theorem mGoes_eq (N : Nat) (M : goMI) (R : goMR) (v1 v2 v3 : Int32) : fX14_goatGoes N M R v1 v2 v3 = (
  Option.bind (R 102 3) fun b11 =>
  Option.bind (goRd M (b11 + 7) 6 v2) fun x13 =>
  if x13 = (-2) then mRest N M R v1 v2 v3 else
  Option.bind (goRd M 113 6 x13) fun x59 =>
  Option.bind (goRd M 113 6 v2) fun x61 =>
  if x59 = x61 then mRest N M R v1 v2 v3 else
  Option.bind (goRd M 113 6 v2) fun x107 =>
  Option.bind (goRd M 113 6 x13) fun x109 =>
  Option.bind (fX14_isOpen N M R x107 x109) fun x111 =>
  if x111 = 0 then mRest N M R v1 v2 v3 else
  Option.bind (goRd M 113 6 x13) fun x157 =>
  Option.bind (goWr M 113 6 v2 x157) fun M159 =>
  some M159) := rfl
theorem dNib_sub {x k k' u : Nat} (hx : x < 65536) (hk : k < 4) (hk' : k' < 4) (hu : u ≤ dNib x k) : dNib (x - u * 2 ^ (4 * k)) k' = if k' = k then dNib x k - u else dNib x k' := by
  unfold dNib at *
  have h1 : k = 0 ∨ k = 1 ∨ k = 2 ∨ k = 3 := by omega
  have h2 : k' = 0 ∨ k' = 1 ∨ k' = 2 ∨ k' = 3 := by omega
  rcases h1 with h1 | h1 | h1 | h1 <;> rcases h2 with h2 | h2 | h2 | h2 <;> subst h1 <;> subst h2 <;> simp at hu ⊢ <;> omega
section mGoes2
variable {M : goMI} {R : goMR} {T : tH} {b N : Nat} {A B S : Nat → Nat}
theorem mEats (hR : R 102 3 = some b) (hM : tM M b T) (hT : tOk T) (hN : 5000 ≤ N) (hl : ∀ p k, p < 8 → k < 4 → M 111 (4 * p + k) = nI (dNib (S p) k)) (hn : ∀ g, g < T 0 5 → M 113 g = nI (S (8 + g))) (hSo : dSok T S) {g h : Nat} (hg : g < T 0 5) (hh : h < 12) (hk : dRk T S g (S (8 + g)) < T 8 g) : fX14_eats N M R (nI g) (nI h) = some (goWI (goWI (goWI M 111 (4 * S (8 + g) + dPl T S g) (nI (dNib (S (S (8 + g))) (dPl T S g) - dBt T S g))) 109 (12 * g + h) (nI (dPl T S g))) 110 (12 * g + h) (nI (dBt T S g))) := by
  have hz := tO_sz hT
  obtain ⟨o6, o7, o8, o10, o23, o11, o11', o9⟩ := tO_goat hT g hg
  have hhere := hSo.2.2 g hg
  have hpl : dPl T S g < T 0 1 := o9 _ hk
  have hn1 : 0 < dNib (S (S (8 + g))) (dPl T S g) := of_decide_eq_true (gFst_p hk)
  have hn2 := dNib_lt (S (S (8 + g))) (dPl T S g)
  have hp : fX14_plantAt N M R (nI g) (nI (S (8 + g))) = some (nI (dPl T S g)) := mPlantAt hR hM hT hN hl hg (by omega) hk
  have e23 : (if T 6 g = 2 then (if 1 < dNib (S (S (8 + g))) (dPl T S g) then nI 2 else nI 1) else nI 1) = nI (dBt T S g) := by
    unfold dBt
    by_cases c1 : T 6 g = 2
    · by_cases c2 : 1 < dNib (S (S (8 + g))) (dPl T S g)
      · simp only [c1, c2, and_self, ↓reduceIte]
      · simp only [c1, c2, and_false, ↓reduceIte]
    · simp only [c1, false_and, ↓reduceIte]
  have hbt : dBt T S g ≤ dNib (S (S (8 + g))) (dPl T S g) := by unfold dBt; split <;> omega
  unfold fX14_eats
  rw [hR]
  simp (disch := omega) only [tM_6 hM, hn, hp, hl, e23, ↓reduceIte, gL_0, gL_1, gL_2, gL_3, gL_4, gL_5, gL_6, gL_7, gL_8, gL_9, gL_10, gL_11, gL_12, gL_13, gL_14, gL_15, gL_16, gL_17, gL_18, gL_19, gL_20, gL_21, gL_22, gL_23, gL_24, gL_25, gL_26, gL_27, gL_31, gL_32, gL_40, gL_44, gL_48, gL_57, gL_59, gL_63, gL_72, gL_78, gL_81, gL_82, gL_96, gL_97, gL_99, gL_100, gL_122, gL_144, gL_192, gL_255, gL_270, gL_288, gL_1200, nI_add, pk_sub, pk_div, gMod, gM_2, gN_2, gM_3, gN_3, gM_4, gN_4, gM_8, gN_8, gM_10, gN_10, gM_12, gN_12, gM_14, gN_14, gM_16, gN_16, gM_18, gN_18, gM_26, gN_26, gM_32, gN_32, gM_72, gN_72, gM_100, gN_100, gBd, gNm, gB2, gB3, gB4, gRd, gWr, gI_bit, gI_bit14, gI_tn1n, gI_tn0n, Bool.toNat_true, Bool.toNat_false, Nat.one_ne_zero, Nat.zero_ne_one, eq_self, gIe00, gIe01, gIe10, gIe11, nI_eq, nI_leI, nI_ltI, gI_or, gI_xor, gI_shl1n, gI_shr31, gI_not1, gI_and15, gI_and1n]
/-- what a goat's turn changes in the model -/
def mQ (M M' : goMI) (T : tH) (op : Nat → Nat) (fe sa dg : Nat) (S : Nat → Nat) (g h : Nat) : Prop :=
  (∀ b, b < 109 ∨ 113 < b → M' b = M b) ∧ (∀ j, M' 113 j = if j = g then nI (dTo T op fe sa dg S g) else M 113 j) ∧
  (∀ p k, p < 8 → k < 4 → M' 111 (4 * p + k) = nI (dNib (dNx T op fe sa dg S g p) k)) ∧
  (∀ j, M' 112 j = if j = g then M 112 j + nI (dFl T op fe sa dg S g) else M 112 j) ∧
  (∀ j, M' 109 j = if dEa T op fe sa dg S g && decide (j = 12 * g + h) then nI (dPl T S g) else M 109 j) ∧
  (∀ j, M' 110 j = if dEa T op fe sa dg S g && decide (j = 12 * g + h) then nI (dBt T S g) else M 110 j)
theorem mQ_no {op : Nat → Nat} {fe sa dg g h q : Nat} (hl : ∀ p k, p < 8 → k < 4 → M 111 (4 * p + k) = nI (dNib (S p) k)) (e1 : dTo T op fe sa dg S g = q) (e2 : dEa T op fe sa dg S g = false) (e3 : dFl T op fe sa dg S g = 0) (hq : M 113 g = nI q) : mQ M M T op fe sa dg S g h := by
  refine ⟨fun _ _ => rfl, fun j => ?_, fun p k hp hk => ?_, fun j => ?_, fun j => ?_, fun j => ?_⟩
  · split
    · rename_i c; rw [c, e1, hq]
    · rfl
  · have : dNx T op fe sa dg S g p = S p := by
      unfold dNx
      rw [if_neg (by omega), e2, Bool.false_and, if_neg Bool.false_ne_true]
    rw [this]
    exact hl p k hp hk
  · rw [e3, gI_add0]
    split <;> rfl
  · rw [e2, Bool.false_and, if_neg Bool.false_ne_true]
  · rw [e2, Bool.false_and, if_neg Bool.false_ne_true]
theorem mQ_go {op : Nat → Nat} {fe sa dg g h q : Nat} (hl : ∀ p k, p < 8 → k < 4 → M 111 (4 * p + k) = nI (dNib (S p) k)) (e1 : dTo T op fe sa dg S g = q) (e2 : dEa T op fe sa dg S g = false) (e3 : dFl T op fe sa dg S g = 0) : mQ M (goWI M 113 g (nI q)) T op fe sa dg S g h := by
  refine ⟨fun b hb => goWI_ne (by omega), fun j => ?_, fun p k hp hk => ?_, fun j => ?_, fun j => ?_, fun j => ?_⟩
  · rw [gWI_self, e1]
  · have : dNx T op fe sa dg S g p = S p := by
      unfold dNx
      rw [if_neg (by omega), e2, Bool.false_and, if_neg Bool.false_ne_true]
    rw [this, gWI_na (by decide)]
    exact hl p k hp hk
  · rw [e3, gI_add0, gWI_na (by decide)]
    split <;> rfl
  · rw [e2, Bool.false_and, if_neg Bool.false_ne_true, gWI_na (by decide)]
  · rw [e2, Bool.false_and, if_neg Bool.false_ne_true, gWI_na (by decide)]
theorem mQ_flee {op : Nat → Nat} {fe sa dg g h q : Nat} (hl : ∀ p k, p < 8 → k < 4 → M 111 (4 * p + k) = nI (dNib (S p) k)) (e1 : dTo T op fe sa dg S g = q) (e2 : dEa T op fe sa dg S g = false) (e3 : dFl T op fe sa dg S g = 1) : mQ M (goWI (goWI M 113 g (nI q)) 112 g (M 112 g + nI 1)) T op fe sa dg S g h := by
  refine ⟨fun b hb => by rw [goWI_ne (by omega), goWI_ne (by omega)], fun j => ?_, fun p k hp hk => ?_, fun j => ?_, fun j => ?_, fun j => ?_⟩
  · rw [gWI_na (by decide), gWI_self, e1]
  · have : dNx T op fe sa dg S g p = S p := by
      unfold dNx
      rw [if_neg (by omega), e2, Bool.false_and, if_neg Bool.false_ne_true]
    rw [this, gWI_na (by decide), gWI_na (by decide)]
    exact hl p k hp hk
  · rw [e3, gWI_self]
    split
    · rename_i c; rw [c]
    · rw [gWI_na (by decide)]
  · rw [e2, Bool.false_and, if_neg Bool.false_ne_true, gWI_na (by decide), gWI_na (by decide)]
  · rw [e2, Bool.false_and, if_neg Bool.false_ne_true, gWI_na (by decide), gWI_na (by decide)]
theorem mQ_eat {op : Nat → Nat} {fe sa dg g h : Nat} (hT : tOk T) (hSo : dSok T S) (hg : g < T 0 5) (hl : ∀ p k, p < 8 → k < 4 → M 111 (4 * p + k) = nI (dNib (S p) k)) (hn : M 113 g = nI (S (8 + g))) (hk : dRk T S g (S (8 + g)) < T 8 g) (e1 : dTo T op fe sa dg S g = S (8 + g)) (e2 : dEa T op fe sa dg S g = true) (e3 : dFl T op fe sa dg S g = 0) : mQ M (goWI (goWI (goWI M 111 (4 * S (8 + g) + dPl T S g) (nI (dNib (S (S (8 + g))) (dPl T S g) - dBt T S g))) 109 (12 * g + h) (nI (dPl T S g))) 110 (12 * g + h) (nI (dBt T S g))) T op fe sa dg S g h := by
  have hz := tO_sz hT
  obtain ⟨o6, o7, o8, o10, o23, o11, o11', o9⟩ := tO_goat hT g hg
  have hhere := hSo.2.2 g hg
  have hpl : dPl T S g < T 0 1 := o9 _ hk
  have hn1 : 0 < dNib (S (S (8 + g))) (dPl T S g) := of_decide_eq_true (gFst_p hk)
  have hbt : dBt T S g ≤ dNib (S (S (8 + g))) (dPl T S g) := by unfold dBt; split <;> omega
  refine ⟨fun b hb => by rw [goWI_ne (by omega), goWI_ne (by omega), goWI_ne (by omega)], fun j => ?_, fun p k hp hk => ?_, fun j => ?_, fun j => ?_, fun j => ?_⟩
  · rw [gWI_na (by decide), gWI_na (by decide), gWI_na (by decide)]
    split
    · rename_i c; rw [c, e1, hn]
    · rfl
  · rw [gWI_na (by decide), gWI_na (by decide), gWI_self]
    unfold dNx
    rw [if_neg (show ¬ p = 8 + g by omega), e2, Bool.true_and]
    by_cases c : p = S (8 + g)
    · rw [decide_eq_true c, if_pos rfl, c, dNib_sub (hSo.1 _ (by omega)) (by omega) hk hbt]
      by_cases c2 : k = dPl T S g
      · rw [if_pos (by omega), if_pos c2]
      · rw [if_neg (by omega), if_neg c2]
        exact hl _ k (by omega) hk
    · rw [decide_eq_false c, if_neg Bool.false_ne_true, if_neg (by omega)]
      exact hl p k hp hk
  · rw [gWI_na (by decide), gWI_na (by decide), gWI_na (by decide), e3, gI_add0]
    split <;> rfl
  · rw [gWI_na (by decide), gWI_self, e2, Bool.true_and]
    by_cases c : j = 12 * g + h
    · rw [if_pos c, if_pos (decide_eq_true c)]
    · rw [if_neg c, if_neg (by rw [decide_eq_false c]; exact Bool.false_ne_true), gWI_na (by decide)]
  · rw [gWI_self, e2, Bool.true_and]
    by_cases c : j = 12 * g + h
    · rw [if_pos c, if_pos (decide_eq_true c)]
    · rw [if_neg c, if_neg (by rw [decide_eq_false c]; exact Bool.false_ne_true), gWI_na (by decide), gWI_na (by decide)]
theorem dOp_self {hg p : Nat} (hT : tOk T) : (dOp T hg p).testBit p = false := by
  cases h : (dOp T hg p).testBit p
  · rfl
  · unfold dOp at h
    rw [gBits_tb, Bool.and_eq_true, Bool.and_eq_true, decide_eq_true_eq, decide_eq_true_eq] at h
    have h1 := gFst_p h.2.1
    have h2 := tO_path hT _ h.2.1
    unfold tJ at h1
    simp only [Bool.or_eq_true, Bool.and_eq_true, decide_eq_true_eq] at h1
    rcases h1 with h1 | h1
    · exact absurd (h1.1.trans h1.2.symm) h2.2.2.1
    · exact absurd (h1.1.trans h1.2.symm) h2.2.2.1
theorem mRest_ok (hR : R 102 3 = some b) (hM : tM M b T) (hT : tOk T) (hN : 5000 ≤ N) (hv : ∀ i, i < 18 → M 105 i = nI (B i)) (hAB : aB A B) (hl : ∀ p k, p < 8 → k < 4 → M 111 (4 * p + k) = nI (dNib (S p) k)) (hn : ∀ g, g < T 0 5 → M 113 g = nI (S (8 + g))) (hSo : dSok T S) {c g h : Nat} (hc : c < 2 ^ 31) (hg : g < T 0 5) (hh : h < T 0 0) (hfo : dFo T (dOp T (A 24)) S g = false) :
    ∃ M', mRest N M R (nI c) (nI g) (nI h) = some M' ∧ mQ M M' T (dOp T (A 24)) (dFr T c (12 * g + h)) (A h) (A (12 + h)) S g h := by
  have hz := tO_sz hT
  obtain ⟨o6, o7, o8, o10, o23, o11, o11', o9⟩ := tO_goat hT g hg
  have hhere := hSo.2.2 g hg
  have hn1 := hn g hg
  have hbf := mBestFor hR hM hT hN hv hAB hl hn hSo hc hg hh
  have hfe := mFears (q := S (8 + g)) hR hM hT hN hv hAB hc hg (by omega) hh
  have hwo := mWorth (p := S (8 + g)) (h := h) hR hM hT hN hv hAB hl hg (by omega) (by omega)
  have hwl : ∀ p, dWo T (A h) S g p ≤ 9 := fun p => dWo_le (by omega)
  have hw0 := hwl (S (8 + g))
  have hopl : ∀ q, (dOp T (A 24) (S (8 + g))).testBit q = true → q < T 0 2 := fun q => dOp_lt hT
  have hto := dTo_m (T := T) (S := S) (g := g) (op := dOp T (A 24)) (fe := dFr T c (12 * g + h)) (sa := A h) (dg := A (12 + h)) hopl
  have hsm := dSa_m (T := T) (S := S) (g := g) (op := dOp T (A 24)) (fe := dFr T c (12 * g + h)) (sa := A h) (dg := A (12 + h)) hopl
  rw [hfo, if_neg Bool.false_ne_true] at hto
  have hin : ∀ m, dM T (dOp T (A 24)) (dFr T c (12 * g + h)) (A h) (A (12 + h)) S g = m → m.2 < 10 → m.1 < T 0 2 ∧ (dRe T (dOp T (A 24)) (dFr T c (12 * g + h)) (A (12 + h)) S g).testBit m.1 = true ∧ dWo T (A h) S g m.1 = m.2 := by
    intro m hm hx
    subst hm
    exact gMin_in (w := dWo T (A h) S g) (r := fun p => (dRe T (dOp T (A 24)) (dFr T c (12 * g + h)) (A (12 + h)) S g).testBit p) (b := 0) (l := 10) (n := T 0 2) hx
  have hmle : (dM T (dOp T (A 24)) (dFr T c (12 * g + h)) (A h) (A (12 + h)) S g).2 ≤ 10 := gMin_le _
  unfold mRest
  rw [hbf, gBd, gRd (by omega), gBd, hn1, hfe, gBd]
  have hin2 := hin _ rfl
  clear hin
  generalize hm : dM T (dOp T (A 24)) (dFr T c (12 * g + h)) (A h) (A (12 + h)) S g = m at *
  by_cases c2 : (dFe T (dFr T c (12 * g + h)) (A (12 + h)) g).testBit (S (8 + g)) = true
  · have hea : dEa T (dOp T (A 24)) (dFr T c (12 * g + h)) (A h) (A (12 + h)) S g = false := by unfold dEa; rw [c2]; simp
    rw [if_pos c2] at hto
    rw [c2, if_neg (by decide)]
    by_cases c3 : m.2 < 10
    · obtain ⟨i1, i2, i3⟩ := hin2 c3
      have hne : m.1 ≠ S (8 + g) := by
        intro e
        unfold dRe at i2
        rw [dAn_tb, e, dOp_self hT] at i2
        cases i2
      rw [if_pos c3] at hto ⊢
      rw [if_neg (gI_nm1 (by omega)), gWr (by omega), gBd, gRd (by omega), gBd, gWI_na (by decide), gWr (by omega), gBd]
      refine ⟨_, rfl, mQ_flee hl hto hea ?_⟩
      unfold dFl
      rw [hfo, c2, hto, decide_eq_true hne]
      rfl
    · rw [if_neg c3] at hto ⊢
      rw [if_pos rfl]
      refine ⟨_, rfl, mQ_no hl hto hea ?_ hn1⟩
      unfold dFl
      rw [hto]
      simp
  · rw [Bool.not_eq_true] at c2
    have hfl : dFl T (dOp T (A 24)) (dFr T c (12 * g + h)) (A h) (A (12 + h)) S g = 0 := by unfold dFl; rw [c2]; simp
    rw [c2, if_neg Bool.false_ne_true] at hto
    rw [c2, if_pos (by decide), gBd, hwo, gBd]
    by_cases c3 : (A h).testBit (S (8 + g)) = true
    · have hea : dEa T (dOp T (A 24)) (dFr T c (12 * g + h)) (A h) (A (12 + h)) S g = false := by unfold dEa; rw [c3]; simp
      have hw : dWo T (A h) S g (S (8 + g)) = 0 := by unfold dWo; rw [if_pos c3]
      rw [if_pos c3] at hto
      rw [hw, if_pos (by rfl)]
      exact ⟨_, rfl, mQ_no hl hto hea hfl hn1⟩
    · have hwne : dWo T (A h) S g (S (8 + g)) ≠ 0 := by
        unfold dWo
        rw [if_neg c3]
        split <;> omega
      rw [if_neg c3] at hto
      rw [if_neg (by rw [gL_0, nI_eq (by omega) (by omega)]; exact hwne)]
      rw [Bool.not_eq_true] at c3
      have hlt9 : (nI (dWo T (A h) S g (S (8 + g))) < 9) ↔ dWo T (A h) S g (S (8 + g)) < 9 := by rw [gL_9, nI_ltI (by omega) (by omega)]
      have hrk : dWo T (A h) S g (S (8 + g)) < 9 → dRk T S g (S (8 + g)) < T 8 g := by
        intro hlt
        unfold dWo at hlt
        rw [c3, if_neg Bool.false_ne_true] at hlt
        split at hlt
        · assumption
        · omega
      have hea4 : m.2 ≠ 0 → dWo T (A h) S g (S (8 + g)) < 9 → dEa T (dOp T (A 24)) (dFr T c (12 * g + h)) (A h) (A (12 + h)) S g = true := by
        intro h1 h2
        unfold dEa
        rw [hfo, c2, c3, decide_eq_true (hsm.mpr h1), decide_eq_true h2]
        rfl
      have hea5 : m.2 = 0 ∨ ¬ dWo T (A h) S g (S (8 + g)) < 9 → dEa T (dOp T (A 24)) (dFr T c (12 * g + h)) (A h) (A (12 + h)) S g = false := by
        intro h1
        unfold dEa
        rcases h1 with h1 | h1
        · rw [decide_eq_false (fun e => (hsm.mp e) h1)]; simp
        · rw [decide_eq_false h1]; simp
      by_cases c5 : m.2 < 10
      · obtain ⟨i1, i2, i3⟩ := hin2 c5
        have hwm := mWorth (p := m.1) (h := h) hR hM hT hN hv hAB hl hg (by omega) (by omega)
        rw [i3] at hwm
        simp only [if_pos c5, if_neg (gI_nm1 (show m.1 < 2 ^ 31 by omega)), hwm, gBd]
        by_cases c6 : m.2 = 0
        · rw [if_pos c6] at hto
          rw [c6, if_pos (by rfl), gWr (by omega), gBd]
          exact ⟨_, rfl, mQ_go hl hto (hea5 (Or.inl c6)) hfl⟩
        · rw [if_neg c6] at hto
          rw [if_neg (by rw [gL_0, nI_eq (by omega) (by omega)]; exact c6)]
          by_cases c7 : dWo T (A h) S g (S (8 + g)) < 9
          · rw [if_pos c7] at hto
            rw [if_pos (hlt9.mpr c7), mEats hR hM hT hN hl hn hSo hg (by omega) (hrk c7), gBd]
            exact ⟨_, rfl, mQ_eat hT hSo hg hl hn1 (hrk c7) hto (hea4 c6 c7) hfl⟩
          · rw [if_neg c7] at hto
            rw [if_neg (fun e => c7 (hlt9.mp e))]
            by_cases c8 : m.2 < 9
            · rw [if_pos c8] at hto
              rw [if_pos (by rw [gL_9, nI_ltI (by omega) (by omega)]; exact c8), gWr (by omega), gBd]
              exact ⟨_, rfl, mQ_go hl hto (hea5 (Or.inr c7)) hfl⟩
            · rw [if_neg c8] at hto
              rw [if_neg (by rw [gL_9, nI_ltI (by omega) (by omega)]; exact c8)]
              exact ⟨_, rfl, mQ_no hl hto (hea5 (Or.inr c7)) hfl hn1⟩
      · simp only [if_neg c5, ↓reduceIte]
        rw [if_neg (by omega)] at hto
        by_cases c7 : dWo T (A h) S g (S (8 + g)) < 9
        · rw [if_pos c7] at hto
          rw [if_pos (hlt9.mpr c7), mEats hR hM hT hN hl hn hSo hg (by omega) (hrk c7), gBd]
          exact ⟨_, rfl, mQ_eat hT hSo hg hl hn1 (hrk c7) hto (hea4 (by omega) c7) hfl⟩
        · rw [if_neg c7, if_neg (by omega)] at hto
          rw [if_neg (fun e => c7 (hlt9.mp e))]
          exact ⟨_, rfl, mQ_no hl hto (hea5 (Or.inr c7)) hfl hn1⟩
theorem mGoes (hR : R 102 3 = some b) (hM : tM M b T) (hT : tOk T) (hN : 5000 ≤ N) (hv : ∀ i, i < 18 → M 105 i = nI (B i)) (hAB : aB A B) (hl : ∀ p k, p < 8 → k < 4 → M 111 (4 * p + k) = nI (dNib (S p) k)) (hn : ∀ g, g < T 0 5 → M 113 g = nI (S (8 + g))) (hSo : dSok T S) {c g h : Nat} (hc : c < 2 ^ 31) (hg : g < T 0 5) (hh : h < T 0 0) :
    ∃ M', fX14_goatGoes N M R (nI c) (nI g) (nI h) = some M' ∧ mQ M M' T (dOp T (A 24)) (dFr T c (12 * g + h)) (A h) (A (12 + h)) S g h := by
  have hz := tO_sz hT
  obtain ⟨o6, o7, o8, o10, o23, o11, o11', o9⟩ := tO_goat hT g hg
  have hhere := hSo.2.2 g hg
  have hn1 := hn g hg
  rw [mGoes_eq, hR, gBd, gRd (by omega), gBd, tM_7 hM (by omega)]
  rcases o7 with o7 | o7
  · have hm := hSo.2.2 _ o7
    have hn2 := hn _ o7
    have c6 : T 7 g < 6 := by omega
    have hop := mOpen hR hM hT hN hv hAB (show S (8 + g) < 8 by omega) (show S (8 + T 7 g) < 8 by omega)
    rw [if_neg (gI_nm2 (by omega)), gRd (by omega), gBd, gRd (by omega), gBd, hn1, hn2]
    by_cases c1 : S (8 + T 7 g) = S (8 + g)
    · rw [if_pos (by rw [c1])]
      refine mRest_ok hR hM hT hN hv hAB hl hn hSo hc hg hh ?_
      unfold dFo
      rw [c1, dOp_self hT, Bool.and_false]
    · rw [if_neg (by rw [nI_eq (by omega) (by omega)]; exact c1), gBd, gBd, hop, gBd]
      by_cases c2 : (dOp T (A 24) (S (8 + g))).testBit (S (8 + T 7 g)) = true
      · have hfo : dFo T (dOp T (A 24)) S g = true := by unfold dFo; rw [c2, decide_eq_true c6]; rfl
        rw [c2, if_neg (by decide), gBd, gWr (by omega), gBd]
        refine ⟨_, rfl, mQ_go hl ?_ ?_ ?_⟩
        · unfold dTo; rw [if_pos hfo]
        · unfold dEa; rw [hfo]; rfl
        · unfold dFl; rw [hfo]; rfl
      · rw [Bool.not_eq_true] at c2
        rw [c2, if_pos (by decide)]
        refine mRest_ok hR hM hT hN hv hAB hl hn hSo hc hg hh ?_
        unfold dFo
        rw [c2, Bool.and_false]
  · rw [o7, if_pos (show nI 4294967294 = -2 from rfl)]
    refine mRest_ok hR hM hT hN hv hAB hl hn hSo hc hg hh ?_
    unfold dFo
    rw [o7]
    rfl
end mGoes2
