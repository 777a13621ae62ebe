/-! A GOAT'S TURN in the component -/
section cTurn
variable {M : goMI} {R : goMR} {T : tH} {t a N : Nat} {S op fe L : Nat → Nat}
theorem dBs_lt {sa g re he l : Nat} (h : he < T 0 2) : dBs T sa S g re he l < T 0 2 := by
  have key : ∀ n, n ≤ T 0 2 → (gMin (dWo T sa S g) (fun p => re.testBit p) he l n).1 < T 0 2 := by
    intro n
    induction n with
    | zero => intro _; exact h
    | succ n ih =>
      intro hn
      unfold gMin
      split
      · exact hn
      · exact ih (by omega)
  exact key _ (Nat.le_refl _)
theorem dTo_lt {sa fe dg g : Nat} (hT : tOk T) (hSo : dSok T S) (hg : g < T 0 5) : dTo T op fe sa dg S g < T 0 2 := by
  have hh := hSo.2.2 g hg
  have hz := tO_sz hT
  unfold dTo
  split
  · rename_i c
    unfold dFo at c
    rw [Bool.and_eq_true, decide_eq_true_eq] at c
    rcases (tO_goat hT g hg).2.1 with o | o
    · exact hSo.2.2 _ o
    · omega
  · split
    · exact dBs_lt hh
    · split
      · exact hh
      · split
        · split
          · exact hh
          · exact dBs_lt hh
        · exact dBs_lt hh
theorem dNx_ok {sa fe dg g : Nat} (hT : tOk T) (hSo : dSok T S) (hg : g < T 0 5) : dSok T (dNx T op fe sa dg S g) := by
  have hz := tO_sz hT
  have ht := dTo_lt (op := op) (sa := sa) (fe := fe) (dg := dg) hT hSo hg
  have hh := hSo.2.2 g hg
  refine ⟨fun p hp => ?_, fun i hi => ?_, fun k hk => ?_⟩
  · unfold dNx
    have := hSo.1 p hp
    rw [if_neg (by omega)]
    split <;> omega
  · unfold dNx
    have := hSo.2.1 i hi
    split
    · omega
    · split <;> omega
  · unfold dNx
    have := hSo.2.2 k hk
    split
    · exact ht
    · split <;> omega
/-- what a goat's turn changes in the component -/
def cQ (M M' : goMI) (a : Nat) (T : tH) (op : Nat → Nat) (fe sa dg : Nat) (S : Nat → Nat) (g h : Nat) : Prop :=
  (∀ b, b ≤ a ∨ a + 9 < b ∨ b = a + 2 ∨ b = a + 3 ∨ b = a + 4 ∨ b = a + 8 → M' b = M b) ∧
  (∀ i, i < 14 → M' (a + 1) i = nI (dNx T op fe sa dg S g i)) ∧
  (∀ j, M' (a + 5) j = if j = 12 * g + h then nI (dTo T op fe sa dg S g) else M (a + 5) j) ∧
  (∀ j, M' (a + 6) j = if j = 12 * g + h then nI (dCo T op fe sa dg S g) else M (a + 6) j) ∧
  (∀ j, M' (a + 7) j = if dEa T op fe sa dg S g && decide (j = 4 * g + dPl T S g) then M (a + 7) j + nI (dBt T S g) else M (a + 7) j) ∧
  (∀ j, M' (a + 9) j = if j = g then M (a + 9) j + nI (dFl T op fe sa dg S g) else M (a + 9) j)
theorem gI_add0 (x : Int32) : x + nI 0 = x := by rw [nI_0, Int32.add_zero]
theorem cQ_fl {fe sa dg g h q : Nat} (hS : ∀ i, i < 14 → M (a + 1) i = nI (S i)) (hg : g < T 0 5) (hh : h < 12) (e1 : dTo T op fe sa dg S g = q) (e2 : dEa T op fe sa dg S g = false) : cQ M (goWI (goWI (goWI (goWI M (a + 6) (12 * g + h) (nI 0)) (a + 9) g (M (a + 9) g + nI (dFl T op fe sa dg S g))) (a + 1) (8 + g) (nI q)) (a + 5) (12 * g + h) (nI q)) a T op fe sa dg S g h := by
  refine ⟨fun b hb => ?_, fun i hi => ?_, fun j => ?_, fun j => ?_, fun j => ?_, fun j => ?_⟩
  · rw [goWI_ne (by omega), goWI_ne (by omega), goWI_ne (by omega), goWI_ne (by omega)]
  · rw [gWI_na (by omega), gWI_self, gWI_na (by omega), gWI_na (by omega), hS i hi]
    unfold dNx
    rw [e1, e2]
    by_cases c : i = 8 + g
    · rw [if_pos c, if_pos c]
    · rw [if_neg c, if_neg c]; rfl
  · rw [gWI_self, e1, gWI_na (by omega), gWI_na (by omega), gWI_na (by omega)]
  · rw [gWI_na (by omega), gWI_na (by omega), gWI_na (by omega), gWI_self]
    unfold dCo
    rw [e2]
    rfl
  · rw [gWI_na (by omega), gWI_na (by omega), gWI_na (by omega), gWI_na (by omega), e2]
    rfl
  · rw [gWI_na (by omega), gWI_na (by omega), gWI_self]
    by_cases c : j = g
    · rw [if_pos c, if_pos c, c]
    · rw [if_neg c, if_neg c, gWI_na (by omega)]
theorem cQ_no {fe sa dg g h q : Nat} (hS : ∀ i, i < 14 → M (a + 1) i = nI (S i)) (hg : g < T 0 5) (hh : h < 12) (e1 : dTo T op fe sa dg S g = q) (e2 : dEa T op fe sa dg S g = false) (e3 : dFl T op fe sa dg S g = 0) : cQ M (goWI (goWI (goWI M (a + 6) (12 * g + h) (nI 0)) (a + 1) (8 + g) (nI q)) (a + 5) (12 * g + h) (nI q)) a T op fe sa dg S g h := by
  refine ⟨fun b hb => ?_, fun i hi => ?_, fun j => ?_, fun j => ?_, fun j => ?_, fun j => ?_⟩
  · rw [goWI_ne (by omega), goWI_ne (by omega), goWI_ne (by omega)]
  · rw [gWI_na (by omega), gWI_self, gWI_na (by omega), hS i hi]
    unfold dNx
    rw [e1, e2]
    by_cases c : i = 8 + g
    · rw [if_pos c, if_pos c]
    · rw [if_neg c, if_neg c]; rfl
  · rw [gWI_self, e1, gWI_na (by omega), gWI_na (by omega)]
  · rw [gWI_na (by omega), gWI_na (by omega), gWI_self]
    unfold dCo
    rw [e2]
    rfl
  · rw [gWI_na (by omega), gWI_na (by omega), gWI_na (by omega), e2]
    rfl
  · rw [gWI_na (by omega), gWI_na (by omega), gWI_na (by omega), e3, gI_add0]
    split <;> rfl
theorem cQ_eat {fe sa dg g h : Nat} (hT : tOk T) (hSo : dSok T S) (hS : ∀ i, i < 14 → M (a + 1) i = nI (S i)) (hg : g < T 0 5) (hh : h < 12) (hk : dRk T S g (S (8 + g)) < T 8 g) (e1 : dTo T op fe sa dg S g = S (8 + g)) (e2 : dEa T op fe sa dg S g = true) (e3 : dFl T op fe sa dg S g = 0) : cQ M (goWI (goWI (goWI (goWI (goWI (goWI M (a + 6) (12 * g + h) (nI 0)) (a + 1) (S (8 + g)) (nI (S (S (8 + g)) - dBt T S g * 2 ^ (4 * dPl T S g)))) (a + 7) (4 * g + dPl T S g) (goWI M (a + 6) (12 * g + h) (nI 0) (a + 7) (4 * g + dPl T S g) + nI (dBt T S g))) (a + 6) (12 * g + h) (nI (dBt T S g * 4 + dPl T S g))) (a + 1) (8 + g) (nI (S (8 + g)))) (a + 5) (12 * g + h) (nI (S (8 + g)))) a T op fe sa dg S g h := by
  have hz := tO_sz hT
  have hhere := hSo.2.2 g hg
  refine ⟨fun b hb => ?_, fun i hi => ?_, fun j => ?_, fun j => ?_, fun j => ?_, fun j => ?_⟩
  · rw [goWI_ne (by omega), goWI_ne (by omega), goWI_ne (by omega), goWI_ne (by omega), goWI_ne (by omega), goWI_ne (by omega)]
  · rw [gWI_na (by omega), gWI_self, gWI_na (by omega), gWI_na (by omega), gWI_self, gWI_na (by omega), hS i hi]
    unfold dNx
    rw [e1, e2, Bool.true_and]
    by_cases c : i = 8 + g
    · rw [if_pos c, if_pos c]
    · rw [if_neg c, if_neg c]
      by_cases c2 : i = S (8 + g)
      · rw [if_pos c2, if_pos (decide_eq_true c2), c2]
      · rw [if_neg c2, if_neg (by rw [decide_eq_false c2]; exact Bool.false_ne_true)]
  · rw [gWI_self, e1, gWI_na (by omega), gWI_na (by omega), gWI_na (by omega), gWI_na (by omega), gWI_na (by omega)]
  · rw [gWI_na (by omega), gWI_na (by omega), gWI_self]
    unfold dCo
    rw [e2, if_pos rfl]
    by_cases c : j = 12 * g + h
    · rw [if_pos c, if_pos c]
    · rw [if_neg c, if_neg c, gWI_na (by omega), gWI_na (by omega), gWI_nk c]
  · rw [gWI_na (by omega), gWI_na (by omega), gWI_na (by omega), gWI_self, e2, Bool.true_and]
    by_cases c : j = 4 * g + dPl T S g
    · rw [if_pos c, if_pos (decide_eq_true c), gWI_na (by omega), c]
    · rw [if_neg c, if_neg (by rw [decide_eq_false c]; exact Bool.false_ne_true), gWI_na (by omega), gWI_na (by omega)]
  · rw [gWI_na (by omega), gWI_na (by omega), gWI_na (by omega), gWI_na (by omega), gWI_na (by omega), gWI_na (by omega), e3, gI_add0]
    split <;> rfl
theorem cTurn (hC : tC M t T) (hT : tOk T) (hR : goRr R a 1 = t) (hta : t + 29 < a) (hN : 5000 ≤ N) (hL : ∀ i, i < 24 → M (a + 2) i = nI (L i)) (hLb : ∀ i, i < 24 → L i < 256) (hop : ∀ p, p < 8 → M (a + 3) p = nI (op p)) (hopb : ∀ p, p < 8 → op p < 256) (hfe : ∀ i, i < 72 → M (a + 4) i = nI (fe i)) (hfeb : ∀ i, i < 72 → fe i < 256) (hS : ∀ i, i < 14 → M (a + 1) i = nI (S i)) (hSo : dSok T S) {g h : Nat} (hg : g < T 0 5) (hh : h < 12) :
    ∃ M', fX3_turn N M R a (nI g) (nI h) = some M' ∧ cQ M M' a T op (fe (12 * g + h)) (L h) (L (12 + h)) S g h := by
  have hz := tO_sz hT
  obtain ⟨h10, h11, h13, h16, h15⟩ := tC_goats hC g hg
  obtain ⟨o6, o7, o8, o10, o23, o11, o11', o9⟩ := tO_goat hT g hg
  have hhere := hSo.2.2 g hg
  have hf1 := hfeb (12 * g + h) (by omega)
  have hl1 := hLb h (by omega)
  have hl2 := hLb (12 + h) (by omega)
  have ho1 := hopb (S (8 + g)) (by omega)
  have hFe : dFe T (fe (12 * g + h)) (L (12 + h)) g < 256 := by
    unfold dFe
    split
    · exact hf1
    · exact Nat.or_lt_two_pow (n := 8) hf1 hl2
  have hRe : dRe T op (fe (12 * g + h)) (L (12 + h)) S g < 256 := dAn_lt (n := 8) ho1
  have hC0 : tC (goWI M (a + 6) (12 * g + h) (nI 0)) t T := tC_fr hC (fun r hr => goWI_ne (by omega))
  have hL0 : ∀ i, i < 24 → goWI M (a + 6) (12 * g + h) (nI 0) (a + 2) i = nI (L i) := fun i hi => by rw [gWI_na (by omega)]; exact hL i hi
  have hop0 : ∀ i, i < 8 → goWI M (a + 6) (12 * g + h) (nI 0) (a + 3) i = nI (op i) := fun i hi => by rw [gWI_na (by omega)]; exact hop i hi
  have hS0 : ∀ i, i < 14 → goWI M (a + 6) (12 * g + h) (nI 0) (a + 1) i = nI (S i) := fun i hi => by rw [gWI_na (by omega)]; exact hS i hi
  have hwo := cWorth hC0 hT hR hN hL0 hLb hS0 hSo hg hh (show S (8 + g) < 8 by omega)
  have hwl : dWo T (L h) S g (S (8 + g)) ≤ 9 := dWo_le (by omega)
  have hfo := cFollows hC0 hT hR hop0 hopb hS0 hSo hg
  have hto := dTo_lt (op := op) (sa := L h) (fe := fe (12 * g + h)) (dg := L (12 + h)) hT hSo hg
  have e17 : (if nI (T 6 g) = 2 then some (nI (fe (12 * g + h))) else Option.bind (goRd M (a + 2) 24 (12 + nI h)) fun x21 => goNm (nI (fe (12 * g + h)) ||| x21) fun x23 => some x23) = some (nI (dFe T (fe (12 * g + h)) (L (12 + h)) g)) := by
    unfold dFe
    simp (disch := omega) only [hL, ↓reduceIte, gL_0, gL_1, gL_2, gL_3, gL_4, gL_5, gL_6, gL_7, gL_8, gL_9, gL_10, gL_11, gL_12, gL_13, gL_14, gL_15, gL_16, gL_17, gL_18, gL_19, gL_20, gL_21, gL_22, gL_23, gL_24, gL_25, gL_26, gL_27, gL_31, gL_32, gL_40, gL_44, gL_48, gL_57, gL_59, gL_63, gL_72, gL_78, gL_81, gL_82, gL_96, gL_97, gL_99, gL_100, gL_122, gL_144, gL_192, gL_255, gL_270, gL_288, gL_1200, nI_add, pk_sub, pk_div, gMod, gM_2, gN_2, gM_3, gN_3, gM_4, gN_4, gM_8, gN_8, gM_10, gN_10, gM_12, gN_12, gM_14, gN_14, gM_16, gN_16, gM_18, gN_18, gM_26, gN_26, gM_32, gN_32, gM_72, gN_72, gM_100, gN_100, gBd, gNm, gB2, gB3, gB4, gRd, gWr, gI_bit, gI_bit14, gI_tn1n, gI_tn0n, Bool.toNat_true, Bool.toNat_false, Nat.one_ne_zero, Nat.zero_ne_one, eq_self, gIe00, gIe01, gIe10, gIe11, nI_eq, nI_leI, nI_ltI, gI_or, gI_xor, gI_shl1n, gI_shr31, gI_not1, gI_and15, gI_and1n]
    by_cases c1 : T 6 g = 2
    · simp only [c1, ↓reduceIte]
    · simp only [c1, ↓reduceIte]
  have e27 : nI (op (S (8 + g))) &&& (nI (dFe T (fe (12 * g + h)) (L (12 + h)) g) ^^^ (-1)) = nI (dRe T op (fe (12 * g + h)) (L (12 + h)) S g) := gI_not1 (by omega)
  unfold fX3_turn
  have i1 : (8 : Int32) + nI g = nI (8 + g) := nI_add 8 g
  have i2 : nI g * 12 + nI h = nI (12 * g + h) := by rw [gL_12, gM_12, nI_add]
  have i4 : nI g * 4 = nI (4 * g) := gM_4 g
  simp only [hR, i1, i2, i4]
  rw [gRd (by omega), gBd, hS _ (by omega), gRd (by omega), gBd, hfe _ (by omega), gRd (by omega), gBd, h10, e17, gBd, gRd (by omega), gBd, hop _ (by omega), e27, gNm, gWr (by omega), gBd, gL_0, hfo, gBd]
  have hb9 := cBest hC0 hT hR hN hL0 hLb hS0 hSo (g := g) (h := h) (re := dRe T op (fe (12 * g + h)) (L (12 + h)) S g) (he := S (8 + g)) (l := 9) hg hh hRe (by decide)
  have hb8 := cBest hC0 hT hR hN hL0 hLb hS0 hSo (g := g) (h := h) (re := dRe T op (fe (12 * g + h)) (L (12 + h)) S g) (he := S (8 + g)) (l := 8) hg hh hRe (by decide)
  have hb0 := cBest hC0 hT hR hN hL0 hLb hS0 hSo (g := g) (h := h) (re := dRe T op (fe (12 * g + h)) (L (12 + h)) S g &&& L h) (he := S (8 + g)) (l := 0) hg hh (Nat.lt_of_le_of_lt Nat.and_le_left hRe) (by decide)
  by_cases c1 : dFo T op S g = true
  · have e1 : dTo T op (fe (12 * g + h)) (L h) (L (12 + h)) S g = S (8 + T 7 g) := by unfold dTo; rw [if_pos c1]
    have c6 : T 7 g < 6 := by
      unfold dFo at c1
      rw [Bool.and_eq_true, decide_eq_true_eq] at c1
      exact c1.1
    have hm : T 7 g < T 0 5 := by omega
    rw [c1, if_neg (by decide), gRd (by omega), gBd, gWI_na (by omega), h11, gL_8, nI_add, gRd (by omega), gBd, hS0 _ (by omega), gB2, gWr (by omega), gBd, gWr (by omega), gBd]
    refine ⟨_, rfl, cQ_no hS hg hh e1 ?_ ?_⟩
    · unfold dEa; rw [c1]; rfl
    · unfold dFl; rw [c1]; rfl
  · rw [Bool.not_eq_true] at c1
    rw [c1, if_pos (by decide), gI_bit (by omega) (by omega)]
    by_cases c2 : (dFe T (fe (12 * g + h)) (L (12 + h)) g).testBit (S (8 + g)) = true
    · have e1 : dTo T op (fe (12 * g + h)) (L h) (L (12 + h)) S g = dBs T (L h) S g (dRe T op (fe (12 * g + h)) (L (12 + h)) S g) (S (8 + g)) 10 := by unfold dTo; rw [c1, if_neg Bool.false_ne_true, if_pos c2]
      have e3 : (if nI (dBs T (L h) S g (dRe T op (fe (12 * g + h)) (L (12 + h)) S g) (S (8 + g)) (9 + 1)) = nI (S (8 + g)) then nI 0 else 1) = nI (dFl T op (fe (12 * g + h)) (L h) (L (12 + h)) S g) := by
        unfold dFl
        rw [c1, c2, e1]
        have hto' := hto
        rw [e1] at hto'
        by_cases c : dBs T (L h) S g (dRe T op (fe (12 * g + h)) (L (12 + h)) S g) (S (8 + g)) 10 = S (8 + g)
        · rw [if_pos (congrArg nI c)]; simp [c]
        · rw [if_neg (fun e => c ((nI_eq (by omega) (by omega)).mp e)), gL_1]; simp [c]
      rw [c2, if_pos (by decide), gL_9, hb9, gBd, gRd (by omega), gBd, gWI_na (by omega), gNm, e3, gWr (by omega), gBd, gB2, gWr (by omega), gBd, gWr (by omega), gBd]
      refine ⟨_, rfl, cQ_fl hS hg hh e1 ?_⟩
      unfold dEa; rw [c2]; simp
    · rw [Bool.not_eq_true] at c2
      have e3 : dFl T op (fe (12 * g + h)) (L h) (L (12 + h)) S g = 0 := by unfold dFl; rw [c2]; simp
      rw [c2, if_neg (by decide), gRd (by omega), gBd, hL0 _ (by omega), gI_bit (by omega) (by omega)]
      by_cases c3 : (L h).testBit (S (8 + g)) = true
      · have e1 : dTo T op (fe (12 * g + h)) (L h) (L (12 + h)) S g = S (8 + g) := by unfold dTo; rw [c1, if_neg Bool.false_ne_true, c2, if_neg Bool.false_ne_true, if_pos c3]
        rw [c3, if_neg (by decide), gB2, gWr (by omega), gBd, gWr (by omega), gBd]
        refine ⟨_, rfl, cQ_no hS hg hh e1 ?_ e3⟩
        unfold dEa; rw [c3]; simp
      · rw [Bool.not_eq_true] at c3
        rw [c3, if_pos (by decide), gBd, gNm, hwo, gBd, gI_and, gL_9, gL_8]
        by_cases c4 : dRe T op (fe (12 * g + h)) (L (12 + h)) S g &&& L h = 0
        · rw [if_pos (by rw [c4])]
          by_cases c5 : dWo T (L h) S g (S (8 + g)) < 9
          · have e1 : dTo T op (fe (12 * g + h)) (L h) (L (12 + h)) S g = S (8 + g) := by unfold dTo; rw [c1, if_neg Bool.false_ne_true, c2, if_neg Bool.false_ne_true, c3, if_neg Bool.false_ne_true, if_pos c4, if_pos c5]
            have hrk : dRk T S g (S (8 + g)) < T 8 g := by
              have hlt := c5
              unfold dWo at hlt
              rw [c3, if_neg Bool.false_ne_true] at hlt
              split at hlt
              · assumption
              · omega
            have hw : dWo T (L h) S g (S (8 + g)) = dRk T S g (S (8 + g)) + 1 := by unfold dWo; rw [c3, if_neg Bool.false_ne_true, if_pos hrk]
            have e2 : dEa T op (fe (12 * g + h)) (L h) (L (12 + h)) S g = true := by unfold dEa; rw [c1, c2, c3, decide_eq_true c4, decide_eq_true c5]; rfl
            rw [if_pos (nI_lt c5 (by decide)), hw, nI_add, gL_1, pk_sub (by omega), show 4 * g + (dRk T S g (S (8 + g)) + 1) - 1 = 4 * g + dRk T S g (S (8 + g)) by omega, gRd (by omega), gBd, gWI_na (by omega), h15 _ hrk]
            have he := cEat hC0 hT hR hta hS0 hSo hg hh hrk
            unfold dPl at he
            rw [he, gBd, gB2, gWr (by omega), gBd, gWr (by omega), gBd]
            exact ⟨_, rfl, cQ_eat hT hSo hS hg hh hrk e1 e2 e3⟩
          · have e1 : dTo T op (fe (12 * g + h)) (L h) (L (12 + h)) S g = dBs T (L h) S g (dRe T op (fe (12 * g + h)) (L (12 + h)) S g) (S (8 + g)) 9 := by unfold dTo; rw [c1, if_neg Bool.false_ne_true, c2, if_neg Bool.false_ne_true, c3, if_neg Bool.false_ne_true, if_pos c4, if_neg c5]
            rw [if_neg (nI_nlt (by omega) (by omega)), hb8, gBd, gB2, gWr (by omega), gBd, gWr (by omega), gBd]
            refine ⟨_, rfl, cQ_no hS hg hh e1 ?_ e3⟩
            unfold dEa; rw [decide_eq_false c5]; simp
        · have e1 : dTo T op (fe (12 * g + h)) (L h) (L (12 + h)) S g = dBs T (L h) S g (dRe T op (fe (12 * g + h)) (L (12 + h)) S g &&& L h) (S (8 + g)) 1 := by unfold dTo; rw [c1, if_neg Bool.false_ne_true, c2, if_neg Bool.false_ne_true, c3, if_neg Bool.false_ne_true, if_neg c4]
          have hlt := Nat.and_le_left (n := dRe T op (fe (12 * g + h)) (L (12 + h)) S g) (m := L h)
          rw [if_neg (by rw [nI_eq (by omega) (by omega)]; exact c4), hb0, gBd, gB2, gWr (by omega), gBd, gWr (by omega), gBd]
          refine ⟨_, rfl, cQ_no hS hg hh e1 ?_ e3⟩
          unfold dEa; rw [decide_eq_false c4]; simp
end cTurn
