/-! THE TAPES: tokens in both -/
theorem rb_all : ∀ n, n < 256 → ((fX14_isLetter ((Int8.ofNat n).toInt32 &&& 255) = fX11_isLetter (Int8.ofNat n).toInt32 ∧ fX14_isDigit ((Int8.ofNat n).toInt32 &&& 255) = fX11_isDigit (Int8.ofNat n).toInt32) ∧ (((Int8.ofNat n).toInt32 &&& 255) = 32 ↔ (Int8.ofNat n).toInt32 = 32) ∧ (((Int8.ofNat n).toInt32 &&& 255) = 59 ↔ (Int8.ofNat n).toInt32 = 59) ∧ (((Int8.ofNat n).toInt32 &&& 255) = 44 ↔ (Int8.ofNat n).toInt32 = 44) ∧ ¬ ((Int8.ofNat n).toInt32 &&& 255) = -1) ∧ (fX11_isLetter (Int8.ofNat n).toInt32 = 0 ∨ (fX11_isLetter (Int8.ofNat n).toInt32 = 1 ∧ 97 ≤ n ∧ n ≤ 122 ∧ (Int8.ofNat n).toInt32 = nI n ∧ ((Int8.ofNat n).toInt32 &&& 255) = nI n)) ∧ (fX11_isDigit (Int8.ofNat n).toInt32 = 0 ∨ (fX11_isDigit (Int8.ofNat n).toInt32 = 1 ∧ 48 ≤ n ∧ n ≤ 57 ∧ (Int8.ofNat n).toInt32 = nI n ∧ ((Int8.ofNat n).toInt32 &&& 255) = nI n)) := by
  unfold fX14_isLetter fX14_isDigit fX11_isLetter fX11_isDigit
  decide +kernel
theorem rb_ex (x : Int8) : ∃ n, n < 256 ∧ x = Int8.ofNat n := by
  refine ⟨x.toBitVec.toNat, x.toBitVec.isLt, ?_⟩
  apply Int8.toBitVec.inj
  show x.toBitVec = BitVec.ofNat 8 x.toBitVec.toNat
  rw [BitVec.ofNat_toNat, BitVec.setWidth_eq]
theorem gWL_eq {L : goML} {a k : Nat} {x : Int64} : goWL L a k x a k = x := by simp [goWL]
theorem gWL_ne {L : goML} {a b k : Nat} {x : Int64} (h : b ≠ a) : goWL L a k x b = L b := by funext j; simp [goWL, h]
section tape
variable {e : Nat}
/-- the bytes -/
def rB (e : Nat) (Mc Mm : goMI) : Prop := e ≤ 1200 ∧ Mc 1 2 = nI e ∧ Mm 102 7 = nI e ∧ ∀ i, i < e → Mm 103 i = Mc 2 i ∧ ∃ x : Int8, Mc 2 i = x.toInt32
theorem rB_fr {Mc Mm Mc' Mm' : goMI} (h : rB e Mc Mm) (h1 : Mc' 1 2 = Mc 1 2) (h2 : Mc' 2 = Mc 2) (h3 : Mm' 102 7 = Mm 102 7) (h4 : Mm' 103 = Mm 103) : rB e Mc' Mm' := by
  obtain ⟨a1, a2, a3, a4⟩ := h
  refine ⟨a1, h1.trans a2, h3.trans a3, fun i hi => ?_⟩
  rw [h2, h4]
  exact a4 i hi
/-- a byte in both -/
theorem rByte {Mc Mm : goMI} {q : Nat} (h : rB e Mc Mm) (hq : q < e) : ∃ n, n < 256 ∧ goRd Mc 2 1200 (nI q) = some (Int8.ofNat n).toInt32 ∧ Mc 2 q = (Int8.ofNat n).toInt32 ∧ Mm 103 q = (Int8.ofNat n).toInt32 ∧ fX14_byteAt Mm (nI q) = some ((Int8.ofNat n).toInt32 &&& 255) := by
  obtain ⟨a1, a2, a3, a4⟩ := h
  obtain ⟨b1, x, b2⟩ := a4 q hq
  obtain ⟨n, hn, rfl⟩ := rb_ex x
  refine ⟨n, hn, by rw [gRd (by omega), b2], b2, b1.trans b2, ?_⟩
  unfold fX14_byteAt
  rw [a3, if_pos (nI_lt hq (by omega)), gRd (by omega), gBd, b1, b2]
theorem rByteE {Mc Mm : goMI} (h : rB e Mc Mm) : fX14_byteAt Mm (nI e) = some (-1) := by
  obtain ⟨a1, a2, a3, a4⟩ := h
  unfold fX14_byteAt
  rw [a3, if_neg (nI_nlt (Nat.le_refl _) (by omega))]
/-- blanks -/
theorem rSkip : ∀ (d q : Nat) (Mc Mm : goMI) (n m : Nat), q + d = e → rB e Mc Mm → Mc 1 3 = nI q → Mm 102 8 = nI q → d < n → d < m →
    ∃ q' Mc' Mm', q ≤ q' ∧ q' ≤ e ∧ lX11_advance_0 n Mc = some Mc' ∧ lX14_goesOn_9 m Mm = some Mm' ∧ Mc' 1 3 = nI q' ∧ Mm' 102 8 = nI q' ∧ (∀ b, b ≠ 1 → Mc' b = Mc b) ∧ (∀ j, j ≠ 3 → Mc' 1 j = Mc 1 j) ∧ (∀ b, b ≠ 102 → Mm' b = Mm b) ∧ ∀ j, j ≠ 8 → Mm' 102 j = Mm 102 j := by
  intro d
  induction d with
  | zero =>
    intro q Mc Mm n m hd hB h3 h8 hn hm
    obtain ⟨n, rfl⟩ : ∃ k, n = k + 1 := ⟨n - 1, by omega⟩
    obtain ⟨m, rfl⟩ : ∃ k, m = k + 1 := ⟨m - 1, by omega⟩
    have hqe : q = e := by omega
    refine ⟨q, Mc, Mm, Nat.le_refl _, by omega, ?_, ?_, h3, h8, fun _ _ => rfl, fun _ _ => rfl, fun _ _ => rfl, fun _ _ => rfl⟩
    · rw [lX11_advance_0, h3, hB.2.1, hqe, if_neg (nI_nlt (Nat.le_refl _) (by have := hB.1; omega))]
    · rw [lX14_goesOn_9, h8, hqe, rByteE hB, gBd, if_neg (by decide)]
  | succ d ih =>
    intro q Mc Mm n m hd hB h3 h8 hn hm
    obtain ⟨n, rfl⟩ : ∃ k, n = k + 1 := ⟨n - 1, by omega⟩
    obtain ⟨m, rfl⟩ : ∃ k, m = k + 1 := ⟨m - 1, by omega⟩
    have he := hB.1
    obtain ⟨x, hx, b1, b2, b3, b4⟩ := rByte hB (q := q) (by omega)
    obtain ⟨⟨_, y32, _, _, _⟩, _, _⟩ := rb_all x hx
    rw [lX11_advance_0, lX14_goesOn_9, h3, h8, hB.2.1, if_pos (nI_lt (by omega) (by omega)), b1, b4, gBd, gBd]
    by_cases c : (Int8.ofNat x).toInt32 = 32
    · rw [if_pos c, if_pos (y32.mpr c), gNm, gNm, nI_1]
      obtain ⟨q', Mc', Mm', r1, r2, r3, r4, r5, r6, r7, r8, r9, r10⟩ := ih (q + 1) (goWI Mc 1 3 (nI (q + 1))) (goWI Mm 102 8 (nI (q + 1))) n m (by omega) (rB_fr hB (gWI_nk (by decide)) (goWI_ne (by decide)) (gWI_nk (by decide)) (goWI_ne (by decide))) (by rw [gWI_self, if_pos rfl]) (by rw [gWI_self, if_pos rfl]) (by omega) (by omega)
      exact ⟨q', Mc', Mm', by omega, r2, r3, r4, r5, r6, fun b hb => by rw [r7 b hb, goWI_ne hb], fun j hj => by rw [r8 j hj, gWI_nk hj], fun b hb => by rw [r9 b hb, goWI_ne hb], fun j hj => by rw [r10 j hj, gWI_nk hj]⟩
    · rw [if_neg c, if_neg (fun h => c (y32.mp h))]
      exact ⟨q, Mc, Mm, Nat.le_refl _, by omega, rfl, rfl, h3, h8, fun _ _ => rfl, fun _ _ => rfl, fun _ _ => rfl, fun _ _ => rfl⟩
theorem rCode : ∀ k, k < 26 → Int32.toInt64 (nI (97 + k)) - 97 + 1 = Int32.toInt64 ((nI (97 + k) - 97) + 1) := by decide +kernel
theorem rCode' (a : Int64) {k : Nat} (h1 : 97 ≤ k) (h2 : k ≤ 122) : (((a * 32) + Int32.toInt64 (nI k)) - 97) + 1 = (32 * a) + Int32.toInt64 ((nI k - 97) + 1) := by
  obtain ⟨j, rfl⟩ : ∃ j, k = 97 + j := ⟨k - 97, by omega⟩
  rw [← rCode j (by omega), Int64.mul_comm, Int64.sub_eq_add_neg, Int64.sub_eq_add_neg, Int64.add_assoc, Int64.add_assoc, Int64.add_assoc]
/-- letters -/
theorem rWordL {st : Nat} : ∀ (d q : Nat) (Mc Mm : goMI) (Lc Lm : goML) (n m : Nat), q + d = e → st ≤ q → rB e Mc Mm → Mc 1 3 = nI q → Mm 102 8 = nI q → d < n → d < m → (q - st ≤ 8 → Lc 1 7 = Lm 102 17 ∧ ∀ j, j < q - st → Mm 104 j = Mc 2 (st + j)) → (∀ j, j < q - st → ∃ k, 97 ≤ k ∧ k ≤ 122 ∧ Mc 2 (st + j) = nI k) →
    ∃ q' Mc' Mm' Lc' Lm', q ≤ q' ∧ q' ≤ e ∧ lX11_readWord_5 n Mc Lc = some (Mc', Lc') ∧ lX14_goesOn_89 m (nI (q - st)) Mm Lm = some (nI (q' - st), Mm', Lm') ∧ Mc' 1 3 = nI q' ∧ Mm' 102 8 = nI q' ∧ (q' - st ≤ 8 → Lc' 1 7 = Lm' 102 17 ∧ ∀ j, j < q' - st → Mm' 104 j = Mc 2 (st + j)) ∧ (∀ j, j < q' - st → ∃ k, 97 ≤ k ∧ k ≤ 122 ∧ Mc 2 (st + j) = nI k) ∧ (∀ b, b ≠ 1 → Mc' b = Mc b) ∧ (∀ j, j ≠ 3 → Mc' 1 j = Mc 1 j) ∧ (∀ b, b ≠ 102 → b ≠ 104 → Mm' b = Mm b) ∧ (∀ j, j ≠ 8 → Mm' 102 j = Mm 102 j) ∧ (∀ b, b ≠ 1 → Lc' b = Lc b) ∧ (∀ b, b ≠ 102 → Lm' b = Lm b) ∧ (q < e → fX11_isLetter (Mc 2 q) = 1 → q < q') := by
  intro d
  induction d with
  | zero =>
    intro q Mc Mm Lc Lm n m hd hsq hB h3 h8 hn hm hL hK
    obtain ⟨n, rfl⟩ : ∃ k, n = k + 1 := ⟨n - 1, by omega⟩
    obtain ⟨m, rfl⟩ : ∃ k, m = k + 1 := ⟨m - 1, by omega⟩
    have hqe : q = e := by omega
    refine ⟨q, Mc, Mm, Lc, Lm, Nat.le_refl _, by omega, ?_, ?_, h3, h8, hL, hK, fun _ _ => rfl, fun _ _ => rfl, fun _ _ _ => rfl, fun _ _ => rfl, fun _ _ => rfl, fun _ _ => rfl, fun h => absurd h (by omega)⟩
    · rw [lX11_readWord_5, h3, hB.2.1, hqe, if_neg (nI_nlt (Nat.le_refl _) (by have := hB.1; omega))]
    · rw [lX14_goesOn_89, h8, hqe, rByteE hB, gBd, if_pos (by decide)]
  | succ d ih =>
    intro q Mc Mm Lc Lm n m hd hsq hB h3 h8 hn hm hL hK
    obtain ⟨n, rfl⟩ : ∃ k, n = k + 1 := ⟨n - 1, by omega⟩
    obtain ⟨m, rfl⟩ : ∃ k, m = k + 1 := ⟨m - 1, by omega⟩
    have he := hB.1
    obtain ⟨x, hx, b1, b2, b3, b4⟩ := rByte hB (q := q) (by omega)
    obtain ⟨⟨⟨yl, _⟩, _⟩, y1, _⟩ := rb_all x hx
    rw [lX11_readWord_5, lX14_goesOn_89, h3, h8, hB.2.1, if_pos (nI_lt (by omega) (by omega)), b1, b4]
    simp only [gBd, yl]
    rcases y1 with c | ⟨c, k1, k2, e1, e2⟩
    · rw [if_pos c, if_pos c]
      exact ⟨q, Mc, Mm, Lc, Lm, Nat.le_refl _, by omega, rfl, rfl, h3, h8, hL, hK, fun _ _ => rfl, fun _ _ => rfl, fun _ _ _ => rfl, fun _ _ => rfl, fun _ _ => rfl, fun _ _ => rfl, fun _ h => by rw [b2, c] at h; cases h⟩
    · rw [if_neg (by rw [c]; decide), if_neg (by rw [c]; decide), gNm, gNm, nI_1, e2, e1]
      have hK' : ∀ j, j < q + 1 - st → ∃ k, 97 ≤ k ∧ k ≤ 122 ∧ Mc 2 (st + j) = nI k := by
        intro j hj
        by_cases c2 : j = q - st
        · exact ⟨x, k1, k2, by rw [c2, show st + (q - st) = q by omega, b2, e1]⟩
        · exact hK j (by omega)
      by_cases c8 : q - st < 8
      · obtain ⟨l1, l2⟩ := hL (by omega)
        have e4 : goRd (goWI Mm 104 (q - st) (nI x)) 104 8 (nI (q - st)) = some (nI x) := by rw [gRd c8, gWI_self, if_pos rfl]
        rw [if_pos (show nI (q - st) < 8 from nI_lt (b := 8) c8 (by decide)), gWr c8, gBd]
        obtain ⟨q', Mc', Mm', Lc', Lm', r1, r2, r3, r4, r5, r6, r7, r7', r8, r9, r10, r11, r12, r13, r14⟩ := ih (q + 1) (goWI Mc 1 3 (nI (q + 1))) (goWI (goWI Mm 104 (q - st) (nI x)) 102 8 (nI (q + 1))) (goWL Lc 1 7 ((((Lc 1 7 * 32) + Int32.toInt64 (nI x)) - 97) + 1)) (goWL Lm 102 17 ((32 * Lm 102 17) + Int32.toInt64 ((nI x - 97) + 1))) n m (by omega) (by omega) (rB_fr hB (gWI_nk (by decide)) (goWI_ne (by decide)) (by rw [gWI_nk (by decide), gWI_na (by decide)]) (by rw [goWI_ne (by decide), goWI_ne (by decide)])) (by rw [gWI_self, if_pos rfl]) (by rw [gWI_self, if_pos rfl]) (by omega) (by omega)
          (fun _ => ⟨by rw [gWL_eq, gWL_eq, l1, rCode' _ k1 k2], fun j hj => by
            rw [gWI_na (M := goWI Mm 104 (q - st) (nI x)) (by decide), gWI_self, gWI_na (M := Mc) (by decide)]
            by_cases c2 : j = q - st
            · rw [if_pos c2, c2, show st + (q - st) = q by omega, b2, e1]
            · rw [if_neg c2]; exact l2 j (by omega)⟩) (fun j hj => by rw [gWI_na (by decide)]; exact hK' j hj)
        refine ⟨q', Mc', Mm', Lc', Lm', by omega, r2, r3, ?_, r5, r6, fun h => ?_, fun j hj => ?_, fun b hb => by rw [r8 b hb, goWI_ne hb], fun j hj => by rw [r9 j hj, gWI_nk hj], fun b hb hb' => by rw [r10 b hb hb', goWI_ne hb, goWI_ne hb'], fun j hj => by rw [r11 j hj, gWI_nk hj, gWI_na (by decide)], fun b hb => by rw [r12 b hb]; rw [gWL_ne hb], fun b hb => by rw [r13 b hb]; rw [gWL_ne hb], fun _ _ => by omega⟩
        · rw [e4, gBd, gNm, gB2, gNm, show goWI Mm 104 (q - st) (nI x) 102 8 = nI q from by rw [gWI_na (by decide)]; exact h8, nI_1, nI_1, show q - st + 1 = q + 1 - st by omega]
          exact r4
        · obtain ⟨z1, z2⟩ := r7 h
          exact ⟨z1, fun j hj => by rw [z2 j hj, gWI_na (by decide)]⟩
        · have := r7' j hj
          rw [gWI_na (by decide)] at this
          exact this
      · rw [if_neg (show ¬ nI (q - st) < 8 from nI_nlt (show 8 ≤ q - st by omega) (by omega)), gB2, gNm, h8, nI_1, nI_1, show q - st + 1 = q + 1 - st by omega]
        obtain ⟨q', Mc', Mm', Lc', Lm', r1, r2, r3, r4, r5, r6, r7, r7', r8, r9, r10, r11, r12, r13, r14⟩ := ih (q + 1) (goWI Mc 1 3 (nI (q + 1))) (goWI Mm 102 8 (nI (q + 1))) (goWL Lc 1 7 ((((Lc 1 7 * 32) + Int32.toInt64 (nI x)) - 97) + 1)) Lm n m (by omega) (by omega) (rB_fr hB (gWI_nk (by decide)) (goWI_ne (by decide)) (gWI_nk (by decide)) (goWI_ne (by decide))) (by rw [gWI_self, if_pos rfl]) (by rw [gWI_self, if_pos rfl]) (by omega) (by omega) (fun h => absurd h (by omega)) (fun j hj => by rw [gWI_na (by decide)]; exact hK' j hj)
        refine ⟨q', Mc', Mm', Lc', Lm', by omega, r2, r3, r4, r5, r6, fun h => absurd h (by omega), fun j hj => ?_, fun b hb => by rw [r8 b hb, goWI_ne hb], fun j hj => by rw [r9 j hj, gWI_nk hj], fun b hb hb' => by rw [r10 b hb hb', goWI_ne hb], fun j hj => by rw [r11 j hj, gWI_nk hj], fun b hb => by rw [r12 b hb]; rw [gWL_ne hb], r13, fun _ _ => by omega⟩
        have := r7' j hj
        rw [gWI_na (by decide)] at this
        exact this
end tape
