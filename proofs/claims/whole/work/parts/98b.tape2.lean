/-! A TOKEN in both -/
section tape2
variable {e : Nat}
theorem rWholeL {st : Nat} : ∀ (d q : Nat) (Mc Mm : goMI) (n m : Nat), q + d = e → st ≤ q → rB e Mc Mm → Mc 1 3 = nI q → Mm 102 8 = nI q → d < n → d < m → (q - st ≤ 3 → ∃ v, v < 10 ^ (q - st) ∧ Mc 1 8 = nI v ∧ Mm 102 12 = nI v) →
    ∃ q' Mc' Mm', q ≤ q' ∧ q' ≤ e ∧ lX11_readWhole_5 n Mc = some Mc' ∧ lX14_goesOn_195 m (nI (q - st)) Mm = some (nI (q' - st), Mm') ∧ Mc' 1 3 = nI q' ∧ Mm' 102 8 = nI q' ∧ (q' - st ≤ 3 → ∃ v, v < 10 ^ (q' - st) ∧ Mc' 1 8 = nI v ∧ Mm' 102 12 = nI v) ∧ (∀ b, b ≠ 1 → Mc' b = Mc b) ∧ (∀ j, j ≠ 3 → j ≠ 8 → Mc' 1 j = Mc 1 j) ∧ (∀ b, b ≠ 102 → Mm' b = Mm b) ∧ (∀ j, j ≠ 8 → j ≠ 12 → Mm' 102 j = Mm 102 j) ∧ (q < e → fX11_isDigit (Mc 2 q) = 1 → q < q') := by
  intro d
  induction d with
  | zero =>
    intro q Mc Mm n m hd hsq hB h3 h8 hn hm hL
    obtain ⟨n, rfl⟩ : ∃ k, n = k + 1 := ⟨n - 1, by omega⟩
    obtain ⟨m, rfl⟩ : ∃ k, m = k + 1 := ⟨m - 1, by omega⟩
    have hqe : q = e := by omega
    refine ⟨q, Mc, Mm, Nat.le_refl _, by omega, ?_, ?_, h3, h8, hL, fun _ _ => rfl, fun _ _ _ => rfl, fun _ _ => rfl, fun _ _ _ => rfl, fun h => absurd h (by omega)⟩
    · rw [lX11_readWhole_5, h3, hB.2.1, hqe, if_neg (nI_nlt (Nat.le_refl _) (by have := hB.1; omega))]
    · rw [lX14_goesOn_195, h8, hqe, rByteE hB, gBd, if_pos (by decide)]
  | succ d ih =>
    intro q Mc Mm n m hd hsq hB h3 h8 hn hm hL
    obtain ⟨n, rfl⟩ : ∃ k, n = k + 1 := ⟨n - 1, by omega⟩
    obtain ⟨m, rfl⟩ : ∃ k, m = k + 1 := ⟨m - 1, by omega⟩
    have he := hB.1
    obtain ⟨x, hx, b1, b2, b3, b4⟩ := rByte hB (q := q) (by omega)
    obtain ⟨⟨⟨_, yd⟩, _⟩, _, y1⟩ := rb_all x hx
    rw [lX11_readWhole_5, lX14_goesOn_195, h3, h8, hB.2.1, if_pos (nI_lt (by omega) (by omega)), b1, b4]
    simp only [gBd, yd]
    rcases y1 with c | ⟨c, k1, k2, e1, e2⟩
    · rw [if_pos c, if_pos c]
      exact ⟨q, Mc, Mm, Nat.le_refl _, by omega, rfl, rfl, h3, h8, hL, fun _ _ => rfl, fun _ _ _ => rfl, fun _ _ => rfl, fun _ _ _ => rfl, fun _ h => by rw [b2, c] at h; cases h⟩
    · rw [if_neg (by rw [c]; decide), if_neg (by rw [c]; decide), gNm, gNm, e2, e1, show goWI Mc 1 8 (Mc 1 8 * 10 + nI x - 48) 1 3 = nI q from by rw [gWI_nk (by decide)]; exact h3, nI_1]
      by_cases c3 : q - st < 3
      · obtain ⟨v, v1, v2, v3⟩ := hL (by omega)
        have hpow : 10 ^ (q - st) ≤ 10 ^ 3 := Nat.pow_le_pow_right (by decide) (by omega)
        have ev : Mc 1 8 * 10 + nI x - 48 = nI (10 * v + x - 48) := by rw [v2, gL_10, gM_10, nI_add, gL_48, pk_sub (by omega)]
        have ev' : 10 * Mm 102 12 + nI x - 48 = nI (10 * v + x - 48) := by rw [v3, gL_10, gN_10, nI_add, gL_48, pk_sub (by omega)]
        rw [if_pos (show nI (q - st) < 3 from nI_lt (b := 3) c3 (by decide)), gNm, gBd, gNm, ev, ev', show goWI Mm 102 12 (nI (10 * v + x - 48)) 102 8 = nI q from by rw [gWI_nk (by decide)]; exact h8, nI_1, nI_1, show q - st + 1 = q + 1 - st by omega]
        obtain ⟨q', Mc', Mm', r1, r2, r3, r4, r5, r6, r7, r8, r9, r10, r11, r12⟩ := ih (q + 1) (goWI (goWI Mc 1 8 (nI (10 * v + x - 48))) 1 3 (nI (q + 1))) (goWI (goWI Mm 102 12 (nI (10 * v + x - 48))) 102 8 (nI (q + 1))) n m (by omega) (by omega) (rB_fr hB (by rw [gWI_nk (by decide), gWI_nk (by decide)]) (by rw [goWI_ne (by decide), goWI_ne (by decide)]) (by rw [gWI_nk (by decide), gWI_nk (by decide)]) (by rw [goWI_ne (by decide), goWI_ne (by decide)])) (by rw [gWI_self, if_pos rfl]) (by rw [gWI_self, if_pos rfl]) (by omega) (by omega)
          (fun _ => ⟨10 * v + x - 48, by rw [show q + 1 - st = q - st + 1 by omega, Nat.pow_succ]; omega, by rw [gWI_nk (by decide), gWI_self, if_pos rfl], by rw [gWI_nk (by decide), gWI_self, if_pos rfl]⟩)
        exact ⟨q', Mc', Mm', by omega, r2, r3, r4, r5, r6, r7, fun b hb => by rw [r8 b hb, goWI_ne hb, goWI_ne hb], fun j hj hj' => by rw [r9 j hj hj', gWI_nk hj, gWI_nk hj'], fun b hb => by rw [r10 b hb, goWI_ne hb, goWI_ne hb], fun j hj hj' => by rw [r11 j hj hj', gWI_nk hj, gWI_nk hj'], fun _ _ => by omega⟩
      · rw [if_neg (show ¬ nI (q - st) < 3 from nI_nlt (show 3 ≤ q - st by omega) (by omega)), gBd, gNm, h8, nI_1, nI_1, show q - st + 1 = q + 1 - st by omega]
        obtain ⟨q', Mc', Mm', r1, r2, r3, r4, r5, r6, r7, r8, r9, r10, r11, r12⟩ := ih (q + 1) (goWI (goWI Mc 1 8 (Mc 1 8 * 10 + nI x - 48)) 1 3 (nI (q + 1))) (goWI Mm 102 8 (nI (q + 1))) n m (by omega) (by omega) (rB_fr hB (by rw [gWI_nk (by decide), gWI_nk (by decide)]) (by rw [goWI_ne (by decide), goWI_ne (by decide)]) (by rw [gWI_nk (by decide)]) (by rw [goWI_ne (by decide)])) (by rw [gWI_self, if_pos rfl]) (by rw [gWI_self, if_pos rfl]) (by omega) (by omega) (fun h => absurd h (by omega))
        exact ⟨q', Mc', Mm', by omega, r2, r3, r4, r5, r6, r7, fun b hb => by rw [r8 b hb, goWI_ne hb, goWI_ne hb], fun j hj hj' => by rw [r9 j hj hj', gWI_nk hj, gWI_nk hj'], fun b hb => by rw [r10 b hb, goWI_ne hb], fun j hj hj' => by rw [r11 j hj hj', gWI_nk hj], fun _ _ => by omega⟩
/-- the token at hand -/
def rTok (e st : Nat) (Mc : goMI) (Lc : goML) (Mm : goMI) (Lm : goML) : Prop :=
  (Mc 1 4 = 0 ∧ Mm 102 9 = 1) ∨ (Mc 1 4 = 5 ∧ Mm 102 9 = 0) ∨ ∃ q, st < q ∧ q ≤ e ∧ Mc 1 3 = nI q ∧ Mm 102 8 = nI q ∧
    ((Mc 1 4 = 1 ∧ Mm 102 9 = 2 ∧ Lc 1 7 = Lm 102 17 ∧ ∃ l, 1 ≤ l ∧ l ≤ 8 ∧ q = st + l ∧ Mc 1 6 = nI l ∧ Mm 102 13 = nI l ∧ ∀ j, j < l → Mm 104 j = Mc 2 (st + j) ∧ ∃ k, 97 ≤ k ∧ k ≤ 122 ∧ Mc 2 (st + j) = nI k) ∨
     (Mc 1 4 = 2 ∧ Mm 102 9 = 3 ∧ ∃ v, v < 1000 ∧ Mc 1 8 = nI v ∧ Mm 102 12 = nI v) ∨ (Mc 1 4 = 3 ∧ Mm 102 9 = 4 ∧ Mm 102 11 = 59) ∨ (Mc 1 4 = 4 ∧ Mm 102 9 = 4 ∧ Mm 102 11 = 44))
def rT (e st : Nat) (Mc : goMI) (Lc : goML) (Mm : goMI) (Lm : goML) : Prop := rB e Mc Mm ∧ st ≤ e ∧ Mc 1 5 = nI st ∧ Mm 102 10 = nI st ∧ rTok e st Mc Lc Mm Lm
/-- what a token changes -/
def rFr (Mc : goMI) (Lc : goML) (Mm : goMI) (Lm : goML) (Mc' : goMI) (Lc' : goML) (Mm' : goMI) (Lm' : goML) : Prop := (∀ b, b ≠ 1 → Mc' b = Mc b) ∧ (∀ b, b ≠ 1 → Lc' b = Lc b) ∧ (∀ b, b ≠ 102 → b ≠ 104 → Mm' b = Mm b) ∧ (∀ j, j < 8 ∨ 13 < j → Mm' 102 j = Mm 102 j) ∧ (∀ b, b ≠ 102 → Lm' b = Lm b) ∧ ∀ j, j < 3 → Mc' 1 j = Mc 1 j
theorem rFr_refl {Mc Mm : goMI} {Lc Lm : goML} : rFr Mc Lc Mm Lm Mc Lc Mm Lm := ⟨fun _ _ => rfl, fun _ _ => rfl, fun _ _ _ => rfl, fun _ _ => rfl, fun _ _ => rfl, fun _ _ => rfl⟩
theorem rFr_trans {Mc Mm Mc' Mm' Mc2 Mm2 : goMI} {Lc Lm Lc' Lm' Lc2 Lm2 : goML} (h : rFr Mc Lc Mm Lm Mc' Lc' Mm' Lm') (h' : rFr Mc' Lc' Mm' Lm' Mc2 Lc2 Mm2 Lm2) : rFr Mc Lc Mm Lm Mc2 Lc2 Mm2 Lm2 := by
  obtain ⟨a1, a2, a3, a4, a5, a6⟩ := h
  obtain ⟨b1, b2, b3, b4, b5, b6⟩ := h'
  exact ⟨fun b hb => (b1 b hb).trans (a1 b hb), fun b hb => (b2 b hb).trans (a2 b hb), fun b h1 h2 => (b3 b h1 h2).trans (a3 b h1 h2), fun j hj => (b4 j hj).trans (a4 j hj), fun b hb => (b5 b hb).trans (a5 b hb), fun j hj => (b6 j hj).trans (a6 j hj)⟩
theorem rAdv {Mc Mm : goMI} {Lc Lm : goML} {q : Nat} (hB : rB e Mc Mm) (hq : q ≤ e) (h3 : Mc 1 3 = nI q) (h8 : Mm 102 8 = nI q) (h9 : ¬ Mm 102 9 = 5) :
    ∃ st Mc' Lc' Mm' Lm', q ≤ st ∧ fX11_advance 5000 Mc Lc = some (Mc', Lc') ∧ fX14_goesOn 5000 Mm Lm = some (Mm', Lm') ∧ rT e st Mc' Lc' Mm' Lm' ∧ rFr Mc Lc Mm Lm Mc' Lc' Mm' Lm' := by
  have he := hB.1
  obtain ⟨st, Ms, Ns, s1, s2, s3, s4, s5, s6, s7, s8, s9, s10⟩ := rSkip (e := e) (e - q) q Mc Mm 5000 5000 (by omega) hB h3 h8 (by omega) (by omega)
  generalize hMc1 : goWI Ms 1 5 (nI st) = Mc1
  generalize hMm1 : goWI (goWI (goWI Ns 102 10 (nI st)) 102 9 0) 102 11 0 = Mm1
  have c13 : Mc1 1 3 = nI st := by rw [← hMc1, gWI_nk (by decide)]; exact s5
  have c15 : Mc1 1 5 = nI st := by rw [← hMc1, gWI_self, if_pos rfl]
  have m8 : Mm1 102 8 = nI st := by rw [← hMm1, gWI_nk (by decide), gWI_nk (by decide), gWI_nk (by decide)]; exact s6
  have m9 : Mm1 102 9 = 0 := by rw [← hMm1, gWI_nk (by decide), gWI_self, if_pos rfl]
  have m10 : Mm1 102 10 = nI st := by rw [← hMm1, gWI_nk (by decide), gWI_nk (by decide), gWI_self, if_pos rfl]
  have f1 : rFr Mc Lc Mm Lm Mc1 Lc Mm1 Lm := by
    refine ⟨fun b hb => by rw [← hMc1, goWI_ne hb]; exact s7 b hb, fun _ _ => rfl, fun b hb _ => by rw [← hMm1, goWI_ne hb, goWI_ne hb, goWI_ne hb]; exact s9 b hb, fun j hj => ?_, fun _ _ => rfl, fun j hj => by rw [← hMc1, gWI_nk (by omega)]; exact s8 j (by omega)⟩
    rw [← hMm1, gWI_nk (by omega), gWI_nk (by omega), gWI_nk (by omega)]
    exact s10 j (by omega)
  have hB1 : rB e Mc1 Mm1 := rB_fr hB (f1.2.2.2.2.2 2 (by decide)) (f1.1 2 (by decide)) (f1.2.2.2.1 7 (by decide)) (f1.2.2.1 103 (by decide) (by decide))
  have hc : fX11_advance 5000 Mc Lc = (if (Mc1 1 2) ≤ (Mc1 1 3) then some (goWI Mc1 1 4 0, Lc) else Option.bind (goRd Mc1 2 1200 (Mc1 1 3)) fun x22 => if (fX11_isLetter x22) = 0 then if (fX11_isDigit x22) = 0 then some (goWI (goWI Mc1 1 4 (if x22 = 59 then 3 else if x22 = 44 then 4 else 5)) 1 3 ((goWI Mc1 1 4 (if x22 = 59 then 3 else if x22 = 44 then 4 else 5)) 1 3 + 1), Lc) else Option.bind (fX11_readWhole 5000 Mc1) fun M35 => some (M35, Lc) else goB2 (fX11_readWord 5000 Mc1 Lc) fun M37 L38 => some (M37, L38)) := by
    unfold fX11_advance
    rw [s3, gBd, gNm, s5, hMc1]
    rfl
  have hm : fX14_goesOn 5000 Mm Lm = (Option.bind (fX14_byteAt Mm1 (Mm1 102 8)) fun x25 => if x25 = (-1) then some (goWI Mm1 102 9 1, Lm) else if (fX14_isLetter x25) = 0 then if (fX14_isDigit x25) = 0 then if x25 = 59 then some (goWI (goWI (goWI Mm1 102 9 4) 102 11 x25) 102 8 ((goWI (goWI Mm1 102 9 4) 102 11 x25) 102 8 + 1), Lm) else if x25 = 44 then some (goWI (goWI (goWI Mm1 102 9 4) 102 11 x25) 102 8 ((goWI (goWI Mm1 102 9 4) 102 11 x25) 102 8 + 1), Lm) else some (Mm1, Lm) else goB2 (lX14_goesOn_195 5000 0 (goWI Mm1 102 12 0)) fun x60 M61 => if x60 ≤ 3 then some (goWI M61 102 9 3, Lm) else some (M61, Lm) else goB3 (lX14_goesOn_89 5000 0 Mm1 (goWL Lm 102 17 0)) fun x86 M87 L88 => if x86 ≤ 8 then some (goWI (goWI M87 102 13 x86) 102 9 2, L88) else some (goWI M87 102 13 x86, L88)) := by
    unfold fX14_goesOn
    rw [if_neg h9, s4, gBd, gNm, gNm, gNm, s6, hMm1]
    rfl
  rw [hc, hm, c13, m8, hB1.2.1]
  by_cases ce : st = e
  · rw [if_pos (by rw [ce]; exact nI_le (Nat.le_refl _) (by omega)), ce, rByteE hB1, gBd, if_pos rfl]
    refine ⟨e, _, _, _, _, by omega, rfl, rfl, ⟨rB_fr hB1 (gWI_nk (by decide)) (goWI_ne (by decide)) (gWI_nk (by decide)) (goWI_ne (by decide)), Nat.le_refl _, by rw [gWI_nk (by decide), c15, ce], by rw [gWI_nk (by decide), m10, ce], Or.inl ⟨by rw [gWI_self, if_pos rfl], by rw [gWI_self, if_pos rfl]⟩⟩, rFr_trans f1 ⟨fun b hb => goWI_ne hb, fun _ _ => rfl, fun b hb _ => goWI_ne hb, fun j hj => gWI_nk (by omega), fun _ _ => rfl, fun j hj => gWI_nk (by omega)⟩⟩
  · have hse : st < e := by omega
    obtain ⟨x, hx, b1, b2, b3, b4⟩ := rByte hB1 (q := st) hse
    obtain ⟨⟨⟨yl, yd⟩, y32, y59, y44, ym⟩, z1, z2⟩ := rb_all x hx
    rw [if_neg (fun h => by have := (nI_leI (by omega) (by omega)).mp h; omega), b1, b4, gBd, gBd, if_neg ym, yl, yd]
    rcases z1 with cl | ⟨cl, _⟩
    · rw [if_pos cl, if_pos cl]
      rcases z2 with cd | ⟨cd, _⟩
      · rw [if_pos cd, if_pos cd]
        by_cases c59 : (Int8.ofNat x).toInt32 = 59
        · rw [if_pos c59, if_pos (y59.mpr c59), y59.mpr c59, show goWI Mc1 1 4 3 1 3 = nI st from by rw [gWI_nk (by decide)]; exact c13, show goWI (goWI Mm1 102 9 4) 102 11 59 102 8 = nI st from by rw [gWI_nk (by decide), gWI_nk (by decide)]; exact m8, nI_1]
          refine ⟨st, _, _, _, _, s1, rfl, rfl, ⟨rB_fr hB1 (by rw [gWI_nk (by decide), gWI_nk (by decide)]) (by rw [goWI_ne (by decide), goWI_ne (by decide)]) (by rw [gWI_nk (by decide), gWI_nk (by decide), gWI_nk (by decide)]) (by rw [goWI_ne (by decide), goWI_ne (by decide), goWI_ne (by decide)]), s2, by rw [gWI_nk (by decide), gWI_nk (by decide), c15], by rw [gWI_nk (by decide), gWI_nk (by decide), gWI_nk (by decide), m10], Or.inr (Or.inr ⟨st + 1, by omega, by omega, by rw [gWI_self, if_pos rfl], by rw [gWI_self, if_pos rfl], Or.inr (Or.inr (Or.inl ⟨by rw [gWI_nk (by decide), gWI_self, if_pos rfl], by rw [gWI_nk (by decide), gWI_nk (by decide), gWI_self, if_pos rfl], by rw [gWI_nk (by decide), gWI_self, if_pos rfl]⟩))⟩)⟩, rFr_trans f1 ⟨fun b hb => by rw [goWI_ne hb, goWI_ne hb], fun _ _ => rfl, fun b hb _ => by rw [goWI_ne hb, goWI_ne hb, goWI_ne hb], fun j hj => by rw [gWI_nk (by omega), gWI_nk (by omega), gWI_nk (by omega)], fun _ _ => rfl, fun j hj => by rw [gWI_nk (by omega), gWI_nk (by omega)]⟩⟩
        · rw [if_neg c59, if_neg (fun h => c59 (y59.mp h))]
          by_cases c44 : (Int8.ofNat x).toInt32 = 44
          · rw [if_pos c44, if_pos (y44.mpr c44), y44.mpr c44, show goWI Mc1 1 4 4 1 3 = nI st from by rw [gWI_nk (by decide)]; exact c13, show goWI (goWI Mm1 102 9 4) 102 11 44 102 8 = nI st from by rw [gWI_nk (by decide), gWI_nk (by decide)]; exact m8, nI_1]
            refine ⟨st, _, _, _, _, s1, rfl, rfl, ⟨rB_fr hB1 (by rw [gWI_nk (by decide), gWI_nk (by decide)]) (by rw [goWI_ne (by decide), goWI_ne (by decide)]) (by rw [gWI_nk (by decide), gWI_nk (by decide), gWI_nk (by decide)]) (by rw [goWI_ne (by decide), goWI_ne (by decide), goWI_ne (by decide)]), s2, by rw [gWI_nk (by decide), gWI_nk (by decide), c15], by rw [gWI_nk (by decide), gWI_nk (by decide), gWI_nk (by decide), m10], Or.inr (Or.inr ⟨st + 1, by omega, by omega, by rw [gWI_self, if_pos rfl], by rw [gWI_self, if_pos rfl], Or.inr (Or.inr (Or.inr ⟨by rw [gWI_nk (by decide), gWI_self, if_pos rfl], by rw [gWI_nk (by decide), gWI_nk (by decide), gWI_self, if_pos rfl], by rw [gWI_nk (by decide), gWI_self, if_pos rfl]⟩))⟩)⟩, rFr_trans f1 ⟨fun b hb => by rw [goWI_ne hb, goWI_ne hb], fun _ _ => rfl, fun b hb _ => by rw [goWI_ne hb, goWI_ne hb, goWI_ne hb], fun j hj => by rw [gWI_nk (by omega), gWI_nk (by omega), gWI_nk (by omega)], fun _ _ => rfl, fun j hj => by rw [gWI_nk (by omega), gWI_nk (by omega)]⟩⟩
          · rw [if_neg c44, if_neg (fun h => c44 (y44.mp h))]
            refine ⟨st, _, _, _, _, s1, rfl, rfl, ⟨rB_fr hB1 (by rw [gWI_nk (by decide), gWI_nk (by decide)]) (by rw [goWI_ne (by decide), goWI_ne (by decide)]) rfl rfl, s2, by rw [gWI_nk (by decide), gWI_nk (by decide), c15], m10, Or.inr (Or.inl ⟨by rw [gWI_nk (by decide), gWI_self, if_pos rfl], m9⟩)⟩, rFr_trans f1 ⟨fun b hb => by rw [goWI_ne hb, goWI_ne hb], fun _ _ => rfl, fun _ _ _ => rfl, fun _ _ => rfl, fun _ _ => rfl, fun j hj => by rw [gWI_nk (by omega), gWI_nk (by omega)]⟩⟩
      · rw [if_neg (by rw [cd]; decide), if_neg (by rw [cd]; decide)]
        obtain ⟨q', Mc', Mm', r1, r2, r3, r4, r5, r6, r7, r8, r9, r10, r11, r12⟩ := rWholeL (e := e) (st := st) (e - st) st (goWI Mc1 1 8 0) (goWI Mm1 102 12 0) 5000 5000 (by omega) (Nat.le_refl _) (rB_fr hB1 (gWI_nk (by decide)) (goWI_ne (by decide)) (gWI_nk (by decide)) (goWI_ne (by decide))) (by rw [gWI_nk (by decide)]; exact c13) (by rw [gWI_nk (by decide)]; exact m8) (by omega) (by omega) (fun _ => ⟨0, by rw [Nat.sub_self]; decide, by rw [gWI_self, if_pos rfl]; rfl, by rw [gWI_self, if_pos rfl]; rfl⟩)
        have hlt : st < q' := r12 hse (by rw [gWI_na (by decide), b2]; exact cd)
        rw [Nat.sub_self] at r4
        have r4' : lX14_goesOn_195 5000 0 (goWI Mm1 102 12 0) = some (nI (q' - st), Mm') := r4
        have w5 : Mc' 1 5 = nI st := by rw [r9 5 (by decide) (by decide), gWI_nk (by decide)]; exact c15
        have fA : ∀ (z z' : Int32) (Mmx : goMI), (∀ b, b ≠ 102 → Mmx b = Mm' b) → (∀ j, j ≠ 9 → Mmx 102 j = Mm' 102 j) → rFr Mc Lc Mm Lm (goWI Mc' 1 4 z) Lc Mmx Lm := by
          intro z z' Mmx hx1 hx2
          refine rFr_trans f1 ⟨fun b hb => by rw [goWI_ne hb, r8 b hb, goWI_ne hb], fun _ _ => rfl, fun b hb _ => by rw [hx1 b hb, r10 b hb, goWI_ne hb], fun j hj => by rw [hx2 j (by omega), r11 j (by omega) (by omega), gWI_nk (by omega)], fun _ _ => rfl, fun j hj => by rw [gWI_nk (by omega), r9 j (by omega) (by omega), gWI_nk (by omega)]⟩
        have hBf : ∀ (z : Int32) (Mmx : goMI), rFr Mc Lc Mm Lm (goWI Mc' 1 4 z) Lc Mmx Lm → rB e (goWI Mc' 1 4 z) Mmx := fun z Mmx f => rB_fr hB (f.2.2.2.2.2 2 (by decide)) (f.1 2 (by decide)) (f.2.2.2.1 7 (by decide)) (f.2.2.1 103 (by decide) (by decide))
        unfold fX11_readWhole
        rw [gNm, r3, gBd, r4', gB2, r5, w5, pk_sub (by omega)]
        by_cases c3 : q' - st ≤ 3
        · obtain ⟨v, v1, v2, v3⟩ := r7 c3
          have hpow : 10 ^ (q' - st) ≤ 10 ^ 3 := Nat.pow_le_pow_right (by decide) c3
          rw [if_pos (show nI (q' - st) ≤ 3 from nI_le (b := 3) c3 (by decide)), if_pos (show nI (q' - st) ≤ 3 from nI_le (b := 3) c3 (by decide)), gNm, gNm, gBd]
          have ff := fA 2 3 (goWI Mm' 102 9 3) (fun b hb => goWI_ne hb) (fun j hj => gWI_nk hj)
          exact ⟨st, _, _, _, _, s1, rfl, rfl, ⟨hBf 2 _ ff, s2, by rw [gWI_nk (by decide), w5], by rw [gWI_nk (by decide), r11 10 (by decide) (by decide), gWI_nk (by decide), m10], Or.inr (Or.inr ⟨q', hlt, r2, by rw [gWI_nk (by decide)]; exact r5, by rw [gWI_nk (by decide)]; exact r6, Or.inr (Or.inl ⟨by rw [gWI_self, if_pos rfl], by rw [gWI_self, if_pos rfl], v, by omega, by rw [gWI_nk (by decide)]; exact v2, by rw [gWI_nk (by decide)]; exact v3⟩)⟩)⟩, ff⟩
        · rw [if_neg (show ¬ nI (q' - st) ≤ 3 from fun h => c3 ((nI_leI (b := 3) (by omega) (by decide)).mp h)), if_neg (show ¬ nI (q' - st) ≤ 3 from fun h => c3 ((nI_leI (b := 3) (by omega) (by decide)).mp h)), gNm, gNm, gBd]
          have ff := fA 5 3 Mm' (fun _ _ => rfl) (fun _ _ => rfl)
          exact ⟨st, _, _, _, _, s1, rfl, rfl, ⟨hBf 5 _ ff, s2, by rw [gWI_nk (by decide), w5], by rw [r11 10 (by decide) (by decide), gWI_nk (by decide), m10], Or.inr (Or.inl ⟨by rw [gWI_self, if_pos rfl], by rw [r11 9 (by decide) (by decide), gWI_nk (by decide), m9]⟩)⟩, ff⟩
    · rw [if_neg (by rw [cl]; decide), if_neg (by rw [cl]; decide)]
      obtain ⟨q', Mc', Mm', Lc', Lm', r1, r2, r3, r4, r5, r6, r7, r7', r8, r9, r10, r11, r12, r13, r14⟩ := rWordL (e := e) (st := st) (e - st) st Mc1 Mm1 (goWL Lc 1 7 0) (goWL Lm 102 17 0) 5000 5000 (by omega) (Nat.le_refl _) hB1 c13 m8 (by omega) (by omega) (fun _ => ⟨by rw [gWL_eq, gWL_eq], fun j hj => absurd hj (by omega)⟩) (fun j hj => absurd hj (by omega))
      have hlt : st < q' := r14 hse (by rw [b2]; exact cl)
      rw [Nat.sub_self] at r4
      have r4' : lX14_goesOn_89 5000 0 Mm1 (goWL Lm 102 17 0) = some (nI (q' - st), Mm', Lm') := r4
      have w5 : Mc' 1 5 = nI st := by rw [r9 5 (by decide)]; exact c15
      have fA : ∀ (z : Int32) (Mmx : goMI), (∀ b, b ≠ 102 → Mmx b = Mm' b) → (∀ j, j ≠ 9 → j ≠ 13 → Mmx 102 j = Mm' 102 j) → rFr Mc Lc Mm Lm (goWI (goWI Mc' 1 6 (nI (q' - st))) 1 4 z) Lc' Mmx Lm' := by
        intro z Mmx hx1 hx2
        refine rFr_trans f1 ⟨fun b hb => by rw [goWI_ne hb, goWI_ne hb, r8 b hb], fun b hb => by rw [r12 b hb, gWL_ne hb], fun b hb hb' => by rw [hx1 b hb, r10 b hb hb'], fun j hj => by rw [hx2 j (by omega) (by omega), r11 j (by omega)], fun b hb => by rw [r13 b hb, gWL_ne hb], fun j hj => by rw [gWI_nk (by omega), gWI_nk (by omega), r9 j (by omega)]⟩
      have hBf : ∀ (z : Int32) (Mmx : goMI), rFr Mc Lc Mm Lm (goWI (goWI Mc' 1 6 (nI (q' - st))) 1 4 z) Lc' Mmx Lm' → rB e (goWI (goWI Mc' 1 6 (nI (q' - st))) 1 4 z) Mmx := fun z Mmx f => rB_fr hB (f.2.2.2.2.2 2 (by decide)) (f.1 2 (by decide)) (f.2.2.2.1 7 (by decide)) (f.2.2.1 103 (by decide) (by decide))
      unfold fX11_readWord
      rw [gNm, r3, gB2, r4', gB3, gNm, r5, w5, pk_sub (by omega), show goWI Mc' 1 6 (nI (q' - st)) 1 6 = nI (q' - st) from by rw [gWI_self, if_pos rfl]]
      by_cases c8 : q' - st ≤ 8
      · obtain ⟨l1, l2⟩ := r7 c8
        rw [if_pos (show nI (q' - st) ≤ 8 from nI_le (b := 8) c8 (by decide)), if_pos (show nI (q' - st) ≤ 8 from nI_le (b := 8) c8 (by decide)), gNm, gNm, gB2]
        have ff := fA 1 (goWI (goWI Mm' 102 13 (nI (q' - st))) 102 9 2) (fun b hb => by rw [goWI_ne hb, goWI_ne hb]) (fun j h1 h2 => by rw [gWI_nk h1, gWI_nk h2])
        refine ⟨st, _, _, _, _, s1, rfl, rfl, ⟨hBf 1 _ ff, s2, by rw [gWI_nk (by decide), gWI_nk (by decide), w5], by rw [gWI_nk (by decide), gWI_nk (by decide), r11 10 (by decide), m10], Or.inr (Or.inr ⟨q', hlt, r2, by rw [gWI_nk (by decide), gWI_nk (by decide)]; exact r5, by rw [gWI_nk (by decide), gWI_nk (by decide)]; exact r6, Or.inl ⟨by rw [gWI_self, if_pos rfl], by rw [gWI_self, if_pos rfl], l1, q' - st, by omega, c8, by omega, by rw [gWI_nk (by decide), gWI_self, if_pos rfl], by rw [gWI_nk (by decide), gWI_self, if_pos rfl], fun j hj => ?_⟩⟩)⟩, ff⟩
        rw [gWI_na (by decide), gWI_na (by decide), gWI_na (by decide), gWI_na (by decide), r8 2 (by decide)]
        exact ⟨l2 j hj, r7' j hj⟩
      · rw [if_neg (show ¬ nI (q' - st) ≤ 8 from fun h => c8 ((nI_leI (b := 8) (by omega) (by decide)).mp h)), if_neg (show ¬ nI (q' - st) ≤ 8 from fun h => c8 ((nI_leI (b := 8) (by omega) (by decide)).mp h)), gNm, gNm, gB2]
        have ff := fA 5 (goWI Mm' 102 13 (nI (q' - st))) (fun b hb => goWI_ne hb) (fun j h1 h2 => gWI_nk h2)
        exact ⟨st, _, _, _, _, s1, rfl, rfl, ⟨hBf 5 _ ff, s2, by rw [gWI_nk (by decide), gWI_nk (by decide), w5], by rw [gWI_nk (by decide), r11 10 (by decide), m10], Or.inr (Or.inl ⟨by rw [gWI_self, if_pos rfl], by rw [gWI_nk (by decide), r11 9 (by decide), m9]⟩)⟩, ff⟩
end tape2
