/-! LINES: goat, its likings -/
section lines25
variable {e s b : Nat} {Rc Rm : goMR}
theorem gOr_tb {w : Nat → Nat} {x : Nat} : ∀ k, (gOr w k).testBit x = true ↔ ∃ j, j < k ∧ w j = x := by
  intro k
  induction k with
  | zero =>
    show (0 : Nat).testBit x = true ↔ _
    rw [Nat.zero_testBit]
    exact ⟨fun h => absurd h (by decide), fun ⟨j, hj, _⟩ => absurd hj (Nat.not_lt_zero _)⟩
  | succ k ih =>
    show (gOr w k ||| 2 ^ w k).testBit x = true ↔ _
    rw [Nat.testBit_or, Nat.testBit_two_pow, Bool.or_eq_true, ih, decide_eq_true_eq]
    constructor
    · rintro (⟨j, h1, h2⟩ | h)
      · exact ⟨j, by omega, h2⟩
      · exact ⟨k, by omega, h⟩
    · rintro ⟨j, h1, h2⟩
      by_cases c : j = k
      · rw [c] at h2; exact Or.inr h2
      · exact Or.inl ⟨j, by omega, h2⟩
theorem pcn_p : ∀ k, k < 5 → ∀ x, x < 2 ^ k → pcn x ≤ k := by decide +kernel
/-- letters all other ones before: in the model -/
theorem mDist {w : Nat → Nat} {v : Nat} {M : goMI} (hv : v < 8) (h104 : ∀ j, j ≤ v → M 104 j = nI (97 + w j)) (hw : ∀ j, j ≤ v → w j < 26) : ∀ (d i n : Nat), i + d = v → d < n → lX14_readGoat_206 (nI v) M n 0 (nI i) = some 0 ∧ ((∃ j, i ≤ j ∧ j < v ∧ w j = w v) → lX14_readGoat_206 (nI v) M n 1 (nI i) = some 0) ∧ ((¬ ∃ j, i ≤ j ∧ j < v ∧ w j = w v) → lX14_readGoat_206 (nI v) M n 1 (nI i) = some 1) := by
  intro d
  induction d with
  | zero =>
    intro i n hd hn
    obtain ⟨n, rfl⟩ : ∃ z, n = z + 1 := ⟨n - 1, by omega⟩
    have e : ∀ z : Int32, lX14_readGoat_206 (nI v) M (n + 1) z (nI i) = some z := fun z => by
      rw [lX14_readGoat_206, if_neg (nI_nlt (by omega) (by omega))]
    exact ⟨e 0, fun ⟨j, h1, h2, _⟩ => absurd h2 (by omega), fun _ => e 1⟩
  | succ d ih =>
    intro i n hd hn
    obtain ⟨n, rfl⟩ : ∃ z, n = z + 1 := ⟨n - 1, by omega⟩
    obtain ⟨z0, z1, z2⟩ := ih (i + 1) n (by omega) (by omega)
    have w1 := hw i (by omega)
    have w2 := hw v (by omega)
    have e0 : lX14_readGoat_206 (nI v) M (n + 1) 0 (nI i) = some 0 := by
      rw [lX14_readGoat_206, if_pos (nI_lt (by omega) (by omega)), if_pos rfl, gBd, nI_1]
      exact z0
    have e1 : lX14_readGoat_206 (nI v) M (n + 1) 1 (nI i) = if w i = w v then some 0 else lX14_readGoat_206 (nI v) M n 1 (nI (i + 1)) := by
      rw [lX14_readGoat_206, if_pos (nI_lt (by omega) (by omega)), if_neg (show ¬ (1 : Int32) = 0 by decide), gRd (by omega), gBd, gRd (by omega), gBd, h104 i (by omega), h104 v (by omega), nI_1]
      by_cases c : w i = w v
      · rw [if_pos (by rw [c]), gBd, z0, if_pos c]
      · rw [if_neg (fun h => c (by have := (nI_eq (by omega) (by omega)).mp h; omega)), gBd, if_neg c]
    refine ⟨e0, fun hx => ?_, fun hx => ?_⟩
    · rw [e1]
      by_cases c : w i = w v
      · rw [if_pos c]
      · rw [if_neg c]
        obtain ⟨j, h1, h2, h3⟩ := hx
        refine z1 ⟨j, ?_, h2, h3⟩
        by_cases c3 : j = i
        · rw [c3] at h3; exact absurd h3 c
        · omega
    · rw [e1, if_neg (fun c => hx ⟨i, by omega, by omega, c⟩)]
      exact z2 (fun ⟨j, h1, h2, h3⟩ => hx ⟨j, by omega, h2, h3⟩)
/-- the order of a goat half told -/
def ivO (s b g i : Nat) (w : Nat → Nat) (T : tH) (Mc0 Mm0 Mc Mm : goMI) (Tk : tH) : Prop := (∀ a, a ≠ s + 15 → Mc a = Mc0 a) ∧ (∀ j, j < 4 * g ∨ 4 * g + 4 ≤ j → Mc (s + 15) j = Mc0 (s + 15) j) ∧ (∀ j, j < i → Mc (s + 15) (4 * g + j) = nI (w j)) ∧ (∀ a, a ≠ b + 9 → Mm a = Mm0 a) ∧ tM Mm b Tk ∧ (∀ r, r ≠ 9 → Tk r = T r) ∧ (∀ j, j < 4 * g ∨ 4 * g + 4 ≤ j → Tk 9 j = T 9 j) ∧ (∀ j, j < i → Tk 9 (4 * g + j) = w j) ∧ (∀ j, j < i → w j < T 0 1) ∧ pcn (gOr w i) = i
theorem rOrdL {st l g : Nat} {w : Nat → Nat} {T : tH} {Mc0 Mm0 : goMI} {Lc : goML} (hs : s = 7 ∨ s = 37) (hb : 121 ≤ b) (hRc : goRr Rc 67 7 = s) (hRm : Rm 102 4 = some b) (hg : g < 6) (hl : l ≤ 8) (hel : st + l ≤ 1200) (h1 : 1 ≤ T 0 1) (h14 : T 0 1 ≤ 4) (c6 : Mc0 1 6 = nI l) (c5 : Mc0 1 5 = nI st) (m13 : Mm0 102 13 = nI l) (m10 : Mm0 102 10 = nI st) (m9 : Mm0 102 9 = 2) (k1 : Mc0 s 1 = nI (T 0 1)) (hlet : ∀ j, j < l → Mm0 104 j = nI (97 + w j) ∧ Mc0 2 (st + j) = nI (97 + w j) ∧ w j < 26) :
    ∀ (d i n m : Nat) (Mc Mm : goMI) (Tk : tH), i + d = l → d < n → d + 1 < m → ivO s b g i w T Mc0 Mm0 Mc Mm Tk →
    (∃ Mc' Mm' T', lX9_orderOf_21 5000 (nI g) Lc Rc n (nI (gOr w i)) (nI i) Mc = (goB2 (fX11_advance 5000 (goWI Mc' (s + 16) g (nI l)) Lc) fun M15 L16 => some (1, M15, L16)) ∧ lX14_readGoat_161 5000 (nI g) Rm m (nI i) Mm = some Mm' ∧ ivO s b g l w T Mc0 Mm0 Mc' Mm' T' ∧ l ≤ T 0 1) ∨
    (∃ Mc' Mm', lX9_orderOf_21 5000 (nI g) Lc Rc n (nI (gOr w i)) (nI i) Mc = some (0, cF Mc' 7 st, Lc) ∧ lX14_readGoat_161 5000 (nI g) Rm m (nI i) Mm = some (mF Mm' 7 st) ∧ (∀ a, a ≠ s + 15 → Mc' a = Mc0 a) ∧ (∀ a, a ≠ b + 9 → Mm' a = Mm0 a)) := by
  intro d
  induction d with
  | zero =>
    intro i n m Mc Mm Tk hd hn hm hI
    obtain ⟨n, rfl⟩ : ∃ z, n = z + 1 := ⟨n - 1, by omega⟩
    obtain ⟨m, rfl⟩ : ∃ z, m = z + 1 := ⟨m - 1, by omega⟩
    have ei : i = l := by omega
    rw [ei] at hI ⊢
    obtain ⟨x1, x2, x3, x4, x5, x6, x7, x8, x9, x10⟩ := id hI
    have hlt := gOr_lt (w := w) (x := T 0 1) l x9
    have hle := pcn_p (T 0 1) (by omega) _ hlt
    refine Or.inl ⟨Mc, Mm, Tk, ?_, ?_, hI, by omega⟩
    · rw [lX9_orderOf_21, x1 1 (by omega), c6, if_neg (nI_nlt (Nat.le_refl _) (by omega)), hRc, gWr hg, gBd]
    · rw [lX14_readGoat_161, x4 102 (by omega), m9, if_neg (by decide), m13, if_neg (nI_nlt (Nat.le_refl _) (by omega))]
  | succ d ih =>
    intro i n m Mc Mm Tk hd hn hm hI
    obtain ⟨n, rfl⟩ : ∃ z, n = z + 1 := ⟨n - 1, by omega⟩
    obtain ⟨m, rfl⟩ : ∃ z, m = z + 1 := ⟨m - 1, by omega⟩
    obtain ⟨x1, x2, x3, x4, x5, x6, x7, x8, x9, x10⟩ := id hI
    obtain ⟨l1, l2, l3⟩ := hlet i (by omega)
    have hlt := gOr_lt (w := w) (x := T 0 1) i x9
    have h16 : 2 ^ T 0 1 ≤ 2 ^ 4 := Nat.pow_le_pow_right (by decide) h14
    have cM1 : Mc 1 = Mc0 1 := x1 1 (by omega)
    have cM2 : Mc 2 = Mc0 2 := x1 2 (by omega)
    have cMs : Mc s = Mc0 s := x1 s (by omega)
    have mM : Mm 102 = Mm0 102 := x4 102 (by omega)
    have mS : Mm 104 = Mm0 104 := x4 104 (by omega)
    have mb1 : Mm b 1 = nI (T 0 1) := by rw [tM_0 x5 (by decide), x6 0 (by decide)]
    have hpl : fX11_plantAt Mc (nI i) = some (nI (w i)) := by
      unfold fX11_plantAt
      rw [cM1, c5, nI_add, gRd (by omega), gBd, cM2, l2, show nI (97 + w i) - 97 = nI (97 + w i - 97) from pk_sub (b := 97) (by omega), show 97 + w i - 97 = w i by omega]
    have hx97 : nI (97 + w i) - 97 = nI (w i) := by rw [show nI (97 + w i) - 97 = nI (97 + w i - 97) from pk_sub (b := 97) (by omega), show 97 + w i - 97 = w i by omega]
    have hp1 : nI (T 0 1) - 1 = nI (T 0 1 - 1) := pk_sub (b := 1) (by omega)
    have d206 := mDist (w := w) (v := i) (M := Mm) (by omega) (fun j hj => by rw [mS]; exact (hlet j (by omega)).1) (fun j hj => (hlet j (by omega)).2.2) i 0 5000 (by omega) (by omega)
    have cin : nI i < Mc 1 6 := by rw [cM1, c6]; exact nI_lt (by omega) (by omega)
    have min : nI i < Mm 102 13 := by rw [mM, m13]; exact nI_lt (by omega) (by omega)
    have n5 : ¬ Mm 102 9 = 5 := by rw [mM, m9]; decide
    have cfl : fX9_fail Mc 7 = some (0, cF Mc 7 st) := cFail (by rw [cM1]; exact c5)
    have mfl : fX14_flaw Mm 7 = some (mF Mm 7 st) := mFlaw (by rw [mM]; exact m10) n5
    have ov : ∀ z : Int32, lX14_readGoat_161 5000 (nI g) Rm m z (mF Mm 7 st) = some (mF Mm 7 st) := fun z => by
      obtain ⟨m, rfl⟩ : ∃ z, m = z + 1 := ⟨m - 1, by omega⟩
      rw [lX14_readGoat_161, if_pos mF_9]
    rw [lX9_orderOf_21, if_pos cin, hpl, gBd, lX14_readGoat_161, if_neg n5, if_pos min, gRd (by omega), gBd]
    simp only [hRm, gBd, gNm]
    rw [mS, l1, hx97, mb1, hp1]
    by_cases cw : w i < T 0 1
    · have cin2 : fX12_within (nI (w i)) (Mc (goRr Rc 67 7) 1) = 1 := by
        unfold fX12_within
        rw [hRc, cMs, k1, if_pos (nI_pos' (by omega)), if_pos (nI_lt cw (by omega))]
      have min2 : fX14_within (nI (w i)) 0 (nI (T 0 1 - 1)) = 1 := by
        unfold fX14_within
        rw [if_pos (nI_pos' (by omega)), if_pos (nI_le (by omega) (by omega))]
      rw [cin2, if_neg (by decide), gI_bit (by omega) (by omega), min2]
      cases cb : (gOr w i).testBit (w i) with
      | true =>
        obtain ⟨j, j1, j2⟩ := (gOr_tb i).mp cb
        rw [if_pos (show nI true.toNat = 1 from rfl), cfl, gB2, show lX14_readGoat_206 (nI i) Mm 5000 1 0 = some 0 from d206.2.1 ⟨j, Nat.zero_le _, j1, j2⟩, gBd, if_pos rfl, mfl, gBd, gBd, ov]
        exact Or.inr ⟨Mc, Mm, rfl, rfl, x1, x4⟩
      | false =>
        have hno : ¬ ∃ j, 0 ≤ j ∧ j < i ∧ w j = w i := by
          rintro ⟨j, _, j1, j2⟩
          have := (gOr_tb (w := w) (x := w i) i).mpr ⟨j, j1, j2⟩
          rw [cb] at this
          cases this
        have hx9 : ∀ j, j < i + 1 → w j < T 0 1 := fun j hj => by
          by_cases c : j = i
          · rw [c]; exact cw
          · exact x9 j (by omega)
        have hpc : pcn (gOr w (i + 1)) = i + 1 := by
          show pcn (gOr w i ||| 2 ^ w i) = _
          rw [pcn_s _ (by omega) _ (by omega) cb, x10]
        have hle := pcn_p (T 0 1) (by omega) _ (gOr_lt (w := w) (x := T 0 1) (i + 1) hx9)
        rw [hpc] at hle
        rw [if_neg (show ¬ nI false.toNat = 1 by decide), gI_shl1 (by omega), gI_or, hRc, show nI g * 4 + nI i = nI (4 * g + i) from by rw [gL_4, gM_4, nI_add], gWr (by omega), gBd, show lX14_readGoat_206 (nI i) Mm 5000 1 0 = some 1 from d206.2.2 hno, gBd, if_neg (by decide), show 4 * nI g + nI i = nI (4 * g + i) from by rw [gL_4, gN_4, nI_add], gWr (by omega), gBd, gBd, nI_1]
        refine ih (i + 1) n m (goWI Mc (s + 15) (4 * g + i) (nI (w i))) (goWI Mm (b + 9) (4 * g + i) (nI (w i))) (tW Tk 9 (4 * g + i) (w i)) (by omega) (by omega) (by omega) ⟨fun a ha => by rw [goWI_ne ha]; exact x1 a ha, fun j hj => by rw [gWI_nk (by omega)]; exact x2 j hj, fun j hj => ?_, fun a ha => by rw [goWI_ne ha]; exact x4 a ha, tM_wr x5, fun r hr => by rw [tW_r hr]; exact x6 r hr, fun j hj => by rw [tW_i (by omega)]; exact x7 j hj, fun j hj => ?_, hx9, hpc⟩
        · rw [gWI_self]
          by_cases c : j = i
          · rw [if_pos (by omega), c]
          · rw [if_neg (by omega)]; exact x3 j (by omega)
        · by_cases c : j = i
          · rw [c, tW_e]
          · rw [tW_i (by omega)]; exact x8 j (by omega)
    · have cin2 : fX12_within (nI (w i)) (Mc (goRr Rc 67 7) 1) = 0 := by
        unfold fX12_within
        rw [hRc, cMs, k1, if_pos (nI_pos' (by omega)), if_neg (nI_nlt (by omega) (by omega))]
      have min2 : fX14_within (nI (w i)) 0 (nI (T 0 1 - 1)) = 0 := by
        unfold fX14_within
        rw [if_pos (nI_pos' (by omega)), if_neg (fun hx => by have := (nI_leI (by omega) (by omega)).mp hx; omega)]
      rw [cin2, if_pos rfl, cfl, gB2, min2, show lX14_readGoat_206 (nI i) Mm 5000 0 0 = _ from d206.1, gBd, if_pos rfl, mfl, gBd, gBd, ov]
      exact Or.inr ⟨Mc, Mm, rfl, rfl, x1, x4⟩
end lines25
