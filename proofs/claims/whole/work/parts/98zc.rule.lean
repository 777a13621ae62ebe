/-! LINES: rule (printed by gen98zc.py) -/
section lines23
variable {e s b : Nat} {Rc Rm : goMR}
/-- a set of facts -/
def gOr (w : Nat → Nat) : Nat → Nat
  | 0 => 0
  | k + 1 => gOr w k ||| 2 ^ w k
def gUw (w : Nat → Nat) (k g : Nat) : Nat → Nat := fun j => if j = k then g else w j
theorem gUw_e {w : Nat → Nat} {k g : Nat} : gUw w k g k = g := if_pos rfl
theorem gUw_n {w : Nat → Nat} {k g j : Nat} (h : j ≠ k) : gUw w k g j = w j := if_neg h
theorem gOr_c {w w' : Nat → Nat} : ∀ k, (∀ j, j < k → w' j = w j) → gOr w' k = gOr w k := by
  intro k
  induction k with
  | zero => intro _; rfl
  | succ k ih =>
    intro h
    show gOr w' k ||| 2 ^ w' k = gOr w k ||| 2 ^ w k
    rw [ih (fun j hj => h j (by omega)), h k (by omega)]
theorem gOr_lt {w : Nat → Nat} {x : Nat} : ∀ k, (∀ j, j < k → w j < x) → gOr w k < 2 ^ x := by
  intro k
  induction k with
  | zero => intro _; exact Nat.pow_pos (by decide)
  | succ k ih =>
    intro h
    exact Nat.or_lt_two_pow (ih (fun j hj => h j (by omega))) (Nat.pow_lt_pow_right (by decide) (h k (by omega)))
def pcn (x : Nat) : Nat := x % 2 + x / 2 % 2 + x / 4 % 2 + x / 8 % 2 + x / 16 % 2 + x / 32 % 2 + x / 64 % 2 + x / 128 % 2
theorem pcn_b : ∀ x, x < 256 → fX14_bits 5000 (nI x) = some (nI (pcn x)) := by decide +kernel
theorem pcn_s : ∀ x, x < 256 → ∀ g, g < 8 → x.testBit g = false → pcn (x ||| 2 ^ g) = pcn x + 1 := by decide +kernel
theorem pcn_le {x : Nat} : pcn x ≤ 8 := by unfold pcn; omega
section d1
variable {Mc Mm Mc' Mm' Mc1 Mm1 : goMI} {Lc Lm Lc1 Lm1 : goML} {T Tk : tH} {k g hd mk : Nat}
theorem rD_rule (hs : s = 7 ∨ s = 37) (hb : 121 ≤ b) (hD : rD s b Mc Lc Mm Lm T) (h0 : T 0 0 ≠ 0) (h9 : T 0 9 < 8) (hh : hd < T 0 8) (hm : mk < 2 ^ T 0 8) (c1 : ∀ a, a ≠ s + 21 → a ≠ s + 22 → a ≠ s + 23 → Mc' a = Mc a) (c2 : ∀ j, Mc' (s + 21) j = if j = 2 then nI (T 0 9 + 1) else Mc (s + 21) j) (c3 : ∀ j, Mc' (s + 22) j = if j = T 0 9 then nI hd else Mc (s + 22) j) (c4 : ∀ j, Mc' (s + 23) j = if j = T 0 9 then nI mk else Mc (s + 23) j) : rD s b Mc' Lc (goWI (goWI (goWI Mm (b + 17) (T 0 9) (nI hd)) (b + 18) (T 0 9) (nI mk)) b 9 (nI (T 0 9 + 1))) Lm (tW (tW (tW T 17 (T 0 9) hd) 18 (T 0 9) mk) 0 9 (T 0 9 + 1)) ∧ ∀ j, j ≠ 12 → (tW (tW (tW T 17 (T 0 9) hd) 18 (T 0 9) mk) 0 9 (T 0 9 + 1)) 0 j = if j = 9 then T 0 9 + 1 else T 0 j := by
  obtain ⟨d1, d2, d3, d4, d5⟩ := hD
  have hz : ∀ r, r ≠ 0 → r ≠ 17 → r ≠ 18 → (tW (tW (tW T 17 (T 0 9) hd) 18 (T 0 9) mk) 0 9 (T 0 9 + 1)) r = T r := fun r h1 h2 h3 => by rw [tW_r h1, tW_r h3, tW_r h2]
  have hf : ∀ j, j ≠ 9 → (tW (tW (tW T 17 (T 0 9) hd) 18 (T 0 9) mk) 0 9 (T 0 9 + 1)) 0 j = T 0 j := fun j h1 => by rw [tW_i h1, tW_r (by decide), tW_r (by decide)]
  have f9 : (tW (tW (tW T 17 (T 0 9) hd) 18 (T 0 9) mk) 0 9 (T 0 9 + 1)) 0 9 = T 0 9 + 1 := tW_e
  have r17 : ∀ i, (tW (tW (tW T 17 (T 0 9) hd) 18 (T 0 9) mk) 0 9 (T 0 9 + 1)) 17 i = if i = T 0 9 then hd else T 17 i := fun i => by
    rw [tW_r (by decide), tW_r (by decide)]
    by_cases c : i = T 0 9
    · rw [if_pos c, c, tW_e]
    · rw [if_neg c, tW_i c]
  have r18 : ∀ i, (tW (tW (tW T 17 (T 0 9) hd) 18 (T 0 9) mk) 0 9 (T 0 9 + 1)) 18 i = if i = T 0 9 then mk else T 18 i := fun i => by
    rw [tW_r (by decide)]
    by_cases c : i = T 0 9
    · rw [if_pos c, c, tW_e]
    · rw [if_neg c, tW_i c, tW_r (by decide)]
  have hpn : pN (tW (tW (tW T 17 (T 0 9) hd) 18 (T 0 9) mk) 0 9 (T 0 9 + 1)) = pN T := by
    funext z
    unfold pN
    rw [hf 2 (by decide), hf 4 (by decide), hf 5 (by decide), hf 8 (by decide), hf 11 (by decide)]
  refine ⟨⟨tM_w0 (tM_wr (tM_wr d1)), ?_, ?_, ?_, ?_⟩, fun j _ => ?_⟩
  · obtain ⟨xpa, xpb, xpc, xpd, xpe, xpf, xpg, xph, xpi, xpj, xpk, xpx, xpm, xpn, xpo, xpq, xpr⟩ := d2
    have mm : ∀ r, r ≤ 27 → r ≠ 21 → r ≠ 22 → r ≠ 23 → Mc' (s + r) = Mc (s + r) := fun r h1 h2 h3 h4 => c1 _ (by omega) (by omega) (by omega)
    refine ⟨paF xpa (mm 0 (by decide) (by decide) (by decide) (by decide)) (hf 0 (by decide)) (hf 1 (by decide)) (hf 2 (by decide)) (hf 3 (by decide)) (hf 4 (by decide)) (hf 15 (by decide)), pbF xpb (mm 1 (by decide) (by decide) (by decide) (by decide)) (hz 1 (by decide) (by decide) (by decide)), pcF xpc (mm 2 (by decide) (by decide) (by decide) (by decide)) (hz 2 (by decide) (by decide) (by decide)) (hz 3 (by decide) (by decide) (by decide)) (hf 3 (by decide)), pdF xpd (mm 3 (by decide) (by decide) (by decide) (by decide)) (mm 4 (by decide) (by decide) (by decide) (by decide)) (hz 2 (by decide) (by decide) (by decide)) (hz 3 (by decide) (by decide) (by decide)) (hf 3 (by decide)), peF xpe (mm 5 (by decide) (by decide) (by decide) (by decide)) (hz 4 (by decide) (by decide) (by decide)), pfF xpf (mm 7 (by decide) (by decide) (by decide) (by decide)) (hz 4 (by decide) (by decide) (by decide)) (hz 5 (by decide) (by decide) (by decide)), pgF xpg (mm 8 (by decide) (by decide) (by decide) (by decide)) (hz 22 (by decide) (by decide) (by decide)) (hf 15 (by decide)) (hf 1 (by decide)), phF xph (mm 9 (by decide) (by decide) (by decide) (by decide)) (hf 5 (by decide)) (hf 7 (by decide)), piF xpi (mm 10 (by decide) (by decide) (by decide) (by decide)) (mm 11 (by decide) (by decide) (by decide) (by decide)) (mm 13 (by decide) (by decide) (by decide) (by decide)) (mm 16 (by decide) (by decide) (by decide) (by decide)) (mm 15 (by decide) (by decide) (by decide) (by decide)) (hz 6 (by decide) (by decide) (by decide)) (hz 7 (by decide) (by decide) (by decide)) (hz 11 (by decide) (by decide) (by decide)) (hz 8 (by decide) (by decide) (by decide)) (hz 9 (by decide) (by decide) (by decide)) (hf 5 (by decide)), pjF xpj (mm 12 (by decide) (by decide) (by decide) (by decide)) (hz 23 (by decide) (by decide) (by decide)), pkF xpk (mm 14 (by decide) (by decide) (by decide) (by decide)) (hz 12 (by decide) (by decide) (by decide)), pxF xpx (mm 17 (by decide) (by decide) (by decide) (by decide)) (mm 18 (by decide) (by decide) (by decide) (by decide)) (mm 19 (by decide) (by decide) (by decide) (by decide)) (mm 20 (by decide) (by decide) (by decide) (by decide)) (hz 13 (by decide) (by decide) (by decide)) (hz 14 (by decide) (by decide) (by decide)) (hz 15 (by decide) (by decide) (by decide)) (hz 16 (by decide) (by decide) (by decide)) (hf 7 (by decide)), ?_, ?_, poF xpo (mm 24 (by decide) (by decide) (by decide) (by decide)) (hz 19 (by decide) (by decide) (by decide)) (hf 10 (by decide)), pqF xpq (mm 25 (by decide) (by decide) (by decide) (by decide)) (hf 11 (by decide)), prF xpr (mm 26 (by decide) (by decide) (by decide) (by decide)) (mm 27 (by decide) (by decide) (by decide) (by decide)) (hz 20 (by decide) (by decide) (by decide)) (hz 21 (by decide) (by decide) (by decide)) (hf 11 (by decide))⟩
    · obtain ⟨y0, y1, y2, y3⟩ := xpm
      unfold pmC
      rw [f9, hf 8 (by decide), hf 13 (by decide), hf 10 (by decide), c2 0, c2 1, c2 2, c2 3, if_neg (by decide), if_neg (by decide), if_pos rfl, if_neg (by decide)]
      exact ⟨y0, y1, rfl, y3⟩
    · intro j hj
      rw [f9] at hj
      rw [r17, r18, c3, c4]
      by_cases c : j = T 0 9
      · rw [if_pos c, if_pos c, if_pos c, if_pos c]; exact ⟨rfl, rfl⟩
      · rw [if_neg c, if_neg c, if_neg c, if_neg c]; exact xpn j (by omega)
  · obtain ⟨⟨a0, a1, a2, a3, a4, a5, a6, a7, a8, a9, a10, a11, a13, a15⟩, p14, p1, p2, p4, p5, p6, p12, p13, p17, p19, p20, p22, q0, q1, q2⟩ := d3
    unfold pO tJ
    unfold tJ at p2
    rw [f9, hf 0 (by decide), hf 1 (by decide), hf 2 (by decide), hf 3 (by decide), hf 4 (by decide), hf 5 (by decide), hf 6 (by decide), hf 7 (by decide), hf 8 (by decide), hf 10 (by decide), hf 11 (by decide), hf 13 (by decide), hf 14 (by decide), hf 15 (by decide), hz 1 (by decide) (by decide) (by decide), hz 2 (by decide) (by decide) (by decide), hz 3 (by decide) (by decide) (by decide), hz 4 (by decide) (by decide) (by decide), hz 5 (by decide) (by decide) (by decide), hz 6 (by decide) (by decide) (by decide), hz 7 (by decide) (by decide) (by decide), hz 8 (by decide) (by decide) (by decide), hz 9 (by decide) (by decide) (by decide), hz 10 (by decide) (by decide) (by decide), hz 11 (by decide) (by decide) (by decide), hz 12 (by decide) (by decide) (by decide), hz 13 (by decide) (by decide) (by decide), hz 14 (by decide) (by decide) (by decide), hz 15 (by decide) (by decide) (by decide), hz 16 (by decide) (by decide) (by decide), hz 19 (by decide) (by decide) (by decide), hz 20 (by decide) (by decide) (by decide), hz 21 (by decide) (by decide) (by decide), hz 22 (by decide) (by decide) (by decide), hz 23 (by decide) (by decide) (by decide)]
    refine ⟨⟨a0, a1, a2, a3, a4, a5, a6, a7, a8, by omega, a10, a11, a13, a15⟩, p14, p1, p2, p4, p5, p6, p12, p13, fun i hi => ?_, p19, p20, p22, q0, fun h => absurd h h0, q2⟩
    rw [r17, r18]
    by_cases c : i = T 0 9
    · rw [if_pos c, if_pos c]; exact ⟨hh, hm⟩
    · rw [if_neg c, if_neg c]; exact p17 i (by omega)
  · rw [hf 12 (by decide), hpn]
    exact rNm_fr d4 (by rw [c1 67 (by omega) (by omega) (by omega)]) (c1 69 (by omega) (by omega) (by omega)) (c1 70 (by omega) (by omega) (by omega)) rfl (by rw [gWI_nk (by decide), gWI_na (by omega), gWI_na (by omega)]) (by rw [goWI_ne (by omega), goWI_ne (by omega), goWI_ne (by omega)]) (by rw [goWI_ne (by omega), goWI_ne (by omega), goWI_ne (by omega)]) rfl
  · rw [hf 12 (by decide), hf 2 (by decide), hf 4 (by decide), hf 5 (by decide), hf 8 (by decide), hf 11 (by decide)]; exact d5
  · by_cases c : j = 9
    · rw [if_pos c, c, tW_e]
    · rw [if_neg c]; exact hf j c
theorem cRuleL {w : Nat → Nat} {r : Nat} (hs : s = 7 ∨ s = 37) (hr : r < 8) (hk : k ≤ 8) (hw : ∀ i, i < k → w i < 8) : ∀ (d j : Nat) (M : goMI) (n : Nat), j + d = k → d < n → M (s + 21) 2 = nI r → M (s + 23) r = nI (gOr w j) → (∀ i, i < k → M 72 i = nI (w i)) → ∃ M', lX7_addRule_32 (nI k) (s + 21) 72 8 n (nI j) M = some M' ∧ (∀ a, a ≠ s + 23 → M' a = M a) ∧ (∀ i, i ≠ r → M' (s + 23) i = M (s + 23) i) ∧ M' (s + 23) r = nI (gOr w k) := by
  intro d
  induction d with
  | zero =>
    intro j M n hd hn h2 h3 h72
    obtain ⟨n, rfl⟩ : ∃ z, n = z + 1 := ⟨n - 1, by omega⟩
    have ej : j = k := by omega
    refine ⟨M, ?_, fun _ _ => rfl, fun _ _ => rfl, by rw [h3, ej]⟩
    rw [lX7_addRule_32, if_neg (nI_nlt (by omega) (by omega))]
  | succ d ih =>
    intro j M n hd hn h2 h3 h72
    obtain ⟨n, rfl⟩ : ∃ z, n = z + 1 := ⟨n - 1, by omega⟩
    have hwj := hw j (by omega)
    obtain ⟨M', y1, y2, y3, y4⟩ := ih (j + 1) (goWI M (s + 23) r (nI (gOr w j ||| 2 ^ w j))) n (by omega) (by omega) (by rw [gWI_na (by omega)]; exact h2) (by rw [gWI_self, if_pos rfl]; rfl) (fun i hi => by rw [gWI_na (by omega)]; exact h72 i hi)
    refine ⟨M', ?_, fun a ha => by rw [y2 a ha, goWI_ne ha], fun i hi => by rw [y3 i hi, gWI_nk hi], y4⟩
    rw [lX7_addRule_32, if_pos (nI_lt (by omega) (by omega)), show s + 21 + 2 = s + 23 from rfl, h2, gRd hr, gBd, h3, gRd (by omega), gBd, h72 j (by omega), gI_shl1 (by omega), gI_or, gWr hr, gBd, nI_1]
    exact y1
theorem cRule {w : Nat → Nat} (hs : s = 7 ∨ s = 37) (h9 : T 0 9 < 8) (hk : k ≤ 8) (hw : ∀ i, i < k → w i < 8) (h2 : Mc (s + 21) 2 = nI (T 0 9)) (h72 : ∀ i, i < k → Mc 72 i = nI (w i)) : ∃ M', fX7_addRule 5000 Mc (s + 21) (nI hd) 72 8 (nI k) = some M' ∧ (∀ a, a ≠ s + 21 → a ≠ s + 22 → a ≠ s + 23 → M' a = Mc a) ∧ (∀ j, M' (s + 21) j = if j = 2 then nI (T 0 9 + 1) else Mc (s + 21) j) ∧ (∀ j, M' (s + 22) j = if j = T 0 9 then nI hd else Mc (s + 22) j) ∧ ∀ j, M' (s + 23) j = if j = T 0 9 then nI (gOr w k) else Mc (s + 23) j := by
  obtain ⟨M', y1, y2, y3, y4⟩ := cRuleL (s := s) (k := k) (w := w) (r := T 0 9) hs h9 hk hw k 0 (goWI (goWI Mc (s + 22) (T 0 9) (nI hd)) (s + 23) (T 0 9) 0) 5000 (by omega) (by omega) (by rw [gWI_na (by omega), gWI_na (by omega)]; exact h2) (by rw [gWI_self, if_pos rfl]; rfl) (fun i hi => by rw [gWI_na (by omega), gWI_na (by omega)]; exact h72 i hi)
  have y1' : lX7_addRule_32 (nI k) (s + 21) 72 8 5000 0 (goWI (goWI Mc (s + 22) (T 0 9) (nI hd)) (s + 23) (T 0 9) 0) = some M' := y1
  have z2 : M' (s + 21) 2 = nI (T 0 9) := by rw [y2 _ (by omega), gWI_na (by omega), gWI_na (by omega)]; exact h2
  refine ⟨goWI M' (s + 21) 2 (nI (T 0 9 + 1)), ?_, fun a h1 h2 h3 => by rw [goWI_ne h1, y2 a h3, goWI_ne h3, goWI_ne h2], fun j => ?_, fun j => ?_, fun j => ?_⟩
  · unfold fX7_addRule
    rw [h2, if_pos (show nI (T 0 9) < 8 from nI_lt (b := 8) h9 (by decide)), show s + 21 + 1 = s + 22 from rfl, show s + 21 + 2 = s + 23 from rfl, gWr h9, gBd, gWI_na (by omega), h2, gWr h9, gBd, y1', gBd, gNm, z2, nI_1]
  · rw [gWI_self, y2 _ (by omega), gWI_na (by omega), gWI_na (by omega)]
  · rw [gWI_na (by omega), y2 _ (by omega), gWI_na (by omega), gWI_self]
  · rw [gWI_na (by omega)]
    by_cases c : j = T 0 9
    · rw [if_pos c, c]; exact y4
    · rw [if_neg c, y3 j c, gWI_nk c, gWI_na (by omega)]
end d1
theorem rRuleL {T : tH} {hd : Nat} (hs : s = 7 ∨ s = 37) (hb : 121 ≤ b) (hRm : Rm 102 4 = some b) (h9 : T 0 9 < 8) : ∀ (d k st : Nat) (Mc Mm : goMI) (Lc Lm : goML) (w : Nat → Nat) (n m : Nat), k + d = 3 → d < n → d + 1 < m → (∀ i, i < 18 → Lc 73 i = kw i) → rT e st Mc Lc Mm Lm → rD s b Mc Lc Mm Lm T → (∀ j, j < k → Mc 72 j = nI (w j) ∧ w j < T 0 8) → pcn (gOr w k) = k →
    (∃ k' st' Mc' Lc' Mm' Lm' w', 1 ≤ k' ∧ k' ≤ 3 ∧ st ≤ st' ∧ cFc 3 1 n (nI (gOr w k)) (nI k) Mc Lc = some (nI k', Mc', Lc') ∧ lX14_readRule_29 5000 (nI hd) Rm m (nI (gOr w k)) 1 Mm Lm = some (goWI (goWI (goWI Mm' (b + 17) (T 0 9) (nI hd)) (b + 18) (T 0 9) (nI (gOr w' k'))) b 9 (nI (T 0 9 + 1)), Lm') ∧ rT e st' Mc' Lc' Mm' Lm' ∧ rD s b Mc' Lc' Mm' Lm' T ∧ (∀ j, j < k' → Mc' 72 j = nI (w' j) ∧ w' j < T 0 8) ∧ rKp Mc Mm Mc' Mm' ∧ gFr s b Mc Lc Mm Lm Mc' Lc' Mm' Lm') ∨
    (∃ (f : Int32) (st' : Nat) (Mc' : goMI) (Lc' : goML) (Mm' : goMI) (Lm' : goML), 0 < f ∧ cFc 3 1 n (nI (gOr w k)) (nI k) Mc Lc = some (0, cF Mc' f st', Lc') ∧ lX14_readRule_29 5000 (nI hd) Rm m (nI (gOr w k)) 1 Mm Lm = some (mF Mm' f st', Lm') ∧ gFr s b Mc Lc Mm Lm Mc' Lc' Mm' Lm') := by
  intro d
  induction d with
  | zero =>
    intro k st Mc Mm Lc Lm w n m hk hn hm hL h hD hw hpc
    obtain ⟨m, rfl⟩ : ∃ z, m = z + 1 := ⟨m - 1, by omega⟩
    obtain ⟨d1, d2, d3, d4, d5⟩ := id hD
    have hke : k = 3 := by omega
    have a8 : T 0 8 ≤ 8 := d3.1.2.2.2.2.2.2.2.2.1
    have hor := gOr_lt (w := w) (x := 8) k (fun j hj => Nat.lt_of_lt_of_le (hw j hj).2 a8)
    have hor' : gOr w k < 256 := hor
    unfold cFc
    rw [lX14_readRule_29, if_neg (by decide)]
    rcases rNamed hRm hb hL h d4 (s := 3) (by decide) (pN_le d3) with ⟨g, hg, c1, m1, q, q1, q2, q3, q4⟩ | ⟨f, hf, c1, m1⟩
    · have c1' : fX9_named 5000 Mc Lc 3 = some (nI g, Mc) := c1
      have m1' : fX14_known 5000 Mm Lm Rm 3 = some (nI g, Mm) := m1
      have hg8 : g < T 0 8 := hg
      rw [c1', gB2, if_neg (nI_nn (by omega)), if_neg (show ¬ (1 : Int32) = 0 by decide), gI_bit (by omega) (by omega), m1', gB2, if_neg (rT_9 h), gI_bit14 (by omega) (by omega)]
      cases cb : (gOr w k).testBit g with
      | true =>
        rw [if_pos (show nI true.toNat = 1 from rfl), cFail h.2.2.1, gB2, if_neg (show ¬ nI true.toNat = 0 by decide), mFlaw h.2.2.2.1 (rT_9 h), gBd, gBd, if_pos mF_9, gBd, ov_on mF_9, gB2, if_pos mF_9]
        exact Or.inr ⟨3, st, Mc, Lc, Mm, Lm, by decide, rfl, rfl, gFr_refl⟩
      | false =>
        rw [if_neg (show ¬ nI false.toNat = 1 by decide), if_pos (show (3 : Int32) ≤ nI k by rw [hke]; decide), cFail h.2.2.1, gB2, if_pos (show nI false.toNat = 0 from rfl), gBd, if_neg (rT_9 h), pcn_b _ hor', gBd, hpc, if_pos (show nI k = 3 by rw [hke]; rfl), mFlaw h.2.2.2.1 (rT_9 h), gBd, gBd, ov_on mF_9, gB2, if_pos mF_9]
        exact Or.inr ⟨5, st, Mc, Lc, Mm, Lm, by decide, rfl, rfl, gFr_refl⟩
    · have c1' : fX9_named 5000 Mc Lc 3 = some (-1, cF Mc f st) := c1
      have m1' : fX14_known 5000 Mm Lm Rm 3 = some (0, mF Mm f st) := m1
      rw [c1', gB2, if_pos (by decide), m1', gB2, if_pos mF_9, gBd, if_pos mF_9, gBd, ov_on mF_9, gB2, if_pos mF_9]
      exact Or.inr ⟨f, st, Mc, Lc, Mm, Lm, by rcases hf with e | e <;> rw [e] <;> decide, rfl, rfl, gFr_refl⟩
  | succ d ih =>
    intro k st Mc Mm Lc Lm w n m hk hn hm hL h hD hw hpc
    obtain ⟨m, rfl⟩ : ∃ z, m = z + 1 := ⟨m - 1, by omega⟩
    obtain ⟨n, rfl⟩ : ∃ z, n = z + 1 := ⟨n - 1, by omega⟩
    obtain ⟨d1, d2, d3, d4, d5⟩ := id hD
    have a8 : T 0 8 ≤ 8 := d3.1.2.2.2.2.2.2.2.2.1
    have hor := gOr_lt (w := w) (x := 8) k (fun j hj => Nat.lt_of_lt_of_le (hw j hj).2 a8)
    have hor' : gOr w k < 256 := hor
    unfold cFc
    rw [lX14_readRule_29, if_neg (by decide)]
    rcases rNamed hRm hb hL h d4 (s := 3) (by decide) (pN_le d3) with ⟨g, hg, c1, m1, q, q1, q2, q3, q4⟩ | ⟨f, hf, c1, m1⟩
    · have c1' : fX9_named 5000 Mc Lc 3 = some (nI g, Mc) := c1
      have m1' : fX14_known 5000 Mm Lm Rm 3 = some (nI g, Mm) := m1
      have hg8 : g < T 0 8 := hg
      rw [c1', gB2, if_neg (nI_nn (by omega)), if_neg (show ¬ (1 : Int32) = 0 by decide), gI_bit (by omega) (by omega), m1', gB2, if_neg (rT_9 h), gI_bit14 (by omega) (by omega)]
      cases cb : (gOr w k).testBit g with
      | true =>
        rw [if_pos (show nI true.toNat = 1 from rfl), cFail h.2.2.1, gB2, if_neg (show ¬ nI true.toNat = 0 by decide), mFlaw h.2.2.2.1 (rT_9 h), gBd, gBd, if_pos mF_9, gBd, ov_on mF_9, gB2, if_pos mF_9]
        exact Or.inr ⟨3, st, Mc, Lc, Mm, Lm, by decide, rfl, rfl, gFr_refl⟩
      | false =>
        obtain ⟨st1, Mc1, Lc1, Mm1, Lm1, i1, n1, n1', t1, f1⟩ := rNext (Mc2 := goWI Mc 72 k (nI g)) (Lc2 := Lc) (Mm2 := Mm) (Lm2 := Lm) h q1 q2 q3 q4 (goWI_ne (by decide)) (goWI_ne (by decide)) rfl rfl
        have hD1 : rD s b Mc1 Lc1 Mm1 Lm1 T := rD_tok hs hb (rD_w (Mc2 := Mc) (a := 72) (j := k) (x := nI g) hs (by omega) (by decide) (by decide) (by decide) hD) f1
        have g1 : gFr s b Mc Lc Mm Lm Mc1 Lc1 Mm1 Lm1 := gFr_trans ⟨fun a h1 h2 h3 h4 => goWI_ne (x := nI g) (k := k) (a := 72) (by omega), fun j _ => gWI_na (by decide), fun _ _ _ _ => rfl, fun _ _ _ _ => rfl, fun _ _ => rfl, fun _ _ _ => rfl⟩ (gFr_tok f1)
        have w71 : rKp Mc Mm Mc1 Mm1 := rKp_trans (rKp_w (Mc' := goWI Mc 72 k (nI g)) (Mm' := Mm) (goWI_ne (by decide)) (goWI_ne (by decide)) rfl) (rKp_tok f1)
        have hwk : gUw w k g k = g := gUw_e
        have hwn : ∀ j, j < k → gUw w k g j = w j := fun j hj => gUw_n (by omega)
        have ho1 : gOr (gUw w k g) (k + 1) = gOr w k ||| 2 ^ g := by
          show gOr (gUw w k g) k ||| 2 ^ gUw w k g k = _
          rw [gOr_c k hwn, hwk]
        have hw1 : ∀ j, j < k + 1 → Mc1 72 j = nI (gUw w k g j) ∧ gUw w k g j < T 0 8 := by
          intro j hj
          rw [f1.1 72 (by decide), gWI_self]
          by_cases c : j = k
          · rw [if_pos c, c, hwk]; exact ⟨rfl, hg8⟩
          · rw [if_neg c, hwn j (by omega)]; exact hw j (by omega)
        rw [if_neg (show ¬ nI false.toNat = 1 by decide), if_neg (show ¬ (3 : Int32) ≤ nI k from fun hx => by have := (nI_leI (a := 3) (by omega) (by omega)).mp hx; omega), gNm, gWr (by omega), gBd, n1, gB2, if_pos (show nI false.toNat = 0 from rfl), gBd, if_neg (rT_9 h), pcn_b _ hor', gBd, hpc, if_neg (show ¬ nI k = 3 from fun hx => by have := (nI_eq (b := 3) (by omega) (by decide)).mp hx; omega), gBd, n1', gB2, if_neg (rT_9 t1), gNm, gI_shl1 (by omega), gI_or, ← ho1, nI_1]
        have hle : nI (k + 1) ≤ (3 : Int32) := nI_le (b := 3) (by omega) (by decide)
        have hpos : 0 < nI (k + 1) := nI_lt (a := 0) (by omega) (by omega)
        have hpc1 : pcn (gOr (gUw w k g) (k + 1)) = k + 1 := by rw [ho1, pcn_s _ hor' g (by omega) cb, hpc]
        generalize (gUw w k g) = w1 at hw1 hpc1 ⊢
        obtain ⟨s1, s2, s3, s4⟩ := rT_s t1
        by_cases c4 : Mc1 1 4 = 4
        · obtain ⟨m9, m11⟩ := s1.mp c4
          obtain ⟨q', q1', q2', q3', q4'⟩ := s4 (Or.inl c4)
          obtain ⟨st2, Mc2, Lc2, Mm2, Lm2, i2, n2, n2', t2, f2⟩ := rNext (Mc2 := Mc1) (Lc2 := Lc1) (Mm2 := Mm1) (Lm2 := Lm1) t1 q1' q2' q3' q4' rfl rfl rfl rfl
          rw [cFc_c hle hpos c4, n2, gB2, mEatY m9 m11, n2', gB2, gB3]
          have w72 : rKp Mc Mm Mc2 Mm2 := rKp_trans w71 (rKp_tok f2)
          rcases ih (k + 1) st2 Mc2 Mm2 Lc2 Lm2 w1 n m (by omega) (by omega) (by omega) (fun i hi => by rw [f2.2.1 73 (by decide), f1.2.1 73 (by decide)]; exact hL i hi) t2 (rD_tok hs hb hD1 f2) (fun j hj => by rw [f2.1 72 (by decide)]; exact hw1 j hj) hpc1 with ⟨k', st', Mc', Lc', Mm', Lm', w', r1, r2, r3, r4, r5, r6, r7, r7', r8, r9⟩ | ⟨f, st', Mc', Lc', Mm', Lm', r1, r2, r3, r4⟩
          · exact Or.inl ⟨k', st', Mc', Lc', Mm', Lm', w', r1, r2, by omega, r4, r5, r6, r7, r7', rKp_trans w72 r8, gFr_trans (gFr_trans g1 (gFr_tok f2)) r9⟩
          · exact Or.inr ⟨f, st', Mc', Lc', Mm', Lm', r1, r2, r3, gFr_trans (gFr_trans g1 (gFr_tok f2)) r4⟩
        · obtain ⟨m, rfl⟩ : ∃ z, m = z + 1 := ⟨m - 1, by omega⟩
          have k9 : Mm1 b 9 = nI (T 0 9) := tM_0 hD1.1 (by decide)
          rw [cFc_e hle hpos c4, mEatN (fun hx => c4 (s1.mpr hx)), gB3, lX14_readRule_29, if_pos rfl]
          simp only [hRm, gBd]
          rw [k9, gWr h9, gBd, gWI_na (by omega), k9, gWr h9, gBd, gNm, gWI_na (by omega), gWI_na (by omega), k9, nI_1]
          exact Or.inl ⟨k + 1, st1, Mc1, Lc1, Mm1, Lm1, w1, by omega, by omega, by omega, rfl, rfl, t1, hD1, hw1, w71, g1⟩
    · have c1' : fX9_named 5000 Mc Lc 3 = some (-1, cF Mc f st) := c1
      have m1' : fX14_known 5000 Mm Lm Rm 3 = some (0, mF Mm f st) := m1
      rw [c1', gB2, if_pos (by decide), m1', gB2, if_pos mF_9, gBd, if_pos mF_9, gBd, ov_on mF_9, gB2, if_pos mF_9]
      exact Or.inr ⟨f, st, Mc, Lc, Mm, Lm, by rcases hf with e | e <;> rw [e] <;> decide, rfl, rfl, gFr_refl⟩
theorem ov_rule {nn m : Nat} {Mm : goMI} {Lm : goML} {v1 v2 : Int32} (hRm : Rm 102 4 = some b) (hN : mNm b nn Mm) (h : Mm 102 9 = 5) : lX14_readRule_29 5000 v1 Rm (m + 1) v2 1 Mm Lm = some (Mm, Lm) := by
  rw [lX14_readRule_29, if_neg (by decide), ov_known hRm hN h, gB2, if_pos h, gBd, if_pos h, gBd, ov_on h, gB2, if_pos h]
theorem rRule {st : Nat} {Mc Mm Mm0 : goMI} {Lc Lm Lm0 : goML} {T : tH} (hs : s = 7 ∨ s = 37) (hb : 121 ≤ b) (hRc : goRr Rc 67 7 = s) (hRm : Rm 102 4 = some b) (hL : ∀ i, i < 18 → Lc 73 i = kw i) (h0 : T 0 0 ≠ 0) (h9 : T 0 9 < 8) (hbeg : fX14_begins 5000 Mm0 Lm0 Rm (Mm0 b 9) 8 = some (Mm, Lm)) (h : rT e st Mc Lc Mm Lm) (hD : rD s b Mc Lc Mm Lm T) :
    rOut e s b st Mc Lc Mm Lm (fX9_ruleLine 5000 Mc Lc Rc) (fX14_readRule 5000 Mm0 Lm0 Rm) (fun T' => ∀ j, j ≠ 12 → T' 0 j = if j = 9 then T 0 9 + 1 else T 0 j) := by
  obtain ⟨d1, d2, d3, d4, d5⟩ := id hD
  have a8 : T 0 8 ≤ 8 := d3.1.2.2.2.2.2.2.2.2.1
  unfold fX9_ruleLine fX14_readRule fX14_readKnown
  simp only [hRm, gBd]
  rw [hbeg, gB2]
  rcases rNamed hRm hb hL h d4 (s := 3) (by decide) (pN_le d3) with ⟨g, hg, c1, m1, q, q1, q2, q3, q4⟩ | ⟨f, hf, c1, m1⟩
  · have c1' : fX9_named 5000 Mc Lc 3 = some (nI g, Mc) := c1
    have m1' : fX14_known 5000 Mm Lm Rm 3 = some (nI g, Mm) := m1
    have hg8 : g < T 0 8 := hg
    obtain ⟨st1, Mc1, Lc1, Mm1, Lm1, i1, n1, n1', t1, f1⟩ := rNext (Mc2 := Mc) (Lc2 := Lc) (Mm2 := Mm) (Lm2 := Lm) h q1 q2 q3 q4 rfl rfl rfl rfl
    have hD1 := rD_tok hs hb hD f1
    rw [c1', gB2, if_neg (nI_nn (by omega)), n1, gB2, m1', gB2, n1', gB2, gB3]
    rcases rWord (a := 1000109) (a' := 1000146) (w := kw 16) t1 (by decide +kernel) (kw_m 16 (by decide)) with ⟨st2, Mc2, Lc2, Mm2, Lm2, i2, n2, n2', t2, f2⟩ | ⟨n2, n2'⟩
    · have hD2 := rD_tok hs hb hD1 f2
      have g2 : gFr s b Mc Lc Mm Lm Mc2 Lc2 Mm2 Lm2 := gFr_trans (gFr_tok f1) (gFr_tok f2)
      rw [n2, gB3, if_neg (by decide), n2', gB2]
      unfold fX9_factList
      rw [cFc_0 (n := 4999) (by decide)]
      rcases rRuleL (e := e) (T := T) (hd := g) hs hb hRm h9 3 0 st2 Mc2 Mm2 Lc2 Lm2 (fun _ => 0) 4999 5000 (by decide) (by decide) (by decide) (fun i hi => by rw [f2.2.1 73 (by decide), f1.2.1 73 (by decide)]; exact hL i hi) t2 hD2 (fun j hj => absurd hj (Nat.not_lt_zero _)) rfl with ⟨k', st', Mc', Lc', Mm', Lm', w', r1, r2, r3, r4, r5, r6, r7, r7', r8, r9⟩ | ⟨f, st', Mc', Lc', Mm', Lm', r1, r2, r3, r4⟩
      · have r4' : cFc 3 1 4999 0 0 Mc2 Lc2 = some (nI k', Mc', Lc') := r4
        have r5' : lX14_readRule_29 5000 (nI g) Rm 5000 0 1 Mm2 Lm2 = some (goWI (goWI (goWI Mm' (b + 17) (T 0 9) (nI g)) (b + 18) (T 0 9) (nI (gOr w' k'))) b 9 (nI (T 0 9 + 1)), Lm') := r5
        have k2 : Mc' (s + 21) 2 = nI (T 0 9) := r7.2.1.2.2.2.2.2.2.2.2.2.2.2.2.1.2.2.1
        obtain ⟨M', y1, y2, y3, y4, y5⟩ := cRule (Mc := Mc') (hd := g) (T := T) (k := k') (w := w') hs h9 (by omega) (fun i hi => Nat.lt_of_lt_of_le (r7' i hi).2 a8) k2 (fun i hi => (r7' i hi).1)
        rw [r4', gB3, if_neg (show ¬ nI k' < 1 from nI_nlt (show 1 ≤ k' from r1) (by omega)), hRc, y1, gBd, r5']
        obtain ⟨hD', hQ⟩ := rD_rule hs hb r7 h0 h9 hg8 (gOr_lt k' (fun j hj => (r7' j hj).2)) y2 y3 y4 y5
        exact Or.inl ⟨st', M', Lc', _, Lm', _, by omega, rfl, rfl, rT_fr r6 (y2 _ (by omega) (by omega) (by omega)) (y2 _ (by omega) (by omega) (by omega)) (by rw [goWI_ne (by omega), goWI_ne (by omega), goWI_ne (by omega)]) (by rw [goWI_ne (by omega), goWI_ne (by omega), goWI_ne (by omega)]) (by rw [goWI_ne (by omega), goWI_ne (by omega), goWI_ne (by omega)]) rfl rfl, hD', rKp_trans (rKp_trans (rKp_tok f1) (rKp_tok f2)) (rKp_trans r8 (rKp_w (y2 71 (by omega) (by omega) (by omega)) (y2 67 (by omega) (by omega) (by omega)) (by rw [goWI_ne (by omega), goWI_ne (by omega), goWI_ne (by omega)]))), gFr_trans (gFr_trans g2 r9) ⟨fun a h1 h2 h3 h4 => y2 a (by omega) (by omega) (by omega), fun j hj => by rw [y2 1 (by omega) (by omega) (by omega)], fun _ _ _ _ => rfl, fun a h1 h2 h3 => by rw [goWI_ne (by omega), goWI_ne (by omega), goWI_ne (by omega)], fun j hj => by rw [gWI_na (by omega), gWI_na (by omega), gWI_na (by omega)], fun _ _ _ => rfl⟩, hQ⟩
      · have r2' : cFc 3 1 4999 0 0 Mc2 Lc2 = some (0, cF Mc' f st', Lc') := r2
        have r3' : lX14_readRule_29 5000 (nI g) Rm 5000 0 1 Mm2 Lm2 = some (mF Mm' f st', Lm') := r3
        rw [r2', gB3, if_pos (by decide), r3']
        exact rOut_f (f := f) r1 rfl rfl (gFr_trans g2 r4)
    · rw [n2, gB3, if_pos rfl, n2', gB2, ov_rule hRm (mF_b hb (rNm_m hD1.2.2.2.1)) mF_9]
      exact rOut_f (f := 1) (by decide) rfl rfl (gFr_tok f1)
  · have c1' : fX9_named 5000 Mc Lc 3 = some (-1, cF Mc f st) := c1
    have m1' : fX14_known 5000 Mm Lm Rm 3 = some (0, mF Mm f st) := m1
    rw [c1', gB2, if_pos (by decide), m1', gB2, ov_on mF_9, gB2, gB3, ov_wants mF_9, gB2, ov_rule hRm (mF_b hb (rNm_m d4)) mF_9]
    exact rOut_f (f := f) (by rcases hf with e | e <;> rw [e] <;> decide) rfl rfl gFr_refl
end lines23
