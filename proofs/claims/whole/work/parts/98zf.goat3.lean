/-! LINES: goat, data (printed by gen98zf.py) -/
section lines26
variable {e s b : Nat} {Mc Mm Mc' Mm' : goMI} {Lc Lm Lc' Lm' : goML} {Rc Rm : goMR} {T T' Tk : tH} {kd mo sz pl tr : Nat} {w : Nat → Nat}
theorem pO_goat (h : pO T) (h0 : T 0 0 ≠ 0) (h6 : T 0 5 < 6) (hkd : kd ≤ 3) (hmo : mo < T 0 5 ∨ mo = 4294967294) (hsz : sz ≤ T 0 1) (hpl : pl < T 0 2) (ht1 : 1 ≤ tr) (ht9 : tr ≤ 9) (hw : ∀ i, i < sz → w i < T 0 1) (hz : ∀ r, r ≠ 0 → r ≠ 6 → r ≠ 7 → r ≠ 8 → r ≠ 9 → r ≠ 10 → r ≠ 11 → r ≠ 23 → T' r = T r) (hf : ∀ j, j ≠ 5 → j ≠ 12 → T' 0 j = T 0 j) (f5 : T' 0 5 = T 0 5 + 1) (r6 : ∀ j, T' 6 j = if j = T 0 5 then kd else T 6 j) (r7 : ∀ j, T' 7 j = if j = T 0 5 then mo else T 7 j) (r8 : ∀ j, T' 8 j = if j = T 0 5 then sz else T 8 j) (r10 : ∀ j, T' 10 j = if j = T 0 5 then pl else T 10 j) (r11 : ∀ j, T' 11 j = if j = T 0 5 then tr else T 11 j) (r23 : ∀ j, T' 23 j = if j = T 0 5 then pl else T 23 j) (r9a : ∀ j, j < 4 * T 0 5 ∨ 4 * T 0 5 + 4 ≤ j → T' 9 j = T 9 j) (r9b : ∀ i, i < sz → T' 9 (4 * T 0 5 + i) = w i) : pO T' := by
  obtain ⟨⟨a0, a1, a2, a3, a4, a5, a6, a7, a8, a9, a10, a11, a13, a15⟩, p14, p1, p2, p4, p5, p6, p12, p13, p17, p19, p20, p22, q0, q1, q2⟩ := h
  unfold pO tJ
  unfold tJ at p2
  rw [f5, hf 0 (by decide) (by decide), hf 1 (by decide) (by decide), hf 2 (by decide) (by decide), hf 3 (by decide) (by decide), hf 4 (by decide) (by decide), hf 6 (by decide) (by decide), hf 7 (by decide) (by decide), hf 8 (by decide) (by decide), hf 9 (by decide) (by decide), hf 10 (by decide) (by decide), hf 11 (by decide) (by decide), hf 13 (by decide) (by decide), hf 14 (by decide) (by decide), hf 15 (by decide) (by decide), hz 1 (by decide) (by decide) (by decide) (by decide) (by decide) (by decide) (by decide) (by decide), hz 2 (by decide) (by decide) (by decide) (by decide) (by decide) (by decide) (by decide) (by decide), hz 3 (by decide) (by decide) (by decide) (by decide) (by decide) (by decide) (by decide) (by decide), hz 4 (by decide) (by decide) (by decide) (by decide) (by decide) (by decide) (by decide) (by decide), hz 5 (by decide) (by decide) (by decide) (by decide) (by decide) (by decide) (by decide) (by decide), hz 12 (by decide) (by decide) (by decide) (by decide) (by decide) (by decide) (by decide) (by decide), hz 13 (by decide) (by decide) (by decide) (by decide) (by decide) (by decide) (by decide) (by decide), hz 14 (by decide) (by decide) (by decide) (by decide) (by decide) (by decide) (by decide) (by decide), hz 15 (by decide) (by decide) (by decide) (by decide) (by decide) (by decide) (by decide) (by decide), hz 16 (by decide) (by decide) (by decide) (by decide) (by decide) (by decide) (by decide) (by decide), hz 17 (by decide) (by decide) (by decide) (by decide) (by decide) (by decide) (by decide) (by decide), hz 18 (by decide) (by decide) (by decide) (by decide) (by decide) (by decide) (by decide) (by decide), hz 19 (by decide) (by decide) (by decide) (by decide) (by decide) (by decide) (by decide) (by decide), hz 20 (by decide) (by decide) (by decide) (by decide) (by decide) (by decide) (by decide) (by decide), hz 21 (by decide) (by decide) (by decide) (by decide) (by decide) (by decide) (by decide) (by decide), hz 22 (by decide) (by decide) (by decide) (by decide) (by decide) (by decide) (by decide) (by decide)]
  refine ⟨⟨a0, a1, a2, a3, a4, by omega, a6, a7, a8, a9, a10, a11, a13, a15⟩, p14, p1, p2, p4, p5, fun g hg => ?_, fun g hg => ?_, fun k hk => ?_, p17, p19, p20, p22, q0, fun h => absurd h h0, q2⟩
  · rw [r6, r7, r8, r10, r11, r23]
    by_cases c : g = T 0 5
    · simp only [if_pos c]
      refine ⟨hkd, by omega, hsz, hpl, trivial, ht1, ht9, fun i hi => ?_⟩
      rw [c, r9b i hi]
      exact hw i hi
    · simp only [if_neg c]
      obtain ⟨z1, z2, z3, z4, z5, z6, z7, z8⟩ := p6 g (by omega)
      refine ⟨z1, by omega, z3, z4, z5, z6, z7, fun i hi => ?_⟩
      rw [r9a _ (by omega)]
      exact z8 i hi
  · rw [r23]
    refine ⟨(p12 g hg).1, ?_⟩
    by_cases c : g = T 0 5
    · rw [if_pos c]; omega
    · rw [if_neg c]; exact (p12 g hg).2
  · obtain ⟨z1, z2, z3⟩ := p13 k hk
    exact ⟨z1, by omega, z3⟩
theorem rD_goat (hs : s = 7 ∨ s = 37) (hb : 121 ≤ b) (hD : rD s b Mc Lc Mm Lm T) (h0 : T 0 0 ≠ 0) (h6 : T 0 5 < 6) (hkd : kd ≤ 3) (hmo : mo < T 0 5 ∨ mo = 4294967294) (hsz : sz ≤ T 0 1) (hpl : pl < T 0 2) (ht1 : 1 ≤ tr) (ht9 : tr ≤ 9) (hw : ∀ i, i < sz → w i < T 0 1) (hz : ∀ r, r ≠ 0 → r ≠ 6 → r ≠ 7 → r ≠ 8 → r ≠ 9 → r ≠ 10 → r ≠ 11 → r ≠ 23 → T' r = T r) (hf : ∀ j, j ≠ 5 → j ≠ 12 → T' 0 j = T 0 j) (f5 : T' 0 5 = T 0 5 + 1) (r6 : ∀ j, T' 6 j = if j = T 0 5 then kd else T 6 j) (r7 : ∀ j, T' 7 j = if j = T 0 5 then mo else T 7 j) (r8 : ∀ j, T' 8 j = if j = T 0 5 then sz else T 8 j) (r10 : ∀ j, T' 10 j = if j = T 0 5 then pl else T 10 j) (r11 : ∀ j, T' 11 j = if j = T 0 5 then tr else T 11 j) (r23 : ∀ j, T' 23 j = if j = T 0 5 then pl else T 23 j) (r9a : ∀ j, j < 4 * T 0 5 ∨ 4 * T 0 5 + 4 ≤ j → T' 9 j = T 9 j) (r9b : ∀ i, i < sz → T' 9 (4 * T 0 5 + i) = w i) (f12 : T' 0 12 = T 0 12 + 1) (hM : tM Mm' b T') (hN : rNm b (pN T') (T 0 12 + 1) Mc' Lc' Mm' Lm') (c1 : ∀ a, s ≤ a → a ≤ s + 27 → a ≠ s + 9 → a ≠ s + 10 → a ≠ s + 11 → a ≠ s + 12 → a ≠ s + 13 → a ≠ s + 15 → a ≠ s + 16 → Mc' a = Mc a) (c9 : ∀ j, Mc' (s + 9) j = if j = 0 then nI (T 0 5 + 1) else Mc (s + 9) j) (c10 : ∀ j, Mc' (s + 10) j = if j = T 0 5 then nI kd else Mc (s + 10) j) (c11 : ∀ j, Mc' (s + 11) j = if j = T 0 5 then nI mo else Mc (s + 11) j) (c12 : ∀ j, Mc' (s + 12) j = if j = T 0 5 then nI pl else Mc (s + 12) j) (c13 : ∀ j, Mc' (s + 13) j = if j = T 0 5 then nI tr else Mc (s + 13) j) (c16 : ∀ j, Mc' (s + 16) j = if j = T 0 5 then nI sz else Mc (s + 16) j) (c15a : ∀ j, j < 4 * T 0 5 ∨ 4 * T 0 5 + 4 ≤ j → Mc' (s + 15) j = Mc (s + 15) j) (c15b : ∀ i, i < sz → Mc' (s + 15) (4 * T 0 5 + i) = nI (w i)) : rD s b Mc' Lc' Mm' Lm' T' := by
  obtain ⟨d1, d2, d3, d4, d5⟩ := hD
  refine ⟨hM, ?_, pO_goat d3 h0 h6 hkd hmo hsz hpl ht1 ht9 hw hz hf f5 r6 r7 r8 r10 r11 r23 r9a r9b, by rw [f12]; exact hN, ?_⟩
  · have p6 := d3.2.2.2.2.2.2.1
    have a1 := d3.1.2.1
    obtain ⟨xpa, xpb, xpc, xpd, xpe, xpf, xpg, xph, xpi, xpj, xpk, xpx, xpm, xpn, xpo, xpq, xpr⟩ := d2
    have mm : ∀ r, r ≤ 27 → r ≠ 9 → r ≠ 10 → r ≠ 11 → r ≠ 12 → r ≠ 13 → r ≠ 15 → r ≠ 16 → Mc' (s + r) = Mc (s + r) := fun r h1 h2 h3 h4 h5 h6 h7 h8 => c1 _ (by omega) (by omega) (by omega) (by omega) (by omega) (by omega) (by omega) (by omega) (by omega)
    refine ⟨paF xpa (mm 0 (by decide) (by decide) (by decide) (by decide) (by decide) (by decide) (by decide) (by decide)) (hf 0 (by decide) (by decide)) (hf 1 (by decide) (by decide)) (hf 2 (by decide) (by decide)) (hf 3 (by decide) (by decide)) (hf 4 (by decide) (by decide)) (hf 15 (by decide) (by decide)), pbF xpb (mm 1 (by decide) (by decide) (by decide) (by decide) (by decide) (by decide) (by decide) (by decide)) (hz 1 (by decide) (by decide) (by decide) (by decide) (by decide) (by decide) (by decide) (by decide)), pcF xpc (mm 2 (by decide) (by decide) (by decide) (by decide) (by decide) (by decide) (by decide) (by decide)) (hz 2 (by decide) (by decide) (by decide) (by decide) (by decide) (by decide) (by decide) (by decide)) (hz 3 (by decide) (by decide) (by decide) (by decide) (by decide) (by decide) (by decide) (by decide)) (hf 3 (by decide) (by decide)), pdF xpd (mm 3 (by decide) (by decide) (by decide) (by decide) (by decide) (by decide) (by decide) (by decide)) (mm 4 (by decide) (by decide) (by decide) (by decide) (by decide) (by decide) (by decide) (by decide)) (hz 2 (by decide) (by decide) (by decide) (by decide) (by decide) (by decide) (by decide) (by decide)) (hz 3 (by decide) (by decide) (by decide) (by decide) (by decide) (by decide) (by decide) (by decide)) (hf 3 (by decide) (by decide)), peF xpe (mm 5 (by decide) (by decide) (by decide) (by decide) (by decide) (by decide) (by decide) (by decide)) (hz 4 (by decide) (by decide) (by decide) (by decide) (by decide) (by decide) (by decide) (by decide)), pfF xpf (mm 7 (by decide) (by decide) (by decide) (by decide) (by decide) (by decide) (by decide) (by decide)) (hz 4 (by decide) (by decide) (by decide) (by decide) (by decide) (by decide) (by decide) (by decide)) (hz 5 (by decide) (by decide) (by decide) (by decide) (by decide) (by decide) (by decide) (by decide)), pgF xpg (mm 8 (by decide) (by decide) (by decide) (by decide) (by decide) (by decide) (by decide) (by decide)) (hz 22 (by decide) (by decide) (by decide) (by decide) (by decide) (by decide) (by decide) (by decide)) (hf 15 (by decide) (by decide)) (hf 1 (by decide) (by decide)), ?_, ?_, ?_, pkF xpk (mm 14 (by decide) (by decide) (by decide) (by decide) (by decide) (by decide) (by decide) (by decide)) (hz 12 (by decide) (by decide) (by decide) (by decide) (by decide) (by decide) (by decide) (by decide)), pxF xpx (mm 17 (by decide) (by decide) (by decide) (by decide) (by decide) (by decide) (by decide) (by decide)) (mm 18 (by decide) (by decide) (by decide) (by decide) (by decide) (by decide) (by decide) (by decide)) (mm 19 (by decide) (by decide) (by decide) (by decide) (by decide) (by decide) (by decide) (by decide)) (mm 20 (by decide) (by decide) (by decide) (by decide) (by decide) (by decide) (by decide) (by decide)) (hz 13 (by decide) (by decide) (by decide) (by decide) (by decide) (by decide) (by decide) (by decide)) (hz 14 (by decide) (by decide) (by decide) (by decide) (by decide) (by decide) (by decide) (by decide)) (hz 15 (by decide) (by decide) (by decide) (by decide) (by decide) (by decide) (by decide) (by decide)) (hz 16 (by decide) (by decide) (by decide) (by decide) (by decide) (by decide) (by decide) (by decide)) (hf 7 (by decide) (by decide)), pmF xpm (mm 21 (by decide) (by decide) (by decide) (by decide) (by decide) (by decide) (by decide) (by decide)) (hf 8 (by decide) (by decide)) (hf 13 (by decide) (by decide)) (hf 9 (by decide) (by decide)) (hf 10 (by decide) (by decide)), pnF xpn (mm 22 (by decide) (by decide) (by decide) (by decide) (by decide) (by decide) (by decide) (by decide)) (mm 23 (by decide) (by decide) (by decide) (by decide) (by decide) (by decide) (by decide) (by decide)) (hz 17 (by decide) (by decide) (by decide) (by decide) (by decide) (by decide) (by decide) (by decide)) (hz 18 (by decide) (by decide) (by decide) (by decide) (by decide) (by decide) (by decide) (by decide)) (hf 9 (by decide) (by decide)), poF xpo (mm 24 (by decide) (by decide) (by decide) (by decide) (by decide) (by decide) (by decide) (by decide)) (hz 19 (by decide) (by decide) (by decide) (by decide) (by decide) (by decide) (by decide) (by decide)) (hf 10 (by decide) (by decide)), pqF xpq (mm 25 (by decide) (by decide) (by decide) (by decide) (by decide) (by decide) (by decide) (by decide)) (hf 11 (by decide) (by decide)), prF xpr (mm 26 (by decide) (by decide) (by decide) (by decide) (by decide) (by decide) (by decide) (by decide)) (mm 27 (by decide) (by decide) (by decide) (by decide) (by decide) (by decide) (by decide) (by decide)) (hz 20 (by decide) (by decide) (by decide) (by decide) (by decide) (by decide) (by decide) (by decide)) (hz 21 (by decide) (by decide) (by decide) (by decide) (by decide) (by decide) (by decide) (by decide)) (hf 11 (by decide) (by decide))⟩
    · unfold phC
      rw [f5, hf 7 (by decide) (by decide), c9, c9, if_pos rfl, if_neg (by decide)]
      exact ⟨rfl, xph.2⟩
    · intro g hg
      rw [f5] at hg
      rw [r6, r7, r11, r8, c10, c11, c13, c16]
      by_cases c : g = T 0 5
      · simp only [if_pos c]
        refine ⟨trivial, trivial, trivial, trivial, fun i hi => ?_⟩
        rw [c, c15b i hi, r9b i hi]
      · simp only [if_neg c]
        obtain ⟨z1, z2, z3, z4, z5⟩ := xpi g (by omega)
        obtain ⟨_, _, y3, _⟩ := p6 g (by omega)
        refine ⟨z1, z2, z3, z4, fun i hi => ?_⟩
        rw [c15a _ (by omega), r9a _ (by omega)]
        exact z5 i hi
    · intro g hg
      rw [r23, c12]
      by_cases c : g = T 0 5
      · rw [if_pos c, if_pos c]
      · rw [if_neg c, if_neg c]; exact xpj g hg
  · rw [f12, f5, hf 2 (by decide) (by decide), hf 4 (by decide) (by decide), hf 8 (by decide) (by decide), hf 11 (by decide) (by decide)]
    omega
/-- the hill with the goat -/
def tGo (T Tk : tH) (kd mo sz pl tr : Nat) : tH := tW (tW (tW (tW (tW (tW (tW (tW Tk 0 12 (T 0 12 + 1)) 6 (T 0 5) kd) 7 (T 0 5) mo) 8 (T 0 5) sz) 10 (T 0 5) pl) 11 (T 0 5) tr) 0 5 (T 0 5 + 1)) 23 (T 0 5) pl
theorem tGo_z (x6 : ∀ r, r ≠ 9 → Tk r = T r) : ∀ r, r ≠ 0 → r ≠ 6 → r ≠ 7 → r ≠ 8 → r ≠ 9 → r ≠ 10 → r ≠ 11 → r ≠ 23 → tGo T Tk kd mo sz pl tr r = T r := fun r h1 h2 h3 h4 h5 h6 h7 h8 => by
  unfold tGo
  rw [tW_r h8, tW_r h1, tW_r h7, tW_r h6, tW_r h4, tW_r h3, tW_r h2, tW_r h1]
  exact x6 r h5
theorem tGo_f (x6 : ∀ r, r ≠ 9 → Tk r = T r) : ∀ j, j ≠ 5 → j ≠ 12 → tGo T Tk kd mo sz pl tr 0 j = T 0 j := fun j h1 h2 => by
  unfold tGo
  rw [tW_r (by decide), tW_i h1, tW_r (by decide), tW_r (by decide), tW_r (by decide), tW_r (by decide), tW_r (by decide), tW_i h2, x6 0 (by decide)]
theorem tGo_5 : tGo T Tk kd mo sz pl tr 0 5 = T 0 5 + 1 := by
  unfold tGo
  rw [tW_r (by decide), tW_e]
theorem tGo_12 : tGo T Tk kd mo sz pl tr 0 12 = T 0 12 + 1 := by
  unfold tGo
  rw [tW_r (by decide), tW_i (by decide), tW_r (by decide), tW_r (by decide), tW_r (by decide), tW_r (by decide), tW_r (by decide), tW_e]
theorem tGo_9 : tGo T Tk kd mo sz pl tr 9 = Tk 9 := by
  unfold tGo
  rw [tW_r (by decide), tW_r (by decide), tW_r (by decide), tW_r (by decide), tW_r (by decide), tW_r (by decide), tW_r (by decide), tW_r (by decide)]
theorem tGo_23 (x6 : ∀ r, r ≠ 9 → Tk r = T r) : ∀ j, tGo T Tk kd mo sz pl tr 23 j = if j = T 0 5 then pl else T 23 j := fun j => by
  unfold tGo
  by_cases c : j = T 0 5
  · rw [if_pos c, c, tW_e]
  · rw [if_neg c, tW_i c, tW_r (by decide), tW_r (by decide), tW_r (by decide), tW_r (by decide), tW_r (by decide), tW_r (by decide), tW_r (by decide), x6 23 (by decide)]
theorem tGo_r6 (x6 : ∀ r, r ≠ 9 → Tk r = T r) : ∀ j, tGo T Tk kd mo sz pl tr 6 j = if j = T 0 5 then kd else T 6 j := fun j => by
        unfold tGo
        rw [tW_r (by decide), tW_r (by decide), tW_r (by decide), tW_r (by decide), tW_r (by decide), tW_r (by decide)]
        by_cases c : j = T 0 5
        · rw [if_pos c, c, tW_e]
        · rw [if_neg c, tW_i c, tW_r (by decide), x6 6 (by decide)]
theorem tGo_r7 (x6 : ∀ r, r ≠ 9 → Tk r = T r) : ∀ j, tGo T Tk kd mo sz pl tr 7 j = if j = T 0 5 then mo else T 7 j := fun j => by
        unfold tGo
        rw [tW_r (by decide), tW_r (by decide), tW_r (by decide), tW_r (by decide), tW_r (by decide)]
        by_cases c : j = T 0 5
        · rw [if_pos c, c, tW_e]
        · rw [if_neg c, tW_i c, tW_r (by decide), tW_r (by decide), x6 7 (by decide)]
theorem tGo_r8 (x6 : ∀ r, r ≠ 9 → Tk r = T r) : ∀ j, tGo T Tk kd mo sz pl tr 8 j = if j = T 0 5 then sz else T 8 j := fun j => by
        unfold tGo
        rw [tW_r (by decide), tW_r (by decide), tW_r (by decide), tW_r (by decide)]
        by_cases c : j = T 0 5
        · rw [if_pos c, c, tW_e]
        · rw [if_neg c, tW_i c, tW_r (by decide), tW_r (by decide), tW_r (by decide), x6 8 (by decide)]
theorem tGo_r10 (x6 : ∀ r, r ≠ 9 → Tk r = T r) : ∀ j, tGo T Tk kd mo sz pl tr 10 j = if j = T 0 5 then pl else T 10 j := fun j => by
        unfold tGo
        rw [tW_r (by decide), tW_r (by decide), tW_r (by decide)]
        by_cases c : j = T 0 5
        · rw [if_pos c, c, tW_e]
        · rw [if_neg c, tW_i c, tW_r (by decide), tW_r (by decide), tW_r (by decide), tW_r (by decide), x6 10 (by decide)]
theorem tGo_r11 (x6 : ∀ r, r ≠ 9 → Tk r = T r) : ∀ j, tGo T Tk kd mo sz pl tr 11 j = if j = T 0 5 then tr else T 11 j := fun j => by
        unfold tGo
        rw [tW_r (by decide), tW_r (by decide)]
        by_cases c : j = T 0 5
        · rw [if_pos c, c, tW_e]
        · rw [if_neg c, tW_i c, tW_r (by decide), tW_r (by decide), tW_r (by decide), tW_r (by decide), tW_r (by decide), x6 11 (by decide)]
theorem tM_23 {M : goMI} {i v : Nat} (h : tM M b T) : tM M b (tW T 23 i v) := fun r hr j hj => by
  rw [tW_r (by omega)]
  exact h r hr j hj
/-- the model at the end of a goat's line -/
noncomputable def mR2 (R : goMR) (x16 : Int64) (x22 x44 x65 x71 : Int32) (M107 : goMI) (L108 : goML) : Option (goMI × goML) :=
  goB2 (fX14_wants 5000 M107 L108 1000154) fun M110 L111 =>
  goB3 (fX14_readKnown 5000 M110 L111 R 0) fun x113 M114 L115 =>
  goB3 (fX14_readPart 5000 M114 L115 1000155 1 9) fun x117 M118 L119 =>
  if (M118 102 9) = 5 then
  some (M118, L119)
  else
  goB2 (fX14_names M118 L119 R x16 2 x65) fun M122 L123 =>
  Option.bind (R 102 4) fun b125 =>
  Option.bind (goWr M122 (b125 + 6) 6 x65 x22) fun M127 =>
  Option.bind (R 102 4) fun b129 =>
  Option.bind (goWr M127 (b129 + 7) 6 x65 x44) fun M131 =>
  Option.bind (R 102 4) fun b133 =>
  Option.bind (goWr M131 (b133 + 8) 6 x65 x71) fun M135 =>
  Option.bind (R 102 4) fun b137 =>
  Option.bind (goWr M135 (b137 + 10) 6 x65 x113) fun M139 =>
  Option.bind (R 102 4) fun b141 =>
  Option.bind (goWr M139 (b141 + 11) 6 x65 x117) fun M143 =>
  Option.bind (R 102 4) fun b145 =>
  goNm (goWI M143 b145 5 ((M143 b145 5) + 1)) fun M147 =>
  some (M147, L123)
noncomputable def mR1 (R : goMR) (x16 : Int64) (x22 x44 : Int32) (M45 : goMI) (L46 : goML) : Option (goMI × goML) :=
  goB2 (fX14_wants 5000 M45 L46 1000153) fun M54 L55 =>
  Option.bind (if (M54 102 9) = 2 then
  some M54
  else
  Option.bind (fX14_flaw M54 1) fun M61 =>
  some M61) fun M57 =>
  Option.bind (R 102 4) fun b63 =>
  Option.bind (if (M57 b63 5) < 6 then
  Option.bind (R 102 4) fun b69 =>
  some (M57 b69 5)
  else
  some 0) fun x65 =>
  goNm (M57 102 13) fun x71 =>
  Option.bind (lX14_readGoat_161 5000 x65 R 5000 0 M57) fun M106 =>
  goB2 (fX14_goesOn 5000 M106 L55) fun M107 L108 =>
  mR2 R x16 x22 x44 x65 x71 M107 L108
theorem mGoat {N : Nat} (hN : N = 5000) : fX14_readGoat N Mm Lm Rm = Option.bind (Rm 102 4) fun b11 => goB2 (fX14_begins 5000 Mm Lm Rm (Mm b11 5) 6) fun M13 L14 => goB3 (fX14_readFresh 5000 M13 L14 Rm) fun x16 M17 L18 => mKd Rm M17 L18 (mR1 Rm x16) := by
  rw [hN]
  rfl
noncomputable def cR2 (R : goMR) (x11 : Int32) (M30 : goMI) (L31 : goML) : Option (Int32 × goMI × goML) :=
  goB3 (fX9_word 5000 M30 L31 1000103) fun x34 M35 L36 =>
  if x34 = 0 then
  some (0, M35, L36)
  else
  goB2 (fX9_named 5000 M35 L36 0) fun x39 M40 =>
  Option.bind (goWr M40 ((goRr R 67 7) + 12) 6 x11 x39) fun M42 =>
  Option.bind (goRd M42 ((goRr R 67 7) + 12) 6 x11) fun x44 =>
  if x44 < 0 then
  some (0, M42, L36)
  else
  goB2 (fX11_advance 5000 M42 L36) fun M47 L48 =>
  goB3 (fX9_word 5000 M47 L48 1000104) fun x50 M51 L52 =>
  if x50 = 0 then
  some (0, M51, L52)
  else
  goB2 (fX9_wholeIn M51 1 9) fun x55 M56 =>
  if x55 = 0 then
  some (0, M56, L52)
  else
  Option.bind (goWr M56 ((goRr R 67 7) + 13) 6 x11 (M56 1 8)) fun M59 =>
  goB2 (fX11_advance 5000 M59 L52) fun M61 L62 =>
  goNm (goWI M61 ((goRr R 67 7) + 9) 0 ((M61 ((goRr R 67 7) + 9) 0) + 1)) fun M64 =>
  goB3 (fX9_tell M64 L62 2 x11) fun x66 M67 L68 =>
  Option.bind (goZr x66) fun x70 =>
  some (x70, M67, L68)
theorem cGoat {N : Nat} (hN : N = 5000) : fX9_goatLine N Mc Lc Rc = goNm (Mc ((goRr Rc 67 7) + 9) 0) fun x11 => if x11 < 6 then goB3 (fX9_freshName 5000 Mc Lc) fun x14 M15 L16 => if x14 = 0 then some (0, M15, L16) else goB3 (fX9_kindOf 5000 M15 L16 Rc x11) fun x19 M20 L21 => if x19 = 0 then some (0, M20, L21) else goB3 (fX9_word 5000 M20 L21 1000102) fun x24 M25 L26 => if x24 = 0 then some (0, M25, L26) else goB3 (fX9_orderOf 5000 M25 L26 Rc x11) fun x29 M30 L31 => if x29 = 0 then some (0, M30, L31) else cR2 Rc x11 M30 L31 else some (0, Mc, Lc) := by
  rw [hN]
  rfl
theorem ov_R2 {nn : Nat} {x16 : Int64} {x22 x44 x65 x71 : Int32} (hRm : Rm 102 4 = some b) (hN : mNm b nn Mm) (h : Mm 102 9 = 5) : mR2 Rm x16 x22 x44 x65 x71 Mm Lm = some (Mm, Lm) := by
  unfold mR2
  rw [ov_wants h, gB2, ov_rk hRm hN h, gB3, ov_part h, gB3, if_pos h]
theorem ov_R1 {nn : Nat} {x16 : Int64} {x22 x44 : Int32} (hRm : Rm 102 4 = some b) (hN : mNm b nn Mm) (h : Mm 102 9 = 5) : mR1 Rm x16 x22 x44 Mm Lm = some (Mm, Lm) := by
  have e161 : ∀ x : Int32, lX14_readGoat_161 5000 x Rm 5000 0 Mm = some Mm := fun x => by
    show lX14_readGoat_161 5000 x Rm (4999 + 1) 0 Mm = _
    rw [lX14_readGoat_161, if_pos h]
  unfold mR1
  rw [ov_wants h, gB2, if_neg (ov_n (by decide) h), ov_fl h, gBd, gBd, hRm, gBd]
  by_cases c : Mm b 5 < 6
  · rw [if_pos c, gBd, gBd, gNm, e161, gBd, ov_on h, gB2, ov_R2 hRm hN h]
  · rw [if_neg c, gBd, gNm, e161, gBd, ov_on h, gB2, ov_R2 hRm hN h]
end lines26
