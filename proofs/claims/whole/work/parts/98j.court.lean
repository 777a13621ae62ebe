/-! LINES: court (printed by gen98j.py) -/
section lines5
variable {e st s b : Nat} {Mc Mm Mm0 Mc' Mm' : goMI} {Lc Lm Lm0 Lc' Lm' : goML} {Rc Rm : goMR} {T T' : tH}
theorem wc_costs : fX11_codeOf 5000 1000110 = some 3657363 ∧ fX14_wordOf 5000 1000156 = some 3657363 := by decide +kernel
theorem wc_wins : fX11_codeOf 5000 1000111 = some 763347 ∧ fX14_wordOf 5000 1000157 = some 763347 := by decide +kernel
theorem pO_court {v v' : Nat} (h : pO T) (h0 : T 0 0 ≠ 0) (h6 : T 0 11 < 6) (h1 : v ≤ 99) (h2 : 1 ≤ v') (h3 : v' ≤ 9) : pO (tW (tW (tW (tW T 0 12 (T 0 12 + 1)) 20 (T 0 11) v) 21 (T 0 11) v') 0 11 (T 0 11 + 1)) := by
  obtain ⟨⟨a0, a1, a2, a3, a4, a5, a6, a7, a8, a9, a10, a11, a13, a15⟩, p14, p1, p2, p4, p5, p6, p12, p13, p17, p19, p20, p22, q0, q1, q2⟩ := h
  have hz : ∀ r, r ≠ 0 → r ≠ 20 → r ≠ 21 → (tW (tW (tW (tW T 0 12 (T 0 12 + 1)) 20 (T 0 11) v) 21 (T 0 11) v') 0 11 (T 0 11 + 1)) r = T r := fun r h1 h2 h3 => by rw [tW_r h1, tW_r h3, tW_r h2, tW_r h1]
  have hf : ∀ j, j ≠ 11 → j ≠ 12 → (tW (tW (tW (tW T 0 12 (T 0 12 + 1)) 20 (T 0 11) v) 21 (T 0 11) v') 0 11 (T 0 11 + 1)) 0 j = T 0 j := fun j h1 h2 => by rw [tW_i h1, tW_r (by decide), tW_r (by decide), tW_i h2]
  have f11 : (tW (tW (tW (tW T 0 12 (T 0 12 + 1)) 20 (T 0 11) v) 21 (T 0 11) v') 0 11 (T 0 11 + 1)) 0 11 = T 0 11 + 1 := tW_e
  have r20 : ∀ i, (tW (tW (tW (tW T 0 12 (T 0 12 + 1)) 20 (T 0 11) v) 21 (T 0 11) v') 0 11 (T 0 11 + 1)) 20 i = if i = T 0 11 then v else T 20 i := fun i => by
    rw [tW_r (by decide), tW_r (by decide)]
    by_cases c : i = T 0 11
    · rw [if_pos c, c, tW_e]
    · rw [if_neg c, tW_i c, tW_r (by decide)]
  have r21 : ∀ i, (tW (tW (tW (tW T 0 12 (T 0 12 + 1)) 20 (T 0 11) v) 21 (T 0 11) v') 0 11 (T 0 11 + 1)) 21 i = if i = T 0 11 then v' else T 21 i := fun i => by
    rw [tW_r (by decide)]
    by_cases c : i = T 0 11
    · rw [if_pos c, c, tW_e]
    · rw [if_neg c, tW_i c, tW_r (by decide), tW_r (by decide)]
  unfold pO tJ
  unfold tJ at p2
  rw [f11, hf 0 (by decide) (by decide), hf 1 (by decide) (by decide), hf 2 (by decide) (by decide), hf 3 (by decide) (by decide), hf 4 (by decide) (by decide), hf 5 (by decide) (by decide), hf 6 (by decide) (by decide), hf 7 (by decide) (by decide), hf 8 (by decide) (by decide), hf 9 (by decide) (by decide), hf 10 (by decide) (by decide), hf 13 (by decide) (by decide), hf 14 (by decide) (by decide), hf 15 (by decide) (by decide), hz 1 (by decide) (by decide) (by decide), hz 2 (by decide) (by decide) (by decide), hz 3 (by decide) (by decide) (by decide), hz 4 (by decide) (by decide) (by decide), hz 5 (by decide) (by decide) (by decide), hz 6 (by decide) (by decide) (by decide), hz 7 (by decide) (by decide) (by decide), hz 8 (by decide) (by decide) (by decide), hz 9 (by decide) (by decide) (by decide), hz 10 (by decide) (by decide) (by decide), hz 11 (by decide) (by decide) (by decide), hz 12 (by decide) (by decide) (by decide), hz 13 (by decide) (by decide) (by decide), hz 14 (by decide) (by decide) (by decide), hz 15 (by decide) (by decide) (by decide), hz 16 (by decide) (by decide) (by decide), hz 17 (by decide) (by decide) (by decide), hz 18 (by decide) (by decide) (by decide), hz 19 (by decide) (by decide) (by decide), hz 22 (by decide) (by decide) (by decide), hz 23 (by decide) (by decide) (by decide)]
  refine ⟨⟨a0, a1, a2, a3, a4, a5, a6, a7, a8, a9, a10, by omega, a13, a15⟩, p14, p1, p2, p4, p5, p6, p12, p13, p17, p19, fun i hi => ?_, p22, q0, fun h => absurd h h0, q2⟩
  rw [r20, r21]
  by_cases c : i = T 0 11
  · rw [if_pos c, if_pos c]; exact ⟨h1, h2, h3⟩
  · rw [if_neg c, if_neg c]; exact p20 i (by omega)
theorem rCourt (hs : s = 7 ∨ s = 37) (hb : 121 ≤ b) (hRc : goRr Rc 67 7 = s) (hRm : Rm 102 4 = some b) (hL : ∀ i, i < 18 → Lc 73 i = kw i) (h0 : T 0 0 ≠ 0) (h6 : T 0 11 < 6) (hbeg : fX14_begins 5000 Mm0 Lm0 Rm (Mm0 b 11) 6 = some (Mm, Lm)) (h : rT e st Mc Lc Mm Lm) (hD : rD s b Mc Lc Mm Lm T) :
    rOut e s b st Mc Lc Mm Lm (fX9_courtLine 5000 Mc Lc Rc) (fX14_readCourt 5000 Mm0 Lm0 Rm) (fun T' => ∀ j, j ≠ 12 → T' 0 j = if j = 11 then T 0 11 + 1 else T 0 j) := by
  obtain ⟨d1, d2, d3, d4, d5⟩ := id hD
  obtain ⟨⟨a0, a1, a2, a3, a4, a5, a6, a7, a8, a9, a10, a11, a13, a15⟩, _⟩ := id d3
  have k25 : Mc (s + 25) 0 = nI (T 0 11) := d2.2.2.2.2.2.2.2.2.2.2.2.2.2.2.2.1
  have body : fX14_readCourt 5000 Mm0 Lm0 Rm = (goB3 (fX14_readFresh 5000 Mm Lm Rm) fun x16 M17 L18 => goB3 (fX14_readPart 5000 M17 L18 1000156 0 99) fun x20 M21 L22 => goB3 (fX14_readPart 5000 M21 L22 1000157 1 9) fun x24 M25 L26 => if (M25 102 9) = 5 then some (M25, L26) else goB2 (fX14_names M25 L26 Rm x16 4 (M25 b 11)) fun M31 L32 => Option.bind (goWr M31 (b + 20) 6 (M31 b 11) x20) fun M38 => Option.bind (goWr M38 (b + 21) 6 (M38 b 11) x24) fun M44 => some (goWI M44 b 11 ((M44 b 11) + 1), L32)) := by
    unfold fX14_readCourt
    simp only [hRm, gBd, gNm]
    rw [hbeg, gB2]
  rw [body]
  unfold fX9_courtLine fX14_readPart
  rw [hRc, k25, if_pos (show nI (T 0 11) < 6 from nI_lt (b := 6) h6 (by decide))]
  rcases rFresh hRm hb hL h d4 with ⟨w, c0, m0, q0, q01, q02, q03, q04⟩ | ⟨f, w, hf, c0, m0⟩
  · obtain ⟨st0, Mc0, Lc0, Mm1, Lm1, i0, n0, n0', t0, f0⟩ := rNext (Mc2 := Mc) (Lc2 := goWL Lc 67 9 w) (Mm2 := Mm) (Lm2 := Lm) h q01 q02 q03 q04 rfl rfl rfl rfl
    rw [c0, m0, n0, n0', gB2, gB2, gB3, gB3, if_neg (by decide)]
    have g0 : gFr s b Mc Lc Mm Lm Mc0 Lc0 Mm1 Lm1 := gFr_trans ⟨fun _ _ _ _ _ => rfl, fun _ _ => rfl, fun a _ h2 _ => gWL_ne (x := w) (k := 9) h2, fun _ _ _ _ => rfl, fun _ _ => rfl, fun _ _ _ => rfl⟩ (gFr_tok f0)
    rcases rWord t0 wc_costs.1 wc_costs.2 with ⟨st1, Mc1, Lc1, Mm1', Lm1', i1, c1, m1, t1, f1⟩ | ⟨c1, m1⟩
    · rw [c1, m1, gB3, if_neg (by decide), gB2]
      have g1 := gFr_trans g0 (gFr_tok (s := s) (b := b) f1)
      rcases rWholeI (lo := 0) (hi := 99) (by decide) (by decide) t1 with ⟨v, v1, v2, c2, v3, m2, q, q1, q2, q3, q4⟩ | ⟨f, hf, c2, m2⟩
      · have c2' : fX9_wholeIn Mc1 0 99 = some (1, Mc1) := c2
        have m2' : fX14_readWhole 5000 Mm1' Lm1' 0 99 = (goB2 (fX14_goesOn 5000 Mm1' Lm1') fun M L => some (nI v, M, L)) := m2
        have e25 : Mc1 (s + 25) 0 = nI (T 0 11) := by rw [f1.1 _ (by omega), f0.1 _ (by omega)]; exact k25
        obtain ⟨st2, Mc2, Lc2, Mm2, Lm2, i2, n2, n3, t2, f2⟩ := rNext (Mc2 := goWI Mc1 (s + 26) (T 0 11) (nI v)) (Lc2 := Lc1) (Mm2 := Mm1') (Lm2 := Lm1') t1 q1 q2 q3 q4 (goWI_ne (by omega)) (goWI_ne (by omega)) rfl rfl
        rw [c2', m2', gB2, if_neg (by decide), v3, e25, gWr h6, gBd, n2, n3, gB2, gB2, gB3, gB3]
        have g2 : gFr s b Mc Lc Mm Lm Mc2 Lc2 Mm2 Lm2 := gFr_trans g1 (gFr_trans ⟨fun a h1 h2 h3 h4 => goWI_ne (x := nI v) (k := T 0 11) (a := s + 26) (by omega), fun j _ => gWI_na (by omega), fun _ _ _ _ => rfl, fun _ _ _ _ => rfl, fun _ _ => rfl, fun _ _ _ => rfl⟩ (gFr_tok f2))
        rcases rWord t2 wc_wins.1 wc_wins.2 with ⟨st3, Mc3, Lc3, Mm3, Lm3, i3, c4, m4, t3, f3⟩ | ⟨c4, m4⟩
        · rw [c4, m4, gB3, if_neg (by decide), gB2]
          have g3 := gFr_trans g2 (gFr_tok (s := s) (b := b) f3)
          rcases rWholeI (lo := 1) (hi := 9) (by decide) (by decide) t3 with ⟨v', v1', v2', c5, v3', m5, q', q1', q2', q3', q4'⟩ | ⟨f, hf, c5, m5⟩
          · have c5' : fX9_wholeIn Mc3 1 9 = some (1, Mc3) := c5
            have m5' : fX14_readWhole 5000 Mm3 Lm3 1 9 = (goB2 (fX14_goesOn 5000 Mm3 Lm3) fun M L => some (nI v', M, L)) := m5
            have e25' : Mc3 (s + 25) 0 = nI (T 0 11) := by rw [f3.1 _ (by omega), f2.1 _ (by omega), gWI_na (by omega)]; exact e25
            obtain ⟨st4, Mc4, Lc4, Mm4, Lm4, i4, n4, n5, t4, f4⟩ := rNext (Mc2 := goWI Mc3 (s + 27) (T 0 11) (nI v')) (Lc2 := Lc3) (Mm2 := Mm3) (Lm2 := Lm3) t3 q1' q2' q3' q4' (goWI_ne (by omega)) (goWI_ne (by omega)) rfl rfl
            have e25'' : Mc4 (s + 25) 0 = nI (T 0 11) := by rw [f4.1 _ (by omega), gWI_na (by omega)]; exact e25'
            have cA : ∀ a, a ≠ s + 26 → a ≠ s + 27 → a ≠ 1 → Mc4 a = Mc a := fun a h1 h2 h3 => by rw [f4.1 a h3, goWI_ne h2, f3.1 a h3, f2.1 a h3, goWI_ne h1, f1.1 a h3, f0.1 a h3]
            have c26 : ∀ i, Mc4 (s + 26) i = if i = T 0 11 then nI v else Mc (s + 26) i := fun i => by rw [f4.1 _ (by omega), gWI_na (by omega), f3.1 _ (by omega), f2.1 _ (by omega), gWI_self, f1.1 _ (by omega), f0.1 _ (by omega)]
            have c27 : ∀ i, Mc4 (s + 27) i = if i = T 0 11 then nI v' else Mc (s + 27) i := fun i => by rw [f4.1 _ (by omega), gWI_self, f3.1 _ (by omega), f2.1 _ (by omega), gWI_na (by omega), f1.1 _ (by omega), f0.1 _ (by omega)]
            have mA : ∀ a, a ≠ 102 → a ≠ 104 → Mm4 a = Mm a := fun a h1 h2 => by rw [f4.2.2.1 a h1 h2, f3.2.2.1 a h1 h2, f2.2.2.1 a h1 h2, f1.2.2.1 a h1 h2, f0.2.2.1 a h1 h2]
            have lA : ∀ a, a ≠ 1 → Lc4 a = goWL Lc 67 9 w a := fun a h1 => by rw [f4.2.1 a h1, f3.2.1 a h1, f2.2.1 a h1, f1.2.1 a h1, f0.2.1 a h1]
            have lM : ∀ a, a ≠ 102 → Lm4 a = Lm a := fun a h1 => by rw [f4.2.2.2.2.1 a h1, f3.2.2.2.2.1 a h1, f2.2.2.2.2.1 a h1, f1.2.2.2.2.1 a h1, f0.2.2.2.2.1 a h1]
            have hz : ∀ r, r ≠ 0 → r ≠ 20 → r ≠ 21 → (tW (tW (tW (tW T 0 12 (T 0 12 + 1)) 20 (T 0 11) v) 21 (T 0 11) v') 0 11 (T 0 11 + 1)) r = T r := fun r h1 h2 h3 => by rw [tW_r h1, tW_r h3, tW_r h2, tW_r h1]
            have hT' : ∀ j, j ≠ 12 → (tW (tW (tW (tW T 0 12 (T 0 12 + 1)) 20 (T 0 11) v) 21 (T 0 11) v') 0 11 (T 0 11 + 1)) 0 j = if j = 11 then T 0 11 + 1 else T 0 j := by
              intro j hj
              by_cases c : j = 11
              · rw [if_pos c, c, tW_e]
              · rw [if_neg c, tW_i c, tW_r (by decide), tW_r (by decide), tW_i hj]
            have hf : ∀ j, j ≠ 11 → j ≠ 12 → (tW (tW (tW (tW T 0 12 (T 0 12 + 1)) 20 (T 0 11) v) 21 (T 0 11) v') 0 11 (T 0 11 + 1)) 0 j = T 0 j := fun j h1 h2 => by rw [hT' j h2, if_neg h1]
            have f12 : (tW (tW (tW (tW T 0 12 (T 0 12 + 1)) 20 (T 0 11) v) 21 (T 0 11) v') 0 11 (T 0 11 + 1)) 0 12 = T 0 12 + 1 := by rw [tW_i (by decide), tW_r (by decide), tW_r (by decide), tW_e]
            have r20 : ∀ i, (tW (tW (tW (tW T 0 12 (T 0 12 + 1)) 20 (T 0 11) v) 21 (T 0 11) v') 0 11 (T 0 11 + 1)) 20 i = if i = T 0 11 then v else T 20 i := fun i => by
              rw [tW_r (by decide), tW_r (by decide)]
              by_cases c : i = T 0 11
              · rw [if_pos c, c, tW_e]
              · rw [if_neg c, tW_i c, tW_r (by decide)]
            have r21 : ∀ i, (tW (tW (tW (tW T 0 12 (T 0 12 + 1)) 20 (T 0 11) v) 21 (T 0 11) v') 0 11 (T 0 11 + 1)) 21 i = if i = T 0 11 then v' else T 21 i := fun i => by
              rw [tW_r (by decide)]
              by_cases c : i = T 0 11
              · rw [if_pos c, c, tW_e]
              · rw [if_neg c, tW_i c, tW_r (by decide), tW_r (by decide)]
            have hle : ∀ x, pN T x ≤ pN (tW (tW (tW (tW T 0 12 (T 0 12 + 1)) 20 (T 0 11) v) 21 (T 0 11) v') 0 11 (T 0 11 + 1)) x := by
              intro x
              unfold pN
              rw [hT' 2 (by decide), hT' 4 (by decide), hT' 5 (by decide), hT' 8 (by decide), hT' 11 (by decide)]
              repeat' split
              all_goals first | omega | exact Nat.le_refl _
            obtain ⟨Mc6, Lc6, Mm6, Lm6, y1, y2, y3, y4, y5, y6, y7, y8, y9, y10⟩ := rTell (Mc := goWI Mc4 (s + 25) 0 (nI (T 0 11 + 1))) (Lc := Lc4) (Mm := Mm4) (Lm := Lm4) (R := Rm) (cnt := pN T) (cnt' := pN (tW (tW (tW (tW T 0 12 (T 0 12 + 1)) 20 (T 0 11) v) 21 (T 0 11) v') 0 11 (T 0 11 + 1))) (nn := T 0 12) (k := 4) (m := T 0 11) (w := w) hRm hb (rNm_fr d4 (by rw [gWI_na (by omega), cA 67 (by omega) (by omega) (by decide)]) (by rw [goWI_ne (by omega), cA 69 (by omega) (by omega) (by decide)]) (by rw [goWI_ne (by omega), cA 70 (by omega) (by omega) (by decide)]) (by rw [lA 68 (by decide), gWL_ne (by decide)]) (by rw [mA b (by omega) (by omega)]) (mA _ (by omega) (by omega)) (mA _ (by omega) (by omega)) (lM _ (by omega))) (by omega) (by decide) (by unfold pN; rw [if_neg (by decide), if_neg (by decide), if_neg (by decide), if_neg (by decide), hT' 11 (by decide), if_pos rfl]; omega) hle (by rw [lA 67 (by decide), gWL_eq])
            have y1' : fX9_tell (goWI Mc4 (s + 25) 0 (nI (T 0 11 + 1))) Lc4 4 (nI (T 0 11)) = some (1, Mc6, Lc6) := y1
            have y2' : fX14_names Mm4 Lm4 Rm w 4 (nI (T 0 11)) = some (Mm6, Lm6) := y2
            have mb : Mm4 b 11 = nI (T 0 11) := by rw [mA b (by omega) (by omega)]; exact tM_0 d1 (by decide)
            have mb6 : Mm6 b 11 = nI (T 0 11) := by rw [y8 11 (by decide)]; exact mb
            rw [c5', m5', gB2, if_neg (by decide), v3', e25', gWr h6, gBd, n4, n5, gB2, gB2, gB3, gB3, if_neg (rT_9 t4), mb, y2', gB2, mb6, gWr h6, gBd, gWI_na (a := b + 20) (b := b) (by omega), mb6, gWr h6, gBd, gWI_na (a := b + 21) (b := b) (by omega), gWI_na (a := b + 20) (b := b) (by omega), mb6, nI_1, e25'', nI_1, gNm, show goWI Mc4 (s + 25) 0 (nI (T 0 11 + 1)) (s + 25) 0 = nI (T 0 11 + 1) from by rw [gWI_self, if_pos rfl], show nI (T 0 11 + 1) - 1 = nI (T 0 11) from pk_sub (b := 1) (by omega), y1', gB3]
            have cB6 : ∀ a, a ≠ s + 25 → a ≠ s + 26 → a ≠ s + 27 → a ≠ 67 → a ≠ 69 → a ≠ 70 → a ≠ 1 → Mc6 a = Mc a := fun a h1 h2 h3 h4 h5 h6 h7 => by rw [y4 a h4 h5 h6, goWI_ne h1, cA a h2 h3 h7]
            have c61 : ∀ a, a = 1 ∨ a = 2 → Mc6 a = Mc4 a := fun a ha => by rw [y4 a (by omega) (by omega) (by omega), goWI_ne (by omega)]
            have m6o : ∀ a, (a < b ∨ b + 25 < a) → goWI (goWI (goWI Mm6 (b + 20) (T 0 11) (nI v)) (b + 21) (T 0 11) (nI v')) b 11 (nI (T 0 11 + 1)) a = Mm4 a := fun a ha => by rw [goWI_ne (by omega), goWI_ne (by omega), goWI_ne (by omega), y7 a (by omega) (by omega) (by omega)]
            refine Or.inl ⟨st4, Mc6, Lc6, _, Lm6, tW (tW (tW (tW T 0 12 (T 0 12 + 1)) 20 (T 0 11) v) 21 (T 0 11) v') 0 11 (T 0 11 + 1), by omega, rfl, rfl, rT_fr t4 (c61 1 (Or.inl rfl)) (c61 2 (Or.inr rfl)) (m6o _ (by omega)) (m6o _ (by omega)) (m6o _ (by omega)) (y6 1 (by decide)) (y9 102 (by omega)), ⟨tM_w0 (tM_wr (tM_wr (tM_nm (tM_fr d1 (fun r hr => mA _ (by omega) (by omega))) y7 y8 y10))), ?_, pO_court d3 h0 h6 v2 v1' v2', ?_, ?_⟩, ?_, ?_, hT'⟩
            · obtain ⟨xpa, xpb, xpc, xpd, xpe, xpf, xpg, xph, xpi, xpj, xpk, xpx, xpm, xpn, xpo, xpq, xpr⟩ := d2
              have mm : ∀ r, r ≤ 27 → r ≠ 25 → r ≠ 26 → r ≠ 27 → Mc6 (s + r) = Mc (s + r) := fun r h1 h2 h3 h4 => cB6 _ (by omega) (by omega) (by omega) (by omega) (by omega) (by omega) (by omega)
              refine ⟨paF xpa (mm 0 (by decide) (by decide) (by decide) (by decide)) (hf 0 (by decide) (by decide)) (hf 1 (by decide) (by decide)) (hf 2 (by decide) (by decide)) (hf 3 (by decide) (by decide)) (hf 4 (by decide) (by decide)) (hf 15 (by decide) (by decide)), pbF xpb (mm 1 (by decide) (by decide) (by decide) (by decide)) (hz 1 (by decide) (by decide) (by decide)), pcF xpc (mm 2 (by decide) (by decide) (by decide) (by decide)) (hz 2 (by decide) (by decide) (by decide)) (hz 3 (by decide) (by decide) (by decide)) (hf 3 (by decide) (by decide)), pdF xpd (mm 3 (by decide) (by decide) (by decide) (by decide)) (mm 4 (by decide) (by decide) (by decide) (by decide)) (hz 2 (by decide) (by decide) (by decide)) (hz 3 (by decide) (by decide) (by decide)) (hf 3 (by decide) (by decide)), peF xpe (mm 5 (by decide) (by decide) (by decide) (by decide)) (hz 4 (by decide) (by decide) (by decide)), pfF xpf (mm 7 (by decide) (by decide) (by decide) (by decide)) (hz 4 (by decide) (by decide) (by decide)) (hz 5 (by decide) (by decide) (by decide)), pgF xpg (mm 8 (by decide) (by decide) (by decide) (by decide)) (hz 22 (by decide) (by decide) (by decide)) (hf 15 (by decide) (by decide)) (hf 1 (by decide) (by decide)), phF xph (mm 9 (by decide) (by decide) (by decide) (by decide)) (hf 5 (by decide) (by decide)) (hf 7 (by decide) (by decide)), piF xpi (mm 10 (by decide) (by decide) (by decide) (by decide)) (mm 11 (by decide) (by decide) (by decide) (by decide)) (mm 13 (by decide) (by decide) (by decide) (by decide)) (mm 16 (by decide) (by decide) (by decide) (by decide)) (mm 15 (by decide) (by decide) (by decide) (by decide)) (hz 6 (by decide) (by decide) (by decide)) (hz 7 (by decide) (by decide) (by decide)) (hz 11 (by decide) (by decide) (by decide)) (hz 8 (by decide) (by decide) (by decide)) (hz 9 (by decide) (by decide) (by decide)) (hf 5 (by decide) (by decide)), pjF xpj (mm 12 (by decide) (by decide) (by decide) (by decide)) (hz 23 (by decide) (by decide) (by decide)), pkF xpk (mm 14 (by decide) (by decide) (by decide) (by decide)) (hz 12 (by decide) (by decide) (by decide)), pxF xpx (mm 17 (by decide) (by decide) (by decide) (by decide)) (mm 18 (by decide) (by decide) (by decide) (by decide)) (mm 19 (by decide) (by decide) (by decide) (by decide)) (mm 20 (by decide) (by decide) (by decide) (by decide)) (hz 13 (by decide) (by decide) (by decide)) (hz 14 (by decide) (by decide) (by decide)) (hz 15 (by decide) (by decide) (by decide)) (hz 16 (by decide) (by decide) (by decide)) (hf 7 (by decide) (by decide)), pmF xpm (mm 21 (by decide) (by decide) (by decide) (by decide)) (hf 8 (by decide) (by decide)) (hf 13 (by decide) (by decide)) (hf 9 (by decide) (by decide)) (hf 10 (by decide) (by decide)), pnF xpn (mm 22 (by decide) (by decide) (by decide) (by decide)) (mm 23 (by decide) (by decide) (by decide) (by decide)) (hz 17 (by decide) (by decide) (by decide)) (hz 18 (by decide) (by decide) (by decide)) (hf 9 (by decide) (by decide)), poF xpo (mm 24 (by decide) (by decide) (by decide) (by decide)) (hz 19 (by decide) (by decide) (by decide)) (hf 10 (by decide) (by decide)), ?_, ?_⟩
              · unfold pqC
                rw [hT' 11 (by decide), if_pos rfl, y4 _ (by omega) (by omega) (by omega), gWI_self, if_pos rfl]
              · intro i hi
                rw [hT' 11 (by decide), if_pos rfl] at hi
                rw [r20, r21, y4 _ (by omega) (by omega) (by omega), y4 _ (by omega) (by omega) (by omega), gWI_na (by omega), gWI_na (by omega), c26, c27]
                by_cases c : i = T 0 11
                · rw [if_pos c, if_pos c, if_pos c, if_pos c]; exact ⟨rfl, rfl⟩
                · rw [if_neg c, if_neg c, if_neg c, if_neg c]; exact xpr i (by omega)
            · rw [f12]
              exact rNm_fr y3 rfl rfl rfl rfl (by rw [gWI_nk (by decide), gWI_na (by omega), gWI_na (by omega)]) (by rw [goWI_ne (by omega), goWI_ne (by omega), goWI_ne (by omega)]) (by rw [goWI_ne (by omega), goWI_ne (by omega), goWI_ne (by omega)]) rfl
            · rw [f12, hT' 2 (by decide), hT' 4 (by decide), hT' 5 (by decide), hT' 8 (by decide), hT' 11 (by decide), if_neg (by decide), if_neg (by decide), if_neg (by decide), if_neg (by decide), if_pos rfl]
              omega
            · exact ⟨cB6 71 (by omega) (by omega) (by omega) (by decide) (by decide) (by decide) (by decide), by rw [y5 10 (by decide), gWI_na (by omega), cA 67 (by omega) (by omega) (by decide)], by rw [m6o 102 (by omega), f4.2.2.2.1 14 (by decide), f3.2.2.2.1 14 (by decide), f2.2.2.2.1 14 (by decide), f1.2.2.2.1 14 (by decide), f0.2.2.2.1 14 (by decide)]⟩
            · refine gFr_trans g3 (gFr_trans (gFr_trans ⟨fun a h1 h2 h3 h4 => goWI_ne (x := nI v') (k := T 0 11) (a := s + 27) (by omega), fun j _ => gWI_na (by omega), fun _ _ _ _ => rfl, fun _ _ _ _ => rfl, fun _ _ => rfl, fun _ _ _ => rfl⟩ (gFr_tok f4)) ⟨fun a h1 h2 h3 h4 => by rw [y4 a (by omega) (by omega) (by omega), goWI_ne (by omega)], fun j hj => by rw [c61 1 (Or.inl rfl)], fun a h1 h2 h3 => y6 a h3, fun a h1 h2 h3 => m6o a h3, fun j hj => by rw [m6o 102 (by omega)], fun a h1 h2 => y9 a h2⟩)
          · have c5' : fX9_wholeIn Mc3 1 9 = some (0, cF Mc3 f st3) := c5
            have m5' : fX14_readWhole 5000 Mm3 Lm3 1 9 = some (1, mF Mm3 f st3, Lm3) := m5
            rw [c5', m5', gB2, if_pos rfl, gB3, gB3, if_pos mF_9]
            exact rOut_f (f := f) (by rcases hf with e | e <;> rw [e] <;> decide) rfl rfl g3
        · rw [c4, m4, gB3, if_pos rfl, gB2, ov_whole mF_9, gB3, gB3, if_pos mF_9]
          exact rOut_f (f := 1) (by decide) rfl rfl g2
      · have c2' : fX9_wholeIn Mc1 0 99 = some (0, cF Mc1 f st1) := c2
        have m2' : fX14_readWhole 5000 Mm1' Lm1' 0 99 = some (0, mF Mm1' f st1, Lm1') := m2
        rw [c2', m2', gB2, if_pos rfl, gB3, gB3, ov_wants mF_9, gB2, ov_whole mF_9, gB3, gB3, if_pos mF_9]
        exact rOut_f (f := f) (by rcases hf with e | e <;> rw [e] <;> decide) rfl rfl g1
    · rw [c1, m1, gB3, if_pos rfl, gB2, ov_whole mF_9, gB3, gB3, ov_wants mF_9, gB2, ov_whole mF_9, gB3, gB3, if_pos mF_9]
      exact rOut_f (f := 1) (by decide) rfl rfl g0
  · rw [c0, m0, gB3, gB3, if_pos rfl, ov_wants mF_9, gB2, ov_whole mF_9, gB3, gB3, ov_wants mF_9, gB2, ov_whole mF_9, gB3, gB3, if_pos mF_9]
    exact rOut_f (f := f) (by rcases hf with e | e <;> rw [e] <;> decide) rfl rfl gFr_refl
end lines5
