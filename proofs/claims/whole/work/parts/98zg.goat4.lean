/-! LINES: goat -/
section lines27
variable {e s b : Nat} {Rc Rm : goMR}
theorem rR2 {st stA kd mo sz : Nat} {w : Nat → Nat} {nm : Int64} {Mc Mm MA MmA : goMI} {Lc Lm LA LmA : goML} {T Tk : tH} (hs : s = 7 ∨ s = 37) (hb : 121 ≤ b) (hRc : goRr Rc 67 7 = s) (hRm : Rm 102 4 = some b) (hL : ∀ i, i < 18 → Lc 73 i = kw i) (h0 : T 0 0 ≠ 0) (h6 : T 0 5 < 6) (hD : rD s b Mc Lc Mm Lm T) (hkd : kd ≤ 3) (hmo : mo < T 0 5 ∨ mo = 4294967294) (hsz : sz ≤ T 0 1) (hw : ∀ i, i < sz → w i < T 0 1)
    (hst : st ≤ stA) (t : rT e stA MA LA MmA LmA)
    (hA1 : ∀ a, a ≠ 1 → a ≠ s + 10 → a ≠ s + 11 → a ≠ s + 15 → a ≠ s + 16 → MA a = Mc a) (hA10 : ∀ j, MA (s + 10) j = if j = T 0 5 then nI kd else Mc (s + 10) j) (hA11 : ∀ j, MA (s + 11) j = if j = T 0 5 then nI mo else Mc (s + 11) j) (hA16 : ∀ j, MA (s + 16) j = if j = T 0 5 then nI sz else Mc (s + 16) j) (hA15a : ∀ j, j < 4 * T 0 5 ∨ 4 * T 0 5 + 4 ≤ j → MA (s + 15) j = Mc (s + 15) j) (hA15b : ∀ i, i < sz → MA (s + 15) (4 * T 0 5 + i) = nI (w i))
    (hAL : ∀ a, a ≠ 1 → LA a = goWL Lc 67 9 nm a) (hAm : ∀ a, a ≠ 102 → a ≠ 104 → a ≠ b + 9 → MmA a = Mm a) (hAT : tM MmA b Tk) (x6 : ∀ r, r ≠ 9 → Tk r = T r) (x7 : ∀ j, j < 4 * T 0 5 ∨ 4 * T 0 5 + 4 ≤ j → Tk 9 j = T 9 j) (x8 : ∀ j, j < sz → Tk 9 (4 * T 0 5 + j) = w j) (hALm : ∀ a, a ≠ 102 → LmA a = Lm a) (gA : gFr s b Mc Lc Mm Lm MA LA MmA LmA) (kA : rKp Mc Mm MA MmA) :
    rOut e s b st Mc Lc Mm Lm (cR2 Rc (nI (T 0 5)) MA LA) (mR2 Rm nm (nI kd) (nI mo) (nI (T 0 5)) (nI sz) MmA LmA) (fun T' => ∀ j, j ≠ 12 → T' 0 j = if j = 5 then T 0 5 + 1 else T 0 j) := by
  obtain ⟨d1, d2, d3, d4, d5⟩ := id hD
  obtain ⟨⟨a0, a1, a2, a3, a4, a5, a6, a7, a8, a9, a10, a11, a13, a15⟩, _⟩ := id d3
  have hNA : rNm b (pN T) (T 0 12) MA LA MmA LmA := rNm_fr d4 (by rw [hA1 67 (by omega) (by omega) (by omega) (by omega) (by omega)]) (hA1 69 (by omega) (by omega) (by omega) (by omega) (by omega)) (hA1 70 (by omega) (by omega) (by omega) (by omega) (by omega)) (by rw [hAL 68 (by decide), gWL_ne (by decide)]) (by rw [hAm b (by omega) (by omega) (by omega)]) (hAm _ (by omega) (by omega) (by omega)) (hAm _ (by omega) (by omega) (by omega)) (hALm _ (by omega))
  have hLA : ∀ i, i < 18 → LA 73 i = kw i := fun i hi => by rw [hAL 73 (by decide), gWL_ne (by decide)]; exact hL i hi
  unfold cR2 mR2 fX14_readPart fX14_readKnown
  simp only [hRm, gBd, hRc]
  rcases rWord t wc_at.1 wc_at.2 with ⟨st1, Mc1, Lc1, Mm1, Lm1, i1, c1, m1, t1, f1⟩ | ⟨c1, m1⟩
  · have hN1 : rNm b (pN T) (T 0 12) Mc1 Lc1 Mm1 Lm1 := rNm_fr hNA (by rw [f1.1 67 (by decide)]) (f1.1 69 (by decide)) (f1.1 70 (by decide)) (f1.2.1 68 (by decide)) (by rw [f1.2.2.1 b (by omega) (by omega)]) (f1.2.2.1 _ (by omega) (by omega)) (f1.2.2.1 _ (by omega) (by omega)) (f1.2.2.2.2.1 _ (by omega))
    have g1 := gFr_trans gA (gFr_tok (s := s) (b := b) f1)
    rw [c1, m1, gB3, if_neg (by decide), gB2]
    rcases rNamed hRm hb (fun i hi => by rw [f1.2.1 73 (by decide)]; exact hLA i hi) t1 hN1 (s := 0) (by decide) (pN_le d3) with ⟨pl, hpl, c2, m2, q, q1, q2, q3, q4⟩ | ⟨f, hf, c2, m2⟩
    · have c2' : fX9_named 5000 Mc1 Lc1 0 = some (nI pl, Mc1) := c2
      have m2' : fX14_known 5000 Mm1 Lm1 Rm 0 = some (nI pl, Mm1) := m2
      have hpl' : pl < T 0 2 := hpl
      obtain ⟨st2, Mc2, Lc2, Mm2, Lm2, i2, n2, n2', t2, f2⟩ := rNext (Mc2 := goWI Mc1 (s + 12) (T 0 5) (nI pl)) (Lc2 := Lc1) (Mm2 := Mm1) (Lm2 := Lm1) t1 q1 q2 q3 q4 (goWI_ne (by omega)) (goWI_ne (by omega)) rfl rfl
      have g2 : gFr s b Mc Lc Mm Lm Mc2 Lc2 Mm2 Lm2 := gFr_trans g1 (gFr_trans ⟨fun a h1 h2 h3 h4 => goWI_ne (x := nI pl) (k := T 0 5) (a := s + 12) (by omega), fun j _ => gWI_na (by omega), fun _ _ _ _ => rfl, fun _ _ _ _ => rfl, fun _ _ => rfl, fun _ _ _ => rfl⟩ (gFr_tok f2))
      rw [c2', gB2, gWr h6, gBd, gRd h6, gBd, gWI_self, if_pos rfl, if_neg (nI_nn (by omega)), n2, gB2, m2', gB2, n2', gB2, gB3]
      rcases rWord t2 wc_trust.1 wc_trust.2 with ⟨st3, Mc3, Lc3, Mm3, Lm3, i3, c3, m3, t3, f3⟩ | ⟨c3, m3⟩
      · have g3 := gFr_trans g2 (gFr_tok (s := s) (b := b) f3)
        rw [c3, m3, gB3, if_neg (by decide), gB2]
        rcases rWholeI (lo := 1) (hi := 9) (by decide) (by decide) t3 with ⟨v, v1, v2, c5, v3, m5, q', q1', q2', q3', q4'⟩ | ⟨f, hf, c5, m5⟩
        · have c5' : fX9_wholeIn Mc3 1 9 = some (1, Mc3) := c5
          have m5' : fX14_readWhole 5000 Mm3 Lm3 1 9 = (goB2 (fX14_goesOn 5000 Mm3 Lm3) fun M L => some (nI v, M, L)) := m5
          obtain ⟨st4, Mc4, Lc4, Mm4, Lm4, i4, n4, n5, t4, f4⟩ := rNext (Mc2 := goWI Mc3 (s + 13) (T 0 5) (nI v)) (Lc2 := Lc3) (Mm2 := Mm3) (Lm2 := Lm3) t3 q1' q2' q3' q4' (goWI_ne (by omega)) (goWI_ne (by omega)) rfl rfl
          have cA : ∀ a, a ≠ s + 12 → a ≠ s + 13 → a ≠ 1 → Mc4 a = MA a := fun a h1 h2 h3 => by rw [f4.1 a h3, goWI_ne h2, f3.1 a h3, f2.1 a h3, goWI_ne h1, f1.1 a h3]
          have c12 : ∀ i, Mc4 (s + 12) i = if i = T 0 5 then nI pl else MA (s + 12) i := fun i => by rw [f4.1 _ (by omega), gWI_na (by omega), f3.1 _ (by omega), f2.1 _ (by omega), gWI_self, f1.1 _ (by omega)]
          have c13 : ∀ i, Mc4 (s + 13) i = if i = T 0 5 then nI v else MA (s + 13) i := fun i => by rw [f4.1 _ (by omega), gWI_self, f3.1 _ (by omega), f2.1 _ (by omega), gWI_na (by omega), f1.1 _ (by omega)]
          have mA : ∀ a, a ≠ 102 → a ≠ 104 → Mm4 a = MmA a := fun a h1 h2 => by rw [f4.2.2.1 a h1 h2, f3.2.2.1 a h1 h2, f2.2.2.1 a h1 h2, f1.2.2.1 a h1 h2]
          have lA : ∀ a, a ≠ 1 → Lc4 a = LA a := fun a h1 => by rw [f4.2.1 a h1, f3.2.1 a h1, f2.2.1 a h1, f1.2.1 a h1]
          have lM : ∀ a, a ≠ 102 → Lm4 a = LmA a := fun a h1 => by rw [f4.2.2.2.2.1 a h1, f3.2.2.2.2.1 a h1, f2.2.2.2.2.1 a h1, f1.2.2.2.2.1 a h1]
          have e9 : Mc4 (s + 9) 0 = nI (T 0 5) := by rw [cA _ (by omega) (by omega) (by omega), hA1 _ (by omega) (by omega) (by omega) (by omega) (by omega)]; exact d2.2.2.2.2.2.2.2.1.1
          generalize hT' : tGo T Tk kd mo sz pl v = T'
          have hT0 : ∀ j, j ≠ 12 → T' 0 j = if j = 5 then T 0 5 + 1 else T 0 j := by
            intro j hj
            rw [← hT']
            by_cases c : j = 5
            · rw [if_pos c, c, tGo_5]
            · rw [if_neg c, tGo_f x6 j c hj]
          have hle : ∀ x, pN T x ≤ pN T' x := by
            intro x
            unfold pN
            rw [hT0 2 (by decide), hT0 4 (by decide), hT0 5 (by decide), hT0 8 (by decide), hT0 11 (by decide)]
            repeat' split
            all_goals first | omega | exact Nat.le_refl _
          obtain ⟨Mc6, Lc6, Mm6, Lm6, y1, y2, y3, y4, y5, y6, y7, y8, y9, y10⟩ := rTell (Mc := goWI Mc4 (s + 9) 0 (nI (T 0 5 + 1))) (Lc := Lc4) (Mm := Mm4) (Lm := Lm4) (R := Rm) (cnt := pN T) (cnt' := pN T') (nn := T 0 12) (k := 2) (m := T 0 5) (w := nm) hRm hb (rNm_fr hNA (by rw [gWI_na (by omega), cA 67 (by omega) (by omega) (by decide)]) (by rw [goWI_ne (by omega), cA 69 (by omega) (by omega) (by decide)]) (by rw [goWI_ne (by omega), cA 70 (by omega) (by omega) (by decide)]) (lA 68 (by decide)) (by rw [mA b (by omega) (by omega)]) (mA _ (by omega) (by omega)) (mA _ (by omega) (by omega)) (lM _ (by omega))) (by omega) (by decide) (by unfold pN; rw [if_neg (by decide), if_neg (by decide), if_pos rfl, hT0 5 (by decide), if_pos rfl]; omega) hle (by rw [lA 67 (by decide), hAL 67 (by decide), gWL_eq])
          have y1' : fX9_tell (goWI Mc4 (s + 9) 0 (nI (T 0 5 + 1))) Lc4 2 (nI (T 0 5)) = some (1, Mc6, Lc6) := y1
          have y2' : fX14_names Mm4 Lm4 Rm nm 2 (nI (T 0 5)) = some (Mm6, Lm6) := y2
          have mb6 : Mm6 b 5 = nI (T 0 5) := by rw [y8 5 (by decide), mA b (by omega) (by omega), hAm b (by omega) (by omega) (by omega)]; exact tM_0 d1 (by decide)
          rw [c5', m5', gB2, if_neg (by decide), v3, gWr h6, gBd, n4, n5, gB2, gB2, gB3, gB3, if_neg (rT_9 t4), y2', gB2, gWr h6, gBd, gWr h6, gBd, gWr h6, gBd, gWr h6, gBd, gWr h6, gBd, gNm, gWI_na (a := b + 11) (b := b) (by omega), gWI_na (a := b + 10) (b := b) (by omega), gWI_na (a := b + 8) (b := b) (by omega), gWI_na (a := b + 7) (b := b) (by omega), gWI_na (a := b + 6) (b := b) (by omega), mb6, nI_1, e9, nI_1, gNm, y1', gB3]
          have cB6 : ∀ a, a ≠ s + 9 → a ≠ 67 → a ≠ 69 → a ≠ 70 → Mc6 a = Mc4 a := fun a h1 h4 h5 h6 => by rw [y4 a h4 h5 h6, goWI_ne h1]
          have hTk : tM (goWI (goWI (goWI (goWI (goWI (goWI Mm6 (b + 6) (T 0 5) (nI kd)) (b + 7) (T 0 5) (nI mo)) (b + 8) (T 0 5) (nI sz)) (b + 10) (T 0 5) (nI pl)) (b + 11) (T 0 5) (nI v)) b 5 (nI (T 0 5 + 1))) b T' := by
            rw [← hT']
            exact tM_23 (tM_w0 (tM_wr (tM_wr (tM_wr (tM_wr (tM_wr (tM_nm (tM_fr hAT (fun r hr => mA _ (by omega) (by omega))) y7 y8 y10)))))))
          have m6o : ∀ a, (a < b ∨ b + 25 < a) → goWI (goWI (goWI (goWI (goWI (goWI Mm6 (b + 6) (T 0 5) (nI kd)) (b + 7) (T 0 5) (nI mo)) (b + 8) (T 0 5) (nI sz)) (b + 10) (T 0 5) (nI pl)) (b + 11) (T 0 5) (nI v)) b 5 (nI (T 0 5 + 1)) a = Mm4 a := fun a ha => by rw [goWI_ne (by omega), goWI_ne (by omega), goWI_ne (by omega), goWI_ne (by omega), goWI_ne (by omega), goWI_ne (by omega), y7 a (by omega) (by omega) (by omega)]
          have g4 : gFr s b Mc Lc Mm Lm Mc4 Lc4 Mm4 Lm4 := gFr_trans g3 (gFr_trans ⟨fun a h1 h2 h3 h4 => goWI_ne (x := nI v) (k := T 0 5) (a := s + 13) (by omega), fun j _ => gWI_na (by omega), fun _ _ _ _ => rfl, fun _ _ _ _ => rfl, fun _ _ => rfl, fun _ _ _ => rfl⟩ (gFr_tok f4))
          have hN6 : rNm b (pN T') (T 0 12 + 1) Mc6 Lc6 (goWI (goWI (goWI (goWI (goWI (goWI Mm6 (b + 6) (T 0 5) (nI kd)) (b + 7) (T 0 5) (nI mo)) (b + 8) (T 0 5) (nI sz)) (b + 10) (T 0 5) (nI pl)) (b + 11) (T 0 5) (nI v)) b 5 (nI (T 0 5 + 1))) Lm6 := rNm_fr y3 rfl rfl rfl rfl (by rw [gWI_nk (by decide), gWI_na (by omega), gWI_na (by omega), gWI_na (by omega), gWI_na (by omega), gWI_na (by omega)]) (by rw [goWI_ne (by omega), goWI_ne (by omega), goWI_ne (by omega), goWI_ne (by omega), goWI_ne (by omega), goWI_ne (by omega)]) (by rw [goWI_ne (by omega), goWI_ne (by omega), goWI_ne (by omega), goWI_ne (by omega), goWI_ne (by omega), goWI_ne (by omega)]) rfl
          refine Or.inl ⟨st4, Mc6, Lc6, _, Lm6, T', by omega, rfl, rfl, rT_fr t4 (cB6 1 (by omega) (by decide) (by decide) (by decide)) (cB6 2 (by omega) (by decide) (by decide) (by decide)) (m6o _ (by omega)) (m6o _ (by omega)) (m6o _ (by omega)) (y6 1 (by decide)) (y9 102 (by omega)), ?_, ?_, ?_, hT0⟩
          · refine rD_goat (kd := kd) (mo := mo) (sz := sz) (pl := pl) (tr := v) (w := w) hs hb hD h0 h6 hkd hmo hsz hpl' v1 v2 hw ?_ ?_ ?_ ?_ ?_ ?_ ?_ ?_ ?_ ?_ ?_ ?_ hTk hN6 ?_ ?_ ?_ ?_ ?_ ?_ ?_ ?_ ?_
            · rw [← hT']; exact tGo_z x6
            · rw [← hT']; exact tGo_f x6
            · rw [← hT']; exact tGo_5
            · rw [← hT']; exact tGo_r6 x6
            · rw [← hT']; exact tGo_r7 x6
            · rw [← hT']; exact tGo_r8 x6
            · rw [← hT']; exact tGo_r10 x6
            · rw [← hT']; exact tGo_r11 x6
            · rw [← hT']; exact tGo_23 x6
            · rw [← hT', tGo_9]; exact x7
            · rw [← hT', tGo_9]; exact x8
            · rw [← hT']; exact tGo_12
            · intro a h1 h2 h3 h4 h5 h6' h7 h8 h9
              rw [cB6 a h3 (by omega) (by omega) (by omega), cA a h6' h7 (by omega), hA1 a (by omega) h4 h5 h8 h9]
            · intro j
              rw [y4 _ (by omega) (by omega) (by omega), gWI_self, cA _ (by omega) (by omega) (by omega), hA1 _ (by omega) (by omega) (by omega) (by omega) (by omega)]
            · intro j
              rw [cB6 _ (by omega) (by omega) (by omega) (by omega), cA _ (by omega) (by omega) (by omega)]; exact hA10 j
            · intro j
              rw [cB6 _ (by omega) (by omega) (by omega) (by omega), cA _ (by omega) (by omega) (by omega)]; exact hA11 j
            · intro j
              rw [cB6 _ (by omega) (by omega) (by omega) (by omega), c12, hA1 _ (by omega) (by omega) (by omega) (by omega) (by omega)]
            · intro j
              rw [cB6 _ (by omega) (by omega) (by omega) (by omega), c13, hA1 _ (by omega) (by omega) (by omega) (by omega) (by omega)]
            · intro j
              rw [cB6 _ (by omega) (by omega) (by omega) (by omega), cA _ (by omega) (by omega) (by omega)]; exact hA16 j
            · intro j hj
              rw [cB6 _ (by omega) (by omega) (by omega) (by omega), cA _ (by omega) (by omega) (by omega)]; exact hA15a j hj
            · intro j hj
              rw [cB6 _ (by omega) (by omega) (by omega) (by omega), cA _ (by omega) (by omega) (by omega)]; exact hA15b j hj
          · exact rKp_trans kA ⟨by rw [cB6 71 (by omega) (by decide) (by decide) (by decide), cA 71 (by omega) (by omega) (by decide)], by rw [y5 10 (by decide), gWI_na (by omega), cA 67 (by omega) (by omega) (by decide)], by rw [m6o 102 (by omega), f4.2.2.2.1 14 (by decide), f3.2.2.2.1 14 (by decide), f2.2.2.2.1 14 (by decide), f1.2.2.2.1 14 (by decide)]⟩
          · refine gFr_trans g4 ⟨fun a h1 h2 h3 h4 => cB6 a (by omega) (by omega) (by omega) (by omega), fun j hj => by rw [cB6 1 (by omega) (by decide) (by decide) (by decide)], fun a h1 h2 h3 => y6 a h3, fun a h1 h2 h3 => m6o a h3, fun j hj => by rw [m6o 102 (by omega)], fun a h1 h2 => y9 a h2⟩
        · have c5' : fX9_wholeIn Mc3 1 9 = some (0, cF Mc3 f st3) := c5
          have m5' : fX14_readWhole 5000 Mm3 Lm3 1 9 = some (1, mF Mm3 f st3, Lm3) := m5
          rw [c5', m5', gB2, if_pos rfl, gB3, gB3, if_pos mF_9]
          exact rOut_f (f := f) (by rcases hf with e | e <;> rw [e] <;> decide) rfl rfl g3
      · rw [c3, m3, gB3, if_pos rfl, gB2, ov_whole mF_9, gB3, gB3, if_pos mF_9]
        exact rOut_f (f := 1) (by decide) rfl rfl g2
    · have c2' : fX9_named 5000 Mc1 Lc1 0 = some (-1, cF Mc1 f st1) := c2
      have m2' : fX14_known 5000 Mm1 Lm1 Rm 0 = some (0, mF Mm1 f st1) := m2
      rw [c2', gB2, gWr h6, gBd, gRd h6, gBd, gWI_self, if_pos rfl, if_pos (by decide), cF_w (by omega), m2', gB2, ov_on mF_9, gB2, gB3, ov_wants mF_9, gB2, ov_whole mF_9, gB3, gB3, if_pos mF_9]
      exact rOut_f (f := f) (by rcases hf with e | e <;> rw [e] <;> decide) rfl rfl (gFr_trans g1 ⟨fun a h1 h2 h3 h4 => goWI_ne (by omega), fun j _ => gWI_na (by omega), fun _ _ _ _ => rfl, fun _ _ _ _ => rfl, fun _ _ => rfl, fun _ _ _ => rfl⟩)
  · rw [c1, m1, gB3, if_pos rfl, gB2, ov_known hRm (mF_b hb (rNm_m hNA)) mF_9, gB2, ov_on mF_9, gB2, gB3, ov_wants mF_9, gB2, ov_whole mF_9, gB3, gB3, if_pos mF_9]
    exact rOut_f (f := 1) (by decide) rfl rfl gA
end lines27
