/-! LINES: seen, shied (printed by gen98m.py) -/
section lines8
variable {e st s b : Nat} {Mc Mm Mm0 Mc' Mm' : goMI} {Lc Lm Lm0 Lc' Lm' : goML} {Rc Rm : goMR} {T T' : tH} {v : Nat}
theorem rSeen (hv1 : 1 ≤ v) (hv2 : v ≤ 2) (hs : s = 7 ∨ s = 37) (hb : 121 ≤ b) (hRc : goRr Rc 67 7 = s) (hRm : Rm 102 4 = some b) (hL : ∀ i, i < 18 → Lc 73 i = kw i) (h0 : T 0 0 ≠ 0) (h10 : T 0 7 < 10) (hbeg : fX14_begins 5000 Mm0 Lm0 Rm (Mm0 b 7) 10 = some (Mm, Lm)) (h : rT e st Mc Lc Mm Lm) (hD : rD s b Mc Lc Mm Lm T) :
    rOut e s b st Mc Lc Mm Lm (fX9_seenLine 5000 Mc Lc Rc (nI v)) (fX14_readClue 5000 Mm0 Lm0 Rm (nI v)) (fun T' => ∀ j, j ≠ 12 → T' 0 j = if j = 7 then T 0 7 + 1 else T 0 j) := by
  obtain ⟨d1, d2, d3, d4, d5⟩ := id hD
  obtain ⟨⟨a0, a1, a2, a3, a4, a5, a6, a7, a8, a9, a10, a11, a13, a15⟩, p14, p1, p2, p4, p5, p6, p12, p13, p17, p19, p20, p22, q0, q1, q2⟩ := id d3
  have hv0 : ¬ nI v = 0 := fun h => by have := (gI_zero (by omega)).mp h; omega
  have body : fX14_readClue 5000 Mm0 Lm0 Rm (nI v) = (goB3 (fX14_readKnown 5000 Mm Lm Rm 2) fun x16 M17 L18 => goB3 (fX14_readKnown 5000 M17 L18 Rm 0) fun x30 M31 L32 => goB3 (goB3 (fX14_readWhole 5000 M31 L32 0 ((M31 b 0) - 1)) fun x42 M43 L44 => some (x42, M43, L44)) fun x34 M35 L36 => if (M35 102 9) = 5 then some (M35, L36) else Option.bind (goWr M35 (b + 13) 10 (M35 b 7) (nI v)) fun M53 => Option.bind (goWr M53 (b + 14) 10 (M35 b 7) x16) fun M57 => Option.bind (goWr M57 (b + 15) 10 (M35 b 7) x30) fun M61 => Option.bind (goWr M61 (b + 16) 10 (M35 b 7) x34) fun M65 => some (goWI M65 b 7 ((M65 b 7) + 1), L36)) := by
    unfold fX14_readClue
    simp only [hRm, gBd, gNm, hv0, ↓reduceIte, gB3]
    rw [hbeg, gB2]
  rw [body]
  unfold fX9_seenLine fX14_readKnown
  rw [hRc]
  rcases rNamed hRm hb hL h d4 (s := 2) (by decide) (pN_le d3) with ⟨g, hg, c1, m1, q, q1, q2, q3, q4⟩ | ⟨f, hf, c1, m1⟩
  · have hg6 : g < T 0 5 := hg
    have c1' : fX9_named 5000 Mc Lc 2 = some (nI g, Mc) := c1
    have m1' : fX14_known 5000 Mm Lm Rm 2 = some (nI g, Mm) := m1
    obtain ⟨st1, Mc1, Lc1, Mm1, Lm1, i1, n1, n1', t1, f1⟩ := rNext (Mc2 := Mc) (Lc2 := Lc) (Mm2 := Mm) (Lm2 := Lm) h q1 q2 q3 q4 rfl rfl rfl rfl
    have hD1 := rD_tok hs hb hD f1
    have hL1 : ∀ i, i < 18 → Lc1 73 i = kw i := fun i hi => by rw [f1.2.1 73 (by decide)]; exact hL i hi
    rw [c1', gB2, if_neg (nI_nn (by omega)), n1, gB2, m1', gB2, n1', gB2, gB3]
    have g1 : gFr s b Mc Lc Mm Lm Mc1 Lc1 Mm1 Lm1 := gFr_tok f1
    rcases rNamed hRm hb hL1 t1 hD1.2.2.2.1 (s := 0) (by decide) (pN_le d3) with ⟨pl, hp, c2, m2, q', q1', q2', q3', q4'⟩ | ⟨f, hf, c2, m2⟩
    · have hp8 : pl < T 0 2 := hp
      have c2' : fX9_named 5000 Mc1 Lc1 0 = some (nI pl, Mc1) := c2
      have m2' : fX14_known 5000 Mm1 Lm1 Rm 0 = some (nI pl, Mm1) := m2
      obtain ⟨st2, Mc2, Lc2, Mm2, Lm2, i2, n2, n2', t2, f2⟩ := rNext (Mc2 := Mc1) (Lc2 := Lc1) (Mm2 := Mm1) (Lm2 := Lm1) t1 q1' q2' q3' q4' rfl rfl rfl rfl
      have hD2 := rD_tok hs hb hD1 f2
      have g2 : gFr s b Mc Lc Mm Lm Mc2 Lc2 Mm2 Lm2 := gFr_trans g1 (gFr_tok f2)
      obtain ⟨e1, e2, e3, e4, e5⟩ := id hD2
      have k0 : Mc2 s 0 = nI (T 0 0) := e2.1.1
      have k0' : Mm2 b 0 = nI (T 0 0) := tM_0 e1 (by decide)
      have hm1 : nI (T 0 0) - 1 = nI (T 0 0 - 1) := pk_sub (b := 1) (by omega)
      rw [c2', gB2, if_neg (nI_nn (by omega)), n2, gB2, m2', gB2, n2', gB2, gB3, k0, k0', hm1]
      rcases rWholeI (lo := 0) (hi := T 0 0 - 1) (by omega) (by decide) t2 with ⟨w, w1, w2, c3, w3, m3, q5, q51, q52, q53, q54⟩ | ⟨f, hf, c3, m3⟩
      · have c3' : fX9_wholeIn Mc2 0 (nI (T 0 0 - 1)) = some (1, Mc2) := c3
        have m3' : fX14_readWhole 5000 Mm2 Lm2 0 (nI (T 0 0 - 1)) = (goB2 (fX14_goesOn 5000 Mm2 Lm2) fun M L => some (nI w, M, L)) := m3
        have k7 : Mc2 (s + 9) 1 = nI (T 0 7) := e2.2.2.2.2.2.2.2.1.2
        obtain ⟨hDc, hQ⟩ := rD_clue (v := v) (g := g) (pl := pl) (w := w) hs hb hD2 h0 h10 hv2 hg6 hp8 (fun h => absurd h (by omega)) (fun _ => by omega)
        have hcl := cClue (Mc := Mc2) (T := T) (s := s) (v := v) (g := g) (pl := pl) (w := w) k7 h10
        generalize hCW : goWI (goWI (goWI (goWI (goWI Mc2 (s + 17) (T 0 7) (nI v)) (s + 18) (T 0 7) (nI g)) (s + 19) (T 0 7) (nI pl)) (s + 20) (T 0 7) (nI w)) (s + 9) 1 (nI (T 0 7 + 1)) = Mw at hDc hcl
        have w1' : Mw 1 = Mc2 1 := by rw [← hCW, goWI_ne (by omega), goWI_ne (by omega), goWI_ne (by omega), goWI_ne (by omega), goWI_ne (by omega)]
        have w2' : Mw 2 = Mc2 2 := by rw [← hCW, goWI_ne (by omega), goWI_ne (by omega), goWI_ne (by omega), goWI_ne (by omega), goWI_ne (by omega)]
        have w71 : Mw 71 = Mc2 71 := by rw [← hCW, goWI_ne (by omega), goWI_ne (by omega), goWI_ne (by omega), goWI_ne (by omega), goWI_ne (by omega)]
        have wo : ∀ a, (a < s ∨ s + 29 < a) → Mw a = Mc2 a := fun a ha => by rw [← hCW, goWI_ne (by omega), goWI_ne (by omega), goWI_ne (by omega), goWI_ne (by omega), goWI_ne (by omega)]
        obtain ⟨st3, Mc3, Lc3, Mm3, Lm3, i3, n3, n3', t3, f3⟩ := rNext (Mc2 := Mw) (Lc2 := Lc2) (Mm2 := Mm2) (Lm2 := Lm2) t2 q51 q52 q53 q54 w1' w2' rfl rfl
        have j7 : Mm3 b 7 = nI (T 0 7) := by rw [f3.2.2.1 b (by omega) (by omega)]; exact tM_0 e1 (by decide)
        rw [c3', gB2, if_neg (by decide), w3, hcl, gBd, n3, gB2, m3', n3', gB2, gB3, gB3, if_neg (rT_9 t3), j7, gWr h10, gBd, gWr h10, gBd, gWr h10, gBd, gWr h10, gBd, gWI_na (by omega), gWI_na (by omega), gWI_na (by omega), gWI_na (by omega), j7, nI_1]
        have m6o : ∀ a, (a < b ∨ b + 25 < a) → (goWI (goWI (goWI (goWI (goWI Mm3 (b + 13) (T 0 7) (nI v)) (b + 14) (T 0 7) (nI g)) (b + 15) (T 0 7) (nI pl)) (b + 16) (T 0 7) (nI w)) b 7 (nI (T 0 7 + 1))) a = Mm3 a := fun a ha => by rw [goWI_ne (by omega), goWI_ne (by omega), goWI_ne (by omega), goWI_ne (by omega), goWI_ne (by omega)]
        refine Or.inl ⟨st3, Mc3, Lc3, _, Lm3, _, by omega, rfl, rfl, rT_fr t3 rfl rfl (m6o _ (by omega)) (m6o _ (by omega)) (m6o _ (by omega)) rfl rfl, rD_fr hDc (fun a ha => f3.1 a (by omega)) (by rw [f3.1 67 (by decide)]) (f3.2.1 68 (by decide)) (fun a h1 h2 => gW_c (gW_c (gW_c (gW_c (gW_c (f3.2.2.1 a (by omega) (by omega))))))) (f3.2.2.2.2.1 _ (by omega)), ?_, ?_, hQ⟩
        · exact ⟨by rw [f3.1 71 (by decide), w71, f2.1 71 (by decide), f1.1 71 (by decide)], by rw [f3.1 67 (by decide), wo 67 (by omega), f2.1 67 (by decide), f1.1 67 (by decide)], by rw [m6o 102 (by omega), f3.2.2.2.1 14 (by decide), f2.2.2.2.1 14 (by decide), f1.2.2.2.1 14 (by decide)]⟩
        · refine gFr_trans g2 (gFr_trans (gFr_trans ⟨fun a h1 h2 h3 h4 => wo a h4, fun j _ => by rw [w1'], fun _ _ _ _ => rfl, fun _ _ _ _ => rfl, fun _ _ => rfl, fun _ _ _ => rfl⟩ (gFr_tok f3)) ⟨fun _ _ _ _ _ => rfl, fun _ _ => rfl, fun _ _ _ _ => rfl, fun a h1 h2 h3 => m6o a h3, fun j hj => by rw [m6o 102 (by omega)], fun _ _ _ => rfl⟩)
      · have c3' : fX9_wholeIn Mc2 0 (nI (T 0 0 - 1)) = some (0, cF Mc2 f st2) := c3
        have m3' : fX14_readWhole 5000 Mm2 Lm2 0 (nI (T 0 0 - 1)) = some (0, mF Mm2 f st2, Lm2) := m3
        rw [c3', gB2, if_pos rfl, m3', gB3, gB3, if_pos mF_9]
        exact rOut_f (f := f) (by rcases hf with e | e <;> rw [e] <;> decide) rfl rfl g2
    · have c2' : fX9_named 5000 Mc1 Lc1 0 = some (-1, cF Mc1 f st1) := c2
      have m2' : fX14_known 5000 Mm1 Lm1 Rm 0 = some (0, mF Mm1 f st1) := m2
      rw [c2', gB2, if_pos (by decide), m2', gB2, ov_on mF_9, gB2, gB3, ov_whole mF_9, gB3, gB3, if_pos mF_9]
      exact rOut_f (f := f) (by rcases hf with e | e <;> rw [e] <;> decide) rfl rfl g1
  · have c1' : fX9_named 5000 Mc Lc 2 = some (-1, cF Mc f st) := c1
    have m1' : fX14_known 5000 Mm Lm Rm 2 = some (0, mF Mm f st) := m1
    rw [c1', gB2, if_pos (by decide), m1', gB2, ov_on mF_9, gB2, gB3, ov_known hRm (mF_b hb (rNm_m d4)) mF_9, gB2, ov_on mF_9, gB2, gB3, ov_whole mF_9, gB3, gB3, if_pos mF_9]
    exact rOut_f (f := f) (by rcases hf with e | e <;> rw [e] <;> decide) rfl rfl gFr_refl
end lines8
