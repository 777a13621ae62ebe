/-! LINES: found (printed by gen98n.py) -/
section lines9
variable {e st s b : Nat} {Mc Mm Mm0 Mc' Mm' : goMI} {Lc Lm Lm0 Lc' Lm' : goML} {Rc Rm : goMR} {T T' : tH}
theorem rW_p {k n : Nat} (hk : 97 ≤ k) (hk2 : k ≤ 122) (hn : 1 ≤ n) (hn4 : n ≤ 4) : nI k - 97 = nI (k - 97) ∧ (fX12_within (nI (k - 97)) (nI n) = if k - 97 < n then 1 else 0) ∧ (fX14_within (nI (k - 97)) 0 (nI n - 1) = if k - 97 < n then 1 else 0) := by
  have e1 : nI n - 1 = nI (n - 1) := pk_sub (b := 1) hn
  refine ⟨pk_sub (b := 97) hk, ?_, ?_⟩
  · unfold fX12_within
    rw [if_pos (nI_pos' (by omega))]
    by_cases c : k - 97 < n
    · rw [if_pos (nI_lt c (by omega)), if_pos c]
    · rw [if_neg (nI_nlt (by omega) (by omega)), if_neg c]
  · unfold fX14_within
    rw [if_pos (nI_pos' (by omega)), e1]
    by_cases c : k - 97 < n
    · rw [if_pos (nI_le (by omega) (by omega)), if_pos c]
    · rw [if_neg (fun h => by have := (nI_leI (by omega) (by omega)).mp h; omega), if_neg c]
theorem rFound (hs : s = 7 ∨ s = 37) (hb : 121 ≤ b) (hRc : goRr Rc 67 7 = s) (hRm : Rm 102 4 = some b) (hL : ∀ i, i < 18 → Lc 73 i = kw i) (h0 : T 0 0 ≠ 0) (h10 : T 0 7 < 10) (hbeg : fX14_begins 5000 Mm0 Lm0 Rm (Mm0 b 7) 10 = some (Mm, Lm)) (h : rT e st Mc Lc Mm Lm) (hD : rD s b Mc Lc Mm Lm T) :
    rOut e s b st Mc Lc Mm Lm (fX9_foundLine 5000 Mc Lc Rc) (fX14_readClue 5000 Mm0 Lm0 Rm 0) (fun T' => ∀ j, j ≠ 12 → T' 0 j = if j = 7 then T 0 7 + 1 else T 0 j) := by
  obtain ⟨d1, d2, d3, d4, d5⟩ := id hD
  obtain ⟨⟨a0, a1, a2, a3, a4, a5, a6, a7, a8, a9, a10, a11, a13, a15⟩, p14, p1, p2, p4, p5, p6, p12, p13, p17, p19, p20, p22, q0, q1, q2⟩ := id d3
  have hpl : 1 ≤ T 0 1 := by
    rcases q0 with z | z
    · exact absurd z h0
    · exact z.2
  have body : fX14_readClue 5000 Mm0 Lm0 Rm 0 = (goB3 (fX14_readKnown 5000 Mm Lm Rm 2) fun x16 M17 L18 => goB3 (goB3 (fX14_readPlant 5000 M17 L18 Rm) fun x26 M27 L28 => some (x26, M27, L28)) fun x20 M21 L22 => goB3 (fX14_readKnown 5000 M21 L22 Rm 0) fun x30 M35 L36 => if (M35 102 9) = 5 then some (M35, L36) else Option.bind (goWr M35 (b + 13) 10 (M35 b 7) 0) fun M53 => Option.bind (goWr M53 (b + 14) 10 (M35 b 7) x16) fun M57 => Option.bind (goWr M57 (b + 15) 10 (M35 b 7) x30) fun M61 => Option.bind (goWr M61 (b + 16) 10 (M35 b 7) x20) fun M65 => some (goWI M65 b 7 ((M65 b 7) + 1), L36)) := by
    unfold fX14_readClue
    simp only [hRm, gBd, gNm, ↓reduceIte, gB3]
    rw [hbeg, gB2]
  rw [body]
  unfold fX9_foundLine fX14_readKnown
  rw [hRc]
  rcases rNamed hRm hb hL h d4 (s := 2) (by decide) (pN_le d3) with ⟨g, hg, c1, m1, q, q1, q2, q3, q4⟩ | ⟨f, hf, c1, m1⟩
  · have hg6 : g < T 0 5 := hg
    have c1' : fX9_named 5000 Mc Lc 2 = some (nI g, Mc) := c1
    have m1' : fX14_known 5000 Mm Lm Rm 2 = some (nI g, Mm) := m1
    obtain ⟨st1, Mc1, Lc1, Mm1, Lm1, i1, n1, n1', t1, f1⟩ := rNext (Mc2 := Mc) (Lc2 := Lc) (Mm2 := Mm) (Lm2 := Lm) h q1 q2 q3 q4 rfl rfl rfl rfl
    have hD1 := rD_tok hs hb hD f1
    have hL1 : ∀ i, i < 18 → Lc1 73 i = kw i := fun i hi => by rw [f1.2.1 73 (by decide)]; exact hL i hi
    rw [c1', gB2, if_neg (nI_nn (by omega)), n1, gB2, m1', gB2, n1', gB2, gB3]
    have g1 : gFr s b Mc Lc Mm Lm Mc1 Lc1 Mm1 Lm1 := gFr_tok f1
    have h9 := rT_9 t1
    have k1 : Mc1 s 1 = nI (T 0 1) := hD1.2.1.1.2.1
    have k1' : Mm1 b 1 = nI (T 0 1) := tM_0 hD1.1 (by decide)
    obtain ⟨w1, w2⟩ := rT_w t1
    have failM : ∀ (f : Int32) (x : Int32), fX14_readPlant 5000 Mm1 Lm1 Rm = some (x, mF Mm1 f st1, Lm1) → ((goB3 (goB3 (fX14_readPlant 5000 Mm1 Lm1 Rm) fun x26 M27 L28 => some (x26, M27, L28)) fun x20 M21 L22 => goB3 (goB2 (fX14_known 5000 M21 L22 Rm 0) fun x11 M12 => goB2 (fX14_goesOn 5000 M12 L22) fun M14 L15 => some (x11, M14, L15)) fun x30 M35 L36 => if (M35 102 9) = 5 then some (M35, L36) else Option.bind (goWr M35 (b + 13) 10 (M35 b 7) 0) fun M53 => Option.bind (goWr M53 (b + 14) 10 (M35 b 7) (nI g)) fun M57 => Option.bind (goWr M57 (b + 15) 10 (M35 b 7) x30) fun M61 => Option.bind (goWr M61 (b + 16) 10 (M35 b 7) x20) fun M65 => some (goWI M65 b 7 ((M65 b 7) + 1), L36)) : Option (goMI × goML)) = some (mF Mm1 f st1, Lm1) := by
      intro f x hx
      rw [hx, gB3, gB3, ov_known hRm (mF_b hb (rNm_m hD1.2.2.2.1)) mF_9, gB2, ov_on mF_9, gB2, gB3, if_pos mF_9]
    by_cases ck : Mc1 1 4 = 1
    · obtain ⟨wc, q', q1', q2', q3', q4', l, l1, l2, l3, l4, l5, l6⟩ := w2 ck
      obtain ⟨y1, kk, y2, y3, y4⟩ := l6 0 (by omega)
      rw [Nat.add_zero] at y1 y4
      obtain ⟨z1, z2, z3⟩ := rW_p y2 y3 hpl a1
      have he12 := t1.1.1
      have hpa : fX11_plantAt Mc1 0 = some (nI (kk - 97)) := by
        unfold fX11_plantAt
        rw [t1.2.2.1, Int32.add_zero, gRd (by omega), gBd, y4, z1]
      have hrp : fX14_readPlant 5000 Mm1 Lm1 Rm = (Option.bind (if (Mm1 102 13) = 1 then (if (fX14_within (nI (kk - 97)) 0 ((Mm1 b 1) - 1)) = 0 then Option.bind (fX14_flaw Mm1 7) fun M33 => some M33 else some Mm1) else Option.bind (fX14_flaw Mm1 7) fun M28 => some M28) fun M23 => goB2 (fX14_goesOn 5000 M23 Lm1) fun M35 L36 => some (nI (kk - 97), M35, L36)) := by
        unfold fX14_readPlant
        simp only [hRm, gBd]
        rw [if_pos (w1.mp ck), gBd, if_neg h9, show goRd Mm1 104 8 0 = some (nI kk) from by rw [gL_0, gRd (by decide), y1, y4], gBd, gBd, z1, if_neg h9]
      rw [if_pos ck, hpa, gBd, l4]
      rw [l5, k1', z3] at hrp
      by_cases cl : l = 1
      · by_cases cp : kk - 97 < T 0 1
        · rw [if_pos (show nI l = 1 by rw [cl]; rfl), if_pos cp, if_neg (by decide), gBd] at hrp
          obtain ⟨st2, Mc2, Lc2, Mm2, Lm2, i2, n2, n2', t2, f2⟩ := rNext (Mc2 := Mc1) (Lc2 := Lc1) (Mm2 := Mm1) (Lm2 := Lm1) t1 q1' q2' q3' q4' rfl rfl rfl rfl
          have hD2 := rD_tok hs hb hD1 f2
          have hL2 : ∀ i, i < 18 → Lc2 73 i = kw i := fun i hi => by rw [f2.2.1 73 (by decide)]; exact hL1 i hi
          have g2 : gFr s b Mc Lc Mm Lm Mc2 Lc2 Mm2 Lm2 := gFr_trans g1 (gFr_tok f2)
          rw [n2', gB2] at hrp
          rw [if_pos (show nI l = 1 by rw [cl]; rfl), k1, z2, if_pos cp, if_neg (by decide), n2, gB2, hrp, gB3, gB3]
          rcases rNamed hRm hb hL2 t2 hD2.2.2.2.1 (s := 0) (by decide) (pN_le d3) with ⟨pl, hp, c3, m3, q5, q51, q52, q53, q54⟩ | ⟨f, hf, c3, m3⟩
          · have hp8 : pl < T 0 2 := hp
            have c3' : fX9_named 5000 Mc2 Lc2 0 = some (nI pl, Mc2) := c3
            have m3' : fX14_known 5000 Mm2 Lm2 Rm 0 = some (nI pl, Mm2) := m3
            obtain ⟨st3, Mc3, Lc3, Mm3, Lm3, i3, n3, n3', t3, f3⟩ := rNext (Mc2 := Mc2) (Lc2 := Lc2) (Mm2 := Mm2) (Lm2 := Lm2) t2 q51 q52 q53 q54 rfl rfl rfl rfl
            have hD3 := rD_tok hs hb hD2 f3
            have k7 : Mc3 (s + 9) 1 = nI (T 0 7) := hD3.2.1.2.2.2.2.2.2.2.1.2
            obtain ⟨hDc, hQ⟩ := rD_clue (v := 0) (g := g) (pl := pl) (w := kk - 97) hs hb hD3 h0 h10 (by decide) hg6 hp8 (fun _ => cp) (fun h => absurd rfl h)
            have hcl := cClue (Mc := Mc3) (T := T) (s := s) (v := 0) (g := g) (pl := pl) (w := kk - 97) k7 h10
            have j7 : Mm3 b 7 = nI (T 0 7) := tM_0 hD3.1 (by decide)
            generalize hCW : goWI (goWI (goWI (goWI (goWI Mc3 (s + 17) (T 0 7) (nI 0)) (s + 18) (T 0 7) (nI g)) (s + 19) (T 0 7) (nI pl)) (s + 20) (T 0 7) (nI (kk - 97))) (s + 9) 1 (nI (T 0 7 + 1)) = Mw at hDc hcl
            have hcl' : fX5_addClue Mc3 (s + 9) 0 (nI g) (nI pl) (nI (kk - 97)) = some Mw := hcl
            have wo : ∀ a, (a < s ∨ s + 29 < a) → Mw a = Mc3 a := fun a ha => by rw [← hCW, goWI_ne (by omega), goWI_ne (by omega), goWI_ne (by omega), goWI_ne (by omega), goWI_ne (by omega)]
            rw [c3', gB2, if_neg (nI_nn (by omega)), n3, gB2, hcl', gBd, m3', gB2, n3', gB2, gB3, if_neg (rT_9 t3), j7, gWr h10, gBd, gWr h10, gBd, gWr h10, gBd, gWr h10, gBd, gWI_na (by omega), gWI_na (by omega), gWI_na (by omega), gWI_na (by omega), j7, nI_1]
            have m6o : ∀ a, (a < b ∨ b + 25 < a) → (goWI (goWI (goWI (goWI (goWI Mm3 (b + 13) (T 0 7) (nI 0)) (b + 14) (T 0 7) (nI g)) (b + 15) (T 0 7) (nI pl)) (b + 16) (T 0 7) (nI (kk - 97))) b 7 (nI (T 0 7 + 1))) a = Mm3 a := fun a ha => by rw [goWI_ne (by omega), goWI_ne (by omega), goWI_ne (by omega), goWI_ne (by omega), goWI_ne (by omega)]
            refine Or.inl ⟨st3, Mw, Lc3, _, Lm3, _, by omega, rfl, rfl, rT_fr t3 (wo 1 (by omega)) (wo 2 (by omega)) (m6o _ (by omega)) (m6o _ (by omega)) (m6o _ (by omega)) rfl rfl, hDc, ?_, ?_, hQ⟩
            · exact ⟨by rw [wo 71 (by omega), f3.1 71 (by decide), f2.1 71 (by decide), f1.1 71 (by decide)], by rw [wo 67 (by omega), f3.1 67 (by decide), f2.1 67 (by decide), f1.1 67 (by decide)], (congrFun (m6o 102 (by omega)) 14).trans (by rw [f3.2.2.2.1 14 (by decide), f2.2.2.2.1 14 (by decide), f1.2.2.2.1 14 (by decide)])⟩
            · refine gFr_trans g2 (gFr_trans (gFr_tok f3) ⟨fun a h1 h2 h3 h4 => wo a h4, fun j _ => by rw [wo 1 (by omega)], fun _ _ _ _ => rfl, fun a h1 h2 h3 => m6o a h3, fun j hj => congrFun (m6o 102 (by omega)) j, fun _ _ _ => rfl⟩)
          · have c3' : fX9_named 5000 Mc2 Lc2 0 = some (-1, cF Mc2 f st2) := c3
            have m3' : fX14_known 5000 Mm2 Lm2 Rm 0 = some (0, mF Mm2 f st2) := m3
            rw [c3', gB2, if_pos (by decide), m3', gB2, ov_on mF_9, gB2, gB3, if_pos mF_9]
            exact rOut_f (f := f) (by rcases hf with e | e <;> rw [e] <;> decide) rfl rfl g2
        · rw [if_pos (show nI l = 1 by rw [cl]; rfl), if_neg cp, if_pos rfl, mFlaw t1.2.2.2.1 h9, gBd, gBd, ov_on mF_9, gB2] at hrp
          rw [if_pos (show nI l = 1 by rw [cl]; rfl), k1, z2, if_neg cp, if_pos rfl, cFail t1.2.2.1, gB2, failM 7 _ hrp]
          exact rOut_f (f := 7) (by decide) rfl rfl g1
      · have cl' : ¬ nI l = 1 := fun h => cl ((nI_eq (b := 1) (by omega) (by decide)).mp h)
        rw [if_neg cl', mFlaw t1.2.2.2.1 h9, gBd, gBd, ov_on mF_9, gB2] at hrp
        rw [if_neg cl', cFail t1.2.2.1, gB2, failM 7 _ hrp]
        exact rOut_f (f := 7) (by decide) rfl rfl g1
    · have hrp : fX14_readPlant 5000 Mm1 Lm1 Rm = some (0, mF Mm1 1 st1, Lm1) := by
        unfold fX14_readPlant
        rw [if_neg (fun h => ck (w1.mpr h)), mFlaw t1.2.2.2.1 h9, gBd, gBd, if_pos mF_9, gBd, if_pos mF_9, gBd, ov_on mF_9, gB2]
      rw [if_neg ck, cFail t1.2.2.1, gB2, failM 1 _ hrp]
      exact rOut_f (f := 1) (by decide) rfl rfl g1
  · have c1' : fX9_named 5000 Mc Lc 2 = some (-1, cF Mc f st) := c1
    have m1' : fX14_known 5000 Mm Lm Rm 2 = some (0, mF Mm f st) := m1
    have hrp : fX14_readPlant 5000 (mF Mm f st) Lm Rm = some (0, mF Mm f st, Lm) := by
      unfold fX14_readPlant
      rw [if_neg (ov_n (by decide) mF_9), ov_fl mF_9, gBd, gBd, if_pos mF_9, gBd, if_pos mF_9, gBd, ov_on mF_9, gB2]
    rw [c1', gB2, if_pos (by decide), m1', gB2, ov_on mF_9, gB2, gB3, hrp, gB3, gB3, ov_known hRm (mF_b hb (rNm_m d4)) mF_9, gB2, ov_on mF_9, gB2, gB3, if_pos mF_9]
    exact rOut_f (f := f) (by rcases hf with e | e <;> rw [e] <;> decide) rfl rfl gFr_refl
end lines9
