/-! LINES: path (printed by gen98p.py) -/
section lines11
variable {e st s b : Nat} {Mc Mm Mm0 Mc' Mm' : goMI} {Lc Lm Lm0 Lc' Lm' : goML} {Rc Rm : goMR} {T T' : tH} {x y : Nat}
theorem cPathA (hs : s = 7 ∨ s = 37) (h3 : Mc s 3 = nI (T 0 3)) (h14 : T 0 3 < 14) (hx : x < 8) (hy : y < 8) (hxy : x ≠ y) (hnr : ∀ p, p < 8 → Mc (s + 2) p = nI (tNr T p)) : fX6_addPath Mc s (nI x) (nI y) = some (goWI (goWI (goWI (goWI (goWI Mc (s + 3) (T 0 3) (nI x)) (s + 4) (T 0 3) (nI y)) s 3 (nI (T 0 3 + 1))) (s + 2) x (nI (tNr T x ||| 2 ^ y))) (s + 2) y (nI (tNr T y ||| 2 ^ x))) := by
  unfold fX6_addPath
  rw [h3, if_pos (show nI (T 0 3) < 14 from nI_lt (b := 14) h14 (by decide)), gWr h14, gBd, gWI_na (by omega), h3, gWr h14, gBd, gWI_na (by omega), gWI_na (by omega), h3, nI_1, gNm, gRd hx, gBd, gWI_na (by omega), gWI_na (by omega), gWI_na (by omega), hnr x hx, gI_shl1 (by omega), gI_or, gWr hx, gBd, gRd hy, gBd, gWI_nk (fun e => hxy e.symm), gWI_na (by omega), gWI_na (by omega), gWI_na (by omega), hnr y hy, gI_shl1 (by omega), gI_or, gWr hy, gBd]
theorem rPath (hs : s = 7 ∨ s = 37) (hb : 121 ≤ b) (hRc : goRr Rc 67 7 = s) (hRm : Rm 102 4 = some b) (hL : ∀ i, i < 18 → Lc 73 i = kw i) (h0 : T 0 0 ≠ 0) (h14 : T 0 3 < 14) (hbeg : fX14_begins 5000 Mm0 Lm0 Rm (Mm0 b 3) 14 = some (Mm, Lm)) (h : rT e st Mc Lc Mm Lm) (hD : rD s b Mc Lc Mm Lm T) :
    rOut e s b st Mc Lc Mm Lm (fX9_pathLine 5000 Mc Lc Rc) (fX14_readPath 5000 Mm0 Lm0 Rm) (fun T' => ∀ j, j ≠ 12 → T' 0 j = if j = 3 then T 0 3 + 1 else T 0 j) := by
  obtain ⟨d1, d2, d3, d4, d5⟩ := id hD
  obtain ⟨⟨a0, a1, a2, a3, a4, a5, a6, a7, a8, a9, a10, a11, a13, a15⟩, p14, p1, p2, p4, p5, p6, p12, p13, p17, p19, p20, p22, q0, q1, q2⟩ := id d3
  have body : fX14_readPath 5000 Mm0 Lm0 Rm = (goB3 (fX14_readKnown 5000 Mm Lm Rm 0) fun x16 M17 L18 => goB2 (fX14_known 5000 M17 L18 Rm 0) fun x20 M21 => Option.bind (if (M21 102 9) = 5 then some M21 else if x16 = x20 then Option.bind (fX14_flaw M21 3) fun M28 => some M28 else Option.bind (fX13_path 5000 M21 b x16 x20) fun x32 => if x32 = (-1) then some M21 else Option.bind (fX14_flaw M21 3) fun M35 => some M35) fun M23 => goB2 (fX14_goesOn 5000 M23 L18) fun M37 L38 => if (M37 102 9) = 5 then some (M37, L38) else Option.bind (goWr M37 (b + 2) 14 (M37 b 3) x16) fun M45 => Option.bind (goWr M45 (b + 3) 14 (M45 b 3) x20) fun M51 => some (goWI M51 b 3 ((M51 b 3) + 1), L38)) := by
    unfold fX14_readPath
    simp only [hRm, gBd, gNm]
    rw [hbeg, gB2]
  rw [body]
  unfold fX9_pathLine fX14_readKnown
  rw [hRc]
  rcases rNamed hRm hb hL h d4 (s := 0) (by decide) (pN_le d3) with ⟨x, hx, c1, m1, q, q1, q2, q3, q4⟩ | ⟨f, hf, c1, m1⟩
  · have hx8 : x < T 0 2 := hx
    have c1' : fX9_named 5000 Mc Lc 0 = some (nI x, Mc) := c1
    have m1' : fX14_known 5000 Mm Lm Rm 0 = some (nI x, Mm) := m1
    obtain ⟨st1, Mc1, Lc1, Mm1, Lm1, i1, n1, n1', t1, f1⟩ := rNext (Mc2 := Mc) (Lc2 := Lc) (Mm2 := Mm) (Lm2 := Lm) h q1 q2 q3 q4 rfl rfl rfl rfl
    have hD1 := rD_tok hs hb hD f1
    obtain ⟨e1, e2, e3, e4, e5⟩ := id hD1
    have hL1 : ∀ i, i < 18 → Lc1 73 i = kw i := fun i hi => by rw [f1.2.1 73 (by decide)]; exact hL i hi
    rw [c1', gB2, if_neg (nI_nn (by omega)), n1, gB2, m1', gB2, n1', gB2, gB3]
    have g1 : gFr s b Mc Lc Mm Lm Mc1 Lc1 Mm1 Lm1 := gFr_tok f1
    have hnr : ∀ p, p < 8 → Mc1 (s + 2) p = nI (tNr T p) := e2.2.2.1
    rcases rNamed hRm hb hL1 t1 e4 (s := 0) (by decide) (pN_le e3) with ⟨y, hy, c2, m2, q', q1', q2', q3', q4'⟩ | ⟨f, hf, c2, m2⟩
    · have hy8 : y < T 0 2 := hy
      have c2' : fX9_named 5000 Mc1 Lc1 0 = some (nI y, Mc1) := c2
      have m2' : fX14_known 5000 Mm1 Lm1 Rm 0 = some (nI y, Mm1) := m2
      rw [c2', gB2, if_neg (nI_nn (by omega)), m2', gB2, if_neg (rT_9 t1)]
      by_cases cxy : x = y
      · rw [if_pos (show nI y = nI x by rw [cxy]), cFail t1.2.2.1, gB2, if_pos (show nI x = nI y by rw [cxy]), mFlaw t1.2.2.2.1 (rT_9 t1), gBd, gBd, ov_on mF_9, gB2, if_pos mF_9]
        exact rOut_f (f := 3) (by decide) rfl rfl g1
      · have hmp := mPath (N := 5000) e1 a3 (fun i hi => ⟨by have := (p2 i hi).1; omega, by have := (p2 i hi).2.1; omega⟩) (by decide) (p := x) (q := y) (by omega) (by omega)
        have htb : (tNr T x).testBit y = decide (tPath T x y < T 0 3) := by
          have : (tNr T x).testBit y = (decide (y < 8) && decide (tPath T x y < T 0 3)) := gBits_tb 8
          rw [this, decide_eq_true (by omega), Bool.true_and]
        have hnl : tNr T x < 2 ^ 8 := gBits_lt 8
        rw [if_neg (fun h => cxy ((nI_eq (by omega) (by omega)).mp h.symm)), gRd (by omega), gBd, hnr x (by omega), gI_bit (by omega) (by omega), htb, if_neg (fun h => cxy ((nI_eq (by omega) (by omega)).mp h)), hmp, gBd]
        by_cases cp : tPath T x y < T 0 3
        · rw [decide_eq_true cp, if_pos (show nI true.toNat = 1 from rfl), cFail t1.2.2.1, gB2, if_pos cp, if_neg (nm1_lt (by omega)), mFlaw t1.2.2.2.1 (rT_9 t1), gBd, gBd, ov_on mF_9, gB2, if_pos mF_9]
          exact rOut_f (f := 3) (by decide) rfl rfl g1
        · have hn : ∀ j, j < T 0 3 → tJ T x y j = false := fun j hj => by
            have : j < gFst (tJ T x y) (T 0 3) := by unfold tPath at cp; omega
            exact gFst_np this
          obtain ⟨hDc, hQ⟩ := rD_path (x := x) (y := y) hs hb hD1 h0 h14 hx8 hy8 cxy hn
          have hcl := cPathA (Mc := Mc1) (T := T) (s := s) (x := x) (y := y) hs e2.1.2.2.2.1 h14 (by omega) (by omega) cxy hnr
          generalize hCW : goWI (goWI (goWI (goWI (goWI Mc1 (s + 3) (T 0 3) (nI x)) (s + 4) (T 0 3) (nI y)) s 3 (nI (T 0 3 + 1))) (s + 2) x (nI (tNr T x ||| 2 ^ y))) (s + 2) y (nI (tNr T y ||| 2 ^ x)) = Mw at hDc hcl
          have wo : ∀ a, (a < s ∨ s + 29 < a) → Mw a = Mc1 a := fun a ha => by rw [← hCW, goWI_ne (by omega), goWI_ne (by omega), goWI_ne (by omega), goWI_ne (by omega), goWI_ne (by omega)]
          obtain ⟨st3, Mc3, Lc3, Mm3, Lm3, i3, n3, n3', t3, f3⟩ := rNext (Mc2 := Mw) (Lc2 := Lc1) (Mm2 := Mm1) (Lm2 := Lm1) t1 q1' q2' q3' q4' (wo 1 (by omega)) (wo 2 (by omega)) rfl rfl
          have j3 : Mm3 b 3 = nI (T 0 3) := by rw [f3.2.2.1 b (by omega) (by omega)]; exact tM_0 e1 (by decide)
          rw [decide_eq_false cp, if_neg (by decide), hcl, gBd, n3, gB2, if_neg cp, if_pos rfl, gBd, n3', gB2, if_neg (rT_9 t3), j3, gWr h14, gBd, gWI_na (by omega), j3, gWr h14, gBd, gWI_na (by omega), gWI_na (by omega), j3, nI_1]
          have m6o : ∀ a, (a < b ∨ b + 25 < a) → (goWI (goWI (goWI Mm3 (b + 2) (T 0 3) (nI x)) (b + 3) (T 0 3) (nI y)) b 3 (nI (T 0 3 + 1))) a = Mm3 a := fun a ha => by rw [goWI_ne (by omega), goWI_ne (by omega), goWI_ne (by omega)]
          refine Or.inl ⟨st3, Mc3, Lc3, _, Lm3, _, by omega, rfl, rfl, rT_fr t3 rfl rfl (m6o _ (by omega)) (m6o _ (by omega)) (m6o _ (by omega)) rfl rfl, rD_fr hDc (fun a ha => f3.1 a (by omega)) (by rw [f3.1 67 (by decide)]) (f3.2.1 68 (by decide)) (fun a h1 h2 => gW_c (gW_c (gW_c (f3.2.2.1 a (by omega) (by omega))))) (f3.2.2.2.2.1 _ (by omega)), ?_, ?_, hQ⟩
          · exact ⟨by rw [f3.1 71 (by decide), wo 71 (by omega), f1.1 71 (by decide)], by rw [f3.1 67 (by decide), wo 67 (by omega), f1.1 67 (by decide)], by rw [m6o 102 (by omega), f3.2.2.2.1 14 (by decide), f1.2.2.2.1 14 (by decide)]⟩
          · refine gFr_trans g1 (gFr_trans (gFr_trans ⟨fun a h1 h2 h3 h4 => wo a h4, fun j _ => by rw [wo 1 (by omega)], fun _ _ _ _ => rfl, fun _ _ _ _ => rfl, fun _ _ => rfl, fun _ _ _ => rfl⟩ (gFr_tok f3)) ⟨fun _ _ _ _ _ => rfl, fun _ _ => rfl, fun _ _ _ _ => rfl, fun a h1 h2 h3 => m6o a h3, fun j hj => by rw [m6o 102 (by omega)], fun _ _ _ => rfl⟩)
    · have c2' : fX9_named 5000 Mc1 Lc1 0 = some (-1, cF Mc1 f st1) := c2
      have m2' : fX14_known 5000 Mm1 Lm1 Rm 0 = some (0, mF Mm1 f st1) := m2
      rw [c2', gB2, if_pos (by decide), m2', gB2, if_pos mF_9, gBd, ov_on mF_9, gB2, if_pos mF_9]
      exact rOut_f (f := f) (by rcases hf with e | e <;> rw [e] <;> decide) rfl rfl g1
  · have c1' : fX9_named 5000 Mc Lc 0 = some (-1, cF Mc f st) := c1
    have m1' : fX14_known 5000 Mm Lm Rm 0 = some (0, mF Mm f st) := m1
    rw [c1', gB2, if_pos (by decide), m1', gB2, ov_on mF_9, gB2, gB3, ov_known hRm (mF_b hb (rNm_m d4)) mF_9, gB2, if_pos mF_9, gBd, ov_on mF_9, gB2, if_pos mF_9]
    exact rOut_f (f := f) (by rcases hf with e | e <;> rw [e] <;> decide) rfl rfl gFr_refl
end lines11
