/-! LINES: person, fact -/
section lines2
variable {e st s b : Nat} {Mc Mm Mm0 : goMI} {Lc Lm Lm0 : goML} {Rc Rm : goMR} {T T' : tH}
theorem rNm_fr {cnt : Nat → Nat} {nn : Nat} {Mc' Mm' : goMI} {Lc' Lm' : goML} (h : rNm b cnt nn Mc Lc Mm Lm) (c1 : Mc' 67 8 = Mc 67 8) (c2 : Mc' 69 = Mc 69) (c3 : Mc' 70 = Mc 70) (c4 : Lc' 68 = Lc 68) (m1 : Mm' b 12 = Mm b 12) (m2 : Mm' (b + 24) = Mm (b + 24)) (m3 : Mm' (b + 25) = Mm (b + 25)) (m4 : Lm' (b + 23) = Lm (b + 23)) : rNm b cnt nn Mc' Lc' Mm' Lm' := by
  obtain ⟨h1, h2, h3, h4⟩ := h
  refine ⟨h1, c1.trans h2, m1.trans h3, fun i hi => ?_⟩
  rw [c2, c3, c4, m2, m3, m4]
  exact h4 i hi
/-- the same hill but for sizes -/
def sz (T T' : tH) : Prop := ∀ r, r ≠ 0 → T' r = T r
theorem tM_nm {M M' : goMI} {nn : Nat} (h : tM M b T) (h1 : ∀ a, a ≠ b → a ≠ b + 24 → a ≠ b + 25 → M' a = M a) (h2 : ∀ j, j ≠ 12 → M' b j = M b j) (h3 : M' b 12 = nI nn) : tM M' b (tW T 0 12 nn) := by
  intro r hr i hi
  by_cases e0 : r = 0
  · subst e0
    show M' b i = _
    by_cases e1 : i = 12
    · rw [e1, h3, tW_e]
    · rw [h2 i e1, tW_i e1]; exact h 0 (by decide) i hi
  · rw [h1 _ (by omega) (by omega) (by omega), tW_r e0]; exact h r hr i hi
theorem pC_sz {M M' : goMI} (h : pC M s T) (hz : sz T T') (hm : ∀ r, 1 ≤ r → r ≤ 27 → r ≠ 9 → r ≠ 21 → r ≠ 25 → M' (s + r) = M (s + r)) (ha : paC M' s T') (hh : phC M' s T') (hM : pmC M' s T') (hq : pqC M' s T') (f3 : T' 0 3 = T 0 3) (f15 : T' 0 15 = T 0 15) (f1 : T' 0 1 = T 0 1) (f5 : T' 0 5 = T 0 5) (f7 : T' 0 7 = T 0 7) (f9 : T' 0 9 = T 0 9) (f10 : T' 0 10 = T 0 10) (f11 : T' 0 11 = T 0 11) : pC M' s T' := by
  obtain ⟨xa, xb, xc, xd, xe, xf, xg, xh, xi, xj, xk, xx, xm, xn, xo, xq, xr⟩ := h
  have m := fun r h1 h2 h3 h4 h5 => hm r h1 h2 h3 h4 h5
  exact ⟨ha, pbF xb (m 1 (by decide) (by decide) (by decide) (by decide) (by decide)) (hz 1 (by decide)), pcF xc (m 2 (by decide) (by decide) (by decide) (by decide) (by decide)) (hz 2 (by decide)) (hz 3 (by decide)) f3, pdF xd (m 3 (by decide) (by decide) (by decide) (by decide) (by decide)) (m 4 (by decide) (by decide) (by decide) (by decide) (by decide)) (hz 2 (by decide)) (hz 3 (by decide)) f3, peF xe (m 5 (by decide) (by decide) (by decide) (by decide) (by decide)) (hz 4 (by decide)), pfF xf (m 7 (by decide) (by decide) (by decide) (by decide) (by decide)) (hz 4 (by decide)) (hz 5 (by decide)), pgF xg (m 8 (by decide) (by decide) (by decide) (by decide) (by decide)) (hz 22 (by decide)) f15 f1, hh, piF xi (m 10 (by decide) (by decide) (by decide) (by decide) (by decide)) (m 11 (by decide) (by decide) (by decide) (by decide) (by decide)) (m 13 (by decide) (by decide) (by decide) (by decide) (by decide)) (m 16 (by decide) (by decide) (by decide) (by decide) (by decide)) (m 15 (by decide) (by decide) (by decide) (by decide) (by decide)) (hz 6 (by decide)) (hz 7 (by decide)) (hz 11 (by decide)) (hz 8 (by decide)) (hz 9 (by decide)) f5, pjF xj (m 12 (by decide) (by decide) (by decide) (by decide) (by decide)) (hz 23 (by decide)), pkF xk (m 14 (by decide) (by decide) (by decide) (by decide) (by decide)) (hz 12 (by decide)), pxF xx (m 17 (by decide) (by decide) (by decide) (by decide) (by decide)) (m 18 (by decide) (by decide) (by decide) (by decide) (by decide)) (m 19 (by decide) (by decide) (by decide) (by decide) (by decide)) (m 20 (by decide) (by decide) (by decide) (by decide) (by decide)) (hz 13 (by decide)) (hz 14 (by decide)) (hz 15 (by decide)) (hz 16 (by decide)) f7, hM, pnF xn (m 22 (by decide) (by decide) (by decide) (by decide) (by decide)) (m 23 (by decide) (by decide) (by decide) (by decide) (by decide)) (hz 17 (by decide)) (hz 18 (by decide)) f9, poF xo (m 24 (by decide) (by decide) (by decide) (by decide) (by decide)) (hz 19 (by decide)) f10, hq, prF xr (m 26 (by decide) (by decide) (by decide) (by decide) (by decide)) (m 27 (by decide) (by decide) (by decide) (by decide) (by decide)) (hz 20 (by decide)) (hz 21 (by decide)) f11⟩
theorem pO_sz (h : pO T) (h0 : T 0 0 ≠ 0) (hz : sz T T') (hf : ∀ j, j ≠ 4 → j ≠ 8 → j ≠ 12 → T' 0 j = T 0 j) (h4 : T' 0 4 ≤ 4) (h8 : T 0 8 ≤ T' 0 8) (h8' : T' 0 8 ≤ 8) : pO T' := by
  obtain ⟨⟨a0, a1, a2, a3, a4, a5, a6, a7, a8, a9, a10, a11, a13, a15⟩, p14, p1, p2, p4, p5, p6, p12, p13, p17, p19, p20, p22, q0, q1, q2⟩ := h
  have e1 := hz 1 (by decide)
  have e2 := hz 2 (by decide)
  have e3 := hz 3 (by decide)
  have e4 := hz 4 (by decide)
  have e5 := hz 5 (by decide)
  have e6 := hz 6 (by decide)
  have e7 := hz 7 (by decide)
  have e8 := hz 8 (by decide)
  have e9 := hz 9 (by decide)
  have e10 := hz 10 (by decide)
  have e11 := hz 11 (by decide)
  have e12 := hz 12 (by decide)
  have e13 := hz 13 (by decide)
  have e14 := hz 14 (by decide)
  have e15 := hz 15 (by decide)
  have e16 := hz 16 (by decide)
  have e17 := hz 17 (by decide)
  have e18 := hz 18 (by decide)
  have e19 := hz 19 (by decide)
  have e20 := hz 20 (by decide)
  have e21 := hz 21 (by decide)
  have e22 := hz 22 (by decide)
  have e23 := hz 23 (by decide)
  have hp : 2 ^ T 0 8 ≤ 2 ^ T' 0 8 := Nat.pow_le_pow_right (by decide) h8
  unfold pO tJ
  unfold tJ at p2
  rw [hf 0 (by decide) (by decide) (by decide), hf 1 (by decide) (by decide) (by decide), hf 2 (by decide) (by decide) (by decide), hf 3 (by decide) (by decide) (by decide), hf 5 (by decide) (by decide) (by decide), hf 6 (by decide) (by decide) (by decide), hf 7 (by decide) (by decide) (by decide), hf 9 (by decide) (by decide) (by decide), hf 10 (by decide) (by decide) (by decide), hf 11 (by decide) (by decide) (by decide), hf 13 (by decide) (by decide) (by decide), hf 14 (by decide) (by decide) (by decide), hf 15 (by decide) (by decide) (by decide), e1, e2, e3, e4, e5, e6, e7, e8, e9, e10, e11, e12, e13, e14, e15, e16, e17, e18, e19, e20, e21, e22, e23]
  exact ⟨⟨a0, a1, a2, a3, h4, a5, a6, a7, h8', a9, a10, a11, Nat.lt_of_lt_of_le a13 hp, a15⟩, p14, p1, p2, p4, p5, p6, p12, p13, fun r hr => ⟨Nat.lt_of_lt_of_le (p17 r hr).1 h8, Nat.lt_of_lt_of_le (p17 r hr).2 hp⟩, fun i hi => Nat.lt_of_lt_of_le (p19 i hi) h8, p20, p22, q0, fun h => absurd h h0, q2⟩
theorem rPerson (hs : s = 7 ∨ s = 37) (hb : 121 ≤ b) (hRc : goRr Rc 67 7 = s) (hRm : Rm 102 4 = some b) (hL : ∀ i, i < 18 → Lc 73 i = kw i) (h0 : T 0 0 ≠ 0) (h4 : T 0 4 < 4) (hbeg : fX14_begins 5000 Mm0 Lm0 Rm (Mm0 b 4) 4 = some (Mm, Lm)) (h : rT e st Mc Lc Mm Lm) (hD : rD s b Mc Lc Mm Lm T) :
    rOut e s b st Mc Lc Mm Lm (fX9_personLine 5000 Mc Lc Rc) (fX14_readPerson 5000 Mm0 Lm0 Rm) (fun T' => ∀ j, j ≠ 12 → T' 0 j = if j = 4 then T 0 4 + 1 else T 0 j) := by
  obtain ⟨d1, d2, d3, d4, d5⟩ := id hD
  obtain ⟨⟨a0, a1, a2, a3, a4, a5, a6, a7, a8, a9, a10, a11, a13, a15⟩, _⟩ := id d3
  rcases rFresh hRm hb hL h d4 with ⟨w, c1, m1, q, q1, q2, q3, q4⟩ | ⟨f, w, hf, c1, m1⟩
  · obtain ⟨st', Mc1, Lc1, Mm1, Lm1, n1, n2, n3, n4, n5⟩ := rNext (Mc2 := Mc) (Lc2 := goWL Lc 67 9 w) (Mm2 := Mm) (Lm2 := Lm) h q1 q2 q3 q4 rfl rfl rfl rfl
    have hD1 : rD s b Mc1 Lc1 Mm1 Lm1 T := rD_tok hs hb (rD_fr (Lc' := goWL Lc 67 9 w) hD (fun _ _ => rfl) rfl (gWL_ne (by decide)) (fun _ _ _ => rfl) rfl) n5
    obtain ⟨e1, e2, e3, e4, e5⟩ := hD1
    have s4 : Mc1 s 4 = nI (T 0 4) := e2.1.2.2.2.2.1
    have m4 : Mm1 b 4 = nI (T 0 4) := tM_0 e1 (by decide)
    have hT' : ∀ j, j ≠ 12 → tW (tW T 0 12 (T 0 12 + 1)) 0 4 (T 0 4 + 1) 0 j = if j = 4 then T 0 4 + 1 else T 0 j := by
      intro j hj
      by_cases c : j = 4
      · rw [if_pos c, c, tW_e]
      · rw [if_neg c, tW_i c, tW_i hj]
    have hsz : sz T (tW (tW T 0 12 (T 0 12 + 1)) 0 4 (T 0 4 + 1)) := fun r hr => by rw [tW_r hr, tW_r hr]
    have hle : ∀ x, pN T x ≤ pN (tW (tW T 0 12 (T 0 12 + 1)) 0 4 (T 0 4 + 1)) x := by
      intro x
      unfold pN
      rw [hT' 2 (by decide), hT' 4 (by decide), hT' 5 (by decide), hT' 8 (by decide), hT' 11 (by decide)]
      repeat' split
      all_goals first | omega | exact Nat.le_refl _
    obtain ⟨Mc3, Lc3, Mm3, Lm3, t1, t2, t3, t4, t5, t6, t7, t8, t9, t10⟩ := rTell (Mc := goWI Mc1 s 4 (nI (T 0 4 + 1))) (Lc := Lc1) (Mm := Mm1) (Lm := Lm1) (R := Rm) (cnt := pN T) (cnt' := pN (tW (tW T 0 12 (T 0 12 + 1)) 0 4 (T 0 4 + 1))) (nn := T 0 12) (k := 1) (m := T 0 4) (w := w) hRm hb (rNm_fr e4 (by rw [gWI_na (by omega)]) (goWI_ne (by omega)) (goWI_ne (by omega)) rfl rfl rfl rfl rfl) (by omega) (by decide) (by unfold pN; rw [if_neg (by decide), if_pos rfl, tW_e]; omega) hle (by rw [n5.2.1 67 (by decide), gWL_eq])
    have t1' : fX9_tell (goWI Mc1 s 4 (nI (T 0 4 + 1))) Lc1 1 (nI (T 0 4)) = some (1, Mc3, Lc3) := t1
    have t2' : fX14_names Mm1 Lm1 Rm w 1 (nI (T 0 4)) = some (Mm3, Lm3) := t2
    have c3 : ∀ a, a ≠ s → a ≠ 67 → a ≠ 69 → a ≠ 70 → Mc3 a = Mc1 a := fun a h1 h2 h3 h4 => by rw [t4 a h2 h3 h4, goWI_ne h1]
    have cs : Mc3 s = goWI Mc1 s 4 (nI (T 0 4 + 1)) s := t4 s (by omega) (by omega) (by omega)
    have hneg : ¬ Mm1 102 9 = 5 := rT_9 n4
    refine Or.inl ⟨st', Mc3, Lc3, goWI Mm3 b 4 (nI (T 0 4 + 1)), Lm3, tW (tW T 0 12 (T 0 12 + 1)) 0 4 (T 0 4 + 1), by omega, ?_, ?_, ?_, ⟨tM_w0 (tM_nm e1 t7 t8 t10), ?_, ?_, ?_, ?_⟩, ?_, ?_, hT'⟩
    · unfold fX9_personLine
      rw [c1, n2, gB2, gB3, if_neg (by decide), hRc, s4, nI_1, gNm, show goWI Mc1 s 4 (nI (T 0 4 + 1)) s 4 = nI (T 0 4 + 1) from by rw [gWI_self, if_pos rfl], show nI (T 0 4 + 1) - 1 = nI (T 0 4) from pk_sub (b := 1) (by omega), t1', gB3]
      rfl
    · unfold fX14_readPerson
      simp only [hRm, gBd]
      rw [hbeg, gB2, m1, n3, gB2, gB3, if_neg hneg, m4, t2', gB2, t8 4 (by decide), m4, nI_1, gNm]
    · refine ⟨rB_fr n4.1 (by rw [c3 1 (by omega) (by decide) (by decide) (by decide)]) (c3 2 (by omega) (by decide) (by decide) (by decide)) (by rw [gWI_na (by omega), t7 102 (by omega) (by omega) (by omega)]) (by rw [goWI_ne (by omega), t7 103 (by omega) (by omega) (by omega)]), n4.2.1, by rw [c3 1 (by omega) (by decide) (by decide) (by decide)]; exact n4.2.2.1, by rw [gWI_na (by omega), t7 102 (by omega) (by omega) (by omega)]; exact n4.2.2.2.1, ?_⟩
      have r1 : Mc3 1 = Mc1 1 := c3 1 (by omega) (by decide) (by decide) (by decide)
      have r2 : Mc3 2 = Mc1 2 := c3 2 (by omega) (by decide) (by decide) (by decide)
      have r3 : goWI Mm3 b 4 (nI (T 0 4 + 1)) 102 = Mm1 102 := by rw [goWI_ne (by omega), t7 102 (by omega) (by omega) (by omega)]
      have r4 : goWI Mm3 b 4 (nI (T 0 4 + 1)) 104 = Mm1 104 := by rw [goWI_ne (by omega), t7 104 (by omega) (by omega) (by omega)]
      unfold rTok
      rw [r1, r2, r3, r4, t6 1 (by decide), t9 102 (by omega)]
      exact n4.2.2.2.2
    · refine pC_sz e2 hsz (fun r h1 h2 _ _ _ => c3 _ (by omega) (by omega) (by omega) (by omega)) ?_ ?_ ?_ ?_ (hT' 3 (by decide)) (hT' 15 (by decide)) (hT' 1 (by decide)) (hT' 5 (by decide)) (hT' 7 (by decide)) (hT' 9 (by decide)) (hT' 10 (by decide)) (hT' 11 (by decide))
      · obtain ⟨y0, y1, y2, y3, y4, y6⟩ := e2.1
        unfold paC
        rw [cs, hT' 0 (by decide), hT' 1 (by decide), hT' 2 (by decide), hT' 3 (by decide), hT' 4 (by decide), hT' 15 (by decide), gWI_nk (j := 0) (by decide), gWI_nk (j := 1) (by decide), gWI_nk (j := 2) (by decide), gWI_nk (j := 3) (by decide), gWI_nk (j := 6) (by decide), gWI_self]
        exact ⟨y0, y1, y2, y3, rfl, y6⟩
      · exact phF e2.2.2.2.2.2.2.2.1 (c3 _ (by omega) (by omega) (by omega) (by omega)) (hT' 5 (by decide)) (hT' 7 (by decide))
      · exact pmF e2.2.2.2.2.2.2.2.2.2.2.2.2.1 (c3 _ (by omega) (by omega) (by omega) (by omega)) (hT' 8 (by decide)) (hT' 13 (by decide)) (hT' 9 (by decide)) (hT' 10 (by decide))
      · exact pqF e2.2.2.2.2.2.2.2.2.2.2.2.2.2.2.2.1 (c3 _ (by omega) (by omega) (by omega) (by omega)) (hT' 11 (by decide))
    · exact pO_sz e3 h0 hsz (fun j h1 h2 h3 => by rw [hT' j h3, if_neg h1]) (by rw [hT' 4 (by decide), if_pos rfl]; omega) (by rw [hT' 8 (by decide), if_neg (by decide)]; exact Nat.le_refl _) (by rw [hT' 8 (by decide), if_neg (by decide)]; exact a8)
    · rw [show tW (tW T 0 12 (T 0 12 + 1)) 0 4 (T 0 4 + 1) 0 12 = T 0 12 + 1 from by rw [tW_i (by decide), tW_e]]
      exact rNm_fr t3 rfl rfl rfl rfl (gWI_nk (by decide)) (goWI_ne (by omega)) (goWI_ne (by omega)) rfl
    · rw [show tW (tW T 0 12 (T 0 12 + 1)) 0 4 (T 0 4 + 1) 0 12 = T 0 12 + 1 from by rw [tW_i (by decide), tW_e], hT' 2 (by decide), hT' 4 (by decide), hT' 5 (by decide), hT' 8 (by decide), hT' 11 (by decide), if_neg (by decide), if_pos rfl, if_neg (by decide), if_neg (by decide), if_neg (by decide)]
      omega
    · exact ⟨by rw [c3 71 (by omega) (by decide) (by decide) (by decide), n5.1 71 (by decide)], by rw [t5 10 (by decide), gWI_na (by omega), n5.1 67 (by decide)], by rw [gWI_na (by omega), t7 102 (by omega) (by omega) (by omega), n5.2.2.2.1 14 (by decide)]⟩
    · refine gFr_trans (gFr_trans ⟨fun _ _ _ _ _ => rfl, fun _ _ => rfl, fun a _ h2 _ => gWL_ne (x := w) h2, fun _ _ _ _ => rfl, fun _ _ => rfl, fun _ _ _ => rfl⟩ (gFr_tok n5)) ⟨fun a h1 h2 h3 h4 => c3 a (by omega) h2 (by omega) (by omega), fun j hj => by rw [c3 1 (by omega) (by decide) (by decide) (by decide)], fun a h1 h2 h3 => t6 a h3, fun a h1 h2 h3 => by rw [goWI_ne (by omega), t7 a (by omega) (by omega) (by omega)], fun j hj => by rw [gWI_na (by omega), t7 102 (by omega) (by omega) (by omega)], fun a h1 h2 => t9 a h2⟩
  · refine rOut_f (f := f) (by rcases hf with e | e <;> rw [e] <;> decide) (Mc1 := Mc) (Lc1 := Lc) (Mm1 := Mm) (Lm1 := Lm) (st1 := st) ?_ ?_ gFr_refl
    · unfold fX9_personLine
      rw [c1, gB3, if_pos rfl]
    · unfold fX14_readPerson
      simp only [hRm, gBd]
      rw [hbeg, gB2, m1, gB3, if_pos mF_9]
theorem rFact (hs : s = 7 ∨ s = 37) (hb : 121 ≤ b) (hRc : goRr Rc 67 7 = s) (hRm : Rm 102 4 = some b) (hL : ∀ i, i < 18 → Lc 73 i = kw i) (h0 : T 0 0 ≠ 0) (h8 : T 0 8 < 8) (hbeg : fX14_begins 5000 Mm0 Lm0 Rm (Mm0 b 8) 8 = some (Mm, Lm)) (h : rT e st Mc Lc Mm Lm) (hD : rD s b Mc Lc Mm Lm T) :
    rOut e s b st Mc Lc Mm Lm (fX9_factLine 5000 Mc Lc Rc) (fX14_readFact 5000 Mm0 Lm0 Rm) (fun T' => ∀ j, j ≠ 12 → T' 0 j = if j = 8 then T 0 8 + 1 else T 0 j) := by
  obtain ⟨d1, d2, d3, d4, d5⟩ := id hD
  obtain ⟨⟨a0, a1, a2, a3, a4, a5, a6, a7, a8, a9, a10, a11, a13, a15⟩, _⟩ := id d3
  rcases rFresh hRm hb hL h d4 with ⟨w, c1, m1, q, q1, q2, q3, q4⟩ | ⟨f, w, hf, c1, m1⟩
  · obtain ⟨st', Mc1, Lc1, Mm1, Lm1, n1, n2, n3, n4, n5⟩ := rNext (Mc2 := Mc) (Lc2 := goWL Lc 67 9 w) (Mm2 := Mm) (Lm2 := Lm) h q1 q2 q3 q4 rfl rfl rfl rfl
    have hD1 : rD s b Mc1 Lc1 Mm1 Lm1 T := rD_tok hs hb (rD_fr (Lc' := goWL Lc 67 9 w) hD (fun _ _ => rfl) rfl (gWL_ne (by decide)) (fun _ _ _ => rfl) rfl) n5
    obtain ⟨e1, e2, e3, e4, e5⟩ := hD1
    have s4 : Mc1 (s + 21) 0 = nI (T 0 8) := e2.2.2.2.2.2.2.2.2.2.2.2.2.1.1
    have m4 : Mm1 b 8 = nI (T 0 8) := tM_0 e1 (by decide)
    have hT' : ∀ j, j ≠ 12 → tW (tW T 0 12 (T 0 12 + 1)) 0 8 (T 0 8 + 1) 0 j = if j = 8 then T 0 8 + 1 else T 0 j := by
      intro j hj
      by_cases c : j = 8
      · rw [if_pos c, c, tW_e]
      · rw [if_neg c, tW_i c, tW_i hj]
    have hsz : sz T (tW (tW T 0 12 (T 0 12 + 1)) 0 8 (T 0 8 + 1)) := fun r hr => by rw [tW_r hr, tW_r hr]
    have hle : ∀ x, pN T x ≤ pN (tW (tW T 0 12 (T 0 12 + 1)) 0 8 (T 0 8 + 1)) x := by
      intro x
      unfold pN
      rw [hT' 2 (by decide), hT' 4 (by decide), hT' 5 (by decide), hT' 8 (by decide), hT' 11 (by decide)]
      repeat' split
      all_goals first | omega | exact Nat.le_refl _
    obtain ⟨Mc3, Lc3, Mm3, Lm3, t1, t2, t3, t4, t5, t6, t7, t8, t9, t10⟩ := rTell (Mc := goWI Mc1 (s + 21) 0 (nI (T 0 8 + 1))) (Lc := Lc1) (Mm := Mm1) (Lm := Lm1) (R := Rm) (cnt := pN T) (cnt' := pN (tW (tW T 0 12 (T 0 12 + 1)) 0 8 (T 0 8 + 1))) (nn := T 0 12) (k := 3) (m := T 0 8) (w := w) hRm hb (rNm_fr e4 (by rw [gWI_na (by omega)]) (goWI_ne (by omega)) (goWI_ne (by omega)) rfl rfl rfl rfl rfl) (by omega) (by decide) (by unfold pN; rw [if_neg (by decide), if_neg (by decide), if_neg (by decide), if_pos rfl, tW_e]; omega) hle (by rw [n5.2.1 67 (by decide), gWL_eq])
    have t1' : fX9_tell (goWI Mc1 (s + 21) 0 (nI (T 0 8 + 1))) Lc1 3 (nI (T 0 8)) = some (1, Mc3, Lc3) := t1
    have t2' : fX14_names Mm1 Lm1 Rm w 3 (nI (T 0 8)) = some (Mm3, Lm3) := t2
    have c3 : ∀ a, a ≠ s + 21 → a ≠ 67 → a ≠ 69 → a ≠ 70 → Mc3 a = Mc1 a := fun a h1 h2 h3 h4 => by rw [t4 a h2 h3 h4, goWI_ne h1]
    have cs : Mc3 (s + 21) = goWI Mc1 (s + 21) 0 (nI (T 0 8 + 1)) (s + 21) := t4 (s + 21) (by omega) (by omega) (by omega)
    have hneg : ¬ Mm1 102 9 = 5 := rT_9 n4
    refine Or.inl ⟨st', Mc3, Lc3, goWI Mm3 b 8 (nI (T 0 8 + 1)), Lm3, tW (tW T 0 12 (T 0 12 + 1)) 0 8 (T 0 8 + 1), by omega, ?_, ?_, ?_, ⟨tM_w0 (tM_nm e1 t7 t8 t10), ?_, ?_, ?_, ?_⟩, ?_, ?_, hT'⟩
    · unfold fX9_factLine
      rw [c1, n2, gB2, gB3, if_neg (by decide), hRc, s4, nI_1, gNm, show goWI Mc1 (s + 21) 0 (nI (T 0 8 + 1)) (s + 21) 0 = nI (T 0 8 + 1) from by rw [gWI_self, if_pos rfl], show nI (T 0 8 + 1) - 1 = nI (T 0 8) from pk_sub (b := 1) (by omega), t1', gB3]
      rfl
    · unfold fX14_readFact
      simp only [hRm, gBd]
      rw [hbeg, gB2, m1, n3, gB2, gB3, if_neg hneg, m4, t2', gB2, t8 8 (by decide), m4, nI_1, gNm]
    · refine ⟨rB_fr n4.1 (by rw [c3 1 (by omega) (by decide) (by decide) (by decide)]) (c3 2 (by omega) (by decide) (by decide) (by decide)) (by rw [gWI_na (by omega), t7 102 (by omega) (by omega) (by omega)]) (by rw [goWI_ne (by omega), t7 103 (by omega) (by omega) (by omega)]), n4.2.1, by rw [c3 1 (by omega) (by decide) (by decide) (by decide)]; exact n4.2.2.1, by rw [gWI_na (by omega), t7 102 (by omega) (by omega) (by omega)]; exact n4.2.2.2.1, ?_⟩
      have r1 : Mc3 1 = Mc1 1 := c3 1 (by omega) (by decide) (by decide) (by decide)
      have r2 : Mc3 2 = Mc1 2 := c3 2 (by omega) (by decide) (by decide) (by decide)
      have r3 : goWI Mm3 b 8 (nI (T 0 8 + 1)) 102 = Mm1 102 := by rw [goWI_ne (by omega), t7 102 (by omega) (by omega) (by omega)]
      have r4 : goWI Mm3 b 8 (nI (T 0 8 + 1)) 104 = Mm1 104 := by rw [goWI_ne (by omega), t7 104 (by omega) (by omega) (by omega)]
      unfold rTok
      rw [r1, r2, r3, r4, t6 1 (by decide), t9 102 (by omega)]
      exact n4.2.2.2.2
    · refine pC_sz e2 hsz (fun r h1 h2 _ _ _ => c3 _ (by omega) (by omega) (by omega) (by omega)) ?_ ?_ ?_ ?_ (hT' 3 (by decide)) (hT' 15 (by decide)) (hT' 1 (by decide)) (hT' 5 (by decide)) (hT' 7 (by decide)) (hT' 9 (by decide)) (hT' 10 (by decide)) (hT' 11 (by decide))
      · exact paF e2.1 (c3 _ (by omega) (by omega) (by omega) (by omega)) (hT' 0 (by decide)) (hT' 1 (by decide)) (hT' 2 (by decide)) (hT' 3 (by decide)) (hT' 4 (by decide)) (hT' 15 (by decide))
      · exact phF e2.2.2.2.2.2.2.2.1 (c3 _ (by omega) (by omega) (by omega) (by omega)) (hT' 5 (by decide)) (hT' 7 (by decide))
      · obtain ⟨y0, y1, y2, y3⟩ := e2.2.2.2.2.2.2.2.2.2.2.2.2.1
        unfold pmC
        rw [cs, hT' 8 (by decide), hT' 13 (by decide), hT' 9 (by decide), hT' 10 (by decide), gWI_nk (j := 1) (by decide), gWI_nk (j := 2) (by decide), gWI_nk (j := 3) (by decide), gWI_self]
        exact ⟨rfl, y1, y2, y3⟩
      · exact pqF e2.2.2.2.2.2.2.2.2.2.2.2.2.2.2.2.1 (c3 _ (by omega) (by omega) (by omega) (by omega)) (hT' 11 (by decide))
    · exact pO_sz e3 h0 hsz (fun j h1 h2 h3 => by rw [hT' j h3, if_neg h2]) (by rw [hT' 4 (by decide), if_neg (by decide)]; exact a4) (by rw [hT' 8 (by decide), if_pos rfl]; omega) (by rw [hT' 8 (by decide), if_pos rfl]; omega)
    · rw [show tW (tW T 0 12 (T 0 12 + 1)) 0 8 (T 0 8 + 1) 0 12 = T 0 12 + 1 from by rw [tW_i (by decide), tW_e]]
      exact rNm_fr t3 rfl rfl rfl rfl (gWI_nk (by decide)) (goWI_ne (by omega)) (goWI_ne (by omega)) rfl
    · rw [show tW (tW T 0 12 (T 0 12 + 1)) 0 8 (T 0 8 + 1) 0 12 = T 0 12 + 1 from by rw [tW_i (by decide), tW_e], hT' 2 (by decide), hT' 4 (by decide), hT' 5 (by decide), hT' 8 (by decide), hT' 11 (by decide), if_neg (by decide), if_neg (by decide), if_neg (by decide), if_pos rfl, if_neg (by decide)]
      omega
    · exact ⟨by rw [c3 71 (by omega) (by decide) (by decide) (by decide), n5.1 71 (by decide)], by rw [t5 10 (by decide), gWI_na (by omega), n5.1 67 (by decide)], by rw [gWI_na (by omega), t7 102 (by omega) (by omega) (by omega), n5.2.2.2.1 14 (by decide)]⟩
    · refine gFr_trans (gFr_trans ⟨fun _ _ _ _ _ => rfl, fun _ _ => rfl, fun a _ h2 _ => gWL_ne (x := w) h2, fun _ _ _ _ => rfl, fun _ _ => rfl, fun _ _ _ => rfl⟩ (gFr_tok n5)) ⟨fun a h1 h2 h3 h4 => c3 a (by omega) h2 (by omega) (by omega), fun j hj => by rw [c3 1 (by omega) (by decide) (by decide) (by decide)], fun a h1 h2 h3 => t6 a h3, fun a h1 h2 h3 => by rw [goWI_ne (by omega), t7 a (by omega) (by omega) (by omega)], fun j hj => by rw [gWI_na (by omega), t7 102 (by omega) (by omega) (by omega)], fun a h1 h2 => t9 a h2⟩
  · refine rOut_f (f := f) (by rcases hf with e | e <;> rw [e] <;> decide) (Mc1 := Mc) (Lc1 := Lc) (Mm1 := Mm) (Lm1 := Lm) (st1 := st) ?_ ?_ gFr_refl
    · unfold fX9_factLine
      rw [c1, gB3, if_pos rfl]
    · unfold fX14_readFact
      simp only [hRm, gBd]
      rw [hbeg, gB2, m1, gB3, if_pos mF_9]
end lines2
