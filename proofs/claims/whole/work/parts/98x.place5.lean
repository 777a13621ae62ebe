/-! LINES: place (printed by gen98x.py) -/
section lines19
variable {e st s b : Nat} {Mc Mm Mm0 : goMI} {Lc Lm Lm0 : goML} {Rc Rm : goMR} {T : tH}
theorem rPlace (hs : s = 7 ∨ s = 37) (hb : 121 ≤ b) (hRc : goRr Rc 67 7 = s) (hRm : Rm 102 4 = some b) (hL : ∀ i, i < 18 → Lc 73 i = kw i) (h0 : T 0 0 ≠ 0) (h8 : T 0 2 < 8) (hbeg : fX14_begins 5000 Mm0 Lm0 Rm (Mm0 b 2) 8 = some (Mm, Lm)) (h : rT e st Mc Lc Mm Lm) (hD : rD s b Mc Lc Mm Lm T) :
    rOut e s b st Mc Lc Mm Lm (fX9_placeLine 5000 Mc Lc Rc) (fX14_readPlace 5000 Mm0 Lm0 Rm) (fun T' => ∀ j, j ≠ 12 → T' 0 j = if j = 2 then T 0 2 + 1 else T 0 j) := by
  obtain ⟨d1, d2, d3, d4, d5⟩ := id hD
  obtain ⟨⟨a0, a1, a2, a3, a4, a5, a6, a7, a8, a9, a10, a11, a13, a15⟩, p14, p1, p2, p4, p5, p6, p12, p13, p17, p19, p20, p22, q0, q1, q2⟩ := id d3
  have k2 : Mc s 2 = nI (T 0 2) := d2.1.2.2.1
  have h4 : (4 : Int32) * nI (T 0 2) = nI (4 * T 0 2) := gN_4 _
  have body : fX14_readPlace 5000 Mm0 Lm0 Rm = (goB3 (fX14_readFresh 5000 Mm Lm Rm) fun x16 M17 L18 => Option.bind (if (M17 b 2) < 8 then some (M17 b 2) else some 0) fun x24 => goB2 (fX14_readPlants 5000 M17 L18 Rm (b + 1) 32 (4 * x24) 9) fun M30 L31 => if (M30 102 9) = 5 then some (M30, L31) else goB2 (fX14_names M30 L31 Rm x16 0 (M30 b 2)) fun M36 L37 => some (goWI M36 b 2 ((M36 b 2) + 1), L37)) := by
    unfold fX14_readPlace
    simp only [hRm, gBd, gNm]
    rw [hbeg, gB2]
  rw [body]
  unfold fX9_placeLine fX14_readPlants
  rw [hRc, k2, gNm, if_pos (show nI (T 0 2) < 8 from nI_lt (b := 8) h8 (by decide))]
  rcases rFresh hRm hb hL h d4 with ⟨w, c0, m0, q, q1, q2', q3, q4⟩ | ⟨f, w, hf, c0, m0⟩
  · obtain ⟨st1, Mc1, Lc1, Mm1, Lm1, i1, n1, n1', t1, f1⟩ := rNext (Mc2 := Mc) (Lc2 := goWL Lc 67 9 w) (Mm2 := Mm) (Lm2 := Lm) h q1 q2' q3 q4 rfl rfl rfl rfl
    have hD1 : rD s b Mc1 Lc1 Mm1 Lm1 T := rD_tok hs hb (rD_fr (Lc' := goWL Lc 67 9 w) hD (fun _ _ => rfl) rfl (gWL_ne (by decide)) (fun _ _ _ => rfl) rfl) f1
    have g1 : gFr s b Mc Lc Mm Lm Mc1 Lc1 Mm1 Lm1 := gFr_trans ⟨fun _ _ _ _ _ => rfl, fun _ _ => rfl, fun a _ h2 _ => gWL_ne (x := w) (k := 9) h2, fun _ _ _ _ => rfl, fun _ _ => rfl, fun _ _ _ => rfl⟩ (gFr_tok f1)
    have j2 : Mm1 b 2 = nI (T 0 2) := tM_0 hD1.1 (by decide)
    rw [c0, m0, n1, n1', gB2, gB2, gB3, gB3, if_neg (by decide), j2, if_pos (show nI (T 0 2) < 8 from nI_lt (b := 8) h8 (by decide)), gBd, h4]
    rcases rPlaceL (e := e) (T := T) hs hb hRc hRm h8 a1 (T 0 1) 0 st1 Mc1 Mm1 Lc1 Lm1 T 5000 5000 (by omega) (by omega) (by omega) t1 hD1.1 hD1.2.1 (fun _ _ => rfl) p1 (fun j hj => q2 j (by omega)) with ⟨st', Mc2, Lc2, Mm2, Lm2, U, r1, r2, r3, r4, r5, r6, r7, r8, r9, r10, r11⟩ | ⟨f, st', Mc', Lc', Mm', Lm', r1, r2, r3, r4, r5, r6, r7, r8, r9⟩
    · have r2' : lX9_placeLine_25 5000 (nI (T 0 2)) Rc 5000 0 Mc1 Lc1 = _ := r2
      have r3' : lX14_readPlants_3 5000 (nI (4 * T 0 2)) 9 Rm (b + 1) 32 5000 0 Mm1 Lm1 = some (Mm2, Lm2) := r3
      have u0 : U 0 = T 0 := r7 0 (by decide)
      have hT' : ∀ j, j ≠ 12 → (tW (tW U 0 12 (T 0 12 + 1)) 0 2 (T 0 2 + 1)) 0 j = if j = 2 then T 0 2 + 1 else T 0 j := by
        intro j hj
        by_cases c : j = 2
        · rw [if_pos c, c, tW_e]
        · rw [if_neg c, tW_i c, tW_i hj, u0]
      have f12 : (tW (tW U 0 12 (T 0 12 + 1)) 0 2 (T 0 2 + 1)) 0 12 = T 0 12 + 1 := by rw [tW_i (by decide), tW_e]
      have hle : ∀ x, pN T x ≤ pN (tW (tW U 0 12 (T 0 12 + 1)) 0 2 (T 0 2 + 1)) x := by
        intro x
        unfold pN
        rw [hT' 2 (by decide), hT' 4 (by decide), hT' 5 (by decide), hT' 8 (by decide), hT' 11 (by decide)]
        repeat' split
        all_goals first | omega | exact Nat.le_refl _
      obtain ⟨Mc3, Lc3, Mm3, Lm3, y1, y2, y3, y4, y5, y6, y7, y8, y9, y10⟩ := rTell (Mc := goWI Mc2 s 2 (nI (T 0 2 + 1))) (Lc := Lc2) (Mm := Mm2) (Lm := Lm2) (R := Rm) (cnt := pN T) (cnt' := pN (tW (tW U 0 12 (T 0 12 + 1)) 0 2 (T 0 2 + 1))) (nn := T 0 12) (k := 0) (m := T 0 2) (w := w) hRm hb (rNm_fr hD1.2.2.2.1 (by rw [gWI_na (by omega), r10.1 67 (by decide) (by omega)]) (by rw [goWI_ne (by omega), r10.1 69 (by decide) (by omega)]) (by rw [goWI_ne (by omega), r10.1 70 (by decide) (by omega)]) (r10.2.1 68 (by decide)) (by rw [r10.2.2.1 b (by omega) (by omega) (by omega)]) (r10.2.2.1 _ (by omega) (by omega) (by omega)) (r10.2.2.1 _ (by omega) (by omega) (by omega)) (r10.2.2.2 _ (by omega))) (by omega) (by decide) (by unfold pN; rw [if_pos rfl, tW_e]; omega) hle (by rw [r10.2.1 67 (by decide), f1.2.1 67 (by decide), gWL_eq])
      have y1' : fX9_tell (goWI Mc2 s 2 (nI (T 0 2 + 1))) Lc2 0 (nI (T 0 2)) = some (1, Mc3, Lc3) := y1
      have y2' : fX14_names Mm2 Lm2 Rm w 0 (nI (T 0 2)) = some (Mm3, Lm3) := y2
      have j2' : Mm2 b 2 = nI (T 0 2) := by have := tM_0 r5 (i := 2) (by decide); rw [u0] at this; exact this
      rw [r2', y1', gB3, r3', gB2, gB2, if_neg (rT_9 r4), j2', y2', gB2, y8 2 (by decide), j2', nI_1]
      have c3 : ∀ a, a ≠ s → a ≠ 67 → a ≠ 69 → a ≠ 70 → Mc3 a = Mc2 a := fun a h1 h2 h3 h4 => by rw [y4 a h2 h3 h4, goWI_ne h1]
      have m6o : ∀ a, (a < b ∨ b + 25 < a) → goWI Mm3 b 2 (nI (T 0 2 + 1)) a = Mm2 a := fun a ha => by rw [goWI_ne (by omega), y7 a (by omega) (by omega) (by omega)]
      refine Or.inl ⟨st', Mc3, Lc3, _, Lm3, tW (tW U 0 12 (T 0 12 + 1)) 0 2 (T 0 2 + 1), by omega, rfl, rfl, rT_fr r4 (c3 1 (by omega) (by decide) (by decide) (by decide)) (c3 2 (by omega) (by decide) (by decide) (by decide)) (m6o _ (by omega)) (m6o _ (by omega)) (m6o _ (by omega)) (y6 1 (by decide)) (y9 102 (by omega)), ⟨tM_w0 (tM_nm r5 y7 y8 y10), ?_, pO_place d3 h0 h8 r7 r8 r9, ?_, ?_⟩, ?_, ?_, hT'⟩
      · obtain ⟨xpa, xpb, xpc, xpd, xpe, xpf, xpg, xph, xpi, xpj, xpk, xpx, xpm, xpn, xpo, xpq, xpr⟩ := r6
        have mm : ∀ r, r ≤ 27 → r ≠ 0 → Mc3 (s + r) = Mc2 (s + r) := fun r h1 h2 => c3 _ (by omega) (by omega) (by omega) (by omega)
        have hz : ∀ r, r ≠ 0 → (tW (tW U 0 12 (T 0 12 + 1)) 0 2 (T 0 2 + 1)) r = U r := fun r h1 => by rw [tW_r h1, tW_r h1]
        have hf : ∀ j, j ≠ 2 → j ≠ 12 → (tW (tW U 0 12 (T 0 12 + 1)) 0 2 (T 0 2 + 1)) 0 j = U 0 j := fun j h1 h2 => by rw [tW_i h1, tW_i h2]
        refine ⟨?_, pbF xpb (mm 1 (by decide) (by decide)) (hz 1 (by decide)), pcF xpc (mm 2 (by decide) (by decide)) (hz 2 (by decide)) (hz 3 (by decide)) (hf 3 (by decide) (by decide)), pdF xpd (mm 3 (by decide) (by decide)) (mm 4 (by decide) (by decide)) (hz 2 (by decide)) (hz 3 (by decide)) (hf 3 (by decide) (by decide)), peF xpe (mm 5 (by decide) (by decide)) (hz 4 (by decide)), pfF xpf (mm 7 (by decide) (by decide)) (hz 4 (by decide)) (hz 5 (by decide)), pgF xpg (mm 8 (by decide) (by decide)) (hz 22 (by decide)) (hf 15 (by decide) (by decide)) (hf 1 (by decide) (by decide)), phF xph (mm 9 (by decide) (by decide)) (hf 5 (by decide) (by decide)) (hf 7 (by decide) (by decide)), piF xpi (mm 10 (by decide) (by decide)) (mm 11 (by decide) (by decide)) (mm 13 (by decide) (by decide)) (mm 16 (by decide) (by decide)) (mm 15 (by decide) (by decide)) (hz 6 (by decide)) (hz 7 (by decide)) (hz 11 (by decide)) (hz 8 (by decide)) (hz 9 (by decide)) (hf 5 (by decide) (by decide)), pjF xpj (mm 12 (by decide) (by decide)) (hz 23 (by decide)), pkF xpk (mm 14 (by decide) (by decide)) (hz 12 (by decide)), pxF xpx (mm 17 (by decide) (by decide)) (mm 18 (by decide) (by decide)) (mm 19 (by decide) (by decide)) (mm 20 (by decide) (by decide)) (hz 13 (by decide)) (hz 14 (by decide)) (hz 15 (by decide)) (hz 16 (by decide)) (hf 7 (by decide) (by decide)), pmF xpm (mm 21 (by decide) (by decide)) (hf 8 (by decide) (by decide)) (hf 13 (by decide) (by decide)) (hf 9 (by decide) (by decide)) (hf 10 (by decide) (by decide)), pnF xpn (mm 22 (by decide) (by decide)) (mm 23 (by decide) (by decide)) (hz 17 (by decide)) (hz 18 (by decide)) (hf 9 (by decide) (by decide)), poF xpo (mm 24 (by decide) (by decide)) (hz 19 (by decide)) (hf 10 (by decide) (by decide)), pqF xpq (mm 25 (by decide) (by decide)) (hf 11 (by decide) (by decide)), prF xpr (mm 26 (by decide) (by decide)) (mm 27 (by decide) (by decide)) (hz 20 (by decide)) (hz 21 (by decide)) (hf 11 (by decide) (by decide))⟩
        obtain ⟨z0, z1, z2, z3, z4, z6⟩ := xpa
        unfold paC
        rw [y4 s (by omega) (by omega) (by omega), tW_e, hf 0 (by decide) (by decide), hf 1 (by decide) (by decide), hf 3 (by decide) (by decide), hf 4 (by decide) (by decide), hf 15 (by decide) (by decide), gWI_nk (j := 0) (by decide), gWI_nk (j := 1) (by decide), gWI_nk (j := 3) (by decide), gWI_nk (j := 4) (by decide), gWI_nk (j := 6) (by decide), gWI_self]
        exact ⟨z0, z1, rfl, z3, z4, z6⟩
      · rw [f12]
        exact rNm_fr y3 rfl rfl rfl rfl (gWI_nk (by decide)) (goWI_ne (by omega)) (goWI_ne (by omega)) rfl
      · rw [f12, hT' 2 (by decide), hT' 4 (by decide), hT' 5 (by decide), hT' 8 (by decide), hT' 11 (by decide), if_pos rfl, if_neg (by decide), if_neg (by decide), if_neg (by decide), if_neg (by decide)]
        omega
      · exact ⟨by rw [c3 71 (by omega) (by decide) (by decide) (by decide), r10.1 71 (by decide) (by omega), f1.1 71 (by decide)], by rw [y5 10 (by decide), gWI_na (by omega), r10.1 67 (by decide) (by omega), f1.1 67 (by decide)], by rw [m6o 102 (by omega), r11.2, f1.2.2.2.1 14 (by decide)]⟩
      · exact gFr_trans g1 (gFr_trans r11.1 ⟨fun a h1 h2 h3 h4 => c3 a (by omega) h2 (by omega) (by omega), fun j hj => by rw [c3 1 (by omega) (by decide) (by decide) (by decide)], fun a h1 h2 h3 => y6 a h3, fun a h1 h2 h3 => m6o a h3, fun j hj => by rw [m6o 102 (by omega)], fun a h1 h2 => y9 a h2⟩)
    · have r2' : lX9_placeLine_25 5000 (nI (T 0 2)) Rc 5000 0 Mc1 Lc1 = some (0, Mc', Lc') := r2
      have r3' : lX14_readPlants_3 5000 (nI (4 * T 0 2)) 9 Rm (b + 1) 32 5000 0 Mm1 Lm1 = some (Mm', Lm') := r3
      rw [r2', r3', gB2, gB2, if_pos r6]
      exact Or.inr ⟨f, st', Mc', Lc', Mm', Lm', r1, rfl, rfl, r4, r5, r6, r7, r8, gFr_trans g1 r9⟩
  · have j2 : mF Mm f st b 2 = nI (T 0 2) := by unfold mF; rw [gWI_na (by omega), gWI_na (by omega), gWI_na (by omega)]; exact tM_0 d1 (by decide)
    have hov : lX14_readPlants_3 5000 (nI (4 * T 0 2)) 9 Rm (b + 1) 32 5000 0 (mF Mm f st) Lm = some (mF Mm f st, Lm) := by
      rw [lX14_readPlants_3, hRm, gBd, mF_9, if_pos rfl]
      split <;> rfl
    rw [c0, m0, gB3, gB3, if_pos rfl, j2, if_pos (show nI (T 0 2) < 8 from nI_lt (b := 8) h8 (by decide)), gBd, h4, hov, gB2, gB2, if_pos mF_9]
    exact rOut_f (f := f) (by rcases hf with e | e <;> rw [e] <;> decide) rfl rfl gFr_refl
end lines19
