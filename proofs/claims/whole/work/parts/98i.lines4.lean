/-! LINES: hill -/
section lines4
variable {e st s b : Nat} {Mc Mm Mm0 Mc' Mm' : goMI} {Lc Lm Lm0 Lc' Lm' : goML} {Rc Rm : goMR} {T T' : tH}
theorem wc_hours : fX11_codeOf 5000 1000100 = some 8902227 ∧ fX14_wordOf 5000 1000147 = some 8902227 := by decide +kernel
theorem wc_plants : fX11_codeOf 5000 1000101 = some 549501587 ∧ fX14_wordOf 5000 1000148 = some 549501587 := by decide +kernel
theorem pO_hill {v w : Nat} (h : pO T) (h0 : T 0 0 = 0) (h1 : 2 ≤ v) (h2 : v ≤ 12) (h3 : 1 ≤ w) (h4 : w ≤ 4) : pO (tW (tW T 0 0 v) 0 1 w) := by
  obtain ⟨⟨a0, a1, a2, a3, a4, a5, a6, a7, a8, a9, a10, a11, a13, a15⟩, p14, p1, p2, p4, p5, p6, p12, p13, p17, p19, p20, p22, q0, q1, q2⟩ := h
  have hz : ∀ r, r ≠ 0 → tW (tW T 0 0 v) 0 1 w r = T r := fun r hr => by rw [tW_r hr, tW_r hr]
  have hf : ∀ j, j ≠ 0 → j ≠ 1 → tW (tW T 0 0 v) 0 1 w 0 j = T 0 j := fun j h1 h2 => by rw [tW_i h2, tW_i h1]
  have hv : tW (tW T 0 0 v) 0 1 w 0 0 = v := by rw [tW_i (by decide), tW_e]
  have z := q1 h0
  have z2 : T 0 2 = 0 := z 0 (by decide) 2
  have z3 : T 0 3 = 0 := z 0 (by decide) 3
  have z5 : T 0 5 = 0 := z 0 (by decide) 5
  have z7 : T 0 7 = 0 := z 0 (by decide) 7
  unfold pO tJ
  unfold tJ at p2
  rw [hv, tW_e, hf 2 (by decide) (by decide), hf 3 (by decide) (by decide), hf 4 (by decide) (by decide), hf 5 (by decide) (by decide), hf 6 (by decide) (by decide), hf 7 (by decide) (by decide), hf 8 (by decide) (by decide), hf 9 (by decide) (by decide), hf 10 (by decide) (by decide), hf 11 (by decide) (by decide), hf 13 (by decide) (by decide), hf 14 (by decide) (by decide), hf 15 (by decide) (by decide), hz 1 (by decide), hz 2 (by decide), hz 3 (by decide), hz 4 (by decide), hz 5 (by decide), hz 6 (by decide), hz 7 (by decide), hz 8 (by decide), hz 9 (by decide), hz 10 (by decide), hz 11 (by decide), hz 12 (by decide), hz 13 (by decide), hz 14 (by decide), hz 15 (by decide), hz 16 (by decide), hz 17 (by decide), hz 18 (by decide), hz 19 (by decide), hz 20 (by decide), hz 21 (by decide), hz 22 (by decide), hz 23 (by decide)]
  exact ⟨⟨h2, h4, a2, a3, a4, a5, a6, a7, a8, a9, a10, a11, a13, a15⟩, p14, p1, p2, p4, p5, fun g hg => absurd hg (by omega), p12, fun k hk => absurd hk (by omega), p17, p19, p20, p22, Or.inr ⟨h1, h3⟩, fun h => absurd h (by omega), q2⟩
theorem rHill (hs : s = 7 ∨ s = 37) (hb : 121 ≤ b) (hRc : goRr Rc 67 7 = s) (hRm : Rm 102 4 = some b) (h0 : T 0 0 = 0) (hm0 : Mm0 b 0 = 0) (hbeg : fX14_goesOn 5000 Mm0 Lm0 = some (Mm, Lm)) (h : rT e st Mc Lc Mm Lm) (hD : rD s b Mc Lc Mm Lm T) :
    rOut e s b st Mc Lc Mm Lm (fX9_hillLine 5000 Mc Lc Rc) (fX14_readHill 5000 Mm0 Lm0 Rm) (fun T' => T' 0 0 ≠ 0 ∧ ∀ j, 2 ≤ j → T' 0 j = T 0 j) := by
  have hm0' : ¬ 0 < Mm0 b 0 := by rw [hm0]; decide
  have body : fX14_readHill 5000 Mm0 Lm0 Rm = (goB3 (fX14_readPart 5000 Mm Lm 1000147 2 12) fun x22 M23 L24 => goB3 (fX14_readPart 5000 M23 L24 1000148 1 4) fun x26 M27 L28 => if (M27 102 9) = 5 then some (M27, L28) else some (goWI (goWI M27 b 0 x22) b 1 x26, L28)) := by
    unfold fX14_readHill
    simp only [hRm, gBd, gNm]
    rw [if_neg hm0', gBd, hbeg, gB2]
  rw [body]
  unfold fX9_hillLine fX14_readPart
  rw [hRc]
  rcases rWord h wc_hours.1 wc_hours.2 with ⟨st1, Mc1, Lc1, Mm1, Lm1, i1, c1, m1, t1, f1⟩ | ⟨c1, m1⟩
  · rw [c1, m1, gB3, if_neg (by decide), gB2]
    have hD1 := rD_tok hs hb hD f1
    rcases rWholeI (lo := 2) (hi := 12) (by decide) (by decide) t1 with ⟨v, v1, v2, c2, v3, m2, q, q1, q2, q3, q4⟩ | ⟨f, hf, c2, m2⟩
    · have c2' : fX9_wholeIn Mc1 2 12 = some (1, Mc1) := c2
      have m2' : fX14_readWhole 5000 Mm1 Lm1 2 12 = (goB2 (fX14_goesOn 5000 Mm1 Lm1) fun M L => some (nI v, M, L)) := m2
      obtain ⟨st2, Mc2, Lc2, Mm2, Lm2, i2, n2, n3, t2, f2⟩ := rNext (Mc2 := goWI Mc1 s 0 (nI v)) (Lc2 := Lc1) (Mm2 := Mm1) (Lm2 := Lm1) t1 q1 q2 q3 q4 (goWI_ne (by omega)) (goWI_ne (by omega)) rfl rfl
      rw [c2', m2', gB2, if_neg (by decide), v3, gNm, n2, n3, gB2, gB2, gB3, gB3]
      have g2 : gFr s b Mc Lc Mm Lm Mc2 Lc2 Mm2 Lm2 := gFr_trans (gFr_tok f1) (gFr_trans ⟨fun a h1 h2 h3 h4 => goWI_ne (x := nI v) (k := 0) (a := s) (by omega), fun j _ => gWI_na (by omega), fun _ _ _ _ => rfl, fun _ _ _ _ => rfl, fun _ _ => rfl, fun _ _ _ => rfl⟩ (gFr_tok f2))
      rcases rWord t2 wc_plants.1 wc_plants.2 with ⟨st3, Mc3, Lc3, Mm3, Lm3, i3, c4, m4, t3, f3⟩ | ⟨c4, m4⟩
      · rw [c4, m4, gB3, if_neg (by decide), gB2]
        rcases rWholeI (lo := 1) (hi := 4) (by decide) (by decide) t3 with ⟨v', v1', v2', c5, v3', m5, q', q1', q2', q3', q4'⟩ | ⟨f, hf, c5, m5⟩
        · have c5' : fX9_wholeIn Mc3 1 4 = some (1, Mc3) := c5
          have m5' : fX14_readWhole 5000 Mm3 Lm3 1 4 = (goB2 (fX14_goesOn 5000 Mm3 Lm3) fun M L => some (nI v', M, L)) := m5
          obtain ⟨st4, Mc4, Lc4, Mm4, Lm4, i4, n4, n5, t4, f4⟩ := rNext (Mc2 := goWI Mc3 s 1 (nI v')) (Lc2 := Lc3) (Mm2 := Mm3) (Lm2 := Lm3) t3 q1' q2' q3' q4' (goWI_ne (by omega)) (goWI_ne (by omega)) rfl rfl
          rw [c5', m5', gB2, if_neg (by decide), v3', gNm, n4, n5, gB2, gB2, gB3, gB3, if_neg (rT_9 t4)]
          have cA : ∀ a, a ≠ s → a ≠ 1 → Mc4 a = Mc a := fun a h1 h2 => by rw [f4.1 a h2, goWI_ne h1, f3.1 a h2, f2.1 a h2, goWI_ne h1, f1.1 a h2]
          have cS : Mc4 s 0 = nI v ∧ Mc4 s 1 = nI v' ∧ ∀ j, j ≠ 0 → j ≠ 1 → Mc4 s j = Mc s j := by
            rw [f4.1 s (by omega)]
            refine ⟨?_, by rw [gWI_self, if_pos rfl], fun j j0 j1 => ?_⟩
            · rw [gWI_nk (by decide), f3.1 s (by omega), f2.1 s (by omega), gWI_self, if_pos rfl]
            · rw [gWI_nk j1, f3.1 s (by omega), f2.1 s (by omega), gWI_nk j0, f1.1 s (by omega)]
          have mA : ∀ a, a ≠ 102 → a ≠ 104 → Mm4 a = Mm a := fun a h1 h2 => by rw [f4.2.2.1 a h1 h2, f3.2.2.1 a h1 h2, f2.2.2.1 a h1 h2, f1.2.2.1 a h1 h2]
          have lA : ∀ a, a ≠ 1 → Lc4 a = Lc a := fun a h1 => by rw [f4.2.1 a h1, f3.2.1 a h1, f2.2.1 a h1, f1.2.1 a h1]
          have lM : ∀ a, a ≠ 102 → Lm4 a = Lm a := fun a h1 => by rw [f4.2.2.2.2.1 a h1, f3.2.2.2.2.1 a h1, f2.2.2.2.2.1 a h1, f1.2.2.2.2.1 a h1]
          obtain ⟨d1, d2, d3, d4, d5⟩ := id hD
          have hsz : sz T (tW (tW T 0 0 v) 0 1 v') := fun r hr => by rw [tW_r hr, tW_r hr]
          have hT' : ∀ j, j ≠ 0 → j ≠ 1 → tW (tW T 0 0 v) 0 1 v' 0 j = T 0 j := fun j h1 h2 => by rw [tW_i h2, tW_i h1]
          have hv : tW (tW T 0 0 v) 0 1 v' 0 0 = v := by rw [tW_i (by decide), tW_e]
          have z := d3.2.2.2.2.2.2.2.2.2.2.2.2.2.2.1 h0
          refine Or.inl ⟨st4, Mc4, Lc4, goWI (goWI Mm4 b 0 (nI v)) b 1 (nI v'), Lm4, tW (tW T 0 0 v) 0 1 v', by omega, rfl, rfl, rT_fr t4 rfl rfl (by rw [goWI_ne (by omega), goWI_ne (by omega)]) (by rw [goWI_ne (by omega), goWI_ne (by omega)]) (by rw [goWI_ne (by omega), goWI_ne (by omega)]) rfl rfl, ⟨tM_w0 (tM_w0 (tM_fr d1 (fun r hr => mA _ (by omega) (by omega)))), ?_, pO_hill d3 h0 v1 v2 v1' v2', ?_, ?_⟩, ?_, ?_, ⟨by rw [hv]; omega, fun j hj => hT' j (by omega) (by omega)⟩⟩
          · obtain ⟨xa, xb, xc, xd, xe, xf, xg, xh, xi, xj, xk, xx, xm, xn, xo, xq, xr⟩ := d2
            have mm : ∀ r, 1 ≤ r → r ≤ 27 → Mc4 (s + r) = Mc (s + r) := fun r h1 h2 => cA _ (by omega) (by omega)
            refine ⟨?_, pbF xb (mm 1 (by decide) (by decide)) (hsz 1 (by decide)), pcF xc (mm 2 (by decide) (by decide)) (hsz 2 (by decide)) (hsz 3 (by decide)) (hT' 3 (by decide) (by decide)), pdF xd (mm 3 (by decide) (by decide)) (mm 4 (by decide) (by decide)) (hsz 2 (by decide)) (hsz 3 (by decide)) (hT' 3 (by decide) (by decide)), peF xe (mm 5 (by decide) (by decide)) (hsz 4 (by decide)), pfF xf (mm 7 (by decide) (by decide)) (hsz 4 (by decide)) (hsz 5 (by decide)), ?_, phF xh (mm 9 (by decide) (by decide)) (hT' 5 (by decide) (by decide)) (hT' 7 (by decide) (by decide)), piF xi (mm 10 (by decide) (by decide)) (mm 11 (by decide) (by decide)) (mm 13 (by decide) (by decide)) (mm 16 (by decide) (by decide)) (mm 15 (by decide) (by decide)) (hsz 6 (by decide)) (hsz 7 (by decide)) (hsz 11 (by decide)) (hsz 8 (by decide)) (hsz 9 (by decide)) (hT' 5 (by decide) (by decide)), pjF xj (mm 12 (by decide) (by decide)) (hsz 23 (by decide)), pkF xk (mm 14 (by decide) (by decide)) (hsz 12 (by decide)), pxF xx (mm 17 (by decide) (by decide)) (mm 18 (by decide) (by decide)) (mm 19 (by decide) (by decide)) (mm 20 (by decide) (by decide)) (hsz 13 (by decide)) (hsz 14 (by decide)) (hsz 15 (by decide)) (hsz 16 (by decide)) (hT' 7 (by decide) (by decide)), pmF xm (mm 21 (by decide) (by decide)) (hT' 8 (by decide) (by decide)) (hT' 13 (by decide) (by decide)) (hT' 9 (by decide) (by decide)) (hT' 10 (by decide) (by decide)), pnF xn (mm 22 (by decide) (by decide)) (mm 23 (by decide) (by decide)) (hsz 17 (by decide)) (hsz 18 (by decide)) (hT' 9 (by decide) (by decide)), poF xo (mm 24 (by decide) (by decide)) (hsz 19 (by decide)) (hT' 10 (by decide) (by decide)), pqF xq (mm 25 (by decide) (by decide)) (hT' 11 (by decide) (by decide)), prF xr (mm 26 (by decide) (by decide)) (mm 27 (by decide) (by decide)) (hsz 20 (by decide)) (hsz 21 (by decide)) (hT' 11 (by decide) (by decide))⟩
            · obtain ⟨y0, y1, y2, y3, y4, y6⟩ := xa
              unfold paC
              rw [cS.1, cS.2.1, cS.2.2 2 (by decide) (by decide), cS.2.2 3 (by decide) (by decide), cS.2.2 4 (by decide) (by decide), cS.2.2 6 (by decide) (by decide), hv, tW_e, hT' 2 (by decide) (by decide), hT' 3 (by decide) (by decide), hT' 4 (by decide) (by decide), hT' 15 (by decide) (by decide)]
              exact ⟨rfl, rfl, y2, y3, y4, y6⟩
            · intro k hk
              rw [hT' 15 (by decide) (by decide), z 0 (by decide) 15] at hk
              cases hk
          · rw [hT' 12 (by decide) (by decide)]
            have hpn : pN (tW (tW T 0 0 v) 0 1 v') = pN T := by
              funext x
              unfold pN
              rw [hT' 2 (by decide) (by decide), hT' 4 (by decide) (by decide), hT' 5 (by decide) (by decide), hT' 8 (by decide) (by decide), hT' 11 (by decide) (by decide)]
            rw [hpn]
            exact rNm_fr d4 (by rw [cA 67 (by omega) (by decide)]) (cA 69 (by omega) (by decide)) (cA 70 (by omega) (by decide)) (lA 68 (by decide)) (by rw [gWI_nk (by decide), gWI_nk (by decide), mA b (by omega) (by omega)]) (by rw [goWI_ne (by omega), goWI_ne (by omega), mA _ (by omega) (by omega)]) (by rw [goWI_ne (by omega), goWI_ne (by omega), mA _ (by omega) (by omega)]) (lM _ (by omega))
          · rw [hT' 12 (by decide) (by decide), hT' 2 (by decide) (by decide), hT' 4 (by decide) (by decide), hT' 5 (by decide) (by decide), hT' 8 (by decide) (by decide), hT' 11 (by decide) (by decide)]
            exact d5
          · exact ⟨cA 71 (by omega) (by decide), by rw [cA 67 (by omega) (by decide)], by rw [gWI_na (by omega), gWI_na (by omega), f4.2.2.2.1 14 (by decide), f3.2.2.2.1 14 (by decide), f2.2.2.2.1 14 (by decide), f1.2.2.2.1 14 (by decide)]⟩
          · refine gFr_trans g2 (gFr_trans (gFr_tok f3) (gFr_trans (gFr_trans ⟨fun a h1 h2 h3 h4 => goWI_ne (x := nI v') (k := 1) (a := s) (by omega), fun j _ => gWI_na (by omega), fun _ _ _ _ => rfl, fun _ _ _ _ => rfl, fun _ _ => rfl, fun _ _ _ => rfl⟩ (gFr_tok f4)) ⟨fun _ _ _ _ _ => rfl, fun _ _ => rfl, fun _ _ _ _ => rfl, fun a h1 h2 h3 => by rw [goWI_ne (by omega), goWI_ne (by omega)], fun j hj => by rw [gWI_na (by omega), gWI_na (by omega)], fun _ _ _ => rfl⟩))
        · have c5' : fX9_wholeIn Mc3 1 4 = some (0, cF Mc3 f st3) := c5
          have m5' : fX14_readWhole 5000 Mm3 Lm3 1 4 = some (1, mF Mm3 f st3, Lm3) := m5
          rw [c5', m5', gB2, if_pos rfl, gB3, gB3, if_pos mF_9]
          exact rOut_f (f := f) (by rcases hf with e | e <;> rw [e] <;> decide) rfl rfl (gFr_trans g2 (gFr_tok f3))
      · rw [c4, m4, gB3, if_pos rfl, gB2, ov_whole mF_9, gB3, gB3, if_pos mF_9]
        exact rOut_f (f := 1) (by decide) rfl rfl g2
    · have c2' : fX9_wholeIn Mc1 2 12 = some (0, cF Mc1 f st1) := c2
      have m2' : fX14_readWhole 5000 Mm1 Lm1 2 12 = some (2, mF Mm1 f st1, Lm1) := m2
      rw [c2', m2', gB2, if_pos rfl, gB3, gB3, ov_wants mF_9, gB2, ov_whole mF_9, gB3, gB3, if_pos mF_9]
      exact rOut_f (f := f) (by rcases hf with e | e <;> rw [e] <;> decide) rfl rfl (gFr_tok f1)
  · rw [c1, m1, gB3, if_pos rfl, gB2, ov_whole mF_9, gB3, gB3, ov_wants mF_9, gB2, ov_whole mF_9, gB3, gB3, if_pos mF_9]
    exact rOut_f (f := 1) (by decide) rfl rfl gFr_refl
end lines4
