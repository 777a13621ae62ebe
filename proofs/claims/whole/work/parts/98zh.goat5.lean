/-! LINES: goat, the whole line -/
section lines28
variable {e s b st : Nat} {Rc Rm : goMR} {Mc Mm Mm0 : goMI} {Lc Lm Lm0 : goML} {T : tH}
theorem gOr_z {w : Nat → Nat} : gOr w 0 = 0 := rfl
theorem ov_Kd {β : Type} {K : Int32 → Int32 → goMI → goML → Option β} (h : Mm 102 9 = 5) : mKd Rm Mm Lm K = K (-1) (-2) Mm Lm := by
  unfold mKd
  rw [mIsWord0 (ov_n (by decide) h), gBd, if_pos rfl, mIsWord0 (ov_n (by decide) h), gBd, if_pos rfl, mIsWord0 (ov_n (by decide) h), gBd, if_pos rfl, mIsWord0 (ov_n (by decide) h), gBd, if_pos rfl, gBd, if_pos rfl, ov_fl h, gBd, gBd, ov_on h, gB2, if_neg (by decide), gB3]
theorem rGoat (hs : s = 7 ∨ s = 37) (hb : 121 ≤ b) (hRc : goRr Rc 67 7 = s) (hRm : Rm 102 4 = some b) (hL : ∀ i, i < 18 → Lc 73 i = kw i) (h0 : T 0 0 ≠ 0) (h6 : T 0 5 < 6) (hbeg : fX14_begins 5000 Mm0 Lm0 Rm (Mm0 b 5) 6 = some (Mm, Lm)) (h : rT e st Mc Lc Mm Lm) (hD : rD s b Mc Lc Mm Lm T) :
    rOut e s b st Mc Lc Mm Lm (fX9_goatLine 5000 Mc Lc Rc) (fX14_readGoat 5000 Mm0 Lm0 Rm) (fun T' => ∀ j, j ≠ 12 → T' 0 j = if j = 5 then T 0 5 + 1 else T 0 j) := by
  obtain ⟨d1, d2, d3, d4, d5⟩ := id hD
  obtain ⟨⟨a0, a1, a2, a3, a4, a5, a6, a7, a8, a9, a10, a11, a13, a15⟩, _, _, _, _, _, _, _, _, _, _, _, _, q0, _⟩ := id d3
  have h11 : 1 ≤ T 0 1 := by omega
  have k9 : Mc (s + 9) 0 = nI (T 0 5) := d2.2.2.2.2.2.2.2.1.1
  rw [mGoat rfl, cGoat rfl, hRm, gBd, hbeg, gB2, gNm, hRc, k9, if_pos (show nI (T 0 5) < 6 from nI_lt (b := 6) h6 (by decide))]
  rcases rFresh hRm hb hL h d4 with ⟨w, c0, m0, q0', q01, q02, q03, q04⟩ | ⟨f, w, hf, c0, m0⟩
  · obtain ⟨st0, Mc0, Lc0, Mm1, Lm1, i0, n0, n0', t0, f0⟩ := rNext (Mc2 := Mc) (Lc2 := goWL Lc 67 9 w) (Mm2 := Mm) (Lm2 := Lm) h q01 q02 q03 q04 rfl rfl rfl rfl
    have g0 : gFr s b Mc Lc Mm Lm Mc0 Lc0 Mm1 Lm1 := gFr_trans ⟨fun _ _ _ _ _ => rfl, fun _ _ => rfl, fun a _ h2 _ => gWL_ne (x := w) (k := 9) h2, fun _ _ _ _ => rfl, fun _ _ => rfl, fun _ _ _ => rfl⟩ (gFr_tok f0)
    have hN0 : rNm b (pN T) (T 0 12) Mc0 Lc0 Mm1 Lm1 := rNm_fr d4 (by rw [f0.1 67 (by decide)]) (f0.1 69 (by decide)) (f0.1 70 (by decide)) (by rw [f0.2.1 68 (by decide), gWL_ne (by decide)]) (by rw [f0.2.2.1 b (by omega) (by omega)]) (f0.2.2.1 _ (by omega) (by omega)) (f0.2.2.1 _ (by omega) (by omega)) (f0.2.2.2.2.1 _ (by omega))
    have hL0 : ∀ i, i < 18 → Lc0 73 i = kw i := fun i hi => by rw [f0.2.1 73 (by decide), gWL_ne (by decide)]; exact hL i hi
    rw [c0, m0, n0, n0', gB2, gB2, gB3, gB3, if_neg (by decide)]
    rcases rKind (g := T 0 5) (cnt := pN T) (nn := T 0 12) hs hb hRc hRm hL0 h6 (pN_le d3) t0 hN0 with ⟨kd, mo, st1, Mc1, Lc1, Mm2, Lm2, hkd, hmo, i1, ck, mk, t1, f1⟩ | ⟨f, st1, Mc1, Lc1, Mm2, Lm2, x, y, hf, ck, mk, g1, hN1⟩
    · have hmo' : mo < T 0 5 ∨ mo = 4294967294 := hmo
      have g1 : gFr s b Mc Lc Mm Lm Mc1 Lc1 Mm2 Lm2 := gFr_trans g0 (gFr_trans ⟨fun a h1 h2 h3 h4 => by rw [goWI_ne (x := nI kd) (k := T 0 5) (a := s + 10) (by omega), goWI_ne (x := nI mo) (k := T 0 5) (a := s + 11) (by omega)], fun j _ => by rw [gWI_na (by omega), gWI_na (by omega)], fun _ _ _ _ => rfl, fun _ _ _ _ => rfl, fun _ _ => rfl, fun _ _ _ => rfl⟩ (gFr_tok f1))
      have hN1 : rNm b (pN T) (T 0 12) Mc1 Lc1 Mm2 Lm2 := rNm_fr hN0 (by rw [f1.1 67 (by decide), gWI_na (by omega), gWI_na (by omega)]) (by rw [f1.1 69 (by decide), goWI_ne (by omega), goWI_ne (by omega)]) (by rw [f1.1 70 (by decide), goWI_ne (by omega), goWI_ne (by omega)]) (f1.2.1 68 (by decide)) (by rw [f1.2.2.1 b (by omega) (by omega)]) (f1.2.2.1 _ (by omega) (by omega)) (f1.2.2.1 _ (by omega) (by omega)) (f1.2.2.2.2.1 _ (by omega))
      rw [ck, gB3, if_neg (by decide), mk]
      rcases rWord t1 wc_likes.1 wc_likes.2 with ⟨st2, Mc2, Lc2, Mm3, Lm3, i2, c2, m2, t2, f2⟩ | ⟨c2, m2⟩
      · have hN2 : rNm b (pN T) (T 0 12) Mc2 Lc2 Mm3 Lm3 := rNm_fr hN1 (by rw [f2.1 67 (by decide)]) (f2.1 69 (by decide)) (f2.1 70 (by decide)) (f2.2.1 68 (by decide)) (by rw [f2.2.2.1 b (by omega) (by omega)]) (f2.2.2.1 _ (by omega) (by omega)) (f2.2.2.1 _ (by omega) (by omega)) (f2.2.2.2.2.1 _ (by omega))
        have g2 := gFr_trans g1 (gFr_tok (s := s) (b := b) f2)
        have mA2 : ∀ a, a ≠ 102 → a ≠ 104 → Mm3 a = Mm a := fun a h1 h2 => by rw [f2.2.2.1 a h1 h2, f1.2.2.1 a h1 h2, f0.2.2.1 a h1 h2]
        have cA2 : ∀ a, a ≠ 1 → a ≠ s + 10 → a ≠ s + 11 → Mc2 a = Mc a := fun a h1 h2 h3 => by rw [f2.1 a h1, f1.1 a h1, goWI_ne h2, goWI_ne h3, f0.1 a h1]
        have mb5 : Mm3 b 5 = nI (T 0 5) := by rw [mA2 b (by omega) (by omega)]; exact tM_0 d1 (by decide)
        obtain ⟨tw1, tw2⟩ := rT_w t2
        rw [c2, gB3, if_neg (by decide)]
        by_cases c : Mc2 1 4 = 1
        · obtain ⟨_, q, q1, q2, q3, q4, l, l1, l8, lq, l6, l13, hlet⟩ := tw2 c
          have hlet' : ∀ j, j < l → Mm3 104 j = nI (97 + ((Mc2 2 (st2 + j)).toNatClampNeg - 97)) ∧ Mc2 2 (st2 + j) = nI (97 + ((Mc2 2 (st2 + j)).toNatClampNeg - 97)) ∧ (Mc2 2 (st2 + j)).toNatClampNeg - 97 < 26 := by
            intro j hj
            obtain ⟨z1, k, z2, z3, z4⟩ := hlet j hj
            rw [z1, z4, nI_clamp (by omega), show 97 + (k - 97) = k by omega]
            exact ⟨rfl, rfl, by omega⟩
          have he := t2.1.1
          have hT5 : nI (T 0 5) < 6 := nI_lt (b := 6) h6 (by decide)
          have k1 : Mc2 s 1 = nI (T 0 1) := by rw [cA2 s (by omega) (by omega) (by omega)]; exact d2.1.2.1
          have hmR : mR1 Rm w (nI kd) (nI mo) Mm2 Lm2 = Option.bind (lX14_readGoat_161 5000 (nI (T 0 5)) Rm 5000 0 Mm3) fun M106 => goB2 (fX14_goesOn 5000 M106 Lm3) fun M107 L108 => mR2 Rm w (nI kd) (nI mo) (nI (T 0 5)) (nI l) M107 L108 := by
            unfold mR1
            rw [m2, gB2, if_pos (tw1.mp c), gBd, hRm, gBd, mb5, if_pos hT5, gBd, gBd, gNm, l13, mb5]
          rw [hmR]
          unfold fX9_orderOf
          rw [if_pos c]
          rcases rOrdL (Rc := Rc) (Rm := Rm) (b := b) (s := s) (st := st2) (l := l) (g := T 0 5) (w := fun j => (Mc2 2 (st2 + j)).toNatClampNeg - 97) (T := T) (Mc0 := Mc2) (Mm0 := Mm3) (Lc := Lc2) hs hb hRc hRm h6 l8 (by omega) h11 a1 l6 t2.2.2.1 l13 t2.2.2.2.1 (tw1.mp c) k1 hlet' l 0 5000 5000 Mc2 Mm3 T (by omega) (by omega) (by omega) ⟨fun _ _ => rfl, fun _ _ => rfl, fun j hj => absurd hj (Nat.not_lt_zero _), fun _ _ => rfl, tM_fr d1 (fun r hr => mA2 _ (by omega) (by omega)), fun _ _ => rfl, fun _ _ => rfl, fun j hj => absurd hj (Nat.not_lt_zero _), fun j hj => absurd hj (Nat.not_lt_zero _), by rw [gOr_z]; rfl⟩ with ⟨Mc', Mm', T', o1, o2, hI, hl⟩ | ⟨Mc', Mm', o1, o2, x1, x4⟩
          · obtain ⟨x1, x2, x3, x4, x5, x6, x7, x8, x9, x10⟩ := hI
            have o1' : lX9_orderOf_21 5000 (nI (T 0 5)) Lc2 Rc 5000 0 0 Mc2 = (goB2 (fX11_advance 5000 (goWI Mc' (s + 16) (T 0 5) (nI l)) Lc2) fun M15 L16 => some (1, M15, L16)) := o1
            have o2' : lX14_readGoat_161 5000 (nI (T 0 5)) Rm 5000 0 Mm3 = some Mm' := o2
            obtain ⟨st3, Mc3, Lc3, Mm4, Lm4, i3, n3, n3', t3, f3⟩ := rNext (Mc2 := goWI Mc' (s + 16) (T 0 5) (nI l)) (Lc2 := Lc2) (Mm2 := Mm') (Lm2 := Lm3) t2 q1 q2 q3 q4 (by rw [goWI_ne (by omega), x1 1 (by omega)]) (by rw [goWI_ne (by omega), x1 2 (by omega)]) (x4 _ (by omega)) (x4 _ (by omega))
            rw [o1', n3, gB2, gB3, if_neg (by decide), o2', gBd, n3', gB2]
            have gC : gFr s b Mc2 Lc2 Mm3 Lm3 (goWI Mc' (s + 16) (T 0 5) (nI l)) Lc2 Mm' Lm3 := ⟨fun a h1 h2 h3 h4 => by rw [goWI_ne (by omega), x1 a (by omega)], fun j _ => by rw [gWI_na (by omega), x1 1 (by omega)], fun _ _ _ _ => rfl, fun a h1 h2 h3 => x4 a (by omega), fun j _ => by rw [x4 102 (by omega)], fun _ _ _ => rfl⟩
            refine rR2 (sz := l) (w := fun j => (Mc2 2 (st2 + j)).toNatClampNeg - 97) (Tk := T') hs hb hRc hRm hL h0 h6 hD hkd hmo' hl x9 (by omega) t3 ?_ ?_ ?_ ?_ ?_ ?_ ?_ ?_ ?_ x6 x7 x8 ?_ (gFr_trans g2 (gFr_trans gC (gFr_tok f3))) ⟨by rw [f3.1 71 (by decide), goWI_ne (by omega), x1 71 (by omega), cA2 71 (by decide) (by omega) (by omega)], by rw [f3.1 67 (by decide), goWI_ne (by omega), x1 67 (by omega), cA2 67 (by decide) (by omega) (by omega)], by rw [f3.2.2.2.1 14 (by decide), x4 102 (by omega), f2.2.2.2.1 14 (by decide), f1.2.2.2.1 14 (by decide), f0.2.2.2.1 14 (by decide)]⟩
            · intro a h1 h2 h3 h4 h5
              rw [f3.1 a h1, goWI_ne h5, x1 a h4, cA2 a h1 h2 h3]
            · intro j
              rw [f3.1 _ (by omega), gWI_na (by omega), x1 _ (by omega), f2.1 _ (by omega), f1.1 _ (by omega), gWI_self, gWI_na (by omega), f0.1 _ (by omega)]
            · intro j
              rw [f3.1 _ (by omega), gWI_na (by omega), x1 _ (by omega), f2.1 _ (by omega), f1.1 _ (by omega), gWI_na (by omega), gWI_self, f0.1 _ (by omega)]
            · intro j
              rw [f3.1 _ (by omega), gWI_self, x1 _ (by omega), cA2 _ (by omega) (by omega) (by omega)]
            · intro j hj
              rw [f3.1 _ (by omega), gWI_na (by omega), x2 j hj, cA2 _ (by omega) (by omega) (by omega)]
            · intro j hj
              rw [f3.1 _ (by omega), gWI_na (by omega)]; exact x3 j hj
            · intro a h1
              rw [f3.2.1 a h1, f2.2.1 a h1, f1.2.1 a h1, f0.2.1 a h1]
            · intro a h1 h2 h3
              rw [f3.2.2.1 a h1 h2, x4 a h3, mA2 a h1 h2]
            · exact tM_fr x5 (fun r hr => f3.2.2.1 _ (by omega) (by omega))
            · intro a h1
              rw [f3.2.2.2.2.1 a h1, f2.2.2.2.2.1 a h1, f1.2.2.2.2.1 a h1, f0.2.2.2.2.1 a h1]
          · have o1' : lX9_orderOf_21 5000 (nI (T 0 5)) Lc2 Rc 5000 0 0 Mc2 = some (0, cF Mc' 7 st2, Lc2) := o1
            have o2' : lX14_readGoat_161 5000 (nI (T 0 5)) Rm 5000 0 Mm3 = some (mF Mm' 7 st2) := o2
            have hNf : mNm b (T 0 12) Mm' := ⟨hN2.1, by rw [x4 b (by omega)]; exact hN2.2.2.1⟩
            rw [o1', gB3, if_pos rfl, o2', gBd, ov_on mF_9, gB2, ov_R2 hRm (mF_b hb hNf) mF_9]
            exact rOut_f (f := 7) (by decide) rfl rfl (gFr_trans g2 ⟨fun a h1 h2 h3 h4 => x1 a (by omega), fun j _ => by rw [x1 1 (by omega)], fun _ _ _ _ => rfl, fun a h1 h2 h3 => x4 a (by omega), fun j _ => by rw [x4 102 (by omega)], fun _ _ _ => rfl⟩)
        · have oo : fX9_orderOf 5000 Mc2 Lc2 Rc (nI (T 0 5)) = some (0, cF Mc2 1 st2, Lc2) := by
            unfold fX9_orderOf
            rw [if_neg c, cFail t2.2.2.1, gB2]
            rfl
          have ov := ov_R1 (Mm := mF Mm3 1 st2) (Lm := Lm3) (x16 := w) (x22 := nI kd) (x44 := nI mo) hRm (mF_b hb (rNm_m hN2)) mF_9
          unfold mR1 at ov
          rw [ov_wants mF_9, gB2, if_neg (ov_n (by decide) mF_9), ov_fl mF_9, gBd, gBd] at ov
          unfold mR1
          rw [oo, gB3, if_pos rfl, m2, gB2, if_neg (fun hx => c (tw1.mpr hx)), mFlaw t2.2.2.2.1 (rT_9 t2), gBd, gBd, ov]
          exact rOut_f (f := 1) (by decide) rfl rfl g2
      · have ov := ov_R1 (Mm := mF Mm2 1 st1) (Lm := Lm2) (x16 := w) (x22 := nI kd) (x44 := nI mo) hRm (mF_b hb (rNm_m hN1)) mF_9
        unfold mR1 at ov
        rw [ov_wants mF_9, gB2] at ov
        unfold mR1
        rw [c2, gB3, if_pos rfl, m2, gB2, ov]
        exact rOut_f (f := 1) (by decide) rfl rfl g1
    · rw [ck, gB3, if_pos rfl, mk, ov_R1 hRm hN1 mF_9]
      exact rOut_f (f := f) hf rfl rfl (gFr_trans g0 g1)
  · rw [c0, m0, gB3, gB3, if_pos rfl, ov_Kd mF_9, ov_R1 hRm (mF_b hb (rNm_m d4)) mF_9]
    exact rOut_f (f := f) (by rcases hf with e | e <;> rw [e] <;> decide) rfl rfl gFr_refl
end lines28
