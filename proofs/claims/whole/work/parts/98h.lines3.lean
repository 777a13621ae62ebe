/-! LINES: holds, fears -/
section lines3
variable {e st s b : Nat} {Mc Mm Mm0 Mc' Mm' : goMI} {Lc Lm Lm0 Lc' Lm' : goML} {Rc Rm : goMR} {T T' : tH}
theorem nI_nn {n : Nat} (h : n < 2 ^ 31) : ¬ nI n < 0 := Int32.not_lt.mpr (nI_pos' h)
theorem rT_fr (h : rT e st Mc Lc Mm Lm) (c1 : Mc' 1 = Mc 1) (c2 : Mc' 2 = Mc 2) (m1 : Mm' 102 = Mm 102) (m2 : Mm' 103 = Mm 103) (m3 : Mm' 104 = Mm 104) (l1 : Lc' 1 = Lc 1) (l2 : Lm' 102 = Lm 102) : rT e st Mc' Lc' Mm' Lm' := by
  obtain ⟨h1, h2, h3, h4, h5⟩ := h
  refine ⟨rB_fr h1 (by rw [c1]) c2 (by rw [m1]) m2, h2, by rw [c1]; exact h3, by rw [m1]; exact h4, ?_⟩
  unfold rTok
  rw [c1, c2, m1, m3, l1, l2]
  exact h5
theorem rD_w {Mc2 : goMI} {a j : Nat} {x : Int32} (hs : s = 7 ∨ s = 37) (ha : a < s ∨ s + 27 < a) (h9 : a ≠ 67) (h69 : a ≠ 69) (h70 : a ≠ 70) (h : rD s b Mc Lc Mm Lm T) : rD s b (goWI Mc a j x) Lc Mm Lm T :=
  rD_fr h (fun c hc => goWI_ne (by omega)) (gWI_na (fun e => h9 e.symm)) rfl (fun _ _ _ => rfl) rfl
theorem pO_13 {v : Nat} (h : pO T) (h0 : T 0 0 ≠ 0) (hv : v < 2 ^ T 0 8) : pO (tW T 0 13 v) := by
  obtain ⟨⟨a0, a1, a2, a3, a4, a5, a6, a7, a8, a9, a10, a11, a13, a15⟩, p14, p1, p2, p4, p5, p6, p12, p13, p17, p19, p20, p22, q0, q1, q2⟩ := h
  have hz : ∀ r, r ≠ 0 → tW T 0 13 v r = T r := fun r hr => tW_r hr
  have hf : ∀ j, j ≠ 13 → tW T 0 13 v 0 j = T 0 j := fun j hj => tW_i hj
  unfold pO tJ
  unfold tJ at p2
  rw [hf 0 (by decide), hf 1 (by decide), hf 2 (by decide), hf 3 (by decide), hf 4 (by decide), hf 5 (by decide), hf 6 (by decide), hf 7 (by decide), hf 8 (by decide), hf 9 (by decide), hf 10 (by decide), hf 11 (by decide), hf 14 (by decide), hf 15 (by decide), tW_e, hz 1 (by decide), hz 2 (by decide), hz 3 (by decide), hz 4 (by decide), hz 5 (by decide), hz 6 (by decide), hz 7 (by decide), hz 8 (by decide), hz 9 (by decide), hz 10 (by decide), hz 11 (by decide), hz 12 (by decide), hz 13 (by decide), hz 14 (by decide), hz 15 (by decide), hz 16 (by decide), hz 17 (by decide), hz 18 (by decide), hz 19 (by decide), hz 20 (by decide), hz 21 (by decide), hz 22 (by decide), hz 23 (by decide)]
  exact ⟨⟨a0, a1, a2, a3, a4, a5, a6, a7, a8, a9, a10, a11, hv, a15⟩, p14, p1, p2, p4, p5, p6, p12, p13, p17, p19, p20, p22, q0, fun h => absurd h h0, q2⟩
theorem rHolds (hs : s = 7 ∨ s = 37) (hb : 121 ≤ b) (hRc : goRr Rc 67 7 = s) (hRm : Rm 102 4 = some b) (hL : ∀ i, i < 18 → Lc 73 i = kw i) (h0 : T 0 0 ≠ 0) (hbeg : fX14_begins 5000 Mm0 Lm0 Rm 0 1 = some (Mm, Lm)) (h : rT e st Mc Lc Mm Lm) (hD : rD s b Mc Lc Mm Lm T) :
    rOut e s b st Mc Lc Mm Lm (fX9_holdsLine 5000 Mc Lc Rc) (fX14_readHolds 5000 Mm0 Lm0 Rm) (fun T' => ∀ j, j ≠ 12 → j ≠ 13 → T' 0 j = T 0 j) := by
  obtain ⟨d1, d2, d3, d4, d5⟩ := id hD
  obtain ⟨⟨a0, a1, a2, a3, a4, a5, a6, a7, a8, a9, a10, a11, a13, a15⟩, _⟩ := id d3
  have h256 : 2 ^ T 0 8 ≤ 2 ^ 8 := Nat.pow_le_pow_right (by decide) a8
  have s1 : Mc (s + 21) 1 = nI (T 0 13) := d2.2.2.2.2.2.2.2.2.2.2.2.2.1.2.1
  have m13 : Mm b 13 = nI (T 0 13) := tM_0 d1 (by decide)
  rcases rNamed hRm hb hL h d4 (s := 3) (by decide) (pN_le d3) with ⟨m, hm, c1, m1, q, q1, q2, q3, q4⟩ | ⟨f, hf, c1, m1⟩
  · have hm8 : m < T 0 8 := hm
    have c1' : fX9_named 5000 Mc Lc 3 = some (nI m, Mc) := c1
    have m1' : fX14_known 5000 Mm Lm Rm 3 = some (nI m, Mm) := m1
    by_cases cb : (T 0 13).testBit m = true
    · refine rOut_f (f := 3) (by decide) (Mc1 := Mc) (Lc1 := Lc) (Mm1 := Mm) (Lm1 := Lm) (st1 := st) ?_ ?_ gFr_refl
      · unfold fX9_holdsLine
        rw [c1', gB2, if_neg (nI_nn (by omega)), hRc, s1, gI_bit (by omega) (by omega), cb, if_pos (show nI true.toNat = 1 from rfl), cFail h.2.2.1, gB2]
        rfl
      · unfold fX14_readHolds
        simp only [hRm, gBd]
        rw [hbeg, gB2, m1', gB2, if_neg (rT_9 h), m13, gI_bit14 (by omega) (by omega), cb, if_neg (by decide), mFlaw h.2.2.2.1 (rT_9 h), gBd, gBd, ov_on mF_9, gB2, if_pos mF_9]
    · rw [Bool.not_eq_true] at cb
      have hlt : T 0 13 ||| 2 ^ m < 2 ^ T 0 8 := Nat.or_lt_two_pow a13 (Nat.pow_lt_pow_right (by decide) hm8)
      obtain ⟨st', Mc1, Lc1, Mm1, Lm1, n1, n2, n3, n4, n5⟩ := rNext (Mc2 := goWI Mc (s + 21) 1 (nI (T 0 13 ||| 2 ^ m))) (Lc2 := Lc) (Mm2 := Mm) (Lm2 := Lm) h q1 q2 q3 q4 (goWI_ne (by omega)) (goWI_ne (by omega)) rfl rfl
      have hneg : ¬ Mm1 102 9 = 5 := rT_9 n4
      have mb : Mm1 b 13 = nI (T 0 13) := by rw [n5.2.2.1 b (by omega) (by omega)]; exact m13
      have hsz : sz T (tW T 0 13 (T 0 13 ||| 2 ^ m)) := fun r hr => tW_r hr
      have c3 : ∀ a, a ≠ s + 21 → a ≠ 1 → Mc1 a = Mc a := fun a h1 h2 => by rw [n5.1 a h2, goWI_ne h1]
      have cs : Mc1 (s + 21) = goWI Mc (s + 21) 1 (nI (T 0 13 ||| 2 ^ m)) (s + 21) := n5.1 _ (by omega)
      refine Or.inl ⟨st', Mc1, Lc1, goWI Mm1 b 13 (nI (T 0 13 ||| 2 ^ m)), Lm1, tW T 0 13 (T 0 13 ||| 2 ^ m), by omega, ?_, ?_, rT_fr n4 rfl rfl (goWI_ne (by omega)) (goWI_ne (by omega)) (goWI_ne (by omega)) rfl rfl, ⟨tM_w0 (tM_fr d1 (fun r hr => n5.2.2.1 _ (by omega) (by omega))), ?_, pO_13 d3 h0 hlt, ?_, ?_⟩, ?_, ?_, fun j _ hj => tW_i hj⟩
      · unfold fX9_holdsLine
        rw [c1', gB2, if_neg (nI_nn (by omega)), hRc, s1, gI_bit (by omega) (by omega), cb, if_neg (by decide), gI_shl1 (by omega), gI_or, gNm, n2, gB2]
      · unfold fX14_readHolds
        simp only [hRm, gBd]
        rw [hbeg, gB2, m1', gB2, if_neg (rT_9 h), m13, gI_bit14 (by omega) (by omega), cb, if_pos (show nI false.toNat = 0 from rfl), gBd, n3, gB2, if_neg hneg, mb, gI_shl1 (by omega), gI_or, gNm]
      · refine pC_sz d2 hsz (fun r h1 h2 _ h21 _ => c3 _ (by omega) (by omega)) (paF d2.1 (c3 _ (by omega) (by omega)) (tW_i (by decide)) (tW_i (by decide)) (tW_i (by decide)) (tW_i (by decide)) (tW_i (by decide)) (tW_i (by decide))) (phF d2.2.2.2.2.2.2.2.1 (c3 _ (by omega) (by omega)) (tW_i (by decide)) (tW_i (by decide))) ?_ (pqF d2.2.2.2.2.2.2.2.2.2.2.2.2.2.2.2.1 (c3 _ (by omega) (by omega)) (tW_i (by decide))) (tW_i (by decide)) (tW_i (by decide)) (tW_i (by decide)) (tW_i (by decide)) (tW_i (by decide)) (tW_i (by decide)) (tW_i (by decide)) (tW_i (by decide))
        obtain ⟨y0, y1, y2, y3⟩ := d2.2.2.2.2.2.2.2.2.2.2.2.2.1
        unfold pmC
        rw [cs, tW_e, tW_i (i' := 8) (by decide), tW_i (i' := 9) (by decide), tW_i (i' := 10) (by decide), gWI_nk (j := 0) (by decide), gWI_nk (j := 2) (by decide), gWI_nk (j := 3) (by decide), gWI_self]
        exact ⟨y0, rfl, y2, y3⟩
      · rw [tW_i (by decide)]
        have hpn : pN (tW T 0 13 (T 0 13 ||| 2 ^ m)) = pN T := by
          funext x
          unfold pN
          rw [tW_i (i' := 2) (by decide), tW_i (i' := 4) (by decide), tW_i (i' := 5) (by decide), tW_i (i' := 8) (by decide), tW_i (i' := 11) (by decide)]
        rw [hpn]
        exact rNm_fr d4 (by rw [c3 67 (by omega) (by decide)]) (c3 69 (by omega) (by decide)) (c3 70 (by omega) (by decide)) (n5.2.1 68 (by decide)) (by rw [gWI_nk (by decide), n5.2.2.1 b (by omega) (by omega)]) (by rw [goWI_ne (by omega), n5.2.2.1 _ (by omega) (by omega)]) (by rw [goWI_ne (by omega), n5.2.2.1 _ (by omega) (by omega)]) (n5.2.2.2.2.1 _ (by omega))
      · rw [tW_i (i' := 12) (by decide), tW_i (i' := 2) (by decide), tW_i (i' := 4) (by decide), tW_i (i' := 5) (by decide), tW_i (i' := 8) (by decide), tW_i (i' := 11) (by decide)]
        exact d5
      · exact ⟨c3 71 (by omega) (by decide), by rw [c3 67 (by omega) (by decide)], by rw [gWI_na (by omega), n5.2.2.2.1 14 (by decide)]⟩
      · refine gFr_trans (gFr_trans ⟨fun a h1 h2 h3 h4 => goWI_ne (x := nI (T 0 13 ||| 2 ^ m)) (k := 1) (a := s + 21) (by omega), fun j _ => gWI_na (by omega), fun _ _ _ _ => rfl, fun _ _ _ _ => rfl, fun _ _ => rfl, fun _ _ _ => rfl⟩ (gFr_tok n5)) ⟨fun _ _ _ _ _ => rfl, fun _ _ => rfl, fun _ _ _ _ => rfl, fun a h1 h2 h3 => goWI_ne (by omega), fun j hj => gWI_na (by omega), fun _ _ _ => rfl⟩
  · have c1' : fX9_named 5000 Mc Lc 3 = some (-1, cF Mc f st) := c1
    have m1' : fX14_known 5000 Mm Lm Rm 3 = some (0, mF Mm f st) := m1
    refine rOut_f (f := f) (by rcases hf with e | e <;> rw [e] <;> decide) (Mc1 := Mc) (Lc1 := Lc) (Mm1 := Mm) (Lm1 := Lm) (st1 := st) ?_ ?_ gFr_refl
    · unfold fX9_holdsLine
      rw [c1', gB2, if_pos (by decide)]
    · unfold fX14_readHolds
      simp only [hRm, gBd]
      rw [hbeg, gB2, m1', gB2, if_pos mF_9, gBd, ov_on mF_9, gB2, if_pos mF_9]
end lines3
