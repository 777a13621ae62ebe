/-! LINES: fears (printed by gen98k.py) -/
section lines6
variable {e st s b : Nat} {Mc Mm Mm0 Mc' Mm' : goMI} {Lc Lm Lm0 Lc' Lm' : goML} {Rc Rm : goMR} {T T' : tH}
theorem pO_fear {g p : Nat} (h : pO T) (h0 : T 0 0 ≠ 0) (h8 : T 0 6 < 8) (hp : p < 4) : pO (tW (tW T 12 g (T 12 g ||| 2 ^ p)) 0 6 (T 0 6 + 1)) := by
  obtain ⟨⟨a0, a1, a2, a3, a4, a5, a6, a7, a8, a9, a10, a11, a13, a15⟩, p14, p1, p2, p4, p5, p6, p12, p13, p17, p19, p20, p22, q0, q1, q2⟩ := h
  have hz : ∀ r, r ≠ 0 → r ≠ 12 → (tW (tW T 12 g (T 12 g ||| 2 ^ p)) 0 6 (T 0 6 + 1)) r = T r := fun r h1 h2 => by rw [tW_r h1, tW_r h2]
  have hf : ∀ j, j ≠ 6 → (tW (tW T 12 g (T 12 g ||| 2 ^ p)) 0 6 (T 0 6 + 1)) 0 j = T 0 j := fun j h1 => by rw [tW_i h1, tW_r (by decide)]
  have f6 : (tW (tW T 12 g (T 12 g ||| 2 ^ p)) 0 6 (T 0 6 + 1)) 0 6 = T 0 6 + 1 := tW_e
  have r12 : ∀ i, (tW (tW T 12 g (T 12 g ||| 2 ^ p)) 0 6 (T 0 6 + 1)) 12 i = if i = g then T 12 g ||| 2 ^ p else T 12 i := fun i => by
    rw [tW_r (by decide)]
    by_cases c : i = g
    · rw [if_pos c, c, tW_e]
    · rw [if_neg c, tW_i c]
  unfold pO tJ
  unfold tJ at p2
  rw [f6, hf 0 (by decide), hf 1 (by decide), hf 2 (by decide), hf 3 (by decide), hf 4 (by decide), hf 5 (by decide), hf 7 (by decide), hf 8 (by decide), hf 9 (by decide), hf 10 (by decide), hf 11 (by decide), hf 13 (by decide), hf 14 (by decide), hf 15 (by decide), hz 1 (by decide) (by decide), hz 2 (by decide) (by decide), hz 3 (by decide) (by decide), hz 4 (by decide) (by decide), hz 5 (by decide) (by decide), hz 6 (by decide) (by decide), hz 7 (by decide) (by decide), hz 8 (by decide) (by decide), hz 9 (by decide) (by decide), hz 10 (by decide) (by decide), hz 11 (by decide) (by decide), hz 13 (by decide) (by decide), hz 14 (by decide) (by decide), hz 15 (by decide) (by decide), hz 16 (by decide) (by decide), hz 17 (by decide) (by decide), hz 18 (by decide) (by decide), hz 19 (by decide) (by decide), hz 20 (by decide) (by decide), hz 21 (by decide) (by decide), hz 22 (by decide) (by decide), hz 23 (by decide) (by decide)]
  refine ⟨⟨a0, a1, a2, a3, a4, a5, by omega, a7, a8, a9, a10, a11, a13, a15⟩, p14, p1, p2, p4, p5, p6, fun i hi => ?_, p13, p17, p19, p20, p22, q0, fun h => absurd h h0, q2⟩
  rw [r12]
  by_cases c : i = g
  · rw [if_pos c]
    rw [c] at hi ⊢
    exact ⟨Nat.or_lt_two_pow (n := 4) (p12 g hi).1 (Nat.pow_lt_pow_right (by decide) hp), (p12 g hi).2⟩
  · rw [if_neg c]; exact p12 i hi
theorem rFear (hs : s = 7 ∨ s = 37) (hb : 121 ≤ b) (hRc : goRr Rc 67 7 = s) (hRm : Rm 102 4 = some b) (hL : ∀ i, i < 18 → Lc 73 i = kw i) (h0 : T 0 0 ≠ 0) (h8 : T 0 6 < 8) (hbeg : fX14_begins 5000 Mm0 Lm0 Rm (Mm0 b 6) 8 = some (Mm, Lm)) (h : rT e st Mc Lc Mm Lm) (hD : rD s b Mc Lc Mm Lm T) :
    rOut e s b st Mc Lc Mm Lm (fX9_fearLine 5000 Mc Lc Rc) (fX14_readFears 5000 Mm0 Lm0 Rm) (fun T' => ∀ j, j ≠ 12 → T' 0 j = if j = 6 then T 0 6 + 1 else T 0 j) := by
  obtain ⟨d1, d2, d3, d4, d5⟩ := id hD
  obtain ⟨⟨a0, a1, a2, a3, a4, a5, a6, a7, a8, a9, a10, a11, a13, a15⟩, p14, p1, p2, p4, p5, p6, p12, p13, p17, p19, p20, p22, q0, q1, q2⟩ := id d3
  have body : fX14_readFears 5000 Mm0 Lm0 Rm = (goB3 (fX14_readKnown 5000 Mm Lm Rm 2) fun x16 M17 L18 => goB2 (fX14_known 5000 M17 L18 Rm 1) fun x20 M21 => Option.bind (if (M21 102 9) = 5 then some M21 else Option.bind (goRd M21 (b + 12) 6 x16) fun x29 => if (fX14_bit x29 x20) = 0 then some M21 else Option.bind (fX14_flaw M21 3) fun M32 => some M32) fun M23 => goB2 (fX14_goesOn 5000 M23 L18) fun M34 L35 => if (M34 102 9) = 5 then some (M34, L35) else Option.bind (goRd M34 (b + 12) 6 x16) fun x40 => Option.bind (goWr M34 (b + 12) 6 x16 (x40 ||| (1 <<< (x20 &&& 31)))) fun M42 => some (goWI M42 b 6 ((M42 b 6) + 1), L35)) := by
    unfold fX14_readFears
    simp only [hRm, gBd, gNm]
    rw [hbeg, gB2]
  rw [body]
  unfold fX9_fearLine fX14_readKnown
  rw [hRc]
  rcases rNamed hRm hb hL h d4 (s := 2) (by decide) (pN_le d3) with ⟨g, hg, c1, m1, q, q1, q2, q3, q4⟩ | ⟨f, hf, c1, m1⟩
  · have hg6 : g < T 0 5 := hg
    have c1' : fX9_named 5000 Mc Lc 2 = some (nI g, Mc) := c1
    have m1' : fX14_known 5000 Mm Lm Rm 2 = some (nI g, Mm) := m1
    obtain ⟨st1, Mc1, Lc1, Mm1, Lm1, i1, n1, n1', t1, f1⟩ := rNext (Mc2 := Mc) (Lc2 := Lc) (Mm2 := Mm) (Lm2 := Lm) h q1 q2 q3 q4 rfl rfl rfl rfl
    have hD1 := rD_tok hs hb hD f1
    obtain ⟨e1, e2, e3, e4, e5⟩ := id hD1
    have hL1 : ∀ i, i < 18 → Lc1 73 i = kw i := fun i hi => by rw [f1.2.1 73 (by decide)]; exact hL i hi
    rw [c1', gB2, if_neg (nI_nn (by omega)), n1, gB2, m1', gB2, n1', gB2, gB3]
    have g1 : gFr s b Mc Lc Mm Lm Mc1 Lc1 Mm1 Lm1 := gFr_tok f1
    have k14 : Mc1 (s + 14) g = nI (T 12 g) := e2.2.2.2.2.2.2.2.2.2.2.1 g (by omega)
    have k12 : Mm1 (b + 12) g = nI (T 12 g) := tM_12 e1 (by omega)
    have l16 := (p12 g (by omega)).1
    rcases rNamed hRm hb hL1 t1 e4 (s := 1) (by decide) (pN_le e3) with ⟨p, hp, c2, m2, q', q1', q2', q3', q4'⟩ | ⟨f, hf, c2, m2⟩
    · have hp4 : p < T 0 4 := hp
      have c2' : fX9_named 5000 Mc1 Lc1 1 = some (nI p, Mc1) := c2
      have m2' : fX14_known 5000 Mm1 Lm1 Rm 1 = some (nI p, Mm1) := m2
      rw [c2', gB2, if_neg (nI_nn (by omega)), gRd (by omega), gBd, k14, gI_bit (by omega) (by omega), m2', gB2, if_neg (rT_9 t1), gRd (by omega), gBd, gBd, k12, gI_bit14 (by omega) (by omega)]
      cases cb : (T 12 g).testBit p with
      | true =>
        rw [if_pos (show nI true.toNat = 1 from rfl), cFail t1.2.2.1, gB2, if_neg (by decide), mFlaw t1.2.2.2.1 (rT_9 t1), gBd, gBd, ov_on mF_9, gB2, if_pos mF_9]
        exact rOut_f (f := 3) (by decide) rfl rfl g1
      | false =>
        obtain ⟨st2, Mc2, Lc2, Mm2, Lm2, i2, n2, n2', t2, f2⟩ := rNext (Mc2 := goWI Mc1 (s + 14) g (nI (T 12 g ||| 2 ^ p))) (Lc2 := Lc1) (Mm2 := Mm1) (Lm2 := Lm1) t1 q1' q2' q3' q4' (goWI_ne (by omega)) (goWI_ne (by omega)) rfl rfl
        have k12' : Mm2 (b + 12) g = nI (T 12 g) := by rw [f2.2.2.1 _ (by omega) (by omega)]; exact k12
        have k6 : Mm2 b 6 = nI (T 0 6) := by rw [f2.2.2.1 _ (by omega) (by omega)]; exact tM_0 e1 (by decide)
        rw [if_neg (by decide), gI_shl1 (by omega), gI_or, gWr (by omega), gBd, n2, gB2, if_pos (show nI false.toNat = 0 from rfl), gBd, n2', gB2, if_neg (rT_9 t2), gRd (by omega), gBd, k12', gI_or, gWr (by omega), gBd, gWI_na (a := b + 12) (b := b) (by omega), k6, nI_1]
        have hz : ∀ r, r ≠ 0 → r ≠ 12 → (tW (tW T 12 g (T 12 g ||| 2 ^ p)) 0 6 (T 0 6 + 1)) r = T r := fun r h1 h2 => by rw [tW_r h1, tW_r h2]
        have hf : ∀ j, j ≠ 6 → (tW (tW T 12 g (T 12 g ||| 2 ^ p)) 0 6 (T 0 6 + 1)) 0 j = T 0 j := fun j h1 => by rw [tW_i h1, tW_r (by decide)]
        have r12 : ∀ i, (tW (tW T 12 g (T 12 g ||| 2 ^ p)) 0 6 (T 0 6 + 1)) 12 i = if i = g then T 12 g ||| 2 ^ p else T 12 i := fun i => by
          rw [tW_r (by decide)]
          by_cases c : i = g
          · rw [if_pos c, c, tW_e]
          · rw [if_neg c, tW_i c]
        have cA : ∀ a, a ≠ s + 14 → a ≠ 1 → Mc2 a = Mc1 a := fun a h1 h2 => by rw [f2.1 a h2, goWI_ne h1]
        have mA : ∀ a, a ≠ 102 → a ≠ 104 → Mm2 a = Mm1 a := fun a h1 h2 => f2.2.2.1 a h1 h2
        have m6o : ∀ a, a ≠ b → a ≠ b + 12 → goWI (goWI Mm2 (b + 12) g (nI (T 12 g ||| 2 ^ p))) b 6 (nI (T 0 6 + 1)) a = Mm2 a := fun a h1 h2 => by rw [goWI_ne h1, goWI_ne h2]
        refine Or.inl ⟨st2, Mc2, Lc2, _, Lm2, tW (tW T 12 g (T 12 g ||| 2 ^ p)) 0 6 (T 0 6 + 1), by omega, rfl, rfl, rT_fr t2 rfl rfl (m6o _ (by omega) (by omega)) (m6o _ (by omega) (by omega)) (m6o _ (by omega) (by omega)) rfl rfl, ⟨tM_w0 (tM_wr (tM_fr e1 (fun r hr => mA _ (by omega) (by omega)))), ?_, pO_fear d3 h0 h8 (by omega), ?_, ?_⟩, ?_, ?_, fun j _ => ?_⟩
        · obtain ⟨xpa, xpb, xpc, xpd, xpe, xpf, xpg, xph, xpi, xpj, xpk, xpx, xpm, xpn, xpo, xpq, xpr⟩ := e2
          have mm : ∀ r, r ≤ 27 → r ≠ 14 → Mc2 (s + r) = Mc1 (s + r) := fun r h1 h2 => cA _ (by omega) (by omega)
          refine ⟨paF xpa (mm 0 (by decide) (by decide)) (hf 0 (by decide)) (hf 1 (by decide)) (hf 2 (by decide)) (hf 3 (by decide)) (hf 4 (by decide)) (hf 15 (by decide)), pbF xpb (mm 1 (by decide) (by decide)) (hz 1 (by decide) (by decide)), pcF xpc (mm 2 (by decide) (by decide)) (hz 2 (by decide) (by decide)) (hz 3 (by decide) (by decide)) (hf 3 (by decide)), pdF xpd (mm 3 (by decide) (by decide)) (mm 4 (by decide) (by decide)) (hz 2 (by decide) (by decide)) (hz 3 (by decide) (by decide)) (hf 3 (by decide)), peF xpe (mm 5 (by decide) (by decide)) (hz 4 (by decide) (by decide)), pfF xpf (mm 7 (by decide) (by decide)) (hz 4 (by decide) (by decide)) (hz 5 (by decide) (by decide)), pgF xpg (mm 8 (by decide) (by decide)) (hz 22 (by decide) (by decide)) (hf 15 (by decide)) (hf 1 (by decide)), phF xph (mm 9 (by decide) (by decide)) (hf 5 (by decide)) (hf 7 (by decide)), piF xpi (mm 10 (by decide) (by decide)) (mm 11 (by decide) (by decide)) (mm 13 (by decide) (by decide)) (mm 16 (by decide) (by decide)) (mm 15 (by decide) (by decide)) (hz 6 (by decide) (by decide)) (hz 7 (by decide) (by decide)) (hz 11 (by decide) (by decide)) (hz 8 (by decide) (by decide)) (hz 9 (by decide) (by decide)) (hf 5 (by decide)), pjF xpj (mm 12 (by decide) (by decide)) (hz 23 (by decide) (by decide)), ?_, pxF xpx (mm 17 (by decide) (by decide)) (mm 18 (by decide) (by decide)) (mm 19 (by decide) (by decide)) (mm 20 (by decide) (by decide)) (hz 13 (by decide) (by decide)) (hz 14 (by decide) (by decide)) (hz 15 (by decide) (by decide)) (hz 16 (by decide) (by decide)) (hf 7 (by decide)), pmF xpm (mm 21 (by decide) (by decide)) (hf 8 (by decide)) (hf 13 (by decide)) (hf 9 (by decide)) (hf 10 (by decide)), pnF xpn (mm 22 (by decide) (by decide)) (mm 23 (by decide) (by decide)) (hz 17 (by decide) (by decide)) (hz 18 (by decide) (by decide)) (hf 9 (by decide)), poF xpo (mm 24 (by decide) (by decide)) (hz 19 (by decide) (by decide)) (hf 10 (by decide)), pqF xpq (mm 25 (by decide) (by decide)) (hf 11 (by decide)), prF xpr (mm 26 (by decide) (by decide)) (mm 27 (by decide) (by decide)) (hz 20 (by decide) (by decide)) (hz 21 (by decide) (by decide)) (hf 11 (by decide))⟩
          intro i hi
          rw [r12, f2.1 _ (by omega), gWI_self]
          by_cases c : i = g
          · rw [if_pos c, if_pos c]
          · rw [if_neg c, if_neg c]; exact xpk i hi
        · have hpn : pN (tW (tW T 12 g (T 12 g ||| 2 ^ p)) 0 6 (T 0 6 + 1)) = pN T := by
            funext x
            unfold pN
            rw [hf 2 (by decide), hf 4 (by decide), hf 5 (by decide), hf 8 (by decide), hf 11 (by decide)]
          rw [hf 12 (by decide), hpn]
          exact rNm_fr e4 (by rw [cA 67 (by omega) (by decide)]) (cA 69 (by omega) (by decide)) (cA 70 (by omega) (by decide)) (f2.2.1 68 (by decide)) (by rw [gWI_nk (by decide), gWI_na (by omega), mA b (by omega) (by omega)]) (by rw [m6o _ (by omega) (by omega), mA _ (by omega) (by omega)]) (by rw [m6o _ (by omega) (by omega), mA _ (by omega) (by omega)]) (f2.2.2.2.2.1 _ (by omega))
        · rw [hf 12 (by decide), hf 2 (by decide), hf 4 (by decide), hf 5 (by decide), hf 8 (by decide), hf 11 (by decide)]
          exact e5
        · exact ⟨by rw [cA 71 (by omega) (by decide), f1.1 71 (by decide)], by rw [cA 67 (by omega) (by decide), f1.1 67 (by decide)], by rw [m6o 102 (by omega) (by omega), f2.2.2.2.1 14 (by decide), f1.2.2.2.1 14 (by decide)]⟩
        · refine gFr_trans g1 (gFr_trans (gFr_trans ⟨fun a h1 h2 h3 h4 => goWI_ne (x := nI (T 12 g ||| 2 ^ p)) (k := g) (a := s + 14) (by omega), fun j _ => gWI_na (by omega), fun _ _ _ _ => rfl, fun _ _ _ _ => rfl, fun _ _ => rfl, fun _ _ _ => rfl⟩ (gFr_tok f2)) ⟨fun _ _ _ _ _ => rfl, fun _ _ => rfl, fun _ _ _ _ => rfl, fun a h1 h2 h3 => m6o a (by omega) (by omega), fun j hj => by rw [m6o 102 (by omega) (by omega)], fun _ _ _ => rfl⟩)
        · by_cases c : j = 6
          · rw [if_pos c, c, tW_e]
          · rw [if_neg c]; exact hf j c
    · have c2' : fX9_named 5000 Mc1 Lc1 1 = some (-1, cF Mc1 f st1) := c2
      have m2' : fX14_known 5000 Mm1 Lm1 Rm 1 = some (0, mF Mm1 f st1) := m2
      rw [c2', gB2, if_pos (by decide), m2', gB2, if_pos mF_9, gBd, ov_on mF_9, gB2, if_pos mF_9]
      exact rOut_f (f := f) (by rcases hf with e | e <;> rw [e] <;> decide) rfl rfl g1
  · have c1' : fX9_named 5000 Mc Lc 2 = some (-1, cF Mc f st) := c1
    have m1' : fX14_known 5000 Mm Lm Rm 2 = some (0, mF Mm f st) := m1
    rw [c1', gB2, if_pos (by decide), m1', gB2, ov_on mF_9, gB2, gB3, ov_known hRm (mF_b hb (rNm_m d4)) mF_9, gB2, if_pos mF_9, gBd, ov_on mF_9, gB2, if_pos mF_9]
    exact rOut_f (f := f) (by rcases hf with e | e <;> rw [e] <;> decide) rfl rfl gFr_refl
end lines6
