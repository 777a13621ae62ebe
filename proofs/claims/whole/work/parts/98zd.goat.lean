/-! LINES: goat, its kind and its likings -/
theorem wc_plain : fX11_codeOf 5000 1000105 = some 17171758 ∧ fX14_wordOf 5000 1000149 = some 17171758 := by decide +kernel
theorem wc_shy : fX11_codeOf 5000 1000106 = some 19737 ∧ fX14_wordOf 5000 1000150 = some 19737 := by decide +kernel
theorem wc_billy : fX11_codeOf 5000 1000107 = some 2404761 ∧ fX14_wordOf 5000 1000151 = some 2404761 := by decide +kernel
theorem wc_kid : fX11_codeOf 5000 1000108 = some 11556 ∧ fX14_wordOf 5000 1000152 = some 11556 := by decide +kernel
theorem wc_likes : fX11_codeOf 5000 1000102 = some 12889267 ∧ fX14_wordOf 5000 1000153 = some 12889267 := by decide +kernel
theorem wc_at : fX11_codeOf 5000 1000103 = some 52 ∧ fX14_wordOf 5000 1000154 = some 52 := by decide +kernel
theorem wc_trust : fX11_codeOf 5000 1000104 = some 21583476 ∧ fX14_wordOf 5000 1000155 = some 21583476 := by decide +kernel
section lines24
variable {e s b st : Nat} {Rc Rm : goMR} {Mc Mm : goMI} {Lc Lm : goML}
theorem rSpells {a a' : Nat} {w : Int64} (h : rT e st Mc Lc Mm Lm) (ha : fX11_codeOf 5000 a = some w) (ha' : fX14_wordOf 5000 a' = some w) : (Mc 1 4 = 1 ∧ Lc 1 7 = w ∧ fX11_spells 5000 Mc Lc a = some 1 ∧ fX14_isWord 5000 Mm Lm a' = some 1) ∨ (fX11_spells 5000 Mc Lc a = some 0 ∧ fX14_isWord 5000 Mm Lm a' = some 0) := by
  obtain ⟨t1, t2⟩ := rT_w h
  by_cases c : Mc 1 4 = 1
  · obtain ⟨w1, _⟩ := t2 c
    unfold fX11_spells
    rw [if_pos c, ha, gBd, mIsWord ha' (t1.mp c), ← w1]
    by_cases c2 : Lc 1 7 = w
    · rw [if_pos (gLc_0.mpr c2), if_pos c2]
      exact Or.inl ⟨c, c2, rfl, rfl⟩
    · rw [if_neg (fun h => c2 (gLc_0.mp h)), if_neg c2]
      exact Or.inr ⟨rfl, rfl⟩
  · unfold fX11_spells
    rw [if_neg c, mIsWord0 (fun h => c (t1.mpr h))]
    exact Or.inr ⟨rfl, rfl⟩
theorem cF_w {f : Int32} {a j : Nat} {x : Int32} (ha : a ≠ 67) : goWI (cF Mc f st) a j x = cF (goWI Mc a j x) f st := by
  funext a' j'
  unfold cF
  by_cases c : a' = a
  · subst c
    rw [gWI_self, gWI_na ha, gWI_na ha, gWI_na ha, gWI_na ha, gWI_self]
  · rw [gWI_na c]
    by_cases c2 : a' = 67
    · subst c2
      rw [gWI_self, gWI_self, gWI_self, gWI_self, gWI_na c]
    · rw [gWI_na c2, gWI_na c2, gWI_na c2, gWI_na c2, gWI_na c]
/-- the model at the kind of a goat -/
noncomputable def mKd {β : Type} (R : goMR) (M17 : goMI) (L18 : goML) (K : Int32 → Int32 → goMI → goML → Option β) : Option β :=
  Option.bind (fX14_isWord 5000 M17 L18 1000149) fun x20 =>
  Option.bind (if x20 = 0 then
  Option.bind (fX14_isWord 5000 M17 L18 1000150) fun x26 =>
  if x26 = 0 then
  Option.bind (fX14_isWord 5000 M17 L18 1000151) fun x29 =>
  if x29 = 0 then
  Option.bind (fX14_isWord 5000 M17 L18 1000152) fun x32 =>
  if x32 = 0 then
  some (-1)
  else
  some 3
  else
  some 2
  else
  some 1
  else
  some 0) fun x22 =>
  Option.bind (if x22 = (-1) then
  Option.bind (fX14_flaw M17 1) fun M39 =>
  some M39
  else
  some M17) fun M35 =>
  goB2 (fX14_goesOn 5000 M35 L18) fun M41 L42 =>
  goB3 (if x22 = 3 then
  goB3 (fX14_readKnown 5000 M41 L42 R 2) fun x50 M51 L52 =>
  some (x50, M51, L52)
  else
  some ((-2), M41, L42)) fun x44 M45 L46 => K x22 x44 M45 L46
theorem rKind {g nn : Nat} {cnt : Nat → Nat} (hs : s = 7 ∨ s = 37) (hb : 121 ≤ b) (hRc : goRr Rc 67 7 = s) (hRm : Rm 102 4 = some b) (hL : ∀ i, i < 18 → Lc 73 i = kw i) (hg : g < 6) (hcn : ∀ x, cnt x ≤ 8) (h : rT e st Mc Lc Mm Lm) (hN : rNm b cnt nn Mc Lc Mm Lm) :
    (∃ kd mo st1 Mc1 Lc1 Mm1 Lm1, kd ≤ 3 ∧ (mo < cnt 2 ∨ mo = 4294967294) ∧ st ≤ st1 ∧ fX9_kindOf 5000 Mc Lc Rc (nI g) = some (1, Mc1, Lc1) ∧ (∀ {β : Type} (K : Int32 → Int32 → goMI → goML → Option β), mKd Rm Mm Lm K = K (nI kd) (nI mo) Mm1 Lm1) ∧ rT e st1 Mc1 Lc1 Mm1 Lm1 ∧ rFr (goWI (goWI Mc (s + 11) g (nI mo)) (s + 10) g (nI kd)) Lc Mm Lm Mc1 Lc1 Mm1 Lm1) ∨
    (∃ (f : Int32) (st1 : Nat) (Mc1 : goMI) (Lc1 : goML) (Mm1 : goMI) (Lm1 : goML) (x y : Int32), 0 < f ∧ fX9_kindOf 5000 Mc Lc Rc (nI g) = some (0, cF Mc1 f st1, Lc1) ∧ (∀ {β : Type} (K : Int32 → Int32 → goMI → goML → Option β), mKd Rm Mm Lm K = K x y (mF Mm1 f st1) Lm1) ∧ gFr s b Mc Lc Mm Lm Mc1 Lc1 Mm1 Lm1 ∧ mNm b nn (mF Mm1 f st1)) := by
  have hm2 : (-2 : Int32) = nI 4294967294 := by decide
  -- the component after its first write
  have h' : rT e st (goWI Mc (s + 11) g (nI 4294967294)) Lc Mm Lm := rT_fr h (goWI_ne (by omega)) (goWI_ne (by omega)) rfl rfl rfl rfl rfl
  have hN' : rNm b cnt nn (goWI Mc (s + 11) g (nI 4294967294)) Lc Mm Lm := rNm_fr hN (gWI_na (by omega)) (goWI_ne (by omega)) (goWI_ne (by omega)) rfl rfl rfl rfl rfl
  have gw : ∀ (x : Int32) (a : Nat), s ≤ a → a ≤ s + 29 → gFr s b Mc Lc Mm Lm (goWI Mc a g x) Lc Mm Lm := fun x a h1 h2 => ⟨fun c h3 h4 h5 h6 => goWI_ne (by omega), fun j _ => gWI_na (by omega), fun _ _ _ _ => rfl, fun _ _ _ _ => rfl, fun _ _ => rfl, fun _ _ _ => rfl⟩
  generalize hMw : goWI Mc (s + 11) g (nI 4294967294) = Mw at h' hN'
  have hq : Mw 1 4 = 1 → ∃ q, st < q ∧ q ≤ e ∧ Mw 1 3 = nI q ∧ Mm 102 8 = nI q := fun c => by
    obtain ⟨_, t2⟩ := rT_w h'
    obtain ⟨_, q, q1, q2, q3, q4, _⟩ := t2 c
    exact ⟨q, q1, q2, q3, q4⟩
  have hwr : goWr Mc (s + 11) 6 (nI g) (-2) = some Mw := by rw [gWr hg, ← hMw, hm2]
  have plainly : ∀ (kd : Nat), kd ≤ 3 → Mw 1 4 = 1 → ∃ st1 Mc1 Lc1 Mm1 Lm1, st ≤ st1 ∧ (Option.bind (goWr Mw (s + 10) 6 (nI g) (nI kd)) fun M56 => goB2 (fX11_advance 5000 M56 Lc) fun M58 L59 => (some (1, M58, L59) : Option (Int32 × goMI × goML))) = some (1, Mc1, Lc1) ∧ fX14_goesOn 5000 Mm Lm = some (Mm1, Lm1) ∧ rT e st1 Mc1 Lc1 Mm1 Lm1 ∧ rFr (goWI (goWI Mc (s + 11) g (nI 4294967294)) (s + 10) g (nI kd)) Lc Mm Lm Mc1 Lc1 Mm1 Lm1 := by
    intro kd hkd c
    obtain ⟨q, q1, q2, q3, q4⟩ := hq c
    obtain ⟨st1, Mc1, Lc1, Mm1, Lm1, i1, n1, n1', t1, f1⟩ := rNext (Mc2 := goWI Mw (s + 10) g (nI kd)) (Lc2 := Lc) (Mm2 := Mm) (Lm2 := Lm) h' q1 q2 q3 q4 (goWI_ne (by omega)) (goWI_ne (by omega)) rfl rfl
    refine ⟨st1, Mc1, Lc1, Mm1, Lm1, by omega, ?_, n1', t1, ?_⟩
    · rw [gWr hg, gBd, n1, gB2]
    · rw [hMw]; exact f1
  unfold fX9_kindOf
  rw [hRc, hwr, gBd]
  rcases rSpells h' wc_plain.1 wc_plain.2 with ⟨c, _, s1, m1⟩ | ⟨s1, m1⟩
  · obtain ⟨st1, Mc1, Lc1, Mm1, Lm1, r1, r2, r3, r4, r5⟩ := plainly 0 (by decide) c
    have r2' : (Option.bind (goWr Mw (s + 10) 6 (nI g) 0) fun M56 => goB2 (fX11_advance 5000 M56 Lc) fun M58 L59 => (some (1, M58, L59) : Option (Int32 × goMI × goML))) = some (1, Mc1, Lc1) := r2
    refine Or.inl ⟨0, 4294967294, st1, Mc1, Lc1, Mm1, Lm1, by decide, Or.inr rfl, r1, ?_, fun K => ?_, r4, r5⟩
    · rw [s1, gBd, if_neg (by decide)]; exact r2'
    · unfold mKd
      rw [m1, gBd, if_neg (by decide), gBd, if_neg (by decide), gBd, r3, gB2, if_neg (by decide), gB3, hm2]
      rfl
  rw [s1, gBd, if_pos rfl]
  rcases rSpells h' wc_shy.1 wc_shy.2 with ⟨c, _, s2, m2⟩ | ⟨s2, m2⟩
  · obtain ⟨st1, Mc1, Lc1, Mm1, Lm1, r1, r2, r3, r4, r5⟩ := plainly 1 (by decide) c
    have r2' : (Option.bind (goWr Mw (s + 10) 6 (nI g) 1) fun M56 => goB2 (fX11_advance 5000 M56 Lc) fun M58 L59 => (some (1, M58, L59) : Option (Int32 × goMI × goML))) = some (1, Mc1, Lc1) := r2
    refine Or.inl ⟨1, 4294967294, st1, Mc1, Lc1, Mm1, Lm1, by decide, Or.inr rfl, r1, ?_, fun K => ?_, r4, r5⟩
    · rw [s2, gBd, if_neg (by decide)]; exact r2'
    · unfold mKd
      rw [m1, gBd, if_pos rfl, m2, gBd, if_neg (by decide), gBd, if_neg (by decide), gBd, r3, gB2, if_neg (by decide), gB3, hm2]
      rfl
  rw [s2, gBd, if_pos rfl]
  rcases rSpells h' wc_billy.1 wc_billy.2 with ⟨c, _, s3, m3⟩ | ⟨s3, m3⟩
  · obtain ⟨st1, Mc1, Lc1, Mm1, Lm1, r1, r2, r3, r4, r5⟩ := plainly 2 (by decide) c
    have r2' : (Option.bind (goWr Mw (s + 10) 6 (nI g) 2) fun M56 => goB2 (fX11_advance 5000 M56 Lc) fun M58 L59 => (some (1, M58, L59) : Option (Int32 × goMI × goML))) = some (1, Mc1, Lc1) := r2
    refine Or.inl ⟨2, 4294967294, st1, Mc1, Lc1, Mm1, Lm1, by decide, Or.inr rfl, r1, ?_, fun K => ?_, r4, r5⟩
    · rw [s3, gBd, if_neg (by decide)]; exact r2'
    · unfold mKd
      rw [m1, gBd, if_pos rfl, m2, gBd, if_pos rfl, m3, gBd, if_neg (by decide), gBd, if_neg (by decide), gBd, r3, gB2, if_neg (by decide), gB3, hm2]
      rfl
  rw [s3, gBd, if_pos rfl]
  rcases rSpells h' wc_kid.1 wc_kid.2 with ⟨c, _, s4, m4⟩ | ⟨s4, m4⟩
  · obtain ⟨q, q1, q2, q3, q4⟩ := hq c
    obtain ⟨st1, Mc1, Lc1, Mm1, Lm1, i1, n1, n1', t1, f1⟩ := rNext (Mc2 := goWI Mw (s + 10) g (nI 3)) (Lc2 := Lc) (Mm2 := Mm) (Lm2 := Lm) h' q1 q2 q3 q4 (goWI_ne (by omega)) (goWI_ne (by omega)) rfl rfl
    have hN1 : rNm b cnt nn Mc1 Lc1 Mm1 Lm1 := rNm_fr hN' (by rw [f1.1 67 (by decide), gWI_na (by omega)]) (by rw [f1.1 69 (by decide), goWI_ne (by omega)]) (by rw [f1.1 70 (by decide), goWI_ne (by omega)]) (f1.2.1 68 (by decide)) (by rw [f1.2.2.1 b (by omega) (by omega)]) (f1.2.2.1 _ (by omega) (by omega)) (f1.2.2.1 _ (by omega) (by omega)) (f1.2.2.2.2.1 _ (by omega))
    have n1k : fX11_advance 5000 (goWI Mw (s + 10) g 3) Lc = some (Mc1, Lc1) := n1
    have g1 : gFr s b Mc Lc Mm Lm Mc1 Lc1 Mm1 Lm1 := gFr_trans (gw (nI 4294967294) (s + 11) (by omega) (by omega)) (gFr_trans (by rw [hMw]; exact ⟨fun c h3 h4 h5 h6 => goWI_ne (x := nI 3) (k := g) (a := s + 10) (by omega), fun j _ => gWI_na (by omega), fun _ _ _ _ => rfl, fun _ _ _ _ => rfl, fun _ _ => rfl, fun _ _ _ => rfl⟩) (gFr_tok f1))
    rw [s4, gBd, if_neg (by decide), gWr hg, gBd, n1k, gB2]
    rcases rNamed hRm hb (fun i hi => by rw [f1.2.1 73 (by decide)]; exact hL i hi) t1 hN1 (s := 2) (by decide) hcn with ⟨m, hm, c5, m5, q', q1', q2', q3', q4'⟩ | ⟨f, hf, c5, m5⟩
    · have c5' : fX9_named 5000 Mc1 Lc1 2 = some (nI m, Mc1) := c5
      have m5' : fX14_known 5000 Mm1 Lm1 Rm 2 = some (nI m, Mm1) := m5
      have hm8 := hcn 2
      obtain ⟨st2, Mc2, Lc2, Mm2, Lm2, i2, n2, n2', t2, f2⟩ := rNext (Mc2 := goWI Mc1 (s + 11) g (nI m)) (Lc2 := Lc1) (Mm2 := Mm1) (Lm2 := Lm1) t1 q1' q2' q3' q4' (goWI_ne (by omega)) (goWI_ne (by omega)) rfl rfl
      refine Or.inl ⟨3, m, st2, Mc2, Lc2, Mm2, Lm2, by decide, Or.inl hm, by omega, ?_, fun K => ?_, t2, ?_⟩
      · rw [c5', gB2, gWr hg, gBd, gRd hg, gBd, gWI_self, if_pos rfl, if_neg (nI_nn (by omega)), n2, gB2]
      · unfold mKd fX14_readKnown
        rw [m1, gBd, if_pos rfl, m2, gBd, if_pos rfl, m3, gBd, if_pos rfl, m4, gBd, if_neg (by decide), gBd, if_neg (by decide), gBd, n1', gB2, if_pos rfl, m5', gB2, n2', gB2, gB3, gB3]
        rfl
      · refine ⟨fun a h1 => ?_, fun a h1 => by rw [f2.2.1 a h1, f1.2.1 a h1], fun a h1 h2 => by rw [f2.2.2.1 a h1 h2, f1.2.2.1 a h1 h2], fun j hj => by rw [f2.2.2.2.1 j hj, f1.2.2.2.1 j hj], fun a h1 => by rw [f2.2.2.2.2.1 a h1, f1.2.2.2.2.1 a h1], fun j hj => ?_⟩
        · rw [f2.1 a h1]
          by_cases c1 : a = s + 11
          · subst c1
            funext j
            rw [gWI_self, f1.1 _ h1, gWI_na (by omega), gWI_na (by omega), gWI_self, ← hMw, gWI_self]
            by_cases c2 : j = g
            · rw [if_pos c2, if_pos c2]
            · rw [if_neg c2, if_neg c2, if_neg c2]
          · rw [goWI_ne c1, f1.1 a h1, ← hMw]
            by_cases c2 : a = s + 10
            · subst c2
              funext j
              rw [gWI_self, gWI_self, gWI_na c1, gWI_na c1]
            · rw [goWI_ne c2, goWI_ne c1, goWI_ne c2, goWI_ne c1]
        · rw [f2.2.2.2.2.2 j hj, gWI_na (by omega), f1.2.2.2.2.2 j hj, gWI_na (by omega), ← hMw, gWI_na (by omega), gWI_na (by omega), gWI_na (by omega)]
    · have c5' : fX9_named 5000 Mc1 Lc1 2 = some (-1, cF Mc1 f st1) := c5
      have m5' : fX14_known 5000 Mm1 Lm1 Rm 2 = some (0, mF Mm1 f st1) := m5
      refine Or.inr ⟨f, st1, goWI Mc1 (s + 11) g (-1), Lc1, Mm1, Lm1, 3, 0, by rcases hf with e | e <;> rw [e] <;> decide, ?_, fun K => ?_, gFr_trans g1 ⟨fun c h3 h4 h5 h6 => goWI_ne (by omega), fun j _ => gWI_na (by omega), fun _ _ _ _ => rfl, fun _ _ _ _ => rfl, fun _ _ => rfl, fun _ _ _ => rfl⟩, mF_b hb (rNm_m hN1)⟩
      · rw [c5', gB2, gWr hg, gBd, gRd hg, gBd, gWI_self, if_pos rfl, if_pos (by decide), cF_w (by omega)]
      · unfold mKd fX14_readKnown
        rw [m1, gBd, if_pos rfl, m2, gBd, if_pos rfl, m3, gBd, if_pos rfl, m4, gBd, if_neg (by decide), gBd, if_neg (by decide), gBd, n1', gB2, if_pos rfl, m5', gB2, ov_on mF_9, gB2, gB3, gB3]
  · rw [s4, gBd, if_pos rfl, cFail h'.2.2.1, gB2]
    refine Or.inr ⟨1, st, Mw, Lc, Mm, Lm, -1, -2, by decide, rfl, fun K => ?_, by rw [← hMw]; exact gw _ _ (by omega) (by omega), mF_b hb (rNm_m hN)⟩
    unfold mKd
    rw [m1, gBd, if_pos rfl, m2, gBd, if_pos rfl, m3, gBd, if_pos rfl, m4, gBd, if_pos rfl, gBd, if_pos rfl, mFlaw h.2.2.2.1 (rT_9 h), gBd, gBd, ov_on mF_9, gB2, if_neg (by decide), gB3]
end lines24
