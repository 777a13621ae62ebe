/-! THE READING in both -/
section lines36
variable {e s b : Nat} {Rc Rm R : goMR}
theorem goB3_as {α β γ δ ε ζ : Type} {x : Option (α × β × γ)} {y : α → β → γ → Option (δ × ε)} {k : δ → ε → Option ζ} : (goB3 x fun a M L => goB2 (y a M L) k) = goB2 (goB3 x y) k := by
  cases x with
  | none => rfl
  | some z => rfl
theorem mAllE {M : goMI} {L : goML} : fX14_readAll 5000 M L Rm = goB2 (goB2 (lX14_readAll_2 5000 Rm 5000 1 M L) fun M20 L21 => Option.bind (mEn M20) fun M22 => some (M22, L21)) fun M22 L21 => Option.bind (Rm 102 4) fun b28 => if (M22 b28 2) = 0 then Option.bind (fX14_flaw M22 6) fun M31 => some (M31, L21) else some (M22, L21) := by
  unfold fX14_readAll
  cases lX14_readAll_2 5000 Rm 5000 1 M L with
  | none => rfl
  | some z =>
    obtain ⟨z1, z2⟩ := z
    show Option.bind (mEn z1) _ = goB2 (Option.bind (mEn z1) _) _
    cases mEn z1 with
    | none => rfl
    | some y => rfl
/-- what the reading may change -/
def gFr2 (s b : Nat) (Mc : goMI) (Lc : goML) (Mm : goMI) (Lm : goML) (Mc' : goMI) (Lc' : goML) (Mm' : goMI) (Lm' : goML) : Prop :=
  (∀ a, a ≠ 1 → a ≠ 67 → (a < 69 ∨ 72 < a) → (a < s ∨ s + 29 < a) → Mc' a = Mc a) ∧ (∀ a, a ≠ 1 → a ≠ 67 → a ≠ 68 → Lc' a = Lc a) ∧
  (∀ a, a ≠ 102 → a ≠ 104 → (a < b ∨ b + 25 < a) → Mm' a = Mm a) ∧ (∀ j, j < 8 ∨ 17 < j → Mm' 102 j = Mm 102 j) ∧ (∀ a, a ≠ 102 → a ≠ b + 23 → Lm' a = Lm a)
/-- the component behind its last line -/
noncomputable def cEn (a1 : Nat) (M46 : goMI) (L47 : goML) : Option (Int32 × goMI × goML) :=
  Option.bind (if (M46 67 10) = 0 then
  if (M46 a1 2) = 0 then
  goB2 (fX9_fail M46 6) fun x53 M54 =>
  some M54
  else
  some M46
  else
  some M46) fun M48 =>
  Option.bind (if (M48 67 10) = 0 then
  Option.bind (fX6_countCases 5000 M48 a1) fun M60 =>
  some M60
  else
  some M48) fun M56 =>
  some ((M56 67 10), M56, L47)
theorem cRdE {cnt : Nat} {M M1 M3 Mc5 : goMI} {L Lc5 : goML} (e1 : fX6_clear 5000 M s = some M1) (e3 : fJ7_fill_53178 5000 (goWI (goWI M1 67 8 0) 67 10 0) 71 15 0 = some M3) (h311 : M3 1 1 = nI cnt) (hec : e ≤ cnt) (hcnt : cnt ≤ 1200) (a2 : fX11_advance 5000 (goWI (goWI M3 1 2 (nI e)) 1 3 0) L = some (Mc5, Lc5)) : fX9_read 5000 M L R s (nI e) = goB2 (goB3 (fX9_line 5000 Mc5 Lc5 (goWR R 67 7 (some s))) fun x22 M23 L24 => lX9_read_43 5000 (goWR R 67 7 (some s)) 5000 x22 0 M23 L24) (cEn s) := by
  have as := goB3_as (x := fX9_line 5000 Mc5 Lc5 (goWR R 67 7 (some s))) (y := fun x22 M23 L24 => lX9_read_43 5000 (goWR R 67 7 (some s)) 5000 x22 0 M23 L24) (k := cEn s)
  rw [← as]
  unfold fX9_read fX11_rewind cEn
  rw [e1, gBd, gNm, gNm, e3, gBd, gNm, h311, gMn (by omega) (by omega), Nat.min_eq_left hec, gNm, a2, gB2, gB2]
theorem rRead {cnt : Nat} {M Mx : goMI} {L Lx : goML} (hs : s = 7 ∨ s = 37) (hb : 121 ≤ b) (hRm : Rm 102 4 = some b) (hec : e ≤ cnt) (hcnt : cnt ≤ 1200) (h11 : M 1 1 = nI cnt) (hby : ∀ i, i < e → Mx 103 i = M 2 i ∧ ∃ x : Int8, M 2 i = x.toInt32) (m7 : Mx 102 7 = nI e) (m8 : Mx 102 8 = 0) (m9 : Mx 102 9 = 0) (m14 : Mx 102 14 = 0) (mz : ∀ a j, b ≤ a → a ≤ b + 25 → Mx a j = 0) (hL : ∀ i, i < 18 → L 73 i = kw i) :
    ∃ f Mc' Lc' Mm' Lm', fX9_read 5000 M L R s (nI e) = some (f, Mc', Lc') ∧ (goB2 (fX14_goesOn 5000 Mx Lx) fun M32 L33 => fX14_readAll 5000 M32 L33 Rm) = some (Mm', Lm') ∧ Mm' 102 14 = f ∧ gFr2 s b M L Mx Lx Mc' Lc' Mm' Lm' ∧ ((0 < f ∧ Mm' 102 15 = Mc' 67 11) ∨ (f = 0 ∧ ∃ T', tM Mm' b T' ∧ tC Mc' s T' ∧ tOk T')) := by
  obtain ⟨M1, e1, f1, k12, k0, k1, k2, k5, k9, k14, k21, k25⟩ := cClear (M := M) (s := s)
  obtain ⟨M3, e3, f3, z3⟩ := gFill (M := goWI (goWI M1 67 8 0) 67 10 0) (a := 71) (n := 15) (N := 5000) (v := 0) (by decide) (by decide)
  have g3 : ∀ a, a ≠ 67 → a ≠ 71 → M3 a = M1 a := fun a h1 h2 => by rw [f3 a h2, goWI_ne h1, goWI_ne h1]
  have h311 : M3 1 1 = nI cnt := by rw [g3 1 (by decide) (by decide), f1 1 (by omega)]; exact h11
  have c67 : M3 67 8 = 0 := by rw [f3 67 (by decide), gWI_nk (by decide), gWI_self, if_pos rfl]
  have c6710 : M3 67 10 = 0 := by rw [f3 67 (by decide), gWI_self, if_pos rfl]
  have g4 : ∀ a, a ≠ 1 → goWI (goWI M3 1 2 (nI e)) 1 3 0 a = M3 a := fun a h1 => by rw [goWI_ne h1, goWI_ne h1]
  have hB : rB e (goWI (goWI M3 1 2 (nI e)) 1 3 0) Mx := ⟨by omega, by rw [gWI_nk (by decide), gWI_self, if_pos rfl], m7, fun i hi => by
    rw [g4 2 (by decide), g3 2 (by decide) (by decide), f1 2 (by omega)]
    exact hby i hi⟩
  obtain ⟨st, Mc5, Lc5, Mm5, Lm5, i5, a2, a3, t5, r5⟩ := rAdv (e := e) (Mc := goWI (goWI M3 1 2 (nI e)) 1 3 0) (Mm := Mx) (Lc := L) (Lm := Lx) (q := 0) hB (Nat.zero_le _) (by rw [gWI_self, if_pos rfl]; rfl) m8 (by rw [m9]; decide)
  have hsr : ∀ r, r ≤ 27 → goWI (goWI M3 1 2 (nI e)) 1 3 0 (s + r) = M1 (s + r) := fun r hr => by rw [g4 _ (by omega), g3 _ (by omega) (by omega)]
  have hs0 : goWI (goWI M3 1 2 (nI e)) 1 3 0 s = M1 s := hsr 0 (by decide)
  have hD5 : rD s b Mc5 Lc5 Mm5 Lm5 (tZ M s) := rD_tok hs hb (rD_z (M := M) (Lc := L) (Lm := Lx) (by rw [hsr 12 (by decide)]; exact k12) (fun j hj => by rw [hs0]; exact k0 j hj) (fun j hj => by rw [hsr 1 (by decide)]; exact k1 j hj) (fun j hj => by rw [hsr 2 (by decide)]; exact k2 j hj) (fun j hj => by rw [hsr 5 (by decide)]; exact k5 j hj) (by rw [hsr 9 (by decide)]; exact k9) (fun j hj => by rw [hsr 14 (by decide)]; exact k14 j hj) (fun j hj => by rw [hsr 21 (by decide)]; exact k21 j hj) (by rw [hsr 25 (by decide)]; exact k25) (by rw [g4 67 (by decide)]; exact c67) mz) r5
  have hC5 : lC st Mc5 (tZ M s) := lC_z (fun j hj => by rw [r5.1 71 (by decide), g4 71 (by decide)]; exact z3 j hj)
  have hRc' : goRr (goWR R 67 7 (some s)) 67 7 = s := by
    unfold goRr
    rw [goWR_eq]
    rfl
  have he := t5.1.1
  have key := rAll (e := e) (Rc := goWR R 67 7 (some s)) (Rm := Rm) hs hb hRc' hRm (e + 1) st 0 5000 5000 Mc5 Mm5 Lc5 Lm5 (tZ M s) (by omega) (by omega) (by omega) (Nat.zero_le _) (fun i hi => by rw [r5.2.1 73 (by decide)]; exact hL i hi) t5 hD5 hC5 (by rw [r5.1 67 (by decide), g4 67 (by decide)]; exact c6710) (by rw [r5.2.2.2.1 14 (by decide)]; exact m14)
  rw [nI_0] at key
  have hcR := cRdE (R := R) e1 e3 h311 hec hcnt a2
  have hmR : (goB2 (fX14_goesOn 5000 Mx Lx) fun M32 L33 => fX14_readAll 5000 M32 L33 Rm) = goB2 (goB2 (lX14_readAll_2 5000 Rm 5000 1 Mm5 Lm5) fun M20 L21 => Option.bind (mEn M20) fun M22 => some (M22, L21)) fun M22 L21 => Option.bind (Rm 102 4) fun b28 => if (M22 b28 2) = 0 then Option.bind (fX14_flaw M22 6) fun M31 => some (M31, L21) else some (M22, L21) := by
    rw [a3, gB2, mAllE]
  rw [hcR, hmR]
  have fr : ∀ {Mc' Mm' : goMI} {Lc' Lm' : goML}, gFr s b Mc5 Lc5 Mm5 Lm5 Mc' Lc' Mm' Lm' → gFr2 s b M L Mx Lx Mc' Lc' Mm' Lm' := by
    intro Mc' Mm' Lc' Lm' h
    refine ⟨fun a h1 h2 h3 h4 => ?_, fun a h1 h2 h3 => ?_, fun a h1 h2 h3 => ?_, fun j hj => ?_, fun a h1 h2 => ?_⟩
    · rw [h.1 a h1 h2 h3 h4, r5.1 a h1, g4 a h1, g3 a h2 (by omega), f1 a h4]
    · rw [h.2.2.1 a h1 h2 h3, r5.2.1 a h1]
    · rw [h.2.2.2.1 a h1 h2 h3, r5.2.2.1 a h1 h2]
    · rw [h.2.2.2.2.1 j hj, r5.2.2.2.1 j (by omega)]
    · rw [h.2.2.2.2.2 a h1 h2, r5.2.2.2.2.1 a h1]
  rcases key with ⟨st', Mc', Lc', Mm', Lm', T', y1, y2, y3, y4, y5, y6, y7⟩ | ⟨f, st', Mc', Lc', Mm', Lm', y1, y2, y3, y4, y5, y6, y7, y8, y9⟩
  · have kc2 : Mc' s 2 = nI (T' 0 2) := y4.2.1.1.2.2.1
    have km2 : Mm' b 2 = nI (T' 0 2) := tM_0 y4.1 (by decide)
    have a2' : T' 0 2 ≤ 8 := y4.2.2.1.1.2.2.1
    rw [y1, y2, gB2, gB2, hRm, gBd, km2]
    unfold cEn
    rw [y5, if_pos rfl, kc2]
    by_cases p : T' 0 2 = 0
    · have cf : cF Mc' 6 st' 67 10 = 6 := by unfold cF; rw [gWI_nk (by decide), gWI_self, if_pos rfl]
      have hp : nI (T' 0 2) = 0 := by rw [p]; rfl
      rw [if_pos hp, if_pos hp, cFail y3.2.2.1, gB2, gBd, cf, if_neg (by decide), gBd, cf, mFlaw y3.2.2.2.1 (rT_9 y3), gBd]
      refine ⟨6, _, _, _, _, rfl, rfl, ?_, fr (gFr_trans y7 gFr_f), Or.inl ⟨by decide, ?_⟩⟩
      · unfold mF; rw [gWI_nk (by decide), gWI_nk (by decide), gWI_self, if_pos rfl]
      · unfold mF cF; rw [gWI_nk (by decide), gWI_self, if_pos rfl, gWI_self, if_pos rfl]
    · obtain ⟨M', c1, c2, c3, c4, c5⟩ := cCnt y4.2.1 y4.2.2.1
      have hp : ¬ nI (T' 0 2) = 0 := fun hh => p ((nI_eq (b := 0) (by omega) (by decide)).mp hh)
      have c67' : M' 67 10 = 0 := by rw [c2 67 (by omega) (by omega)]; exact y5
      rw [if_neg hp, if_neg hp, gBd, y5, if_pos rfl, c1, gBd, gBd, c67']
      refine ⟨0, _, _, _, _, rfl, rfl, y6, fr (gFr_trans y7 ⟨fun a h1 h2 h3 h4 => c2 a (by omega) (by omega), fun j _ => by rw [c2 1 (by omega) (by omega)], fun _ _ _ _ => rfl, fun _ _ _ _ => rfl, fun _ _ => rfl, fun _ _ _ => rfl⟩), Or.inr ⟨rfl, tW T' 0 16 (tCases T'), tEnd_M y4.1, tEnd_C y4.2.1 c2 c3 c4 c5, tEnd_O y4.2.2.1 p⟩⟩
  · have hf0 : ¬ Mc' 67 10 = 0 := by
      rw [y4]
      intro hh
      rw [hh] at y1
      exact absurd y1 (by decide)
    rw [y2, y3, gB2, gB2, hRm, gBd, ov_fl y6]
    unfold cEn
    rw [if_neg hf0, gBd, if_neg hf0, gBd, y4]
    refine ⟨f, _, _, Mm', Lm', rfl, ?_, y7, fr y9, Or.inl ⟨y1, by rw [y8, y5]⟩⟩
    split <;> rfl
end lines36
