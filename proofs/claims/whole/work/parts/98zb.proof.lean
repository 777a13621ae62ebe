/-! LINES: proof (printed by gen98zb.py) -/
section lines22
variable {e s b : Nat} {Rc Rm : goMR}
/-- the component at the name of a fact -/
noncomputable def cFc (v1 v2 : Int32) (n : Nat) (v3 v4 : Int32) (M : goMI) (L : goML) : Option (Int32 × goMI × goML) :=
  goB2 (fX9_named 5000 M L 3) fun x13 M14 =>
  if x13 < 0 then
  some (0, M14, L)
  else
  if v2 = 0 then
  if v1 ≤ v4 then
  goB2 (fX9_fail M14 5) fun x26 M27 =>
  some (0, M27, L)
  else
  goNm (v3 ||| (1 <<< (x13 &&& 31))) fun x19 =>
  Option.bind (goWr M14 72 8 v4 x13) fun M21 =>
  goB2 (fX11_advance 5000 M21 L) fun M23 L24 =>
  lX9_factList_5 5000 v1 v2 n x19 (v4 + 1) M23 L24
  else
  if (fX12_bit v3 x13) = 1 then
  goB2 (fX9_fail M14 3) fun x41 M42 =>
  some (0, M42, L)
  else
  if v1 ≤ v4 then
  goB2 (fX9_fail M14 5) fun x38 M39 =>
  some (0, M39, L)
  else
  goNm (v3 ||| (1 <<< (x13 &&& 31))) fun x31 =>
  Option.bind (goWr M14 72 8 v4 x13) fun M33 =>
  goB2 (fX11_advance 5000 M33 L) fun M35 L36 =>
  lX9_factList_5 5000 v1 v2 n x31 (v4 + 1) M35 L36
theorem cFc_0 {n : Nat} {v1 v2 v3 : Int32} {M : goMI} {L : goML} (h : (0 : Int32) ≤ v1) : lX9_factList_5 5000 v1 v2 (n + 1) v3 0 M L = cFc v1 v2 n v3 0 M L := by
  rw [lX9_factList_5, if_pos h, if_neg (by decide)]
  rfl
theorem cFc_c {n : Nat} {v1 v2 v3 v4 : Int32} {M : goMI} {L : goML} (h : v4 ≤ v1) (h2 : 0 < v4) (h4 : M 1 4 = 4) : lX9_factList_5 5000 v1 v2 (n + 1) v3 v4 M L = goB2 (fX11_advance 5000 M L) fun M43 L44 => cFc v1 v2 n v3 v4 M43 L44 := by
  rw [lX9_factList_5, if_pos h, if_pos h2, if_pos h4]
  rfl
theorem cFc_e {n : Nat} {v1 v2 v3 v4 : Int32} {M : goMI} {L : goML} (h : v4 ≤ v1) (h2 : 0 < v4) (h4 : ¬ M 1 4 = 4) : lX9_factList_5 5000 v1 v2 (n + 1) v3 v4 M L = some (v4, M, L) := by
  rw [lX9_factList_5, if_pos h, if_pos h2, if_neg h4]
/-- a proof half told: its model tells it at once -/
def ivP (s b : Nat) (T : tH) (k : Nat) (Mc : goMI) (Lc : goML) (Mm : goMI) (Lm : goML) (Tk : tH) : Prop := tM Mm b Tk ∧ (∀ r, r ≠ 0 → r ≠ 19 → Tk r = T r) ∧ (∀ j, j ≠ 10 → Tk 0 j = T 0 j) ∧ Tk 0 10 = k ∧ pC Mc s T ∧ rNm b (pN T) (T 0 12) Mc Lc Mm Lm ∧ ∀ j, j < k → Mc 72 j = nI (Tk 19 j) ∧ Tk 19 j < T 0 8
section d1
variable {Mc Mm Mc' Mm' Mc1 Mm1 : goMI} {Lc Lm Lc1 Lm1 : goML} {T Tk : tH} {k g : Nat}
theorem ivP_tok (hs : s = 7 ∨ s = 37) (hb : 121 ≤ b) (h : ivP s b T k Mc Lc Mm Lm Tk) (f : rFr Mc Lc Mm Lm Mc1 Lc1 Mm1 Lm1) : ivP s b T k Mc1 Lc1 Mm1 Lm1 Tk := by
  obtain ⟨x1, x2, x3, x4, x5, x6, x7⟩ := h
  refine ⟨tM_fr x1 (fun r hr => f.2.2.1 _ (by omega) (by omega)), x2, x3, x4, pC_fr x5 (fun r hr => f.1 _ (by omega)), rNm_fr x6 (by rw [f.1 67 (by decide)]) (f.1 69 (by decide)) (f.1 70 (by decide)) (f.2.1 68 (by decide)) (by rw [f.2.2.1 b (by omega) (by omega)]) (f.2.2.1 _ (by omega) (by omega)) (f.2.2.1 _ (by omega) (by omega)) (f.2.2.2.2.1 _ (by omega)), fun j hj => ?_⟩
  rw [f.1 72 (by decide)]
  exact x7 j hj
theorem ivP_step (hs : s = 7 ∨ s = 37) (hb : 121 ≤ b) (h : ivP s b T k Mc Lc Mm Lm Tk) (hg : g < T 0 8) (f : rFr (goWI Mc 72 k (nI g)) Lc Mm Lm Mc1 Lc1 Mm1 Lm1) : ivP s b T (k + 1) Mc1 Lc1 (goWI (goWI Mm1 (b + 19) k (nI g)) b 10 (nI (k + 1))) Lm1 (tW (tW Tk 19 k g) 0 10 (k + 1)) := by
  obtain ⟨x1, x2, x3, x4, x5, x6, x7⟩ := h
  refine ⟨tM_w0 (tM_wr (tM_fr x1 (fun r hr => f.2.2.1 _ (by omega) (by omega)))), fun r h1 h2 => by rw [tW_r h1, tW_r h2]; exact x2 r h1 h2, fun j h1 => by rw [tW_i h1, tW_r (by decide)]; exact x3 j h1, tW_e, pC_fr x5 (fun r hr => by rw [f.1 _ (by omega), goWI_ne (by omega)]), rNm_fr x6 (by rw [f.1 67 (by decide), goWI_ne (by decide)]) (by rw [f.1 69 (by decide), goWI_ne (by decide)]) (by rw [f.1 70 (by decide), goWI_ne (by decide)]) (f.2.1 68 (by decide)) (by rw [gWI_nk (by decide), gWI_na (by omega), f.2.2.1 b (by omega) (by omega)]) (by rw [goWI_ne (by omega), goWI_ne (by omega), f.2.2.1 _ (by omega) (by omega)]) (by rw [goWI_ne (by omega), goWI_ne (by omega), f.2.2.1 _ (by omega) (by omega)]) (f.2.2.2.2.1 _ (by omega)), fun j hj => ?_⟩
  rw [f.1 72 (by decide), gWI_self, tW_r (by decide)]
  by_cases c : j = k
  · rw [if_pos c, c, tW_e]
    exact ⟨rfl, hg⟩
  · rw [if_neg c, tW_i c]
    exact x7 j (by omega)
theorem rD_pf (hs : s = 7 ∨ s = 37) (hb : 121 ≤ b) (h : ivP s b T k Mc Lc Mm Lm Tk) (hO : pO T) (hsum : T 0 12 = T 0 2 + T 0 4 + T 0 5 + T 0 8 + T 0 11) (h0 : T 0 0 ≠ 0) (hk1 : 1 ≤ k) (hk8 : k ≤ 8) (c1 : ∀ a, a ≠ s + 21 → a ≠ s + 24 → Mc' a = Mc a) (c2 : ∀ j, j ≠ 3 → Mc' (s + 21) j = Mc (s + 21) j) (c3 : Mc' (s + 21) 3 = nI k) (c4 : ∀ j, j < k → Mc' (s + 24) j = Mc 72 j) : rD s b Mc' Lc (goWI Mm b 14 1) Lm (tW Tk 0 14 1) := by
  obtain ⟨x1, x2, x3, x4, x5, x6, x7⟩ := h
  have hz : ∀ r, r ≠ 0 → r ≠ 19 → (tW Tk 0 14 1) r = T r := fun r h1 h2 => by rw [tW_r h1]; exact x2 r h1 h2
  have hf : ∀ j, j ≠ 10 → j ≠ 14 → (tW Tk 0 14 1) 0 j = T 0 j := fun j h1 h2 => by rw [tW_i h2]; exact x3 j h1
  have f10 : (tW Tk 0 14 1) 0 10 = k := by rw [tW_i (by decide)]; exact x4
  have f14 : (tW Tk 0 14 1) 0 14 = 1 := tW_e
  have r19 : (tW Tk 0 14 1) 19 = Tk 19 := tW_r (by decide)
  have hpn : pN (tW Tk 0 14 1) = pN T := by
    funext z
    unfold pN
    rw [hf 2 (by decide) (by decide), hf 4 (by decide) (by decide), hf 5 (by decide) (by decide), hf 8 (by decide) (by decide), hf 11 (by decide) (by decide)]
  refine ⟨tM_w0 (v := 1) x1, ?_, ?_, ?_, ?_⟩
  · obtain ⟨xpa, xpb, xpc, xpd, xpe, xpf, xpg, xph, xpi, xpj, xpk, xpx, xpm, xpn, xpo, xpq, xpr⟩ := x5
    have mm : ∀ r, r ≤ 27 → r ≠ 21 → r ≠ 24 → Mc' (s + r) = Mc (s + r) := fun r h1 h2 h3 => c1 _ (by omega) (by omega)
    refine ⟨paF xpa (mm 0 (by decide) (by decide) (by decide)) (hf 0 (by decide) (by decide)) (hf 1 (by decide) (by decide)) (hf 2 (by decide) (by decide)) (hf 3 (by decide) (by decide)) (hf 4 (by decide) (by decide)) (hf 15 (by decide) (by decide)), pbF xpb (mm 1 (by decide) (by decide) (by decide)) (hz 1 (by decide) (by decide)), pcF xpc (mm 2 (by decide) (by decide) (by decide)) (hz 2 (by decide) (by decide)) (hz 3 (by decide) (by decide)) (hf 3 (by decide) (by decide)), pdF xpd (mm 3 (by decide) (by decide) (by decide)) (mm 4 (by decide) (by decide) (by decide)) (hz 2 (by decide) (by decide)) (hz 3 (by decide) (by decide)) (hf 3 (by decide) (by decide)), peF xpe (mm 5 (by decide) (by decide) (by decide)) (hz 4 (by decide) (by decide)), pfF xpf (mm 7 (by decide) (by decide) (by decide)) (hz 4 (by decide) (by decide)) (hz 5 (by decide) (by decide)), pgF xpg (mm 8 (by decide) (by decide) (by decide)) (hz 22 (by decide) (by decide)) (hf 15 (by decide) (by decide)) (hf 1 (by decide) (by decide)), phF xph (mm 9 (by decide) (by decide) (by decide)) (hf 5 (by decide) (by decide)) (hf 7 (by decide) (by decide)), piF xpi (mm 10 (by decide) (by decide) (by decide)) (mm 11 (by decide) (by decide) (by decide)) (mm 13 (by decide) (by decide) (by decide)) (mm 16 (by decide) (by decide) (by decide)) (mm 15 (by decide) (by decide) (by decide)) (hz 6 (by decide) (by decide)) (hz 7 (by decide) (by decide)) (hz 11 (by decide) (by decide)) (hz 8 (by decide) (by decide)) (hz 9 (by decide) (by decide)) (hf 5 (by decide) (by decide)), pjF xpj (mm 12 (by decide) (by decide) (by decide)) (hz 23 (by decide) (by decide)), pkF xpk (mm 14 (by decide) (by decide) (by decide)) (hz 12 (by decide) (by decide)), pxF xpx (mm 17 (by decide) (by decide) (by decide)) (mm 18 (by decide) (by decide) (by decide)) (mm 19 (by decide) (by decide) (by decide)) (mm 20 (by decide) (by decide) (by decide)) (hz 13 (by decide) (by decide)) (hz 14 (by decide) (by decide)) (hz 15 (by decide) (by decide)) (hz 16 (by decide) (by decide)) (hf 7 (by decide) (by decide)), ?_, pnF xpn (mm 22 (by decide) (by decide) (by decide)) (mm 23 (by decide) (by decide) (by decide)) (hz 17 (by decide) (by decide)) (hz 18 (by decide) (by decide)) (hf 9 (by decide) (by decide)), ?_, pqF xpq (mm 25 (by decide) (by decide) (by decide)) (hf 11 (by decide) (by decide)), prF xpr (mm 26 (by decide) (by decide) (by decide)) (mm 27 (by decide) (by decide) (by decide)) (hz 20 (by decide) (by decide)) (hz 21 (by decide) (by decide)) (hf 11 (by decide) (by decide))⟩
    · obtain ⟨y0, y1, y2, y3⟩ := xpm
      unfold pmC
      rw [f10, hf 8 (by decide) (by decide), hf 13 (by decide) (by decide), hf 9 (by decide) (by decide), c2 0 (by decide), c2 1 (by decide), c2 2 (by decide)]
      exact ⟨y0, y1, y2, c3⟩
    · intro j hj
      rw [f10] at hj
      rw [r19, c4 j hj]
      exact (x7 j hj).1
  · obtain ⟨⟨a0, a1, a2, a3, a4, a5, a6, a7, a8, a9, a10, a11, a13, a15⟩, p14, p1, p2, p4, p5, p6, p12, p13, p17, p19, p20, p22, q0, q1, q2⟩ := hO
    unfold pO tJ
    unfold tJ at p2
    rw [f10, f14, r19, hf 0 (by decide) (by decide), hf 1 (by decide) (by decide), hf 2 (by decide) (by decide), hf 3 (by decide) (by decide), hf 4 (by decide) (by decide), hf 5 (by decide) (by decide), hf 6 (by decide) (by decide), hf 7 (by decide) (by decide), hf 8 (by decide) (by decide), hf 9 (by decide) (by decide), hf 11 (by decide) (by decide), hf 13 (by decide) (by decide), hf 15 (by decide) (by decide), hz 1 (by decide) (by decide), hz 2 (by decide) (by decide), hz 3 (by decide) (by decide), hz 4 (by decide) (by decide), hz 5 (by decide) (by decide), hz 6 (by decide) (by decide), hz 7 (by decide) (by decide), hz 8 (by decide) (by decide), hz 9 (by decide) (by decide), hz 10 (by decide) (by decide), hz 11 (by decide) (by decide), hz 12 (by decide) (by decide), hz 13 (by decide) (by decide), hz 14 (by decide) (by decide), hz 15 (by decide) (by decide), hz 16 (by decide) (by decide), hz 17 (by decide) (by decide), hz 18 (by decide) (by decide), hz 20 (by decide) (by decide), hz 21 (by decide) (by decide), hz 22 (by decide) (by decide), hz 23 (by decide) (by decide)]
    exact ⟨⟨a0, a1, a2, a3, a4, a5, a6, a7, a8, a9, hk8, a11, a13, a15⟩, by rw [if_pos (show 0 < k from hk1)], p1, p2, p4, p5, p6, p12, p13, p17, fun i hi => (x7 i hi).2, p20, p22, q0, fun h => absurd h h0, q2⟩
  · rw [hf 12 (by decide) (by decide), hpn]
    exact rNm_fr x6 (by rw [c1 67 (by omega) (by omega)]) (c1 69 (by omega) (by omega)) (c1 70 (by omega) (by omega)) rfl (gWI_nk (by decide)) (goWI_ne (by omega)) (goWI_ne (by omega)) rfl
  · rw [hf 12 (by decide) (by decide), hf 2 (by decide) (by decide), hf 4 (by decide) (by decide), hf 5 (by decide) (by decide), hf 8 (by decide) (by decide), hf 11 (by decide) (by decide)]; exact hsum
theorem cProof (hk8 : k ≤ 8) : ∃ M', fX7_setProof Mc (s + 21) 72 8 (nI k) = some M' ∧ (∀ a, a ≠ s + 21 → a ≠ s + 24 → M' a = Mc a) ∧ (∀ j, j ≠ 3 → M' (s + 21) j = Mc (s + 21) j) ∧ M' (s + 21) 3 = nI k ∧ (72 ≠ s + 21 → ∀ j, j < k → M' (s + 24) j = Mc 72 j) := by
  have cp := gCp (M := goWI Mc (s + 21) 3 (nI k)) (s := 72) (ns := 8) (sp := 0) (d := s + 21 + 3) (nd := 8) (dp := 0) (n := k) (by omega) (by omega)
  have cp' : goCp (goWI Mc (s + 21) 3 (nI k)) 72 8 0 (s + 21 + 3) 8 0 (nI k) = _ := cp
  refine ⟨fun b => if b = s + 24 then va_cpy (goWI Mc (s + 21) 3 (nI k) 72) (goWI Mc (s + 21) 3 (nI k) (s + 24)) 0 0 k else goWI Mc (s + 21) 3 (nI k) b, ?_, fun a h1 h2 => ?_, fun j hj => ?_, ?_, fun h72 j hj => ?_⟩
  · unfold fX7_setProof
    rw [gNm, cp', gBd]
  · show (if a = s + 24 then _ else _) = _
    rw [if_neg h2, goWI_ne h1]
  · show (if s + 21 = s + 24 then _ else goWI Mc (s + 21) 3 (nI k) (s + 21)) j = _
    rw [if_neg (by omega), gWI_nk hj]
  · show (if s + 21 = s + 24 then _ else goWI Mc (s + 21) 3 (nI k) (s + 21)) 3 = _
    rw [if_neg (by omega), gWI_self, if_pos rfl]
  · show (if s + 24 = s + 24 then va_cpy (goWI Mc (s + 21) 3 (nI k) 72) (goWI Mc (s + 21) 3 (nI k) (s + 24)) 0 0 k else _) j = _
    rw [if_pos rfl]
    unfold va_cpy
    rw [if_pos ⟨Nat.zero_le _, by omega⟩, goWI_ne h72, show 0 + (j - 0) = j by omega]
end d1
theorem rProofL {T : tH} (hs : s = 7 ∨ s = 37) (hb : 121 ≤ b) (hRm : Rm 102 4 = some b) (hO : pO T) : ∀ (d k st : Nat) (Mc Mm : goMI) (Lc Lm : goML) (Tk : tH) (n m : Nat) (v3 : Int32), k + d = 8 → d < n → d + 1 < m → (∀ i, i < 18 → Lc 73 i = kw i) → rT e st Mc Lc Mm Lm → ivP s b T k Mc Lc Mm Lm Tk →
    (∃ k' st' Mc' Lc' Mm' Lm' T', 1 ≤ k' ∧ k' ≤ 8 ∧ st ≤ st' ∧ cFc 8 0 n v3 (nI k) Mc Lc = some (nI k', Mc', Lc') ∧ lX14_readProof_13 5000 Rm m 1 Mm Lm = some (goWI Mm' b 14 1, Lm') ∧ rT e st' Mc' Lc' Mm' Lm' ∧ ivP s b T k' Mc' Lc' Mm' Lm' T' ∧ rKp Mc Mm Mc' Mm' ∧ gFr s b Mc Lc Mm Lm Mc' Lc' Mm' Lm') ∨
    (∃ (f : Int32) (st' : Nat) (Mc' : goMI) (Lc' : goML) (Mm' : goMI) (Lm' : goML), 0 < f ∧ cFc 8 0 n v3 (nI k) Mc Lc = some (0, cF Mc' f st', Lc') ∧ lX14_readProof_13 5000 Rm m 1 Mm Lm = some (mF Mm' f st', Lm') ∧ gFr s b Mc Lc Mm Lm Mc' Lc' Mm' Lm') := by
  intro d
  induction d with
  | zero =>
    intro k st Mc Mm Lc Lm Tk n m v3 hk hn hm hL h hP
    obtain ⟨m, rfl⟩ : ∃ z, m = z + 1 := ⟨m - 1, by omega⟩
    obtain ⟨x1, x2, x3, x4, x5, x6, x7⟩ := id hP
    have hke : k = 8 := by omega
    have kb : Mm b 10 = nI k := by rw [tM_0 x1 (by decide), x4]
    have a8 : T 0 8 ≤ 8 := hO.1.2.2.2.2.2.2.2.2.1
    unfold cFc
    rw [lX14_readProof_13, if_neg (by decide)]
    simp only [hRm, gBd]
    rcases rNamed hRm hb hL h x6 (s := 3) (by decide) (pN_le hO) with ⟨g, hg, c1, m1, q, q1, q2, q3, q4⟩ | ⟨f, hf, c1, m1⟩
    · have c1' : fX9_named 5000 Mc Lc 3 = some (nI g, Mc) := c1
      have m1' : fX14_known 5000 Mm Lm Rm 3 = some (nI g, Mm) := m1
      have hg8 : g < T 0 8 := hg
      rw [c1', gB2, if_neg (nI_nn (by omega)), if_pos True.intro, if_pos (show (8 : Int32) ≤ nI k by rw [hke]; decide), cFail h.2.2.1, gB2, m1', gB2, kb, if_pos (show nI k = 8 by rw [hke]; rfl), mFlaw h.2.2.2.1 (rT_9 h), gBd, gBd, ov_on mF_9, gB2, if_pos mF_9]
      exact Or.inr ⟨5, st, Mc, Lc, Mm, Lm, by decide, rfl, rfl, gFr_refl⟩
    · have c1' : fX9_named 5000 Mc Lc 3 = some (-1, cF Mc f st) := c1
      have m1' : fX14_known 5000 Mm Lm Rm 3 = some (0, mF Mm f st) := m1
      have ee : (if mF Mm f st b 10 = 8 then Option.bind (some (mF Mm f st)) fun M57 => some M57 else some (mF Mm f st)) = some (mF Mm f st) := by split <;> rfl
      rw [c1', gB2, if_pos (by decide), m1', gB2, ov_fl mF_9, ee, gBd, ov_on mF_9, gB2, if_pos mF_9]
      exact Or.inr ⟨f, st, Mc, Lc, Mm, Lm, by rcases hf with e | e <;> rw [e] <;> decide, rfl, rfl, gFr_refl⟩
  | succ d ih =>
    intro k st Mc Mm Lc Lm Tk n m v3 hk hn hm hL h hP
    obtain ⟨m, rfl⟩ : ∃ z, m = z + 1 := ⟨m - 1, by omega⟩
    obtain ⟨n, rfl⟩ : ∃ z, n = z + 1 := ⟨n - 1, by omega⟩
    obtain ⟨x1, x2, x3, x4, x5, x6, x7⟩ := id hP
    have kb : Mm b 10 = nI k := by rw [tM_0 x1 (by decide), x4]
    have a8 : T 0 8 ≤ 8 := hO.1.2.2.2.2.2.2.2.2.1
    unfold cFc
    rw [lX14_readProof_13, if_neg (by decide)]
    simp only [hRm, gBd]
    rcases rNamed hRm hb hL h x6 (s := 3) (by decide) (pN_le hO) with ⟨g, hg, c1, m1, q, q1, q2, q3, q4⟩ | ⟨f, hf, c1, m1⟩
    · have c1' : fX9_named 5000 Mc Lc 3 = some (nI g, Mc) := c1
      have m1' : fX14_known 5000 Mm Lm Rm 3 = some (nI g, Mm) := m1
      have hg8 : g < T 0 8 := hg
      obtain ⟨st1, Mc1, Lc1, Mm1, Lm1, i1, n1, n1', t1, f1⟩ := rNext (Mc2 := goWI Mc 72 k (nI g)) (Lc2 := Lc) (Mm2 := Mm) (Lm2 := Lm) h q1 q2 q3 q4 (goWI_ne (by decide)) (goWI_ne (by decide)) rfl rfl
      have hP1 := ivP_step hs hb hP hg8 f1
      have kb1 : Mm1 b 10 = nI k := by rw [f1.2.2.1 b (by omega) (by omega)]; exact kb
      have t1' : rT e st1 Mc1 Lc1 (goWI (goWI Mm1 (b + 19) k (nI g)) b 10 (nI (k + 1))) Lm1 := rT_fr t1 rfl rfl (by rw [goWI_ne (by omega), goWI_ne (by omega)]) (by rw [goWI_ne (by omega), goWI_ne (by omega)]) (by rw [goWI_ne (by omega), goWI_ne (by omega)]) rfl rfl
      have g1 : gFr s b Mc Lc Mm Lm Mc1 Lc1 (goWI (goWI Mm1 (b + 19) k (nI g)) b 10 (nI (k + 1))) Lm1 := gFr_trans (gFr_trans ⟨fun a h1 h2 h3 h4 => goWI_ne (x := nI g) (k := k) (a := 72) (by omega), fun j _ => gWI_na (by decide), fun _ _ _ _ => rfl, fun _ _ _ _ => rfl, fun _ _ => rfl, fun _ _ _ => rfl⟩ (gFr_tok f1)) ⟨fun _ _ _ _ _ => rfl, fun _ _ => rfl, fun _ _ _ _ => rfl, fun a h1 h2 h3 => by rw [goWI_ne (by omega), goWI_ne (by omega)], fun j hj => by rw [gWI_na (by omega), gWI_na (by omega)], fun _ _ _ => rfl⟩
      have w71 : rKp Mc Mm Mc1 (goWI (goWI Mm1 (b + 19) k (nI g)) b 10 (nI (k + 1))) := rKp_trans (rKp_w (Mc' := goWI Mc 72 k (nI g)) (Mm' := Mm) (goWI_ne (by decide)) (goWI_ne (by decide)) rfl) (rKp_trans (rKp_tok f1) (rKp_w rfl rfl (by rw [goWI_ne (by omega), goWI_ne (by omega)])))
      rw [c1', gB2, if_neg (nI_nn (by omega)), if_pos True.intro, if_neg (show ¬ (8 : Int32) ≤ nI k from fun hx => by have := (nI_leI (a := 8) (by omega) (by omega)).mp hx; omega), gNm, gWr (by omega), gBd, n1, gB2, m1', gB2, kb, if_neg (show ¬ nI k = 8 from fun hx => by have := (nI_eq (b := 8) (by omega) (by decide)).mp hx; omega), gBd, n1', gB2, if_neg (rT_9 t1), kb1, gWr (by omega), gBd, gNm, gWI_na (a := b + 19) (b := b) (by omega), kb1, nI_1]
      have hle : nI (k + 1) ≤ (8 : Int32) := nI_le (b := 8) (by omega) (by decide)
      have hpos : 0 < nI (k + 1) := nI_lt (a := 0) (by omega) (by omega)
      obtain ⟨s1, s2, s3, s4⟩ := rT_s t1'
      by_cases c4 : Mc1 1 4 = 4
      · obtain ⟨m9, m11⟩ := s1.mp c4
        obtain ⟨q', q1', q2', q3', q4'⟩ := s4 (Or.inl c4)
        obtain ⟨st2, Mc2, Lc2, Mm2, Lm2, i2, n2, n2', t2, f2⟩ := rNext (Mc2 := Mc1) (Lc2 := Lc1) (Mm2 := goWI (goWI Mm1 (b + 19) k (nI g)) b 10 (nI (k + 1))) (Lm2 := Lm1) t1' q1' q2' q3' q4' rfl rfl rfl rfl
        rw [cFc_c hle hpos c4, n2, gB2, mEatY m9 m11, n2', gB2, gB3]
        have w72 : rKp Mc Mm Mc2 Mm2 := rKp_trans w71 (rKp_tok f2)
        rcases ih (k + 1) st2 Mc2 Mm2 Lc2 Lm2 _ n m (v3 ||| 1 <<< (nI g &&& 31)) (by omega) (by omega) (by omega) (fun i hi => by rw [f2.2.1 73 (by decide), f1.2.1 73 (by decide)]; exact hL i hi) t2 (ivP_tok hs hb hP1 f2) with ⟨k', st', Mc', Lc', Mm', Lm', T', r1, r2, r3, r4, r5, r6, r7, r8, r9⟩ | ⟨f, st', Mc', Lc', Mm', Lm', r1, r2, r3, r4⟩
        · exact Or.inl ⟨k', st', Mc', Lc', Mm', Lm', T', r1, r2, by omega, r4, r5, r6, r7, rKp_trans w72 r8, gFr_trans (gFr_trans g1 (gFr_tok f2)) r9⟩
        · exact Or.inr ⟨f, st', Mc', Lc', Mm', Lm', r1, r2, r3, gFr_trans (gFr_trans g1 (gFr_tok f2)) r4⟩
      · obtain ⟨m, rfl⟩ : ∃ z, m = z + 1 := ⟨m - 1, by omega⟩
        rw [cFc_e hle hpos c4, mEatN (fun hx => c4 (s1.mpr hx)), gB3, lX14_readProof_13, if_pos rfl, hRm, gBd, gNm]
        exact Or.inl ⟨k + 1, st1, Mc1, Lc1, _, Lm1, _, by omega, by omega, by omega, rfl, rfl, t1', hP1, w71, g1⟩
    · have c1' : fX9_named 5000 Mc Lc 3 = some (-1, cF Mc f st) := c1
      have m1' : fX14_known 5000 Mm Lm Rm 3 = some (0, mF Mm f st) := m1
      have ee : (if mF Mm f st b 10 = 8 then Option.bind (some (mF Mm f st)) fun M57 => some M57 else some (mF Mm f st)) = some (mF Mm f st) := by split <;> rfl
      rw [c1', gB2, if_pos (by decide), m1', gB2, ov_fl mF_9, ee, gBd, ov_on mF_9, gB2, if_pos mF_9]
      exact Or.inr ⟨f, st, Mc, Lc, Mm, Lm, by rcases hf with e | e <;> rw [e] <;> decide, rfl, rfl, gFr_refl⟩
theorem rProof {st : Nat} {Mc Mm Mm0 : goMI} {Lc Lm Lm0 : goML} {T : tH} (hs : s = 7 ∨ s = 37) (hb : 121 ≤ b) (hRc : goRr Rc 67 7 = s) (hRm : Rm 102 4 = some b) (hL : ∀ i, i < 18 → Lc 73 i = kw i) (h0 : T 0 0 ≠ 0) (h10 : T 0 10 = 0) (hbeg : fX14_beginsOnce 5000 Mm0 Lm0 Rm (Mm0 b 14) = some (Mm, Lm)) (h : rT e st Mc Lc Mm Lm) (hD : rD s b Mc Lc Mm Lm T) :
    rOut e s b st Mc Lc Mm Lm (fX9_proofLine 5000 Mc Lc Rc) (fX14_readProof 5000 Mm0 Lm0 Rm) (fun T' => T' 0 14 = 1 ∧ T' 0 10 ≠ 0 ∧ ∀ j, j ≠ 12 → j ≠ 10 → j ≠ 14 → T' 0 j = T 0 j) := by
  obtain ⟨d1, d2, d3, d4, d5⟩ := id hD
  unfold fX9_proofLine fX14_readProof fX9_factList
  simp only [hRm, gBd]
  rw [hbeg, gB2, cFc_0 (n := 4999) (by decide)]
  rcases rProofL (e := e) hs hb hRm d3 8 0 st Mc Mm Lc Lm T 4999 5000 0 (by decide) (by decide) (by decide) hL h ⟨d1, fun _ _ _ => rfl, fun _ _ => rfl, h10, d2, d4, fun j hj => absurd hj (Nat.not_lt_zero _)⟩ with ⟨k', st', Mc', Lc', Mm', Lm', T', r1, r2, r3, r4, r5, r6, r7, r8, r9⟩ | ⟨f, st', Mc', Lc', Mm', Lm', r1, r2, r3, r4⟩
  · have r4' : cFc 8 0 4999 0 0 Mc Lc = some (nI k', Mc', Lc') := r4
    obtain ⟨M', y1, y2, y3, y4, y5⟩ := cProof (Mc := Mc') (s := s) r2
    rw [r4', gB3, if_neg (show ¬ nI k' < 1 from nI_nlt (show 1 ≤ k' from r1) (by omega)), hRc, y1, gBd, r5]
    refine Or.inl ⟨st', M', Lc', _, Lm', _, r3, rfl, rfl, rT_fr r6 (y2 _ (by omega) (by omega)) (y2 _ (by omega) (by omega)) (goWI_ne (by omega)) (goWI_ne (by omega)) (goWI_ne (by omega)) rfl rfl, rD_pf hs hb r7 d3 d5 h0 r1 r2 y2 y3 y4 (y5 (by omega)), rKp_trans r8 (rKp_w (y2 71 (by omega) (by omega)) (y2 67 (by omega) (by omega)) (goWI_ne (by omega))), gFr_trans r9 ⟨fun a h1 h2 h3 h4 => y2 a (by omega) (by omega), fun j hj => by rw [y2 1 (by omega) (by omega)], fun _ _ _ _ => rfl, fun a h1 h2 h3 => goWI_ne (by omega), fun j hj => gWI_na (by omega), fun _ _ _ => rfl⟩, tW_e, ?_, fun j h1 h2 h3 => ?_⟩
    · rw [tW_i (by decide), r7.2.2.2.1]; omega
    · rw [tW_i h3]; exact r7.2.2.1 j h2
  · have r2' : cFc 8 0 4999 0 0 Mc Lc = some (0, cF Mc' f st', Lc') := r2
    rw [r2', gB3, if_pos (by decide), r3]
    exact rOut_f (f := f) r1 rfl rfl r4
end lines22
