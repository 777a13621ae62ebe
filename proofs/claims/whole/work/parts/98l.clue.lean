/-! LINES: clues (printed by gen98l.py) -/
section lines7
variable {e st s b : Nat} {Mc Mm Mm0 Mc' Mm' : goMI} {Lc Lm Lm0 Lc' Lm' : goML} {Rc Rm : goMR} {T T' : tH} {v g pl w : Nat}
theorem gW_c {M M' : goMI} {x k a : Nat} {v : Int32} (h : M a = M' a) : goWI M x k v a = goWI M' x k v a := by
  by_cases c : a = x
  · subst c
    funext j
    rw [gWI_self, gWI_self, h]
  · rw [goWI_ne c, goWI_ne c, h]
theorem pO_clue (h : pO T) (h0 : T 0 0 ≠ 0) (h10 : T 0 7 < 10) (hv : v ≤ 2) (hg : g < T 0 5) (hp : pl < T 0 2) (hw0 : v = 0 → w < T 0 1) (hw1 : v ≠ 0 → w < T 0 0) : pO (tW (tW (tW (tW (tW T 13 (T 0 7) v) 14 (T 0 7) g) 15 (T 0 7) pl) 16 (T 0 7) w) 0 7 (T 0 7 + 1)) := by
  obtain ⟨⟨a0, a1, a2, a3, a4, a5, a6, a7, a8, a9, a10, a11, a13, a15⟩, p14, p1, p2, p4, p5, p6, p12, p13, p17, p19, p20, p22, q0, q1, q2⟩ := h
  have hz : ∀ r, r ≠ 0 → r ≠ 13 → r ≠ 14 → r ≠ 15 → r ≠ 16 → (tW (tW (tW (tW (tW T 13 (T 0 7) v) 14 (T 0 7) g) 15 (T 0 7) pl) 16 (T 0 7) w) 0 7 (T 0 7 + 1)) r = T r := fun r h1 h2 h3 h4 h5 => by rw [tW_r h1, tW_r h5, tW_r h4, tW_r h3, tW_r h2]
  have hf : ∀ j, j ≠ 7 → (tW (tW (tW (tW (tW T 13 (T 0 7) v) 14 (T 0 7) g) 15 (T 0 7) pl) 16 (T 0 7) w) 0 7 (T 0 7 + 1)) 0 j = T 0 j := fun j h1 => by rw [tW_i h1, tW_r (by decide), tW_r (by decide), tW_r (by decide), tW_r (by decide)]
  have f7 : (tW (tW (tW (tW (tW T 13 (T 0 7) v) 14 (T 0 7) g) 15 (T 0 7) pl) 16 (T 0 7) w) 0 7 (T 0 7 + 1)) 0 7 = T 0 7 + 1 := tW_e
  have r13 : ∀ i, (tW (tW (tW (tW (tW T 13 (T 0 7) v) 14 (T 0 7) g) 15 (T 0 7) pl) 16 (T 0 7) w) 0 7 (T 0 7 + 1)) 13 i = if i = T 0 7 then v else T 13 i := fun i => by
    rw [tW_r (by decide), tW_r (by decide), tW_r (by decide), tW_r (by decide)]
    by_cases c : i = T 0 7
    · rw [if_pos c, c, tW_e]
    · rw [if_neg c, tW_i c]
  have r14 : ∀ i, (tW (tW (tW (tW (tW T 13 (T 0 7) v) 14 (T 0 7) g) 15 (T 0 7) pl) 16 (T 0 7) w) 0 7 (T 0 7 + 1)) 14 i = if i = T 0 7 then g else T 14 i := fun i => by
    rw [tW_r (by decide), tW_r (by decide), tW_r (by decide)]
    by_cases c : i = T 0 7
    · rw [if_pos c, c, tW_e]
    · rw [if_neg c, tW_i c, tW_r (by decide)]
  have r15 : ∀ i, (tW (tW (tW (tW (tW T 13 (T 0 7) v) 14 (T 0 7) g) 15 (T 0 7) pl) 16 (T 0 7) w) 0 7 (T 0 7 + 1)) 15 i = if i = T 0 7 then pl else T 15 i := fun i => by
    rw [tW_r (by decide), tW_r (by decide)]
    by_cases c : i = T 0 7
    · rw [if_pos c, c, tW_e]
    · rw [if_neg c, tW_i c, tW_r (by decide), tW_r (by decide)]
  have r16 : ∀ i, (tW (tW (tW (tW (tW T 13 (T 0 7) v) 14 (T 0 7) g) 15 (T 0 7) pl) 16 (T 0 7) w) 0 7 (T 0 7 + 1)) 16 i = if i = T 0 7 then w else T 16 i := fun i => by
    rw [tW_r (by decide)]
    by_cases c : i = T 0 7
    · rw [if_pos c, c, tW_e]
    · rw [if_neg c, tW_i c, tW_r (by decide), tW_r (by decide), tW_r (by decide)]
  unfold pO tJ
  unfold tJ at p2
  rw [f7, hf 0 (by decide), hf 1 (by decide), hf 2 (by decide), hf 3 (by decide), hf 4 (by decide), hf 5 (by decide), hf 6 (by decide), hf 8 (by decide), hf 9 (by decide), hf 10 (by decide), hf 11 (by decide), hf 13 (by decide), hf 14 (by decide), hf 15 (by decide), hz 1 (by decide) (by decide) (by decide) (by decide) (by decide), hz 2 (by decide) (by decide) (by decide) (by decide) (by decide), hz 3 (by decide) (by decide) (by decide) (by decide) (by decide), hz 4 (by decide) (by decide) (by decide) (by decide) (by decide), hz 5 (by decide) (by decide) (by decide) (by decide) (by decide), hz 6 (by decide) (by decide) (by decide) (by decide) (by decide), hz 7 (by decide) (by decide) (by decide) (by decide) (by decide), hz 8 (by decide) (by decide) (by decide) (by decide) (by decide), hz 9 (by decide) (by decide) (by decide) (by decide) (by decide), hz 10 (by decide) (by decide) (by decide) (by decide) (by decide), hz 11 (by decide) (by decide) (by decide) (by decide) (by decide), hz 12 (by decide) (by decide) (by decide) (by decide) (by decide), hz 17 (by decide) (by decide) (by decide) (by decide) (by decide), hz 18 (by decide) (by decide) (by decide) (by decide) (by decide), hz 19 (by decide) (by decide) (by decide) (by decide) (by decide), hz 20 (by decide) (by decide) (by decide) (by decide) (by decide), hz 21 (by decide) (by decide) (by decide) (by decide) (by decide), hz 22 (by decide) (by decide) (by decide) (by decide) (by decide), hz 23 (by decide) (by decide) (by decide) (by decide) (by decide)]
  refine ⟨⟨a0, a1, a2, a3, a4, a5, a6, by omega, a8, a9, a10, a11, a13, a15⟩, p14, p1, p2, p4, p5, p6, p12, fun i hi => ?_, p17, p19, p20, p22, q0, fun h => absurd h h0, q2⟩
  rw [r13, r14, r15, r16]
  by_cases c : i = T 0 7
  · rw [if_pos c, if_pos c, if_pos c, if_pos c]; exact ⟨hv, hg, hp, hw0, hw1⟩
  · rw [if_neg c, if_neg c, if_neg c, if_neg c]; exact p13 i (by omega)
theorem rD_clue (hs : s = 7 ∨ s = 37) (hb : 121 ≤ b) (hD : rD s b Mc Lc Mm Lm T) (h0 : T 0 0 ≠ 0) (h10 : T 0 7 < 10) (hv : v ≤ 2) (hg : g < T 0 5) (hp : pl < T 0 2) (hw0 : v = 0 → w < T 0 1) (hw1 : v ≠ 0 → w < T 0 0) :
    rD s b (goWI (goWI (goWI (goWI (goWI Mc (s + 17) (T 0 7) (nI v)) (s + 18) (T 0 7) (nI g)) (s + 19) (T 0 7) (nI pl)) (s + 20) (T 0 7) (nI w)) (s + 9) 1 (nI (T 0 7 + 1))) Lc (goWI (goWI (goWI (goWI (goWI Mm (b + 13) (T 0 7) (nI v)) (b + 14) (T 0 7) (nI g)) (b + 15) (T 0 7) (nI pl)) (b + 16) (T 0 7) (nI w)) b 7 (nI (T 0 7 + 1))) Lm (tW (tW (tW (tW (tW T 13 (T 0 7) v) 14 (T 0 7) g) 15 (T 0 7) pl) 16 (T 0 7) w) 0 7 (T 0 7 + 1)) ∧ ∀ j, j ≠ 12 → (tW (tW (tW (tW (tW T 13 (T 0 7) v) 14 (T 0 7) g) 15 (T 0 7) pl) 16 (T 0 7) w) 0 7 (T 0 7 + 1)) 0 j = if j = 7 then T 0 7 + 1 else T 0 j := by
  obtain ⟨d1, d2, d3, d4, d5⟩ := hD
  have hz : ∀ r, r ≠ 0 → r ≠ 13 → r ≠ 14 → r ≠ 15 → r ≠ 16 → (tW (tW (tW (tW (tW T 13 (T 0 7) v) 14 (T 0 7) g) 15 (T 0 7) pl) 16 (T 0 7) w) 0 7 (T 0 7 + 1)) r = T r := fun r h1 h2 h3 h4 h5 => by rw [tW_r h1, tW_r h5, tW_r h4, tW_r h3, tW_r h2]
  have hf : ∀ j, j ≠ 7 → (tW (tW (tW (tW (tW T 13 (T 0 7) v) 14 (T 0 7) g) 15 (T 0 7) pl) 16 (T 0 7) w) 0 7 (T 0 7 + 1)) 0 j = T 0 j := fun j h1 => by rw [tW_i h1, tW_r (by decide), tW_r (by decide), tW_r (by decide), tW_r (by decide)]
  have f7 : (tW (tW (tW (tW (tW T 13 (T 0 7) v) 14 (T 0 7) g) 15 (T 0 7) pl) 16 (T 0 7) w) 0 7 (T 0 7 + 1)) 0 7 = T 0 7 + 1 := tW_e
  have r13 : ∀ i, (tW (tW (tW (tW (tW T 13 (T 0 7) v) 14 (T 0 7) g) 15 (T 0 7) pl) 16 (T 0 7) w) 0 7 (T 0 7 + 1)) 13 i = if i = T 0 7 then v else T 13 i := fun i => by
    rw [tW_r (by decide), tW_r (by decide), tW_r (by decide), tW_r (by decide)]
    by_cases c : i = T 0 7
    · rw [if_pos c, c, tW_e]
    · rw [if_neg c, tW_i c]
  have r14 : ∀ i, (tW (tW (tW (tW (tW T 13 (T 0 7) v) 14 (T 0 7) g) 15 (T 0 7) pl) 16 (T 0 7) w) 0 7 (T 0 7 + 1)) 14 i = if i = T 0 7 then g else T 14 i := fun i => by
    rw [tW_r (by decide), tW_r (by decide), tW_r (by decide)]
    by_cases c : i = T 0 7
    · rw [if_pos c, c, tW_e]
    · rw [if_neg c, tW_i c, tW_r (by decide)]
  have r15 : ∀ i, (tW (tW (tW (tW (tW T 13 (T 0 7) v) 14 (T 0 7) g) 15 (T 0 7) pl) 16 (T 0 7) w) 0 7 (T 0 7 + 1)) 15 i = if i = T 0 7 then pl else T 15 i := fun i => by
    rw [tW_r (by decide), tW_r (by decide)]
    by_cases c : i = T 0 7
    · rw [if_pos c, c, tW_e]
    · rw [if_neg c, tW_i c, tW_r (by decide), tW_r (by decide)]
  have r16 : ∀ i, (tW (tW (tW (tW (tW T 13 (T 0 7) v) 14 (T 0 7) g) 15 (T 0 7) pl) 16 (T 0 7) w) 0 7 (T 0 7 + 1)) 16 i = if i = T 0 7 then w else T 16 i := fun i => by
    rw [tW_r (by decide)]
    by_cases c : i = T 0 7
    · rw [if_pos c, c, tW_e]
    · rw [if_neg c, tW_i c, tW_r (by decide), tW_r (by decide), tW_r (by decide)]
  have cA : ∀ a, a ≠ s + 17 → a ≠ s + 18 → a ≠ s + 19 → a ≠ s + 20 → a ≠ s + 9 → (goWI (goWI (goWI (goWI (goWI Mc (s + 17) (T 0 7) (nI v)) (s + 18) (T 0 7) (nI g)) (s + 19) (T 0 7) (nI pl)) (s + 20) (T 0 7) (nI w)) (s + 9) 1 (nI (T 0 7 + 1))) a = Mc a := fun a h1 h2 h3 h4 h5 => by rw [goWI_ne h5, goWI_ne h4, goWI_ne h3, goWI_ne h2, goWI_ne h1]
  refine ⟨⟨tM_w0 (tM_wr (tM_wr (tM_wr (tM_wr d1)))), ?_, pO_clue d3 h0 h10 hv hg hp hw0 hw1, ?_, ?_⟩, fun j _ => ?_⟩
  · obtain ⟨xpa, xpb, xpc, xpd, xpe, xpf, xpg, xph, xpi, xpj, xpk, xpx, xpm, xpn, xpo, xpq, xpr⟩ := d2
    have mm : ∀ r, r ≤ 27 → r ≠ 17 → r ≠ 18 → r ≠ 19 → r ≠ 20 → r ≠ 9 → (goWI (goWI (goWI (goWI (goWI Mc (s + 17) (T 0 7) (nI v)) (s + 18) (T 0 7) (nI g)) (s + 19) (T 0 7) (nI pl)) (s + 20) (T 0 7) (nI w)) (s + 9) 1 (nI (T 0 7 + 1))) (s + r) = Mc (s + r) := fun r h1 h2 h3 h4 h5 h6 => cA _ (by omega) (by omega) (by omega) (by omega) (by omega)
    refine ⟨paF xpa (mm 0 (by decide) (by decide) (by decide) (by decide) (by decide) (by decide)) (hf 0 (by decide)) (hf 1 (by decide)) (hf 2 (by decide)) (hf 3 (by decide)) (hf 4 (by decide)) (hf 15 (by decide)), pbF xpb (mm 1 (by decide) (by decide) (by decide) (by decide) (by decide) (by decide)) (hz 1 (by decide) (by decide) (by decide) (by decide) (by decide)), pcF xpc (mm 2 (by decide) (by decide) (by decide) (by decide) (by decide) (by decide)) (hz 2 (by decide) (by decide) (by decide) (by decide) (by decide)) (hz 3 (by decide) (by decide) (by decide) (by decide) (by decide)) (hf 3 (by decide)), pdF xpd (mm 3 (by decide) (by decide) (by decide) (by decide) (by decide) (by decide)) (mm 4 (by decide) (by decide) (by decide) (by decide) (by decide) (by decide)) (hz 2 (by decide) (by decide) (by decide) (by decide) (by decide)) (hz 3 (by decide) (by decide) (by decide) (by decide) (by decide)) (hf 3 (by decide)), peF xpe (mm 5 (by decide) (by decide) (by decide) (by decide) (by decide) (by decide)) (hz 4 (by decide) (by decide) (by decide) (by decide) (by decide)), pfF xpf (mm 7 (by decide) (by decide) (by decide) (by decide) (by decide) (by decide)) (hz 4 (by decide) (by decide) (by decide) (by decide) (by decide)) (hz 5 (by decide) (by decide) (by decide) (by decide) (by decide)), pgF xpg (mm 8 (by decide) (by decide) (by decide) (by decide) (by decide) (by decide)) (hz 22 (by decide) (by decide) (by decide) (by decide) (by decide)) (hf 15 (by decide)) (hf 1 (by decide)), ?_, piF xpi (mm 10 (by decide) (by decide) (by decide) (by decide) (by decide) (by decide)) (mm 11 (by decide) (by decide) (by decide) (by decide) (by decide) (by decide)) (mm 13 (by decide) (by decide) (by decide) (by decide) (by decide) (by decide)) (mm 16 (by decide) (by decide) (by decide) (by decide) (by decide) (by decide)) (mm 15 (by decide) (by decide) (by decide) (by decide) (by decide) (by decide)) (hz 6 (by decide) (by decide) (by decide) (by decide) (by decide)) (hz 7 (by decide) (by decide) (by decide) (by decide) (by decide)) (hz 11 (by decide) (by decide) (by decide) (by decide) (by decide)) (hz 8 (by decide) (by decide) (by decide) (by decide) (by decide)) (hz 9 (by decide) (by decide) (by decide) (by decide) (by decide)) (hf 5 (by decide)), pjF xpj (mm 12 (by decide) (by decide) (by decide) (by decide) (by decide) (by decide)) (hz 23 (by decide) (by decide) (by decide) (by decide) (by decide)), pkF xpk (mm 14 (by decide) (by decide) (by decide) (by decide) (by decide) (by decide)) (hz 12 (by decide) (by decide) (by decide) (by decide) (by decide)), ?_, pmF xpm (mm 21 (by decide) (by decide) (by decide) (by decide) (by decide) (by decide)) (hf 8 (by decide)) (hf 13 (by decide)) (hf 9 (by decide)) (hf 10 (by decide)), pnF xpn (mm 22 (by decide) (by decide) (by decide) (by decide) (by decide) (by decide)) (mm 23 (by decide) (by decide) (by decide) (by decide) (by decide) (by decide)) (hz 17 (by decide) (by decide) (by decide) (by decide) (by decide)) (hz 18 (by decide) (by decide) (by decide) (by decide) (by decide)) (hf 9 (by decide)), poF xpo (mm 24 (by decide) (by decide) (by decide) (by decide) (by decide) (by decide)) (hz 19 (by decide) (by decide) (by decide) (by decide) (by decide)) (hf 10 (by decide)), pqF xpq (mm 25 (by decide) (by decide) (by decide) (by decide) (by decide) (by decide)) (hf 11 (by decide)), prF xpr (mm 26 (by decide) (by decide) (by decide) (by decide) (by decide) (by decide)) (mm 27 (by decide) (by decide) (by decide) (by decide) (by decide) (by decide)) (hz 20 (by decide) (by decide) (by decide) (by decide) (by decide)) (hz 21 (by decide) (by decide) (by decide) (by decide) (by decide)) (hf 11 (by decide))⟩
    · unfold phC at xph ⊢
      rw [hf 5 (by decide), f7, gWI_nk (by decide), gWI_self, if_pos rfl, gWI_na (by omega), gWI_na (by omega), gWI_na (by omega), gWI_na (by omega)]
      exact ⟨xph.1, rfl⟩
    · intro i hi
      rw [f7] at hi
      rw [r13, r14, r15, r16]
      have k17 : (goWI (goWI (goWI (goWI (goWI Mc (s + 17) (T 0 7) (nI v)) (s + 18) (T 0 7) (nI g)) (s + 19) (T 0 7) (nI pl)) (s + 20) (T 0 7) (nI w)) (s + 9) 1 (nI (T 0 7 + 1))) (s + 17) i = if i = T 0 7 then nI v else Mc (s + 17) i := by rw [gWI_na (by omega), gWI_na (by omega), gWI_na (by omega), gWI_na (by omega), gWI_self]
      have k18 : (goWI (goWI (goWI (goWI (goWI Mc (s + 17) (T 0 7) (nI v)) (s + 18) (T 0 7) (nI g)) (s + 19) (T 0 7) (nI pl)) (s + 20) (T 0 7) (nI w)) (s + 9) 1 (nI (T 0 7 + 1))) (s + 18) i = if i = T 0 7 then nI g else Mc (s + 18) i := by rw [gWI_na (by omega), gWI_na (by omega), gWI_na (by omega), gWI_self, gWI_na (by omega)]
      have k19 : (goWI (goWI (goWI (goWI (goWI Mc (s + 17) (T 0 7) (nI v)) (s + 18) (T 0 7) (nI g)) (s + 19) (T 0 7) (nI pl)) (s + 20) (T 0 7) (nI w)) (s + 9) 1 (nI (T 0 7 + 1))) (s + 19) i = if i = T 0 7 then nI pl else Mc (s + 19) i := by rw [gWI_na (by omega), gWI_na (by omega), gWI_self, gWI_na (by omega), gWI_na (by omega)]
      have k20 : (goWI (goWI (goWI (goWI (goWI Mc (s + 17) (T 0 7) (nI v)) (s + 18) (T 0 7) (nI g)) (s + 19) (T 0 7) (nI pl)) (s + 20) (T 0 7) (nI w)) (s + 9) 1 (nI (T 0 7 + 1))) (s + 20) i = if i = T 0 7 then nI w else Mc (s + 20) i := by rw [gWI_na (by omega), gWI_self, gWI_na (by omega), gWI_na (by omega), gWI_na (by omega)]
      rw [k17, k18, k19, k20]
      by_cases c : i = T 0 7
      · simp only [if_pos c]; exact ⟨trivial, trivial, trivial, trivial⟩
      · simp only [if_neg c]; exact xpx i (by omega)
  · have hpn : pN (tW (tW (tW (tW (tW T 13 (T 0 7) v) 14 (T 0 7) g) 15 (T 0 7) pl) 16 (T 0 7) w) 0 7 (T 0 7 + 1)) = pN T := by
      funext x
      unfold pN
      rw [hf 2 (by decide), hf 4 (by decide), hf 5 (by decide), hf 8 (by decide), hf 11 (by decide)]
    rw [hf 12 (by decide), hpn]
    exact rNm_fr d4 (by rw [cA 67 (by omega) (by omega) (by omega) (by omega) (by omega)]) (cA 69 (by omega) (by omega) (by omega) (by omega) (by omega)) (cA 70 (by omega) (by omega) (by omega) (by omega) (by omega)) rfl (by rw [gWI_nk (by decide), gWI_na (by omega), gWI_na (by omega), gWI_na (by omega), gWI_na (by omega)]) (by rw [goWI_ne (by omega), goWI_ne (by omega), goWI_ne (by omega), goWI_ne (by omega), goWI_ne (by omega)]) (by rw [goWI_ne (by omega), goWI_ne (by omega), goWI_ne (by omega), goWI_ne (by omega), goWI_ne (by omega)]) rfl
  · rw [hf 12 (by decide), hf 2 (by decide), hf 4 (by decide), hf 5 (by decide), hf 8 (by decide), hf 11 (by decide)]
    exact d5
  · by_cases c : j = 7
    · rw [if_pos c, c, tW_e]
    · rw [if_neg c]; exact hf j c
theorem cClue (h7 : Mc (s + 9) 1 = nI (T 0 7)) (h10 : T 0 7 < 10) : fX5_addClue Mc (s + 9) (nI v) (nI g) (nI pl) (nI w) = some (goWI (goWI (goWI (goWI (goWI Mc (s + 17) (T 0 7) (nI v)) (s + 18) (T 0 7) (nI g)) (s + 19) (T 0 7) (nI pl)) (s + 20) (T 0 7) (nI w)) (s + 9) 1 (nI (T 0 7 + 1))) := by
  unfold fX5_addClue
  rw [h7, if_pos (show nI (T 0 7) < 10 from nI_lt (b := 10) h10 (by decide)), show s + 9 + 8 = s + 17 from rfl, show s + 9 + 9 = s + 18 from rfl, show s + 9 + 10 = s + 19 from rfl, show s + 9 + 11 = s + 20 from rfl, gWr h10, gBd, gWI_na (by omega), h7, gWr h10, gBd, gWI_na (by omega), gWI_na (by omega), h7, gWr h10, gBd, gWI_na (by omega), gWI_na (by omega), gWI_na (by omega), h7, gWr h10, gBd, gWI_na (by omega), gWI_na (by omega), gWI_na (by omega), gWI_na (by omega), h7, nI_1, gNm]
end lines7
