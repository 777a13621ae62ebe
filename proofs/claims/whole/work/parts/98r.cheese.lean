/-! LINES: cheese (printed by gen98r.py) -/
section lines13
variable {e st s b : Nat} {Mc Mm Mm0 : goMI} {Lc Lm Lm0 : goML} {Rc Rm : goMR} {T : tH} {k v : Nat}
theorem pO_22 (h : pO T) (h0 : T 0 0 ≠ 0) (hv : v ≤ 99) : pO (tW T 22 k v) := by
  obtain ⟨⟨a0, a1, a2, a3, a4, a5, a6, a7, a8, a9, a10, a11, a13, a15⟩, p14, p1, p2, p4, p5, p6, p12, p13, p17, p19, p20, p22, q0, q1, q2⟩ := h
  have hz : ∀ r, r ≠ 22 → (tW T 22 k v) r = T r := fun r h1 => tW_r h1
  have r22 : ∀ i, (tW T 22 k v) 22 i = if i = k then v else T 22 i := fun i => by
    by_cases c : i = k
    · rw [if_pos c, c, tW_e]
    · rw [if_neg c, tW_i c]
  unfold pO tJ
  unfold tJ at p2
  rw [hz 0 (by decide), hz 1 (by decide), hz 2 (by decide), hz 3 (by decide), hz 4 (by decide), hz 5 (by decide), hz 6 (by decide), hz 7 (by decide), hz 8 (by decide), hz 9 (by decide), hz 10 (by decide), hz 11 (by decide), hz 12 (by decide), hz 13 (by decide), hz 14 (by decide), hz 15 (by decide), hz 16 (by decide), hz 17 (by decide), hz 18 (by decide), hz 19 (by decide), hz 20 (by decide), hz 21 (by decide), hz 23 (by decide)]
  refine ⟨⟨a0, a1, a2, a3, a4, a5, a6, a7, a8, a9, a10, a11, a13, a15⟩, p14, p1, p2, p4, p5, p6, p12, p13, p17, p19, p20, fun i hi => ?_, q0, fun h => absurd h h0, q2⟩
  rw [r22]
  by_cases c : i = k
  · rw [if_pos c]; exact hv
  · rw [if_neg c]; exact p22 i hi
theorem rD_22 (hs : s = 7 ∨ s = 37) (hb : 121 ≤ b) (hD : rD s b Mc Lc Mm Lm T) (h0 : T 0 0 ≠ 0) (h15 : T 0 15 = 0) (hv : v ≤ 99) : rD s b (goWI Mc (s + 8) k (nI v)) Lc (goWI Mm (b + 22) k (nI v)) Lm (tW T 22 k v) := by
  obtain ⟨d1, d2, d3, d4, d5⟩ := hD
  have hz : ∀ r, r ≠ 22 → (tW T 22 k v) r = T r := fun r h1 => tW_r h1
  have hf : ∀ j, (tW T 22 k v) 0 j = T 0 j := fun j => by rw [hz 0 (by decide)]
  have hpn : pN (tW T 22 k v) = pN T := by
    funext z
    unfold pN
    rw [hf 2, hf 4, hf 5, hf 8, hf 11]
  refine ⟨tM_wr d1, ?_, pO_22 d3 h0 hv, ?_, ?_⟩
  · obtain ⟨xpa, xpb, xpc, xpd, xpe, xpf, xpg, xph, xpi, xpj, xpk, xpx, xpm, xpn, xpo, xpq, xpr⟩ := d2
    have mm : ∀ r, r ≤ 27 → r ≠ 8 → goWI Mc (s + 8) k (nI v) (s + r) = Mc (s + r) := fun r h1 h2 => goWI_ne (by omega)
    refine ⟨paF xpa (mm 0 (by decide) (by decide)) (hf 0) (hf 1) (hf 2) (hf 3) (hf 4) (hf 15), pbF xpb (mm 1 (by decide) (by decide)) (hz 1 (by decide)), pcF xpc (mm 2 (by decide) (by decide)) (hz 2 (by decide)) (hz 3 (by decide)) (hf 3), pdF xpd (mm 3 (by decide) (by decide)) (mm 4 (by decide) (by decide)) (hz 2 (by decide)) (hz 3 (by decide)) (hf 3), peF xpe (mm 5 (by decide) (by decide)) (hz 4 (by decide)), pfF xpf (mm 7 (by decide) (by decide)) (hz 4 (by decide)) (hz 5 (by decide)), ?_, phF xph (mm 9 (by decide) (by decide)) (hf 5) (hf 7), piF xpi (mm 10 (by decide) (by decide)) (mm 11 (by decide) (by decide)) (mm 13 (by decide) (by decide)) (mm 16 (by decide) (by decide)) (mm 15 (by decide) (by decide)) (hz 6 (by decide)) (hz 7 (by decide)) (hz 11 (by decide)) (hz 8 (by decide)) (hz 9 (by decide)) (hf 5), pjF xpj (mm 12 (by decide) (by decide)) (hz 23 (by decide)), pkF xpk (mm 14 (by decide) (by decide)) (hz 12 (by decide)), pxF xpx (mm 17 (by decide) (by decide)) (mm 18 (by decide) (by decide)) (mm 19 (by decide) (by decide)) (mm 20 (by decide) (by decide)) (hz 13 (by decide)) (hz 14 (by decide)) (hz 15 (by decide)) (hz 16 (by decide)) (hf 7), pmF xpm (mm 21 (by decide) (by decide)) (hf 8) (hf 13) (hf 9) (hf 10), pnF xpn (mm 22 (by decide) (by decide)) (mm 23 (by decide) (by decide)) (hz 17 (by decide)) (hz 18 (by decide)) (hf 9), poF xpo (mm 24 (by decide) (by decide)) (hz 19 (by decide)) (hf 10), pqF xpq (mm 25 (by decide) (by decide)) (hf 11), prF xpr (mm 26 (by decide) (by decide)) (mm 27 (by decide) (by decide)) (hz 20 (by decide)) (hz 21 (by decide)) (hf 11)⟩
    intro j hj
    rw [hf 15, h15] at hj
    cases hj
  · rw [hf 12, hpn]
    exact rNm_fr d4 (gWI_na (by omega)) (goWI_ne (by omega)) (goWI_ne (by omega)) rfl (gWI_na (by omega)) (goWI_ne (by omega)) (goWI_ne (by omega)) rfl
  · rw [hf 12, hf 2, hf 4, hf 5, hf 8, hf 11]; exact d5
theorem rD_15 (hs : s = 7 ∨ s = 37) (hb : 121 ≤ b) (hD : rD s b Mc Lc Mm Lm T) (h0 : T 0 0 ≠ 0) (hc : ∀ j, j < T 0 1 → Mc (s + 8) j = nI (T 22 j)) : rD s b (goWI Mc s 6 1) Lc (goWI Mm b 15 1) Lm (tW T 0 15 1) := by
  obtain ⟨d1, d2, d3, d4, d5⟩ := hD
  have hz : ∀ r, r ≠ 0 → (tW T 0 15 1) r = T r := fun r h1 => tW_r h1
  have hf : ∀ j, j ≠ 15 → (tW T 0 15 1) 0 j = T 0 j := fun j h1 => tW_i h1
  have hpn : pN (tW T 0 15 1) = pN T := by
    funext z
    unfold pN
    rw [hf 2 (by decide), hf 4 (by decide), hf 5 (by decide), hf 8 (by decide), hf 11 (by decide)]
  refine ⟨tM_w0 (v := 1) d1, ?_, ?_, ?_, ?_⟩
  · obtain ⟨xpa, xpb, xpc, xpd, xpe, xpf, xpg, xph, xpi, xpj, xpk, xpx, xpm, xpn, xpo, xpq, xpr⟩ := d2
    have mm : ∀ r, r ≤ 27 → r ≠ 0 → goWI Mc s 6 1 (s + r) = Mc (s + r) := fun r h1 h2 => goWI_ne (by omega)
    refine ⟨?_, pbF xpb (mm 1 (by decide) (by decide)) (hz 1 (by decide)), pcF xpc (mm 2 (by decide) (by decide)) (hz 2 (by decide)) (hz 3 (by decide)) (hf 3 (by decide)), pdF xpd (mm 3 (by decide) (by decide)) (mm 4 (by decide) (by decide)) (hz 2 (by decide)) (hz 3 (by decide)) (hf 3 (by decide)), peF xpe (mm 5 (by decide) (by decide)) (hz 4 (by decide)), pfF xpf (mm 7 (by decide) (by decide)) (hz 4 (by decide)) (hz 5 (by decide)), ?_, phF xph (mm 9 (by decide) (by decide)) (hf 5 (by decide)) (hf 7 (by decide)), piF xpi (mm 10 (by decide) (by decide)) (mm 11 (by decide) (by decide)) (mm 13 (by decide) (by decide)) (mm 16 (by decide) (by decide)) (mm 15 (by decide) (by decide)) (hz 6 (by decide)) (hz 7 (by decide)) (hz 11 (by decide)) (hz 8 (by decide)) (hz 9 (by decide)) (hf 5 (by decide)), pjF xpj (mm 12 (by decide) (by decide)) (hz 23 (by decide)), pkF xpk (mm 14 (by decide) (by decide)) (hz 12 (by decide)), pxF xpx (mm 17 (by decide) (by decide)) (mm 18 (by decide) (by decide)) (mm 19 (by decide) (by decide)) (mm 20 (by decide) (by decide)) (hz 13 (by decide)) (hz 14 (by decide)) (hz 15 (by decide)) (hz 16 (by decide)) (hf 7 (by decide)), pmF xpm (mm 21 (by decide) (by decide)) (hf 8 (by decide)) (hf 13 (by decide)) (hf 9 (by decide)) (hf 10 (by decide)), pnF xpn (mm 22 (by decide) (by decide)) (mm 23 (by decide) (by decide)) (hz 17 (by decide)) (hz 18 (by decide)) (hf 9 (by decide)), poF xpo (mm 24 (by decide) (by decide)) (hz 19 (by decide)) (hf 10 (by decide)), pqF xpq (mm 25 (by decide) (by decide)) (hf 11 (by decide)), prF xpr (mm 26 (by decide) (by decide)) (mm 27 (by decide) (by decide)) (hz 20 (by decide)) (hz 21 (by decide)) (hf 11 (by decide))⟩
    · obtain ⟨y0, y1, y2, y3, y4, y6⟩ := xpa
      unfold paC
      rw [tW_e, hf 0 (by decide), hf 1 (by decide), hf 2 (by decide), hf 3 (by decide), hf 4 (by decide), gWI_nk (j := 0) (by decide), gWI_nk (j := 1) (by decide), gWI_nk (j := 2) (by decide), gWI_nk (j := 3) (by decide), gWI_nk (j := 4) (by decide), gWI_self]
      exact ⟨y0, y1, y2, y3, y4, rfl⟩
    · intro j _ hj
      rw [hf 1 (by decide)] at hj
      rw [hz 22 (by decide), gWI_na (by omega)]
      exact hc j hj
  · obtain ⟨⟨a0, a1, a2, a3, a4, a5, a6, a7, a8, a9, a10, a11, a13, a15⟩, p14, p1, p2, p4, p5, p6, p12, p13, p17, p19, p20, p22, q0, q1, q2⟩ := d3
    unfold pO tJ
    unfold tJ at p2
    rw [tW_e, hf 0 (by decide), hf 1 (by decide), hf 2 (by decide), hf 3 (by decide), hf 4 (by decide), hf 5 (by decide), hf 6 (by decide), hf 7 (by decide), hf 8 (by decide), hf 9 (by decide), hf 10 (by decide), hf 11 (by decide), hf 13 (by decide), hf 14 (by decide), hz 1 (by decide), hz 2 (by decide), hz 3 (by decide), hz 4 (by decide), hz 5 (by decide), hz 6 (by decide), hz 7 (by decide), hz 8 (by decide), hz 9 (by decide), hz 10 (by decide), hz 11 (by decide), hz 12 (by decide), hz 13 (by decide), hz 14 (by decide), hz 15 (by decide), hz 16 (by decide), hz 17 (by decide), hz 18 (by decide), hz 19 (by decide), hz 20 (by decide), hz 21 (by decide), hz 22 (by decide), hz 23 (by decide)]
    exact ⟨⟨a0, a1, a2, a3, a4, a5, a6, a7, a8, a9, a10, a11, a13, Nat.le_refl _⟩, p14, p1, p2, p4, p5, p6, p12, p13, p17, p19, p20, p22, q0, fun h => absurd h h0, q2⟩
  · rw [hf 12 (by decide), hpn]
    exact rNm_fr d4 (gWI_na (by omega)) (goWI_ne (by omega)) (goWI_ne (by omega)) rfl (gWI_nk (by decide)) (goWI_ne (by omega)) (goWI_ne (by omega)) rfl
  · rw [hf 12 (by decide), hf 2 (by decide), hf 4 (by decide), hf 5 (by decide), hf 8 (by decide), hf 11 (by decide)]; exact d5
end lines13
