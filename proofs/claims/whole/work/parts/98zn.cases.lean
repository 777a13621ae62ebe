/-! THE READER ENDS: cases (printed by gen98zn.py) -/
section lines35
variable {e s b : Nat} {M Mc Mm M' : goMI} {L Lc Lm : goML} {R Rc Rm : goMR} {T : tH}
theorem cCntL (h4 : T 0 4 ≤ 4) : ∀ (q : Nat) (M : goMI) (n : Nat), q ≤ T 0 4 → q < n → M s 5 = nI (gPr (tMx T) q (T 0 4 - q)) → (∀ p, p < 4 → M (s + 5) p = nI (T 4 p)) → (∀ p, p < 4 → T 4 p ≤ 3) → (∀ p, q ≤ p → p < T 0 4 → M (s + 6) p = nI (tBy T p)) → ∃ M', lX6_countCases_12 s n (nI q - 1) M = some M' ∧ (∀ a, a ≠ s → a ≠ s + 6 → M' a = M a) ∧ (∀ j, j ≠ 5 → M' s j = M s j) ∧ M' s 5 = nI (tCases T) ∧ ∀ p, p < T 0 4 → M' (s + 6) p = nI (tBy T p) := by
  intro q
  induction q with
  | zero =>
    intro M n hq hn h5 hst hs3 hby
    obtain ⟨n, rfl⟩ : ∃ z, n = z + 1 := ⟨n - 1, by omega⟩
    refine ⟨M, ?_, fun _ _ _ => rfl, fun _ _ => rfl, h5, fun p hp => hby p (Nat.zero_le _) hp⟩
    rw [lX6_countCases_12, if_neg (by decide)]
  | succ q ih =>
    intro M n hq hn h5 hst hs3 hby
    obtain ⟨n, rfl⟩ : ∃ z, n = z + 1 := ⟨n - 1, by omega⟩
    have e1 : nI (q + 1) - 1 = nI q := pk_sub (b := 1) (by omega)
    have e2 : nI q + (-1) = nI q - 1 := (Int32.sub_eq_add_neg _ _).symm
    have hb : tBy T q = gPr (tMx T) (q + 1) (T 0 4 - (q + 1)) := rfl
    have hd : gPr (tMx T) q (T 0 4 - q) = tMx T q * tBy T q := by
      rw [show T 0 4 - q = T 0 4 - (q + 1) + 1 by omega, gPr_head, hb]
    rw [← hb] at h5
    have h33 := hs3 q (by omega)
    have k5 : goWI M (s + 6) q (nI (tBy T q)) (s + 5) q = nI (T 4 q) := by rw [gWI_na (by omega)]; exact hst q (by omega)
    have ks : goWI M (s + 6) q (nI (tBy T q)) s 5 = nI (tBy T q) := by rw [gWI_na (by omega)]; exact h5
    rw [e1, lX6_countCases_12, if_pos (nI_pos' (by omega)), h5, gWr (by omega), gBd, gRd (by omega), gBd, k5, e2]
    have hbyq : ∀ p, q ≤ p → p < T 0 4 → goWI M (s + 6) q (nI (tBy T q)) (s + 6) p = nI (tBy T p) := by
      intro p h1 h2
      rw [gWI_self]
      by_cases c : p = q
      · rw [if_pos c, c]
      · rw [if_neg c]; exact hby p (by omega) h2
    by_cases c : 0 < T 4 q
    · have hx : tMx T q = T 4 q := by unfold tMx; rw [if_pos c]
      rw [if_pos (show 0 < nI (T 4 q) from nI_lt (a := 0) c (by omega)), gBd, ks, pk_mul, gNm, gBd]
      obtain ⟨M', y1, y2, y3, y4, y5⟩ := ih (goWI (goWI M (s + 6) q (nI (tBy T q))) s 5 (nI (tBy T q * T 4 q))) n (by omega) (by omega) (by rw [gWI_self, if_pos rfl, hd, hx, Nat.mul_comm]) (fun p hp => by rw [gWI_na (by omega), gWI_na (by omega)]; exact hst p hp) hs3 (fun p h1 h2 => by rw [gWI_na (by omega)]; exact hbyq p h1 h2)
      exact ⟨M', y1, fun a h1 h2 => by rw [y2 a h1 h2, goWI_ne h1, goWI_ne h2], fun j hj => by rw [y3 j hj, gWI_nk hj, gWI_na (by omega)], y4, y5⟩
    · have hx : tMx T q = 1 := by unfold tMx; rw [if_neg c]
      have c0 : ¬ 0 < nI (T 4 q) := by
        have : T 4 q = 0 := by omega
        rw [this]; decide
      rw [if_neg c0, gBd]
      obtain ⟨M', y1, y2, y3, y4, y5⟩ := ih (goWI M (s + 6) q (nI (tBy T q))) n (by omega) (by omega) (by rw [ks, hd, hx, Nat.one_mul]) (fun p hp => by rw [gWI_na (by omega)]; exact hst p hp) hs3 hbyq
      exact ⟨M', y1, fun a h1 h2 => by rw [y2 a h1 h2, goWI_ne h2], fun j hj => by rw [y3 j hj, gWI_na (by omega)], y4, y5⟩
theorem cCnt (h : pC Mc s T) (hO : pO T) : ∃ M', fX6_countCases 5000 Mc s = some M' ∧ (∀ a, a ≠ s → a ≠ s + 6 → M' a = Mc a) ∧ (∀ j, j ≠ 5 → M' s j = Mc s j) ∧ M' s 5 = nI (tCases T) ∧ ∀ p, p < T 0 4 → M' (s + 6) p = nI (tBy T p) := by
  have h4 : T 0 4 ≤ 4 := hO.1.2.2.2.2.1
  have k4 : goWI Mc s 5 1 s 4 = nI (T 0 4) := by rw [gWI_nk (by decide)]; exact h.1.2.2.2.2.1
  obtain ⟨M', y1, y2, y3, y4, y5⟩ := cCntL (s := s) h4 (T 0 4) (goWI Mc s 5 1) 5000 (Nat.le_refl _) (by omega) (by rw [gWI_self, if_pos rfl, Nat.sub_self]; rfl) (fun p hp => by rw [gWI_na (by omega)]; exact h.2.2.2.2.1 p hp) hO.2.2.2.2.1 (fun p h1 h2 => absurd h2 (by omega))
  refine ⟨M', ?_, fun a h1 h2 => by rw [y2 a h1 h2, goWI_ne h1], fun j hj => by rw [y3 j hj, gWI_nk hj], y4, y5⟩
  unfold fX6_countCases
  rw [gNm, gNm, k4, y1, gBd]
theorem tEnd_C (h : pC Mc s T) (c1 : ∀ a, a ≠ s → a ≠ s + 6 → M' a = Mc a) (c2 : ∀ j, j ≠ 5 → M' s j = Mc s j) (c5 : M' s 5 = nI (tCases T)) (c6 : ∀ p, p < T 0 4 → M' (s + 6) p = nI (tBy T p)) : tC M' s (tW T 0 16 (tCases T)) := by
  obtain ⟨xpa, xpb, xpc, xpd, xpe, xpf, xpg, xph, xpi, xpj, xpk, xpx, xpm, xpn, xpo, xpq, xpr⟩ := h
  have hz : ∀ r, r ≠ 0 → (tW T 0 16 (tCases T)) r = T r := fun r h1 => tW_r h1
  have hf : ∀ j, j ≠ 16 → (tW T 0 16 (tCases T)) 0 j = T 0 j := fun j h1 => tW_i h1
  have f16 : (tW T 0 16 (tCases T)) 0 16 = tCases T := tW_e
  have eMx : tMx (tW T 0 16 (tCases T)) = tMx T := by
    funext p
    unfold tMx
    rw [hz 4 (by decide)]
  have eG : tG (tW T 0 16 (tCases T)) = tG T := by
    funext p
    unfold tG
    rw [hz 1 (by decide)]
  have eN : tNr (tW T 0 16 (tCases T)) = tNr T := by
    funext p
    unfold tNr tPath tJ
    simp only [hz 2 (by decide), hz 3 (by decide), hf 3 (by decide)]
  have eB : tBy (tW T 0 16 (tCases T)) = tBy T := by
    funext p
    unfold tBy
    rw [eMx, hf 4 (by decide)]
  have mm : ∀ r, r ≠ 0 → r ≠ 6 → M' (s + r) = Mc (s + r) := fun r h1 h2 => c1 _ (by omega) (by omega)
  unfold tC
  rw [eG, eN, eB, f16, hf 0 (by decide), hf 1 (by decide), hf 2 (by decide), hf 3 (by decide), hf 4 (by decide), hf 5 (by decide), hf 7 (by decide), hf 8 (by decide), hf 9 (by decide), hf 10 (by decide), hf 11 (by decide), hf 13 (by decide), hf 15 (by decide), hz 2 (by decide), hz 3 (by decide), hz 4 (by decide), hz 5 (by decide), hz 6 (by decide), hz 7 (by decide), hz 8 (by decide), hz 9 (by decide), hz 11 (by decide), hz 12 (by decide), hz 13 (by decide), hz 14 (by decide), hz 15 (by decide), hz 16 (by decide), hz 17 (by decide), hz 18 (by decide), hz 19 (by decide), hz 20 (by decide), hz 21 (by decide), hz 22 (by decide), hz 23 (by decide)]
  exact ⟨⟨by rw [c2 0 (by decide)]; exact xpa.1, by rw [c2 1 (by decide)]; exact xpa.2.1, by rw [c2 2 (by decide)]; exact xpa.2.2.1, by rw [c2 3 (by decide)]; exact xpa.2.2.2.1, by rw [c2 4 (by decide)]; exact xpa.2.2.2.2.1, c5, by rw [c2 6 (by decide)]; exact xpa.2.2.2.2.2⟩,
    fun p hp => by rw [mm 1 (by decide) (by decide)]; exact xpb p hp, fun p hp => by rw [mm 2 (by decide) (by decide)]; exact xpc p hp, fun i hi => by rw [mm 3 (by decide) (by decide)]; exact (xpd i hi).1, fun i hi => by rw [mm 4 (by decide) (by decide)]; exact (xpd i hi).2, fun p hp => by rw [mm 5 (by decide) (by decide)]; exact xpe p hp, c6,
    fun p i h hp hi hh => by rw [mm 7 (by decide) (by decide)]; exact xpf p i h hp hi hh, fun k h1 h2 => by rw [mm 8 (by decide) (by decide)]; exact xpg k h1 h2, by rw [mm 9 (by decide) (by decide)]; exact xph,
    fun g hg => by rw [mm 10 (by decide) (by decide), mm 11 (by decide) (by decide), mm 13 (by decide) (by decide), mm 16 (by decide) (by decide), mm 15 (by decide) (by decide)]; exact xpi g hg, fun g hg => by rw [mm 12 (by decide) (by decide)]; exact xpj g hg, fun g hg => by rw [mm 14 (by decide) (by decide)]; exact xpk g hg,
    fun k hk => by rw [mm 17 (by decide) (by decide), mm 18 (by decide) (by decide), mm 19 (by decide) (by decide), mm 20 (by decide) (by decide)]; exact xpx k hk, by rw [mm 21 (by decide) (by decide)]; exact xpm, fun r hr => by rw [mm 22 (by decide) (by decide), mm 23 (by decide) (by decide)]; exact xpn r hr, fun i hi => by rw [mm 24 (by decide) (by decide)]; exact xpo i hi, by rw [mm 25 (by decide) (by decide)]; exact xpq, fun i hi => by rw [mm 26 (by decide) (by decide), mm 27 (by decide) (by decide)]; exact xpr i hi⟩
theorem tEnd_O (h : pO T) (h2 : T 0 2 ≠ 0) : tOk (tW T 0 16 (tCases T)) := by
  obtain ⟨⟨a0, a1, a2, a3, a4, a5, a6, a7, a8, a9, a10, a11, a13, a15⟩, p14, p1, p2, p4, p5, p6, p12, p13, p17, p19, p20, p22, q0, q1, q2⟩ := h
  have hz : ∀ r, r ≠ 0 → (tW T 0 16 (tCases T)) r = T r := fun r h1 => tW_r h1
  have hf : ∀ j, j ≠ 16 → (tW T 0 16 (tCases T)) 0 j = T 0 j := fun j h1 => tW_i h1
  have f16 : (tW T 0 16 (tCases T)) 0 16 = tCases T := tW_e
  have eMx : tMx (tW T 0 16 (tCases T)) = tMx T := by
    funext p
    unfold tMx
    rw [hz 4 (by decide)]
  have eC : tCases (tW T 0 16 (tCases T)) = tCases T := by
    show gPr (tMx (tW T 0 16 (tCases T))) 0 ((tW T 0 16 (tCases T)) 0 4) = gPr (tMx T) 0 (T 0 4)
    rw [eMx, hf 4 (by decide)]
  have h0 : T 0 0 ≠ 0 := fun e => h2 (q1 e 0 (by decide) 2)
  unfold tOk tJ
  unfold tJ at p2
  rw [eC, f16, hf 0 (by decide), hf 1 (by decide), hf 2 (by decide), hf 3 (by decide), hf 4 (by decide), hf 5 (by decide), hf 7 (by decide), hf 8 (by decide), hf 9 (by decide), hf 10 (by decide), hf 11 (by decide), hf 13 (by decide), hf 14 (by decide), hf 15 (by decide), hz 1 (by decide), hz 2 (by decide), hz 3 (by decide), hz 4 (by decide), hz 5 (by decide), hz 6 (by decide), hz 7 (by decide), hz 8 (by decide), hz 9 (by decide), hz 10 (by decide), hz 11 (by decide), hz 12 (by decide), hz 13 (by decide), hz 14 (by decide), hz 15 (by decide), hz 16 (by decide), hz 17 (by decide), hz 18 (by decide), hz 19 (by decide), hz 20 (by decide), hz 21 (by decide), hz 22 (by decide), hz 23 (by decide)]
  exact ⟨⟨by omega, a0, by omega, a1, by omega, a2, a3, a4, a5, a7, a8, a9, a10, a11, a13, a15, rfl⟩, p14, p1, p2, p4, p5, p6, p12, p13, p17, p19, p20, p22⟩
theorem tEnd_M (h : tM Mm b T) : tM Mm b (tW T 0 16 (tCases T)) := by
  intro r hr i hi
  by_cases c : r = 0
  · subst c
    have hi' : i < 16 := hi
    rw [tW_i (by omega)]
    exact h 0 hr i hi
  · rw [tW_r c]
    exact h r hr i hi
end lines35
