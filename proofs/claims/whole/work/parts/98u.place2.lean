/-! LINES: place, the row of amounts (printed by gen98u.py) -/
section lines16
variable {e s b : Nat} {Rc Rm : goMR}
theorem pC_fr {M M' : goMI} {T : tH} (h : pC M s T) (m : ∀ r, r ≤ 27 → M' (s + r) = M (s + r)) : pC M' s T := by
  obtain ⟨xpa, xpb, xpc, xpd, xpe, xpf, xpg, xph, xpi, xpj, xpk, xpx, xpm, xpn, xpo, xpq, xpr⟩ := h
  exact ⟨paF xpa (m 0 (by decide)) rfl rfl rfl rfl rfl rfl, pbF xpb (m 1 (by decide)) rfl, pcF xpc (m 2 (by decide)) rfl rfl rfl, pdF xpd (m 3 (by decide)) (m 4 (by decide)) rfl rfl rfl, peF xpe (m 5 (by decide)) rfl, pfF xpf (m 7 (by decide)) rfl rfl, pgF xpg (m 8 (by decide)) rfl rfl rfl, phF xph (m 9 (by decide)) rfl rfl, piF xpi (m 10 (by decide)) (m 11 (by decide)) (m 13 (by decide)) (m 16 (by decide)) (m 15 (by decide)) rfl rfl rfl rfl rfl rfl, pjF xpj (m 12 (by decide)) rfl, pkF xpk (m 14 (by decide)) rfl, pxF xpx (m 17 (by decide)) (m 18 (by decide)) (m 19 (by decide)) (m 20 (by decide)) rfl rfl rfl rfl rfl, pmF xpm (m 21 (by decide)) rfl rfl rfl rfl, pnF xpn (m 22 (by decide)) (m 23 (by decide)) rfl rfl rfl, poF xpo (m 24 (by decide)) rfl rfl, pqF xpq (m 25 (by decide)) rfl, prF xpr (m 26 (by decide)) (m 27 (by decide)) rfl rfl rfl⟩
theorem pC_1 {M : goMI} {T : tH} {p k v : Nat} (h : pC M s T) (hp : p < 8) (hk : k < 4) (hv : v ≤ 9) (h9 : ∀ j, j < 4 → T 1 (4 * p + j) ≤ 9) (h0 : T 1 (4 * p + k) = 0) : pC (goWI M (s + 1) p (nI (tG T p ||| v * 2 ^ (4 * k)))) s (tW T 1 (4 * p + k) v) := by
  obtain ⟨xpa, xpb, xpc, xpd, xpe, xpf, xpg, xph, xpi, xpj, xpk, xpx, xpm, xpn, xpo, xpq, xpr⟩ := h
  have hz : ∀ r, r ≠ 1 → tW T 1 (4 * p + k) v r = T r := fun r h1 => tW_r h1
  have hf : ∀ j, tW T 1 (4 * p + k) v 0 j = T 0 j := fun j => by rw [hz 0 (by decide)]
  have mm : ∀ r, r ≠ 1 → goWI M (s + 1) p (nI (tG T p ||| v * 2 ^ (4 * k))) (s + r) = M (s + r) := fun r h1 => goWI_ne (by omega)
  refine ⟨paF xpa (mm 0 (by decide)) (hf 0) (hf 1) (hf 2) (hf 3) (hf 4) (hf 15), ?_, pcF xpc (mm 2 (by decide)) (hz 2 (by decide)) (hz 3 (by decide)) (hf 3), pdF xpd (mm 3 (by decide)) (mm 4 (by decide)) (hz 2 (by decide)) (hz 3 (by decide)) (hf 3), peF xpe (mm 5 (by decide)) (hz 4 (by decide)), pfF xpf (mm 7 (by decide)) (hz 4 (by decide)) (hz 5 (by decide)), pgF xpg (mm 8 (by decide)) (hz 22 (by decide)) (hf 15) (hf 1), phF xph (mm 9 (by decide)) (hf 5) (hf 7), piF xpi (mm 10 (by decide)) (mm 11 (by decide)) (mm 13 (by decide)) (mm 16 (by decide)) (mm 15 (by decide)) (hz 6 (by decide)) (hz 7 (by decide)) (hz 11 (by decide)) (hz 8 (by decide)) (hz 9 (by decide)) (hf 5), pjF xpj (mm 12 (by decide)) (hz 23 (by decide)), pkF xpk (mm 14 (by decide)) (hz 12 (by decide)), pxF xpx (mm 17 (by decide)) (mm 18 (by decide)) (mm 19 (by decide)) (mm 20 (by decide)) (hz 13 (by decide)) (hz 14 (by decide)) (hz 15 (by decide)) (hz 16 (by decide)) (hf 7), pmF xpm (mm 21 (by decide)) (hf 8) (hf 13) (hf 9) (hf 10), pnF xpn (mm 22 (by decide)) (mm 23 (by decide)) (hz 17 (by decide)) (hz 18 (by decide)) (hf 9), poF xpo (mm 24 (by decide)) (hz 19 (by decide)) (hf 10), pqF xpq (mm 25 (by decide)) (hf 11), prF xpr (mm 26 (by decide)) (mm 27 (by decide)) (hz 20 (by decide)) (hz 21 (by decide)) (hf 11)⟩
  intro p' hp'
  rw [gWI_self]
  by_cases c : p' = p
  · rw [if_pos c, c, tG_set hk hv h9 h0]
  · rw [if_neg c, tG_ne hk c]
    exact xpb p' hp'
end lines16
