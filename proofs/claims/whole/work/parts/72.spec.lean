/-! WHAT A HILL TELLS, AND A DAY: over naturals (rows as the model's block has them) -/
abbrev tH : Type := Nat → Nat → Nat
def tSz (r : Nat) : Nat := [16, 32, 14, 14, 4, 144, 6, 6, 6, 24, 6, 6, 6, 10, 10, 10, 10, 8, 8, 8, 6, 6, 4].getD r 0
/-- a block of the model's holds the hill -/
def tM (M : goMI) (b : Nat) (T : tH) : Prop := ∀ r, r ≤ 22 → ∀ i, i < tSz r → M (b + r) i = nI (T r i)
theorem tM_0 {M : goMI} {b : Nat} {T : tH} (h : tM M b T) {i : Nat} (hi : i < 16) : M b i = nI (T 0 i) := h 0 (by decide) i hi
theorem tM_1 {M : goMI} {b : Nat} {T : tH} (h : tM M b T) {i : Nat} (hi : i < 32) : M (b + 1) i = nI (T 1 i) := h 1 (by decide) i hi
theorem tM_2 {M : goMI} {b : Nat} {T : tH} (h : tM M b T) {i : Nat} (hi : i < 14) : M (b + 2) i = nI (T 2 i) := h 2 (by decide) i hi
theorem tM_3 {M : goMI} {b : Nat} {T : tH} (h : tM M b T) {i : Nat} (hi : i < 14) : M (b + 3) i = nI (T 3 i) := h 3 (by decide) i hi
theorem tM_4 {M : goMI} {b : Nat} {T : tH} (h : tM M b T) {i : Nat} (hi : i < 4) : M (b + 4) i = nI (T 4 i) := h 4 (by decide) i hi
theorem tM_5 {M : goMI} {b : Nat} {T : tH} (h : tM M b T) {i : Nat} (hi : i < 144) : M (b + 5) i = nI (T 5 i) := h 5 (by decide) i hi
theorem tM_6 {M : goMI} {b : Nat} {T : tH} (h : tM M b T) {i : Nat} (hi : i < 6) : M (b + 6) i = nI (T 6 i) := h 6 (by decide) i hi
theorem tM_7 {M : goMI} {b : Nat} {T : tH} (h : tM M b T) {i : Nat} (hi : i < 6) : M (b + 7) i = nI (T 7 i) := h 7 (by decide) i hi
theorem tM_8 {M : goMI} {b : Nat} {T : tH} (h : tM M b T) {i : Nat} (hi : i < 6) : M (b + 8) i = nI (T 8 i) := h 8 (by decide) i hi
theorem tM_9 {M : goMI} {b : Nat} {T : tH} (h : tM M b T) {i : Nat} (hi : i < 24) : M (b + 9) i = nI (T 9 i) := h 9 (by decide) i hi
theorem tM_10 {M : goMI} {b : Nat} {T : tH} (h : tM M b T) {i : Nat} (hi : i < 6) : M (b + 10) i = nI (T 10 i) := h 10 (by decide) i hi
theorem tM_11 {M : goMI} {b : Nat} {T : tH} (h : tM M b T) {i : Nat} (hi : i < 6) : M (b + 11) i = nI (T 11 i) := h 11 (by decide) i hi
theorem tM_12 {M : goMI} {b : Nat} {T : tH} (h : tM M b T) {i : Nat} (hi : i < 6) : M (b + 12) i = nI (T 12 i) := h 12 (by decide) i hi
theorem tM_13 {M : goMI} {b : Nat} {T : tH} (h : tM M b T) {i : Nat} (hi : i < 10) : M (b + 13) i = nI (T 13 i) := h 13 (by decide) i hi
theorem tM_14 {M : goMI} {b : Nat} {T : tH} (h : tM M b T) {i : Nat} (hi : i < 10) : M (b + 14) i = nI (T 14 i) := h 14 (by decide) i hi
theorem tM_15 {M : goMI} {b : Nat} {T : tH} (h : tM M b T) {i : Nat} (hi : i < 10) : M (b + 15) i = nI (T 15 i) := h 15 (by decide) i hi
theorem tM_16 {M : goMI} {b : Nat} {T : tH} (h : tM M b T) {i : Nat} (hi : i < 10) : M (b + 16) i = nI (T 16 i) := h 16 (by decide) i hi
theorem tM_17 {M : goMI} {b : Nat} {T : tH} (h : tM M b T) {i : Nat} (hi : i < 8) : M (b + 17) i = nI (T 17 i) := h 17 (by decide) i hi
theorem tM_18 {M : goMI} {b : Nat} {T : tH} (h : tM M b T) {i : Nat} (hi : i < 8) : M (b + 18) i = nI (T 18 i) := h 18 (by decide) i hi
theorem tM_19 {M : goMI} {b : Nat} {T : tH} (h : tM M b T) {i : Nat} (hi : i < 8) : M (b + 19) i = nI (T 19 i) := h 19 (by decide) i hi
theorem tM_20 {M : goMI} {b : Nat} {T : tH} (h : tM M b T) {i : Nat} (hi : i < 6) : M (b + 20) i = nI (T 20 i) := h 20 (by decide) i hi
theorem tM_21 {M : goMI} {b : Nat} {T : tH} (h : tM M b T) {i : Nat} (hi : i < 6) : M (b + 21) i = nI (T 21 i) := h 21 (by decide) i hi
theorem tM_22 {M : goMI} {b : Nat} {T : tH} (h : tM M b T) {i : Nat} (hi : i < 4) : M (b + 22) i = nI (T 22 i) := h 22 (by decide) i hi
theorem tM_fr {M M' : goMI} {b : Nat} {T : tH} (h : tM M b T) (hf : ∀ r, r ≤ 22 → M' (b + r) = M (b + r)) : tM M' b T := fun r hr i hi => by rw [hf r hr]; exact h r hr i hi
/-- what grows in a place, four bits a plant -/
def tG (T : tH) (p : Nat) : Nat := T 1 (4 * p) + 16 * T 1 (4 * p + 1) + 256 * T 1 (4 * p + 2) + 4096 * T 1 (4 * p + 3)
def tJ (T : tH) (p q i : Nat) : Bool := (decide (T 2 i = p) && decide (T 3 i = q)) || (decide (T 2 i = q) && decide (T 3 i = p))
/-- the path between two places, else the number of all -/
def tPath (T : tH) (p q : Nat) : Nat := gFst (tJ T p q) (T 0 3)
def tNr (T : tH) (p : Nat) : Nat := gBits (fun q => decide (tPath T p q < T 0 3)) 8
def gPr (f : Nat → Nat) (i : Nat) : Nat → Nat
  | 0 => 1
  | d + 1 => gPr f i d * f (i + d)
def tMx (T : tH) (p : Nat) : Nat := if 0 < T 4 p then T 4 p else 1
def tBy (T : tH) (p : Nat) : Nat := gPr (tMx T) (p + 1) (T 0 4 - (p + 1))
def tCases (T : tH) : Nat := gPr (tMx T) 0 (T 0 4)
def tSt (T : tH) (c p : Nat) : Nat := c / tBy T p % T 4 p
def tPl (T : tH) (c p h : Nat) : Nat := T 5 (12 * (3 * p + tSt T c p) + h)
/-- the component's hill at t holds the hill -/
def tC (M : goMI) (t : Nat) (T : tH) : Prop :=
  (M t 0 = nI (T 0 0) ∧ M t 1 = nI (T 0 1) ∧ M t 2 = nI (T 0 2) ∧ M t 3 = nI (T 0 3) ∧ M t 4 = nI (T 0 4) ∧ M t 5 = nI (T 0 16) ∧ M t 6 = nI (T 0 15)) ∧
  (∀ p, p < 8 → M (t + 1) p = nI (tG T p)) ∧ (∀ p, p < 8 → M (t + 2) p = nI (tNr T p)) ∧
  (∀ i, i < T 0 3 → M (t + 3) i = nI (T 2 i)) ∧ (∀ i, i < T 0 3 → M (t + 4) i = nI (T 3 i)) ∧
  (∀ p, p < 4 → M (t + 5) p = nI (T 4 p)) ∧ (∀ p, p < T 0 4 → M (t + 6) p = nI (tBy T p)) ∧
  (∀ p i h, p < 4 → i < T 4 p → h < 12 → M (t + 7) (12 * (3 * p + i) + h) = nI (T 5 (12 * (3 * p + i) + h))) ∧
  (∀ k, T 0 15 = 1 → k < T 0 1 → M (t + 8) k = nI (T 22 k)) ∧
  (M (t + 9) 0 = nI (T 0 5) ∧ M (t + 9) 1 = nI (T 0 7)) ∧
  (∀ g, g < T 0 5 → M (t + 10) g = nI (T 6 g) ∧ M (t + 11) g = nI (T 7 g) ∧ M (t + 13) g = nI (T 11 g) ∧ M (t + 16) g = nI (T 8 g) ∧ ∀ i, i < T 8 g → M (t + 15) (4 * g + i) = nI (T 9 (4 * g + i))) ∧
  (∀ g, g < 6 → M (t + 12) g = nI (T 23 g)) ∧ (∀ g, g < 6 → M (t + 14) g = nI (T 12 g)) ∧
  (∀ k, k < T 0 7 → M (t + 17) k = nI (T 13 k) ∧ M (t + 18) k = nI (T 14 k) ∧ M (t + 19) k = nI (T 15 k) ∧ M (t + 20) k = nI (T 16 k)) ∧
  (M (t + 21) 0 = nI (T 0 8) ∧ M (t + 21) 1 = nI (T 0 13) ∧ M (t + 21) 2 = nI (T 0 9) ∧ M (t + 21) 3 = nI (T 0 10)) ∧
  (∀ r, r < T 0 9 → M (t + 22) r = nI (T 17 r) ∧ M (t + 23) r = nI (T 18 r)) ∧ (∀ i, i < T 0 10 → M (t + 24) i = nI (T 19 i)) ∧
  M (t + 25) 0 = nI (T 0 11) ∧ (∀ i, i < T 0 11 → M (t + 26) i = nI (T 20 i) ∧ M (t + 27) i = nI (T 21 i))
theorem tC_hours {M : goMI} {t : Nat} {T : tH} (h : tC M t T) : M t 0 = nI (T 0 0) := h.1.1
theorem tC_plants {M : goMI} {t : Nat} {T : tH} (h : tC M t T) : M t 1 = nI (T 0 1) := h.1.2.1
theorem tC_places {M : goMI} {t : Nat} {T : tH} (h : tC M t T) : M t 2 = nI (T 0 2) := h.1.2.2.1
theorem tC_paths {M : goMI} {t : Nat} {T : tH} (h : tC M t T) : M t 3 = nI (T 0 3) := h.1.2.2.2.1
theorem tC_people {M : goMI} {t : Nat} {T : tH} (h : tC M t T) : M t 4 = nI (T 0 4) := h.1.2.2.2.2.1
theorem tC_cases {M : goMI} {t : Nat} {T : tH} (h : tC M t T) : M t 5 = nI (T 0 16) := h.1.2.2.2.2.2.1
theorem tC_hasCheese {M : goMI} {t : Nat} {T : tH} (h : tC M t T) : M t 6 = nI (T 0 15) := h.1.2.2.2.2.2.2
theorem tC_grows {M : goMI} {t : Nat} {T : tH} (h : tC M t T) : ∀ p, p < 8 → M (t + 1) p = nI (tG T p) := h.2.1
theorem tC_nearby {M : goMI} {t : Nat} {T : tH} (h : tC M t T) : ∀ p, p < 8 → M (t + 2) p = nI (tNr T p) := h.2.2.1
theorem tC_pathFrom {M : goMI} {t : Nat} {T : tH} (h : tC M t T) : ∀ i, i < T 0 3 → M (t + 3) i = nI (T 2 i) := h.2.2.2.1
theorem tC_pathTo {M : goMI} {t : Nat} {T : tH} (h : tC M t T) : ∀ i, i < T 0 3 → M (t + 4) i = nI (T 3 i) := h.2.2.2.2.1
theorem tC_stories {M : goMI} {t : Nat} {T : tH} (h : tC M t T) : ∀ p, p < 4 → M (t + 5) p = nI (T 4 p) := h.2.2.2.2.2.1
theorem tC_weights {M : goMI} {t : Nat} {T : tH} (h : tC M t T) : ∀ p, p < T 0 4 → M (t + 6) p = nI (tBy T p) := h.2.2.2.2.2.2.1
theorem tC_tells {M : goMI} {t : Nat} {T : tH} (h : tC M t T) : ∀ p i h, p < 4 → i < T 4 p → h < 12 → M (t + 7) (12 * (3 * p + i) + h) = nI (T 5 (12 * (3 * p + i) + h)) := h.2.2.2.2.2.2.2.1
theorem tC_cheeses {M : goMI} {t : Nat} {T : tH} (h : tC M t T) : ∀ k, T 0 15 = 1 → k < T 0 1 → M (t + 8) k = nI (T 22 k) := h.2.2.2.2.2.2.2.2.1
theorem tC_herd {M : goMI} {t : Nat} {T : tH} (h : tC M t T) : M (t + 9) 0 = nI (T 0 5) ∧ M (t + 9) 1 = nI (T 0 7) := h.2.2.2.2.2.2.2.2.2.1
theorem tC_goats {M : goMI} {t : Nat} {T : tH} (h : tC M t T) : ∀ g, g < T 0 5 → M (t + 10) g = nI (T 6 g) ∧ M (t + 11) g = nI (T 7 g) ∧ M (t + 13) g = nI (T 11 g) ∧ M (t + 16) g = nI (T 8 g) ∧ ∀ i, i < T 8 g → M (t + 15) (4 * g + i) = nI (T 9 (4 * g + i)) := h.2.2.2.2.2.2.2.2.2.2.1
theorem tC_start {M : goMI} {t : Nat} {T : tH} (h : tC M t T) : ∀ g, g < 6 → M (t + 12) g = nI (T 23 g) := h.2.2.2.2.2.2.2.2.2.2.2.1
theorem tC_fears {M : goMI} {t : Nat} {T : tH} (h : tC M t T) : ∀ g, g < 6 → M (t + 14) g = nI (T 12 g) := h.2.2.2.2.2.2.2.2.2.2.2.2.1
theorem tC_clues {M : goMI} {t : Nat} {T : tH} (h : tC M t T) : ∀ k, k < T 0 7 → M (t + 17) k = nI (T 13 k) ∧ M (t + 18) k = nI (T 14 k) ∧ M (t + 19) k = nI (T 15 k) ∧ M (t + 20) k = nI (T 16 k) := h.2.2.2.2.2.2.2.2.2.2.2.2.2.1
theorem tC_law {M : goMI} {t : Nat} {T : tH} (h : tC M t T) : M (t + 21) 0 = nI (T 0 8) ∧ M (t + 21) 1 = nI (T 0 13) ∧ M (t + 21) 2 = nI (T 0 9) ∧ M (t + 21) 3 = nI (T 0 10) := h.2.2.2.2.2.2.2.2.2.2.2.2.2.2.1
theorem tC_rules {M : goMI} {t : Nat} {T : tH} (h : tC M t T) : ∀ r, r < T 0 9 → M (t + 22) r = nI (T 17 r) ∧ M (t + 23) r = nI (T 18 r) := h.2.2.2.2.2.2.2.2.2.2.2.2.2.2.2.1
theorem tC_proof {M : goMI} {t : Nat} {T : tH} (h : tC M t T) : ∀ i, i < T 0 10 → M (t + 24) i = nI (T 19 i) := h.2.2.2.2.2.2.2.2.2.2.2.2.2.2.2.2.1
theorem tC_courts {M : goMI} {t : Nat} {T : tH} (h : tC M t T) : M (t + 25) 0 = nI (T 0 11) := h.2.2.2.2.2.2.2.2.2.2.2.2.2.2.2.2.2.1
theorem tC_costs {M : goMI} {t : Nat} {T : tH} (h : tC M t T) : ∀ i, i < T 0 11 → M (t + 26) i = nI (T 20 i) ∧ M (t + 27) i = nI (T 21 i) := h.2.2.2.2.2.2.2.2.2.2.2.2.2.2.2.2.2.2
theorem tC_fr {M M' : goMI} {t : Nat} {T : tH} (h : tC M t T) (hf : ∀ r, r ≤ 27 → M' (t + r) = M (t + r)) : tC M' t T := by
  have h0 : M' t = M t := hf 0 (by decide)
  unfold tC
  simp only [h0, hf 1 (by decide), hf 2 (by decide), hf 3 (by decide), hf 4 (by decide), hf 5 (by decide), hf 6 (by decide), hf 7 (by decide), hf 8 (by decide), hf 9 (by decide), hf 10 (by decide), hf 11 (by decide), hf 12 (by decide), hf 13 (by decide), hf 14 (by decide), hf 15 (by decide), hf 16 (by decide), hf 17 (by decide), hf 18 (by decide), hf 19 (by decide), hf 20 (by decide), hf 21 (by decide), hf 22 (by decide), hf 23 (by decide), hf 24 (by decide), hf 25 (by decide), hf 26 (by decide), hf 27 (by decide)]
  exact h
/-- a hill is well told -/
def tOk (T : tH) : Prop :=
  (2 ≤ T 0 0 ∧ T 0 0 ≤ 12 ∧ 1 ≤ T 0 1 ∧ T 0 1 ≤ 4 ∧ 1 ≤ T 0 2 ∧ T 0 2 ≤ 8 ∧ T 0 3 ≤ 14 ∧ T 0 4 ≤ 4 ∧ T 0 5 ≤ 6 ∧ T 0 7 ≤ 10 ∧ T 0 8 ≤ 8 ∧ T 0 9 ≤ 8 ∧ T 0 10 ≤ 8 ∧ T 0 11 ≤ 6 ∧ T 0 13 < 2 ^ T 0 8 ∧ T 0 15 ≤ 1 ∧ T 0 16 = tCases T) ∧
  (T 0 14 = if 0 < T 0 10 then 1 else 0) ∧
  (∀ j, j < 32 → T 1 j ≤ 9) ∧
  (∀ i, i < T 0 3 → T 2 i < T 0 2 ∧ T 3 i < T 0 2 ∧ T 2 i ≠ T 3 i ∧ ∀ j, j < i → tJ T (T 2 i) (T 3 i) j = false) ∧
  (∀ p, p < 4 → T 4 p ≤ 3) ∧ (∀ p i h, p < 4 → i < T 4 p → h < 12 → T 5 (12 * (3 * p + i) + h) < T 0 2) ∧
  (∀ g, g < T 0 5 → T 6 g ≤ 3 ∧ (T 7 g < T 0 5 ∨ T 7 g = 4294967294) ∧ T 8 g ≤ T 0 1 ∧ T 10 g < T 0 2 ∧ T 23 g = T 10 g ∧ 1 ≤ T 11 g ∧ T 11 g ≤ 9 ∧ ∀ i, i < T 8 g → T 9 (4 * g + i) < T 0 1) ∧
  (∀ g, g < 6 → T 12 g < 16 ∧ T 23 g < 4294967296) ∧
  (∀ k, k < T 0 7 → T 13 k ≤ 2 ∧ T 14 k < T 0 5 ∧ T 15 k < T 0 2 ∧ (T 13 k = 0 → T 16 k < T 0 1) ∧ (T 13 k ≠ 0 → T 16 k < T 0 0)) ∧
  (∀ r, r < T 0 9 → T 17 r < T 0 8 ∧ T 18 r < 2 ^ T 0 8) ∧ (∀ i, i < T 0 10 → T 19 i < T 0 8) ∧
  (∀ i, i < T 0 11 → T 20 i ≤ 99 ∧ 1 ≤ T 21 i ∧ T 21 i ≤ 9) ∧ (∀ k, k < 4 → T 22 k ≤ 99)
theorem tO_sz {T : tH} (h : tOk T) : 2 ≤ T 0 0 ∧ T 0 0 ≤ 12 ∧ 1 ≤ T 0 1 ∧ T 0 1 ≤ 4 ∧ 1 ≤ T 0 2 ∧ T 0 2 ≤ 8 ∧ T 0 3 ≤ 14 ∧ T 0 4 ≤ 4 ∧ T 0 5 ≤ 6 ∧ T 0 7 ≤ 10 ∧ T 0 8 ≤ 8 ∧ T 0 9 ≤ 8 ∧ T 0 10 ≤ 8 ∧ T 0 11 ≤ 6 ∧ T 0 13 < 2 ^ T 0 8 ∧ T 0 15 ≤ 1 ∧ T 0 16 = tCases T := h.1
theorem tO_proof {T : tH} (h : tOk T) : T 0 14 = if 0 < T 0 10 then 1 else 0 := h.2.1
theorem tO_amount {T : tH} (h : tOk T) : ∀ j, j < 32 → T 1 j ≤ 9 := h.2.2.1
theorem tO_path {T : tH} (h : tOk T) : ∀ i, i < T 0 3 → T 2 i < T 0 2 ∧ T 3 i < T 0 2 ∧ T 2 i ≠ T 3 i ∧ ∀ j, j < i → tJ T (T 2 i) (T 3 i) j = false := h.2.2.2.1
theorem tO_stories {T : tH} (h : tOk T) : ∀ p, p < 4 → T 4 p ≤ 3 := h.2.2.2.2.1
theorem tO_story {T : tH} (h : tOk T) : ∀ p i h, p < 4 → i < T 4 p → h < 12 → T 5 (12 * (3 * p + i) + h) < T 0 2 := h.2.2.2.2.2.1
theorem tO_goat {T : tH} (h : tOk T) : ∀ g, g < T 0 5 → T 6 g ≤ 3 ∧ (T 7 g < T 0 5 ∨ T 7 g = 4294967294) ∧ T 8 g ≤ T 0 1 ∧ T 10 g < T 0 2 ∧ T 23 g = T 10 g ∧ 1 ≤ T 11 g ∧ T 11 g ≤ 9 ∧ ∀ i, i < T 8 g → T 9 (4 * g + i) < T 0 1 := h.2.2.2.2.2.2.1
theorem tO_fear {T : tH} (h : tOk T) : ∀ g, g < 6 → T 12 g < 16 ∧ T 23 g < 4294967296 := h.2.2.2.2.2.2.2.1
theorem tO_clue {T : tH} (h : tOk T) : ∀ k, k < T 0 7 → T 13 k ≤ 2 ∧ T 14 k < T 0 5 ∧ T 15 k < T 0 2 ∧ (T 13 k = 0 → T 16 k < T 0 1) ∧ (T 13 k ≠ 0 → T 16 k < T 0 0) := h.2.2.2.2.2.2.2.2.1
theorem tO_rule {T : tH} (h : tOk T) : ∀ r, r < T 0 9 → T 17 r < T 0 8 ∧ T 18 r < 2 ^ T 0 8 := h.2.2.2.2.2.2.2.2.2.1
theorem tO_step {T : tH} (h : tOk T) : ∀ i, i < T 0 10 → T 19 i < T 0 8 := h.2.2.2.2.2.2.2.2.2.2.1
theorem tO_court {T : tH} (h : tOk T) : ∀ i, i < T 0 11 → T 20 i ≤ 99 ∧ 1 ≤ T 21 i ∧ T 21 i ≤ 9 := h.2.2.2.2.2.2.2.2.2.2.2.1
theorem tO_cheese {T : tH} (h : tOk T) : ∀ k, k < 4 → T 22 k ≤ 99 := h.2.2.2.2.2.2.2.2.2.2.2.2
/-! a day -/
def dNib (x k : Nat) : Nat := x / 2 ^ (4 * k) % 16
def dAn (a b : Nat) : Nat := a ^^^ (a &&& b)
/-- the rank of the first plant that it likes of which there is any; how many it likes if there is none -/
def dRk (T : tH) (S : Nat → Nat) (g p : Nat) : Nat := gFst (fun k => decide (0 < dNib (S p) (T 9 (4 * g + k)))) (T 8 g)
def dWo (T : tH) (sa : Nat) (S : Nat → Nat) (g p : Nat) : Nat := if sa.testBit p then 0 else if dRk T S g p < T 8 g then dRk T S g p + 1 else 9
def dBs (T : tH) (sa : Nat) (S : Nat → Nat) (g reach here l : Nat) : Nat := (gMin (dWo T sa S g) (fun p => reach.testBit p) here l (T 0 2)).1
def dFe (T : tH) (fe dg g : Nat) : Nat := if T 6 g = 2 then fe else fe ||| dg
def dFo (T : tH) (op S : Nat → Nat) (g : Nat) : Bool := decide (T 7 g < 6) && (op (S (8 + g))).testBit (S (8 + T 7 g))
def dRe (T : tH) (op : Nat → Nat) (fe dg : Nat) (S : Nat → Nat) (g : Nat) : Nat := dAn (op (S (8 + g))) (dFe T fe dg g)
def dTo (T : tH) (op : Nat → Nat) (fe sa dg : Nat) (S : Nat → Nat) (g : Nat) : Nat :=
  if dFo T op S g then S (8 + T 7 g)
  else if (dFe T fe dg g).testBit (S (8 + g)) then dBs T sa S g (dRe T op fe dg S g) (S (8 + g)) 10
  else if sa.testBit (S (8 + g)) then S (8 + g)
  else if dRe T op fe dg S g &&& sa = 0 then
    if dWo T sa S g (S (8 + g)) < 9 then S (8 + g) else dBs T sa S g (dRe T op fe dg S g) (S (8 + g)) 9
  else dBs T sa S g (dRe T op fe dg S g &&& sa) (S (8 + g)) 1
def dEa (T : tH) (op : Nat → Nat) (fe sa dg : Nat) (S : Nat → Nat) (g : Nat) : Bool :=
  !dFo T op S g && !(dFe T fe dg g).testBit (S (8 + g)) && !sa.testBit (S (8 + g)) && decide (dRe T op fe dg S g &&& sa = 0) && decide (dWo T sa S g (S (8 + g)) < 9)
def dPl (T : tH) (S : Nat → Nat) (g : Nat) : Nat := T 9 (4 * g + dRk T S g (S (8 + g)))
def dBt (T : tH) (S : Nat → Nat) (g : Nat) : Nat := if T 6 g = 2 ∧ 1 < dNib (S (S (8 + g))) (dPl T S g) then 2 else 1
def dCo (T : tH) (op : Nat → Nat) (fe sa dg : Nat) (S : Nat → Nat) (g : Nat) : Nat := if dEa T op fe sa dg S g then dBt T S g * 4 + dPl T S g else 0
def dFl (T : tH) (op : Nat → Nat) (fe sa dg : Nat) (S : Nat → Nat) (g : Nat) : Nat :=
  if !dFo T op S g && (dFe T fe dg g).testBit (S (8 + g)) && decide (dTo T op fe sa dg S g ≠ S (8 + g)) then 1 else 0
def dNx (T : tH) (op : Nat → Nat) (fe sa dg : Nat) (S : Nat → Nat) (g : Nat) : Nat → Nat := fun i =>
  if i = 8 + g then dTo T op fe sa dg S g
  else if dEa T op fe sa dg S g && decide (i = S (8 + g)) then S i - dBt T S g * 2 ^ (4 * dPl T S g) else S i
/-- the goats of an hour one after the other -/
def cG (T : tH) (op fe L : Nat → Nat) (h : Nat) (S : Nat → Nat) : Nat → Nat → Nat
  | 0 => S
  | g + 1 => dNx T op (fe (12 * g + h)) (L h) (L (12 + h)) (cG T op fe L h S g) g
/-- hours one after the other, from one on -/
def cR (T : tH) (op fe L : Nat → Nat) (a : Nat) (S : Nat → Nat) : Nat → Nat → Nat
  | 0 => S
  | d + 1 => cG T op fe L (a + d) (cR T op fe L a S d) (T 0 5)
/-- what lies there ahead of a goat's turn -/
def cS (T : tH) (op fe L S : Nat → Nat) (h g : Nat) : Nat → Nat := cG T op fe L h (cR T op fe L 0 S h) g
def dSp (T : tH) (op fe L S : Nat → Nat) (h g : Nat) : Nat := dTo T op (fe (12 * g + h)) (L h) (L (12 + h)) (cS T op fe L S h g) g
def dBc (T : tH) (op fe L S : Nat → Nat) (h g : Nat) : Nat := dCo T op (fe (12 * g + h)) (L h) (L (12 + h)) (cS T op fe L S h g) g
def dFd (T : tH) (op fe L S : Nat → Nat) (h g : Nat) : Nat := dFl T op (fe (12 * g + h)) (L h) (L (12 + h)) (cS T op fe L S h g) g
def dEt (T : tH) (op fe L S : Nat → Nat) (g k n : Nat) : Nat := gSum (fun h => if dBc T op fe L S h g % 4 = k then dBc T op fe L S h g / 4 else 0) n
def dDr (T : tH) (op fe L S : Nat → Nat) (g k q n : Nat) : Nat := gSum (fun h => if 2 ≤ h ∧ dBc T op fe L S (h - 2) g % 4 = k ∧ dSp T op fe L S h g = q then dBc T op fe L S (h - 2) g / 4 else 0) n
def dFs (T : tH) (op fe L S : Nat → Nat) (g n : Nat) : Nat := gSum (fun h => dFd T op fe L S h g) n
/-- at first -/
def dS0 (T : tH) (i : Nat) : Nat := if i < 8 then tG T i else T 23 (i - 8)
/-- the open ways, with hedges -/
def dOp (T : tH) (hg p : Nat) : Nat := gBits (fun q => decide (tPath T p q < T 0 3) && !hg.testBit (tPath T p q)) 8
def dMi (T : tH) (g p : Nat) : Bool := decide (T 6 g = 1) || (!decide (T 6 g = 2) && (T 12 g).testBit p)
def dPf (T : tH) (c g h : Nat) : Nat → Nat
  | 0 => 0
  | p + 1 => dPf T c g h p ||| (if decide (0 < T 4 p) && dMi T g p then 2 ^ tPl T c p h else 0)
/-- whom a goat fears by hour: cell 12 g + h -/
def dFr (T : tH) (c i : Nat) : Nat := if i / 12 < T 0 5 ∧ i % 12 < T 0 0 then dPf T c (i / 12) (i % 12) (T 0 4) else 0
def dSok (T : tH) (S : Nat → Nat) : Prop := (∀ p, p < 8 → S p < 65536) ∧ (∀ i, i < 14 → S i < 4294967296) ∧ ∀ g, g < T 0 5 → S (8 + g) < T 0 2
