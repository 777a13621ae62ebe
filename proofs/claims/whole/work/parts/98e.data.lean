/-! THE HILL HALF TOLD, in both (printed by gen98e.py) -/
def paC (M : goMI) (s : Nat) (T : tH) : Prop := (M s 0 = nI (T 0 0) ∧ M s 1 = nI (T 0 1) ∧ M s 2 = nI (T 0 2) ∧ M s 3 = nI (T 0 3) ∧ M s 4 = nI (T 0 4) ∧ M s 6 = nI (T 0 15))
theorem paF {M M' : goMI} {s : Nat} {T T' : tH} (h : paC M s T) (m0 : M' s = M s) (f0 : T' 0 0 = T 0 0) (f1 : T' 0 1 = T 0 1) (f2 : T' 0 2 = T 0 2) (f3 : T' 0 3 = T 0 3) (f4 : T' 0 4 = T 0 4) (f15 : T' 0 15 = T 0 15) : paC M' s T' := by
  unfold paC at h ⊢
  simp only [m0, f0, f1, f2, f3, f4, f15]
  exact h
def pbC (M : goMI) (s : Nat) (T : tH) : Prop := (∀ p, p < 8 → M (s + 1) p = nI (tG T p))
theorem pbF {M M' : goMI} {s : Nat} {T T' : tH} (h : pbC M s T) (m1 : M' (s + 1) = M (s + 1)) (t1 : T' 1 = T 1) : pbC M' s T' := by
  unfold pbC tG at h ⊢
  simp only [m1, t1]
  exact h
def pcC (M : goMI) (s : Nat) (T : tH) : Prop := (∀ p, p < 8 → M (s + 2) p = nI (tNr T p))
theorem pcF {M M' : goMI} {s : Nat} {T T' : tH} (h : pcC M s T) (m2 : M' (s + 2) = M (s + 2)) (t2 : T' 2 = T 2) (t3 : T' 3 = T 3) (f3 : T' 0 3 = T 0 3) : pcC M' s T' := by
  unfold pcC tNr tPath tJ at h ⊢
  simp only [m2, t2, t3, f3]
  exact h
def pdC (M : goMI) (s : Nat) (T : tH) : Prop := (∀ i, i < T 0 3 → M (s + 3) i = nI (T 2 i) ∧ M (s + 4) i = nI (T 3 i))
theorem pdF {M M' : goMI} {s : Nat} {T T' : tH} (h : pdC M s T) (m3 : M' (s + 3) = M (s + 3)) (m4 : M' (s + 4) = M (s + 4)) (t2 : T' 2 = T 2) (t3 : T' 3 = T 3) (f3 : T' 0 3 = T 0 3) : pdC M' s T' := by
  unfold pdC at h ⊢
  simp only [m3, m4, t2, t3, f3]
  exact h
def peC (M : goMI) (s : Nat) (T : tH) : Prop := (∀ p, p < 4 → M (s + 5) p = nI (T 4 p))
theorem peF {M M' : goMI} {s : Nat} {T T' : tH} (h : peC M s T) (m5 : M' (s + 5) = M (s + 5)) (t4 : T' 4 = T 4) : peC M' s T' := by
  unfold peC at h ⊢
  simp only [m5, t4]
  exact h
def pfC (M : goMI) (s : Nat) (T : tH) : Prop := (∀ p i h, p < 4 → i < T 4 p → h < 12 → M (s + 7) (12 * (3 * p + i) + h) = nI (T 5 (12 * (3 * p + i) + h)))
theorem pfF {M M' : goMI} {s : Nat} {T T' : tH} (h : pfC M s T) (m7 : M' (s + 7) = M (s + 7)) (t4 : T' 4 = T 4) (t5 : T' 5 = T 5) : pfC M' s T' := by
  unfold pfC at h ⊢
  simp only [m7, t4, t5]
  exact h
def pgC (M : goMI) (s : Nat) (T : tH) : Prop := (∀ k, T 0 15 = 1 → k < T 0 1 → M (s + 8) k = nI (T 22 k))
theorem pgF {M M' : goMI} {s : Nat} {T T' : tH} (h : pgC M s T) (m8 : M' (s + 8) = M (s + 8)) (t22 : T' 22 = T 22) (f15 : T' 0 15 = T 0 15) (f1 : T' 0 1 = T 0 1) : pgC M' s T' := by
  unfold pgC at h ⊢
  simp only [m8, t22, f15, f1]
  exact h
def phC (M : goMI) (s : Nat) (T : tH) : Prop := (M (s + 9) 0 = nI (T 0 5) ∧ M (s + 9) 1 = nI (T 0 7))
theorem phF {M M' : goMI} {s : Nat} {T T' : tH} (h : phC M s T) (m9 : M' (s + 9) = M (s + 9)) (f5 : T' 0 5 = T 0 5) (f7 : T' 0 7 = T 0 7) : phC M' s T' := by
  unfold phC at h ⊢
  simp only [m9, f5, f7]
  exact h
def piC (M : goMI) (s : Nat) (T : tH) : Prop := (∀ g, g < T 0 5 → M (s + 10) g = nI (T 6 g) ∧ M (s + 11) g = nI (T 7 g) ∧ M (s + 13) g = nI (T 11 g) ∧ M (s + 16) g = nI (T 8 g) ∧ ∀ i, i < T 8 g → M (s + 15) (4 * g + i) = nI (T 9 (4 * g + i)))
theorem piF {M M' : goMI} {s : Nat} {T T' : tH} (h : piC M s T) (m10 : M' (s + 10) = M (s + 10)) (m11 : M' (s + 11) = M (s + 11)) (m13 : M' (s + 13) = M (s + 13)) (m16 : M' (s + 16) = M (s + 16)) (m15 : M' (s + 15) = M (s + 15)) (t6 : T' 6 = T 6) (t7 : T' 7 = T 7) (t11 : T' 11 = T 11) (t8 : T' 8 = T 8) (t9 : T' 9 = T 9) (f5 : T' 0 5 = T 0 5) : piC M' s T' := by
  unfold piC at h ⊢
  simp only [m10, m11, m13, m16, m15, t6, t7, t11, t8, t9, f5]
  exact h
def pjC (M : goMI) (s : Nat) (T : tH) : Prop := (∀ g, g < 6 → M (s + 12) g = nI (T 23 g))
theorem pjF {M M' : goMI} {s : Nat} {T T' : tH} (h : pjC M s T) (m12 : M' (s + 12) = M (s + 12)) (t23 : T' 23 = T 23) : pjC M' s T' := by
  unfold pjC at h ⊢
  simp only [m12, t23]
  exact h
def pkC (M : goMI) (s : Nat) (T : tH) : Prop := (∀ g, g < 6 → M (s + 14) g = nI (T 12 g))
theorem pkF {M M' : goMI} {s : Nat} {T T' : tH} (h : pkC M s T) (m14 : M' (s + 14) = M (s + 14)) (t12 : T' 12 = T 12) : pkC M' s T' := by
  unfold pkC at h ⊢
  simp only [m14, t12]
  exact h
def pxC (M : goMI) (s : Nat) (T : tH) : Prop := (∀ k, k < T 0 7 → M (s + 17) k = nI (T 13 k) ∧ M (s + 18) k = nI (T 14 k) ∧ M (s + 19) k = nI (T 15 k) ∧ M (s + 20) k = nI (T 16 k))
theorem pxF {M M' : goMI} {s : Nat} {T T' : tH} (h : pxC M s T) (m17 : M' (s + 17) = M (s + 17)) (m18 : M' (s + 18) = M (s + 18)) (m19 : M' (s + 19) = M (s + 19)) (m20 : M' (s + 20) = M (s + 20)) (t13 : T' 13 = T 13) (t14 : T' 14 = T 14) (t15 : T' 15 = T 15) (t16 : T' 16 = T 16) (f7 : T' 0 7 = T 0 7) : pxC M' s T' := by
  unfold pxC at h ⊢
  simp only [m17, m18, m19, m20, t13, t14, t15, t16, f7]
  exact h
def pmC (M : goMI) (s : Nat) (T : tH) : Prop := (M (s + 21) 0 = nI (T 0 8) ∧ M (s + 21) 1 = nI (T 0 13) ∧ M (s + 21) 2 = nI (T 0 9) ∧ M (s + 21) 3 = nI (T 0 10))
theorem pmF {M M' : goMI} {s : Nat} {T T' : tH} (h : pmC M s T) (m21 : M' (s + 21) = M (s + 21)) (f8 : T' 0 8 = T 0 8) (f13 : T' 0 13 = T 0 13) (f9 : T' 0 9 = T 0 9) (f10 : T' 0 10 = T 0 10) : pmC M' s T' := by
  unfold pmC at h ⊢
  simp only [m21, f8, f13, f9, f10]
  exact h
def pnC (M : goMI) (s : Nat) (T : tH) : Prop := (∀ r, r < T 0 9 → M (s + 22) r = nI (T 17 r) ∧ M (s + 23) r = nI (T 18 r))
theorem pnF {M M' : goMI} {s : Nat} {T T' : tH} (h : pnC M s T) (m22 : M' (s + 22) = M (s + 22)) (m23 : M' (s + 23) = M (s + 23)) (t17 : T' 17 = T 17) (t18 : T' 18 = T 18) (f9 : T' 0 9 = T 0 9) : pnC M' s T' := by
  unfold pnC at h ⊢
  simp only [m22, m23, t17, t18, f9]
  exact h
def poC (M : goMI) (s : Nat) (T : tH) : Prop := (∀ i, i < T 0 10 → M (s + 24) i = nI (T 19 i))
theorem poF {M M' : goMI} {s : Nat} {T T' : tH} (h : poC M s T) (m24 : M' (s + 24) = M (s + 24)) (t19 : T' 19 = T 19) (f10 : T' 0 10 = T 0 10) : poC M' s T' := by
  unfold poC at h ⊢
  simp only [m24, t19, f10]
  exact h
def pqC (M : goMI) (s : Nat) (T : tH) : Prop := (M (s + 25) 0 = nI (T 0 11))
theorem pqF {M M' : goMI} {s : Nat} {T T' : tH} (h : pqC M s T) (m25 : M' (s + 25) = M (s + 25)) (f11 : T' 0 11 = T 0 11) : pqC M' s T' := by
  unfold pqC at h ⊢
  simp only [m25, f11]
  exact h
def prC (M : goMI) (s : Nat) (T : tH) : Prop := (∀ i, i < T 0 11 → M (s + 26) i = nI (T 20 i) ∧ M (s + 27) i = nI (T 21 i))
theorem prF {M M' : goMI} {s : Nat} {T T' : tH} (h : prC M s T) (m26 : M' (s + 26) = M (s + 26)) (m27 : M' (s + 27) = M (s + 27)) (t20 : T' 20 = T 20) (t21 : T' 21 = T 21) (f11 : T' 0 11 = T 0 11) : prC M' s T' := by
  unfold prC at h ⊢
  simp only [m26, m27, t20, t21, f11]
  exact h
def pC (M : goMI) (s : Nat) (T : tH) : Prop := paC M s T ∧ pbC M s T ∧ pcC M s T ∧ pdC M s T ∧ peC M s T ∧ pfC M s T ∧ pgC M s T ∧ phC M s T ∧ piC M s T ∧ pjC M s T ∧ pkC M s T ∧ pxC M s T ∧ pmC M s T ∧ pnC M s T ∧ poC M s T ∧ pqC M s T ∧ prC M s T
/-- a cell of a hill told -/
def tW (T : tH) (r i v : Nat) : tH := fun r' i' => if r' = r ∧ i' = i then v else T r' i'
theorem tW_r {T : tH} {r i v r' : Nat} (h : r' ≠ r) : tW T r i v r' = T r' := by funext i'; unfold tW; rw [if_neg (fun e => h e.1)]
theorem tW_i {T : tH} {r i v r' i' : Nat} (h : i' ≠ i) : tW T r i v r' i' = T r' i' := by unfold tW; rw [if_neg (fun e => h e.2)]
theorem tW_e {T : tH} {r i v : Nat} : tW T r i v r i = v := by unfold tW; rw [if_pos ⟨rfl, rfl⟩]
theorem tM_wr {M : goMI} {b : Nat} {T : tH} {r i v : Nat} (h : tM M b T) : tM (goWI M (b + r) i (nI v)) b (tW T r i v) := by
  intro r' hr' i' hi'
  by_cases e : r' = r
  · subst e
    rw [gWI_self]
    by_cases e2 : i' = i
    · rw [if_pos e2, e2, tW_e]
    · rw [if_neg e2, tW_i e2]; exact h r' hr' i' hi'
  · rw [gWI_na (by omega), tW_r e]; exact h r' hr' i' hi'
theorem tM_w0 {M : goMI} {b : Nat} {T : tH} {i v : Nat} (h : tM M b T) : tM (goWI M b i (nI v)) b (tW T 0 i v) := tM_wr (r := 0) h
/-- what holds of a hill half told -/
def pO (T : tH) : Prop :=
  (T 0 0 ≤ 12 ∧ T 0 1 ≤ 4 ∧ T 0 2 ≤ 8 ∧ T 0 3 ≤ 14 ∧ T 0 4 ≤ 4 ∧ T 0 5 ≤ 6 ∧ T 0 6 ≤ 8 ∧ T 0 7 ≤ 10 ∧ T 0 8 ≤ 8 ∧ T 0 9 ≤ 8 ∧ T 0 10 ≤ 8 ∧ T 0 11 ≤ 6 ∧ T 0 13 < 2 ^ T 0 8 ∧ T 0 15 ≤ 1) ∧
  (T 0 14 = if 0 < T 0 10 then 1 else 0) ∧
  (∀ j, j < 32 → T 1 j ≤ 9) ∧
  (∀ i, i < T 0 3 → T 2 i < T 0 2 ∧ T 3 i < T 0 2 ∧ T 2 i ≠ T 3 i ∧ ∀ j, j < i → tJ T (T 2 i) (T 3 i) j = false) ∧
  (∀ p, p < 4 → T 4 p ≤ 3) ∧ (∀ p i h, p < 4 → i < T 4 p → h < 12 → T 5 (12 * (3 * p + i) + h) < T 0 2) ∧
  (∀ g, g < T 0 5 → T 6 g ≤ 3 ∧ (T 7 g < T 0 5 ∨ T 7 g = 4294967294) ∧ T 8 g ≤ T 0 1 ∧ T 10 g < T 0 2 ∧ T 23 g = T 10 g ∧ 1 ≤ T 11 g ∧ T 11 g ≤ 9 ∧ ∀ i, i < T 8 g → T 9 (4 * g + i) < T 0 1) ∧
  (∀ g, g < 6 → T 12 g < 16 ∧ T 23 g < 4294967296) ∧
  (∀ k, k < T 0 7 → T 13 k ≤ 2 ∧ T 14 k < T 0 5 ∧ T 15 k < T 0 2 ∧ (T 13 k = 0 → T 16 k < T 0 1) ∧ (T 13 k ≠ 0 → T 16 k < T 0 0)) ∧
  (∀ r, r < T 0 9 → T 17 r < T 0 8 ∧ T 18 r < 2 ^ T 0 8) ∧ (∀ i, i < T 0 10 → T 19 i < T 0 8) ∧
  (∀ i, i < T 0 11 → T 20 i ≤ 99 ∧ 1 ≤ T 21 i ∧ T 21 i ≤ 9) ∧ (∀ k, k < 4 → T 22 k ≤ 99) ∧
  (T 0 0 = 0 ∨ (2 ≤ T 0 0 ∧ 1 ≤ T 0 1)) ∧ (T 0 0 = 0 → ∀ r, r ≤ 22 → ∀ i, T r i = 0) ∧ (∀ j, 4 * T 0 2 ≤ j → T 1 j = 0)
/-- how many of each sort of name -/
def pN (T : tH) (s : Nat) : Nat := if s = 0 then T 0 2 else if s = 1 then T 0 4 else if s = 2 then T 0 5 else if s = 3 then T 0 8 else T 0 11
theorem pN_le {T : tH} (h : pO T) (s : Nat) : pN T s ≤ 8 := by
  obtain ⟨⟨a0, a1, a2, a3, a4, a5, a6, a7, a8, a9, a10, a11, _⟩, _⟩ := h
  unfold pN
  split
  · exact a2
  · split
    · omega
    · split
      · omega
      · split <;> omega
/-- what is told so far, in both; row 1 of the component, rows 102 and 104 of the model are free -/
def rD (s b : Nat) (Mc : goMI) (Lc : goML) (Mm : goMI) (Lm : goML) (T : tH) : Prop := tM Mm b T ∧ pC Mc s T ∧ pO T ∧ rNm b (pN T) (T 0 12) Mc Lc Mm Lm ∧ T 0 12 = T 0 2 + T 0 4 + T 0 5 + T 0 8 + T 0 11
theorem rD_fr {s b : Nat} {Mc Mc' Mm Mm' : goMI} {Lc Lc' Lm Lm' : goML} {T : tH} (h : rD s b Mc Lc Mm Lm T) (hc : ∀ a, (s ≤ a ∧ a ≤ s + 27) ∨ a = 69 ∨ a = 70 → Mc' a = Mc a) (h67 : Mc' 67 8 = Mc 67 8) (hl : Lc' 68 = Lc 68) (hm : ∀ a, b ≤ a → a ≤ b + 25 → Mm' a = Mm a) (hlm : Lm' (b + 23) = Lm (b + 23)) : rD s b Mc' Lc' Mm' Lm' T := by
  obtain ⟨d1, d2, d3, ⟨n1, n2, n3, n4⟩, d5⟩ := h
  refine ⟨tM_fr d1 (fun r hr => hm _ (by omega) (by omega)), ?_, d3, ⟨n1, h67.trans n2, by rw [hm b (by omega) (by omega)]; exact n3, fun i hi => ?_⟩, d5⟩
  · have m : ∀ r, r ≤ 27 → Mc' (s + r) = Mc (s + r) := fun r hr => hc _ (Or.inl ⟨by omega, by omega⟩)
    obtain ⟨xpa, xpb, xpc, xpd, xpe, xpf, xpg, xph, xpi, xpj, xpk, xpx, xpm, xpn, xpo, xpq, xpr⟩ := d2
    exact ⟨paF xpa (m 0 (by decide)) rfl rfl rfl rfl rfl rfl, pbF xpb (m 1 (by decide)) rfl, pcF xpc (m 2 (by decide)) rfl rfl rfl, pdF xpd (m 3 (by decide)) (m 4 (by decide)) rfl rfl rfl, peF xpe (m 5 (by decide)) rfl, pfF xpf (m 7 (by decide)) rfl rfl, pgF xpg (m 8 (by decide)) rfl rfl rfl, phF xph (m 9 (by decide)) rfl rfl, piF xpi (m 10 (by decide)) (m 11 (by decide)) (m 13 (by decide)) (m 16 (by decide)) (m 15 (by decide)) rfl rfl rfl rfl rfl rfl, pjF xpj (m 12 (by decide)) rfl, pkF xpk (m 14 (by decide)) rfl, pxF xpx (m 17 (by decide)) (m 18 (by decide)) (m 19 (by decide)) (m 20 (by decide)) rfl rfl rfl rfl rfl, pmF xpm (m 21 (by decide)) rfl rfl rfl rfl, pnF xpn (m 22 (by decide)) (m 23 (by decide)) rfl rfl rfl, poF xpo (m 24 (by decide)) rfl rfl, pqF xpq (m 25 (by decide)) rfl, prF xpr (m 26 (by decide)) (m 27 (by decide)) rfl rfl rfl⟩
  · rw [hl, hlm, hc 69 (by omega), hc 70 (by omega), hm (b + 24) (by omega) (by omega), hm (b + 25) (by omega) (by omega)]
    exact n4 i hi
theorem rD_tok {s b : Nat} {Mc Mc' Mm Mm' : goMI} {Lc Lc' Lm Lm' : goML} {T : tH} (hs : s = 7 ∨ s = 37) (hb : 121 ≤ b) (h : rD s b Mc Lc Mm Lm T) (f : rFr Mc Lc Mm Lm Mc' Lc' Mm' Lm') : rD s b Mc' Lc' Mm' Lm' T :=
  rD_fr h (fun a ha => f.1 a (by omega)) (by rw [f.1 67 (by decide)]) (f.2.1 68 (by decide)) (fun a h1 h2 => f.2.2.1 a (by omega) (by omega)) (f.2.2.2.2.1 _ (by omega))
