/-! THE READER BEGINS: nothing is told -/
section lines34
variable {e s b : Nat} {M Mc Mm : goMI} {L Lc Lm : goML} {R Rc Rm : goMR}
theorem cClear : ∃ M', fX6_clear 5000 M s = some M' ∧ (∀ a, (a < s ∨ s + 29 < a) → M' a = M a) ∧ M' (s + 12) = M (s + 12) ∧ (∀ j, j < 7 → M' s j = 0) ∧ (∀ j, j < 8 → M' (s + 1) j = 0) ∧ (∀ j, j < 8 → M' (s + 2) j = 0) ∧ (∀ j, j < 4 → M' (s + 5) j = 0) ∧ (M' (s + 9) 0 = 0 ∧ M' (s + 9) 1 = 0) ∧ (∀ j, j < 6 → M' (s + 14) j = 0) ∧ (∀ j, j < 4 → M' (s + 21) j = 0) ∧ M' (s + 25) 0 = 0 := by
  generalize hMa : goWI (goWI (goWI (goWI (goWI (goWI (goWI M s 0 0) s 1 0) s 2 0) s 3 0) s 4 0) s 5 0) s 6 0 = Ma
  have za : ∀ j, j < 7 → Ma s j = 0 := by
    intro j hj
    rw [← hMa]
    simp only [gWI_self]
    have hh : j = 0 ∨ j = 1 ∨ j = 2 ∨ j = 3 ∨ j = 4 ∨ j = 5 ∨ j = 6 := by omega
    rcases hh with h | h | h | h | h | h | h <;> subst h <;> rfl
  have fa : ∀ a, a ≠ s → Ma a = M a := fun a ha => by rw [← hMa, goWI_ne ha, goWI_ne ha, goWI_ne ha, goWI_ne ha, goWI_ne ha, goWI_ne ha, goWI_ne ha]
  obtain ⟨M1, e1, f1, z1⟩ := gFill (M := Ma) (a := s + 1) (n := 8) (N := 5000) (v := 0) (by decide) (by decide)
  obtain ⟨M2, e2, f2, z2⟩ := gFill (M := M1) (a := s + 2) (n := 8) (N := 5000) (v := 0) (by decide) (by decide)
  obtain ⟨M3, e3, f3, z3⟩ := gFill (M := M2) (a := s + 5) (n := 4) (N := 5000) (v := 0) (by decide) (by decide)
  obtain ⟨M4, e4, f4, z4⟩ := gFill (M := goWI (goWI M3 (s + 9) 0 0) (s + 9) 1 0) (a := s + 9 + 5) (n := 6) (N := 5000) (v := 0) (by decide) (by decide)
  have z4' : ∀ j, j < 6 → M4 (s + 14) j = 0 := z4
  have f4' : ∀ a, a ≠ s + 14 → M4 a = goWI (goWI M3 (s + 9) 0 0) (s + 9) 1 0 a := f4
  have fm : ∀ a, a ≠ s → a ≠ s + 1 → a ≠ s + 2 → a ≠ s + 5 → a ≠ s + 9 → a ≠ s + 14 → M4 a = M a := fun a h0 h1 h2 h3 h4 h5 => by rw [f4' a h5, goWI_ne h4, goWI_ne h4, f3 a h3, f2 a h2, f1 a h1, fa a h0]
  refine ⟨goWI (goWI (goWI (goWI (goWI M4 (s + 21) 0 0) (s + 21) 1 0) (s + 21) 2 0) (s + 21) 3 0) (s + 25) 0 0, ?_, fun a ha => ?_, ?_, fun j hj => ?_, fun j hj => ?_, fun j hj => ?_, fun j hj => ?_, ⟨?_, ?_⟩, fun j hj => ?_, fun j hj => ?_, ?_⟩
  · unfold fX6_clear fX5_clear fX7_clear
    simp only [gNm]
    rw [hMa, e1, gBd, e2, gBd, e3, gBd, e4, gBd, gBd, gBd]
  · rw [goWI_ne (by omega), goWI_ne (by omega), goWI_ne (by omega), goWI_ne (by omega), goWI_ne (by omega), fm a (by omega) (by omega) (by omega) (by omega) (by omega) (by omega)]
  · rw [goWI_ne (by omega), goWI_ne (by omega), goWI_ne (by omega), goWI_ne (by omega), goWI_ne (by omega), fm _ (by omega) (by omega) (by omega) (by omega) (by omega) (by omega)]
  · rw [gWI_na (by omega), gWI_na (by omega), gWI_na (by omega), gWI_na (by omega), gWI_na (by omega), f4' _ (by omega), gWI_na (by omega), gWI_na (by omega), f3 _ (by omega), f2 _ (by omega), f1 _ (by omega)]
    exact za j hj
  · rw [gWI_na (by omega), gWI_na (by omega), gWI_na (by omega), gWI_na (by omega), gWI_na (by omega), f4' _ (by omega), gWI_na (by omega), gWI_na (by omega), f3 _ (by omega), f2 _ (by omega)]
    exact z1 j hj
  · rw [gWI_na (by omega), gWI_na (by omega), gWI_na (by omega), gWI_na (by omega), gWI_na (by omega), f4' _ (by omega), gWI_na (by omega), gWI_na (by omega), f3 _ (by omega)]
    exact z2 j hj
  · rw [gWI_na (by omega), gWI_na (by omega), gWI_na (by omega), gWI_na (by omega), gWI_na (by omega), f4' _ (by omega), gWI_na (by omega), gWI_na (by omega)]
    exact z3 j hj
  · rw [gWI_na (by omega), gWI_na (by omega), gWI_na (by omega), gWI_na (by omega), gWI_na (by omega), f4' _ (by omega), gWI_nk (by decide), gWI_self, if_pos rfl]
  · rw [gWI_na (by omega), gWI_na (by omega), gWI_na (by omega), gWI_na (by omega), gWI_na (by omega), f4' _ (by omega), gWI_self, if_pos rfl]
  · rw [gWI_na (by omega), gWI_na (by omega), gWI_na (by omega), gWI_na (by omega), gWI_na (by omega)]
    exact z4' j hj
  · rw [gWI_na (by omega)]
    simp only [gWI_self]
    have hh : j = 0 ∨ j = 1 ∨ j = 2 ∨ j = 3 := by omega
    rcases hh with h | h | h | h <;> subst h <;> rfl
  · rw [gWI_self, if_pos rfl]
/-- a hill of which nothing is told -/
def tZ (M : goMI) (s : Nat) : tH := fun r i => if r = 23 then (M (s + 12) i).toBitVec.toNat else 0
theorem tZ_z {r i : Nat} (h : r ≠ 23) : tZ M s r i = 0 := if_neg h
theorem tZ_23 {i : Nat} : tZ M s 23 i = (M (s + 12) i).toBitVec.toNat := if_pos rfl
theorem gI_bk (x : Int32) : nI x.toBitVec.toNat = x := by
  apply Int32.toBitVec_inj.mp
  rw [gI_bv, BitVec.ofNat_toNat, BitVec.setWidth_eq]
theorem tNr_z {T : tH} (h : T 0 3 = 0) {p : Nat} : tNr T p = 0 := by
  unfold tNr
  rw [show (fun q => decide (tPath T p q < T 0 3)) = (fun _ => false) from funext fun q => by rw [h]; exact decide_eq_false (Nat.not_lt_zero _)]
  rfl
theorem pO_z : pO (tZ M s) := by
  have z : ∀ r i, r ≠ 23 → tZ M s r i = 0 := fun r i h => tZ_z h
  unfold pO
  simp only [z 0 _ (by decide), z 1 _ (by decide), z 2 _ (by decide), z 3 _ (by decide), z 4 _ (by decide), z 12 _ (by decide), z 22 _ (by decide)]
  refine ⟨⟨by decide, by decide, by decide, by decide, by decide, by decide, by decide, by decide, by decide, by decide, by decide, by decide, by decide, by decide⟩, rfl, fun _ _ => by decide, fun i hi => absurd hi (Nat.not_lt_zero _), fun _ _ => by decide, fun p i h _ hi => absurd hi (Nat.not_lt_zero _), fun g hg => absurd hg (Nat.not_lt_zero _), fun g hg => ⟨by decide, ?_⟩, fun k hk => absurd hk (Nat.not_lt_zero _), fun k hk => absurd hk (Nat.not_lt_zero _), fun k hk => absurd hk (Nat.not_lt_zero _), fun k hk => absurd hk (Nat.not_lt_zero _), fun _ _ => by decide, Or.inl True.intro, fun _ r hr i => z r i (by omega), fun _ _ => True.intro⟩
  rw [tZ_23]
  exact (M (s + 12) g).toBitVec.isLt
theorem rD_z (h12 : Mc (s + 12) = M (s + 12)) (h0 : ∀ j, j < 7 → Mc s j = 0) (h1 : ∀ j, j < 8 → Mc (s + 1) j = 0) (h2 : ∀ j, j < 8 → Mc (s + 2) j = 0) (h5 : ∀ j, j < 4 → Mc (s + 5) j = 0) (h9 : Mc (s + 9) 0 = 0 ∧ Mc (s + 9) 1 = 0) (h14 : ∀ j, j < 6 → Mc (s + 14) j = 0) (h21 : ∀ j, j < 4 → Mc (s + 21) j = 0) (h25 : Mc (s + 25) 0 = 0) (h67 : Mc 67 8 = 0) (hm : ∀ a j, b ≤ a → a ≤ b + 25 → Mm a j = 0) : rD s b Mc Lc Mm Lm (tZ M s) := by
  have z : ∀ r i, r ≠ 23 → tZ M s r i = 0 := fun r i h => tZ_z h
  refine ⟨fun r hr i hi => ?_, ⟨?_, ?_, ?_, ?_, ?_, ?_, ?_, ?_, ?_, ?_, ?_, ?_, ?_, ?_, ?_, ?_, ?_⟩, pO_z, ⟨by rw [z 0 _ (by decide)]; exact Nat.zero_le _, by rw [z 0 _ (by decide)]; exact h67, by rw [z 0 _ (by decide)]; exact hm b 12 (by omega) (by omega), fun i hi => ?_⟩, ?_⟩
  · rw [z r i (by omega)]; exact hm _ _ (by omega) (by omega)
  · unfold paC
    simp only [z 0 _ (by decide)]
    exact ⟨h0 0 (by decide), h0 1 (by decide), h0 2 (by decide), h0 3 (by decide), h0 4 (by decide), h0 6 (by decide)⟩
  · intro p hp
    unfold tG
    simp only [z 1 _ (by decide)]
    exact h1 p hp
  · intro p hp
    rw [tNr_z (z 0 3 (by decide))]; exact h2 p hp
  · intro i hi
    rw [z 0 _ (by decide)] at hi; exact absurd hi (Nat.not_lt_zero _)
  · intro p hp
    rw [z 4 _ (by decide)]; exact h5 p hp
  · intro p i h hp hi
    rw [z 4 _ (by decide)] at hi; exact absurd hi (Nat.not_lt_zero _)
  · intro k hk
    rw [z 0 _ (by decide)] at hk; cases hk
  · unfold phC
    rw [z 0 _ (by decide), z 0 _ (by decide)]; exact h9
  · intro g hg
    rw [z 0 _ (by decide)] at hg; exact absurd hg (Nat.not_lt_zero _)
  · intro g hg
    rw [tZ_23, gI_bk, h12]
  · intro g hg
    rw [z 12 _ (by decide)]; exact h14 g hg
  · intro k hk
    rw [z 0 _ (by decide)] at hk; exact absurd hk (Nat.not_lt_zero _)
  · unfold pmC
    simp only [z 0 _ (by decide)]
    exact ⟨h21 0 (by decide), h21 1 (by decide), h21 2 (by decide), h21 3 (by decide)⟩
  · intro k hk
    rw [z 0 _ (by decide)] at hk; exact absurd hk (Nat.not_lt_zero _)
  · intro k hk
    rw [z 0 _ (by decide)] at hk; exact absurd hk (Nat.not_lt_zero _)
  · unfold pqC
    rw [z 0 _ (by decide)]; exact h25
  · intro k hk
    rw [z 0 _ (by decide)] at hk; exact absurd hk (Nat.not_lt_zero _)
  · rw [z 0 _ (by decide)] at hi; exact absurd hi (Nat.not_lt_zero _)
  · simp only [z 0 _ (by decide)]
theorem lC_z {st : Nat} (h : ∀ j, j < 15 → Mc 71 j = 0) : lC st Mc (tZ M s) := by
  refine ⟨fun i hi _ _ => ?_, ⟨0, Nat.zero_le _, h 4 (by decide)⟩, 0, Nat.zero_le _, h 9 (by decide)⟩
  unfold nL
  rw [h i (by omega), tZ_z (by decide), tZ_z (by decide), if_pos rfl, ite_self]
  rfl
end lines34
