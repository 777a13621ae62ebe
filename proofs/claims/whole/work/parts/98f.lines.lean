/-! LINES in both readers -/
section lines
variable {e st s b : Nat} {Mc Mm Mc' Mm' Mc2 Mm2 : goMI} {Lc Lm Lc' Lm' Lc2 Lm2 : goML} {R : goMR} {T : tH}
/-- what a line may change -/
def gFr (s b : Nat) (Mc : goMI) (Lc : goML) (Mm : goMI) (Lm : goML) (Mc' : goMI) (Lc' : goML) (Mm' : goMI) (Lm' : goML) : Prop :=
  (∀ a, a ≠ 1 → a ≠ 67 → (a < 69 ∨ 72 < a) → (a < s ∨ s + 29 < a) → Mc' a = Mc a) ∧ (∀ j, j < 3 → Mc' 1 j = Mc 1 j) ∧ (∀ a, a ≠ 1 → a ≠ 67 → a ≠ 68 → Lc' a = Lc a) ∧
  (∀ a, a ≠ 102 → a ≠ 104 → (a < b ∨ b + 25 < a) → Mm' a = Mm a) ∧ (∀ j, j < 8 ∨ 17 < j → Mm' 102 j = Mm 102 j) ∧ (∀ a, a ≠ 102 → a ≠ b + 23 → Lm' a = Lm a)
theorem gFr_refl : gFr s b Mc Lc Mm Lm Mc Lc Mm Lm := ⟨fun _ _ _ _ _ => rfl, fun _ _ => rfl, fun _ _ _ _ => rfl, fun _ _ _ _ => rfl, fun _ _ => rfl, fun _ _ _ => rfl⟩
theorem gFr_trans (h : gFr s b Mc Lc Mm Lm Mc' Lc' Mm' Lm') (h' : gFr s b Mc' Lc' Mm' Lm' Mc2 Lc2 Mm2 Lm2) : gFr s b Mc Lc Mm Lm Mc2 Lc2 Mm2 Lm2 := by
  obtain ⟨a1, a2, a3, a4, a5, a6⟩ := h
  obtain ⟨b1, b2, b3, b4, b5, b6⟩ := h'
  exact ⟨fun a h1 h2 h3 h4 => (b1 a h1 h2 h3 h4).trans (a1 a h1 h2 h3 h4), fun j hj => (b2 j hj).trans (a2 j hj), fun a h1 h2 h3 => (b3 a h1 h2 h3).trans (a3 a h1 h2 h3), fun a h1 h2 h3 => (b4 a h1 h2 h3).trans (a4 a h1 h2 h3), fun j hj => (b5 j hj).trans (a5 j hj), fun a h1 h2 => (b6 a h1 h2).trans (a6 a h1 h2)⟩
theorem gFr_tok (f : rFr Mc Lc Mm Lm Mc' Lc' Mm' Lm') : gFr s b Mc Lc Mm Lm Mc' Lc' Mm' Lm' :=
  ⟨fun a h1 _ _ _ => f.1 a h1, f.2.2.2.2.2, fun a h1 _ _ => f.2.1 a h1, fun a h1 h2 _ => f.2.2.1 a h1 h2, fun j hj => f.2.2.2.1 j (by omega), fun a h1 _ => f.2.2.2.2.1 a h1⟩
theorem gFr_f {f : Int32} : gFr s b Mc Lc Mm Lm (cF Mc f st) Lc (mF Mm f st) Lm := by
  unfold cF mF
  refine ⟨fun a _ h2 _ _ => by rw [goWI_ne h2, goWI_ne h2], fun j _ => by rw [gWI_na (by decide), gWI_na (by decide)], fun _ _ _ _ => rfl, fun a h1 _ _ => by rw [goWI_ne h1, goWI_ne h1, goWI_ne h1], fun j hj => by rw [gWI_nk (by omega), gWI_nk (by omega), gWI_nk (by omega)], fun _ _ _ => rfl⟩
/-- what a good line keeps -/
def rKp (Mc Mm Mc' Mm' : goMI) : Prop := Mc' 71 = Mc 71 ∧ Mc' 67 10 = Mc 67 10 ∧ Mm' 102 14 = Mm 102 14
theorem rKp_refl : rKp Mc Mm Mc Mm := ⟨rfl, rfl, rfl⟩
theorem rKp_trans (h : rKp Mc Mm Mc' Mm') (h' : rKp Mc' Mm' Mc2 Mm2) : rKp Mc Mm Mc2 Mm2 := ⟨h'.1.trans h.1, h'.2.1.trans h.2.1, h'.2.2.trans h.2.2⟩
theorem rKp_tok (f : rFr Mc Lc Mm Lm Mc' Lc' Mm' Lm') : rKp Mc Mm Mc' Mm' := ⟨f.1 71 (by decide), by rw [f.1 67 (by decide)], f.2.2.2.1 14 (by decide)⟩
theorem rKp_w (h1 : Mc' 71 = Mc 71) (h2 : Mc' 67 = Mc 67) (h3 : Mm' 102 = Mm 102) : rKp Mc Mm Mc' Mm' := ⟨h1, by rw [h2], by rw [h3]⟩
/-- how a line ends -/
def rOut (e s b st : Nat) (Mc : goMI) (Lc : goML) (Mm : goMI) (Lm : goML) (c : Option (Int32 × goMI × goML)) (m : Option (goMI × goML)) (Q : tH → Prop) : Prop :=
  (∃ st' Mc' Lc' Mm' Lm' T', st ≤ st' ∧ c = some (1, Mc', Lc') ∧ m = some (Mm', Lm') ∧ rT e st' Mc' Lc' Mm' Lm' ∧ rD s b Mc' Lc' Mm' Lm' T' ∧ rKp Mc Mm Mc' Mm' ∧ gFr s b Mc Lc Mm Lm Mc' Lc' Mm' Lm' ∧ Q T') ∨
  (∃ (f : Int32) (st' : Nat) (Mc' : goMI) (Lc' : goML) (Mm' : goMI) (Lm' : goML), 0 < f ∧ c = some (0, Mc', Lc') ∧ m = some (Mm', Lm') ∧ Mc' 67 10 = f ∧ Mc' 67 11 = nI st' ∧ Mm' 102 9 = 5 ∧ Mm' 102 14 = f ∧ Mm' 102 15 = nI st' ∧ gFr s b Mc Lc Mm Lm Mc' Lc' Mm' Lm')
theorem rOut_f {c : Option (Int32 × goMI × goML)} {m : Option (goMI × goML)} {Q : tH → Prop} {f : Int32} {st1 : Nat} {Mc1 Mm1 : goMI} {Lc1 Lm1 : goML} (hf : 0 < f) (hc : c = some (0, cF Mc1 f st1, Lc1)) (hm : m = some (mF Mm1 f st1, Lm1)) (hg : gFr s b Mc Lc Mm Lm Mc1 Lc1 Mm1 Lm1) : rOut e s b st Mc Lc Mm Lm c m Q := by
  refine Or.inr ⟨f, st1, _, _, _, _, hf, hc, hm, ?_, ?_, mF_9, ?_, ?_, gFr_trans hg gFr_f⟩
  · unfold cF; rw [gWI_nk (by decide), gWI_self, if_pos rfl]
  · unfold cF; rw [gWI_self, if_pos rfl]
  · unfold mF; rw [gWI_nk (by decide), gWI_nk (by decide), gWI_self, if_pos rfl]
  · unfold mF; rw [gWI_nk (by decide), gWI_self, if_pos rfl]
/-- a name told -/
theorem rTell {cnt cnt' : Nat → Nat} {nn k m : Nat} {w : Int64} (hR : R 102 4 = some b) (hb : 121 ≤ b) (hN : rNm b cnt nn Mc Lc Mm Lm) (hn : nn < 32) (hk : k < 5) (hm : m < cnt' k) (hle : ∀ s, cnt s ≤ cnt' s) (hw : Lc 67 9 = w) :
    ∃ Mc' Lc' Mm' Lm', fX9_tell Mc Lc (nI k) (nI m) = some (1, Mc', Lc') ∧ fX14_names Mm Lm R w (nI k) (nI m) = some (Mm', Lm') ∧ rNm b cnt' (nn + 1) Mc' Lc' Mm' Lm' ∧ (∀ a, a ≠ 67 → a ≠ 69 → a ≠ 70 → Mc' a = Mc a) ∧ (∀ j, j ≠ 8 → Mc' 67 j = Mc 67 j) ∧ (∀ a, a ≠ 68 → Lc' a = Lc a) ∧ (∀ a, a ≠ b → a ≠ b + 24 → a ≠ b + 25 → Mm' a = Mm a) ∧ (∀ j, j ≠ 12 → Mm' b j = Mm b j) ∧ (∀ a, a ≠ b + 23 → Lm' a = Lm a) ∧ Mm' b 12 = nI (nn + 1) := by
  obtain ⟨n1, n2, n3, n4⟩ := hN
  refine ⟨goWI (goWI (goWI Mc 69 nn (nI k)) 70 nn (nI m)) 67 8 (nI (nn + 1)), goWL Lc 68 nn w, goWI (goWI (goWI Mm (b + 24) nn (nI k)) (b + 25) nn (nI m)) b 12 (nI (nn + 1)), goWL Lm (b + 23) nn w, ?_, ?_, ⟨by omega, by rw [gWI_self, if_pos rfl], by rw [gWI_self, if_pos rfl], fun i hi => ?_⟩, fun a h1 h2 h3 => by rw [goWI_ne h1, goWI_ne h3, goWI_ne h2], fun j hj => by rw [gWI_nk hj, gWI_na (by decide), gWI_na (by decide)], fun a ha => gWL_ne ha, fun a h1 h2 h3 => by rw [goWI_ne h1, goWI_ne h3, goWI_ne h2], fun j hj => by rw [gWI_nk hj, gWI_na (by omega), gWI_na (by omega)], fun a ha => gWL_ne ha, by rw [gWI_self, if_pos rfl]⟩
  · unfold fX9_tell
    rw [n2, if_pos (show nI nn < 32 from nI_lt (b := 32) hn (by decide)), hw, gWrL hn, gBd, gWr hn, gBd, gWI_na (by decide), n2, gWr hn, gBd, gWI_na (by decide), gWI_na (by decide), n2, gNm, nI_1, gB2]
  · unfold fX14_names
    simp only [hR, gBd]
    rw [n3, gWrL (by omega), gBd, gWr (by omega), gBd, gWI_na (by omega), n3, gWr (by omega), gBd, gWI_na (by omega), gWI_na (by omega), n3, gNm, nI_1]
  · rw [gWI_na (by decide), gWI_na (b := 69) (by decide), gWI_na (a := b) (b := b + 24) (by omega), gWI_na (a := b + 25) (b := b + 24) (by omega), gWI_na (a := 67) (b := 70) (by decide), gWI_na (a := b) (b := b + 25) (by omega), gWI_self, gWI_self, gWI_self, gWI_self]
    by_cases c : i = nn
    · rw [if_pos c, if_pos c, if_pos c, if_pos c, c, gWL_eq, gWL_eq]
      exact ⟨rfl, k, m, hk, hm, rfl, rfl, rfl, rfl⟩
    · obtain ⟨h1, k', m', h2, h3, h4, h5, h6, h7⟩ := n4 i (by omega)
      rw [if_neg c, if_neg c, if_neg c, if_neg c, gWL_nk c, gWL_nk c, gWI_na (by decide), gWI_na (by omega)]
      exact ⟨h1, k', m', h2, Nat.lt_of_lt_of_le h3 (hle k'), h4, h5, h6, h7⟩
end lines
