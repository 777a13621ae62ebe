/-! A PART OF A ROW OF WHOLES, in both -/
section lines12
variable {e st s b : Nat} {Mc Mm : goMI} {Lc Lm : goML} {Rc Rm : goMR} {T : tH}
theorem rPart {k hi : Nat} (hk : k < 100) (hhi : hi < 1000) (h : rT e st Mc Lc Mm Lm) :
    (∃ v st1 Mc1 Lc1 Mm1 Lm1, v ≤ hi ∧ st ≤ st1 ∧ fX9_partIn 5000 Mc Lc (nI k) (nI hi) = some (1, Mc1, Lc1) ∧ Mc1 1 8 = nI v ∧ (∀ {β : Type} (K : Int32 → goMI → goML → Option β), (goB2 (if 0 < nI k then goB2 (fX14_needsSign 5000 Mm Lm 44) fun M20 L21 => some (M20, L21) else some (Mm, Lm)) fun M15 L16 => goB3 (fX14_readWhole 5000 M15 L16 0 (nI hi)) K) = goB2 (fX14_goesOn 5000 Mm1 Lm1) fun M L => K (nI v) M L) ∧ rT e st1 Mc1 Lc1 Mm1 Lm1 ∧ rFr Mc Lc Mm Lm Mc1 Lc1 Mm1 Lm1 ∧ ∃ q, st1 < q ∧ q ≤ e ∧ Mc1 1 3 = nI q ∧ Mm1 102 8 = nI q) ∨
    (∃ (f : Int32) (st1 : Nat) (Mc1 : goMI) (Lc1 : goML) (Mm1 : goMI) (Lm1 : goML), 0 < f ∧ fX9_partIn 5000 Mc Lc (nI k) (nI hi) = some (0, cF Mc1 f st1, Lc1) ∧ (∀ {β : Type} (K : Int32 → goMI → goML → Option β), (goB2 (if 0 < nI k then goB2 (fX14_needsSign 5000 Mm Lm 44) fun M20 L21 => some (M20, L21) else some (Mm, Lm)) fun M15 L16 => goB3 (fX14_readWhole 5000 M15 L16 0 (nI hi)) K) = K 0 (mF Mm1 f st1) Lm1) ∧ rFr Mc Lc Mm Lm Mc1 Lc1 Mm1 Lm1) := by
  have main : ∀ {st0 : Nat} {Mc0 Mm0 : goMI} {Lc0 Lm0 : goML}, st ≤ st0 → rT e st0 Mc0 Lc0 Mm0 Lm0 → rFr Mc Lc Mm Lm Mc0 Lc0 Mm0 Lm0 →
      (∃ v, v ≤ hi ∧ (goB2 (fX9_wholeIn Mc0 0 (nI hi)) fun x21 M22 => Option.bind (goZr x21) fun x24 => some (x24, M22, Lc0)) = some (1, Mc0, Lc0) ∧ Mc0 1 8 = nI v ∧ (∀ {β : Type} (K : Int32 → goMI → goML → Option β), (goB3 (fX14_readWhole 5000 Mm0 Lm0 0 (nI hi)) K) = goB2 (fX14_goesOn 5000 Mm0 Lm0) fun M L => K (nI v) M L) ∧ ∃ q, st0 < q ∧ q ≤ e ∧ Mc0 1 3 = nI q ∧ Mm0 102 8 = nI q) ∨
      (∃ f : Int32, 0 < f ∧ (goB2 (fX9_wholeIn Mc0 0 (nI hi)) fun x21 M22 => Option.bind (goZr x21) fun x24 => some (x24, M22, Lc0)) = some (0, cF Mc0 f st0, Lc0) ∧ (∀ {β : Type} (K : Int32 → goMI → goML → Option β), (goB3 (fX14_readWhole 5000 Mm0 Lm0 0 (nI hi)) K) = K 0 (mF Mm0 f st0) Lm0)) := by
    intro st0 Mc0 Mm0 Lc0 Lm0 hst t0 f0
    rcases rWholeI (lo := 0) (hi := hi) hhi (by decide) t0 with ⟨v, v1, v2, c, v3, m, hq⟩ | ⟨f, hf, c, m⟩
    · have c' : fX9_wholeIn Mc0 0 (nI hi) = some (1, Mc0) := c
      have m' : fX14_readWhole 5000 Mm0 Lm0 0 (nI hi) = (goB2 (fX14_goesOn 5000 Mm0 Lm0) fun M L => some (nI v, M, L)) := m
      refine Or.inl ⟨v, v2, by rw [c', gB2]; rfl, v3, fun K => ?_, hq⟩
      rw [m']
      cases fX14_goesOn 5000 Mm0 Lm0 with
      | none => rfl
      | some z => rfl
    · have c' : fX9_wholeIn Mc0 0 (nI hi) = some (0, cF Mc0 f st0) := c
      have m' : fX14_readWhole 5000 Mm0 Lm0 0 (nI hi) = some (0, mF Mm0 f st0, Lm0) := m
      exact Or.inr ⟨f, by rcases hf with e | e <;> rw [e] <;> decide, by rw [c', gB2]; rfl, fun K => by rw [m', gB3]⟩
  unfold fX9_partIn
  by_cases ck : 0 < k
  · rw [if_pos (show 0 < nI k from nI_lt (a := 0) ck (by omega))]
    obtain ⟨s1, s2, s3, s4⟩ := rT_s h
    by_cases c4 : Mc 1 4 = 4
    · obtain ⟨m9, m11⟩ := s1.mp c4
      obtain ⟨q, q1, q2, q3, q4⟩ := s4 (Or.inl c4)
      obtain ⟨st0, Mc0, Lc0, Mm0, Lm0, i0, n0, n0', t0, f0⟩ := rNext (Mc2 := Mc) (Lc2 := Lc) (Mm2 := Mm) (Lm2 := Lm) h q1 q2 q3 q4 rfl rfl rfl rfl
      have hns : fX14_needsSign 5000 Mm Lm 44 = some (Mm0, Lm0) := by
        unfold fX14_needsSign
        rw [if_pos m9, if_pos m11, gBd, n0', gB2]
      rw [if_pos c4, n0, gB2]
      rcases main (by omega) t0 f0 with ⟨v, v1, c, v3, m, hq⟩ | ⟨f, hf, c, m⟩
      · exact Or.inl ⟨v, st0, Mc0, Lc0, Mm0, Lm0, v1, by omega, c, v3, fun K => by rw [if_pos (show 0 < nI k from nI_lt (a := 0) ck (by omega)), hns, gB2, gB2, m], t0, f0, hq⟩
      · exact Or.inr ⟨f, st0, Mc0, Lc0, Mm0, Lm0, hf, c, fun K => by rw [if_pos (show 0 < nI k from nI_lt (a := 0) ck (by omega)), hns, gB2, gB2, m], f0⟩
    · have hns : fX14_needsSign 5000 Mm Lm 44 = some (mF Mm 1 st, Lm) := by
        unfold fX14_needsSign
        by_cases c9 : Mm 102 9 = 4
        · rw [if_pos c9, if_neg (fun h => c4 (s1.mpr ⟨c9, h⟩)), mFlaw h.2.2.2.1 (rT_9 h), gBd, gBd, ov_on mF_9, gB2]
        · rw [if_neg c9, mFlaw h.2.2.2.1 (rT_9 h), gBd, gBd, ov_on mF_9, gB2]
      rw [if_neg c4, cFail h.2.2.1, gB2]
      exact Or.inr ⟨1, st, Mc, Lc, Mm, Lm, by decide, rfl, fun K => by rw [if_pos (show 0 < nI k from nI_lt (a := 0) ck (by omega)), hns, gB2, gB2, ov_whole mF_9, gB3], rFr_refl⟩
  · have ck0 : ¬ 0 < nI k := by
      have : k = 0 := by omega
      rw [this]; decide
    rw [if_neg ck0]
    rcases main (Nat.le_refl _) h rFr_refl with ⟨v, v1, c, v3, m, hq⟩ | ⟨f, hf, c, m⟩
    · exact Or.inl ⟨v, st, Mc, Lc, Mm, Lm, v1, Nat.le_refl _, c, v3, fun K => by rw [if_neg ck0, gB2, m], h, rFr_refl, hq⟩
    · exact Or.inr ⟨f, st, Mc, Lc, Mm, Lm, hf, c, fun K => by rw [if_neg ck0, gB2, m], rFr_refl⟩
end lines12
