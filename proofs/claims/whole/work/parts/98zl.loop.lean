/-! THE LINES, one after another, in both readers -/
section lines33
variable {e s b : Nat} {Rc Rm : goMR}
/-- the model behind its last line -/
noncomputable def mEn (M20 : goMI) : Option goMI :=
  if (M20 102 9) = 1 then
  some M20
  else
  Option.bind (fX14_flaw M20 1) fun M26 =>
  some M26
/-- how the reading ends -/
def rEnd (e s b : Nat) (Mc : goMI) (Lc : goML) (Mm : goMI) (Lm : goML) (c : Option (goMI × goML)) (m : Option (goMI × goML)) : Prop :=
  (∃ st' Mc' Lc' Mm' Lm' T', c = some (Mc', Lc') ∧ m = some (Mm', Lm') ∧ rT e st' Mc' Lc' Mm' Lm' ∧ rD s b Mc' Lc' Mm' Lm' T' ∧ Mc' 67 10 = 0 ∧ Mm' 102 14 = 0 ∧ gFr s b Mc Lc Mm Lm Mc' Lc' Mm' Lm') ∨
  (∃ (f : Int32) (st' : Nat) (Mc' : goMI) (Lc' : goML) (Mm' : goMI) (Lm' : goML), 0 < f ∧ c = some (Mc', Lc') ∧ m = some (Mm', Lm') ∧ Mc' 67 10 = f ∧ Mc' 67 11 = nI st' ∧ Mm' 102 9 = 5 ∧ Mm' 102 14 = f ∧ Mm' 102 15 = nI st' ∧ gFr s b Mc Lc Mm Lm Mc' Lc' Mm' Lm')
theorem rEnd_tr {Mc Mm Mc1 Mm1 : goMI} {Lc Lm Lc1 Lm1 : goML} {c m : Option (goMI × goML)} (hg : gFr s b Mc Lc Mm Lm Mc1 Lc1 Mm1 Lm1) (h : rEnd e s b Mc1 Lc1 Mm1 Lm1 c m) : rEnd e s b Mc Lc Mm Lm c m := by
  rcases h with ⟨st', Mc', Lc', Mm', Lm', T', r1, r2, r3, r4, r5, r6, r7⟩ | ⟨f, st', Mc', Lc', Mm', Lm', r1, r2, r3, r4, r5, r6, r7, r8, r9⟩
  · exact Or.inl ⟨st', Mc', Lc', Mm', Lm', T', r1, r2, r3, r4, r5, r6, gFr_trans hg r7⟩
  · exact Or.inr ⟨f, st', Mc', Lc', Mm', Lm', r1, r2, r3, r4, r5, r6, r7, r8, gFr_trans hg r9⟩
theorem c43_0 {n : Nat} {v4 : Int32} {M : goMI} {L : goML} : lX9_read_43 5000 Rc (n + 1) 0 v4 M L = some (M, L) := by
  rw [lX9_read_43, if_pos (show (0 : Int32) = 0 from rfl)]
  split <;> rfl
theorem mAll_0 {m : Nat} {M : goMI} {L : goML} : lX14_readAll_2 5000 Rm (m + 1) 0 M L = some (M, L) := by
  rw [lX14_readAll_2, if_pos rfl]
theorem mAll_1 {m : Nat} {M : goMI} {L : goML} : lX14_readAll_2 5000 Rm (m + 1) 1 M L = goB2 (fX14_readLine 5000 M L Rm) fun M12 L13 => goB3 (fX14_eatsSign 5000 M12 L13 59) fun x15 M16 L17 => lX14_readAll_2 5000 Rm m x15 M16 L17 := by
  rw [lX14_readAll_2, if_neg (by decide)]
theorem goB3_id {α β γ : Type} {x : Option (α × β × γ)} : (goB3 x fun a M L => some (a, M, L)) = x := by
  cases x with
  | none => rfl
  | some z => rfl
theorem rAll (hs : s = 7 ∨ s = 37) (hb : 121 ≤ b) (hRc : goRr Rc 67 7 = s) (hRm : Rm 102 4 = some b) : ∀ (d st v4 n m : Nat) (Mc Mm : goMI) (Lc Lm : goML) (T : tH), e - st < d → d + 2 ≤ n → d + 2 ≤ m → v4 ≤ st → (∀ i, i < 18 → Lc 73 i = kw i) → rT e st Mc Lc Mm Lm → rD s b Mc Lc Mm Lm T → lC st Mc T → Mc 67 10 = 0 → Mm 102 14 = 0 →
    rEnd e s b Mc Lc Mm Lm (goB3 (fX9_line 5000 Mc Lc Rc) fun x22 M23 L24 => lX9_read_43 5000 Rc n x22 (nI v4) M23 L24) (goB2 (lX14_readAll_2 5000 Rm m 1 Mm Lm) fun M20 L21 => Option.bind (mEn M20) fun M22 => some (M22, L21)) := by
  intro d
  induction d with
  | zero => intro st v4 n m Mc Mm Lc Lm T h; exact absurd h (Nat.not_lt_zero _)
  | succ d ih =>
    intro st v4 n m Mc Mm Lc Lm T hd hn hm hv hL h hD hC h67 h102
    obtain ⟨n, rfl⟩ : ∃ z, n = z + 1 := ⟨n - 1, by omega⟩
    obtain ⟨m, rfl⟩ : ∃ z, m = z + 1 := ⟨m - 1, by omega⟩
    have he := h.1.1
    rw [mAll_1]
    rcases rLine hs hb hRc hRm hL h hD hC with ⟨st', Mc', Lc', Mm', Lm', T', r1, r2, r3, r4, r5, r6, ⟨r7, r8⟩, r9⟩ | ⟨f, st', Mc', Lc', Mm', Lm', r1, r2, r3, r4, r5, r6, r7, r8, r9⟩
    · obtain ⟨n, rfl⟩ : ∃ z, n = z + 1 := ⟨n - 1, by omega⟩
      obtain ⟨m, rfl⟩ : ∃ z, m = z + 1 := ⟨m - 1, by omega⟩
      have hse := r4.2.1
      rw [r2, r3, gB3, gB2]
      refine rEnd_tr r9 ?_
      obtain ⟨s1, s2, s3, s4⟩ := rT_s r4
      rw [lX9_read_43, if_pos (show nI v4 < 1200 from nI_lt (b := 1200) (by omega) (by decide)), if_neg (by decide)]
      by_cases c0 : Mc' 1 4 = 0
      · have m1 := s3.mp c0
        rw [if_pos c0, gB3, c43_0, mEatN (fun hx => by rw [m1] at hx; exact absurd hx.1 (by decide)), gB3, mAll_0, gB2]
        unfold mEn
        rw [if_pos m1, gBd]
        exact Or.inl ⟨st', Mc', Lc', Mm', Lm', T', rfl, rfl, r4, r5, by rw [r7]; exact h67, by rw [r8]; exact h102, gFr_refl⟩
      · rw [if_neg c0]
        by_cases c3 : Mc' 1 4 = 3
        · obtain ⟨m9, m11⟩ := s2.mp c3
          obtain ⟨q, q1, q2, q3, q4⟩ := s4 (Or.inr c3)
          obtain ⟨st2, Mc2, Lc2, Mm2, Lm2, i2, n2, n2', t2, f2⟩ := rNext (Mc2 := Mc') (Lc2 := Lc') (Mm2 := Mm') (Lm2 := Lm') r4 q1 q2 q3 q4 rfl rfl rfl rfl
          have hC2 : lC st2 Mc2 T' := by
            obtain ⟨c1, ⟨x, x1, x2⟩, y, y1, y2⟩ := r6
            exact ⟨fun i hi i4 i9 => by rw [f2.1 71 (by decide)]; exact c1 i hi i4 i9, ⟨x, by omega, by rw [f2.1 71 (by decide)]; exact x2⟩, y, by omega, by rw [f2.1 71 (by decide)]; exact y2⟩
          rw [if_pos c3, n2, gB2, goB3_id, mEatY m9 m11, n2', gB2, gB3, nI_1]
          have key := ih st2 (v4 + 1) (n + 1) (m + 1) Mc2 Mm2 Lc2 Lm2 T' (by omega) (by omega) (by omega) (by omega) (fun i hi => by rw [f2.2.1 73 (by decide), r9.2.2.1 73 (by decide) (by decide) (by decide)]; exact hL i hi) t2 (rD_tok hs hb r5 f2) hC2 (by rw [f2.1 67 (by decide), r7]; exact h67) (by rw [f2.2.2.2.1 14 (by decide), r8]; exact h102)
          exact rEnd_tr (gFr_tok f2) key
        · rw [if_neg c3, cFail r4.2.2.1, gB2, gB3, c43_0, mEatN (fun hx => c3 (s2.mpr hx)), gB3, mAll_0, gB2]
          unfold mEn
          rw [if_neg (fun hx => c0 (s3.mpr hx)), mFlaw r4.2.2.2.1 (rT_9 r4), gBd, gBd]
          refine Or.inr ⟨1, st', _, _, _, _, by decide, rfl, rfl, ?_, ?_, mF_9, ?_, ?_, gFr_f⟩
          · unfold cF; rw [gWI_nk (by decide), gWI_self, if_pos rfl]
          · unfold cF; rw [gWI_self, if_pos rfl]
          · unfold mF; rw [gWI_nk (by decide), gWI_nk (by decide), gWI_self, if_pos rfl]
          · unfold mF; rw [gWI_nk (by decide), gWI_self, if_pos rfl]
    · obtain ⟨m, rfl⟩ : ∃ z, m = z + 1 := ⟨m - 1, by omega⟩
      rw [r2, r3, gB3, gB2, c43_0, ov_eats r6, gB3, mAll_0, gB2]
      unfold mEn
      rw [if_neg (ov_n (by decide) r6), ov_fl r6, gBd, gBd]
      exact Or.inr ⟨f, st', Mc', Lc', Mm', Lm', r1, rfl, rfl, r4, r5, r6, r7, r8, r9⟩
end lines33
