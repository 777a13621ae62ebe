/-! PARTS OF A LINE in both readers -/
section parts
variable {e st b nn : Nat} {Mc Mm : goMI} {Lc Lm : goML} {R : goMR} {cnt : Nat → Nat}
theorem rWord {a a' : Nat} {w : Int64} (h : rT e st Mc Lc Mm Lm) (ha : fX11_codeOf 5000 a = some w) (ha' : fX14_wordOf 5000 a' = some w) :
    (∃ st' Mc' Lc' Mm' Lm', st < st' ∧ fX9_word 5000 Mc Lc a = some (1, Mc', Lc') ∧ fX14_wants 5000 Mm Lm a' = some (Mm', Lm') ∧ rT e st' Mc' Lc' Mm' Lm' ∧ rFr Mc Lc Mm Lm Mc' Lc' Mm' Lm') ∨ (fX9_word 5000 Mc Lc a = some (0, cF Mc 1 st, Lc) ∧ fX14_wants 5000 Mm Lm a' = some (mF Mm 1 st, Lm)) := by
  obtain ⟨t1, t2⟩ := rT_w h
  have bad : fX11_spells 5000 Mc Lc a = some 0 → fX14_isWord 5000 Mm Lm a' = some 0 → (fX9_word 5000 Mc Lc a = some (0, cF Mc 1 st, Lc) ∧ fX14_wants 5000 Mm Lm a' = some (mF Mm 1 st, Lm)) := by
    intro s1 s2
    unfold fX9_word fX14_wants
    rw [s1, s2, gBd, gBd, if_pos rfl, if_pos rfl, cFail h.2.2.1, gB2, mFlaw h.2.2.2.1 (rT_9 h), gBd, gBd, ov_on mF_9, gB2]
    exact ⟨rfl, rfl⟩
  by_cases c : Mc 1 4 = 1
  · obtain ⟨w1, q, q1, q2, q3, q4, _⟩ := t2 c
    by_cases c2 : Lc 1 7 = w
    · obtain ⟨st', Mc', Lc', Mm', Lm', n1, n2, n3, n4, n5⟩ := rNext (Lc2 := Lc) (Lm2 := Lm) h q1 q2 q3 q4 rfl rfl rfl rfl
      refine Or.inl ⟨st', Mc', Lc', Mm', Lm', n1, ?_, ?_, n4, n5⟩
      · unfold fX9_word fX11_spells
        rw [if_pos c, ha, gBd, if_pos (gLc_0.mpr c2), gBd, if_neg (by decide), n2, gB2]
      · unfold fX14_wants
        rw [mIsWord ha' (t1.mp c), ← w1, if_pos c2, gBd, if_neg (by decide), gBd, n3, gB2]
    · refine Or.inr (bad ?_ ?_)
      · unfold fX11_spells
        rw [if_pos c, ha, gBd, if_neg (fun h => c2 (gLc_0.mp h))]
      · rw [mIsWord ha' (t1.mp c), ← w1, if_neg c2]
  · refine Or.inr (bad ?_ (mIsWord0 (fun h => c (t1.mpr h))))
    unfold fX11_spells
    rw [if_neg c]
theorem rWholeI {lo hi : Nat} (hhi : hi < 1000) (hlo : lo < 1000) (h : rT e st Mc Lc Mm Lm) :
    (∃ v, lo ≤ v ∧ v ≤ hi ∧ fX9_wholeIn Mc (nI lo) (nI hi) = some (1, Mc) ∧ Mc 1 8 = nI v ∧ fX14_readWhole 5000 Mm Lm (nI lo) (nI hi) = (goB2 (fX14_goesOn 5000 Mm Lm) fun M L => some (nI v, M, L)) ∧ ∃ q, st < q ∧ q ≤ e ∧ Mc 1 3 = nI q ∧ Mm 102 8 = nI q) ∨ (∃ f : Int32, (f = 1 ∨ f = 4) ∧ fX9_wholeIn Mc (nI lo) (nI hi) = some (0, cF Mc f st) ∧ fX14_readWhole 5000 Mm Lm (nI lo) (nI hi) = some (nI lo, mF Mm f st, Lm)) := by
  obtain ⟨t1, t2⟩ := rT_n h
  by_cases c : Mc 1 4 = 2
  · obtain ⟨v, v1, v2, v3, hq⟩ := t2 c
    have bad : fX14_within (nI v) (nI lo) (nI hi) = 0 → fX14_readWhole 5000 Mm Lm (nI lo) (nI hi) = some (nI lo, mF Mm 4 st, Lm) := by
      intro hw
      unfold fX14_readWhole
      rw [if_pos (t1.mp c), v3, hw, if_pos rfl, mFlaw h.2.2.2.1 (rT_9 h), gBd, gBd, if_pos mF_9, gNm, ov_on mF_9, gB2]
    by_cases c1 : lo ≤ v
    · by_cases c2 : v ≤ hi
      · refine Or.inl ⟨v, c1, c2, ?_, v2, ?_, hq⟩
        · unfold fX9_wholeIn
          rw [if_pos c, v2, if_pos (nI_le c1 (by omega)), if_neg (nI_nlt c2 (by omega))]
        · unfold fX14_readWhole fX14_within
          rw [if_pos (t1.mp c), v3, if_pos (nI_le c1 (by omega)), if_pos (nI_le c2 (by omega)), if_neg (by decide), gBd, if_neg (rT_9 h), v3, gNm]
      · refine Or.inr ⟨4, Or.inr rfl, ?_, bad ?_⟩
        · unfold fX9_wholeIn
          rw [if_pos c, v2, if_pos (nI_le c1 (by omega)), if_pos (nI_lt (by omega) (by omega)), cFail h.2.2.1, gB2, if_pos rfl]
        · unfold fX14_within
          rw [if_pos (nI_le c1 (by omega)), if_neg (fun h => c2 ((nI_leI (by omega) (by omega)).mp h))]
    · refine Or.inr ⟨4, Or.inr rfl, ?_, bad ?_⟩
      · unfold fX9_wholeIn
        rw [if_pos c, v2, if_neg (fun h => c1 ((nI_leI (by omega) (by omega)).mp h)), cFail h.2.2.1, gB2, if_pos rfl]
      · unfold fX14_within
        rw [if_neg (fun h => c1 ((nI_leI (by omega) (by omega)).mp h))]
  · refine Or.inr ⟨1, Or.inl rfl, ?_, ?_⟩
    · unfold fX9_wholeIn
      rw [if_neg c, cFail h.2.2.1, gB2]
      rfl
    · unfold fX14_readWhole
      rw [if_neg (fun h => c (t1.mpr h)), mFlaw h.2.2.2.1 (rT_9 h), gBd, gBd, if_pos mF_9, gNm, ov_on mF_9, gB2]
/-- the names told -/
def rNm (b : Nat) (cnt : Nat → Nat) (nn : Nat) (Mc : goMI) (Lc : goML) (Mm : goMI) (Lm : goML) : Prop := nn ≤ 32 ∧ Mc 67 8 = nI nn ∧ Mm b 12 = nI nn ∧ ∀ i, i < nn → Lc 68 i = Lm (b + 23) i ∧ ∃ s m, s < 5 ∧ m < cnt s ∧ Mc 69 i = nI s ∧ Mm (b + 24) i = nI s ∧ Mc 70 i = nI m ∧ Mm (b + 25) i = nI m
/-- what the model has of them -/
def mNm (b : Nat) (nn : Nat) (Mm : goMI) : Prop := nn ≤ 32 ∧ Mm b 12 = nI nn
theorem rNm_m (h : rNm b cnt nn Mc Lc Mm Lm) : mNm b nn Mm := ⟨h.1, h.2.2.1⟩
theorem mFind (h : mNm b nn Mm) (w : Int64) : fX13_find 5000 Mm Lm b w = some (if gFst (fun i => decide (Lm (b + 23) i = w)) nn < nn then nI (gFst (fun i => decide (Lm (b + 23) i = w)) nn) else -1) := by
  obtain ⟨h1, h2⟩ := h
  refine rFst (fun n i => lX13_find_2 w Mm Lm b n (nI i)) (fun i => decide (Lm (b + 23) i = w)) nI (-1) nn ?_ ?_ 5000 0 (Nat.zero_le _) (by omega) (fun j hj => absurd hj (Nat.not_lt_zero _))
  · intro n i hi
    show lX13_find_2 _ _ _ _ _ _ = _
    rw [lX13_find_2, h2, if_pos (nI_lt hi (by omega)), gRdL (by omega), gBd]
    by_cases c : Lm (b + 23) i = w
    · rw [if_pos (gLc_0.mpr c), decide_eq_true c, if_pos rfl]
    · rw [if_neg (fun h => c (gLc_0.mp h)), decide_eq_false c, if_neg (by decide), nI_1]
  · intro n
    show lX13_find_2 _ _ _ _ _ _ = _
    rw [lX13_find_2, h2, if_neg (nI_nlt (Nat.le_refl _) (by omega))]
theorem cFind (h : rNm b cnt nn Mc Lc Mm Lm) : fX9_find 5000 Mc Lc = some (if gFst (fun i => decide (Lm (b + 23) i = Lc 1 7)) nn < nn then nI (gFst (fun i => decide (Lm (b + 23) i = Lc 1 7)) nn) else -1) := by
  obtain ⟨h1, h2, h3, h4⟩ := h
  refine rFst (fun n i => lX9_find_2 Mc Lc n (nI i)) (fun i => decide (Lm (b + 23) i = Lc 1 7)) nI (-1) nn ?_ ?_ 5000 0 (Nat.zero_le _) (by omega) (fun j hj => absurd hj (Nat.not_lt_zero _))
  · intro n i hi
    show lX9_find_2 _ _ _ _ = _
    rw [lX9_find_2, h2, if_pos (nI_lt hi (by omega)), gRdL (by omega), gBd, (h4 i hi).1]
    by_cases c : Lm (b + 23) i = Lc 1 7
    · rw [if_pos (gLc_0.mpr c), decide_eq_true c, if_pos rfl]
    · rw [if_neg (fun h => c (gLc_0.mp h)), decide_eq_false c, if_neg (by decide), nI_1]
  · intro n
    show lX9_find_2 _ _ _ _ = _
    rw [lX9_find_2, h2, if_neg (nI_nlt (Nat.le_refl _) (by omega))]
theorem nm1_lt {n : Nat} (h : n < 2 ^ 31) : ¬ nI n = -1 := gI_nm1 h
theorem ov_known (hR : R 102 4 = some b) (hN : mNm b nn Mm) (h : Mm 102 9 = 5) {s : Int32} : fX14_known 5000 Mm Lm R s = some (0, Mm) := by
  have hn := hN.1
  unfold fX14_known
  rw [mIsName0 (ov_n (by decide) h), gBd, if_pos rfl, ov_fl h, gBd, gBd, hR, gBd, mFind hN, gBd]
  have key : (Option.bind (if (if gFst (fun i => decide (Lm (b + 23) i = Lm 102 17)) nn < nn then nI (gFst (fun i => decide (Lm (b + 23) i = Lm 102 17)) nn) else -1) = -1 then Option.bind (fX14_flaw Mm 2) fun M27 => some M27 else Option.bind (some b) fun b29 => Option.bind (goRd Mm (b29 + 24) 40 (if gFst (fun i => decide (Lm (b + 23) i = Lm 102 17)) nn < nn then nI (gFst (fun i => decide (Lm (b + 23) i = Lm 102 17)) nn) else -1)) fun x31 => if x31 = s then some Mm else Option.bind (fX14_flaw Mm 2) fun M34 => some M34) fun M23 => if M23 102 9 = 5 then (some (0, M23) : Option (Int32 × goMI)) else Option.bind (some b) fun b37 => Option.bind (goRd M23 (b37 + 25) 40 (if gFst (fun i => decide (Lm (b + 23) i = Lm 102 17)) nn < nn then nI (gFst (fun i => decide (Lm (b + 23) i = Lm 102 17)) nn) else -1)) fun x39 => some (x39, M23)) = some (0, Mm) := by
    rw [ov_fl h]
    by_cases c : gFst (fun i => decide (Lm (b + 23) i = Lm 102 17)) nn < nn
    · rw [if_pos c, if_neg (nm1_lt (by omega)), gBd, gBd, gRd (by omega), gBd]
      by_cases c2 : Mm (b + 24) (gFst (fun i => decide (Lm (b + 23) i = Lm 102 17)) nn) = s
      · rw [if_pos c2, gBd, if_pos h]
      · rw [if_neg c2, gBd, if_pos h]
    · rw [if_neg c, if_pos rfl, gBd, gBd, if_pos h]
  exact key
theorem ov_rk (hR : R 102 4 = some b) (hN : mNm b nn Mm) (h : Mm 102 9 = 5) {s : Int32} : fX14_readKnown 5000 Mm Lm R s = some (0, Mm, Lm) := by
  unfold fX14_readKnown
  rw [ov_known hR hN h, gB2, ov_on h, gB2]
theorem ov_fresh (hR : R 102 4 = some b) (hN : mNm b nn Mm) (h : Mm 102 9 = 5) : fX14_readFresh 5000 Mm Lm R = some (Lm 102 17, Mm, Lm) := by
  unfold fX14_readFresh
  rw [mIsName0 (ov_n (by decide) h), gBd, if_pos rfl, ov_fl h, gBd, gBd, hR, gBd, mFind hN, gBd, ov_fl h]
  have key : ∀ x : Int32, (Option.bind (if x = -1 then some Mm else some Mm) fun M23 => goNm (Lm 102 17) fun x29 => goB2 (fX14_goesOn 5000 M23 Lm) fun M31 L32 => (some (x29, M31, L32) : Option (Int64 × goMI × goML))) = some (Lm 102 17, Mm, Lm) := by
    intro x
    have : (if x = -1 then some Mm else some Mm) = some Mm := by split <;> rfl
    rw [this, gBd, gNm, ov_on h, gB2]
  exact key _
theorem ov_begins (hR : R 102 4 = some b) (h : Mm 102 9 = 5) {x y : Int32} : fX14_begins 5000 Mm Lm R x y = some (Mm, Lm) := by
  unfold fX14_begins
  rw [ov_fl h, gBd, hR]
  by_cases c : x = y
  · rw [if_pos c, gBd, gBd]
    by_cases c2 : Mm b 0 = 0
    · rw [if_pos c2, ov_fl h, gBd, gBd, ov_on h, gB2]
    · rw [if_neg c2, gBd, ov_on h, gB2]
  · rw [if_neg c, gBd, gBd]
    by_cases c2 : Mm b 0 = 0
    · rw [if_pos c2, ov_fl h, gBd, gBd, ov_on h, gB2]
    · rw [if_neg c2, gBd, ov_on h, gB2]
theorem mF_b {f : Int32} (hb : 121 ≤ b) (h : mNm b nn Mm) : mNm b nn (mF Mm f st) := by
  unfold mNm mF
  rw [goWI_ne (by omega), goWI_ne (by omega), goWI_ne (by omega)]
  exact h
theorem gEc {r : Nat} (h : r ≤ 17) : goEc (1000000 + r) = some () := by
  unfold goEc
  rw [if_pos ⟨by omega, by omega⟩]
theorem rNamed (hR : R 102 4 = some b) (hb : 121 ≤ b) (hL : ∀ i, i < 18 → Lc 73 i = kw i) (h : rT e st Mc Lc Mm Lm) (hN : rNm b cnt nn Mc Lc Mm Lm) {s : Nat} (hs : s < 5) (hcn : ∀ s, cnt s ≤ 8) :
    (∃ m, m < cnt s ∧ fX9_named 5000 Mc Lc (nI s) = some (nI m, Mc) ∧ fX14_known 5000 Mm Lm R (nI s) = some (nI m, Mm) ∧ ∃ q, st < q ∧ q ≤ e ∧ Mc 1 3 = nI q ∧ Mm 102 8 = nI q) ∨ (∃ f : Int32, (f = 1 ∨ f = 2) ∧ fX9_named 5000 Mc Lc (nI s) = some (-1, cF Mc f st) ∧ fX14_known 5000 Mm Lm R (nI s) = some (0, mF Mm f st)) := by
  obtain ⟨t1, t2⟩ := rT_w h
  have h9 := rT_9 h
  have hn := hN.1
  have mN := rNm_m hN
  have bad1 : fX14_isName 5000 Mm Lm = some 0 → fX14_known 5000 Mm Lm R (nI s) = some (0, mF Mm 1 st) := by
    intro hi
    have ov := ov_known (Lm := Lm) (s := nI s) hR (mF_b (st := st) (f := 1) hb mN) mF_9
    unfold fX14_known at ov ⊢
    rw [mIsName0 (ov_n (by decide) mF_9), gBd, if_pos rfl, ov_fl mF_9, gBd] at ov
    rw [hi, gBd, if_pos rfl, mFlaw h.2.2.2.1 h9, gBd]
    exact ov
  by_cases c : Mc 1 4 = 1
  · obtain ⟨w1, q, q1, q2, q3, q4, _⟩ := t2 c
    have hr := kR_le (Lc 1 7)
    unfold fX9_named
    rw [if_pos c, rRes hL c, gBd, gEc hr, gBd]
    by_cases c17 : kR (Lc 1 7) = 17
    · rw [c17, if_pos rfl, cFind hN, gBd]
      have hnm : fX14_isName 5000 Mm Lm = some 1 := by rw [mIsName (t1.mp c), ← w1, if_pos c17]
      unfold fX14_known
      rw [hnm, gBd, if_neg (show ¬ (1 : Int32) = 0 by decide), gBd, hR, gBd, mFind mN, ← w1, gBd]
      by_cases cg : gFst (fun i => decide (Lm (b + 23) i = Lc 1 7)) nn < nn
      · obtain ⟨_, s', m, s1, s2, s3, s4, s5, s6⟩ := hN.2.2.2 _ cg
        have hm8 := hcn s'
        simp only [if_pos cg]
        rw [if_pos (nI_pos' (by omega)), gRd (by omega), gBd, s3, if_neg (nm1_lt (by omega)), gBd, gRd (by omega), gBd, gRd (by omega), gBd, s4]
        by_cases cs : s' = s
        · refine Or.inl ⟨m, by rw [← cs]; exact s2, ?_, ?_, q, q1, q2, q3, q4⟩
          · rw [if_pos (by rw [cs]), s5]
          · rw [if_pos (by rw [cs]), gBd, if_neg h9, gBd, gRd (by omega), gBd, s6]
        · refine Or.inr ⟨2, Or.inr rfl, ?_, ?_⟩
          · rw [if_neg (fun h => cs ((nI_eq (by omega) (by omega)).mp h)), cFail h.2.2.1, gB2]
          · rw [if_neg (fun h => cs ((nI_eq (by omega) (by omega)).mp h)), mFlaw h.2.2.2.1 h9, gBd, gBd, if_pos mF_9]
      · simp only [if_neg cg]
        refine Or.inr ⟨2, Or.inr rfl, ?_, ?_⟩
        · rw [if_neg (by decide), cFail h.2.2.1, gB2]
        · rw [if_pos trivial, mFlaw h.2.2.2.1 h9, gBd, gBd, if_pos mF_9]
    · refine Or.inr ⟨1, Or.inl rfl, ?_, bad1 ?_⟩
      · rw [if_neg (by omega), cFail h.2.2.1, gB2]
      · rw [mIsName (t1.mp c), ← w1, if_neg c17]
  · refine Or.inr ⟨1, Or.inl rfl, ?_, bad1 (mIsName0 (fun h => c (t1.mpr h)))⟩
    unfold fX9_named
    rw [if_neg c, cFail h.2.2.1, gB2]
theorem rFresh (hR : R 102 4 = some b) (hb : 121 ≤ b) (hL : ∀ i, i < 18 → Lc 73 i = kw i) (h : rT e st Mc Lc Mm Lm) (hN : rNm b cnt nn Mc Lc Mm Lm) :
    (∃ w, fX9_freshName 5000 Mc Lc = (goB2 (fX11_advance 5000 Mc (goWL Lc 67 9 w)) fun M L => some (1, M, L)) ∧ fX14_readFresh 5000 Mm Lm R = (goB2 (fX14_goesOn 5000 Mm Lm) fun M L => some (w, M, L)) ∧ ∃ q, st < q ∧ q ≤ e ∧ Mc 1 3 = nI q ∧ Mm 102 8 = nI q) ∨ (∃ (f : Int32) (w : Int64), (f = 1 ∨ f = 3) ∧ fX9_freshName 5000 Mc Lc = some (0, cF Mc f st, Lc) ∧ fX14_readFresh 5000 Mm Lm R = some (w, mF Mm f st, Lm)) := by
  obtain ⟨t1, t2⟩ := rT_w h
  have h9 := rT_9 h
  have hn := hN.1
  have mN := rNm_m hN
  have bad1 : fX14_isName 5000 Mm Lm = some 0 → fX14_readFresh 5000 Mm Lm R = some (Lm 102 17, mF Mm 1 st, Lm) := by
    intro hi
    have ov := ov_fresh (Lm := Lm) hR (mF_b (st := st) (f := 1) hb mN) mF_9
    unfold fX14_readFresh at ov ⊢
    rw [mIsName0 (ov_n (by decide) mF_9), gBd, if_pos rfl, ov_fl mF_9, gBd] at ov
    rw [hi, gBd, if_pos rfl, mFlaw h.2.2.2.1 h9, gBd]
    exact ov
  by_cases c : Mc 1 4 = 1
  · obtain ⟨w1, q, q1, q2, q3, q4, _⟩ := t2 c
    have hr := kR_le (Lc 1 7)
    unfold fX9_freshName
    rw [if_pos c, rRes hL c, gBd, gEc hr, gBd]
    by_cases c17 : kR (Lc 1 7) = 17
    · rw [c17, if_pos rfl, cFind hN, gBd]
      have hnm : fX14_isName 5000 Mm Lm = some 1 := by rw [mIsName (t1.mp c), ← w1, if_pos c17]
      unfold fX14_readFresh
      rw [hnm, gBd, if_neg (show ¬ (1 : Int32) = 0 by decide), gBd, hR, gBd, mFind mN, ← w1, gBd]
      by_cases cg : gFst (fun i => decide (Lm (b + 23) i = Lc 1 7)) nn < nn
      · simp only [if_pos cg]
        refine Or.inr ⟨3, Lc 1 7, Or.inr rfl, ?_, ?_⟩
        · rw [if_pos (nI_pos' (by omega)), cFail h.2.2.1, gB2]
          rfl
        · rw [if_neg (nm1_lt (by omega)), mFlaw h.2.2.2.1 h9, gBd, gBd, gNm, ov_on mF_9, gB2]
      · simp only [if_neg cg]
        refine Or.inl ⟨Lc 1 7, ?_, ?_, q, q1, q2, q3, q4⟩
        · rw [if_neg (by decide), gNm]
        · rw [if_pos trivial, gBd, gNm]
    · refine Or.inr ⟨1, Lm 102 17, Or.inl rfl, ?_, bad1 ?_⟩
      · rw [if_neg (by omega), cFail h.2.2.1, gB2]
        rfl
      · rw [mIsName (t1.mp c), ← w1, if_neg c17]
  · refine Or.inr ⟨1, Lm 102 17, Or.inl rfl, ?_, bad1 (mIsName0 (fun h => c (t1.mpr h)))⟩
    unfold fX9_freshName
    rw [if_neg c, cFail h.2.2.1, gB2]
    rfl
end parts
