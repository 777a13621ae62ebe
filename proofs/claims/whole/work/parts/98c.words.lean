/-! WORDS, OVER, FAULTS in both readers -/
def kw (i : Nat) : Int64 := ([271756, 17171557, 525960, 542723566, 20594265, 244788, 6456915, 6804932, 627886, 20194468, 197748, 8892563, 611717, 17382886, 3659348, 109221477, 294, 0] : List Int64).getD i 0
theorem kw_c : ∀ i, i < 18 → (goEw (1000000 + i)).bind (fX11_codeOf 5000) = some (kw i) := by decide +kernel
theorem kw_m : ∀ i, i < 17 → fX14_wordOf 5000 (1000130 + i) = some (kw i) := by decide +kernel
theorem kw_L {L : goML} (h : iL L) {i : Nat} (hi : i < 18) : L 73 i = kw i := by
  have := h i hi
  rw [kw_c i hi] at this
  exact Option.some.inj this
/-- which reserved word, else 17 -/
def kR (w : Int64) : Nat := gFst (fun i => decide (w = kw i)) 17
theorem kR_le (w : Int64) : kR w ≤ 17 := gFst_le _
section words
variable {e st : Nat} {Mc Mm : goMI} {Lc Lm : goML}
/-- a first index that fits -/
theorem rFst {β : Type} (F : Nat → Nat → Option β) (p : Nat → Bool) (z : Nat → β) (zn : β) (nn : Nat) (step : ∀ n i, i < nn → F (n + 1) i = if p i then some (z i) else F n (i + 1)) (fin : ∀ n, F (n + 1) nn = some zn) : ∀ n i, i ≤ nn → nn - i < n → (∀ j, j < i → p j = false) → F n i = some (if gFst p nn < nn then z (gFst p nn) else zn) := by
  intro n
  induction n with
  | zero => intro i _ h; exact absurd h (Nat.not_lt_zero _)
  | succ n ih =>
    intro i hi hn hp
    have hg : gFst p i = i := gFst_all hp
    by_cases e : i = nn
    · rw [e, fin, ← e, hg, if_neg (Nat.lt_irrefl _)]
    · rw [step n i (by omega)]
      cases hpi : p i with
      | true =>
        have := gFst_stop hg (show i < nn by omega) hpi
        rw [if_pos rfl, this, if_pos (by omega)]
      | false =>
        rw [if_neg (by decide)]
        exact ih (i + 1) (by omega) (by omega) (fun j hj => by
          by_cases e2 : j = i
          · rw [e2]; exact hpi
          · exact hp j (by omega))
theorem rRes (hL : ∀ i, i < 18 → Lc 73 i = kw i) (h4 : Mc 1 4 = 1) : fX9_reservedHere 5000 Mc Lc = some (1000000 + kR (Lc 1 7)) := by
  have key := rFst (fun n i => lX9_reservedHere_2 Mc Lc n (nI i)) (fun i => decide (Lc 1 7 = kw i)) (fun i => 1000000 + i) 1000017 18 ?_ ?_ 5000 0 (Nat.zero_le _) (by decide) (fun j hj => absurd hj (Nat.not_lt_zero _))
  · have key' : fX9_reservedHere 5000 Mc Lc = _ := key
    rw [key']
    unfold kR
    by_cases c : gFst (fun i => decide (Lc 1 7 = kw i)) 17 < 17
    · have h18 := gFst_lt c 1
      rw [show 17 + 1 = 18 from rfl] at h18
      rw [h18, if_pos (by omega)]
    · have hl := gFst_le (p := fun i => decide (Lc 1 7 = kw i)) 17
      have h17 : gFst (fun i => decide (Lc 1 7 = kw i)) 17 = 17 := by omega
      rw [h17]
      cases hp : decide (Lc 1 7 = kw 17) with
      | true =>
        have := gFst_hit (p := fun i => decide (Lc 1 7 = kw i)) h17 hp
        rw [show 17 + 1 = 18 from rfl] at this
        rw [this, if_pos (by decide)]
      | false =>
        have := gFst_go (p := fun i => decide (Lc 1 7 = kw i)) h17 hp
        rw [show 17 + 1 = 18 from rfl] at this
        rw [this, if_neg (by decide)]
  · intro n i hi
    show lX9_reservedHere_2 _ _ _ _ = _
    rw [lX9_reservedHere_2, gL_18, if_pos (nI_lt hi (by decide)), if_pos h4, gRdL hi, gBd, hL i hi]
    by_cases c : Lc 1 7 = kw i
    · rw [if_pos (gLc_0.mpr c), decide_eq_true c, if_pos rfl]
      unfold goRa
      rw [if_pos ⟨nI_pos' (by omega), by rw [nI_clamp (by omega)]; exact hi⟩, nI_clamp (by omega), gBd]
    · rw [if_neg (fun h => c (gLc_0.mp h)), decide_eq_false c, if_neg (by decide), nI_1]
  · intro n
    show lX9_reservedHere_2 _ _ _ _ = _
    rw [lX9_reservedHere_2, gL_18, if_neg (nI_nlt (Nat.le_refl _) (by decide))]
theorem rRes0 (h4 : ¬ Mc 1 4 = 1) : fX9_reservedHere 5000 Mc Lc = some 1000017 := by
  have key := rFst (fun n i => lX9_reservedHere_2 Mc Lc n (nI i)) (fun _ => false) (fun i => 1000000 + i) 1000017 18 ?_ ?_ 5000 0 (Nat.zero_le _) (by decide) (fun j hj => absurd hj (Nat.not_lt_zero _))
  · have key' : fX9_reservedHere 5000 Mc Lc = _ := key
    rw [key', gFst_all (fun _ _ => rfl), if_neg (by decide)]
  · intro n i hi
    show lX9_reservedHere_2 _ _ _ _ = _
    rw [lX9_reservedHere_2, gL_18, if_pos (nI_lt hi (by decide)), if_neg h4, if_neg (by decide), nI_1]
  · intro n
    show lX9_reservedHere_2 _ _ _ _ = _
    rw [lX9_reservedHere_2, gL_18, if_neg (nI_nlt (Nat.le_refl _) (by decide))]
theorem mIsWord {a : Nat} {w : Int64} (ha : fX14_wordOf 5000 a = some w) (h9 : Mm 102 9 = 2) : fX14_isWord 5000 Mm Lm a = some (if Lm 102 17 = w then 1 else 0) := by
  unfold fX14_isWord
  rw [if_pos h9, ha, gBd]
  by_cases c : Lm 102 17 = w
  · rw [if_pos (gLc_0.mpr c), if_pos c]
  · rw [if_neg (fun h => c (gLc_0.mp h)), if_neg c]
theorem mIsWord0 {a : Nat} (h9 : ¬ Mm 102 9 = 2) : fX14_isWord 5000 Mm Lm a = some 0 := by
  unfold fX14_isWord
  rw [if_neg h9]
theorem kR_ne {w : Int64} {i : Nat} (h : i < kR w) : ¬ w = kw i := fun e => by
  have := gFst_np h
  rw [decide_eq_false_iff_not] at this
  exact this e
theorem kR_eq {w : Int64} (h : kR w < 17) : w = kw (kR w) := by
  have := gFst_p h
  rw [decide_eq_true_eq] at this
  exact this
theorem mW {i : Nat} (hi : i < 17) (h9 : Mm 102 9 = 2) : fX14_isWord 5000 Mm Lm (1000130 + i) = some (if Lm 102 17 = kw i then 1 else 0) := mIsWord (kw_m i hi) h9
theorem mIsName (h9 : Mm 102 9 = 2) : fX14_isName 5000 Mm Lm = some (if kR (Lm 102 17) = 17 then 1 else 0) := by
  have hle := kR_le (Lm 102 17)
  have w0 := mW (Lm := Lm) (i := 0) (by decide) h9
  have w1 := mW (Lm := Lm) (i := 1) (by decide) h9
  have w2 := mW (Lm := Lm) (i := 2) (by decide) h9
  have w3 := mW (Lm := Lm) (i := 3) (by decide) h9
  have w4 := mW (Lm := Lm) (i := 4) (by decide) h9
  have w5 := mW (Lm := Lm) (i := 5) (by decide) h9
  have w6 := mW (Lm := Lm) (i := 6) (by decide) h9
  have w7 := mW (Lm := Lm) (i := 7) (by decide) h9
  have w8 := mW (Lm := Lm) (i := 8) (by decide) h9
  have w9 := mW (Lm := Lm) (i := 9) (by decide) h9
  have w10 := mW (Lm := Lm) (i := 10) (by decide) h9
  have w11 := mW (Lm := Lm) (i := 11) (by decide) h9
  have w12 := mW (Lm := Lm) (i := 12) (by decide) h9
  have w13 := mW (Lm := Lm) (i := 13) (by decide) h9
  have w14 := mW (Lm := Lm) (i := 14) (by decide) h9
  have w15 := mW (Lm := Lm) (i := 15) (by decide) h9
  have w16 := mW (Lm := Lm) (i := 16) (by decide) h9
  unfold fX14_isName
  rw [if_pos h9]
  by_cases c : kR (Lm 102 17) = 17
  · have hn : ∀ i, i < 17 → ¬ Lm 102 17 = kw i := fun i hi => kR_ne (by omega)
    rw [if_neg (hn 0 (by decide))] at w0
    rw [if_neg (hn 1 (by decide))] at w1
    rw [if_neg (hn 2 (by decide))] at w2
    rw [if_neg (hn 3 (by decide))] at w3
    rw [if_neg (hn 4 (by decide))] at w4
    rw [if_neg (hn 5 (by decide))] at w5
    rw [if_neg (hn 6 (by decide))] at w6
    rw [if_neg (hn 7 (by decide))] at w7
    rw [if_neg (hn 8 (by decide))] at w8
    rw [if_neg (hn 9 (by decide))] at w9
    rw [if_neg (hn 10 (by decide))] at w10
    rw [if_neg (hn 11 (by decide))] at w11
    rw [if_neg (hn 12 (by decide))] at w12
    rw [if_neg (hn 13 (by decide))] at w13
    rw [if_neg (hn 14 (by decide))] at w14
    rw [if_neg (hn 15 (by decide))] at w15
    rw [if_neg (hn 16 (by decide))] at w16
    rw [w0, w1, w2, w3, w4, w5, w6, w7, w8, w9, w10, w11, w12, w13, w14, w15, w16, if_pos c]
    rfl
  · rw [if_neg c]
    have hlt : kR (Lm 102 17) < 17 := by omega
    have he := kR_eq hlt
    have hall : ∀ i, i < 17 → fX14_isWord 5000 Mm Lm (1000130 + i) = some 1 ∨ fX14_isWord 5000 Mm Lm (1000130 + i) = some 0 := fun i hi => by
      rw [mW hi h9]
      by_cases c2 : Lm 102 17 = kw i
      · rw [if_pos c2]; exact Or.inl rfl
      · rw [if_neg c2]; exact Or.inr rfl
    have hone : fX14_isWord 5000 Mm Lm (1000130 + kR (Lm 102 17)) = some 1 := by rw [mW hlt h9, if_pos he]
    generalize kR (Lm 102 17) = r at hlt hone
    have h0 := hall 0 (by decide)
    have h1 := hall 1 (by decide)
    have h2 := hall 2 (by decide)
    have h3 := hall 3 (by decide)
    have h4 := hall 4 (by decide)
    have h5 := hall 5 (by decide)
    have h6 := hall 6 (by decide)
    have h7 := hall 7 (by decide)
    have h8 := hall 8 (by decide)
    have h9' := hall 9 (by decide)
    have h10 := hall 10 (by decide)
    have h11 := hall 11 (by decide)
    have h12 := hall 12 (by decide)
    have h13 := hall 13 (by decide)
    have h14 := hall 14 (by decide)
    have h15 := hall 15 (by decide)
    have h16 := hall 16 (by decide)
    clear w0 w1 w2 w3 w4 w5 w6 w7 w8 w9 w10 w11 w12 w13 w14 w15 w16 hall
    rcases h0 with h0 | h0
    · rw [h0]; rfl
    rw [h0, gBd, if_pos rfl]
    rcases h1 with h1 | h1
    · rw [h1]; rfl
    rw [h1, gBd, if_pos rfl]
    rcases h2 with h2 | h2
    · rw [h2]; rfl
    rw [h2, gBd, if_pos rfl]
    rcases h3 with h3 | h3
    · rw [h3]; rfl
    rw [h3, gBd, if_pos rfl]
    rcases h4 with h4 | h4
    · rw [h4]; rfl
    rw [h4, gBd, if_pos rfl]
    rcases h5 with h5 | h5
    · rw [h5]; rfl
    rw [h5, gBd, if_pos rfl]
    rcases h6 with h6 | h6
    · rw [h6]; rfl
    rw [h6, gBd, if_pos rfl]
    rcases h7 with h7 | h7
    · rw [h7]; rfl
    rw [h7, gBd, if_pos rfl]
    rcases h8 with h8 | h8
    · rw [h8]; rfl
    rw [h8, gBd, if_pos rfl]
    rcases h9' with h9' | h9'
    · rw [h9']; rfl
    rw [h9', gBd, if_pos rfl]
    rcases h10 with h10 | h10
    · rw [h10]; rfl
    rw [h10, gBd, if_pos rfl]
    rcases h11 with h11 | h11
    · rw [h11]; rfl
    rw [h11, gBd, if_pos rfl]
    rcases h12 with h12 | h12
    · rw [h12]; rfl
    rw [h12, gBd, if_pos rfl]
    rcases h13 with h13 | h13
    · rw [h13]; rfl
    rw [h13, gBd, if_pos rfl]
    rcases h14 with h14 | h14
    · rw [h14]; rfl
    rw [h14, gBd, if_pos rfl]
    rcases h15 with h15 | h15
    · rw [h15]; rfl
    rw [h15, gBd, if_pos rfl]
    rcases h16 with h16 | h16
    · rw [h16]; rfl
    exfalso
    have hr : r = 0 ∨ r = 1 ∨ r = 2 ∨ r = 3 ∨ r = 4 ∨ r = 5 ∨ r = 6 ∨ r = 7 ∨ r = 8 ∨ r = 9 ∨ r = 10 ∨ r = 11 ∨ r = 12 ∨ r = 13 ∨ r = 14 ∨ r = 15 ∨ r = 16 := by omega
    rcases hr with e | e | e | e | e | e | e | e | e | e | e | e | e | e | e | e | e
    · rw [e] at hone; exact absurd (hone.symm.trans h0) (by decide)
    · rw [e] at hone; exact absurd (hone.symm.trans h1) (by decide)
    · rw [e] at hone; exact absurd (hone.symm.trans h2) (by decide)
    · rw [e] at hone; exact absurd (hone.symm.trans h3) (by decide)
    · rw [e] at hone; exact absurd (hone.symm.trans h4) (by decide)
    · rw [e] at hone; exact absurd (hone.symm.trans h5) (by decide)
    · rw [e] at hone; exact absurd (hone.symm.trans h6) (by decide)
    · rw [e] at hone; exact absurd (hone.symm.trans h7) (by decide)
    · rw [e] at hone; exact absurd (hone.symm.trans h8) (by decide)
    · rw [e] at hone; exact absurd (hone.symm.trans h9') (by decide)
    · rw [e] at hone; exact absurd (hone.symm.trans h10) (by decide)
    · rw [e] at hone; exact absurd (hone.symm.trans h11) (by decide)
    · rw [e] at hone; exact absurd (hone.symm.trans h12) (by decide)
    · rw [e] at hone; exact absurd (hone.symm.trans h13) (by decide)
    · rw [e] at hone; exact absurd (hone.symm.trans h14) (by decide)
    · rw [e] at hone; exact absurd (hone.symm.trans h15) (by decide)
    · rw [e] at hone; exact absurd (hone.symm.trans h16) (by decide)
theorem mIsName0 (h9 : ¬ Mm 102 9 = 2) : fX14_isName 5000 Mm Lm = some 0 := by
  unfold fX14_isName
  rw [if_neg h9]
/-! over: nothing changes -/
theorem ov_on (h : Mm 102 9 = 5) : fX14_goesOn 5000 Mm Lm = some (Mm, Lm) := by unfold fX14_goesOn; rw [if_pos h]
theorem ov_fl {f : Int32} (h : Mm 102 9 = 5) : fX14_flaw Mm f = some Mm := by unfold fX14_flaw; rw [if_pos h]
theorem ov_n {x : Int32} (hx : ¬ (5 : Int32) = x) (h : Mm 102 9 = 5) : ¬ Mm 102 9 = x := by rw [h]; exact hx
theorem ov_wants {a : Nat} (h : Mm 102 9 = 5) : fX14_wants 5000 Mm Lm a = some (Mm, Lm) := by
  unfold fX14_wants
  rw [mIsWord0 (ov_n (by decide) h), gBd, if_pos rfl, ov_fl h, gBd, gBd, ov_on h, gB2]
theorem ov_needs {x : Int32} (h : Mm 102 9 = 5) : fX14_needsSign 5000 Mm Lm x = some (Mm, Lm) := by
  unfold fX14_needsSign
  rw [if_neg (ov_n (by decide) h), ov_fl h, gBd, gBd, ov_on h, gB2]
theorem ov_whole {x y : Int32} (h : Mm 102 9 = 5) : fX14_readWhole 5000 Mm Lm x y = some (x, Mm, Lm) := by
  unfold fX14_readWhole
  rw [if_neg (ov_n (by decide) h), ov_fl h, gBd, gBd, if_pos h, gNm, ov_on h, gB2]
theorem ov_part {a : Nat} {x y : Int32} (h : Mm 102 9 = 5) : fX14_readPart 5000 Mm Lm a x y = some (x, Mm, Lm) := by
  unfold fX14_readPart
  rw [ov_wants h, gB2, ov_whole h, gB3]
theorem ov_eats {x : Int32} (h : Mm 102 9 = 5) : fX14_eatsSign 5000 Mm Lm x = some (0, Mm, Lm) := by
  unfold fX14_eatsSign
  rw [if_neg (ov_n (by decide) h), gNm, if_pos rfl, gB2]
  rfl
/-- a fault -/
def cF (Mc : goMI) (f : Int32) (st : Nat) : goMI := goWI (goWI Mc 67 10 f) 67 11 (nI st)
def mF (Mm : goMI) (f : Int32) (st : Nat) : goMI := goWI (goWI (goWI Mm 102 14 f) 102 15 (nI st)) 102 9 5
theorem mF_9 {f : Int32} : mF Mm f st 102 9 = 5 := by unfold mF; rw [gWI_self, if_pos rfl]
theorem cFail {f : Int32} (h : Mc 1 5 = nI st) : fX9_fail Mc f = some (0, cF Mc f st) := by
  unfold fX9_fail cF
  rw [gNm, gNm, gWI_na (by decide), h]
theorem mFlaw {f : Int32} (h : Mm 102 10 = nI st) (h9 : ¬ Mm 102 9 = 5) : fX14_flaw Mm f = some (mF Mm f st) := by
  unfold fX14_flaw mF
  rw [if_neg h9, gNm, gNm, gNm, gWI_nk (by decide), h]
theorem rT_9 (h : rT e st Mc Lc Mm Lm) : ¬ Mm 102 9 = 5 := by
  obtain ⟨_, _, _, _, h | h | ⟨q, _, _, _, _, h | h | h | h⟩⟩ := h
  · rw [h.2]; decide
  · rw [h.2]; decide
  · rw [h.2.1]; decide
  · rw [h.2.1]; decide
  · rw [h.2.1]; decide
  · rw [h.2.1]; decide
theorem rT_w (h : rT e st Mc Lc Mm Lm) : (Mc 1 4 = 1 ↔ Mm 102 9 = 2) ∧ (Mc 1 4 = 1 → Lc 1 7 = Lm 102 17 ∧ ∃ q, st < q ∧ q ≤ e ∧ Mc 1 3 = nI q ∧ Mm 102 8 = nI q ∧ ∃ l, 1 ≤ l ∧ l ≤ 8 ∧ q = st + l ∧ Mc 1 6 = nI l ∧ Mm 102 13 = nI l ∧ ∀ j, j < l → Mm 104 j = Mc 2 (st + j) ∧ ∃ k, 97 ≤ k ∧ k ≤ 122 ∧ Mc 2 (st + j) = nI k) := by
  obtain ⟨_, _, _, _, h | h | ⟨q, q1, q2, q3, q4, h | h | h | h⟩⟩ := h
  · rw [h.1, h.2]; exact ⟨by decide, fun h => absurd h (by decide)⟩
  · rw [h.1, h.2]; exact ⟨by decide, fun h => absurd h (by decide)⟩
  · refine ⟨⟨fun _ => h.2.1, fun _ => h.1⟩, fun _ => ⟨h.2.2.1, q, q1, q2, q3, q4, h.2.2.2⟩⟩
  · rw [h.1, h.2.1]; exact ⟨by decide, fun h => absurd h (by decide)⟩
  · rw [h.1, h.2.1]; exact ⟨by decide, fun h => absurd h (by decide)⟩
  · rw [h.1, h.2.1]; exact ⟨by decide, fun h => absurd h (by decide)⟩
theorem rT_n (h : rT e st Mc Lc Mm Lm) : (Mc 1 4 = 2 ↔ Mm 102 9 = 3) ∧ (Mc 1 4 = 2 → ∃ v, v < 1000 ∧ Mc 1 8 = nI v ∧ Mm 102 12 = nI v ∧ ∃ q, st < q ∧ q ≤ e ∧ Mc 1 3 = nI q ∧ Mm 102 8 = nI q) := by
  obtain ⟨_, _, _, _, h | h | ⟨q, q1, q2, q3, q4, h | h | h | h⟩⟩ := h
  · rw [h.1, h.2]; exact ⟨by decide, fun h => absurd h (by decide)⟩
  · rw [h.1, h.2]; exact ⟨by decide, fun h => absurd h (by decide)⟩
  · rw [h.1, h.2.1]; exact ⟨by decide, fun h => absurd h (by decide)⟩
  · obtain ⟨a1, a2, v, v1, v2, v3⟩ := h
    exact ⟨⟨fun _ => a2, fun _ => a1⟩, fun _ => ⟨v, v1, v2, v3, q, q1, q2, q3, q4⟩⟩
  · rw [h.1, h.2.1]; exact ⟨by decide, fun h => absurd h (by decide)⟩
  · rw [h.1, h.2.1]; exact ⟨by decide, fun h => absurd h (by decide)⟩
theorem rT_s (h : rT e st Mc Lc Mm Lm) : (Mc 1 4 = 4 ↔ (Mm 102 9 = 4 ∧ Mm 102 11 = 44)) ∧ (Mc 1 4 = 3 ↔ (Mm 102 9 = 4 ∧ Mm 102 11 = 59)) ∧ (Mc 1 4 = 0 ↔ Mm 102 9 = 1) ∧ (Mc 1 4 = 4 ∨ Mc 1 4 = 3 → ∃ q, st < q ∧ q ≤ e ∧ Mc 1 3 = nI q ∧ Mm 102 8 = nI q) := by
  obtain ⟨_, _, _, _, h | h | ⟨q, q1, q2, q3, q4, h | h | h | h⟩⟩ := h
  · rw [h.1, h.2]; exact ⟨⟨fun h => absurd h (by decide), fun h => absurd h.1 (by decide)⟩, ⟨fun h => absurd h (by decide), fun h => absurd h.1 (by decide)⟩, by decide, fun h => absurd h (by decide)⟩
  · rw [h.1, h.2]; exact ⟨⟨fun h => absurd h (by decide), fun h => absurd h.1 (by decide)⟩, ⟨fun h => absurd h (by decide), fun h => absurd h.1 (by decide)⟩, by decide, fun h => absurd h (by decide)⟩
  · rw [h.1, h.2.1]; exact ⟨⟨fun h => absurd h (by decide), fun h => absurd h.1 (by decide)⟩, ⟨fun h => absurd h (by decide), fun h => absurd h.1 (by decide)⟩, by decide, fun h => absurd h (by decide)⟩
  · rw [h.1, h.2.1]; exact ⟨⟨fun h => absurd h (by decide), fun h => absurd h.1 (by decide)⟩, ⟨fun h => absurd h (by decide), fun h => absurd h.1 (by decide)⟩, by decide, fun h => absurd h (by decide)⟩
  · rw [h.1, h.2.1, h.2.2]; exact ⟨⟨fun h => absurd h (by decide), fun h => absurd h.2 (by decide)⟩, ⟨fun _ => ⟨rfl, rfl⟩, fun _ => rfl⟩, by decide, fun _ => ⟨q, q1, q2, q3, q4⟩⟩
  · rw [h.1, h.2.1, h.2.2]; exact ⟨⟨fun _ => ⟨rfl, rfl⟩, fun _ => rfl⟩, ⟨fun h => absurd h (by decide), fun h => absurd h.2 (by decide)⟩, by decide, fun _ => ⟨q, q1, q2, q3, q4⟩⟩
/-- the next token, other cells of the component having changed -/
theorem rNext {Mc2 Mm2 : goMI} {Lc2 Lm2 : goML} {q : Nat} (h : rT e st Mc Lc Mm Lm) (hq : st < q) (hqe : q ≤ e) (h3 : Mc 1 3 = nI q) (h8 : Mm 102 8 = nI q) (c1 : Mc2 1 = Mc 1) (c2 : Mc2 2 = Mc 2) (m1 : Mm2 102 = Mm 102) (m2 : Mm2 103 = Mm 103) : ∃ st' Mc' Lc' Mm' Lm', st < st' ∧ fX11_advance 5000 Mc2 Lc2 = some (Mc', Lc') ∧ fX14_goesOn 5000 Mm2 Lm2 = some (Mm', Lm') ∧ rT e st' Mc' Lc' Mm' Lm' ∧ rFr Mc2 Lc2 Mm2 Lm2 Mc' Lc' Mm' Lm' := by
  obtain ⟨st', Mc', Lc', Mm', Lm', a1, a2, a3, a4, a5⟩ := rAdv (e := e) (Mc := Mc2) (Mm := Mm2) (Lc := Lc2) (Lm := Lm2) (rB_fr h.1 (by rw [c1]) c2 (by rw [m1]) m2) hqe (by rw [c1]; exact h3) (by rw [m1]; exact h8) (by rw [m1]; exact rT_9 h)
  exact ⟨st', Mc', Lc', Mm', Lm', by omega, a2, a3, a4, a5⟩
end words
