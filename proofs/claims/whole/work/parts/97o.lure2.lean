/-! LURE in the component -/
section lure2
variable {M M' M0 : goMI} {R : goMR} {T : tH} {t hg c w hr g p : Nat} {A L S : Nat → Nat}
def luC (M0 M : goMI) (t : Nat) (T : tH) (hg c w hr g p : Nat) (L S : Nat → Nat) : Prop := cB M 92 t T (dOp T hg) (dFr T c) L S ∧ (∀ i, i < 24 → L i < 256) ∧ (∀ b, b < 88 ∨ 101 < b → M b = M0 b) ∧ M 88 4 = nI g ∧ M 88 5 = nI p ∧ M 88 6 = nI hr ∧ M 88 7 = nI w
def luK (R : goMR) (t : Nat) (T : tH) (w hr g p : Nat) : Prop := tOk T ∧ goRr R 92 1 = t ∧ (t = 7 ∨ t = 37) ∧ hr < T 0 0 ∧ g < T 0 5 ∧ p < T 0 2 ∧ (w = 0 ∨ w = 12)
theorem luC_fr (ht : t = 7 ∨ t = 37) (hC : luC M0 M t T hg c w hr g p L S) (h : ∀ b, b < 88 ∨ 91 < b → M' b = M b) (h88 : ∀ j, j < 8 → M' 88 j = M 88 j) : luC M0 M' t T hg c w hr g p L S := by
  obtain ⟨⟨b1, b2, b3, b4, b5, b6, b7⟩, c2, c3, c4, c5, c6, c7⟩ := hC
  refine ⟨⟨tC_fr b1 (fun r hr => h _ (by omega)), ?_, ?_, ?_, ?_, b6, ?_⟩, c2, fun b hb => ?_, ?_, ?_, ?_, ?_⟩
  · rw [h _ (by decide)]; exact b2
  · rw [h _ (by decide)]; exact b3
  · rw [h _ (by decide)]; exact b4
  · rw [h _ (by decide)]; exact b5
  · rw [h _ (by decide)]; exact b7
  · rw [h _ (by omega)]; exact c3 b hb
  · rw [h88 _ (by decide)]; exact c4
  · rw [h88 _ (by decide)]; exact c5
  · rw [h88 _ (by decide)]; exact c6
  · rw [h88 _ (by decide)]; exact c7
theorem luPlay (hk : luK R t T w hr g p) (hC : luC M0 M t T hg c w hr g p L S) {f to : Nat} (hf : f ≤ to + 1) (hto : to < 12) : ∃ M', fX3_play 5000 M R 92 (nI f) (nI to) = some M' ∧ luC M0 M' t T hg c w hr g p L (cR T (dOp T hg) (dFr T c) L f S (to + 1 - f)) ∧ ∀ b, b ≤ 92 ∨ 101 < b → M' b = M b := by
  obtain ⟨k1, k2, k3, k4, k5, k6, k7⟩ := hk
  obtain ⟨hB, c2, c3, c4, c5, c6, c7⟩ := hC
  obtain ⟨M1, e1, e2, e3⟩ := cPlay (M := M) (N := 5000) (f := f) (to := to) k1 k2 (by omega) (by decide) ⟨c2, fun p _ => dOp_b _ _, dFr_b k1 c⟩ hf hto
    (fun _ _ M' => ∀ b, b ≤ 92 ∨ 101 < b → M' b = M b)
    (fun h g Ma Mb _ _ _ _ hj hZ b hb => by rw [hZ.1 b (by omega)]; exact hj b hb) (fun _ _ _ _ hj => hj) hB (fun _ _ => rfl)
  refine ⟨M1, e1, ⟨e2, c2, fun b hb => ?_, ?_, ?_, ?_, ?_⟩, e3⟩
  · rw [e3 b (by omega)]; exact c3 b hb
  · rw [e3 88 (by decide)]; exact c4
  · rw [e3 88 (by decide)]; exact c5
  · rw [e3 88 (by decide)]; exact c6
  · rw [e3 88 (by decide)]; exact c7
theorem luSave (ht : t = 7 ∨ t = 37) (hC : luC M0 M t T hg c w hr g p L S) {a j : Nat} (ha : a = 89 ∨ a = 90) (hj : j ≤ 12) : ∃ M', fX8_save M a 182 (nI j) = some M' ∧ luC M0 M' t T hg c w hr g p L S ∧ (∀ i, i < 14 → M' a (14 * j + i) = nI (S i)) ∧ (∀ k, k < 14 * j ∨ 14 * j + 14 ≤ k → M' a k = M a k) ∧ ∀ b, b ≠ a → M' b = M b := by
  have cp := gCp (M := M) (s := 93) (ns := 14) (sp := 0) (d := a) (nd := 182) (dp := 14 * j) (n := 14) (by decide) (by omega)
  have cp' : goCp M 93 14 0 a 182 (nI (14 * j)) 14 = _ := cp
  refine ⟨fun b => if b = a then va_cpy (M 93) (M a) 0 (14 * j) 14 else M b, ?_, luC_fr ht hC (fun b hb => if_neg (by omega)) (fun j _ => by show (if 88 = a then _ else M 88) j = _; rw [if_neg (by omega)]), fun i hi => ?_, fun k hk => ?_, fun b hb => if_neg hb⟩
  · unfold fX8_save
    rw [show nI j * 14 = nI (14 * j) from gM_14 j, cp', gBd]
  · show (if a = a then va_cpy (M 93) (M a) 0 (14 * j) 14 else M a) _ = _
    rw [if_pos rfl, pk_cpy_in (by omega) (by omega), show 0 + (14 * j + i - 14 * j) = i by omega]
    exact hC.1.2.2.2.2.1 i hi
  · show (if a = a then va_cpy (M 93) (M a) 0 (14 * j) 14 else M a) _ = _
    rw [if_pos rfl, pk_cpy_out (by omega)]
theorem luLoad (ht : t = 7 ∨ t = 37) (hC : luC M0 M t T hg c w hr g p L S) {a j : Nat} {X : Nat → Nat} (hj : j ≤ 12) (hX : dSok T X) (hr' : ∀ i, i < 14 → M a (14 * j + i) = nI (X i)) : ∃ M', fX8_load M a 182 (nI j) = some M' ∧ luC M0 M' t T hg c w hr g p L X ∧ ∀ b, b ≠ 93 → M' b = M b := by
  have cp := gCp (M := M) (s := a) (ns := 182) (sp := 14 * j) (d := 93) (nd := 14) (dp := 0) (n := 14) (by omega) (by decide)
  have cp' : goCp M a 182 (nI (14 * j)) 93 14 0 14 = _ := cp
  obtain ⟨⟨b1, b2, b3, b4, b5, b6, b7⟩, c2, c3, c4, c5, c6, c7⟩ := hC
  have fr : ∀ b, b ≠ 93 → (fun b => if b = 93 then va_cpy (M a) (M 93) (14 * j) 0 14 else M b : goMI) b = M b := fun b hb => if_neg hb
  refine ⟨fun b => if b = 93 then va_cpy (M a) (M 93) (14 * j) 0 14 else M b, ?_, ⟨⟨tC_fr b1 (fun r hr => fr _ (by omega)), ?_, ?_, ?_, fun i hi => ?_, hX, ?_⟩, c2, fun b hb => ?_, ?_, ?_, ?_, ?_⟩, fr⟩
  · unfold fX8_load
    rw [show nI j * 14 = nI (14 * j) from gM_14 j, cp', gBd]
  · rw [fr _ (by decide)]; exact b2
  · rw [fr _ (by decide)]; exact b3
  · rw [fr _ (by decide)]; exact b4
  · show (if 93 = 93 then va_cpy (M a) (M 93) (14 * j) 0 14 else M 93) i = _
    rw [if_pos rfl, pk_cpy_in (by omega) (by omega), Nat.sub_zero]
    exact hr' i hi
  · rw [fr _ (by decide)]; exact b7
  · rw [fr _ (by omega)]; exact c3 b hb
  · rw [fr _ (by decide)]; exact c4
  · rw [fr _ (by decide)]; exact c5
  · rw [fr _ (by decide)]; exact c6
  · rw [fr _ (by decide)]; exact c7
theorem luSd {s : Nat} (hs : s < 2 ^ 31) : nI s / 12 = nI (s / 12) := by
  rw [gL_12, pk_div hs (by decide) (by decide)]
theorem luSm {s : Nat} (hs : s < 2 ^ 31) : nI s - nI s / 12 * 12 = nI (s % 12) := by
  rw [luSd hs, gL_12, gM_12, pk_sub (by omega), gMod]
theorem luTurn (hw : w = 0 ∨ w = 12) (ht : t = 7 ∨ t = 37) (hC : luC M0 M t T hg c w hr g p L S) {s : Nat} (hs : s < 96) : ∃ M', fX8_turn M (nI s) = some M' ∧ luC M0 M' t T hg c w hr g p (luF L w s) S ∧ ∀ b, b ≠ 94 → M' b = M b := by
  obtain ⟨⟨b1, b2, b3, b4, b5, b6, b7⟩, c2, c3, c4, c5, c6, c7⟩ := hC
  have hm := Nat.mod_lt s (show 0 < 12 by decide)
  have fr : ∀ b, b ≠ 94 → goWI M 94 (w + s % 12) (nI (L (w + s % 12) ^^^ 2 ^ (s / 12))) b = M b := fun b hb => goWI_ne hb
  refine ⟨goWI M 94 (w + s % 12) (nI (L (w + s % 12) ^^^ 2 ^ (s / 12))), ?_, ⟨⟨tC_fr b1 (fun r hr => fr _ (by omega)), fun i hi => ?_, ?_, ?_, ?_, b6, ?_⟩, luF_b hw hs c2, fun b hb => ?_, ?_, ?_, ?_, ?_⟩, fr⟩
  · unfold fX8_turn
    rw [luSm (by omega), luSd (by omega), c7, nI_add, gRd (by omega), gBd, show M 94 (w + s % 12) = nI (L (w + s % 12)) from b2 _ (by omega), gI_shl1 (by omega), gI_xor, gWr (by omega), gBd]
  · show goWI M 94 _ _ 94 i = _
    rw [gWI_self]
    unfold luF aF
    by_cases e : i = w + s % 12
    · rw [if_pos e, if_pos e, e]
    · rw [if_neg e, if_neg e]; exact b2 i hi
  · rw [fr _ (by decide)]; exact b3
  · rw [fr _ (by decide)]; exact b4
  · rw [fr _ (by decide)]; exact b5
  · rw [fr _ (by decide)]; exact b7
  · rw [fr _ (by omega)]; exact c3 b hb
  · rw [fr _ (by decide)]; exact c4
  · rw [fr _ (by decide)]; exact c5
  · rw [fr _ (by decide)]; exact c6
  · rw [fr _ (by decide)]; exact c7
theorem luThere (hk : luK R t T w hr g p) (hC : luC M0 M t T hg c w hr g p L S) : fX8_isThere M = some (nI (decide (S (8 + g) = p)).toNat) := by
  obtain ⟨k1, k2, k3, k4, k5, k6, k7⟩ := hk
  obtain ⟨⟨b1, b2, b3, b4, b5, b6, b7⟩, c2, c3, c4, c5, c6, c7⟩ := hC
  have hz := tO_sz k1
  have h8 := b6.2.2 g k5
  unfold fX8_isThere
  rw [c4, gL_8, nI_add, gRd (by omega), gBd, show M 93 (8 + g) = nI (S (8 + g)) from b5 _ (by omega), c5]
  by_cases e : S (8 + g) = p
  · rw [if_pos (by rw [e]), decide_eq_true e]; rfl
  · rw [if_neg (fun h => e ((nI_eq (by omega) (by omega)).mp h)), decide_eq_false e]; rfl
theorem luFree (hk : luK R t T w hr g p) (hC : luC M0 M t T hg c w hr g p L S) {s : Nat} (hs : s < 96) : fX8_isFree M (nI s) = some (nI (decide (s % 12 ≤ hr) && !(L (w + s % 12)).testBit (s / 12)).toNat) := by
  obtain ⟨k1, k2, k3, k4, k5, k6, k7⟩ := hk
  obtain ⟨⟨b1, b2, b3, b4, b5, b6, b7⟩, c2, c3, c4, c5, c6, c7⟩ := hC
  have hz := tO_sz k1
  have hm := Nat.mod_lt s (show 0 < 12 by decide)
  have hl := c2 (w + s % 12) (by omega)
  unfold fX8_isFree
  rw [luSm (by omega), luSd (by omega), c6, c7, nI_add]
  by_cases e : s % 12 ≤ hr
  · rw [if_pos (nI_le e (by omega)), gRd (by omega), gBd, show M 94 (w + s % 12) = nI (L (w + s % 12)) from b2 _ (by omega), gI_bit (by omega) (by omega), decide_eq_true e, Bool.true_and]
    cases (L (w + s % 12)).testBit (s / 12) <;> rfl
  · rw [if_neg (fun h => e ((nI_leI (by omega) (by omega)).mp h)), decide_eq_false e, Bool.false_and]; rfl
theorem luIsAs (hC : luC M0 M t T hg c w hr g p L S) {a j : Nat} {Y : Nat → Nat} (hj : j ≤ 12) (hY : ∀ i, i < 14 → Y i < 4294967296) (hr' : ∀ i, i < 14 → M a (14 * j + i) = nI (Y i)) : ∃ b : Bool, fX8_isAs 5000 M a 182 (nI j) = some (nI b.toNat) ∧ (b = true → ∀ i, i < 14 → S i = Y i) := by
  obtain ⟨⟨b1, b2, b3, b4, b5, b6, b7⟩, c2, c3, c4, c5, c6, c7⟩ := hC
  have key := gLoop (fun n (i : Nat) => lX8_isAs_2 (nI j) M a 182 n (nI i)) (fun k i => k + i = 14 ∧ ∀ m, m < i → S m = Y m) (fun r => ∃ b : Bool, r = nI b.toNat ∧ (b = true → ∀ i, i < 14 → S i = Y i)) ?_ 5000 14 0 ⟨rfl, fun m hm => absurd hm (Nat.not_lt_zero _)⟩ (by decide)
  · obtain ⟨r, h1, b, h2, h3⟩ := key
    refine ⟨b, ?_, h3⟩
    rw [← h2]
    exact h1
  · intro n k i hP
    obtain ⟨h1, h2⟩ := hP
    by_cases hi : i < 14
    · have e1 : M 93 i = nI (S i) := b5 i hi
      by_cases e : S i = Y i
      · refine Or.inr ⟨i + 1, k - 1, by omega, ?_, by omega, fun m hm => ?_⟩
        · show lX8_isAs_2 _ _ _ _ _ _ = lX8_isAs_2 _ _ _ _ _ _
          rw [lX8_isAs_2, gL_14, if_pos (nI_lt hi (by decide)), gRd hi, gBd, gM_14, nI_add, gRd (by omega), gBd, e1, hr' i hi, e, if_pos rfl, nI_1]
        · by_cases em : m = i
          · rw [em]; exact e
          · exact h2 m (by omega)
      · refine Or.inl ⟨nI 0, ?_, false, rfl, fun h => by cases h⟩
        show lX8_isAs_2 _ _ _ _ _ _ = _
        rw [lX8_isAs_2, gL_14, if_pos (nI_lt hi (by decide)), gRd hi, gBd, gM_14, nI_add, gRd (by omega), gBd, e1, hr' i hi, if_neg (fun h => e (nI_inj (b6.2.1 i hi) (hY i hi) h))]
        rfl
    · have e : i = 14 := by omega
      refine Or.inl ⟨nI 1, ?_, true, rfl, fun _ m hm => h2 m (by omega)⟩
      show lX8_isAs_2 _ _ _ _ _ _ = _
      rw [e, lX8_isAs_2, gL_14, if_neg (nI_nlt (Nat.le_refl _) (by decide))]
      rfl
/-- rows kept -/
def luP (M : goMI) (a : Nat) (T : tH) (hg c : Nat) (L : Nat → Nat) (lo hi : Nat) : Prop := ∀ j, lo ≤ j → j ≤ hi → ∀ i, i < 14 → M a (14 * j + i) = nI (luS T hg c L j i)
theorem luChanges (hk : luK R t T w hr g p) (hC : luC M0 M t T hg c w hr g p L S) {a s lo hi : Nat} (ha : a = 89 ∨ a = 90) (hs : s < 96) (hsr : s % 12 ≤ hr) (hP : luP M a T hg c L lo hi) (h1 : lo ≤ s % 12) (h2 : s % 12 + 1 ≤ hi) : ∃ (x : Bool) (M' : goMI) (S' : Nat → Nat), fX8_changes 5000 M R (nI s) a 182 = some (nI x.toNat, M') ∧ luC M0 M' t T hg c w hr g p L S' ∧ (∀ b, b ≤ 92 ∨ 101 < b → M' b = M b) ∧ (x = false → luS T hg c (luF L w s) (s % 12 + 1) = luS T hg c L (s % 12 + 1)) ∧ (x = true → S' = luS T hg c (luF L w s) (hr + 1)) := by
  have hk' := hk
  obtain ⟨k1, k2, k3, k4, k5, k6, k7⟩ := hk'
  have hz := tO_sz k1
  have hm := Nat.mod_lt s (show 0 < 12 by decide)
  obtain ⟨M1, e1, f1, g1⟩ := luTurn k7 k3 hC hs
  obtain ⟨M2, e2, f2, g2⟩ := luLoad k3 f1 (a := a) (j := s % 12) (X := luS T hg c L (s % 12)) (by omega) (luS_ok k1 _) (fun i hi => by rw [g1 a (by omega)]; exact hP _ h1 (by omega) i hi)
  obtain ⟨M3, e3, f3, g3⟩ := luPlay hk f2 (f := s % 12) (to := s % 12) (by omega) (by omega)
  rw [show s % 12 + 1 - s % 12 = 1 by omega, luS_one k7 rfl] at f3
  obtain ⟨b, e4, f4⟩ := luIsAs f3 (a := a) (j := s % 12 + 1) (Y := luS T hg c L (s % 12 + 1)) (by omega) (luS_ok k1 _).2.1 (fun i hi => by rw [g3 a (by omega), g2 a (by omega), g1 a (by omega)]; exact hP _ (by omega) h2 i hi)
  unfold fX8_changes
  rw [gNm, luSm (by omega), e1, gBd, e2, gBd, e3, gBd, nI_1, e4, gBd]
  cases b with
  | true =>
    obtain ⟨M5, e5, f5, g5⟩ := luTurn k7 k3 f3 hs
    rw [luF_uF] at f5
    refine ⟨false, M5, _, ?_, f5, fun b hb => by rw [g5 b (by omega), g3 b (by omega), g2 b (by omega), g1 b (by omega)], fun _ => luS_ext k1 (f4 rfl), fun h => by cases h⟩
    rw [show (if nI true.toNat = 0 then (1 : Int32) else 0) = 0 from rfl, gNm, if_pos rfl, gBd, e5, gBd]
    rfl
  | false =>
    obtain ⟨M4, e5, f5, g5⟩ := luPlay hk f3 (f := s % 12 + 1) (to := hr) (by omega) (by omega)
    obtain ⟨M5, e6, f6, g6⟩ := luTurn k7 k3 f5 hs
    rw [luF_uF] at f6
    refine ⟨true, M5, _, ?_, f6, fun b hb => by rw [g6 b (by omega), g5 b (by omega), g3 b (by omega), g2 b (by omega), g1 b (by omega)], fun h => (by cases h), fun _ => ?_⟩
    · rw [show (if nI false.toNat = 0 then (1 : Int32) else 0) = 1 from rfl, gNm, if_neg (by decide), f3.2.2.2.2.2.1, e5, gBd, gBd, e6, gBd]
      rfl
    · obtain ⟨d, hd⟩ : ∃ d, hr = s % 12 + d := ⟨hr - s % 12, by omega⟩
      have : hr + 1 = s % 12 + 1 + d := by omega
      rw [this, luS_add (m := s % 12 + 1) (d := d), show s % 12 + 1 + d - (s % 12 + 1) = d by omega]
theorem luSaving (hk : luK R t T w hr g p) {a f to : Nat} (ha : a = 89 ∨ a = 90) (hf : f ≤ to + 1) (hto : to < 12) (hC : luC M0 M t T hg c w hr g p L (luS T hg c L f)) (hP : luP M a T hg c L f f) : ∃ M', fX8_playSaving 5000 M R a 182 (nI f) (nI to) = some M' ∧ luC M0 M' t T hg c w hr g p L (luS T hg c L (to + 1)) ∧ luP M' a T hg c L f (to + 1) ∧ ∀ b, (b ≤ 92 ∨ 101 < b) → b ≠ a → M' b = M b := by
  have hk' := hk
  obtain ⟨k1, k2, k3, k4, k5, k6, k7⟩ := hk'
  have key : ∃ M', lX8_playSaving_3 5000 (nI to) R a 182 5000 (nI f) M = some M' ∧ luC M0 M' t T hg c w hr g p L (luS T hg c L (to + 1)) ∧ luP M' a T hg c L f (to + 1) ∧ ∀ b, (b ≤ 92 ∨ 101 < b) → b ≠ a → M' b = M b := by
    refine gFor (fun n i M' => lX8_playSaving_3 5000 (nI to) R a 182 n (nI i) M') (fun i M' => f ≤ i ∧ luC M0 M' t T hg c w hr g p L (luS T hg c L i) ∧ luP M' a T hg c L f i ∧ ∀ b, (b ≤ 92 ∨ 101 < b) → b ≠ a → M' b = M b) _ (to + 1) ?_ ?_ 5000 f M hf ⟨Nat.le_refl _, hC, hP, fun _ _ _ => rfl⟩ (by omega)
    · intro n i M1 hi hP1
      obtain ⟨p0, p1, p2, p3⟩ := hP1
      obtain ⟨M2, e2, f2, g2⟩ := luPlay hk p1 (f := i) (to := i) (by omega) (by omega)
      have f2' : luC M0 M2 t T hg c w hr g p L (luS T hg c L (i + 1)) := by
        rw [luS_add]
        rw [show i + 1 - i = 1 by omega] at f2
        exact f2
      obtain ⟨M3, e3, f3, g3, g3', g3''⟩ := luSave k3 f2' ha (j := i + 1) (by omega)
      refine ⟨M3, ?_, by omega, f3, fun j h1 h2 i' hi' => ?_, fun b hb hba => by rw [g3'' b hba, g2 b hb]; exact p3 b hb hba⟩
      · show lX8_playSaving_3 _ _ _ _ _ _ _ _ = lX8_playSaving_3 _ _ _ _ _ _ _ _
        rw [lX8_playSaving_3, if_pos (nI_le (by omega) (by omega)), e2, gBd, nI_1, e3, gBd]
      · by_cases ej : j = i + 1
        · rw [ej]; exact g3 i' hi'
        · rw [g3' _ (by omega), g2 a (by omega)]
          exact p2 j h1 (by omega) i' hi'
    · intro n M1 hP1
      refine ⟨M1, ?_, hP1.2⟩
      show lX8_playSaving_3 _ _ _ _ _ _ _ _ = _
      rw [lX8_playSaving_3, if_neg (fun h => by have := (nI_leI (by omega) (by omega)).mp h; omega)]
  obtain ⟨M', h1, h2⟩ := key
  refine ⟨M', ?_, h2⟩
  unfold fX8_playSaving
  rw [h1, gBd]
end lure2
