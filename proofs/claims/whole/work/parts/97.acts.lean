/-! ACTS: one bit is turned -/
theorem cG_congr {T : tH} {op fe L L' S : Nat → Nat} {h : Nat} (h1 : L h = L' h) (h2 : L (12 + h) = L' (12 + h)) : ∀ g, cG T op fe L h S g = cG T op fe L' h S g
  | 0 => rfl
  | g + 1 => by
    unfold cG
    rw [cG_congr h1 h2 g, h1, h2]
theorem cR_congr {T : tH} {op fe L L' S : Nat → Nat} {f : Nat} : ∀ {d : Nat}, (∀ j, j < d → L (f + j) = L' (f + j) ∧ L (12 + (f + j)) = L' (12 + (f + j))) → cR T op fe L f S d = cR T op fe L' f S d
  | 0, _ => rfl
  | d + 1, h => by
    unfold cR
    rw [cR_congr (d := d) (fun j hj => h j (by omega)), cG_congr (h d (by omega)).1 (h d (by omega)).2]
theorem cS_congr {T : tH} {op fe L L' S : Nat → Nat} {h g : Nat} (hL : ∀ i, i < 24 → L i = L' i) (hh : h < 12) : cS T op fe L S h g = cS T op fe L' S h g := by
  unfold cS
  rw [cR_congr (fun j hj => ⟨hL _ (by omega), hL _ (by omega)⟩), cG_congr (hL _ (by omega)) (hL _ (by omega))]
theorem dSp_congr {T : tH} {op fe L L' S : Nat → Nat} {h g : Nat} (hL : ∀ i, i < 24 → L i = L' i) (hh : h < 12) : dSp T op fe L S h g = dSp T op fe L' S h g := by
  unfold dSp
  rw [cS_congr hL hh, hL h (by omega), hL (12 + h) (by omega)]
theorem dBc_congr {T : tH} {op fe L L' S : Nat → Nat} {h g : Nat} (hL : ∀ i, i < 24 → L i = L' i) (hh : h < 12) : dBc T op fe L S h g = dBc T op fe L' S h g := by
  unfold dBc
  rw [cS_congr hL hh, hL h (by omega), hL (12 + h) (by omega)]
theorem dFd_congr {T : tH} {op fe L L' S : Nat → Nat} {h g : Nat} (hL : ∀ i, i < 24 → L i = L' i) (hh : h < 12) : dFd T op fe L S h g = dFd T op fe L' S h g := by
  unfold dFd
  rw [cS_congr hL hh, hL h (by omega), hL (12 + h) (by omega)]
theorem dEt_congr {T : tH} {op fe L L' S : Nat → Nat} {g k n : Nat} (hL : ∀ i, i < 24 → L i = L' i) (hn : n ≤ 12) : dEt T op fe L S g k n = dEt T op fe L' S g k n := by
  unfold dEt
  exact gSum_eq (fun h hh => by rw [dBc_congr hL (by omega)])
theorem dDr_congr {T : tH} {op fe L L' S : Nat → Nat} {g k q n : Nat} (hL : ∀ i, i < 24 → L i = L' i) (hn : n ≤ 12) : dDr T op fe L S g k q n = dDr T op fe L' S g k q n := by
  unfold dDr
  exact gSum_eq (fun h hh => by rw [dBc_congr hL (by omega), dSp_congr hL (by omega)])
theorem dFs_congr {T : tH} {op fe L L' S : Nat → Nat} {g n : Nat} (hL : ∀ i, i < 24 → L i = L' i) (hn : n ≤ 12) : dFs T op fe L S g n = dFs T op fe L' S g n := by
  unfold dFs
  exact gSum_eq (fun h hh => by rw [dFd_congr hL (by omega)])
theorem dayIs_congr {M : goMI} {a c : Nat} {T : tH} {A A' : Nat → Nat} (hT : tOk T) (hA : ∀ i, i < 25 → A i = A' i) (h : dayIs M a T A c) : dayIs M a T A' c := by
  have hz := tO_sz hT
  have hL : ∀ i, i < 24 → A i = A' i := fun i hi => hA i (by omega)
  have h24 := hA 24 (by decide)
  obtain ⟨d1, d2, d3, d4, d5⟩ := h
  refine ⟨fun i hi => ?_, fun g h hg hh => ?_, fun g k hg hk => ?_, fun g k q hg hk hq => ?_, fun g hg => ?_⟩
  · rw [d1 i hi, h24, cR_congr (fun j hj => ⟨hL _ (by omega), hL _ (by omega)⟩)]
  · have hh' : h < T 0 0 := hh
    rw [(d2 g h hg hh).1, (d2 g h hg hh).2, h24, dSp_congr hL (by omega), dBc_congr hL (by omega)]
    exact ⟨rfl, rfl⟩
  · rw [d3 g k hg hk, h24]
    show nI (dEt _ _ _ _ _ _ _ (T 0 0)) = nI (dEt _ _ _ _ _ _ _ (T 0 0))
    rw [dEt_congr hL (by omega)]
  · rw [d4 g k q hg hk hq, h24]
    show nI (dDr _ _ _ _ _ _ _ _ (T 0 0)) = nI (dDr _ _ _ _ _ _ _ _ (T 0 0))
    rw [dDr_congr hL (by omega)]
  · rw [d5 g hg, h24]
    show nI (dFs _ _ _ _ _ _ (T 0 0)) = nI (dFs _ _ _ _ _ _ (T 0 0))
    rw [dFs_congr hL (by omega)]
theorem yS_congr {T : tH} {A A' : Nat → Nat} {c h g : Nat} (hA : ∀ i, i < 25 → A i = A' i) (hh : h < 12) : yS T A c h g = yS T A' c h g := by
  unfold yS
  rw [hA 24 (by decide), dSp_congr (fun i hi => hA i (by omega)) hh]
theorem dSh_congr {T : tH} {A A' : Nat → Nat} {c k : Nat} (hT : tOk T) (hA : ∀ i, i < 25 → A i = A' i) (hk : k < T 0 7) : dSh T A c k = dSh T A' c k := by
  have hz := tO_sz hT
  have o16 := (tO_clue hT k hk).2.2.2.2
  unfold dSh
  by_cases c0 : T 13 k = 0
  · rw [if_pos c0, if_pos c0]
    unfold yD
    rw [hA 24 (by decide), dDr_congr (fun i hi => hA i (by omega)) (by omega)]
  · rw [if_neg c0, if_neg c0, yS_congr hA (by have := o16 c0; omega)]
theorem kOk_congr {k : Nat} {M : goMI} {T : tH} {A A' : Nat → Nat} (hT : tOk T) (hA : ∀ i, i < 25 → A i = A' i) (h : kOk k M T A) : kOk k M T A' := by
  have hz := tO_sz hT
  obtain ⟨k1, k2, k3, k4, k5⟩ := h
  refine ⟨k1, fun e => ?_, fun e c hc => ?_, k4, k5⟩
  · obtain ⟨c, c1, c2, c3⟩ := k2 e
    exact ⟨c, c1, c2, dayIs_congr hT hA c3⟩
  · obtain ⟨h1, h2⟩ := k3 e c hc
    refine ⟨?_, fun g h hg hh => ?_⟩
    · rw [h1, gBits_eq (fun k hk => dSh_congr hT hA hk)]
    · rw [h2 g h hg hh, yS_congr hA (by omega)]
/-- another version: nothing of a day is kept -/
theorem kOk_new {k : Nat} {M M' : goMI} {T T' : tH} {A A' : Nat → Nat} (hk : k < 4000) (h : kOk k M T A) (h35 : M' 3 5 = M 3 5 + 1) (hf : ∀ b, 74 ≤ b → b ≤ 101 → M' b = M b) : kOk (k + 1) M' T' A' := by
  obtain ⟨⟨v, v1, v2, v3, v4⟩, k2, k3, k4, k5⟩ := h
  have e35 : M' 3 5 = nI (v + 1) := by rw [h35, v2, nI_1]
  have hne : ∀ x : Int32, (x = -1 ∨ ∃ y, y ≤ v ∧ x = nI y) → x ≠ nI (v + 1) := by
    rintro x (h | ⟨y, h1, h2⟩) e
    · rw [h] at e; exact gI_nm1 (by omega) e.symm
    · rw [h2, nI_eq (by omega) (by omega)] at e; omega
  have r74 := hf 74 (by decide) (by decide)
  refine ⟨⟨v + 1, by omega, e35, ?_, ?_⟩, fun e => ?_, fun e => ?_, by rw [hf 84 (by decide) (by decide)]; exact k4, by rw [hf 98 (by decide) (by decide)]; exact k5⟩
  · rw [r74]
    rcases v3 with h | ⟨y, h1, h2⟩
    · exact Or.inl h
    · exact Or.inr ⟨y, by omega, h2⟩
  · rw [r74]
    rcases v4 with h | ⟨y, h1, h2⟩
    · exact Or.inl h
    · exact Or.inr ⟨y, by omega, h2⟩
  · rw [r74, e35] at e; exact absurd e (hne _ v4)
  · rw [r74, e35] at e; exact absurd e (hne _ v3)
/-- a bit turned -/
def aF (A : Nat → Nat) (c p : Nat) : Nat → Nat := fun i => if i = c then A i ^^^ 2 ^ p else A i
theorem aF_aF (A : Nat → Nat) (c p : Nat) : aF (aF A c p) c p = A := by
  funext i
  unfold aF
  by_cases h : i = c
  · rw [if_pos h, if_pos h, Nat.xor_assoc, Nat.xor_self, Nat.xor_zero]
  · rw [if_neg h, if_neg h]
theorem gTb_x (x p i : Nat) : (x ^^^ 2 ^ p).testBit i = (x.testBit i != decide (p = i)) := by
  rw [Nat.testBit_xor, gTb_pow]
theorem aB_put {A B : Nat → Nat} {h p : Nat} (hAB : aB A B) (hh : h < 12) (hp : p < 8) : aB (aF A h p) (aF B p h) := by
  obtain ⟨b1, b2, b3, b4, b5, b6, b7⟩ := hAB
  have e12 : 2 ^ h < 2 ^ 12 := Nat.pow_lt_pow_right (by decide) hh
  have e8 : 2 ^ p < 2 ^ 8 := Nat.pow_lt_pow_right (by decide) hp
  refine ⟨fun h' p' hh' hp' => ⟨?_, ?_⟩, ?_, ?_, fun i hi => ?_, fun i hi => ?_, ?_, ?_⟩
  · have := (b1 h' p' hh' hp').1
    unfold aF
    by_cases c1 : h' = h
    · by_cases c2 : p' = p
      · rw [if_pos c1, if_pos c2, gTb_x, gTb_x, this, c1, c2, decide_eq_true rfl, decide_eq_true rfl]
      · rw [if_pos c1, if_neg c2, gTb_x, decide_eq_false (fun e => c2 e.symm), this]; simp
    · by_cases c2 : p' = p
      · rw [if_neg c1, if_pos c2, gTb_x, decide_eq_false (fun e => c1 e.symm), this]; simp
      · rw [if_neg c1, if_neg c2]; exact this
  · unfold aF
    rw [if_neg (by omega), if_neg (by omega)]
    exact (b1 h' p' hh' hp').2
  · unfold aF; rw [if_neg (by omega), if_neg (by omega)]; exact b2
  · unfold aF; rw [if_neg (by omega), if_neg (by omega)]; exact b3
  · unfold aF
    split
    · exact Nat.xor_lt_two_pow (n := 8) (b4 i hi) e8
    · exact b4 i hi
  · unfold aF
    split
    · exact Nat.xor_lt_two_pow (n := 12) (b5 i hi) e12
    · exact b5 i hi
  · unfold aF; rw [if_neg (by omega)]; exact b6
  · unfold aF; rw [if_neg (by omega)]; exact b7
theorem aB_dog {A B : Nat → Nat} {h p : Nat} (hAB : aB A B) (hh : h < 12) (hp : p < 8) : aB (aF A (12 + h) p) (aF B (8 + p) h) := by
  obtain ⟨b1, b2, b3, b4, b5, b6, b7⟩ := hAB
  have e12 : 2 ^ h < 2 ^ 12 := Nat.pow_lt_pow_right (by decide) hh
  have e8 : 2 ^ p < 2 ^ 8 := Nat.pow_lt_pow_right (by decide) hp
  refine ⟨fun h' p' hh' hp' => ⟨?_, ?_⟩, ?_, ?_, fun i hi => ?_, fun i hi => ?_, ?_, ?_⟩
  · unfold aF
    rw [if_neg (by omega), if_neg (by omega)]
    exact (b1 h' p' hh' hp').1
  · have := (b1 h' p' hh' hp').2
    unfold aF
    by_cases c1 : h' = h
    · by_cases c2 : p' = p
      · rw [if_pos (by omega), if_pos (by omega), gTb_x, gTb_x, this, c1, c2, decide_eq_true rfl, decide_eq_true rfl]
      · rw [if_pos (by omega), if_neg (by omega), gTb_x, decide_eq_false (fun e => c2 e.symm), this]; simp
    · by_cases c2 : p' = p
      · rw [if_neg (by omega), if_pos (by omega), gTb_x, decide_eq_false (fun e => c1 e.symm), this]; simp
      · rw [if_neg (by omega), if_neg (by omega)]; exact this
  · unfold aF; rw [if_neg (by omega), if_neg (by omega)]; exact b2
  · unfold aF; rw [if_neg (by omega), if_neg (by omega)]; exact b3
  · unfold aF
    split
    · exact Nat.xor_lt_two_pow (n := 8) (b4 i hi) e8
    · exact b4 i hi
  · unfold aF
    split
    · exact Nat.xor_lt_two_pow (n := 12) (b5 i hi) e12
    · exact b5 i hi
  · unfold aF; rw [if_neg (by omega)]; exact b6
  · unfold aF; rw [if_neg (by omega)]; exact b7
theorem aB_hedge {A B : Nat → Nat} {i : Nat} (hAB : aB A B) (hi : i < 14) : aB (aF A 24 i) (aF B 16 i) := by
  obtain ⟨b1, b2, b3, b4, b5, b6, b7⟩ := hAB
  have e14 : 2 ^ i < 2 ^ 14 := Nat.pow_lt_pow_right (by decide) hi
  refine ⟨fun h' p' hh' hp' => ⟨?_, ?_⟩, ?_, ?_, fun i hi => ?_, fun i hi => ?_, ?_, ?_⟩
  · unfold aF; rw [if_neg (by omega), if_neg (by omega)]; exact (b1 h' p' hh' hp').1
  · unfold aF; rw [if_neg (by omega), if_neg (by omega)]; exact (b1 h' p' hh' hp').2
  · unfold aF; rw [if_pos rfl, if_pos rfl, b2]
  · unfold aF; rw [if_neg (by decide), if_neg (by decide)]; exact b3
  · unfold aF; rw [if_neg (by omega)]; exact b4 i hi
  · unfold aF; rw [if_neg (by omega)]; exact b5 i hi
  · unfold aF; rw [if_pos rfl]; exact Nat.xor_lt_two_pow (n := 14) b6 e14
  · unfold aF; rw [if_neg (by decide)]; exact b7
theorem aB_hear {A B : Nat → Nat} {i : Nat} (hAB : aB A B) (hi : i < 6) : aB (aF A 25 i) (aF B 17 i) := by
  obtain ⟨b1, b2, b3, b4, b5, b6, b7⟩ := hAB
  have e6 : 2 ^ i < 2 ^ 6 := Nat.pow_lt_pow_right (by decide) hi
  refine ⟨fun h' p' hh' hp' => ⟨?_, ?_⟩, ?_, ?_, fun i hi => ?_, fun i hi => ?_, ?_, ?_⟩
  · unfold aF; rw [if_neg (by omega), if_neg (by omega)]; exact (b1 h' p' hh' hp').1
  · unfold aF; rw [if_neg (by omega), if_neg (by omega)]; exact (b1 h' p' hh' hp').2
  · unfold aF; rw [if_neg (by decide), if_neg (by decide)]; exact b2
  · unfold aF; rw [if_pos rfl, if_pos rfl, b3]
  · unfold aF; rw [if_neg (by omega)]; exact b4 i hi
  · unfold aF; rw [if_neg (by omega)]; exact b5 i hi
  · unfold aF; rw [if_neg (by decide)]; exact b6
  · unfold aF; rw [if_pos rfl]; exact Nat.xor_lt_two_pow (n := 6) b7 e6
/-! counting -/
theorem gSum_upd {f g : Nat → Nat} {j : Nat} (h : ∀ i, i ≠ j → f i = g i) : ∀ {n : Nat}, j < n → gSum f n + g j = gSum g n + f j
  | 0, hj => absurd hj (Nat.not_lt_zero _)
  | n + 1, hj => by
    show gSum f n + f n + g j = gSum g n + g n + f j
    by_cases c : j = n
    · rw [gSum_eq (f := f) (g := g) (n := n) (fun i hi => h i (by omega)), c]
      omega
    · have := gSum_upd h (n := n) (by omega)
      rw [h n (fun e => c e.symm)]
      omega
theorem gSum_add {f g : Nat → Nat} : ∀ n, gSum (fun i => f i + g i) n = gSum f n + gSum g n
  | 0 => rfl
  | n + 1 => by
    show gSum (fun i => f i + g i) n + (f n + g n) = gSum f n + f n + (gSum g n + g n)
    rw [gSum_add n]
    omega
theorem gSum_0 : ∀ n, gSum (fun _ => 0) n = 0
  | 0 => rfl
  | n + 1 => by show gSum (fun _ => 0) n + 0 = 0; rw [gSum_0 n]
theorem gSum_swap {f : Nat → Nat → Nat} {m : Nat} : ∀ n, gSum (fun i => gSum (fun j => f i j) m) n = gSum (fun j => gSum (fun i => f i j) n) m
  | 0 => by show 0 = gSum (fun _ => 0) m; rw [gSum_0]
  | n + 1 => by
    show gSum (fun i => gSum (fun j => f i j) m) n + gSum (fun j => f n j) m = gSum (fun j => gSum (fun i => f i j) n + f n j) m
    rw [gSum_swap n, gSum_add]
theorem gPc_flip {x p : Nat} (hp : p < 12) : gPc (x ^^^ 2 ^ p) + (x.testBit p).toNat = gPc x + (!x.testBit p).toNat := by
  unfold gPc
  have := gSum_upd (f := fun i => ((x ^^^ 2 ^ p).testBit i).toNat) (g := fun i => (x.testBit i).toNat) (j := p) (fun i hi => by
    show ((x ^^^ 2 ^ p).testBit i).toNat = (x.testBit i).toNat
    rw [gTb_x, decide_eq_false (fun e => hi e.symm)]; simp) (n := 12) hp
  have e : ((x ^^^ 2 ^ p).testBit p).toNat = (!x.testBit p).toNat := by
    rw [gTb_x, decide_eq_true rfl]
    cases x.testBit p <;> rfl
  rw [← e]
  exact this
theorem aCnt_flip {A : Nat → Nat} {w h p : Nat} (hh : h < 12) (hp : p < 12) : aCnt (aF A (w + h) p) w + ((A (w + h)).testBit p).toNat = aCnt A w + (!(A (w + h)).testBit p).toNat := by
  have h1 := gSum_upd (f := fun i => gPc (aF A (w + h) p (w + i))) (g := fun i => gPc (A (w + i))) (j := h) (fun i hi => by
    show gPc (aF A (w + h) p (w + i)) = gPc (A (w + i))
    unfold aF
    rw [if_neg (by omega)]) (n := 12) hh
  have h2 : gPc (aF A (w + h) p (w + h)) = gPc (A (w + h) ^^^ 2 ^ p) := by unfold aF; rw [if_pos rfl]
  have h3 := gPc_flip (x := A (w + h)) hp
  unfold aCnt
  have h1' : gSum (fun i => gPc (aF A (w + h) p (w + i))) 12 + gPc (A (w + h)) = gSum (fun i => gPc (A (w + i))) 12 + gPc (aF A (w + h) p (w + h)) := h1
  rw [h2] at h1'
  omega
theorem aCnt_other {A : Nat → Nat} {w c p : Nat} (h : ∀ i, i < 12 → w + i ≠ c) : aCnt (aF A c p) w = aCnt A w := by
  unfold aCnt
  exact gSum_eq (fun i hi => by
    show gPc (aF A c p (w + i)) = gPc (A (w + i))
    unfold aF
    rw [if_neg (h i hi)])
theorem aCnt_B {A B : Nat → Nat} {w w' : Nat} (hA : ∀ i, i < 12 → A (w + i) < 256) (h : ∀ h p, h < 12 → p < 8 → (A (w + h)).testBit p = (B (w' + p)).testBit h) : gSum (fun p => gPc (B (w' + p))) 8 = aCnt A w := by
  unfold aCnt gPc
  have e1 : gSum (fun h => gSum (fun i => ((A (w + h)).testBit i).toNat) 12) 12 = gSum (fun h => gSum (fun i => ((A (w + h)).testBit i).toNat) 8) 12 := gSum_eq (fun i hi => by
    refine gSum_cut (n := 8) (by decide) (fun j h1 _ => ?_)
    show ((A (w + i)).testBit j).toNat = 0
    rw [gTb_hi (n := 8) (hA i hi) h1]; rfl)
  rw [e1, gSum_swap (f := fun h i => ((A (w + h)).testBit i).toNat)]
  exact gSum_eq (fun p hp => gSum_eq (fun i hi => by
    show ((B (w' + p)).testBit i).toNat = ((A (w + i)).testBit p).toNat
    rw [h i p hi hp]))
