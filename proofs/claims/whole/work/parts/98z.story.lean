/-! LINES: story, data (printed by gen98z.py) -/
section lines20
variable {e s b : Nat} {Mc Mm Mc' Mm' : goMI} {Lc Lm : goML} {Rc Rm : goMR} {T T' : tH}
theorem rOut_tr {st st1 : Nat} {Mc1 Mm1 : goMI} {Lc1 Lm1 : goML} {c : Option (Int32 × goMI × goML)} {m : Option (goMI × goML)} {Q Q' : tH → Prop} (hst : st ≤ st1) (hg : gFr s b Mc Lc Mm Lm Mc1 Lc1 Mm1 Lm1) (h71 : rKp Mc Mm Mc1 Mm1) (h : rOut e s b st1 Mc1 Lc1 Mm1 Lm1 c m Q) (hQ : ∀ T', Q T' → Q' T') : rOut e s b st Mc Lc Mm Lm c m Q' := by
  rcases h with ⟨st', Mc', Lc', Mm', Lm', T', r1, r2, r3, r4, r5, r6, r7, r8⟩ | ⟨f, st', Mc', Lc', Mm', Lm', r1, r2, r3, r4, r5, r6, r7, r8, r9⟩
  · exact Or.inl ⟨st', Mc', Lc', Mm', Lm', T', by omega, r2, r3, r4, r5, rKp_trans h71 r6, gFr_trans hg r7, hQ _ r8⟩
  · exact Or.inr ⟨f, st', Mc', Lc', Mm', Lm', r1, r2, r3, r4, r5, r6, r7, r8, gFr_trans hg r9⟩
theorem mEatY {x : Int32} (h9 : Mm 102 9 = 4) (h11 : Mm 102 11 = x) : fX14_eatsSign 5000 Mm Lm x = goB2 (fX14_goesOn 5000 Mm Lm) fun M L => some (1, M, L) := by
  unfold fX14_eatsSign
  rw [if_pos h9, if_pos h11, gNm, if_neg (by decide)]
  cases fX14_goesOn 5000 Mm Lm with
  | none => rfl
  | some z => rfl
theorem mEatN {x : Int32} (h : ¬ (Mm 102 9 = 4 ∧ Mm 102 11 = x)) : fX14_eatsSign 5000 Mm Lm x = some (0, Mm, Lm) := by
  have e : (if Mm 102 9 = 4 then (if Mm 102 11 = x then (1 : Int32) else 0) else 0) = 0 := by
    by_cases c : Mm 102 9 = 4
    · rw [if_pos c, if_neg (fun h' => h ⟨c, h'⟩)]
    · rw [if_neg c]
  unfold fX14_eatsSign
  rw [e, gNm, if_pos rfl, gB2]
  rfl
/-- a stretch of a story -/
def gFl (M : goMI) (a o h : Nat) (x : Int32) : goMI := fun a' j => if a' = a ∧ o + h ≤ j ∧ j < o + 12 then x else M a' j
theorem gFl_ne {M : goMI} {a o h a' : Nat} {x : Int32} (h' : a' ≠ a) : gFl M a o h x a' = M a' := by
  funext j
  unfold gFl
  rw [if_neg (fun c => h' c.1)]
theorem gFl_out {M : goMI} {a o h j : Nat} {x : Int32} (h' : ¬ (o + h ≤ j ∧ j < o + 12)) : gFl M a o h x a j = M a j := by
  unfold gFl
  rw [if_neg (fun c => h' c.2)]
theorem gFl_in {M : goMI} {a o h j : Nat} {x : Int32} (h1 : o + h ≤ j) (h2 : j < o + 12) : gFl M a o h x a j = x := by
  unfold gFl
  rw [if_pos ⟨rfl, h1, h2⟩]
theorem gFl_c {M M' : goMI} {a o h a' : Nat} {x : Int32} (h' : M a' = M' a') : gFl M a o h x a' = gFl M' a o h x a' := by
  funext j
  unfold gFl
  rw [h']
theorem gFl_12 {M : goMI} {a o : Nat} {x : Int32} : gFl M a o 12 x = M := by
  funext a' j
  unfold gFl
  rw [if_neg (by omega)]
theorem gFl_step {M : goMI} {a o h : Nat} {x : Int32} (hh : h < 12) : gFl (goWI M a (o + h) x) a o (h + 1) x = gFl M a o h x := by
  funext a' j
  unfold gFl goWI
  by_cases ha : a' = a
  · by_cases h1 : o + (h + 1) ≤ j ∧ j < o + 12
    · rw [if_pos ⟨ha, h1⟩, if_pos ⟨ha, by omega, h1.2⟩]
    · rw [if_neg (fun c => h1 c.2), if_pos ha]
      by_cases h2 : j = o + h
      · rw [if_pos h2, if_pos ⟨ha, by omega, by omega⟩]
      · rw [if_neg h2, if_neg (fun c => h1 ⟨by omega, c.2.2⟩)]
  · rw [if_neg (fun c => ha c.1), if_neg ha, if_neg (fun c => ha c.1)]
theorem cTellL {x o : Nat} (ho : o + 12 ≤ 144) : ∀ (d h : Nat) (M : goMI) (n : Nat), h + d = 12 → d < n → lX6_tellFrom_18 (nI x) (nI o) s n (nI h) M = some (gFl M (s + 7) o h (nI x)) := by
  intro d
  induction d with
  | zero =>
    intro h M n hd hn
    obtain ⟨n, rfl⟩ : ∃ z, n = z + 1 := ⟨n - 1, by omega⟩
    have e : h = 12 := by omega
    subst e
    rw [lX6_tellFrom_18, if_neg (show ¬ nI 12 < 12 by decide), gFl_12]
  | succ d ih =>
    intro h M n hd hn
    obtain ⟨n, rfl⟩ : ∃ z, n = z + 1 := ⟨n - 1, by omega⟩
    rw [lX6_tellFrom_18, if_pos (show nI h < 12 from nI_lt (b := 12) (by omega) (by decide)), nI_add, gWr (by omega), gBd, nI_1, ih (h + 1) _ n (by omega) (by omega), gFl_step (by omega)]
theorem mTellL {x o : Nat} (hRm : Rm 102 4 = some b) (ho : o + 12 ≤ 144) : ∀ (d h : Nat) (M : goMI) (n : Nat), h + d = 12 → d < n → lX14_readStory_120 (nI o) (nI x) Rm n (nI h) M = some (gFl M (b + 5) o h (nI x)) := by
  intro d
  induction d with
  | zero =>
    intro h M n hd hn
    obtain ⟨n, rfl⟩ : ∃ z, n = z + 1 := ⟨n - 1, by omega⟩
    have e : h = 12 := by omega
    subst e
    rw [lX14_readStory_120, if_neg (show ¬ nI 12 < 12 by decide), gFl_12]
  | succ d ih =>
    intro h M n hd hn
    obtain ⟨n, rfl⟩ : ∃ z, n = z + 1 := ⟨n - 1, by omega⟩
    rw [lX14_readStory_120, if_pos (show nI h < 12 from nI_lt (b := 12) (by omega) (by decide)), hRm, gBd, nI_add, gWr (by omega), gBd, nI_1, ih (h + 1) _ n (by omega) (by omega), gFl_step (by omega)]
def tFl (T : tH) (o h x : Nat) : tH := fun r j => if r = 5 ∧ o + h ≤ j ∧ j < o + 12 then x else T r j
theorem tFl_r {o h x r : Nat} (h' : r ≠ 5) : tFl T o h x r = T r := by
  funext j
  unfold tFl
  rw [if_neg (fun c => h' c.1)]
theorem tFl_out {o h x j : Nat} (h' : ¬ (o + h ≤ j ∧ j < o + 12)) : tFl T o h x 5 j = T 5 j := by
  unfold tFl
  rw [if_neg (fun c => h' c.2)]
theorem tFl_in {o h x j : Nat} (h1 : o + h ≤ j) (h2 : j < o + 12) : tFl T o h x 5 j = x := by
  unfold tFl
  rw [if_pos ⟨rfl, h1, h2⟩]
theorem tM_fl {M : goMI} {o h x : Nat} (hM : tM M b T) : tM (gFl M (b + 5) o h (nI x)) b (tFl T o h x) := by
  intro r hr i hi
  unfold gFl tFl
  by_cases c : r = 5 ∧ o + h ≤ i ∧ i < o + 12
  · rw [if_pos ⟨by omega, c.2⟩, if_pos c]
  · rw [if_neg (fun c' => c ⟨by omega, c'.2⟩), if_neg c]
    exact hM r hr i hi
theorem pO_5 (h : pO T) (h0 : T 0 0 ≠ 0) (hz : ∀ r, r ≠ 5 → T' r = T r) (h5 : ∀ p i h, p < 4 → i < T 4 p → h < 12 → T' 5 (12 * (3 * p + i) + h) = T 5 (12 * (3 * p + i) + h)) : pO T' := by
  obtain ⟨⟨a0, a1, a2, a3, a4, a5, a6, a7, a8, a9, a10, a11, a13, a15⟩, p14, p1, p2, p4, p5, p6, p12, p13, p17, p19, p20, p22, q0, q1, q2⟩ := h
  unfold pO tJ
  unfold tJ at p2
  rw [hz 0 (by decide), hz 1 (by decide), hz 2 (by decide), hz 3 (by decide), hz 4 (by decide), hz 6 (by decide), hz 7 (by decide), hz 8 (by decide), hz 9 (by decide), hz 10 (by decide), hz 11 (by decide), hz 12 (by decide), hz 13 (by decide), hz 14 (by decide), hz 15 (by decide), hz 16 (by decide), hz 17 (by decide), hz 18 (by decide), hz 19 (by decide), hz 20 (by decide), hz 21 (by decide), hz 22 (by decide), hz 23 (by decide)]
  refine ⟨⟨a0, a1, a2, a3, a4, a5, a6, a7, a8, a9, a10, a11, a13, a15⟩, p14, p1, p2, p4, fun p i h hp hi hh => ?_, p6, p12, p13, p17, p19, p20, p22, q0, fun h => absurd h h0, q2⟩
  rw [h5 p i h hp hi hh]
  exact p5 p i h hp hi hh
theorem rD_5 (hs : s = 7 ∨ s = 37) (hb : 121 ≤ b) (hD : rD s b Mc Lc Mm Lm T) (h0 : T 0 0 ≠ 0) (hz : ∀ r, r ≠ 5 → T' r = T r) (hM : tM Mm' b T') (hc : ∀ a, a ≠ s + 7 → Mc' a = Mc a) (hm : ∀ a, a ≠ b + 5 → Mm' a = Mm a) (hk : ∀ p i h, p < 4 → i < T 4 p → h < 12 → Mc' (s + 7) (12 * (3 * p + i) + h) = Mc (s + 7) (12 * (3 * p + i) + h) ∧ T' 5 (12 * (3 * p + i) + h) = T 5 (12 * (3 * p + i) + h)) : rD s b Mc' Lc Mm' Lm T' := by
  obtain ⟨d1, d2, d3, d4, d5⟩ := hD
  have hf : ∀ j, T' 0 j = T 0 j := fun j => by rw [hz 0 (by decide)]
  have hpn : pN T' = pN T := by
    funext z
    unfold pN
    rw [hf 2, hf 4, hf 5, hf 8, hf 11]
  refine ⟨hM, ?_, pO_5 d3 h0 hz (fun p i h hp hi hh => (hk p i h hp hi hh).2), ?_, ?_⟩
  · obtain ⟨xpa, xpb, xpc, xpd, xpe, xpf, xpg, xph, xpi, xpj, xpk, xpx, xpm, xpn, xpo, xpq, xpr⟩ := d2
    have mm : ∀ r, r ≤ 27 → r ≠ 7 → Mc' (s + r) = Mc (s + r) := fun r h1 h2 => hc _ (by omega)
    refine ⟨paF xpa (mm 0 (by decide) (by decide)) (hf 0) (hf 1) (hf 2) (hf 3) (hf 4) (hf 15), pbF xpb (mm 1 (by decide) (by decide)) (hz 1 (by decide)), pcF xpc (mm 2 (by decide) (by decide)) (hz 2 (by decide)) (hz 3 (by decide)) (hf 3), pdF xpd (mm 3 (by decide) (by decide)) (mm 4 (by decide) (by decide)) (hz 2 (by decide)) (hz 3 (by decide)) (hf 3), peF xpe (mm 5 (by decide) (by decide)) (hz 4 (by decide)), ?_, pgF xpg (mm 8 (by decide) (by decide)) (hz 22 (by decide)) (hf 15) (hf 1), phF xph (mm 9 (by decide) (by decide)) (hf 5) (hf 7), piF xpi (mm 10 (by decide) (by decide)) (mm 11 (by decide) (by decide)) (mm 13 (by decide) (by decide)) (mm 16 (by decide) (by decide)) (mm 15 (by decide) (by decide)) (hz 6 (by decide)) (hz 7 (by decide)) (hz 11 (by decide)) (hz 8 (by decide)) (hz 9 (by decide)) (hf 5), pjF xpj (mm 12 (by decide) (by decide)) (hz 23 (by decide)), pkF xpk (mm 14 (by decide) (by decide)) (hz 12 (by decide)), pxF xpx (mm 17 (by decide) (by decide)) (mm 18 (by decide) (by decide)) (mm 19 (by decide) (by decide)) (mm 20 (by decide) (by decide)) (hz 13 (by decide)) (hz 14 (by decide)) (hz 15 (by decide)) (hz 16 (by decide)) (hf 7), pmF xpm (mm 21 (by decide) (by decide)) (hf 8) (hf 13) (hf 9) (hf 10), pnF xpn (mm 22 (by decide) (by decide)) (mm 23 (by decide) (by decide)) (hz 17 (by decide)) (hz 18 (by decide)) (hf 9), poF xpo (mm 24 (by decide) (by decide)) (hz 19 (by decide)) (hf 10), pqF xpq (mm 25 (by decide) (by decide)) (hf 11), prF xpr (mm 26 (by decide) (by decide)) (mm 27 (by decide) (by decide)) (hz 20 (by decide)) (hz 21 (by decide)) (hf 11)⟩
    intro p i h hp hi hh
    rw [hz 4 (by decide)] at hi
    rw [(hk p i h hp hi hh).1, (hk p i h hp hi hh).2]
    exact xpf p i h hp hi hh
  · rw [hf 12, hpn]
    exact rNm_fr d4 (by rw [hc 67 (by omega)]) (hc 69 (by omega)) (hc 70 (by omega)) rfl (by rw [hm b (by omega)]) (hm _ (by omega)) (hm _ (by omega)) rfl
  · rw [hf 12, hf 2, hf 4, hf 5, hf 8, hf 11]; exact d5
theorem rD_4 {p : Nat} (hs : s = 7 ∨ s = 37) (hb : 121 ≤ b) (hD : rD s b Mc Lc Mm Lm T) (h0 : T 0 0 ≠ 0) (hp : p < 4) (h3 : T 4 p < 3) (hc : ∀ h, h < 12 → Mc (s + 7) (12 * (3 * p + T 4 p) + h) = nI (T 5 (12 * (3 * p + T 4 p) + h)) ∧ T 5 (12 * (3 * p + T 4 p) + h) < T 0 2) : rD s b (goWI Mc (s + 5) p (nI (T 4 p + 1))) Lc (goWI Mm (b + 4) p (nI (T 4 p + 1))) Lm (tW T 4 p (T 4 p + 1)) := by
  obtain ⟨d1, d2, d3, d4, d5⟩ := hD
  have hz : ∀ r, r ≠ 4 → (tW T 4 p (T 4 p + 1)) r = T r := fun r h1 => tW_r h1
  have hf : ∀ j, (tW T 4 p (T 4 p + 1)) 0 j = T 0 j := fun j => by rw [hz 0 (by decide)]
  have r4 : ∀ i, (tW T 4 p (T 4 p + 1)) 4 i = if i = p then T 4 p + 1 else T 4 i := fun i => by
    by_cases c : i = p
    · rw [if_pos c, c, tW_e]
    · rw [if_neg c, tW_i c]
  have hpn : pN (tW T 4 p (T 4 p + 1)) = pN T := by
    funext z
    unfold pN
    rw [hf 2, hf 4, hf 5, hf 8, hf 11]
  have old : ∀ p' i h, p' < 4 → i < (tW T 4 p (T 4 p + 1)) 4 p' → h < 12 → (i < T 4 p' ∨ (p' = p ∧ i = T 4 p)) := by
    intro p' i h hp' hi hh
    rw [r4] at hi
    by_cases c : p' = p
    · rw [if_pos c] at hi
      by_cases c2 : i = T 4 p
      · exact Or.inr ⟨c, c2⟩
      · refine Or.inl ?_
        rw [c]
        omega
    · rw [if_neg c] at hi
      exact Or.inl hi
  refine ⟨tM_wr d1, ?_, ?_, ?_, ?_⟩
  · obtain ⟨xpa, xpb, xpc, xpd, xpe, xpf, xpg, xph, xpi, xpj, xpk, xpx, xpm, xpn, xpo, xpq, xpr⟩ := d2
    have mm : ∀ r, r ≤ 27 → r ≠ 5 → goWI Mc (s + 5) p (nI (T 4 p + 1)) (s + r) = Mc (s + r) := fun r h1 h2 => goWI_ne (by omega)
    refine ⟨paF xpa (mm 0 (by decide) (by decide)) (hf 0) (hf 1) (hf 2) (hf 3) (hf 4) (hf 15), pbF xpb (mm 1 (by decide) (by decide)) (hz 1 (by decide)), pcF xpc (mm 2 (by decide) (by decide)) (hz 2 (by decide)) (hz 3 (by decide)) (hf 3), pdF xpd (mm 3 (by decide) (by decide)) (mm 4 (by decide) (by decide)) (hz 2 (by decide)) (hz 3 (by decide)) (hf 3), ?_, ?_, pgF xpg (mm 8 (by decide) (by decide)) (hz 22 (by decide)) (hf 15) (hf 1), phF xph (mm 9 (by decide) (by decide)) (hf 5) (hf 7), piF xpi (mm 10 (by decide) (by decide)) (mm 11 (by decide) (by decide)) (mm 13 (by decide) (by decide)) (mm 16 (by decide) (by decide)) (mm 15 (by decide) (by decide)) (hz 6 (by decide)) (hz 7 (by decide)) (hz 11 (by decide)) (hz 8 (by decide)) (hz 9 (by decide)) (hf 5), pjF xpj (mm 12 (by decide) (by decide)) (hz 23 (by decide)), pkF xpk (mm 14 (by decide) (by decide)) (hz 12 (by decide)), pxF xpx (mm 17 (by decide) (by decide)) (mm 18 (by decide) (by decide)) (mm 19 (by decide) (by decide)) (mm 20 (by decide) (by decide)) (hz 13 (by decide)) (hz 14 (by decide)) (hz 15 (by decide)) (hz 16 (by decide)) (hf 7), pmF xpm (mm 21 (by decide) (by decide)) (hf 8) (hf 13) (hf 9) (hf 10), pnF xpn (mm 22 (by decide) (by decide)) (mm 23 (by decide) (by decide)) (hz 17 (by decide)) (hz 18 (by decide)) (hf 9), poF xpo (mm 24 (by decide) (by decide)) (hz 19 (by decide)) (hf 10), pqF xpq (mm 25 (by decide) (by decide)) (hf 11), prF xpr (mm 26 (by decide) (by decide)) (mm 27 (by decide) (by decide)) (hz 20 (by decide)) (hz 21 (by decide)) (hf 11)⟩
    · intro i hi
      rw [r4, gWI_self]
      by_cases c : i = p
      · rw [if_pos c, if_pos c]
      · rw [if_neg c, if_neg c]; exact xpe i hi
    · intro p' i h hp' hi hh
      rw [hz 5 (by decide), gWI_na (by omega)]
      rcases old p' i h hp' hi hh with hi' | ⟨e1, e2⟩
      · exact xpf p' i h hp' hi' hh
      · rw [e1, e2]; exact (hc h hh).1
  · obtain ⟨⟨a0, a1, a2, a3, a4, a5, a6, a7, a8, a9, a10, a11, a13, a15⟩, p14, p1, p2, p4, p5, p6, p12, p13, p17, p19, p20, p22, q0, q1, q2⟩ := d3
    unfold pO tJ
    unfold tJ at p2
    have r4' := r4
    rw [hz 0 (by decide), hz 1 (by decide), hz 2 (by decide), hz 3 (by decide), hz 5 (by decide), hz 6 (by decide), hz 7 (by decide), hz 8 (by decide), hz 9 (by decide), hz 10 (by decide), hz 11 (by decide), hz 12 (by decide), hz 13 (by decide), hz 14 (by decide), hz 15 (by decide), hz 16 (by decide), hz 17 (by decide), hz 18 (by decide), hz 19 (by decide), hz 20 (by decide), hz 21 (by decide), hz 22 (by decide), hz 23 (by decide)]
    refine ⟨⟨a0, a1, a2, a3, a4, a5, a6, a7, a8, a9, a10, a11, a13, a15⟩, p14, p1, p2, fun i hi => ?_, fun p' i h hp' hi hh => ?_, p6, p12, p13, p17, p19, p20, p22, q0, fun h => absurd h h0, q2⟩
    · rw [r4]
      by_cases c : i = p
      · rw [if_pos c]; omega
      · rw [if_neg c]; exact p4 i hi
    · rcases old p' i h hp' hi hh with hi' | ⟨e1, e2⟩
      · exact p5 p' i h hp' hi' hh
      · rw [e1, e2]; exact (hc h hh).2
  · rw [hf 12, hpn]
    exact rNm_fr d4 (gWI_na (by omega)) (goWI_ne (by omega)) (goWI_ne (by omega)) rfl (gWI_na (by omega)) (goWI_ne (by omega)) (goWI_ne (by omega)) rfl
  · rw [hf 12, hf 2, hf 4, hf 5, hf 8, hf 11]; exact d5
end lines20
