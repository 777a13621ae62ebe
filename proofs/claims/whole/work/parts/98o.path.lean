/-! LINES: path, its data (printed by gen98o.py) -/
section lines10
variable {e st s b : Nat} {Mc Mm Mm0 Mc' Mm' : goMI} {Lc Lm Lm0 Lc' Lm' : goML} {Rc Rm : goMR} {T T' : tH} {x y : Nat}
theorem gFst_ex {p : Nat → Bool} {n : Nat} : decide (gFst p n < n) = true ↔ ∃ i, i < n ∧ p i = true := by
  rw [decide_eq_true_eq]
  constructor
  · intro h
    exact ⟨_, h, gFst_p h⟩
  · rintro ⟨i, hi, hp⟩
    apply Classical.byContradiction
    intro hn
    have := gFst_np (p := p) (n := n) (i := i) (by have := gFst_le (p := p) n; omega)
    rw [hp] at this
    cases this
theorem tJ_sym {p q i : Nat} : tJ T p q i = tJ T q p i := by
  unfold tJ
  cases decide (T 2 i = p) <;> cases decide (T 3 i = q) <;> cases decide (T 2 i = q) <;> cases decide (T 3 i = p) <;> rfl
theorem tNr_path (hx : x < 8) (hy : y < 8) (hxy : x ≠ y) {p : Nat} : tNr (tW (tW (tW T 2 (T 0 3) x) 3 (T 0 3) y) 0 3 (T 0 3 + 1)) p = if p = y then tNr T p ||| 2 ^ x else if p = x then tNr T p ||| 2 ^ y else tNr T p := by
  have hz : ∀ r, r ≠ 0 → r ≠ 2 → r ≠ 3 → (tW (tW (tW T 2 (T 0 3) x) 3 (T 0 3) y) 0 3 (T 0 3 + 1)) r = T r := fun r h1 h2 h3 => by rw [tW_r h1, tW_r h3, tW_r h2]
  have hf : ∀ j, j ≠ 3 → (tW (tW (tW T 2 (T 0 3) x) 3 (T 0 3) y) 0 3 (T 0 3 + 1)) 0 j = T 0 j := fun j h1 => by rw [tW_i h1, tW_r (by decide), tW_r (by decide)]
  have f3 : (tW (tW (tW T 2 (T 0 3) x) 3 (T 0 3) y) 0 3 (T 0 3 + 1)) 0 3 = T 0 3 + 1 := tW_e
  have r2 : ∀ i, (tW (tW (tW T 2 (T 0 3) x) 3 (T 0 3) y) 0 3 (T 0 3 + 1)) 2 i = if i = T 0 3 then x else T 2 i := fun i => by
    rw [tW_r (by decide), tW_r (by decide)]
    by_cases c : i = T 0 3
    · rw [if_pos c, c, tW_e]
    · rw [if_neg c, tW_i c]
  have r3 : ∀ i, (tW (tW (tW T 2 (T 0 3) x) 3 (T 0 3) y) 0 3 (T 0 3 + 1)) 3 i = if i = T 0 3 then y else T 3 i := fun i => by
    rw [tW_r (by decide)]
    by_cases c : i = T 0 3
    · rw [if_pos c, c, tW_e]
    · rw [if_neg c, tW_i c, tW_r (by decide)]
  have key : ∀ q, q < 8 → decide (tPath (tW (tW (tW T 2 (T 0 3) x) 3 (T 0 3) y) 0 3 (T 0 3 + 1)) p q < (tW (tW (tW T 2 (T 0 3) x) 3 (T 0 3) y) 0 3 (T 0 3 + 1)) 0 3) = (decide (tPath T p q < T 0 3) || (decide (p = x) && decide (q = y)) || (decide (p = y) && decide (q = x))) := by
    intro q hq
    rw [Bool.eq_iff_iff]
    unfold tPath
    rw [f3, gFst_ex, Bool.or_eq_true, Bool.or_eq_true, gFst_ex, Bool.and_eq_true, Bool.and_eq_true, decide_eq_true_eq, decide_eq_true_eq, decide_eq_true_eq, decide_eq_true_eq]
    constructor
    · rintro ⟨i, hi, hj⟩
      by_cases c : i = T 0 3
      · unfold tJ at hj
        rw [r2, r3, if_pos c, if_pos c, Bool.or_eq_true, Bool.and_eq_true, Bool.and_eq_true, decide_eq_true_eq, decide_eq_true_eq, decide_eq_true_eq, decide_eq_true_eq] at hj
        rcases hj with ⟨h1, h2⟩ | ⟨h1, h2⟩
        · exact Or.inl (Or.inr ⟨h1.symm, h2.symm⟩)
        · exact Or.inr ⟨h2.symm, h1.symm⟩
      · unfold tJ at hj
        rw [r2, r3, if_neg c, if_neg c] at hj
        exact Or.inl (Or.inl ⟨i, by omega, hj⟩)
    · rintro ((⟨i, hi, hj⟩ | ⟨h1, h2⟩) | ⟨h1, h2⟩)
      · refine ⟨i, by omega, ?_⟩
        unfold tJ
        rw [r2, r3, if_neg (by omega), if_neg (by omega)]
        exact hj
      · refine ⟨T 0 3, by omega, ?_⟩
        unfold tJ
        rw [r2, r3, if_pos rfl, if_pos rfl, h1, h2, decide_eq_true rfl, decide_eq_true rfl]
        rfl
      · refine ⟨T 0 3, by omega, ?_⟩
        unfold tJ
        rw [r2, r3, if_pos rfl, if_pos rfl, h1, h2, decide_eq_true rfl, decide_eq_true rfl]
        simp
  apply Nat.eq_of_testBit_eq
  intro q
  have lhs : (tNr (tW (tW (tW T 2 (T 0 3) x) 3 (T 0 3) y) 0 3 (T 0 3 + 1)) p).testBit q = (decide (q < 8) && decide (tPath (tW (tW (tW T 2 (T 0 3) x) 3 (T 0 3) y) 0 3 (T 0 3 + 1)) p q < (tW (tW (tW T 2 (T 0 3) x) 3 (T 0 3) y) 0 3 (T 0 3 + 1)) 0 3)) := gBits_tb 8
  have old : (tNr T p).testBit q = (decide (q < 8) && decide (tPath T p q < T 0 3)) := gBits_tb 8
  rw [lhs]
  by_cases hq : q < 8
  · rw [key q hq, decide_eq_true hq, Bool.true_and]
    rw [decide_eq_true hq, Bool.true_and] at old
    by_cases c1 : p = y
    · rw [if_pos c1, Nat.testBit_or, old, gTb_pow, decide_eq_false (show ¬ p = x by omega), decide_eq_true c1, Bool.false_and, Bool.or_false, Bool.true_and, decide_eq_decide.mpr (show q = x ↔ x = q from ⟨Eq.symm, Eq.symm⟩)]
    · by_cases c2 : p = x
      · rw [if_neg c1, if_pos c2, Nat.testBit_or, old, gTb_pow, decide_eq_true c2, decide_eq_false c1, Bool.false_and, Bool.or_false, Bool.true_and, decide_eq_decide.mpr (show q = y ↔ y = q from ⟨Eq.symm, Eq.symm⟩)]
      · rw [if_neg c1, if_neg c2, old, decide_eq_false c1, decide_eq_false c2, Bool.false_and, Bool.false_and, Bool.or_false, Bool.or_false]
  · rw [decide_eq_false hq, Bool.false_and]
    rw [decide_eq_false hq, Bool.false_and] at old
    by_cases c1 : p = y
    · rw [if_pos c1, Nat.testBit_or, old, gTb_pow, decide_eq_false (show ¬ x = q by omega)]; rfl
    · by_cases c2 : p = x
      · rw [if_neg c1, if_pos c2, Nat.testBit_or, old, gTb_pow, decide_eq_false (show ¬ y = q by omega)]; rfl
      · rw [if_neg c1, if_neg c2, old]
theorem pO_path (h : pO T) (h0 : T 0 0 ≠ 0) (h14 : T 0 3 < 14) (hx : x < T 0 2) (hy : y < T 0 2) (hxy : x ≠ y) (hn : ∀ j, j < T 0 3 → tJ T x y j = false) : pO (tW (tW (tW T 2 (T 0 3) x) 3 (T 0 3) y) 0 3 (T 0 3 + 1)) := by
  obtain ⟨⟨a0, a1, a2, a3, a4, a5, a6, a7, a8, a9, a10, a11, a13, a15⟩, p14, p1, p2, p4, p5, p6, p12, p13, p17, p19, p20, p22, q0, q1, q2⟩ := h
  have hz : ∀ r, r ≠ 0 → r ≠ 2 → r ≠ 3 → (tW (tW (tW T 2 (T 0 3) x) 3 (T 0 3) y) 0 3 (T 0 3 + 1)) r = T r := fun r h1 h2 h3 => by rw [tW_r h1, tW_r h3, tW_r h2]
  have hf : ∀ j, j ≠ 3 → (tW (tW (tW T 2 (T 0 3) x) 3 (T 0 3) y) 0 3 (T 0 3 + 1)) 0 j = T 0 j := fun j h1 => by rw [tW_i h1, tW_r (by decide), tW_r (by decide)]
  have f3 : (tW (tW (tW T 2 (T 0 3) x) 3 (T 0 3) y) 0 3 (T 0 3 + 1)) 0 3 = T 0 3 + 1 := tW_e
  have r2 : ∀ i, (tW (tW (tW T 2 (T 0 3) x) 3 (T 0 3) y) 0 3 (T 0 3 + 1)) 2 i = if i = T 0 3 then x else T 2 i := fun i => by
    rw [tW_r (by decide), tW_r (by decide)]
    by_cases c : i = T 0 3
    · rw [if_pos c, c, tW_e]
    · rw [if_neg c, tW_i c]
  have r3 : ∀ i, (tW (tW (tW T 2 (T 0 3) x) 3 (T 0 3) y) 0 3 (T 0 3 + 1)) 3 i = if i = T 0 3 then y else T 3 i := fun i => by
    rw [tW_r (by decide)]
    by_cases c : i = T 0 3
    · rw [if_pos c, c, tW_e]
    · rw [if_neg c, tW_i c, tW_r (by decide)]
  have hJ : ∀ p q i, i < T 0 3 → tJ (tW (tW (tW T 2 (T 0 3) x) 3 (T 0 3) y) 0 3 (T 0 3 + 1)) p q i = tJ T p q i := fun p q i hi => by
    unfold tJ
    rw [r2, r3, if_neg (by omega), if_neg (by omega)]
  unfold pO
  rw [f3, hf 0 (by decide), hf 1 (by decide), hf 2 (by decide), hf 4 (by decide), hf 5 (by decide), hf 6 (by decide), hf 7 (by decide), hf 8 (by decide), hf 9 (by decide), hf 10 (by decide), hf 11 (by decide), hf 13 (by decide), hf 14 (by decide), hf 15 (by decide), hz 1 (by decide) (by decide) (by decide), hz 4 (by decide) (by decide) (by decide), hz 5 (by decide) (by decide) (by decide), hz 6 (by decide) (by decide) (by decide), hz 7 (by decide) (by decide) (by decide), hz 8 (by decide) (by decide) (by decide), hz 9 (by decide) (by decide) (by decide), hz 10 (by decide) (by decide) (by decide), hz 11 (by decide) (by decide) (by decide), hz 12 (by decide) (by decide) (by decide), hz 13 (by decide) (by decide) (by decide), hz 14 (by decide) (by decide) (by decide), hz 15 (by decide) (by decide) (by decide), hz 16 (by decide) (by decide) (by decide), hz 17 (by decide) (by decide) (by decide), hz 18 (by decide) (by decide) (by decide), hz 19 (by decide) (by decide) (by decide), hz 20 (by decide) (by decide) (by decide), hz 21 (by decide) (by decide) (by decide), hz 22 (by decide) (by decide) (by decide), hz 23 (by decide) (by decide) (by decide)]
  refine ⟨⟨a0, a1, a2, by omega, a4, a5, a6, a7, a8, a9, a10, a11, a13, a15⟩, p14, p1, fun i hi => ?_, p4, p5, p6, p12, p13, p17, p19, p20, p22, q0, fun h => absurd h h0, q2⟩
  rw [r2, r3]
  by_cases c : i = T 0 3
  · rw [if_pos c, if_pos c]
    exact ⟨hx, hy, hxy, fun j hj => by rw [hJ _ _ _ (by omega)]; exact hn j (by omega)⟩
  · rw [if_neg c, if_neg c]
    obtain ⟨u1, u2, u3, u4⟩ := p2 i (by omega)
    exact ⟨u1, u2, u3, fun j hj => by rw [hJ _ _ _ (by omega)]; exact u4 j hj⟩
theorem rD_path (hs : s = 7 ∨ s = 37) (hb : 121 ≤ b) (hD : rD s b Mc Lc Mm Lm T) (h0 : T 0 0 ≠ 0) (h14 : T 0 3 < 14) (hx : x < T 0 2) (hy : y < T 0 2) (hxy : x ≠ y) (hn : ∀ j, j < T 0 3 → tJ T x y j = false) :
    rD s b (goWI (goWI (goWI (goWI (goWI Mc (s + 3) (T 0 3) (nI x)) (s + 4) (T 0 3) (nI y)) s 3 (nI (T 0 3 + 1))) (s + 2) x (nI (tNr T x ||| 2 ^ y))) (s + 2) y (nI (tNr T y ||| 2 ^ x))) Lc (goWI (goWI (goWI Mm (b + 2) (T 0 3) (nI x)) (b + 3) (T 0 3) (nI y)) b 3 (nI (T 0 3 + 1))) Lm (tW (tW (tW T 2 (T 0 3) x) 3 (T 0 3) y) 0 3 (T 0 3 + 1)) ∧ ∀ j, j ≠ 12 → (tW (tW (tW T 2 (T 0 3) x) 3 (T 0 3) y) 0 3 (T 0 3 + 1)) 0 j = if j = 3 then T 0 3 + 1 else T 0 j := by
  obtain ⟨d1, d2, d3, d4, d5⟩ := hD
  have a2 := d3.1.2.2.1
  have hz : ∀ r, r ≠ 0 → r ≠ 2 → r ≠ 3 → (tW (tW (tW T 2 (T 0 3) x) 3 (T 0 3) y) 0 3 (T 0 3 + 1)) r = T r := fun r h1 h2 h3 => by rw [tW_r h1, tW_r h3, tW_r h2]
  have hf : ∀ j, j ≠ 3 → (tW (tW (tW T 2 (T 0 3) x) 3 (T 0 3) y) 0 3 (T 0 3 + 1)) 0 j = T 0 j := fun j h1 => by rw [tW_i h1, tW_r (by decide), tW_r (by decide)]
  have f3 : (tW (tW (tW T 2 (T 0 3) x) 3 (T 0 3) y) 0 3 (T 0 3 + 1)) 0 3 = T 0 3 + 1 := tW_e
  have r2 : ∀ i, (tW (tW (tW T 2 (T 0 3) x) 3 (T 0 3) y) 0 3 (T 0 3 + 1)) 2 i = if i = T 0 3 then x else T 2 i := fun i => by
    rw [tW_r (by decide), tW_r (by decide)]
    by_cases c : i = T 0 3
    · rw [if_pos c, c, tW_e]
    · rw [if_neg c, tW_i c]
  have r3 : ∀ i, (tW (tW (tW T 2 (T 0 3) x) 3 (T 0 3) y) 0 3 (T 0 3 + 1)) 3 i = if i = T 0 3 then y else T 3 i := fun i => by
    rw [tW_r (by decide)]
    by_cases c : i = T 0 3
    · rw [if_pos c, c, tW_e]
    · rw [if_neg c, tW_i c, tW_r (by decide)]
  have cA : ∀ a, a ≠ s + 3 → a ≠ s + 4 → a ≠ s → a ≠ s + 2 → (goWI (goWI (goWI (goWI (goWI Mc (s + 3) (T 0 3) (nI x)) (s + 4) (T 0 3) (nI y)) s 3 (nI (T 0 3 + 1))) (s + 2) x (nI (tNr T x ||| 2 ^ y))) (s + 2) y (nI (tNr T y ||| 2 ^ x))) a = Mc a := fun a h1 h2 h3 h4 => by rw [goWI_ne h4, goWI_ne h4, goWI_ne h3, goWI_ne h2, goWI_ne h1]
  refine ⟨⟨tM_w0 (tM_wr (tM_wr d1)), ?_, pO_path d3 h0 h14 hx hy hxy hn, ?_, ?_⟩, fun j _ => ?_⟩
  · obtain ⟨xpa, xpb, xpc, xpd, xpe, xpf, xpg, xph, xpi, xpj, xpk, xpx, xpm, xpn, xpo, xpq, xpr⟩ := d2
    have mm : ∀ r, r ≤ 27 → r ≠ 3 → r ≠ 4 → r ≠ 0 → r ≠ 2 → (goWI (goWI (goWI (goWI (goWI Mc (s + 3) (T 0 3) (nI x)) (s + 4) (T 0 3) (nI y)) s 3 (nI (T 0 3 + 1))) (s + 2) x (nI (tNr T x ||| 2 ^ y))) (s + 2) y (nI (tNr T y ||| 2 ^ x))) (s + r) = Mc (s + r) := fun r h1 h2 h3 h4 h5 => cA _ (by omega) (by omega) (by omega) (by omega)
    refine ⟨?_, pbF xpb (mm 1 (by decide) (by decide) (by decide) (by decide) (by decide)) (hz 1 (by decide) (by decide) (by decide)), ?_, ?_, peF xpe (mm 5 (by decide) (by decide) (by decide) (by decide) (by decide)) (hz 4 (by decide) (by decide) (by decide)), pfF xpf (mm 7 (by decide) (by decide) (by decide) (by decide) (by decide)) (hz 4 (by decide) (by decide) (by decide)) (hz 5 (by decide) (by decide) (by decide)), pgF xpg (mm 8 (by decide) (by decide) (by decide) (by decide) (by decide)) (hz 22 (by decide) (by decide) (by decide)) (hf 15 (by decide)) (hf 1 (by decide)), phF xph (mm 9 (by decide) (by decide) (by decide) (by decide) (by decide)) (hf 5 (by decide)) (hf 7 (by decide)), piF xpi (mm 10 (by decide) (by decide) (by decide) (by decide) (by decide)) (mm 11 (by decide) (by decide) (by decide) (by decide) (by decide)) (mm 13 (by decide) (by decide) (by decide) (by decide) (by decide)) (mm 16 (by decide) (by decide) (by decide) (by decide) (by decide)) (mm 15 (by decide) (by decide) (by decide) (by decide) (by decide)) (hz 6 (by decide) (by decide) (by decide)) (hz 7 (by decide) (by decide) (by decide)) (hz 11 (by decide) (by decide) (by decide)) (hz 8 (by decide) (by decide) (by decide)) (hz 9 (by decide) (by decide) (by decide)) (hf 5 (by decide)), pjF xpj (mm 12 (by decide) (by decide) (by decide) (by decide) (by decide)) (hz 23 (by decide) (by decide) (by decide)), pkF xpk (mm 14 (by decide) (by decide) (by decide) (by decide) (by decide)) (hz 12 (by decide) (by decide) (by decide)), pxF xpx (mm 17 (by decide) (by decide) (by decide) (by decide) (by decide)) (mm 18 (by decide) (by decide) (by decide) (by decide) (by decide)) (mm 19 (by decide) (by decide) (by decide) (by decide) (by decide)) (mm 20 (by decide) (by decide) (by decide) (by decide) (by decide)) (hz 13 (by decide) (by decide) (by decide)) (hz 14 (by decide) (by decide) (by decide)) (hz 15 (by decide) (by decide) (by decide)) (hz 16 (by decide) (by decide) (by decide)) (hf 7 (by decide)), pmF xpm (mm 21 (by decide) (by decide) (by decide) (by decide) (by decide)) (hf 8 (by decide)) (hf 13 (by decide)) (hf 9 (by decide)) (hf 10 (by decide)), pnF xpn (mm 22 (by decide) (by decide) (by decide) (by decide) (by decide)) (mm 23 (by decide) (by decide) (by decide) (by decide) (by decide)) (hz 17 (by decide) (by decide) (by decide)) (hz 18 (by decide) (by decide) (by decide)) (hf 9 (by decide)), poF xpo (mm 24 (by decide) (by decide) (by decide) (by decide) (by decide)) (hz 19 (by decide) (by decide) (by decide)) (hf 10 (by decide)), pqF xpq (mm 25 (by decide) (by decide) (by decide) (by decide) (by decide)) (hf 11 (by decide)), prF xpr (mm 26 (by decide) (by decide) (by decide) (by decide) (by decide)) (mm 27 (by decide) (by decide) (by decide) (by decide) (by decide)) (hz 20 (by decide) (by decide) (by decide)) (hz 21 (by decide) (by decide) (by decide)) (hf 11 (by decide))⟩
    · obtain ⟨y0, y1, y2, y3, y4, y6⟩ := xpa
      have k : ∀ j, (goWI (goWI (goWI (goWI (goWI Mc (s + 3) (T 0 3) (nI x)) (s + 4) (T 0 3) (nI y)) s 3 (nI (T 0 3 + 1))) (s + 2) x (nI (tNr T x ||| 2 ^ y))) (s + 2) y (nI (tNr T y ||| 2 ^ x))) s j = if j = 3 then nI (T 0 3 + 1) else Mc s j := fun j => by rw [gWI_na (by omega), gWI_na (by omega), gWI_self, gWI_na (by omega), gWI_na (by omega)]
      unfold paC
      rw [k, k, k, k, k, k, f3, hf 0 (by decide), hf 1 (by decide), hf 2 (by decide), hf 4 (by decide), hf 15 (by decide)]
      exact ⟨y0, y1, y2, rfl, y4, y6⟩
    · intro p hp
      rw [tNr_path (by omega) (by omega) hxy, gWI_self]
      by_cases c1 : p = y
      · rw [if_pos c1, if_pos c1, c1]
      · rw [if_neg c1, if_neg c1, gWI_self]
        by_cases c2 : p = x
        · rw [if_pos c2, if_pos c2, c2]
        · rw [if_neg c2, if_neg c2, gWI_na (by omega), gWI_na (by omega), gWI_na (by omega)]
          exact xpc p hp
    · intro i hi
      rw [f3] at hi
      have k3 : (goWI (goWI (goWI (goWI (goWI Mc (s + 3) (T 0 3) (nI x)) (s + 4) (T 0 3) (nI y)) s 3 (nI (T 0 3 + 1))) (s + 2) x (nI (tNr T x ||| 2 ^ y))) (s + 2) y (nI (tNr T y ||| 2 ^ x))) (s + 3) i = if i = T 0 3 then nI x else Mc (s + 3) i := by rw [gWI_na (by omega), gWI_na (by omega), gWI_na (by omega), gWI_na (by omega), gWI_self]
      have k4 : (goWI (goWI (goWI (goWI (goWI Mc (s + 3) (T 0 3) (nI x)) (s + 4) (T 0 3) (nI y)) s 3 (nI (T 0 3 + 1))) (s + 2) x (nI (tNr T x ||| 2 ^ y))) (s + 2) y (nI (tNr T y ||| 2 ^ x))) (s + 4) i = if i = T 0 3 then nI y else Mc (s + 4) i := by rw [gWI_na (by omega), gWI_na (by omega), gWI_na (by omega), gWI_self, gWI_na (by omega)]
      rw [r2, r3, k3, k4]
      by_cases c : i = T 0 3
      · simp only [if_pos c]; exact ⟨trivial, trivial⟩
      · simp only [if_neg c]; exact xpd i (by omega)
  · have hpn : pN (tW (tW (tW T 2 (T 0 3) x) 3 (T 0 3) y) 0 3 (T 0 3 + 1)) = pN T := by
      funext z
      unfold pN
      rw [hf 2 (by decide), hf 4 (by decide), hf 5 (by decide), hf 8 (by decide), hf 11 (by decide)]
    rw [hf 12 (by decide), hpn]
    exact rNm_fr d4 (by rw [cA 67 (by omega) (by omega) (by omega) (by omega)]) (cA 69 (by omega) (by omega) (by omega) (by omega)) (cA 70 (by omega) (by omega) (by omega) (by omega)) rfl (by rw [gWI_nk (by decide), gWI_na (by omega), gWI_na (by omega)]) (by rw [goWI_ne (by omega), goWI_ne (by omega), goWI_ne (by omega)]) (by rw [goWI_ne (by omega), goWI_ne (by omega), goWI_ne (by omega)]) rfl
  · rw [hf 12 (by decide), hf 2 (by decide), hf 4 (by decide), hf 5 (by decide), hf 8 (by decide), hf 11 (by decide)]
    exact d5
  · by_cases c : j = 3
    · rw [if_pos c, c, tW_e]
    · rw [if_neg c]; exact hf j c
end lines10
