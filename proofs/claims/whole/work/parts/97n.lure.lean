/-! LURE: what it takes, over naturals -/
section lure
variable {T : tH} {op fe L L' S : Nat → Nat} {hg c w : Nat}
theorem nI_inj {x y : Nat} (hx : x < 4294967296) (hy : y < 4294967296) (h : nI x = nI y) : x = y := by
  have h2 : (nI x).toBitVec.toNat = (nI y).toBitVec.toNat := by rw [h]
  rw [gI_bv, gI_bv, BitVec.toNat_ofNat, BitVec.toNat_ofNat] at h2
  omega
theorem cR_add {m : Nat} : ∀ d, cR T op fe L 0 S (m + d) = cR T op fe L m (cR T op fe L 0 S m) d
  | 0 => rfl
  | d + 1 => by
    show cG T op fe L (0 + (m + d)) (cR T op fe L 0 S (m + d)) (T 0 5) = cG T op fe L (m + d) (cR T op fe L m (cR T op fe L 0 S m) d) (T 0 5)
    rw [Nat.zero_add, cR_add d]
theorem dNx_hi {sa fe dg g i : Nat} (hT : tOk T) (hS : dSok T S) (hg : g < T 0 5) (hi : 14 ≤ i) : dNx T op fe sa dg S g i = S i := by
  have hz := tO_sz hT
  have := hS.2.2 g hg
  unfold dNx
  rw [if_neg (by omega), decide_eq_false (by omega), Bool.and_false, if_neg Bool.false_ne_true]
theorem cG_hi {h i : Nat} (hT : tOk T) (hS : dSok T S) (hi : 14 ≤ i) : ∀ g, g ≤ T 0 5 → cG T op fe L h S g i = S i
  | 0, _ => rfl
  | g + 1, hg => by
    have h1 := dNx_hi (op := op) (fe := fe (12 * g + h)) (sa := L h) (dg := L (12 + h)) hT (cG_ok (op := op) (fe := fe) (L := L) (h := h) hT hS g (by omega)) (g := g) (by omega) hi
    exact h1.trans (cG_hi hT hS hi g (by omega))
theorem cR_hi {f i : Nat} (hT : tOk T) (hS : dSok T S) (hi : 14 ≤ i) : ∀ d, cR T op fe L f S d i = S i
  | 0 => rfl
  | d + 1 => (cG_hi hT (cR_ok hT hS d) hi (T 0 5) (Nat.le_refl _)).trans (cR_hi hT hS hi d)
theorem dNx_at {sa fe dg g g' : Nat} (hT : tOk T) (hS : dSok T S) (hg : g < T 0 5) (hn : g' ≠ g) : dNx T op fe sa dg S g (8 + g') = S (8 + g') := by
  have hz := tO_sz hT
  have := hS.2.2 g hg
  unfold dNx
  rw [if_neg (by omega), decide_eq_false (by omega), Bool.and_false, if_neg Bool.false_ne_true]
theorem cG_at {h g : Nat} (hT : tOk T) (hS : dSok T S) : ∀ n, g < n → n ≤ T 0 5 → cG T op fe L h S n (8 + g) = dTo T op (fe (12 * g + h)) (L h) (L (12 + h)) (cG T op fe L h S g) g
  | 0, h0, _ => absurd h0 (Nat.not_lt_zero _)
  | n + 1, hgn, hn => by
    by_cases e : g = n
    · rw [← e]
      show dNx T op (fe (12 * g + h)) (L h) (L (12 + h)) (cG T op fe L h S g) g (8 + g) = _
      unfold dNx
      rw [if_pos rfl]
    · exact (dNx_at hT (cG_ok hT hS n (by omega)) (by omega) e).trans (cG_at hT hS n (by omega) (by omega))
/-- after so many hours -/
def luS (T : tH) (hg c : Nat) (L : Nat → Nat) (j : Nat) : Nat → Nat := cR T (dOp T hg) (dFr T c) L 0 (dS0 T) j
theorem luS_ok (hT : tOk T) (j : Nat) : dSok T (luS T hg c L j) := cR_ok hT (dS0_ok hT) j
theorem luS_dSp {h g : Nat} (hT : tOk T) (hg' : g < T 0 5) : luS T hg c L (h + 1) (8 + g) = dSp T (dOp T hg) (dFr T c) L (dS0 T) h g := by
  show cG T (dOp T hg) (dFr T c) L (0 + h) (cR T (dOp T hg) (dFr T c) L 0 (dS0 T) h) (T 0 5) (8 + g) = _
  rw [Nat.zero_add, cG_at hT (cR_ok hT (dS0_ok hT) h) (T 0 5) hg' (Nat.le_refl _)]
  rfl
theorem luS_add {m d : Nat} : luS T hg c L (m + d) = cR T (dOp T hg) (dFr T c) L m (luS T hg c L m) d := cR_add d
theorem luS_ext {m n : Nat} (hT : tOk T) (h : ∀ i, i < 14 → luS T hg c L m i = luS T hg c L' n i) : luS T hg c L m = luS T hg c L' n := by
  funext i
  by_cases ci : i < 14
  · exact h i ci
  · exact (cR_hi hT (dS0_ok hT) (by omega) m).trans (cR_hi hT (dS0_ok hT) (by omega) n).symm
/-- a spot turned -/
def luF (L : Nat → Nat) (w s : Nat) : Nat → Nat := aF L (w + s % 12) (s / 12)
theorem luF_ne {s j : Nat} (hw : w = 0 ∨ w = 12) (hj : j < 12) (h : j ≠ s % 12) : luF L w s j = L j ∧ luF L w s (12 + j) = L (12 + j) := by
  have := Nat.mod_lt s (show 0 < 12 by decide)
  unfold luF aF
  rw [if_neg (by omega), if_neg (by omega)]
  exact ⟨rfl, rfl⟩
theorem luF_comm {a b : Nat} : luF (luF L w a) w b = luF (luF L w b) w a := by
  funext i
  unfold luF aF
  by_cases h1 : i = w + b % 12
  · by_cases h2 : i = w + a % 12
    · rw [if_pos h1, if_pos h2, if_pos h2, if_pos h1, Nat.xor_assoc, Nat.xor_comm (2 ^ (a / 12)), ← Nat.xor_assoc]
    · rw [if_pos h1, if_neg h2, if_neg h2, if_pos h1]
  · by_cases h2 : i = w + a % 12
    · rw [if_neg h1, if_pos h2, if_pos h2, if_neg h1]
    · rw [if_neg h1, if_neg h2, if_neg h2, if_neg h1]
theorem luF_uF {a : Nat} : luF (luF L w a) w a = L := aF_aF _ _ _
theorem luF_bit {a b : Nat} (h : a ≠ b) : (luF L w a (w + b % 12)).testBit (b / 12) = (L (w + b % 12)).testBit (b / 12) := by
  unfold luF aF
  by_cases e : w + b % 12 = w + a % 12
  · rw [if_pos e, gTb_x, decide_eq_false (by omega)]; simp
  · rw [if_neg e]
theorem luF_b {s : Nat} (hw : w = 0 ∨ w = 12) (hs : s < 96) (h : ∀ i, i < 24 → L i < 256) : ∀ i, i < 24 → luF L w s i < 256 := by
  intro i hi
  have e8 : 2 ^ (s / 12) < 2 ^ 8 := Nat.pow_lt_pow_right (by decide) (by omega)
  unfold luF aF
  split
  · exact Nat.xor_lt_two_pow (n := 8) (h i hi) e8
  · exact h i hi
theorem luS_early {s j : Nat} (hw : w = 0 ∨ w = 12) (hj : j ≤ s % 12) : luS T hg c (luF L w s) j = luS T hg c L j := by
  have := Nat.mod_lt s (show 0 < 12 by decide)
  refine cR_congr (fun i hi => ?_)
  rw [Nat.zero_add]
  exact luF_ne hw (by omega) (by omega)
theorem luS_late {s m n : Nat} (hw : w = 0 ∨ w = 12) (hs : s % 12 < m) (hmn : m ≤ n) (hn : n ≤ 12) (he : luS T hg c (luF L w s) m = luS T hg c L m) : luS T hg c (luF L w s) n = luS T hg c L n := by
  obtain ⟨d, rfl⟩ : ∃ d, n = m + d := ⟨n - m, by omega⟩
  rw [luS_add, luS_add, he]
  exact cR_congr (fun i hi => luF_ne hw (by omega) (by omega))
theorem luS_one {s h : Nat} (hw : w = 0 ∨ w = 12) (hs : s % 12 = h) : cR T (dOp T hg) (dFr T c) (luF L w s) h (luS T hg c L h) 1 = luS T hg c (luF L w s) (h + 1) := by
  rw [luS_add, luS_early hw (by omega)]
theorem luS_all {s h n : Nat} (hw : w = 0 ∨ w = 12) (hs : s % 12 = h) (hn : h ≤ n) : cR T (dOp T hg) (dFr T c) (luF L w s) h (luS T hg c L h) (n - h) = luS T hg c (luF L w s) n := by
  obtain ⟨d, rfl⟩ : ∃ d, n = h + d := ⟨n - h, by omega⟩
  rw [luS_add, luS_early hw (by omega), show h + d - h = d by omega]
/-- an early spot that changes nothing, and a later one -/
theorem luS_dull {a b n : Nat} (hw : w = 0 ∨ w = 12) (hab : a % 12 < b % 12) (ha : a % 12 + 1 ≤ n) (hn : n ≤ 12) (he : luS T hg c (luF L w a) (a % 12 + 1) = luS T hg c L (a % 12 + 1)) : luS T hg c (luF (luF L w a) w b) n = luS T hg c (luF L w b) n := by
  rw [luF_comm]
  refine luS_late hw (m := a % 12 + 1) (by omega) ha hn ?_
  rw [luF_comm]
  exact (luS_early (s := b) hw (by omega)).trans (he.trans (luS_early (s := b) hw (by omega)).symm)
/-- being there -/
def luW (T : tH) (hg c hr g p : Nat) (L : Nat → Nat) : Bool := decide (luS T hg c L (hr + 1) (8 + g) = p)
/-- an open spot -/
def luO (T : tH) (L : Nat → Nat) (w hr s : Nat) : Prop := s < 12 * T 0 2 ∧ s % 12 ≤ hr ∧ (L (w + s % 12)).testBit (s / 12) = false
/-- two spots that do -/
def luG (T : tH) (A : Nat → Nat) (c w hr g p a b : Nat) : Prop := a < b ∧ luO T A w hr a ∧ luO T A w hr b ∧ luW T (A 24) c hr g p (luF (luF A w a) w b) = true
/-- the answer -/
def luAn (T : tH) (A : Nat → Nat) (c w hr g p : Nat) (r : Int32) (s1 s2 : Nat) : Prop :=
  (r = 0 ∧ luW T (A 24) c hr g p A = true) ∨ (luW T (A 24) c hr g p A = false ∧
    ((r = 1 ∧ (luO T A w hr s1 ∧ luW T (A 24) c hr g p (luF A w s1) = true) ∧ ∀ s, s < s1 → luO T A w hr s → luW T (A 24) c hr g p (luF A w s) = false) ∨
     ((∀ s, luO T A w hr s → luW T (A 24) c hr g p (luF A w s) = false) ∧
      ((r = 2 ∧ luG T A c w hr g p s1 s2 ∧ ∀ a b, luG T A c w hr g p a b → 100 * s1 + s2 ≤ 100 * a + b) ∨ (r = -2 ∧ ∀ a b, ¬ luG T A c w hr g p a b)))))
theorem luG_lt {A : Nat → Nat} {hr g p a b : Nat} (hT : tOk T) (h : luG T A c w hr g p a b) : a < 96 ∧ b < 96 := by
  have hz := tO_sz hT
  have h1 := h.2.1.1
  have h2 := h.2.2.1.1
  omega
theorem luAn_eq {A : Nat → Nat} {hr g p s1 s2 s1' s2' : Nat} {r r' : Int32} (hT : tOk T) (h : luAn T A c w hr g p r s1 s2) (h' : luAn T A c w hr g p r' s1' s2') : r = r' ∧ (r = 0 ∨ r = -2 ∨ (r = 1 ∧ s1 = s1') ∨ (r = 2 ∧ s1 = s1' ∧ s2 = s2')) := by
  rcases h with ⟨a1, a2⟩ | ⟨a2, h⟩
  · rcases h' with ⟨b1, b2⟩ | ⟨b2, h'⟩
    · exact ⟨a1.trans b1.symm, Or.inl a1⟩
    · rw [a2] at b2; cases b2
  · rcases h' with ⟨b1, b2⟩ | ⟨b2, h'⟩
    · rw [a2] at b2; cases b2
    · rcases h with ⟨c1, c2, c3⟩ | ⟨c0, h⟩
      · rcases h' with ⟨d1, d2, d3⟩ | ⟨d0, h'⟩
        · have e1 : s1 = s1' := by
            apply Classical.byContradiction
            intro e
            rcases Nat.lt_or_gt_of_ne e with l | l
            · have := d3 s1 l c2.1; rw [c2.2] at this; cases this
            · have := c3 s1' l d2.1; rw [d2.2] at this; cases this
          exact ⟨c1.trans d1.symm, Or.inr (Or.inr (Or.inl ⟨c1, e1⟩))⟩
        · have := d0 s1 c2.1; rw [c2.2] at this; cases this
      · rcases h' with ⟨d1, d2, d3⟩ | ⟨d0, h'⟩
        · have := c0 s1' d2.1; rw [d2.2] at this; cases this
        · rcases h with ⟨e1, e2, e3⟩ | ⟨e1, e2⟩
          · rcases h' with ⟨f1, f2, f3⟩ | ⟨f1, f2⟩
            · have g1 := e3 _ _ f2
              have g2 := f3 _ _ e2
              have g3 := luG_lt hT e2
              have g4 := luG_lt hT f2
              exact ⟨e1.trans f1.symm, Or.inr (Or.inr (Or.inr ⟨e1, by omega, by omega⟩))⟩
            · exact absurd e2 (f2 _ _)
          · rcases h' with ⟨f1, f2, f3⟩ | ⟨f1, f2⟩
            · exact absurd f2 (e2 _ _)
            · exact ⟨e1.trans f1.symm, Or.inr (Or.inl e1)⟩
end lure
