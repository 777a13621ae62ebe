/-! TOOLS of the pure part: sums, firsts, sets of bits, least ones; loops that count up -/
def gSum (f : Nat → Nat) : Nat → Nat
  | 0 => 0
  | n + 1 => gSum f n + f n
theorem gSum_eq {f g : Nat → Nat} : ∀ {n : Nat}, (∀ i, i < n → f i = g i) → gSum f n = gSum g n
  | 0, _ => rfl
  | n + 1, h => by
    unfold gSum
    rw [gSum_eq (n := n) (fun i hi => h i (by omega)), h n (by omega)]
theorem gSum_le {f : Nat → Nat} {c : Nat} : ∀ {n : Nat}, (∀ i, i < n → f i ≤ c) → gSum f n ≤ n * c
  | 0, _ => by simp [gSum]
  | n + 1, h => by
    have h1 := gSum_le (n := n) (fun i hi => h i (by omega))
    have h2 := h n (by omega)
    unfold gSum
    rw [Nat.succ_mul]
    omega
/-- the first of n that is so, else n -/
def gFst (p : Nat → Bool) : Nat → Nat
  | 0 => 0
  | n + 1 => if gFst p n < n then gFst p n else if p n then n else n + 1
theorem gFst_le {p : Nat → Bool} : ∀ n, gFst p n ≤ n
  | 0 => Nat.le_refl 0
  | n + 1 => by
    have := gFst_le (p := p) n
    unfold gFst
    split
    · omega
    · split <;> omega
theorem gFst_go {p : Nat → Bool} {i : Nat} (h : gFst p i = i) (hp : p i = false) : gFst p (i + 1) = i + 1 := by
  unfold gFst
  rw [if_neg (by omega), if_neg (by rw [hp]; exact Bool.false_ne_true)]
theorem gFst_lt {p : Nat → Bool} {n : Nat} (h : gFst p n < n) : ∀ k, gFst p (n + k) = gFst p n
  | 0 => rfl
  | k + 1 => by
    have ih := gFst_lt h k
    have e : gFst p ((n + k) + 1) = if gFst p (n + k) < n + k then gFst p (n + k) else if p (n + k) then n + k else n + k + 1 := rfl
    show gFst p ((n + k) + 1) = _
    rw [e, if_pos (by omega), ih]
theorem gFst_hit {p : Nat → Bool} {i : Nat} (h : gFst p i = i) (hp : p i = true) : gFst p (i + 1) = i := by
  unfold gFst
  rw [if_neg (by omega), if_pos hp]
theorem gFst_stop {p : Nat → Bool} {i e : Nat} (h : gFst p i = i) (hi : i < e) (hp : p i = true) : gFst p e = i := by
  have h1 := gFst_hit h hp
  have h2 := gFst_lt (p := p) (n := i + 1) (by omega) (e - (i + 1))
  rw [show i + 1 + (e - (i + 1)) = e by omega] at h2
  omega
theorem gFst_p {p : Nat → Bool} : ∀ {n : Nat}, gFst p n < n → p (gFst p n) = true
  | 0, h => absurd h (Nat.not_lt_zero _)
  | n + 1, h => by
    unfold gFst at h ⊢
    split
    · rename_i h1; exact gFst_p h1
    · split
      · assumption
      · rename_i h1 h2; rw [if_neg h1, if_neg h2] at h; omega
theorem gFst_np {p : Nat → Bool} : ∀ {n i : Nat}, i < gFst p n → p i = false
  | 0, i, h => absurd h (Nat.not_lt_zero _)
  | n + 1, i, h => by
    unfold gFst at h
    split at h
    · exact gFst_np h
    · rename_i h1
      have h3 := gFst_le (p := p) n
      split at h
      · exact gFst_np (n := n) (by omega)
      · rename_i h2
        by_cases hi : i = n
        · subst hi; simpa using h2
        · exact gFst_np (n := n) (by omega)
theorem gFst_eq {p q : Nat → Bool} : ∀ {n : Nat}, (∀ i, i < n → p i = q i) → gFst p n = gFst q n
  | 0, _ => rfl
  | n + 1, h => by
    unfold gFst
    rw [gFst_eq (n := n) (fun i hi => h i (by omega)), h n (by omega)]
theorem gFst_all {p : Nat → Bool} : ∀ {n : Nat}, (∀ i, i < n → p i = false) → gFst p n = n
  | 0, _ => rfl
  | n + 1, h => gFst_go (gFst_all (fun i hi => h i (by omega))) (h n (by omega))
/-- a set of numbers as bits -/
def gBits (p : Nat → Bool) : Nat → Nat
  | 0 => 0
  | n + 1 => gBits p n ||| (if p n then 2 ^ n else 0)
theorem gBits_lt {p : Nat → Bool} : ∀ n, gBits p n < 2 ^ n
  | 0 => Nat.one_pos
  | n + 1 => by
    unfold gBits
    refine Nat.or_lt_two_pow (Nat.lt_trans (gBits_lt n) (Nat.pow_lt_pow_right (by decide) (by omega))) ?_
    split
    · exact Nat.pow_lt_pow_right (by decide) (by omega)
    · exact Nat.two_pow_pos _
theorem gTb_pow {n i : Nat} : (2 ^ n).testBit i = decide (n = i) := by
  rw [Nat.testBit_two_pow]
theorem gBits_tb {p : Nat → Bool} {i : Nat} : ∀ n, (gBits p n).testBit i = (decide (i < n) && p i)
  | 0 => by simp [gBits]
  | n + 1 => by
    unfold gBits
    rw [Nat.testBit_or, gBits_tb n]
    by_cases h : i = n
    · subst h
      by_cases hp : p i <;> simp [hp, gTb_pow]
    · have : (if p n = true then 2 ^ n else 0).testBit i = false := by
        split
        · rw [gTb_pow]; simp; omega
        · exact Nat.zero_testBit i
      rw [this, Bool.or_false]
      congr 1
      simp
      omega
theorem gBits_eq {p q : Nat → Bool} : ∀ {n : Nat}, (∀ i, i < n → p i = q i) → gBits p n = gBits q n
  | 0, _ => rfl
  | n + 1, h => by
    unfold gBits
    rw [gBits_eq (n := n) (fun i hi => h i (by omega)), h n (by omega)]
theorem gBits_of {x : Nat} {n : Nat} (h : x < 2 ^ n) : gBits (fun i => x.testBit i) n = x := by
  apply Nat.eq_of_testBit_eq
  intro i
  rw [gBits_tb]
  by_cases hi : i < n
  · simp [hi]
  · rw [Nat.testBit_lt_two_pow (Nat.lt_of_lt_of_le h (Nat.pow_le_pow_right (by decide) (by omega)))]
    simp
/-- the first of least weight, among those that are so and weigh less than l: (it, its weight) -/
def gMin (w : Nat → Nat) (r : Nat → Bool) (b l : Nat) : Nat → Nat × Nat
  | 0 => (b, l)
  | n + 1 => if r n && decide (w n < (gMin w r b l n).2) then (n, w n) else gMin w r b l n
theorem gMin_eq {w w' : Nat → Nat} {r r' : Nat → Bool} {b l : Nat} : ∀ {n : Nat}, (∀ i, i < n → r i = r' i) → (∀ i, i < n → r i = true → w i = w' i) → gMin w r b l n = gMin w' r' b l n
  | 0, _, _ => rfl
  | n + 1, h, h' => by
    unfold gMin
    rw [gMin_eq (n := n) (fun i hi => h i (by omega)) (fun i hi => h' i (by omega)), ← h n (by omega)]
    by_cases hr : r n = true
    · rw [h' n (by omega) hr]
    · rw [Bool.not_eq_true] at hr; rw [hr]; rfl
theorem gMin_le {w : Nat → Nat} {r : Nat → Bool} {b l : Nat} : ∀ n, (gMin w r b l n).2 ≤ l
  | 0 => Nat.le_refl _
  | n + 1 => by
    have := gMin_le (w := w) (r := r) (b := b) (l := l) n
    unfold gMin
    split
    · rename_i h; simp at h; show w n ≤ l; omega
    · exact this
/-- a loop that counts up, without an early end: what it holds at each count is told -/
theorem gUp {α β : Type} (F : Nat → Nat → α → Option β) (s : Nat → α) (e : Nat) (z : β) (step : ∀ n i, i < e → F (n + 1) i (s i) = F n (i + 1) (s (i + 1))) (fin : ∀ n, F (n + 1) e (s e) = some z) : ∀ N i, i ≤ e → e - i < N → F N i (s i) = some z := by
  intro N
  induction N with
  | zero => intro i _ h; exact absurd h (Nat.not_lt_zero _)
  | succ n ih =>
    intro i hi h
    by_cases hie : i = e
    · subst hie; exact fin n
    · rw [step n i (by omega)]
      exact ih (i + 1) (by omega) (by omega)
/-- the same, from a count on -/
theorem gUpF {α β : Type} (F : Nat → Nat → α → Option β) (s : Nat → α) (i0 e : Nat) (z : β) (step : ∀ n i, i0 ≤ i → i < e → F (n + 1) i (s i) = F n (i + 1) (s (i + 1))) (fin : ∀ n, F (n + 1) e (s e) = some z) : ∀ N i, i0 ≤ i → i ≤ e → e - i < N → F N i (s i) = some z := by
  intro N
  induction N with
  | zero => intro i _ _ h; exact absurd h (Nat.not_lt_zero _)
  | succ n ih =>
    intro i h0 hi h
    by_cases hie : i = e
    · subst hie; exact fin n
    · rw [step n i h0 (by omega)]
      exact ih (i + 1) (by omega) (by omega) (by omega)
/-- a loop that counts up and may end early -/
theorem gUpE {β : Type} (F : Nat → Nat → Option β) (e : Nat) (z : β) (P : Nat → Prop) (step : ∀ n i, i < e → P i → F (n + 1) i = some z ∨ (F (n + 1) i = F n (i + 1) ∧ P (i + 1))) (fin : ∀ n, P e → F (n + 1) e = some z) : ∀ N i, i ≤ e → P i → e - i < N → F N i = some z := by
  intro N
  induction N with
  | zero => intro i _ _ h; exact absurd h (Nat.not_lt_zero _)
  | succ n ih =>
    intro i hi hP h
    by_cases hie : i = e
    · subst hie; exact fin n hP
    · rcases step n i (by omega) hP with h1 | ⟨h1, h2⟩
      · exact h1
      · rw [h1]
        exact ih (i + 1) (by omega) h2 (by omega)
/-- how many bits of twelve -/
def gPc (x : Nat) : Nat := gSum (fun i => (x.testBit i).toNat) 12
theorem gPc_bc0 : ∀ a, a < 64 → ∀ b, b < 64 → fJ6_bitCount_0f7a4 (nI (64 * a + b)) = nI (gPc (64 * a + b)) := by decide +kernel
theorem gPc_bc (x : Nat) (h : x < 4096) : fJ6_bitCount_0f7a4 (nI x) = nI (gPc x) := by
  have := gPc_bc0 (x / 64) (by omega) (x % 64) (by omega)
  rw [show 64 * (x / 64) + x % 64 = x by omega] at this
  exact this
theorem gPc_le (x : Nat) : gPc x ≤ 12 := by
  have := gSum_le (f := fun i => (x.testBit i).toNat) (c := 1) (n := 12) (fun i _ => by cases x.testBit i <;> decide)
  unfold gPc
  omega
theorem gPc_bits1 : ∀ a, a < 64 → ∀ b, b < 64 → lX14_bits_4 20 0 (nI (64 * a + b)) = some (nI (gPc (64 * a + b))) := by decide +kernel
theorem gPc_bits0 (x : Nat) (h : x < 4096) : lX14_bits_4 20 0 (nI x) = some (nI (gPc x)) := by
  have := gPc_bits1 (x / 64) (by omega) (x % 64) (by omega)
  rw [show 64 * (x / 64) + x % 64 = x by omega] at this
  exact this
theorem gBits_fuel : ∀ n k v r, lX14_bits_4 n v r = some k → ∀ m, lX14_bits_4 (n + m) v r = some k
  | 0, k, v, r, h, m => by cases h
  | n + 1, k, v, r, h, m => by
    rw [show n + 1 + m = (n + m) + 1 by omega]
    unfold lX14_bits_4 at h ⊢
    split at h
    · rename_i c; rw [if_pos c]; exact h
    · rename_i c; rw [if_neg c]; exact gBits_fuel n k _ _ h m
theorem gPc_bits {x N : Nat} (h : x < 4096) (hN : 20 ≤ N) : fX14_bits N (nI x) = some (nI (gPc x)) := by
  unfold fX14_bits
  have := gBits_fuel 20 _ _ _ (gPc_bits0 x h) (N - 20)
  rw [show 20 + (N - 20) = N by omega] at this
  rw [this]
  rfl
