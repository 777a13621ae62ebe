/-! PLAIN NUMBERS for the pure part: Int32 as nI of naturals, bits, loops over fuel -/
theorem gI_bv (n : Nat) : (nI n).toBitVec = BitVec.ofNat 32 n := rfl
theorem gI_and (a b : Nat) : nI a &&& nI b = nI (a &&& b) := by
  apply Int32.toBitVec_inj.mp
  rw [Int32.toBitVec_and, gI_bv, gI_bv, gI_bv]
  exact (BitVec.ofNat_and (x := a) (y := b)).symm
theorem gI_or (a b : Nat) : nI a ||| nI b = nI (a ||| b) := by
  apply Int32.toBitVec_inj.mp
  rw [Int32.toBitVec_or, gI_bv, gI_bv, gI_bv]
  exact (BitVec.ofNat_or (x := a) (y := b)).symm
theorem gI_xor (a b : Nat) : nI a ^^^ nI b = nI (a ^^^ b) := by
  apply Int32.toBitVec_inj.mp
  rw [Int32.toBitVec_xor, gI_bv, gI_bv, gI_bv]
  exact (BitVec.ofNat_xor (x := a) (y := b)).symm
theorem gI_sm : ∀ k, k < 32 → ((nI k &&& 31).toBitVec.smod 32).toNat = k := by decide +kernel
theorem gI_shl {x k : Nat} (hk : k < 32) (h : x * 2 ^ k < 2 ^ 32) : nI x <<< (nI k &&& 31) = nI (x * 2 ^ k) := pk_shlN _ k (gI_sm k hk) h
theorem gI_shl1 {k : Nat} (hk : k < 32) : (1 : Int32) <<< (nI k &&& 31) = nI (2 ^ k) := by
  have h : (2 : Nat) ^ k < 2 ^ 32 := Nat.pow_lt_pow_right (by decide) hk
  have := gI_shl (x := 1) hk (by omega)
  rw [Nat.one_mul] at this
  exact this
theorem gI_shr {x k : Nat} (hx : x < 2 ^ 31) (hk : k < 32) : nI x >>> (nI k &&& 31) = nI (x / 2 ^ k) := pk_shrN hx _ k (gI_sm k hk)
theorem gI_and1 {x : Nat} (hx : x < 2 ^ 32) : nI x &&& 1 = nI (x % 2) := pk_andN hx 1 rfl
theorem gI_bitn {x k : Nat} : (x / 2 ^ k) % 2 = (x.testBit k).toNat := by
  rw [Nat.testBit_eq_decide_div_mod_eq]
  rcases Nat.mod_two_eq_zero_or_one (x / 2 ^ k) with h | h <;> simp [h]
theorem gI_bit {x k : Nat} (hx : x < 2 ^ 31) (hk : k < 32) : fX12_bit (nI x) (nI k) = nI (x.testBit k).toNat := by
  unfold fX12_bit
  rw [gI_shr hx hk, gI_and1 (by have := Nat.div_le_self x (2 ^ k); omega), gI_bitn]
theorem gI_tn1 {b : Bool} : nI b.toNat = 1 ↔ b = true := by cases b <;> decide
theorem gI_tn0 {b : Bool} : nI b.toNat = 0 ↔ b = false := by cases b <;> decide
theorem gI_not (a b : Nat) (ha : a < 2 ^ 32) : nI a &&& (nI b ^^^ (-1)) = nI (a ^^^ (a &&& b)) := by
  apply Int32.toBitVec_inj.mp
  rw [Int32.toBitVec_and, Int32.toBitVec_xor, gI_bv, gI_bv, gI_bv, show (-1 : Int32).toBitVec = BitVec.allOnes 32 from rfl]
  apply BitVec.eq_of_getLsbD_eq
  intro i hi
  simp only [BitVec.getLsbD_and, BitVec.getLsbD_xor, BitVec.getLsbD_ofNat, BitVec.getLsbD_allOnes, Nat.testBit_xor, Nat.testBit_and, hi, decide_true, Bool.true_and]
  cases a.testBit i <;> cases b.testBit i <;> rfl
theorem gI_andn_lt {a b n : Nat} (h : a < 2 ^ n) : a ^^^ (a &&& b) < 2 ^ n := Nat.xor_lt_two_pow h (Nat.lt_of_le_of_lt Nat.and_le_left h)
theorem gI_tb_andn (a b i : Nat) : (a ^^^ (a &&& b)).testBit i = (a.testBit i && !b.testBit i) := by
  simp only [Nat.testBit_xor, Nat.testBit_and]
  cases a.testBit i <;> cases b.testBit i <;> rfl
theorem gI_zero {x : Nat} (h : x < 2 ^ 31) : nI x = 0 ↔ x = 0 := by rw [← nI_0]; exact nI_eq h (by decide)
/-- reads and writes at small indices -/
theorem gRd {M : goMI} {a n i : Nat} (h : i < n) (hn : n < 2 ^ 31 := by decide) : goRd M a n (nI i) = some (M a i) := by
  unfold goRd
  rw [if_pos ⟨nI_pos' (by omega), by rw [nI_clamp (by omega)]; exact h⟩, nI_clamp (by omega)]
theorem gWr {M : goMI} {a n i : Nat} {x : Int32} (h : i < n) (hn : n < 2 ^ 31 := by decide) : goWr M a n (nI i) x = some (goWI M a i x) := by
  unfold goWr
  rw [if_pos ⟨nI_pos' (by omega), by rw [nI_clamp (by omega)]; exact h⟩, nI_clamp (by omega)]
theorem gWrB {M : goMI} {a n i : Nat} {x : Int32} (h : i < n) (hn : n < 2 ^ 31 := by decide) : goWrB M a n (nI i) x = some (goWI M a i x.toInt8.toInt32) := by
  unfold goWrB
  rw [if_pos ⟨nI_pos' (by omega), by rw [nI_clamp (by omega)]; exact h⟩, nI_clamp (by omega), vp_nar_byte]
theorem gRdL {M : goML} {a n i : Nat} (h : i < n) (hn : n < 2 ^ 31 := by decide) : goRdL M a n (nI i) = some (M a i) := by
  unfold goRdL
  rw [if_pos ⟨nI_pos' (by omega), by rw [nI_clamp (by omega)]; exact h⟩, nI_clamp (by omega)]
theorem gWrL {M : goML} {a n i : Nat} {x : Int64} (h : i < n) (hn : n < 2 ^ 31 := by decide) : goWrL M a n (nI i) x = some (goWL M a i x) := by
  unfold goWrL
  rw [if_pos ⟨nI_pos' (by omega), by rw [nI_clamp (by omega)]; exact h⟩, nI_clamp (by omega)]
theorem gCp {M : goMI} {s ns sp d nd dp n : Nat} (h1 : sp + n ≤ ns) (h2 : dp + n ≤ nd) (hs : ns < 2 ^ 31 := by decide) (hd : nd < 2 ^ 31 := by decide) : goCp M s ns (nI sp) d nd (nI dp) (nI n) = some (fun b => if b = d then va_cpy (M s) (M d) sp dp n else M b) := by
  unfold goCp
  rw [nI_clamp (by omega), nI_clamp (by omega), nI_clamp (by omega), if_pos ⟨nI_pos' (by omega), nI_pos' (by omega), nI_pos' (by omega), h1, h2⟩]
theorem gWI_eq {M : goMI} {a k : Nat} {x : Int32} : goWI M a k x a k = x := by simp [goWI]
theorem gWI_nk {M : goMI} {a k j : Nat} {x : Int32} (h : j ≠ k) : goWI M a k x a j = M a j := by simp [goWI, h]
theorem gWI_na {M : goMI} {a b k j : Nat} {x : Int32} (h : b ≠ a) : goWI M a k x b j = M b j := by simp [goWI, h]
theorem gWI_row {M : goMI} {a b k : Nat} {x : Int32} (h : b ≠ a) : goWI M a k x b = M b := by funext j; simp [goWI, h]
theorem gNm {α β : Type} (e : α) (k : α → β) : goNm e k = k e := rfl
theorem gB2 {α β γ : Type} (a : α) (b : β) (k : α → β → Option γ) : goB2 (some (a, b)) k = k a b := rfl
theorem gB3 {α β γ δ : Type} (a : α) (b : β) (c : γ) (k : α → β → γ → Option δ) : goB3 (some (a, b, c)) k = k a b c := rfl
theorem gB4 {α β γ δ ε : Type} (a : α) (b : β) (c : γ) (d : δ) (k : α → β → γ → δ → Option ε) : goB4 (some (a, b, c, d)) k = k a b c d := rfl
theorem gBd {α β : Type} (a : α) (k : α → Option β) : Option.bind (some a) k = k a := rfl
/-- a loop over fuel: a measure that falls; leaving with Q -/
theorem gLoop {α β : Type} (F : Nat → α → Option β) (P : Nat → α → Prop) (Q : β → Prop) (step : ∀ n j a, P j a → (∃ r, F (n + 1) a = some r ∧ Q r) ∨ ∃ a' j', j' < j ∧ F (n + 1) a = F n a' ∧ P j' a') : ∀ N j a, P j a → j < N → ∃ r, F N a = some r ∧ Q r := by
  intro N
  induction N with
  | zero => intro j a _ h; exact absurd h (Nat.not_lt_zero j)
  | succ n ih =>
    intro j a hP h
    rcases step n j a hP with h1 | ⟨a', j', h2, h3, h4⟩
    · exact h1
    · rw [h3]
      exact ih j' a' h4 (by omega)
/-- a loop for (i = i0; i < e; i++) without an early end -/
theorem gFor {α β : Type} (F : Nat → Nat → α → Option β) (P : Nat → α → Prop) (Q : β → Prop) (e : Nat) (step : ∀ n i a, i < e → P i a → ∃ a', F (n + 1) i a = F n (i + 1) a' ∧ P (i + 1) a') (fin : ∀ n a, P e a → ∃ r, F (n + 1) e a = some r ∧ Q r) : ∀ N i a, i ≤ e → P i a → e - i < N → ∃ r, F N i a = some r ∧ Q r := by
  intro N
  induction N with
  | zero => intro i a _ _ h; exact absurd h (Nat.not_lt_zero _)
  | succ n ih =>
    intro i a hi hP h
    by_cases hie : i = e
    · subst hie
      exact fin n a hP
    · obtain ⟨a', h1, h2⟩ := step n i a (by omega) hP
      rw [h1]
      exact ih (i + 1) a' (by omega) h2 (by omega)
