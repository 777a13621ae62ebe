/-! LINES: place, its numbers -/
section lines15
variable {T : tH} {p k v : Nat}
theorem tG_or : ∀ a, a < 10 → ∀ b, b < 10 → ∀ c, c < 10 → ∀ v, v < 10 → ((0 + 16 * a + 256 * b + 4096 * c) ||| v) = v + 16 * a + 256 * b + 4096 * c ∧ ((a + 16 * 0 + 256 * b + 4096 * c) ||| v * 16) = a + 16 * v + 256 * b + 4096 * c ∧ ((a + 16 * b + 256 * 0 + 4096 * c) ||| v * 256) = a + 16 * b + 256 * v + 4096 * c ∧ ((a + 16 * b + 256 * c + 4096 * 0) ||| v * 4096) = a + 16 * b + 256 * c + 4096 * v := by decide +kernel
theorem tG_set (hk : k < 4) (hv : v ≤ 9) (h9 : ∀ j, j < 4 → T 1 (4 * p + j) ≤ 9) (h0 : T 1 (4 * p + k) = 0) : tG (tW T 1 (4 * p + k) v) p = tG T p ||| v * 2 ^ (4 * k) := by
  have b0 := h9 0 (by decide)
  have b1 := h9 1 (by decide)
  have b2 := h9 2 (by decide)
  have b3 := h9 3 (by decide)
  rw [Nat.add_zero] at b0
  unfold tG
  have hk4 : k = 0 ∨ k = 1 ∨ k = 2 ∨ k = 3 := by omega
  rcases hk4 with e | e | e | e <;> subst e
  · rw [Nat.add_zero] at h0 ⊢
    rw [tW_e, tW_i (by omega), tW_i (by omega), tW_i (by omega), h0]
    exact ((tG_or _ (by omega) _ (by omega) _ (by omega) v (by omega)).1.symm.trans (by rw [Nat.mul_zero, Nat.pow_zero, Nat.mul_one]))
  · rw [tW_i (by omega), tW_e, tW_i (by omega), tW_i (by omega), h0]
    exact (tG_or _ (by omega) _ (by omega) _ (by omega) v (by omega)).2.1.symm
  · rw [tW_i (by omega), tW_i (by omega), tW_e, tW_i (by omega), h0]
    exact (tG_or _ (by omega) _ (by omega) _ (by omega) v (by omega)).2.2.1.symm
  · rw [tW_i (by omega), tW_i (by omega), tW_i (by omega), tW_e, h0]
    exact (tG_or _ (by omega) _ (by omega) _ (by omega) v (by omega)).2.2.2.symm
theorem tG_ne (hk : k < 4) {p' : Nat} (hp : p' ≠ p) : tG (tW T 1 (4 * p + k) v) p' = tG T p' := by
  unfold tG
  rw [tW_i (by omega), tW_i (by omega), tW_i (by omega), tW_i (by omega)]
theorem gI_shn (hk : k < 4) (hv : v ≤ 9) : nI v <<< (4 * nI k &&& 31) = nI (v * 2 ^ (4 * k)) := by
  have e : (4 : Int32) * nI k = nI (4 * k) := gN_4 k
  have hp : 2 ^ (4 * k) ≤ 2 ^ 12 := Nat.pow_le_pow_right (by decide) (by omega)
  rw [e, gI_shl (by omega) (by
    have : v * 2 ^ (4 * k) ≤ 9 * 2 ^ 12 := Nat.mul_le_mul hv hp
    omega)]
end lines15
