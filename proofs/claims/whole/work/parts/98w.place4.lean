/-! LINES: place, what holds (printed by gen98w.py) -/
section lines18
variable {T U : tH}
theorem pO_place (h : pO T) (h0 : T 0 0 ≠ 0) (h8 : T 0 2 < 8) (hU : ∀ r, r ≠ 1 → U r = T r) (h9 : ∀ j, j < 32 → U 1 j ≤ 9) (hz1 : ∀ j, 4 * T 0 2 + T 0 1 ≤ j → U 1 j = 0) : pO (tW (tW U 0 12 (T 0 12 + 1)) 0 2 (T 0 2 + 1)) := by
  obtain ⟨⟨a0, a1, a2, a3, a4, a5, a6, a7, a8, a9, a10, a11, a13, a15⟩, p14, p1, p2, p4, p5, p6, p12, p13, p17, p19, p20, p22, q0, q1, q2⟩ := h
  have hz : ∀ r, r ≠ 0 → r ≠ 1 → (tW (tW U 0 12 (T 0 12 + 1)) 0 2 (T 0 2 + 1)) r = T r := fun r h1 h2 => by rw [tW_r h1, tW_r h1, hU r h2]
  have r1 : (tW (tW U 0 12 (T 0 12 + 1)) 0 2 (T 0 2 + 1)) 1 = U 1 := by rw [tW_r (by decide), tW_r (by decide)]
  have hf : ∀ j, j ≠ 2 → j ≠ 12 → (tW (tW U 0 12 (T 0 12 + 1)) 0 2 (T 0 2 + 1)) 0 j = T 0 j := fun j h1 h2 => by rw [tW_i h1, tW_i h2, hU 0 (by decide)]
  have f2 : (tW (tW U 0 12 (T 0 12 + 1)) 0 2 (T 0 2 + 1)) 0 2 = T 0 2 + 1 := tW_e
  unfold pO tJ
  unfold tJ at p2
  rw [f2, r1, hf 0 (by decide) (by decide), hf 1 (by decide) (by decide), hf 3 (by decide) (by decide), hf 4 (by decide) (by decide), hf 5 (by decide) (by decide), hf 6 (by decide) (by decide), hf 7 (by decide) (by decide), hf 8 (by decide) (by decide), hf 9 (by decide) (by decide), hf 10 (by decide) (by decide), hf 11 (by decide) (by decide), hf 13 (by decide) (by decide), hf 14 (by decide) (by decide), hf 15 (by decide) (by decide), hz 2 (by decide) (by decide), hz 3 (by decide) (by decide), hz 4 (by decide) (by decide), hz 5 (by decide) (by decide), hz 6 (by decide) (by decide), hz 7 (by decide) (by decide), hz 8 (by decide) (by decide), hz 9 (by decide) (by decide), hz 10 (by decide) (by decide), hz 11 (by decide) (by decide), hz 12 (by decide) (by decide), hz 13 (by decide) (by decide), hz 14 (by decide) (by decide), hz 15 (by decide) (by decide), hz 16 (by decide) (by decide), hz 17 (by decide) (by decide), hz 18 (by decide) (by decide), hz 19 (by decide) (by decide), hz 20 (by decide) (by decide), hz 21 (by decide) (by decide), hz 22 (by decide) (by decide), hz 23 (by decide) (by decide)]
  refine ⟨⟨a0, a1, by omega, a3, a4, a5, a6, a7, a8, a9, a10, a11, a13, a15⟩, p14, h9, fun i hi => ?_, p4, fun p i h' x1 x2 x3 => Nat.lt_succ_of_lt (p5 p i h' x1 x2 x3), fun g hg => ?_, p12, fun k hk => ?_, p17, p19, p20, p22, q0, fun h => absurd h h0, fun j hj => hz1 j (by omega)⟩
  · obtain ⟨u1, u2, u3, u4⟩ := p2 i hi
    exact ⟨by omega, by omega, u3, u4⟩
  · obtain ⟨u1, u2, u3, u4, u5⟩ := p6 g hg
    exact ⟨u1, u2, u3, by omega, u5⟩
  · obtain ⟨u1, u2, u3, u4⟩ := p13 k hk
    exact ⟨u1, u2, by omega, u4⟩
end lines18
