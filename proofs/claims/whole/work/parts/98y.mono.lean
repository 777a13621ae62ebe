/-! THE INVARIANT: it lasts -/
theorem gInv_mono : ∀ k G M L R, gInv k G M L R → gInv (k + 1) G M L R := by
  rintro k G M L R ⟨t, T, A, B, x1, x2, x3, x4, x5, x6, x7, x8, x9⟩
  exact ⟨t, T, A, B, x1, x2, x3, x4, x5, x6, x7, kOk_fr x8 (Nat.le_succ k) rfl (fun _ _ _ => rfl), x9⟩
theorem gInv_W : ∀ k G M L R, gInv k G M L R → goW G R := by
  rintro k G M L R ⟨t, T, A, B, x1, _⟩
  exact x1
theorem gInv_ux : ∀ k G M L R n, gInv k G M L R → G.2 ≤ n → gInv k (goUx G n) M L R := by
  rintro k G M L R n ⟨t, T, A, B, x1, xs⟩ hn
  obtain ⟨w1, w2, w3, w4, w5⟩ := x1
  refine ⟨t, T, A, B, ⟨Nat.le_trans w1 hn, fun a ha => ?_, w3, w4, fun j hj b hb => ?_⟩, xs⟩
  · show (if a < G.2 then G.1 a else (9, 0)) = _
    rw [if_pos (by omega)]
    exact w2 a ha
  · obtain ⟨u1, u2, u3, u4⟩ := w5 j hj b hb
    refine ⟨u1, Nat.le_trans u2 hn, fun i hi => ?_, u4⟩
    show (if b + i < G.2 then G.1 (b + i) else (9, 0)) = _
    rw [if_pos (by omega)]
    exact u3 i hi
