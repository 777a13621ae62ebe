/-! THE INVARIANT: it lasts -/
theorem gInv_mono : ∀ k G M L R, gInv k G M L R → gInv (k + 1) G M L R := by
  rintro k G M L R ⟨t, T, A, B, x1, x2, x3, x4, x5, x6, x7, x8, x9⟩
  exact ⟨t, T, A, B, x1, x2, x3, x4, x5, x6, x7, kOk_fr x8 (Nat.le_succ k) rfl (fun _ _ _ => rfl), x9⟩
theorem gInv_W : ∀ k G M L R, gInv k G M L R → goW G R := by
  rintro k G M L R ⟨t, T, A, B, x1, _⟩
  exact x1
