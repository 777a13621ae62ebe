/-! HILL -/
section hill
variable {k : Nat} {G : goG} {M : goMI} {L : goML} {R : goMR} {t : Nat} {T : tH} {A B : Nat → Nat}
theorem goNewR_lt {g a : Nat} (ha : a < g) (h : a ≠ 102) : goNewR R g a = R a := by
  unfold goNewR
  rw [goWR_ne h, rX13_init_lt (by omega), goClR_lt ha]
theorem goNewR_k {g j : Nat} (hg : 102 < g) (h : j ≠ 4) : goNewR R g 102 j = R 102 j := by
  unfold goNewR
  rw [goWR_k h, rX13_init_lt (by omega), goClR_lt hg]
theorem goNewR_4 {g : Nat} : goNewR R g 102 4 = some g := by
  unfold goNewR
  rw [goWR_eq]
theorem goB2_as {α β γ δ ε : Type} {x : Option (α × β)} {y : α → β → Option (γ × δ)} {z : γ → δ → Option ε} : (goB2 x fun a b => goB2 (y a b) z) = goB2 (goB2 x y) z := by
  cases x with
  | none => rfl
  | some z => rfl
/-- the model as it begins to read -/
def mHs (M : goMI) (g e : Nat) : goMI := goWI (goClr (goWI (goWI (goWI (goWI (goWI M 102 0 0) 102 7 (nI e)) 102 6 0) 102 8 0) 102 14 0) g) 102 9 0
theorem mHs_a {g e a : Nat} (hg : a < g) (h : a ≠ 102) : mHs M g e a = M a := by
  unfold mHs
  rw [goWI_ne h, goClr_lt hg, goWI_ne h, goWI_ne h, goWI_ne h, goWI_ne h, goWI_ne h]
theorem mHs_j {g e j : Nat} (hg : 102 < g) (h0 : j ≠ 0) (h6 : j ≠ 6) (h7 : j ≠ 7) (h8 : j ≠ 8) (h9 : j ≠ 9) (h14 : j ≠ 14) : mHs M g e 102 j = M 102 j := by
  unfold mHs
  rw [gWI_nk h9, goClr_lt hg, gWI_nk h14, gWI_nk h8, gWI_nk h6, gWI_nk h7, gWI_nk h0]
theorem mHs_6 {g e : Nat} (hg : 102 < g) : mHs M g e 102 6 = 0 := by
  unfold mHs
  rw [gWI_nk (by decide), goClr_lt hg, gWI_nk (by decide), gWI_nk (by decide), gWI_self, if_pos rfl]
theorem mHs_7 {g e : Nat} (hg : 102 < g) : mHs M g e 102 7 = nI e := by
  unfold mHs
  rw [gWI_nk (by decide), goClr_lt hg, gWI_nk (by decide), gWI_nk (by decide), gWI_nk (by decide), gWI_self, if_pos rfl]
theorem mHs_8 {g e : Nat} (hg : 102 < g) : mHs M g e 102 8 = 0 := by
  unfold mHs
  rw [gWI_nk (by decide), goClr_lt hg, gWI_nk (by decide), gWI_self, if_pos rfl]
theorem mHs_14 {g e : Nat} (hg : 102 < g) : mHs M g e 102 14 = 0 := by
  unfold mHs
  rw [gWI_nk (by decide), goClr_lt hg, gWI_self, if_pos rfl]
theorem mHs_9 {g e : Nat} : mHs M g e 102 9 = 0 := by
  unfold mHs
  rw [gWI_self, if_pos rfl]
theorem mHs_z {g e a j : Nat} (hg : 102 < g) (h : g ≤ a) : mHs M g e a j = 0 := by
  unfold mHs
  rw [gWI_na (by omega)]
  exact if_neg (by omega)
/-- the reading, twice: for what the component does, and for what the model does behind it -/
theorem rRd {s e cnt : Nat} {M1 : goMI} {L1 : goML} {R1 : goMR} {g : Nat} (hs : s = 7 ∨ s = 37) (hg : 121 ≤ g) (hec : e ≤ cnt) (hcnt : cnt ≤ 1200) (h11 : M 1 1 = nI cnt) (hby : ∀ i, i < cnt → M 103 i = M 2 i ∧ ∃ x : Int8, M 2 i = x.toInt32) (h103 : M1 103 = M 103) (hL : iL L) :
    ∃ f Mc' Lc' Mm' Lm', fX9_read 5000 M L R s (nI e) = some (f, Mc', Lc') ∧ (goB2 (fX14_goesOn 5000 (mHs M1 g e) (goClL L1 g)) fun M32 L33 => fX14_readAll 5000 M32 L33 (goNewR R1 g)) = some (Mm', Lm') ∧ Mm' 102 14 = f ∧ gFr2 s g M L (mHs M1 g e) (goClL L1 g) Mc' Lc' Mm' Lm' ∧ ((0 < f ∧ Mm' 102 15 = Mc' 67 11) ∨ (f = 0 ∧ ∃ T', tM Mm' g T' ∧ tC Mc' s T' ∧ tOk T')) :=
  rRead hs hg goNewR_4 hec hcnt h11 (fun i hi => by rw [mHs_a (by omega) (by decide), h103]; exact hby i (by omega)) (mHs_7 (by omega)) (mHs_8 (by omega)) mHs_9 (mHs_14 (by omega)) (fun a j h1 _ => mHs_z (by omega) h1) (fun i hi => kw_L hL hi)
theorem mH99 {M : goMI} : ∃ M', lX14_hill_99 5000 0 M = some M' ∧ (∀ b, b ≠ 105 → M' b = M b) ∧ ∀ j, j < 18 → M' 105 j = 0 := by
  have key : ∀ (d i n : Nat) (M : goMI), i + d = 18 → d < n → ∃ M', lX14_hill_99 n (nI i) M = some M' ∧ (∀ b, b ≠ 105 → M' b = M b) ∧ (∀ j, j < i → M' 105 j = M 105 j) ∧ ∀ j, i ≤ j → j < 18 → M' 105 j = 0 := by
    intro d
    induction d with
    | zero =>
      intro i n M hd hn
      obtain ⟨n, rfl⟩ : ∃ z, n = z + 1 := ⟨n - 1, by omega⟩
      refine ⟨M, ?_, fun _ _ => rfl, fun _ _ => rfl, fun j h1 h2 => absurd h2 (by omega)⟩
      rw [lX14_hill_99, if_neg (show ¬ nI i < 18 from nI_nlt (show 18 ≤ i by omega) (by omega))]
    | succ d ih =>
      intro i n M hd hn
      obtain ⟨n, rfl⟩ : ∃ z, n = z + 1 := ⟨n - 1, by omega⟩
      obtain ⟨M', y1, y2, y3, y4⟩ := ih (i + 1) n (goWI M 105 i 0) (by omega) (by omega)
      refine ⟨M', ?_, fun b hb => by rw [y2 b hb, goWI_ne hb], fun j hj => by rw [y3 j (by omega), gWI_nk (by omega)], fun j h1 h2 => ?_⟩
      · rw [lX14_hill_99, if_pos (show nI i < 18 from nI_lt (b := 18) (by omega) (by decide)), gWr (by omega), gBd, nI_1]
        exact y1
      · by_cases c : j = i
        · rw [y3 j (by omega), c, gWI_self, if_pos rfl]
        · exact y4 j (by omega) h2
  obtain ⟨M', y1, y2, _, y4⟩ := key 18 0 5000 M (by decide) (by decide)
  exact ⟨M', y1, y2, fun j hj => y4 j (Nat.zero_le _) hj⟩
/-- the acts of a new hill -/
def aZ (i : Nat) : Nat := if i = 25 then 63 else 0
def bZ (i : Nat) : Nat := if i = 17 then 63 else 0
theorem aS_z : aS aZ bZ := by
  refine ⟨⟨fun h p hh hp => ?_, rfl, rfl, fun i hi => ?_, fun i hi => ?_, by decide, by decide⟩, by decide, by decide⟩
  · have e1 : aZ h = 0 := if_neg (by omega)
    have e2 : aZ (12 + h) = 0 := if_neg (by omega)
    have e3 : bZ p = 0 := if_neg (by omega)
    have e4 : bZ (8 + p) = 0 := if_neg (by omega)
    rw [e1, e2, e3, e4, Nat.zero_testBit, Nat.zero_testBit]
    exact ⟨rfl, rfl⟩
  · have : aZ i = 0 := if_neg (by omega)
    rw [this]; decide
  · have : bZ i = 0 := if_neg (by omega)
    rw [this]; decide
end hill
