/-! THE INVARIANT, and calls that only ask -/
def aCnt (A : Nat → Nat) (w : Nat) : Nat := gSum (fun h => gPc (A (w + h))) 12
/-- acts are the same in both, and none too many -/
def aS (A B : Nat → Nat) : Prop := aB A B ∧ aCnt A 0 ≤ 4 ∧ aCnt A 12 ≤ 4
/-- the refs of the component -/
def iR (R : goMR) (t : Nat) : Prop := (t = 7 ∨ t = 37) ∧ R 0 5 = some t ∧ R 0 6 = some (44 - t) ∧ R 74 2 = some t ∧ R 78 1 = some t ∧ R 92 1 = some t
/-- the hill of the model -/
def iM (M : goMI) (R : goMR) (T : tH) : Prop := (R 102 3 = none ∧ T = fun _ _ => 0) ∨ ∃ b, R 102 3 = some b ∧ 121 ≤ b ∧ tM M b T ∧ tOk T
/-- acts, those that can be undone, marks -/
def iA (M : goMI) (R : goMR) (A B : Nat → Nat) : Prop :=
  (∀ i, i < 26 → M 4 i = nI (A i)) ∧ (∀ i, i < 18 → M 105 i = nI (B i)) ∧ aS A B ∧
  (∃ (u : Nat) (As Bs : Nat → Nat → Nat), u ≤ 16 ∧ M 3 3 = nI u ∧ M 102 21 = nI u ∧ (R 102 3 = none → u = 0) ∧ As u = A ∧ Bs u = B ∧ ∀ i, i < u → aS (As i) (Bs i) ∧ (∀ j, j < 18 → M 106 (18 * i + j) = nI (Bs i j)) ∧ ∃ c p, c < 26 ∧ p < 16 ∧ M 5 i = nI (16 * c + p) ∧ ∀ j, j < 26 → As i j = if j = c then As (i + 1) j ^^^ 2 ^ p else As (i + 1) j) ∧
  (∃ m, m ≤ 3 ∧ M 3 4 = nI m ∧ M 102 22 = nI m ∧ (R 102 3 = none → m = 0) ∧ ∀ i, i < m → ∃ A' B', aS A' B' ∧ (∀ j, j < 26 → M 6 (26 * i + j) = nI (A' j)) ∧ ∀ j, j < 18 → M 107 (18 * i + j) = nI (B' j)) ∧
  (R 102 3 = none → (∀ i, i < 26 → A i = 0) ∧ ∀ i, i < 18 → B i = 0)
/-- the tapes -/
def iT (M : goMI) : Prop := ∃ n, n ≤ 1200 ∧ M 1 1 = nI n ∧ M 102 6 = nI n ∧ ∀ i, i < n → M 103 i = M 2 i ∧ ∃ x : Int8, M 2 i = x.toInt32
/-- troubles -/
def iE (M : goMI) : Prop := M 102 1 = M 0 8 ∧ M 102 14 = M 0 7 ∧ M 102 2 = if M 0 8 = 4 then M 67 11 else -1
/-- what is kept of days -/
def kOk (k : Nat) (M : goMI) (T : tH) (A : Nat → Nat) : Prop :=
  (∃ v, v ≤ k ∧ M 3 5 = nI v ∧ (M 74 6 = -1 ∨ ∃ x, x ≤ v ∧ M 74 6 = nI x) ∧ (M 74 7 = -1 ∨ ∃ x, x ≤ v ∧ M 74 7 = nI x)) ∧
  (M 74 7 = M 3 5 → ∃ c, c < T 0 16 ∧ M 74 8 = nI c ∧ dayIs M 78 T A c) ∧
  (M 74 6 = M 3 5 → ∀ c, c < T 0 16 → M 75 c = nI (gBits (dSh T A c) (T 0 7)) ∧ ∀ g h, g < T 0 5 → h < T 0 0 → M 76 (72 * c + (12 * g + h)) = nI (yS T A c h g)) ∧
  (∀ i, i < 72 → ∃ n, n < 12 ∧ M 84 i = nI n) ∧ (∀ i, i < 72 → ∃ n, n < 12 ∧ M 98 i = nI n)
/-- the reserved words of the reader -/
def iL (L : goML) : Prop := ∀ i, i < 18 → some (L 73 i) = (goEw (1000000 + i)).bind (fX11_codeOf 5000)
def iX (k : Nat) (G : goG) (M : goMI) (L : goML) (R : goMR) (t : Nat) (T : tH) (A B : Nat → Nat) : Prop := goW G R ∧ iR R t ∧ tC M t T ∧ iM M R T ∧ iA M R A B ∧ iT M ∧ iE M ∧ kOk k M T A ∧ iL L
/-- the invariant -/
def gInv : goInv := fun k G M L R => ∃ t T A B, iX k G M L R t T A B
/-- what a call that only asks changes in the component -/
def qC (M M1 : goMI) (t : Nat) (w : Int32) : Prop := (∀ b, b ≠ 0 → b < 74 → b ≠ t + 29 → M1 b = M b) ∧ (∀ b, 102 ≤ b → M1 b = M b) ∧ M1 0 7 = M 0 7 ∧ M1 0 8 = w
/-- and in the model -/
def qM (M1 M2 : goMI) (w : Int32) : Prop := (∀ b, b < 102 → M2 b = M1 b) ∧ (∀ b, 103 ≤ b → b ≤ 107 → M2 b = M1 b) ∧ (∀ b, 120 ≤ b → M2 b = M1 b) ∧ (∀ k, k = 6 ∨ k = 14 ∨ k = 21 ∨ k = 22 → M2 102 k = M1 102 k) ∧ M2 102 1 = w ∧ M2 102 2 = -1
theorem dayIs_fr {M M' : goMI} {a c : Nat} {T : tH} {A : Nat → Nat} (h : dayIs M a T A c) (hf : ∀ r, 1 ≤ r → r ≤ 9 → M' (a + r) = M (a + r)) : dayIs M' a T A c := by
  unfold dayIs rJ at *
  simp only [hf 1 (by decide) (by decide), hf 5 (by decide) (by decide), hf 6 (by decide) (by decide), hf 7 (by decide) (by decide), hf 8 (by decide) (by decide), hf 9 (by decide) (by decide)]
  exact h
theorem kOk_fr {k k' : Nat} {M M' : goMI} {T : tH} {A : Nat → Nat} (h : kOk k M T A) (hk : k ≤ k') (h3 : M' 3 = M 3) (hf : ∀ b, 74 ≤ b → b ≤ 101 → M' b = M b) : kOk k' M' T A := by
  obtain ⟨⟨v, k1, k2⟩, k3, k4, k5, k6⟩ := h
  unfold kOk
  rw [h3, hf 74 (by decide) (by decide), hf 75 (by decide) (by decide), hf 76 (by decide) (by decide), hf 84 (by decide) (by decide), hf 98 (by decide) (by decide)]
  refine ⟨⟨v, by omega, k2⟩, fun h => ?_, k4, k5, k6⟩
  obtain ⟨c, c1, c2, c3⟩ := k3 h
  exact ⟨c, c1, c2, dayIs_fr c3 (fun r h1 h2 => hf _ (by omega) (by omega))⟩
theorem iA_fr {M M' : goMI} {R : goMR} {A B : Nat → Nat} (h : iA M R A B) (h3 : M' 3 = M 3) (h4 : M' 4 = M 4) (h5 : M' 5 = M 5) (h6 : M' 6 = M 6) (h105 : M' 105 = M 105) (h106 : M' 106 = M 106) (h107 : M' 107 = M 107) (h21 : M' 102 21 = M 102 21) (h22 : M' 102 22 = M 102 22) : iA M' R A B := by
  unfold iA
  rw [h3, h4, h5, h6, h105, h106, h107, h21, h22]
  exact h
theorem iX_q {k : Nat} {G : goG} {M M1 M2 : goMI} {L : goML} {R : goMR} {t : Nat} {T : tH} {A B : Nat → Nat} {w : Int32} (h : iX k G M L R t T A B) (h1 : qC M M1 t w) (hk : kOk k M1 T A) (h2 : qM M1 M2 w) (hw : w ≠ 4) : iX (k + 1) G M2 L R t T A B := by
  obtain ⟨x1, x2, x3, x4, x5, x6, x7, x8, x9⟩ := h
  obtain ⟨c1, c2, c3, c4⟩ := h1
  obtain ⟨m1, m2, m3, m4, m5, m6⟩ := h2
  have ht : t = 7 ∨ t = 37 := x2.1
  refine ⟨x1, x2, ?_, ?_, ?_, ?_, ?_, ?_, x9⟩
  · exact tC_fr x3 (fun r hr => by rw [m1 _ (by omega), c1 _ (by omega) (by omega) (by omega)])
  · rcases x4 with x4 | ⟨b, b1, b2, b3, b4⟩
    · exact Or.inl x4
    · exact Or.inr ⟨b, b1, b2, tM_fr b3 (fun r hr => by rw [m3 _ (by omega), c2 _ (by omega)]), b4⟩
  · refine iA_fr x5 ?_ ?_ ?_ ?_ ?_ ?_ ?_ ?_ ?_
    · rw [m1 _ (by decide), c1 _ (by decide) (by decide) (by omega)]
    · rw [m1 _ (by decide), c1 _ (by decide) (by decide) (by omega)]
    · rw [m1 _ (by decide), c1 _ (by decide) (by decide) (by omega)]
    · rw [m1 _ (by decide), c1 _ (by decide) (by decide) (by omega)]
    · rw [m2 _ (by decide) (by decide), c2 _ (by decide)]
    · rw [m2 _ (by decide) (by decide), c2 _ (by decide)]
    · rw [m2 _ (by decide) (by decide), c2 _ (by decide)]
    · rw [m4 _ (by decide), c2 _ (by decide)]
    · rw [m4 _ (by decide), c2 _ (by decide)]
  · obtain ⟨n, n1, n2, n3, n4⟩ := x6
    refine ⟨n, n1, ?_, ?_, ?_⟩
    · rw [m1 _ (by decide), c1 _ (by decide) (by decide) (by omega)]; exact n2
    · rw [m4 _ (by decide), c2 _ (by decide)]; exact n3
    · rw [m2 103 (by decide) (by decide), c2 _ (by decide), m1 _ (by decide), c1 _ (by decide) (by decide) (by omega)]; exact n4
  · obtain ⟨e1, e2, e3⟩ := x7
    refine ⟨?_, ?_, ?_⟩
    · rw [m5, m1 _ (by decide), c4]
    · rw [m4 _ (by decide), c2 _ (by decide), m1 _ (by decide), c3]; exact e2
    · rw [m6, m1 0 (by decide), c4, if_neg hw]
  · exact kOk_fr hk (by omega) (m1 _ (by decide)) (fun b _ hb => m1 b (by omega))
theorem kOk_q {k : Nat} {M : goMI} {T : tH} {A : Nat → Nat} {w : Int32} {j : Nat} (h : kOk k M T A) : kOk k (goWI M 0 j w) T A := kOk_fr h (Nat.le_refl _) (goWI_ne (by decide)) (fun b hb _ => goWI_ne (by omega))
theorem qC_0 {M : goMI} {t : Nat} {w : Int32} : qC M (goWI M 0 8 w) t w := ⟨fun b hb _ _ => goWI_ne hb, fun b hb => goWI_ne (by omega), gWI_nk (by decide), by rw [gWI_self, if_pos rfl]⟩
theorem qM_0 {M : goMI} {w : Int32} : qM M (goWI (goWI (goWI M 102 0 0) 102 1 w) 102 2 (-1)) w := by
  refine ⟨fun b hb => ?_, fun b hb _ => ?_, fun b hb => ?_, fun k hk => ?_, ?_, ?_⟩
  · rw [goWI_ne (by omega), goWI_ne (by omega), goWI_ne (by omega)]
  · rw [goWI_ne (by omega), goWI_ne (by omega), goWI_ne (by omega)]
  · rw [goWI_ne (by omega), goWI_ne (by omega), goWI_ne (by omega)]
  · rw [gWI_nk (by omega), gWI_nk (by omega), gWI_nk (by omega)]
  · rw [gWI_nk (by decide), gWI_self, if_pos rfl]
  · rw [gWI_self, if_pos rfl]
/-- the model's call changed only what it may, then says that it is good -/
theorem qM_w {M M' : goMI} {w : Int32} (h1 : ∀ b, b < 102 → M' b = M b) (h2 : ∀ b, 103 ≤ b → b ≤ 107 → M' b = M b) (h3 : ∀ b, 120 ≤ b → M' b = M b) (h4 : ∀ k, k = 6 ∨ k = 14 ∨ k = 21 ∨ k = 22 → M' 102 k = M 102 k) : qM M (goWI (goWI M' 102 1 w) 102 2 (-1)) w := by
  refine ⟨fun b hb => ?_, fun b hb hb' => ?_, fun b hb => ?_, fun k hk => ?_, ?_, ?_⟩
  · rw [goWI_ne (by omega), goWI_ne (by omega)]; exact h1 b hb
  · rw [goWI_ne (by omega), goWI_ne (by omega)]; exact h2 b hb hb'
  · rw [goWI_ne (by omega), goWI_ne (by omega)]; exact h3 b hb
  · rw [gWI_nk (by omega), gWI_nk (by omega)]; exact h4 k hk
  · rw [gWI_nk (by decide), gWI_self, if_pos rfl]
  · rw [gWI_self, if_pos rfl]
/-- within bounds -/
def wi (x : Int32) (n : Nat) : Bool := decide (0 ≤ x ∧ x < nI n)
theorem wi_t {x : Int32} {n : Nat} (hn : n < 2 ^ 31) (h : wi x n = true) : ∃ j, j < n ∧ x = nI j := by
  unfold wi at h
  rw [decide_eq_true_eq] at h
  rcases pk_ix x hn with h1 | h1 | h1
  · exact absurd h1 (Int32.not_lt.mpr h.1)
  · exact absurd h.2 (Int32.not_lt.mpr h1)
  · exact h1
theorem wi_n {j n : Nat} (hj : j < n) (hn : n < 2 ^ 31) : wi (nI j) n = true := decide_eq_true ⟨nI_pos' (by omega), nI_lt hj hn⟩
theorem wi_0 (x : Int32) : wi x 0 = false := by
  unfold wi
  rw [decide_eq_false_iff_not]
  intro h
  exact absurd h.2 (Int32.not_lt.mpr (by rw [nI_0]; exact h.1))
theorem cWithin {x : Int32} {n : Nat} : fX12_within x (nI n) = nI (wi x n).toNat := by
  unfold fX12_within wi
  by_cases c1 : 0 ≤ x
  · by_cases c2 : x < nI n
    · rw [if_pos c1, if_pos c2, decide_eq_true ⟨c1, c2⟩]; rfl
    · rw [if_pos c1, if_neg c2, decide_eq_false (fun h => c2 h.2)]; rfl
  · rw [if_neg c1, decide_eq_false (fun h => c1 h.1)]; rfl
theorem m_isPlace {M : goMI} {R : goMR} {T : tH} (h : iM M R T) (x : Int32) : fX14_isPlace M R x = some (nI (wi x (T 0 2)).toNat) := by
  unfold fX14_isPlace
  rcases h with ⟨h1, h2⟩ | ⟨b, h1, _, h3, _⟩
  · rw [if_pos h1, h2, wi_0]; rfl
  · rw [h1, if_neg (by simp)]
    unfold wi
    by_cases c1 : 0 ≤ x
    · rw [if_pos c1, gBd, tM_0 h3 (by decide)]
      by_cases c2 : x < nI (T 0 2)
      · rw [if_pos c2, decide_eq_true ⟨c1, c2⟩]; rfl
      · rw [if_neg c2, decide_eq_false (fun h => c2 h.2)]; rfl
    · rw [if_neg c1, decide_eq_false (fun h => c1 h.1)]; rfl
theorem m_isPlant {M : goMI} {R : goMR} {T : tH} (h : iM M R T) (x : Int32) : fX14_isPlant M R x = some (nI (wi x (T 0 1)).toNat) := by
  unfold fX14_isPlant
  rcases h with ⟨h1, h2⟩ | ⟨b, h1, _, h3, _⟩
  · rw [if_pos h1, h2, wi_0]; rfl
  · rw [h1, if_neg (by simp)]
    unfold wi
    by_cases c1 : 0 ≤ x
    · rw [if_pos c1, gBd, tM_0 h3 (by decide)]
      by_cases c2 : x < nI (T 0 1)
      · rw [if_pos c2, decide_eq_true ⟨c1, c2⟩]; rfl
      · rw [if_neg c2, decide_eq_false (fun h => c2 h.2)]; rfl
    · rw [if_neg c1, decide_eq_false (fun h => c1 h.1)]; rfl
theorem m_isPerson {M : goMI} {R : goMR} {T : tH} (h : iM M R T) (x : Int32) : fX14_isPerson M R x = some (nI (wi x (T 0 4)).toNat) := by
  unfold fX14_isPerson
  rcases h with ⟨h1, h2⟩ | ⟨b, h1, _, h3, _⟩
  · rw [if_pos h1, h2, wi_0]; rfl
  · rw [h1, if_neg (by simp)]
    unfold wi
    by_cases c1 : 0 ≤ x
    · rw [if_pos c1, gBd, tM_0 h3 (by decide)]
      by_cases c2 : x < nI (T 0 4)
      · rw [if_pos c2, decide_eq_true ⟨c1, c2⟩]; rfl
      · rw [if_neg c2, decide_eq_false (fun h => c2 h.2)]; rfl
    · rw [if_neg c1, decide_eq_false (fun h => c1 h.1)]; rfl
theorem m_isGoat {M : goMI} {R : goMR} {T : tH} (h : iM M R T) (x : Int32) : fX14_isGoat M R x = some (nI (wi x (T 0 5)).toNat) := by
  unfold fX14_isGoat
  rcases h with ⟨h1, h2⟩ | ⟨b, h1, _, h3, _⟩
  · rw [if_pos h1, h2, wi_0]; rfl
  · rw [h1, if_neg (by simp)]
    unfold wi
    by_cases c1 : 0 ≤ x
    · rw [if_pos c1, gBd, tM_0 h3 (by decide)]
      by_cases c2 : x < nI (T 0 5)
      · rw [if_pos c2, decide_eq_true ⟨c1, c2⟩]; rfl
      · rw [if_neg c2, decide_eq_false (fun h => c2 h.2)]; rfl
    · rw [if_neg c1, decide_eq_false (fun h => c1 h.1)]; rfl
theorem m_isClue {M : goMI} {R : goMR} {T : tH} (h : iM M R T) (x : Int32) : fX14_isClue M R x = some (nI (wi x (T 0 7)).toNat) := by
  unfold fX14_isClue
  rcases h with ⟨h1, h2⟩ | ⟨b, h1, _, h3, _⟩
  · rw [if_pos h1, h2, wi_0]; rfl
  · rw [h1, if_neg (by simp)]
    unfold wi
    by_cases c1 : 0 ≤ x
    · rw [if_pos c1, gBd, tM_0 h3 (by decide)]
      by_cases c2 : x < nI (T 0 7)
      · rw [if_pos c2, decide_eq_true ⟨c1, c2⟩]; rfl
      · rw [if_neg c2, decide_eq_false (fun h => c2 h.2)]; rfl
    · rw [if_neg c1, decide_eq_false (fun h => c1 h.1)]; rfl
theorem m_isFact {M : goMI} {R : goMR} {T : tH} (h : iM M R T) (x : Int32) : fX14_isFact M R x = some (nI (wi x (T 0 8)).toNat) := by
  unfold fX14_isFact
  rcases h with ⟨h1, h2⟩ | ⟨b, h1, _, h3, _⟩
  · rw [if_pos h1, h2, wi_0]; rfl
  · rw [h1, if_neg (by simp)]
    unfold wi
    by_cases c1 : 0 ≤ x
    · rw [if_pos c1, gBd, tM_0 h3 (by decide)]
      by_cases c2 : x < nI (T 0 8)
      · rw [if_pos c2, decide_eq_true ⟨c1, c2⟩]; rfl
      · rw [if_neg c2, decide_eq_false (fun h => c2 h.2)]; rfl
    · rw [if_neg c1, decide_eq_false (fun h => c1 h.1)]; rfl
theorem m_isHour {M : goMI} {R : goMR} {T : tH} {b : Nat} (h1 : R 102 3 = some b) (h3 : tM M b T) (x : Int32) : fX14_isHour M R x = some (nI (wi x (T 0 0)).toNat) := by
  unfold fX14_isHour wi
  rw [h1]
  by_cases c1 : 0 ≤ x
  · rw [if_pos c1, gBd, tM_0 h3 (by decide)]
    by_cases c2 : x < nI (T 0 0)
    · rw [if_pos c2, decide_eq_true ⟨c1, c2⟩]; rfl
    · rw [if_neg c2, decide_eq_false (fun h => c2 h.2)]; rfl
  · rw [if_neg c1, decide_eq_false (fun h => c1 h.1)]; rfl
theorem m_isCase {M : goMI} {R : goMR} {T : tH} {N : Nat} (hN : 5000 ≤ N) (h : iM M R T) (x : Int32) : fX14_isCase N M R x = some (nI (wi x (T 0 16)).toNat) := by
  unfold fX14_isCase
  rcases h with ⟨h1, h2⟩ | ⟨b, h1, _, h3, h4⟩
  · rw [if_pos h1, h2, wi_0]; rfl
  · have hz := tO_sz h4
    rw [h1, if_neg (by simp)]
    unfold wi
    by_cases c1 : 0 ≤ x
    · rw [if_pos c1, gBd, mCases h3 (by omega) (tO_stories h4) hN, gBd, ← hz.2.2.2.2.2.2.2.2.2.2.2.2.2.2.2.2]
      by_cases c2 : x < nI (T 0 16)
      · rw [if_pos c2, decide_eq_true ⟨c1, c2⟩]; rfl
      · rw [if_neg c2, decide_eq_false (fun h => c2 h.2)]; rfl
    · rw [if_neg c1, decide_eq_false (fun h => c1 h.1)]; rfl
