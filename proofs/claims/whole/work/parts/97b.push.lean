/-! AN ACT IS KEPT -/
def uS (u : Nat) : Nat := if u = 16 then 15 else u
def uJ (u i : Nat) : Nat := if u = 16 then i + 1 else i
section push
variable {k : Nat} {G : goG} {M : goMI} {L : goML} {R : goMR} {t N : Nat} {T : tH} {A B : Nat → Nat}
theorem cTurnA {c p : Nat} (hA : ∀ i, i < 26 → M 4 i = nI (A i)) (hc : c < 26) (hp : p < 16) : ∃ M', fX1_turn M (nI c) (nI p) = some M' ∧ (∀ b, b ≠ 3 → b ≠ 4 → M' b = M b) ∧ (∀ j, j ≠ 5 → M' 3 j = M 3 j) ∧ M' 3 5 = (if c = 25 then M 3 5 else M 3 5 + 1) ∧ ∀ i, i < 26 → M' 4 i = nI (aF A c p i) := by
  unfold fX1_turn
  rw [gRd hc, gBd, hA c hc, gI_shl1 (by omega), gI_xor, gWr hc, gBd]
  have hrow : ∀ i, i < 26 → goWI M 4 c (nI (A c ^^^ 2 ^ p)) 4 i = nI (aF A c p i) := fun i hi => by
    rw [gWI_self]
    unfold aF
    by_cases e : i = c
    · rw [if_pos e, if_pos e, e]
    · rw [if_neg e, if_neg e]; exact hA i hi
  by_cases c25 : c = 25
  · rw [if_pos (by rw [c25]; rfl), if_pos c25]
    exact ⟨_, rfl, fun b _ h4 => goWI_ne h4, fun j _ => by rw [gWI_na (by decide)], by rw [gWI_na (by decide)], hrow⟩
  · rw [if_neg (show ¬ nI c = 25 from fun e => c25 ((nI_eq (a := c) (b := 25) (by omega) (by decide)).mp e)), if_neg c25, gNm]
    refine ⟨_, rfl, fun b h3 h4 => by rw [goWI_ne h3, goWI_ne h4], fun j hj => by rw [gWI_nk hj, gWI_na (by decide)], by rw [gWI_self, if_pos rfl, gWI_na (by decide)], fun i hi => by rw [gWI_na (by decide)]; exact hrow i hi⟩
theorem cSame {c p : Nat} {is : Bool} (hA : ∀ i, i < 26 → M 4 i = nI (A i)) (hc : c < 26) (hp : p < 16) (hAc : A c < 2 ^ 31) (hb : (A c).testBit p = is) : fX1_change M (nI c) (nI p) (nI is.toNat) = some (5, M) := by
  unfold fX1_change
  rw [gRd hc, gBd, hA c hc, gI_bit hAc (by omega), hb, gNm, if_pos]
  cases is <;> rfl
theorem cChange {c p u : Nat} {is : Bool} (hA : ∀ i, i < 26 → M 4 i = nI (A i)) (hc : c < 26) (hp : p < 16) (hAc : A c < 2 ^ 31) (hb : (A c).testBit p = !is) (hu : u ≤ 16) (h33 : M 3 3 = nI u) :
    ∃ M', fX1_change M (nI c) (nI p) (nI is.toNat) = some (0, M') ∧ (∀ b, b ≠ 3 → b ≠ 4 → b ≠ 5 → M' b = M b) ∧ (∀ j, j ≠ 3 → j ≠ 5 → M' 3 j = M 3 j) ∧ M' 3 3 = nI (uS u + 1) ∧ M' 3 5 = (if c = 25 then M 3 5 else M 3 5 + 1) ∧ (∀ i, i < 26 → M' 4 i = nI (aF A c p i)) ∧ (∀ i, i < uS u → M' 5 i = M 5 (uJ u i)) ∧ M' 5 (uS u) = nI (16 * c + p) := by
  have hus : uS u ≤ 15 ∨ u ≠ 16 := by unfold uS; split <;> omega
  have hus2 : uS u < 16 := by unfold uS; split <;> omega
  have pre : ∃ M1, (if (M 3 3) = 16 then Option.bind (goCp M 5 16 1 5 16 0 15) fun M22 => goNm (goWI M22 3 3 ((M22 3 3) - 1)) fun M24 => some M24 else some M) = some M1 ∧ (∀ b, b ≠ 3 → b ≠ 5 → M1 b = M b) ∧ (∀ j, j ≠ 3 → M1 3 j = M 3 j) ∧ M1 3 3 = nI (uS u) ∧ ∀ i, i < uS u → M1 5 i = M 5 (uJ u i) := by
    by_cases c16 : u = 16
    · have cp := gCp (M := M) (s := 5) (ns := 16) (sp := 1) (d := 5) (nd := 16) (dp := 0) (n := 15) (by decide) (by decide)
      have cp' : goCp M 5 16 1 5 16 0 15 = _ := cp
      rw [h33, c16, if_pos (by rfl), cp', gBd, gNm]
      refine ⟨_, rfl, fun b h3 h5 => by rw [goWI_ne h3]; exact if_neg h5, fun j hj => by rw [gWI_nk hj]; rfl, ?_, fun i hi => ?_⟩
      · rw [gWI_self, if_pos rfl]
        show M 3 3 - 1 = _
        rw [h33, c16]; rfl
      · have hi' : i < 15 := hi
        rw [gWI_na (by decide)]
        show (if (5 : Nat) = 5 then va_cpy (M 5) (M 5) 1 0 15 else M 5) i = _
        rw [if_pos rfl, pk_cpy_in (by omega) (by omega), show 1 + (i - 0) = i + 1 by omega]
        rfl
    · have e1 : uS u = u := if_neg c16
      rw [h33, if_neg (show ¬ nI u = 16 from fun e => c16 ((nI_eq (a := u) (b := 16) (by omega) (by decide)).mp e))]
      refine ⟨M, rfl, fun _ _ _ => rfl, fun _ _ => rfl, by rw [e1]; exact h33, fun i hi => ?_⟩
      rw [show uJ u i = i from if_neg c16]
  obtain ⟨M1, p1, p2, p3, p4, p5⟩ := pre
  have hA2 : ∀ i, i < 26 → goWI (goWI M1 5 (uS u) (nI (16 * c + p))) 3 3 (nI (uS u + 1)) 4 i = nI (A i) := fun i hi => by
    rw [gWI_na (by decide), gWI_na (by decide), p2 4 (by decide) (by decide)]; exact hA i hi
  obtain ⟨M2, t1, t2, t3, t4, t5⟩ := cTurnA (p := p) hA2 hc hp
  refine ⟨M2, ?_, fun b h3 h4 h5 => ?_, fun j h3 h5 => ?_, ?_, ?_, t5, fun i hi => ?_, ?_⟩
  · unfold fX1_change
    rw [gRd hc, gBd, hA c hc, gI_bit hAc (by omega), hb, gNm, if_neg (by cases is <;> decide), p1, gBd, p4, gL_16, gM_16, nI_add, gWr hus2, gBd, gNm, gWI_na (by decide), p4, nI_1, t1, gBd]
  · rw [t2 b h3 h4, goWI_ne h3, goWI_ne h5]; exact p2 b h3 h5
  · rw [t3 j h5, gWI_nk h3, gWI_na (by decide)]; exact p3 j h3
  · rw [t3 3 (by decide), gWI_self, if_pos rfl]
  · rw [t4, gWI_nk (by decide), gWI_na (by decide), p3 5 (by decide)]
  · rw [t2 5 (by decide) (by decide), gWI_na (by decide), gWI_nk (by omega)]; exact p5 i hi
  · rw [t2 5 (by decide) (by decide), gWI_na (by decide), gWI_self, if_pos rfl]
theorem mKeeps {u : Nat} (hN : 5000 ≤ N) (hu : u ≤ 16) (h21 : M 102 21 = nI u) : ∃ M', fX14_keeps N M = some M' ∧ (∀ b, b ≠ 102 → b ≠ 106 → M' b = M b) ∧ (∀ j, j ≠ 21 → M' 102 j = M 102 j) ∧ M' 102 21 = nI (uS u + 1) ∧ (∀ i j, i < uS u → j < 18 → M' 106 (18 * i + j) = M 106 (18 * uJ u i + j)) ∧ ∀ j, j < 18 → M' 106 (18 * uS u + j) = M 105 j := by
  have hus2 : uS u < 16 := by unfold uS; split <;> omega
  have pre : ∃ M1, (if (M 102 21) = 16 then Option.bind (lX14_keeps_11 N 0 M) fun M21 => goNm (goWI M21 102 21 ((M21 102 21) - 1)) fun M22 => some M22 else some M) = some M1 ∧ (∀ b, b ≠ 102 → b ≠ 106 → M1 b = M b) ∧ (∀ j, j ≠ 21 → M1 102 j = M 102 j) ∧ M1 102 21 = nI (uS u) ∧ ∀ i j, i < uS u → j < 18 → M1 106 (18 * i + j) = M 106 (18 * uJ u i + j) := by
    by_cases c16 : u = 16
    · have k1 : ∃ M1, lX14_keeps_11 N (nI 0) M = some M1 ∧ (∀ b, b ≠ 106 → M1 b = M b) ∧ ∀ j, j < 270 → M1 106 j = M 106 (j + 18) := by
        refine (gFor (fun n i M' => lX14_keeps_11 n (nI i) M') (fun i M' => (∀ b, b ≠ 106 → M' b = M b) ∧ (∀ j, j < i → M' 106 j = M 106 (j + 18)) ∧ ∀ j, i ≤ j → M' 106 j = M 106 j) (fun M' => (∀ b, b ≠ 106 → M' b = M b) ∧ ∀ j, j < 270 → M' 106 j = M 106 (j + 18)) 270 ?_ ?_ N 0 M (Nat.zero_le _) ⟨fun _ _ => rfl, fun j hj => absurd hj (Nat.not_lt_zero _), fun _ _ => rfl⟩ (by omega))
        · intro n i M1 hi hP
          obtain ⟨q1, q2, q3⟩ := hP
          refine ⟨goWI M1 106 i (M 106 (i + 18)), ?_, fun b hb => by rw [goWI_ne hb]; exact q1 b hb, fun j hj => ?_, fun j hj => by rw [gWI_nk (by omega)]; exact q3 j (by omega)⟩
          · show lX14_keeps_11 _ _ _ = lX14_keeps_11 _ _ _
            rw [lX14_keeps_11, gL_270, if_pos (nI_lt hi (by decide)), gL_18, nI_add, gRd (by omega), gBd, q3 _ (by omega), gWr (by omega), gBd, nI_1]
          · rw [gWI_self]
            by_cases e : j = i
            · rw [if_pos e, e]
            · rw [if_neg e]; exact q2 j (by omega)
        · intro n M1 hP
          refine ⟨M1, ?_, hP.1, hP.2.1⟩
          show lX14_keeps_11 _ _ _ = _
          rw [lX14_keeps_11, gL_270, if_neg (nI_nlt (Nat.le_refl _) (by decide))]
      obtain ⟨M1, e1, e2, e3⟩ := k1
      have e1' : lX14_keeps_11 N 0 M = some M1 := e1
      rw [h21, c16, if_pos (by rfl), e1', gBd, gNm]
      refine ⟨_, rfl, fun b h1 h2 => by rw [goWI_ne h1]; exact e2 b h2, fun j hj => by rw [gWI_nk hj, e2 102 (by decide)], ?_, fun i j hi hj => ?_⟩
      · rw [gWI_self, if_pos rfl, e2 102 (by decide), h21, c16]; rfl
      · have hi' : i < 15 := hi
        rw [gWI_na (by decide), e3 _ (by omega), show uJ 16 i = i + 1 from rfl, show 18 * i + j + 18 = 18 * (i + 1) + j by omega]
    · have e1 : uS u = u := if_neg c16
      rw [h21, if_neg (show ¬ nI u = 16 from fun e => c16 ((nI_eq (a := u) (b := 16) (by omega) (by decide)).mp e))]
      refine ⟨M, rfl, fun _ _ _ => rfl, fun _ _ => rfl, by rw [e1]; exact h21, fun i j hi hj => ?_⟩
      rw [show uJ u i = i from if_neg c16]
  obtain ⟨M1, p1, p2, p3, p4, p5⟩ := pre
  have k2 : ∃ M2, lX14_keeps_51 N (nI 0) M1 = some M2 ∧ (∀ b, b ≠ 106 → M2 b = M1 b) ∧ (∀ j, j < 18 * uS u → M2 106 j = M1 106 j) ∧ ∀ j, j < 18 → M2 106 (18 * uS u + j) = M 105 j := by
    refine gFor (fun n i M' => lX14_keeps_51 n (nI i) M') (fun i M' => (∀ b, b ≠ 106 → M' b = M1 b) ∧ (∀ j, j < 18 * uS u → M' 106 j = M1 106 j) ∧ ∀ j, j < i → M' 106 (18 * uS u + j) = M 105 j) _ 18 ?_ ?_ N 0 M1 (Nat.zero_le _) ⟨fun _ _ => rfl, fun _ _ => rfl, fun j hj => absurd hj (Nat.not_lt_zero _)⟩ (by omega)
    · intro n i M2 hi hP
      obtain ⟨q1, q2, q3⟩ := hP
      refine ⟨goWI M2 106 (18 * uS u + i) (M 105 i), ?_, fun b hb => by rw [goWI_ne hb]; exact q1 b hb, fun j hj => by rw [gWI_nk (by omega)]; exact q2 j hj, fun j hj => ?_⟩
      · show lX14_keeps_51 _ _ _ = lX14_keeps_51 _ _ _
        rw [lX14_keeps_51, gL_18, if_pos (nI_lt hi (by decide)), gRd hi, gBd, q1 105 (by decide), p2 105 (by decide) (by decide), q1 102 (by decide), p4, gN_18, nI_add, gWr (by omega), gBd, nI_1]
      · rw [gWI_self]
        by_cases e : j = i
        · rw [if_pos (by omega), e]
        · rw [if_neg (by omega)]; exact q3 j (by omega)
    · intro n M2 hP
      refine ⟨M2, ?_, hP⟩
      show lX14_keeps_51 _ _ _ = _
      rw [lX14_keeps_51, gL_18, if_neg (nI_nlt (Nat.le_refl _) (by decide))]
  obtain ⟨M2, e1, e2, e3, e4⟩ := k2
  have e1' : lX14_keeps_51 N 0 M1 = some M2 := e1
  unfold fX14_keeps
  rw [p1, gBd, e1', gBd, gNm]
  refine ⟨_, rfl, fun b h1 h2 => by rw [goWI_ne h1, e2 b h2]; exact p2 b h1 h2, fun j hj => by rw [gWI_nk hj, e2 102 (by decide)]; exact p3 j hj, by rw [gWI_self, if_pos rfl, e2 102 (by decide), p4, nI_1], fun i j hi hj => ?_, fun j hj => by rw [gWI_na (by decide)]; exact e4 j hj⟩
  rw [gWI_na (by decide), e3 _ (by omega)]
  exact p5 i j hi hj
/-- a bit is turned in both, and kept -/
theorem iA_push {M2 : goMI} {c p c' p' u : Nat} {As Bs : Nat → Nat → Nat} (h : iA M R A B) (hR : R 102 3 ≠ none)
    (hu : u ≤ 16) (hsu : As u = A) (hbu : Bs u = B) (hst : ∀ i, i < u → aS (As i) (Bs i) ∧ (∀ j, j < 18 → M 106 (18 * i + j) = nI (Bs i j)) ∧ ∃ c p, c < 26 ∧ p < 16 ∧ M 5 i = nI (16 * c + p) ∧ ∀ j, j < 26 → As i j = if j = c then As (i + 1) j ^^^ 2 ^ p else As (i + 1) j)
    (hc : c < 26) (hp : p < 16) (hS : aS (aF A c p) (aF B c' p'))
    (m4 : ∀ i, i < 26 → M2 4 i = nI (aF A c p i)) (m105 : ∀ i, i < 18 → M2 105 i = nI (aF B c' p' i)) (m33 : M2 3 3 = nI (uS u + 1)) (m21 : M2 102 21 = nI (uS u + 1)) (m34 : M2 3 4 = M 3 4) (m22 : M2 102 22 = M 102 22)
    (m5 : ∀ i, i < uS u → M2 5 i = M 5 (uJ u i)) (m5' : M2 5 (uS u) = nI (16 * c + p)) (m106 : ∀ i j, i < uS u → j < 18 → M2 106 (18 * i + j) = M 106 (18 * uJ u i + j)) (m106' : ∀ j, j < 18 → M2 106 (18 * uS u + j) = M 105 j) (m6 : M2 6 = M 6) (m107 : M2 107 = M 107) : iA M2 R (aF A c p) (aF B c' p') := by
  obtain ⟨i1, i2, i3, _, ⟨m, q1, q2, q3, q4, q5⟩, i6⟩ := h
  have hus : uS u < 16 := by unfold uS; split <;> omega
  have huj : ∀ i, i < uS u → uJ u i < u ∧ uJ u (i + 1) = uJ u i + 1 := fun i hi => by
    unfold uS at hi
    unfold uJ
    by_cases c16 : u = 16
    · rw [if_pos c16] at hi
      rw [if_pos c16, if_pos c16]; omega
    · rw [if_neg c16] at hi
      rw [if_neg c16, if_neg c16]; omega
  have hju : uJ u (uS u) = u := by
    unfold uJ uS
    by_cases c16 : u = 16
    · rw [if_pos c16, if_pos c16]; omega
    · rw [if_neg c16, if_neg c16]
  refine ⟨m4, m105, hS, ⟨uS u + 1, fun i => if i ≤ uS u then As (uJ u i) else aF A c p, fun i => if i ≤ uS u then Bs (uJ u i) else aF B c' p', by omega, m33, m21, fun e => absurd e hR, ?_, ?_, fun i hi => ?_⟩, ⟨m, q1, by rw [m34]; exact q2, by rw [m22]; exact q3, q4, by rw [m6, m107]; exact q5⟩, fun e => absurd e hR⟩
  · show (if uS u + 1 ≤ uS u then _ else _) = _
    rw [if_neg (by omega)]
  · show (if uS u + 1 ≤ uS u then _ else _) = _
    rw [if_neg (by omega)]
  · show aS (if i ≤ uS u then As (uJ u i) else aF A c p) (if i ≤ uS u then Bs (uJ u i) else aF B c' p') ∧ (∀ j, j < 18 → M2 106 (18 * i + j) = nI ((if i ≤ uS u then Bs (uJ u i) else aF B c' p') j)) ∧ ∃ c1 p1, c1 < 26 ∧ p1 < 16 ∧ M2 5 i = nI (16 * c1 + p1) ∧ ∀ j, j < 26 → (if i ≤ uS u then As (uJ u i) else aF A c p) j = if j = c1 then (if i + 1 ≤ uS u then As (uJ u (i + 1)) else aF A c p) j ^^^ 2 ^ p1 else (if i + 1 ≤ uS u then As (uJ u (i + 1)) else aF A c p) j
    rw [if_pos (by omega), if_pos (by omega)]
    by_cases e : i = uS u
    · rw [e, hju, hsu, hbu, if_neg (by omega)]
      refine ⟨i3, fun j hj => by rw [m106' j hj]; exact i2 j hj, c, p, hc, hp, m5', fun j _ => ?_⟩
      have := congrFun (aF_aF A c p) j
      unfold aF at this ⊢
      exact this.symm
    · have hlt : i < uS u := by omega
      obtain ⟨u1, u2⟩ := huj i hlt
      obtain ⟨s1, s2, c1, p1, s3, s4, s5, s6⟩ := hst _ u1
      rw [if_pos (by omega), u2]
      exact ⟨s1, fun j hj => by rw [m106 i j hlt hj]; exact s2 j hj, c1, p1, s3, s4, by rw [m5 i hlt]; exact s5, s6⟩
/-- an act in both: what else must hold -/
theorem iX_act {M2 : goMI} {w : Int32} {A' B' : Nat → Nat} (hX : iX k G M L R t T A B) (f : ∀ b, b ≠ 0 → b ≠ 3 → b ≠ 4 → b ≠ 5 → b ≠ 6 → b ≠ 102 → b ≠ 105 → b ≠ 106 → b ≠ 107 → M2 b = M b) (f07 : M2 0 7 = M 0 7) (f08 : M2 0 8 = w) (hw : w ≠ 4) (f1 : M2 102 1 = w) (f2 : M2 102 2 = -1) (f6 : M2 102 6 = M 102 6) (f14 : M2 102 14 = M 102 14) (hA : iA M2 R A' B') (hk : kOk (k + 1) M2 T A') : gInv (k + 1) G M2 L R := by
  obtain ⟨x1, x2, x3, x4, x5, x6, x7, x8, x9⟩ := hX
  have ht := x2.1
  refine ⟨t, T, A', B', x1, x2, tC_fr x3 (fun r hr => f _ (by omega) (by omega) (by omega) (by omega) (by omega) (by omega) (by omega) (by omega) (by omega)), iM_fr x4 (fun b hb => f b (by omega) (by omega) (by omega) (by omega) (by omega) (by omega) (by omega) (by omega) (by omega)), hA, ?_, ?_, hk, x9⟩
  · unfold iT
    rw [f6, f 1 (by decide) (by decide) (by decide) (by decide) (by decide) (by decide) (by decide) (by decide) (by decide), f 2 (by decide) (by decide) (by decide) (by decide) (by decide) (by decide) (by decide) (by decide) (by decide), f 103 (by decide) (by decide) (by decide) (by decide) (by decide) (by decide) (by decide) (by decide) (by decide)]
    exact x6
  · refine ⟨by rw [f1, f08], by rw [f14, f07]; exact x7.2.1, ?_⟩
    rw [f2, f08, if_neg hw]
end push
theorem cDone0 (M : goMI) : fX12_done M 0 = some (1, goWI M 0 8 0) := rfl
theorem cDoneW {M : goMI} {w : Int32} (h : w ≠ 0) : fX12_done M w = some (0, goWI M 0 8 w) := by
  unfold fX12_done
  rw [gNm, if_neg h]
theorem mDen (M : goMI) (w : Int32) : fX14_denied M w = some (0, goWI (goWI M 102 1 w) 102 2 (-1)) := rfl
theorem mGra (M : goMI) : fX14_granted M = some (1, goWI (goWI M 102 1 0) 102 2 (-1)) := rfl
theorem gZ0 : goZr 0 = some 0 := rfl
theorem gZ1 : goZr 1 = some 1 := rfl
