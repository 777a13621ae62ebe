/-! HILL: the call -/
section hill2
variable {k : Nat} {G : goG} {M : goMI} {L : goML} {R : goMR} {t : Nat} {T : tH} {A B : Nat → Nat}
/-- the model's answer behind the reading -/
theorem mHill {M1 : goMI} {L1 : goML} {R1 : goMR} {g e n : Nat} (h6 : M1 102 6 = nI n) (hen : e ≤ n) (hn : n ≤ 1200) : fX14_hill 5000 M1 L1 R1 g (nI e) = goB2 (goB2 (fX14_goesOn 5000 (mHs M1 g e) (goClL L1 g)) fun M32 L33 => fX14_readAll 5000 M32 L33 (goNewR R1 g)) fun M35 L36 =>
  if 0 < (M35 102 14) then
  goNm (goWI M35 102 1 4) fun M59 =>
  goNm (goWI M59 102 2 (M59 102 15)) fun M61 =>
  some ((-1), M61, L36, (goNewR R1 g), true)
  else
  Option.bind ((goNewR R1 g) 102 4) fun b39 =>
  Option.bind (lX14_hill_99 5000 0 M35) fun M45 =>
  Option.bind (goWr M45 105 18 17 63) fun M46 =>
  goNm (goWI M46 102 21 0) fun M48 =>
  goNm (goWI M48 102 22 0) fun M50 =>
  Option.bind ((goWR (goNewR R1 g) 102 3 (some b39)) 102 3) fun b52 =>
  Option.bind (fX13_cases 5000 M50 b52) fun x54 =>
  goB2 (fX14_good M50 x54) fun x56 M57 =>
  some (x56, M57, L36, (goWR (goNewR R1 g) 102 3 (some b39)), true) := by
  have h60 : goWI M1 102 0 0 102 6 = nI n := by rw [gWI_nk (by decide)]; exact h6
  rw [← goB2_as]
  unfold fX14_hill
  rw [gNm, if_pos (nI_pos' (by omega)), h60, if_neg (nI_nlt hen (by omega))]
  rfl
/-- what lasts where the model has read -/
theorem hLast {s e n : Nat} {M1 Mc' Mm' M2 : goMI} {L1 Lc' Lm' : goML} {g : Nat} {a : Nat} (hg : a < g) (f2 : gFr2 s g M L (mHs M1 g e) (goClL L1 g) Mc' Lc' Mm' Lm') (h2 : M2 a = Mm' a) (h102 : a ≠ 102) (h104 : a ≠ 104) : M2 a = M1 a := by
  rw [h2, f2.2.2.1 a h102 h104 (Or.inl hg), mHs_a hg h102]
theorem go_hill : goS_hill gInv := by
  rintro k G M L R a1 ⟨t, T, A, B, hX⟩ hk hG
  obtain ⟨x1, x2, x3, x4, x5, x6, x7, x8, x9⟩ := id hX
  obtain ⟨n, n1, n2, n3, n4⟩ := x6
  have hg : 121 ≤ G.2 := x1.1
  obtain ⟨ht, y05, y06, y74, y78, y92⟩ := x2
  have no : (¬ 0 ≤ a1 ∨ (0 ≤ a1 ∧ nI n < a1)) → ∃ (N : Nat) (r : Int32) (M1 : goMI) (L1 : goML) (R1 : goMR) (M2 : goMI) (L2 : goML) (R2 : goMR) (z : Bool), fX12_hill N M L R a1 = some (r, M1, L1, R1) ∧ goW G R1 ∧ fX14_hill N M1 L1 R1 G.2 a1 = some (r, M2, L2, R2, z) ∧ gInv (k + 1) (cond z (goGb G goMsh) G) M2 L2 R2 := by
    intro hno
    refine ⟨5000, -1, goWI M 0 8 2, L, R, goWI (goWI (goWI (goWI M 0 8 2) 102 0 0) 102 1 2) 102 2 (-1), L, R, false, ?_, x1, ?_, iNo hX (w := 2) (by decide)⟩
    · unfold fX12_hill
      rcases hno with h | ⟨h1, h2⟩
      · rw [if_neg h, cRef, gB2]
      · rw [if_pos h1, n2, if_pos h2, cRef, gB2]
    · unfold fX14_hill
      have h6 : goWI (goWI M 0 8 2) 102 0 0 102 6 = nI n := by rw [gWI_nk (by decide), gWI_na (by decide)]; exact n3
      rcases hno with h | ⟨h1, h2⟩
      · rw [gNm, if_neg h, mRef, gB2]
      · rw [gNm, if_pos h1, h6, if_pos h2, mRef, gB2]
  rcases pk_ix a1 (show n + 1 < 2 ^ 31 by omega) with h1 | h1 | ⟨e, he, rfl⟩
  · exact no (Or.inl (Int32.not_le.mpr h1))
  · have h2 : nI n < a1 := Int32.lt_of_lt_of_le (nI_lt (Nat.lt_succ_self n) (by omega)) h1
    exact no (Or.inr ⟨Int32.le_trans (nI_pos' (n := n) (by omega)) (Int32.le_of_lt h2), h2⟩)
  have hs : 44 - t = 7 ∨ 44 - t = 37 := by omega
  generalize hsd : 44 - t = s at hs y06
  have r06 : goRr R 0 6 = s := by
    unfold goRr
    rw [y06]
    rfl
  have ra6 : goRr (rX9_read R s) 0 6 = s := by
    unfold goRr rX9_read
    rw [goWR_ne (by decide), y06]
    rfl
  have ra5 : goRr (rX9_read R s) 0 5 = t := by
    unfold goRr rX9_read
    rw [goWR_ne (by decide), y05]
    rfl
  have hWa : goW G (rX9_read R s) := rX9_read_W x1 hs
  obtain ⟨f, Mc, Lc, Mm0, Lm0, c1, c2, c3, c4, c5⟩ := rRd (M := M) (L := L) (R := R) (M1 := M) (L1 := L) (R1 := R) (s := s) (e := e) (cnt := n) (g := G.2) hs hg (by omega) n1 n2 n4 rfl x9
  have cfr : ∀ a, a ≠ 1 → a ≠ 67 → (a < 69 ∨ 72 < a) → (a < s ∨ s + 29 < a) → Mc a = M a := c4.1
  have clf : ∀ a, a ≠ 1 → a ≠ 67 → a ≠ 68 → Lc a = L a := c4.2.1
  have hcl : fX12_hill 5000 M L R (nI e) = goNm (goWI Mc 0 7 f) fun M21 => goNm (goWI M21 1 1 0) fun M23 => if (M23 0 7) = 0 then
      Option.bind (fX1_clear 5000 M23) fun M28 => goB2 (fX12_answer M28 (M28 s 5)) fun x35 M36 => some (x35, M36, Lc, rX8_use (rX4_use (goWR (goWR (rX9_read R s) 0 5 (some s)) 0 6 (some t)) s) s)
      else goB2 (fX12_refuse M23 4) fun x38 M39 => some (x38, M39, Lc, rX9_read R s) := by
    have rb5 : goRr (goWR (goWR (rX9_read R s) 0 5 (some s)) 0 6 (some t)) 0 5 = s := by
      unfold goRr
      rw [goWR_k (by decide), goWR_eq]
      rfl
    have rc5 : goRr (rX4_use (goWR (goWR (rX9_read R s) 0 5 (some s)) 0 6 (some t)) s) 0 5 = s := by
      unfold rX4_use goRr
      rw [goWR_ne (by decide), goWR_ne (by decide), goWR_k (by decide), goWR_eq]
      rfl
    have rd5 : goRr (rX8_use (rX4_use (goWR (goWR (rX9_read R s) 0 5 (some s)) 0 6 (some t)) s) s) 0 5 = s := by
      unfold rX8_use rX4_use goRr
      rw [goWR_ne (by decide), goWR_ne (by decide), goWR_ne (by decide), goWR_k (by decide), goWR_eq]
      rfl
    unfold fX12_hill
    rw [if_pos (nI_pos' (by omega)), n2, if_neg (nI_nlt (by omega) (by omega)), r06, c1, gB3, ra6, ra5, rb5, rc5, rd5]
    rfl
  have hby : ∀ i, i < n → M 103 i = M 2 i ∧ ∃ x : Int8, M 2 i = x.toInt32 := n4
  have c07 : goWI (goWI Mc 0 7 f) 1 1 0 0 7 = f := by rw [gWI_na (by decide), gWI_self, if_pos rfl]
  rcases c5 with ⟨hf, _⟩ | ⟨hf, _⟩
  · -- a fault
    have hf0 : ¬ f = 0 := fun e => by rw [e] at hf; exact absurd hf (by decide)
    rw [gNm, gNm, c07, if_neg hf0, cRef, gB2] at hcl
    generalize hM1 : goWI (goWI (goWI Mc 0 7 f) 1 1 0) 0 8 4 = M1 at hcl
    have q0 : ∀ a, a ≠ 0 → a ≠ 1 → M1 a = Mc a := fun a h0 h1 => by rw [← hM1, goWI_ne h0, goWI_ne h1, goWI_ne h0]
    have q7 : M1 0 7 = f := by rw [← hM1, gWI_nk (by decide), gWI_na (by decide), gWI_self, if_pos rfl]
    have q8 : M1 0 8 = 4 := by rw [← hM1, gWI_self, if_pos rfl]
    have q11 : M1 1 1 = 0 := by rw [← hM1, gWI_na (by decide), gWI_self, if_pos rfl]
    have q102 : M1 102 = M 102 := by rw [q0 102 (by decide) (by decide), cfr 102 (by decide) (by decide) (by decide) (by omega)]
    obtain ⟨f', Mc', Lc', Mm, Lm, d1, d2, d3, d4, d5⟩ := rRd (M := M) (L := L) (R := R) (M1 := M1) (L1 := Lc) (R1 := rX9_read R s) (s := s) (e := e) (cnt := n) (g := G.2) hs hg (by omega) n1 n2 n4 (by rw [q0 103 (by decide) (by decide), cfr 103 (by decide) (by decide) (by decide) (by omega)]) x9
    rw [c1] at d1
    obtain ⟨rfl, rfl, rfl⟩ : f = f' ∧ Mc = Mc' ∧ Lc = Lc' := by
      have := Option.some.inj d1
      exact ⟨congrArg Prod.fst this, congrArg (fun z => z.2.1) this, congrArg (fun z => z.2.2) this⟩
    have d15 : Mm 102 15 = Mc 67 11 := by
      rcases d5 with ⟨_, h⟩ | ⟨h, _⟩
      · exact h
      · exact absurd h hf0
    have hm : fX14_hill 5000 M1 Lc (rX9_read R s) G.2 (nI e) = some (-1, goWI (goWI Mm 102 1 4) 102 2 (Mm 102 15), Lm, goNewR (rX9_read R s) G.2, true) := by
      rw [mHill (n := n) (by rw [q102]; exact n3) (by omega) n1, d2, gB2, d3, if_pos hf, gNm, gNm, gWI_nk (by decide)]
    have m2 : ∀ a, a ≠ 102 → goWI (goWI Mm 102 1 4) 102 2 (Mm 102 15) a = Mm a := fun a h => by rw [goWI_ne h, goWI_ne h]
    generalize hM2 : goWI (goWI Mm 102 1 4) 102 2 (Mm 102 15) = M2 at hm m2
    have j1 : M2 102 1 = 4 := by rw [← hM2, gWI_nk (by decide), gWI_self, if_pos rfl]
    have j2 : M2 102 2 = Mc 67 11 := by rw [← hM2, gWI_self, if_pos rfl]; exact d15
    have jj : ∀ j, 17 < j → M2 102 j = M 102 j := fun j hj => by
      rw [← hM2, gWI_nk (by omega), gWI_nk (by omega), d4.2.2.2.1 j (Or.inr hj), mHs_j (by omega) (by omega) (by omega) (by omega) (by omega) (by omega) (by omega), q102]
    have j6 : M2 102 6 = 0 := by rw [← hM2, gWI_nk (by decide), gWI_nk (by decide), d4.2.2.2.1 6 (by decide), mHs_6 (by omega)]
    have j14 : M2 102 14 = f := by rw [← hM2, gWI_nk (by decide), gWI_nk (by decide)]; exact d3
    have la : ∀ a, a < G.2 → a ≠ 102 → a ≠ 104 → M2 a = M1 a := fun a h1 h2 h3 => hLast (n := n) h1 d4 (m2 a h2) h2 h3
    have lb : ∀ a, a < G.2 → a ≠ 102 → a ≠ 104 → a ≠ 0 → a ≠ 1 → a ≠ 67 → (a < 69 ∨ 72 < a) → (a < s ∨ s + 29 < a) → M2 a = M a := fun a h1 h2 h3 h4 h5 h6 h7 h8 => by rw [la a h1 h2 h3, q0 a h4 h5, cfr a h5 h6 h7 h8]
    have hR3 : goNewR (rX9_read R s) G.2 102 3 = R 102 3 := by
      rw [goNewR_k (by omega) (by decide)]
      unfold rX9_read
      rw [goWR_ne (by decide)]
    have hRa : ∀ a, a < G.2 → a ≠ 102 → a ≠ 67 → goNewR (rX9_read R s) G.2 a = R a := fun a h1 h2 h3 => by
      rw [goNewR_lt h1 h2]
      unfold rX9_read
      rw [goWR_ne h3]
    refine ⟨5000, -1, M1, Lc, rX9_read R s, M2, Lm, goNewR (rX9_read R s) G.2, true, hcl, hWa, hm, t, T, A, B, goW_hill hWa, ⟨ht, ?_, ?_, ?_, ?_, ?_⟩, ?_, ?_, ?_, ⟨0, by decide, ?_, j6, fun i hi => absurd hi (Nat.not_lt_zero _)⟩, ⟨?_, ?_, ?_⟩, ?_, ?_⟩
    · rw [hRa 0 (by omega) (by decide) (by decide)]; exact y05
    · rw [hRa 0 (by omega) (by decide) (by decide), hsd]; exact y06
    · rw [hRa 74 (by omega) (by decide) (by decide)]; exact y74
    · rw [hRa 78 (by omega) (by decide) (by decide)]; exact y78
    · rw [hRa 92 (by omega) (by decide) (by decide)]; exact y92
    · exact tC_fr x3 (fun r hr => lb _ (by omega) (by omega) (by omega) (by omega) (by omega) (by omega) (by omega) (by omega))
    · rcases x4 with ⟨z1, z2⟩ | ⟨b, z1, z2, z3, z4⟩
      · exact Or.inl ⟨by rw [hR3]; exact z1, z2⟩
      · have hbm := goW_M3 x1 z1
        have hbg := hbm.2.1
        exact Or.inr ⟨b, by rw [hR3]; exact z1, z2, tM_fr z3 (fun r hr => lb _ (by omega) (by omega) (by omega) (by omega) (by omega) (by omega) (by omega) (by omega)), z4⟩
    · have hA : iA M2 R A B := iA_fr x5 (lb 3 (by omega) (by omega) (by omega) (by omega) (by omega) (by omega) (by omega) (by omega)) (lb 4 (by omega) (by omega) (by omega) (by omega) (by omega) (by omega) (by omega) (by omega)) (lb 5 (by omega) (by omega) (by omega) (by omega) (by omega) (by omega) (by omega) (by omega)) (lb 6 (by omega) (by omega) (by omega) (by omega) (by omega) (by omega) (by omega) (by omega)) (lb 105 (by omega) (by omega) (by omega) (by omega) (by omega) (by omega) (by omega) (by omega)) (lb 106 (by omega) (by omega) (by omega) (by omega) (by omega) (by omega) (by omega) (by omega)) (lb 107 (by omega) (by omega) (by omega) (by omega) (by omega) (by omega) (by omega) (by omega)) (jj 21 (by decide)) (jj 22 (by decide))
      unfold iA at hA ⊢
      rw [hR3]
      exact hA
    · rw [la 1 (by omega) (by decide) (by decide)]; exact q11
    · rw [j1, la 0 (by omega) (by decide) (by decide), q8]
    · rw [j14, la 0 (by omega) (by decide) (by decide), q7]
    · rw [j2, la 0 (by omega) (by decide) (by decide), q8, if_pos rfl, la 67 (by omega) (by decide) (by decide), q0 67 (by decide) (by decide)]
    · exact kOk_fr x8 (Nat.le_succ k) (lb 3 (by omega) (by omega) (by omega) (by omega) (by omega) (by omega) (by omega) (by omega)) (fun b h1 h2 => lb b (by omega) (by omega) (by omega) (by omega) (by omega) (by omega) (by omega) (by omega))
    · intro i hi
      rw [d4.2.2.2.2 73 (by decide) (by omega), goClL_lt (by omega), clf 73 (by decide) (by decide) (by decide)]
      exact x9 i hi
  · -- a hill
    rw [gNm, gNm, c07, if_pos hf] at hcl
    obtain ⟨N1, z1, z2, z3⟩ := gFill (M := goWI (goWI Mc 0 7 f) 1 1 0) (a := 4) (n := 26) (N := 5000) (v := 0) (by decide) (by decide)
    have hc1 : fX1_clear 5000 (goWI (goWI Mc 0 7 f) 1 1 0) = some (goWI (goWI (goWI (goWI N1 4 25 63) 3 3 0) 3 4 0) 3 5 (Mc 3 5 + 1)) := by
      unfold fX1_clear
      rw [z1, gBd, show goWr N1 4 26 25 63 = some (goWI N1 4 25 63) from gWr (i := 25) (by decide), gBd, gNm, gNm, gNm, gWI_nk (by decide), gWI_nk (by decide), gWI_na (by decide), z2 3 (by decide), gWI_na (by decide), gWI_na (by decide)]
    rw [hc1, gBd, cAns, gB2] at hcl
    generalize hM1 : goWI (goWI (goWI (goWI (goWI N1 4 25 63) 3 3 0) 3 4 0) 3 5 (Mc 3 5 + 1)) 0 8 0 = M1 at hcl
    have q0 : ∀ a, a ≠ 0 → a ≠ 1 → a ≠ 3 → a ≠ 4 → M1 a = Mc a := fun a h0 h1 h3 h4 => by rw [← hM1, goWI_ne h0, goWI_ne h3, goWI_ne h3, goWI_ne h3, goWI_ne h4, z2 a h4, goWI_ne h1, goWI_ne h0]
    have q7 : M1 0 7 = 0 := by rw [← hM1, gWI_nk (by decide), gWI_na (by decide), gWI_na (by decide), gWI_na (by decide), gWI_na (by decide), z2 0 (by decide), c07, hf]
    have q8 : M1 0 8 = 0 := by rw [← hM1, gWI_self, if_pos rfl]
    have q11 : M1 1 1 = 0 := by rw [← hM1, gWI_na (by decide), gWI_na (by decide), gWI_na (by decide), gWI_na (by decide), gWI_na (by decide), z2 1 (by decide), gWI_self, if_pos rfl]
    have q35 : M1 3 5 = M 3 5 + 1 := by rw [← hM1, gWI_na (by decide), gWI_self, if_pos rfl, cfr 3 (by decide) (by decide) (by decide) (by omega)]
    have q33 : M1 3 3 = 0 := by rw [← hM1, gWI_na (by decide), gWI_nk (by decide), gWI_nk (by decide), gWI_self, if_pos rfl]
    have q34 : M1 3 4 = 0 := by rw [← hM1, gWI_na (by decide), gWI_nk (by decide), gWI_self, if_pos rfl]
    have q4 : ∀ i, i < 26 → M1 4 i = nI (aZ i) := fun i hi => by
      rw [← hM1, gWI_na (by decide), gWI_na (by decide), gWI_na (by decide), gWI_na (by decide), gWI_self]
      unfold aZ
      by_cases c : i = 25
      · rw [if_pos c, if_pos c]; rfl
      · rw [if_neg c, if_neg c, z3 i hi]; rfl
    have q102 : M1 102 = M 102 := by rw [q0 102 (by decide) (by decide) (by decide) (by decide), cfr 102 (by decide) (by decide) (by decide) (by omega)]
    have e5 : goWI (goWI (goWI (goWI N1 4 25 63) 3 3 0) 3 4 0) 3 5 (Mc 3 5 + 1) s 5 = Mc s 5 := by rw [gWI_na (by omega), gWI_na (by omega), gWI_na (by omega), gWI_na (by omega), z2 s (by omega), gWI_na (by omega), gWI_na (by omega)]
    rw [e5] at hcl
    have hWb : goW G (goWR (goWR (rX9_read R s) 0 5 (some s)) 0 6 (some t)) := pt_0_6 (pt_0_5 hWa hs) ht
    have hW1 : goW G (rX8_use (rX4_use (goWR (goWR (rX9_read R s) 0 5 (some s)) 0 6 (some t)) s) s) := rX8_use_W (rX4_use_W hWb hs) hs
    have s05 : rX8_use (rX4_use (goWR (goWR (rX9_read R s) 0 5 (some s)) 0 6 (some t)) s) s 0 5 = some s := by
      unfold rX8_use rX4_use
      rw [goWR_ne (by decide), goWR_ne (by decide), goWR_ne (by decide), goWR_k (by decide), goWR_eq]
    have s06 : rX8_use (rX4_use (goWR (goWR (rX9_read R s) 0 5 (some s)) 0 6 (some t)) s) s 0 6 = some t := by
      unfold rX8_use rX4_use
      rw [goWR_ne (by decide), goWR_ne (by decide), goWR_ne (by decide), goWR_eq]
    have s74 : rX8_use (rX4_use (goWR (goWR (rX9_read R s) 0 5 (some s)) 0 6 (some t)) s) s 74 2 = some s := by
      unfold rX8_use rX4_use
      rw [goWR_ne (by decide), goWR_ne (by decide), goWR_eq]
    have s78 : rX8_use (rX4_use (goWR (goWR (rX9_read R s) 0 5 (some s)) 0 6 (some t)) s) s 78 1 = some s := by
      unfold rX8_use rX4_use
      rw [goWR_ne (by decide), goWR_eq]
    have s92 : rX8_use (rX4_use (goWR (goWR (rX9_read R s) 0 5 (some s)) 0 6 (some t)) s) s 92 1 = some s := by
      unfold rX8_use
      rw [goWR_eq]
    generalize hR1 : rX8_use (rX4_use (goWR (goWR (rX9_read R s) 0 5 (some s)) 0 6 (some t)) s) s = R1 at hcl hW1 s05 s06 s74 s78 s92
    obtain ⟨f', Mc', Lc', Mm, Lm, d1, d2, d3, d4, d5⟩ := rRd (M := M) (L := L) (R := R) (M1 := M1) (L1 := Lc) (R1 := R1) (s := s) (e := e) (cnt := n) (g := G.2) hs hg (by omega) n1 n2 n4 (by rw [q0 103 (by decide) (by decide) (by decide) (by decide), cfr 103 (by decide) (by decide) (by decide) (by omega)]) x9
    rw [c1] at d1
    obtain ⟨rfl, rfl, rfl⟩ : f = f' ∧ Mc = Mc' ∧ Lc = Lc' := by
      have := Option.some.inj d1
      exact ⟨congrArg Prod.fst this, congrArg (fun z => z.2.1) this, congrArg (fun z => z.2.2) this⟩
    obtain ⟨T', hM', hC', hO'⟩ : ∃ T', tM Mm G.2 T' ∧ tC Mc s T' ∧ tOk T' := by
      rcases d5 with ⟨h, _⟩ | ⟨_, h⟩
      · rw [hf] at h; exact absurd h (by decide)
      · exact h
    obtain ⟨M5, w1, w2, w3⟩ := mH99 (M := Mm)
    have n0 : ¬ 0 < Mm 102 14 := by rw [d3, hf]; decide
    have hM5 : tM (goWI (goWI (goWI M5 105 17 63) 102 21 0) 102 22 0) G.2 T' := tM_fr hM' (fun r hr => by rw [goWI_ne (by omega), goWI_ne (by omega), goWI_ne (by omega), w2 _ (by omega)])
    have hm : fX14_hill 5000 M1 Lc R1 G.2 (nI e) = some (nI (T' 0 16), goWI (goWI (goWI (goWI (goWI M5 105 17 63) 102 21 0) 102 22 0) 102 1 0) 102 2 (-1), Lm, goWR (goNewR R1 G.2) 102 3 (some G.2), true) := by
      rw [mHill (n := n) (by rw [q102]; exact n3) (by omega) n1, d2, gB2, if_neg n0, goNewR_4, gBd, w1, gBd, show goWr M5 105 18 17 63 = some (goWI M5 105 17 63) from gWr (i := 17) (by decide), gBd, gNm, gNm, goWR_eq, gBd, mCasesT hM5 hO' (by decide), gBd, mGood, gB2]
    have m2 : ∀ a, a ≠ 102 → a ≠ 105 → goWI (goWI (goWI (goWI (goWI M5 105 17 63) 102 21 0) 102 22 0) 102 1 0) 102 2 (-1) a = Mm a := fun a h h5 => by rw [goWI_ne h, goWI_ne h, goWI_ne h, goWI_ne h, goWI_ne h5, w2 a h5]
    generalize hM2 : goWI (goWI (goWI (goWI (goWI M5 105 17 63) 102 21 0) 102 22 0) 102 1 0) 102 2 (-1) = M2 at hm m2
    have j1 : M2 102 1 = 0 := by rw [← hM2, gWI_nk (by decide), gWI_self, if_pos rfl]
    have j2 : M2 102 2 = -1 := by rw [← hM2, gWI_self, if_pos rfl]
    have j21 : M2 102 21 = 0 := by rw [← hM2, gWI_nk (by decide), gWI_nk (by decide), gWI_nk (by decide), gWI_self, if_pos rfl]
    have j22 : M2 102 22 = 0 := by rw [← hM2, gWI_nk (by decide), gWI_nk (by decide), gWI_self, if_pos rfl]
    have j6 : M2 102 6 = 0 := by rw [← hM2, gWI_nk (by decide), gWI_nk (by decide), gWI_nk (by decide), gWI_nk (by decide), gWI_na (by decide), w2 102 (by decide), d4.2.2.2.1 6 (by decide), mHs_6 (by omega)]
    have j14 : M2 102 14 = 0 := by rw [← hM2, gWI_nk (by decide), gWI_nk (by decide), gWI_nk (by decide), gWI_nk (by decide), gWI_na (by decide), w2 102 (by decide), d3, hf]
    have j105 : ∀ i, i < 18 → M2 105 i = nI (bZ i) := fun i hi => by
      rw [← hM2, gWI_na (by decide), gWI_na (by decide), gWI_na (by decide), gWI_na (by decide), gWI_self]
      unfold bZ
      by_cases c : i = 17
      · rw [if_pos c, if_pos c]; rfl
      · rw [if_neg c, if_neg c, w3 i hi]; rfl
    have la : ∀ a, a < G.2 → a ≠ 102 → a ≠ 104 → a ≠ 105 → M2 a = M1 a := fun a h1 h2 h3 h4 => hLast (n := n) h1 d4 (m2 a h2 h4) h2 h3
    have hRa : ∀ a, a < G.2 → a ≠ 102 → goWR (goNewR R1 G.2) 102 3 (some G.2) a = R1 a := fun a h1 h2 => by
      rw [goWR_ne h2, goNewR_lt h1 h2]
    have hWn := goW_hill hW1
    have hIsM : goIsM (goGb G goMsh) (goNewR R1 G.2) G.2 := goW_M4 hWn goNewR_4
    have hcl' : fX12_hill 5000 M L R (nI e) = some (nI (T' 0 16), M1, Lc, R1) := by rw [hcl, tC_cases hC']
    refine ⟨5000, nI (T' 0 16), M1, Lc, R1, M2, Lm, goWR (goNewR R1 G.2) 102 3 (some G.2), true, hcl', hW1, hm, s, T', aZ, bZ, goW_setM hWn (Or.inl rfl) hIsM, ⟨hs, ?_, ?_, ?_, ?_, ?_⟩, ?_, ?_, ?_, ⟨0, by decide, ?_, j6, fun i hi => absurd hi (Nat.not_lt_zero _)⟩, ⟨?_, ?_, ?_⟩, ?_, ?_⟩
    · rw [hRa 0 (by omega) (by decide)]; exact s05
    · rw [hRa 0 (by omega) (by decide), show 44 - s = t by omega]; exact s06
    · rw [hRa 74 (by omega) (by decide)]; exact s74
    · rw [hRa 78 (by omega) (by decide)]; exact s78
    · rw [hRa 92 (by omega) (by decide)]; exact s92
    · exact tC_fr hC' (fun r hr => by rw [la _ (by omega) (by omega) (by omega) (by omega), q0 _ (by omega) (by omega) (by omega) (by omega)])
    · exact Or.inr ⟨G.2, goWR_eq, hg, tM_fr hM' (fun r hr => m2 _ (by omega) (by omega)), hO'⟩
    · have hno : goWR (goNewR R1 G.2) 102 3 (some G.2) 102 3 = some G.2 := goWR_eq
      refine ⟨fun i hi => by rw [la 4 (by omega) (by decide) (by decide) (by decide)]; exact q4 i hi, j105, aS_z, ⟨0, fun _ => aZ, fun _ => bZ, by decide, by rw [la 3 (by omega) (by decide) (by decide) (by decide)]; exact q33, j21, fun _ => rfl, rfl, rfl, fun i hi => absurd hi (Nat.not_lt_zero _)⟩, ⟨0, by decide, by rw [la 3 (by omega) (by decide) (by decide) (by decide)]; exact q34, j22, fun _ => rfl, fun i hi => absurd hi (Nat.not_lt_zero _)⟩, fun h => ?_⟩
      rw [hno] at h
      cases h
    · rw [la 1 (by omega) (by decide) (by decide) (by decide)]; exact q11
    · rw [j1, la 0 (by omega) (by decide) (by decide) (by decide), q8]
    · rw [j14, la 0 (by omega) (by decide) (by decide) (by decide), q7]
    · rw [j2, la 0 (by omega) (by decide) (by decide) (by decide), q8, if_neg (by decide)]
    · refine kOk_new hk x8 (by rw [la 3 (by omega) (by decide) (by decide) (by decide)]; exact q35) (fun b h1 h2 => ?_)
      rw [la b (by omega) (by omega) (by omega) (by omega), q0 b (by omega) (by omega) (by omega) (by omega), cfr b (by omega) (by omega) (by omega) (by omega)]
    · intro i hi
      rw [d4.2.2.2.2 73 (by decide) (by omega), goClL_lt (by omega), clf 73 (by decide) (by decide) (by decide)]
      exact x9 i hi
end hill2
