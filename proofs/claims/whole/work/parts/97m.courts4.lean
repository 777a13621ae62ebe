/-! THE BEST ORDER, in both; the calls -/
section courts4
variable {M : goMI} {R : goMR} {T : tH} {t b N : Nat}
/-- the least so far, as the model has it -/
def kA (M : goMI) (s : List Nat) (w : Int64) (a : Option (Nat × List Nat)) : Prop := match a with
  | none => w = -1
  | some y => w = lN y.1 ∧ y.1 < 2 ^ 63 ∧ ∀ j, j < 6 → M 119 j = nI ((y.2 ++ s).getD j 0)
theorem mCopy9 (hN : 5000 ≤ N) {o : List Nat} (h : ∀ j, j < 6 → M 118 j = nI (o.getD j 0)) : ∃ M', lX14_leastMean_56 N 0 M = some M' ∧ (∀ j, j < 6 → M' 119 j = nI (o.getD j 0)) ∧ ∀ b, b ≠ 119 → M' b = M b := by
  refine gFor (fun n i M' => lX14_leastMean_56 n (nI i) M') (fun i M' => (∀ j, j < i → M' 119 j = nI (o.getD j 0)) ∧ ∀ b, b ≠ 119 → M' b = M b) _ 6 ?_ ?_ N 0 M (Nat.zero_le _) ⟨fun j hj => absurd hj (Nat.not_lt_zero _), fun _ _ => rfl⟩ (by omega)
  · intro n i M1 hi hP
    refine ⟨goWI M1 119 i (nI (o.getD i 0)), ?_, fun j hj => ?_, fun b hb => (goWI_ne hb).trans (hP.2 b hb)⟩
    · show lX14_leastMean_56 _ _ _ = lX14_leastMean_56 _ _ _
      rw [lX14_leastMean_56, gL_6, if_pos (nI_lt hi (by decide)), gRd hi, gBd, hP.2 118 (by decide), h i hi, gWr hi, gBd, nI_1]
    · rw [gWI_self]
      by_cases e : j = i
      · rw [if_pos e, e]
      · rw [if_neg e]; exact hP.1 j (by omega)
  · intro n M1 hP
    refine ⟨M1, ?_, hP⟩
    show lX14_leastMean_56 _ _ _ = _
    rw [lX14_leastMean_56, gL_6, if_neg (nI_nlt (Nat.le_refl _) (by decide))]
theorem kU_lt {n : Nat} (hT : kOkT T n) {x : Nat} : ∀ l : List Nat, (∀ k, k ∈ l → k < n) → l.length ≤ 6 → kU T l ≤ 99 * l.length * 10 ^ l.length
  | [], _, _ => Nat.zero_le _
  | k :: l, h, h6 => by
    have ih := kU_lt hT (x := x) l (fun j hj => h j (List.mem_cons_of_mem _ hj)) (by rw [List.length_cons] at h6; omega)
    obtain ⟨c1, c2, c3⟩ := hT.2 k (h k List.mem_cons_self)
    rw [List.length_cons]
    generalize hm : l.length = m at *
    have h2 : kU T (k :: l) ≤ 99 * 10 ^ (m + 1) + 9 * (99 * m * 10 ^ m) := by
      show T 20 k * 10 ^ (l.length + 1) + (10 - T 21 k) * kU T l ≤ _
      rw [hm]
      exact Nat.add_le_add (Nat.mul_le_mul_right _ c1) (Nat.mul_le_mul (by omega) ih)
    have h3 : 99 * 10 ^ (m + 1) + 9 * (99 * m * 10 ^ m) ≤ 99 * (m + 1) * 10 ^ (m + 1) := by
      rw [Nat.pow_succ]
      generalize 10 ^ m = z
      have e1 : 9 * (99 * m * z) = 891 * (m * z) := by rw [Nat.mul_assoc 99 m z, ← Nat.mul_assoc]
      have e2 : 99 * (m + 1) * (z * 10) = 990 * (m * z) + 990 * z := by
        rw [Nat.mul_add, Nat.add_mul]
        have : 99 * m * (z * 10) = 990 * (m * z) := by
          rw [Nat.mul_assoc, ← Nat.mul_assoc m z 10, Nat.mul_comm (m * z) 10, ← Nat.mul_assoc]
        omega
      omega
    exact Nat.le_trans h2 h3
theorem mLoop (hR : R 102 3 = some b) (hb : 121 ≤ b) (hT : tOk T) (hN : 5000 ≤ N) {s : List Nat} : ∀ (f : Nat) (ls : List (List Nat)) (o : List Nat) (a : Option (Nat × List Nat)) (w : Int64) (M : goMI) (F : Nat), tM M b T → oG1 (T 0 11) f o = ls.map (fun l => l ++ s) → oG2 (T 0 11) f o = true → (oG1 (T 0 11) f o).all (oOk (T 0 11)) = true → (∀ l, l ∈ ls → l.length = T 0 11 ∧ ∀ k, k ∈ l → k < T 0 11) → (∀ j, j < 6 → M 118 j = nI (o.getD j 0)) → kA M s w a → f < F → ∃ w' M', lX14_leastMean_27 N R F w 1 M = some (w', M') ∧ kA M' s w' (kM T a ls) ∧ ∀ c, c ≠ 118 → c ≠ 119 → M' c = M c
  | 0, ls, o, a, w, M, F, _, _, h2, _, _, _, _, _ => by cases h2
  | f + 1, ls, o, a, w, M, F, hM, h1, h2, h3, h4, h5, h6, h7 => by
    have hz := tO_sz hT
    have hkT : kOkT T (T 0 11) := ⟨by omega, fun k hk => tO_court hT k hk⟩
    obtain ⟨F', rfl⟩ : ∃ F', F = F' + 1 := ⟨F - 1, by omega⟩
    unfold oG1 at h1 h3
    rw [List.all_cons, Bool.and_eq_true] at h3
    rcases ls with _ | ⟨l, ls⟩
    · cases h1
    · rw [List.map_cons, List.cons.injEq] at h1
      obtain ⟨ho, hrest⟩ := h1
      obtain ⟨hl, hlk⟩ := h4 l List.mem_cons_self
      have hpR := pR_of h3.1 h5
      have hmean := mMean hR hM hT hN hpR h3.1
      have hval : kN T o (T 0 11) = kU T l := by rw [ho, ← hl]; exact kN_kU T s l
      have hub := kU_lt hkT (x := 0) l hlk (by omega)
      rw [hl] at hub
      have hbig : kU T l < 1000000000 := by
        have hp : 10 ^ T 0 11 ≤ 10 ^ 6 := Nat.pow_le_pow_right (by decide) (by omega)
        have : 99 * T 0 11 * 10 ^ T 0 11 ≤ 99 * 6 * 10 ^ 6 := Nat.mul_le_mul (by omega) hp
        omega
      -- the comparison
      have hcmp : ∃ w1 M1, (if 0 ≤ (lg_cmp w 0) then if (lg_cmp (lN (kU T l)) w) < 0 then Option.bind (lX14_leastMean_56 N 0 M) fun M38 => some (lN (kU T l), M38) else some (w, M) else Option.bind (lX14_leastMean_56 N 0 M) fun M30 => some (lN (kU T l), M30)) = some (w1, M1) ∧ kA M1 s w1 (kC a (some (kU T l, l))) ∧ ∀ c, c ≠ 119 → M1 c = M c := by
        obtain ⟨M1, c1, c2, c3⟩ := mCopy9 (N := N) hN h5
        have hnew : kA M1 s (lN (kU T l)) (some (kU T l, l)) := ⟨rfl, by show kU T l < 2 ^ 63; omega, fun j hj => by rw [c2 j hj, ho]⟩
        rcases a with _ | ⟨v, bo⟩
        · have hw : w = -1 := h6
          rw [hw, if_neg (by decide), c1, gBd]
          exact ⟨_, _, rfl, hnew, c3⟩
        · obtain ⟨a1, a2, a3⟩ := h6
          have a1' : w = lN v := a1
          have a2' : v < 2 ^ 63 := a2
          have hge : 0 ≤ lg_cmp w 0 := by
            have : ¬ lg_cmp w 0 < 0 := by
              rw [gLc_lt, a1', show (0 : Int64) = lN 0 from rfl, pk_lLT a2' (by decide)]
              omega
            exact Int32.not_lt.mp this
          rw [if_pos hge]
          have hc : (lg_cmp (lN (kU T l)) w < 0) ↔ kU T l < v := by
            rw [gLc_lt, a1', pk_lLT (by omega) a2']
          show ∃ w1 M1, _ ∧ kA M1 s w1 (if kU T l < v then some (kU T l, l) else some (v, bo)) ∧ _
          by_cases c : kU T l < v
          · rw [if_pos (hc.mpr c), c1, gBd, if_pos c]
            exact ⟨_, _, rfl, hnew, c3⟩
          · rw [if_neg (fun e => c (hc.mp e)), if_neg c]
            exact ⟨_, _, rfl, ⟨a1, a2, a3⟩, fun _ _ => rfl⟩
      obtain ⟨w1, M1, d1, d2, d3⟩ := hcmp
      have hM1 : tM M1 b T := tM_fr hM (fun r hr => d3 _ (by omega))
      have h51 : ∀ j, j < 6 → M1 118 j = nI (o.getD j 0) := fun j hj => by rw [d3 118 (by decide)]; exact h5 j hj
      have hpR1 := pR_of h3.1 h51
      have htu := mTurns (N := N) (n := T 0 11) hN (by omega) hpR1 h3.1
      rw [lX14_leastMean_27, if_neg (by decide), hmean, gBd, hval, d1, gB2, hR, gBd, tM_0 hM1 (by decide)]
      unfold oG2 at h2
      cases hoN : oN (T 0 11) o with
      | none =>
        rw [hoN] at htu hrest
        have htu' : fX14_turns N M1 (nI (T 0 11)) = some (0, M1) := htu
        have hls : ls = [] := by
          have h0 : ([] : List (List Nat)) = ls.map (fun l => l ++ s) := hrest
          exact List.map_eq_nil_iff.mp h0.symm
        obtain ⟨F'', rfl⟩ : ∃ F'', F' = F'' + 1 := ⟨F' - 1, by omega⟩
        rw [htu', gB2, lX14_leastMean_27, if_pos rfl, hls]
        exact ⟨w1, M1, rfl, d2, fun c _ h9 => d3 c h9⟩
      | some o' =>
        rw [hoN] at htu hrest h2 h3
        obtain ⟨M2, t1, t2, t3⟩ := htu
        have hM2 : tM M2 b T := tM_fr hM1 (fun r hr => t3 _ (by omega))
        have hk2 : kA M2 s w1 (kC a (some (kU T l, l))) := by
          unfold kA at d2 ⊢
          split
          · rename_i e; rw [e] at d2; exact d2
          · rename_i y e
            rw [e] at d2
            exact ⟨d2.1, d2.2.1, fun j hj => by rw [t3 119 (by decide)]; exact d2.2.2 j hj⟩
        obtain ⟨w', M', r1, r2, r3⟩ := mLoop hR hb hT hN (s := s) f ls o' (kC a (some (kU T l, l))) w1 M2 F' hM2 hrest h2 h3.2 (fun x hx => h4 x (List.mem_cons_of_mem _ hx)) t2 hk2 (by omega)
        rw [t1, gB2]
        exact ⟨w', M', r1, r2, fun c h8 h9 => by rw [r3 c h8 h9, t3 c h8, d3 c h9]⟩
theorem plF_mem {f : Nat → List (List Nat)} {x n : Nat} (hx : x < 2 ^ n) (hf : ∀ y, y < 2 ^ n → ∀ l, l ∈ f y → ∀ k, k ∈ l → k < n) : ∀ j l, l ∈ plF f x j → ∀ k, k ∈ l → k < n
  | 0, l, h => by cases h
  | j + 1, l, h => by
    unfold plF at h
    rw [List.mem_append] at h
    rcases h with h | h
    · exact plF_mem hx hf j l h
    · split at h
      · rename_i hb
        rw [List.mem_map] at h
        obtain ⟨r, h1, h2⟩ := h
        intro k hk
        rw [← h2, List.mem_cons] at hk
        rcases hk with hk | hk
        · rw [hk]
          apply Classical.byContradiction
          intro hn
          rw [gTb_hi hx (by omega)] at hb
          cases hb
        · exact hf _ (dAn_lt hx) r h1 k hk
      · cases h
theorem pl_mem {n : Nat} : ∀ m x, x < 2 ^ n → ∀ l, l ∈ pl m x → ∀ k, k ∈ l → k < n
  | 0, x, _, l, h => by
    have : l = [] := by simpa [pl] using h
    rw [this]
    intro k hk
    cases hk
  | m + 1, x, hx, l, h => plF_mem hx (fun y hy => pl_mem m y hy) 6 l h
theorem gPc_full : ∀ n, n < 7 → gPc (2 ^ n - 1) = n := by decide +kernel
theorem mLeastMean (hR : R 102 3 = some b) (hb : 121 ≤ b) (hM : tM M b T) (hT : tOk T) (hN : 5000 ≤ N) : ∃ M', fX14_leastMean N M R = some (lN (kL T (T 0 11) (2 ^ T 0 11 - 1)), M') ∧ (∀ j, j < T 0 11 → M' 119 j = nI ((kB T (T 0 11) (2 ^ T 0 11 - 1)).getD j 0)) ∧ ∀ c, c ≠ 118 → c ≠ 119 → M' c = M c := by
  have hz := tO_sz hT
  have hkT : kOkT T (T 0 11) := ⟨by omega, fun k hk => tO_court hT k hk⟩
  have hpp := gP2pos (T 0 11)
  have hx : 2 ^ T 0 11 - 1 < 2 ^ T 0 11 := by omega
  have hfull := gPc_full (T 0 11) (by omega)
  obtain ⟨o1, o2, o3⟩ := oAll (T 0 11) (by omega)
  have k1 : ∃ M1, lX14_leastMean_2 N (nI 0) M = some M1 ∧ (∀ j, j < 6 → M1 118 j = nI (([0, 1, 2, 3, 4, 5] : List Nat).getD j 0)) ∧ ∀ c, c ≠ 118 → M1 c = M c := by
    refine gFor (fun n i M' => lX14_leastMean_2 n (nI i) M') (fun i M' => (∀ j, j < i → M' 118 j = nI (([0, 1, 2, 3, 4, 5] : List Nat).getD j 0)) ∧ ∀ c, c ≠ 118 → M' c = M c) _ 6 ?_ ?_ N 0 M (Nat.zero_le _) ⟨fun j hj => absurd hj (Nat.not_lt_zero _), fun _ _ => rfl⟩ (by omega)
    · intro n i M1 hi hP
      refine ⟨goWI M1 118 i (nI i), ?_, fun j hj => ?_, fun c hc => (goWI_ne hc).trans (hP.2 c hc)⟩
      · show lX14_leastMean_2 _ _ _ = lX14_leastMean_2 _ _ _
        rw [lX14_leastMean_2, gL_6, if_pos (nI_lt hi (by decide)), gWr hi, gBd, nI_1]
      · rw [gWI_self]
        by_cases e : j = i
        · rw [if_pos e, e]
          have hi6 : i = 0 ∨ i = 1 ∨ i = 2 ∨ i = 3 ∨ i = 4 ∨ i = 5 := by omega
          rcases hi6 with e | e | e | e | e | e <;> subst e <;> rfl
        · rw [if_neg e]; exact hP.1 j (by omega)
    · intro n M1 hP
      refine ⟨M1, ?_, hP⟩
      show lX14_leastMean_2 _ _ _ = _
      rw [lX14_leastMean_2, gL_6, if_neg (nI_nlt (Nat.le_refl _) (by decide))]
  obtain ⟨M1, e1, e2, e3⟩ := k1
  have hM1 : tM M1 b T := tM_fr hM (fun r hr => e3 _ (by omega))
  obtain ⟨w', M', r1, r2, r3⟩ := mLoop hR hb hT hN 721 (pl (T 0 11) (2 ^ T 0 11 - 1)) [0, 1, 2, 3, 4, 5] none (-1) M1 N hM1 o1 o2 o3 (fun l hl => ⟨pl_len _ _ l hl, pl_mem _ _ hx l hl⟩) e2 rfl (by omega)
  rw [kM_pl hkT _ _ hx hfull] at r2
  obtain ⟨s1, s2, s3⟩ := r2
  have s1' : w' = lN (kL T (T 0 11) (2 ^ T 0 11 - 1)) := s1
  have e1' : lX14_leastMean_2 N 0 M = some M1 := e1
  refine ⟨M', ?_, fun j hj => ?_, fun c h8 h9 => by rw [r3 c h8 h9, e3 c h8]⟩
  · unfold fX14_leastMean
    rw [e1', gBd, r1, gB2, s1']
  · have hlen : ∀ m x, (kB T m x).length = m := by
      intro m
      induction m with
      | zero => intro x; rfl
      | succ m ih => intro x; show (kB T m _).length + 1 = _; rw [ih]
    have h := s3 j (by omega)
    have h' : M' 119 j = nI ((kB T (T 0 11) (2 ^ T 0 11 - 1) ++ ([0, 1, 2, 3, 4, 5] : List Nat).drop (T 0 11)).getD j 0) := h
    rw [h', List.getD_eq_getElem?_getD, List.getD_eq_getElem?_getD, List.getElem?_append_left (by rw [hlen]; exact hj)]
/-- the sets as the component goes through them -/
def kS (T : tH) (n : Nat) : Nat → Nat
  | 0 => 2 ^ n - 1
  | i + 1 => dAn (kS T n i) (2 ^ kF T (gPc (kS T n i)) (kS T n i))
theorem kS_ok {n : Nat} (hT : kOkT T n) : ∀ i, i ≤ n → kS T n i < 2 ^ n ∧ gPc (kS T n i) = n - i ∧ ∀ d, (kB T (n - i) (kS T n i)).getD d 0 = (kB T n (2 ^ n - 1)).getD (i + d) 0
  | 0, _ => by
    have h6 := hT.1
    have := gP2pos n
    refine ⟨by show 2 ^ n - 1 < _; omega, gPc_full n (by omega), fun d => ?_⟩
    rw [Nat.zero_add]; rfl
  | i + 1, hi => by
    have h6 := hT.1
    obtain ⟨h1, h2, h3⟩ := kS_ok hT i (by omega)
    obtain ⟨m, hm⟩ : ∃ m, n - i = m + 1 := ⟨n - i - 1, by omega⟩
    rw [hm] at h2 h3
    have hbit : (kS T n i).testBit (kF T (m + 1) (kS T n i)) = true := by
      have hl : (gMin (kW T (kL T m) m (kS T n i)) (fun k => (kS T n i).testBit k) 0 kBig 6).2 < kBig := by
        have := kL_lt hT h1 h2
        show kL T (m + 1) (kS T n i) < 9223372036854775807
        omega
      exact (gMin_in hl).2.1
    have hk12 : kF T (m + 1) (kS T n i) < 12 := by
      apply Classical.byContradiction
      intro h
      rw [gTb_hi h1 (by omega)] at hbit
      cases hbit
    have e : kS T n (i + 1) = dAn (kS T n i) (2 ^ kF T (m + 1) (kS T n i)) := by
      show dAn (kS T n i) (2 ^ kF T (gPc (kS T n i)) (kS T n i)) = _
      rw [h2]
    refine ⟨by rw [e]; exact dAn_lt h1, by rw [e, gPc_rem hk12 hbit h2]; omega, fun d => ?_⟩
    have h4 := h3 (d + 1)
    rw [show n - (i + 1) = m by omega, e, show i + 1 + d = i + (d + 1) by omega, ← h4]
    rfl
theorem kS_bit {n : Nat} (hT : kOkT T n) {i : Nat} (hi : i < n) : kF T (gPc (kS T n i)) (kS T n i) < n ∧ kF T (gPc (kS T n i)) (kS T n i) = (kB T n (2 ^ n - 1)).getD i 0 := by
  obtain ⟨h1, h2, h3⟩ := kS_ok hT i (by omega)
  obtain ⟨m, hm⟩ : ∃ m, n - i = m + 1 := ⟨n - i - 1, by omega⟩
  rw [hm] at h2 h3
  have hl : (gMin (kW T (kL T m) m (kS T n i)) (fun k => (kS T n i).testBit k) 0 kBig 6).2 < kBig := by
    have := kL_lt hT h1 h2
    show kL T (m + 1) (kS T n i) < 9223372036854775807
    omega
  have hbit : (kS T n i).testBit (kF T (m + 1) (kS T n i)) = true := (gMin_in hl).2.1
  rw [h2]
  refine ⟨?_, ?_⟩
  · apply Classical.byContradiction
    intro h
    rw [gTb_hi h1 (by omega)] at hbit
    cases hbit
  · have h30 : (kB T (m + 1) (kS T n i)).getD 0 0 = (kB T n (2 ^ n - 1)).getD i 0 := h3 0
    rw [← h30]
    rfl
theorem cInOrder {L' : goML} {M' : goMI} (hC : tC M' t T) (hT : tOk T) (hN : 5000 ≤ N) (hw : cWe M' L' (t + 25) T (2 ^ T 0 11)) {i : Nat} (hi : i < T 0 11) : lX2_inBestOrder_15 (nI i) M' (t + 25) N (nI (2 ^ T 0 11 - 1)) 0 = some (nI (kS T (T 0 11) i)) := by
  have hz := tO_sz hT
  have hp := gP2 (n := T 0 11) (by omega)
  have hkT : kOkT T (T 0 11) := ⟨by omega, fun k hk => tO_court hT k hk⟩
  refine gUp (fun n j (x : Int32) => lX2_inBestOrder_15 (nI i) M' (t + 25) n x (nI j)) (fun j => nI (kS T (T 0 11) j)) i _ ?_ ?_ N 0 (Nat.zero_le _) (by omega)
  · intro n j hj
    obtain ⟨h1, h2, h3⟩ := kS_ok hkT j (by omega)
    obtain ⟨h4, h5⟩ := kS_bit hkT (i := j) (by omega)
    have hf : M' (t + 29) (kS T (T 0 11) j) = nI (kF T (gPc (kS T (T 0 11) j)) (kS T (T 0 11) j)) := (hw _ h1).2
    show lX2_inBestOrder_15 _ _ _ _ _ _ = lX2_inBestOrder_15 _ _ _ _ _ _
    rw [lX2_inBestOrder_15, if_pos (nI_lt hj (by omega)), show t + 25 + 4 = t + 29 from rfl, gRd (by omega), gBd, hf, gI_shl1 (by omega), gI_not _ _ (by omega), gNm, nI_1]
    rfl
  · intro n
    show lX2_inBestOrder_15 _ _ _ _ _ _ = _
    rw [lX2_inBestOrder_15, if_neg (nI_nlt (Nat.le_refl _) (by omega))]
end courts4
section courts5
variable {k : Nat} {G : goG} {M : goMI} {L : goML} {R : goMR} {t b : Nat} {T : tH} {A B : Nat → Nat}
theorem iX_c (hX : iX k G M L R t T A B) {M1 M2 : goMI} {L1 : goML} (f1 : ∀ b, b ≠ 0 → b ≠ t + 29 → M1 b = M b) (f07 : M1 0 7 = M 0 7) (f08 : M1 0 8 = 0) (hL : ∀ b, b ≠ t + 28 → L1 b = L b) (h2 : qM M1 M2 0) : gInv (k + 1) G M2 L1 R := by
  have ht := hX.2.1.1
  refine iX_L (L := L) ⟨t, T, A, B, iX_q hX (M1 := M1) (w := 0) ⟨fun b hb _ h29 => f1 b hb h29, fun b hb => f1 b (by omega) (by omega), f07, f08⟩ (kOk_fr hX.2.2.2.2.2.2.2.1 (Nat.le_refl _) (f1 3 (by decide) (by omega)) (fun b h1 h2 => f1 b (by omega) (by omega))) h2 (by decide)⟩ (hL 73 (by omega))
end courts5
theorem go_appeals : goS_appeals gInv := by
  rintro k G M L R ⟨t, T, A, B, hX⟩ hk
  have hC := hX.2.2.1
  have ht := hX.2.1.1
  rcases hX.2.2.2.1 with ⟨h1, h2⟩ | ⟨b, b1, b2, b3, b4⟩
  · refine ⟨5000, Int32.toInt64 (-1), goWI M 0 8 1, L, _, ?_, ?_, iNo hX (w := 1) (by decide)⟩
    · unfold fX12_appeals
      rw [cIsHill0 hX h1, if_pos rfl, cRef, gB2]
    · unfold fX14_appeals
      rw [gNm, if_pos h1, mRef, gB2]
  · have hz := tO_sz b4
    have hp := gP2 (n := T 0 11) (by omega)
    have hpp := gP2pos (T 0 11)
    have hC1 : tC (goWI M 0 8 0) t T := tC_fr hC (fun r hr => goWI_ne (by omega))
    obtain ⟨M1, L1, w1, w2, w3, w4⟩ := cWeigh (N := 5000) (L := L) hC1 b4 (by decide)
    have hC2 : tC M1 t T := tC_fr hC1 (fun r hr => w3 _ (by omega))
    have f1 : ∀ b, b ≠ 0 → b ≠ t + 29 → M1 b = M b := fun b h0 h29 => by rw [w3 b h29, goWI_ne h0]
    have hfull := gPc_full (T 0 11) (by omega)
    have hMm : tM (goWI (goWI (goWI M1 102 0 0) 102 1 0) 102 2 (-1)) b T := tM_fr b3 (fun r hr => by rw [goWI_ne (by omega), goWI_ne (by omega), goWI_ne (by omega)]; exact f1 _ (by omega) (by omega))
    obtain ⟨M2, m1, m2, m3⟩ := mLeastMean (N := 5000) b1 b2 hMm b4 (by decide)
    refine ⟨5000, lN (kL T (T 0 11) (2 ^ T 0 11 - 1)), M1, L1, M2, ?_, ?_, iX_c hX f1 ?_ ?_ w4 ?_⟩
    · unfold fX12_appeals fX2_leastCosts
      have hl : L1 (t + 28) (2 ^ T 0 11 - 1) = lN (kL T (T 0 11) (2 ^ T 0 11 - 1)) := by
        have := (w2 (2 ^ T 0 11 - 1) (by omega)).1
        rw [hfull] at this
        exact this
      rw [cIsHill1 hX b4, if_neg (by decide), gNm, iR5 hX, w1, gB2, tC_courts hC2, gI_shl1 (by omega), gL_1, pk_sub (by omega), show t + 25 + 3 = t + 28 from rfl, gRdL (by omega), gBd, hl, gB3]
    · unfold fX14_appeals
      rw [gNm, b1, if_neg (by simp), mGood, gB2, m1, gB2]
    · rw [w3 0 (by omega), gWI_nk (by decide)]
    · rw [w3 0 (by omega), gWI_self, if_pos rfl]
    · obtain ⟨q1, q2, q3, q4, q5, q6⟩ := qM_0 (M := M1) (w := 0)
      refine ⟨fun c hc => by rw [m3 c (by omega) (by omega)]; exact q1 c hc, fun c h1 h2 => by rw [m3 c (by omega) (by omega)]; exact q2 c h1 h2, fun c hc => by rw [m3 c (by omega) (by omega)]; exact q3 c hc, fun j hj => by rw [m3 102 (by decide) (by decide)]; exact q4 j hj, by rw [m3 102 (by decide) (by decide)]; exact q5, by rw [m3 102 (by decide) (by decide)]; exact q6⟩
theorem go_appealAt : goS_appealAt gInv := by
  rintro k G M L R a1 ⟨t, T, A, B, hX⟩ hk
  have hI := iM_b hX.2.2.2.1
  have hC := hX.2.2.1
  have ht := hX.2.1.1
  by_cases c0 : wi a1 (T 0 11) = true
  · obtain ⟨i, hi, rfl⟩ := wi_t (by omega) c0
    obtain ⟨b, b1, b2, b3, b4⟩ := iM_some hX.2.2.2.1 (i := 0) (j := 11) (by omega)
    have hz := tO_sz b4
    have hp := gP2 (n := T 0 11) (by omega)
    have hpp := gP2pos (T 0 11)
    have hkT : kOkT T (T 0 11) := ⟨by omega, fun k hk => tO_court b4 k hk⟩
    obtain ⟨M1, L1, w1, w2, w3, w4⟩ := cWeigh (N := 5000) (L := L) hC b4 (by decide)
    have hC2 : tC M1 t T := tC_fr hC (fun r hr => w3 _ (by omega))
    obtain ⟨h1, h2, h3⟩ := kS_ok hkT i (by omega)
    obtain ⟨h4, h5⟩ := kS_bit hkT (i := i) hi
    have hMm : tM (goWI (goWI M1 0 8 0) 102 0 0) b T := tM_fr b3 (fun r hr => by rw [goWI_ne (by omega), goWI_ne (by omega)]; exact w3 _ (by omega))
    obtain ⟨M2, m1, m2, m3⟩ := mLeastMean (N := 5000) b1 b2 hMm b4 (by decide)
    refine ⟨5000, nI ((kB T (T 0 11) (2 ^ T 0 11 - 1)).getD i 0), goWI M1 0 8 0, L1, goWI (goWI M2 102 1 0) 102 2 (-1), ?_, ?_, iX_c hX (M1 := goWI M1 0 8 0) (fun c h0 h29 => by rw [goWI_ne h0]; exact w3 c h29) ?_ ?_ w4 (qM_w ?_ ?_ ?_ ?_)⟩
    · unfold fX12_appealAt fX2_inBestOrder
      have hf : M1 (t + 29) (kS T (T 0 11) i) = nI ((kB T (T 0 11) (2 ^ T 0 11 - 1)).getD i 0) := by
        rw [← h5]
        exact (w2 _ h1).2
      rw [iR5 hX, tC_courts hC, cWithin, c0, if_neg (by decide), w1, gB2, tC_courts hC2, gI_shl1 (by omega), show nI (2 ^ T 0 11) - 1 = nI (2 ^ T 0 11 - 1) from pk_sub (b := 1) (by omega), gNm, cInOrder hC2 b4 (by decide) w2 hi, gBd, show t + 25 + 4 = t + 29 from rfl, gRd (by omega), gBd, hf, gB3, cAns, gB2]
    · unfold fX14_appealAt
      rw [gNm, b1, if_neg (by simp), if_pos (nI_pos' (by omega)), gBd, tM_0 hMm (by decide), if_neg (nI_ge hi (by omega)), m1, gB2, gRd (by omega), gBd, m2 i hi, mGood, gB2]
    · rw [gWI_nk (by decide), w3 0 (by omega)]
    · rw [gWI_self, if_pos rfl]
    · intro c hc; rw [m3 c (by omega) (by omega), goWI_ne (by omega)]
    · intro c h1 h2; rw [m3 c (by omega) (by omega), goWI_ne (by omega)]
    · intro c hc; rw [m3 c (by omega) (by omega), goWI_ne (by omega)]
    · intro j hj; rw [m3 102 (by decide) (by decide), gWI_nk (by omega)]
  · rw [Bool.not_eq_true] at c0
    refine ⟨5000, -1, goWI M 0 8 1, L, _, ?_, ?_, iNo hX (w := 1) (by decide)⟩
    · unfold fX12_appealAt
      rw [iR5 hX, tC_courts hC, cWithin, c0, if_pos (by decide), cRef, gB2]
    · unfold fX14_appealAt
      rw [gNm]
      rcases hX.2.2.2.1 with ⟨h1, h2⟩ | ⟨b, b1, b2, b3, b4⟩
      · rw [if_pos h1, mRef, gB2]
      · have b3' := fun w => tM_w (w := w) b2 b3
        unfold wi at c0
        rw [decide_eq_false_iff_not] at c0
        rw [b1, if_neg (by simp)]
        by_cases c3 : 0 ≤ a1
        · rw [if_pos c3, gBd, tM_0 (b3' 1) (by decide), if_pos (Int32.not_lt.mp (fun h => c0 ⟨c3, h⟩)), mRef, gB2]
        · rw [if_neg c3, mRef, gB2]
