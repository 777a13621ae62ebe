/-! THE MODEL'S ORDERS -/
theorem gSum_head {f : Nat → Nat} : ∀ n, gSum f (n + 1) = f 0 + gSum (fun i => f (i + 1)) n
  | 0 => by show 0 + f 0 = f 0 + 0; omega
  | n + 1 => by
    show gSum f (n + 1) + f (n + 1) = f 0 + (gSum (fun i => f (i + 1)) n + f (n + 1))
    rw [gSum_head n]
    omega
theorem gSum_mul {f : Nat → Nat} {c : Nat} : ∀ n, gSum (fun i => c * f i) n = c * gSum f n
  | 0 => rfl
  | n + 1 => by
    show gSum (fun i => c * f i) n + c * f n = c * (gSum f n + f n)
    rw [gSum_mul n, Nat.mul_add]
theorem gPr_shift {f : Nat → Nat} {i : Nat} : ∀ d, gPr f (i + 1) d = gPr (fun j => f (j + 1)) i d
  | 0 => rfl
  | d + 1 => by
    show gPr f (i + 1) d * f (i + 1 + d) = gPr (fun j => f (j + 1)) i d * f (i + d + 1)
    rw [gPr_shift d, show i + 1 + d = i + d + 1 by omega]
theorem gPr_eq {f g : Nat → Nat} {i : Nat} : ∀ {d : Nat}, (∀ j, j < d → f (i + j) = g (i + j)) → gPr f i d = gPr g i d
  | 0, _ => rfl
  | d + 1, h => by
    show gPr f i d * f (i + d) = gPr g i d * g (i + d)
    rw [gPr_eq (fun j hj => h j (by omega)), h d (by omega)]
theorem gPr_c {c i : Nat} : ∀ d, gPr (fun _ => c) i d = c ^ d
  | 0 => rfl
  | d + 1 => by
    show gPr (fun _ => c) i d * c = c ^ (d + 1)
    rw [gPr_c d, Nat.pow_succ]
def kT (T : tH) (o : List Nat) (k n : Nat) : Nat := T 20 (o.getD k 0) * gPr (fun j => if j < k then 10 - T 21 (o.getD j 0) else 10) 0 n
def kN (T : tH) (o : List Nat) (n : Nat) : Nat := gSum (fun k => kT T o k n) n
theorem kN_kU (T : tH) (s : List Nat) : ∀ l : List Nat, kN T (l ++ s) l.length = kU T l
  | [] => rfl
  | k :: l => by
    have ih := kN_kU T s l
    show gSum (fun i => kT T (k :: (l ++ s)) i (l.length + 1)) (l.length + 1) = _
    rw [gSum_head]
    have h0 : kT T (k :: (l ++ s)) 0 (l.length + 1) = T 20 k * 10 ^ (l.length + 1) := by
      show T 20 k * gPr (fun j => if j < 0 then _ else 10) 0 (l.length + 1) = _
      rw [gPr_eq (g := fun _ => 10) (fun j _ => if_neg (Nat.not_lt_zero _)), gPr_c]
    have h1 : ∀ i, kT T (k :: (l ++ s)) (i + 1) (l.length + 1) = (10 - T 21 k) * kT T (l ++ s) i l.length := by
      intro i
      show T 20 ((l ++ s).getD i 0) * gPr (fun j => if j < i + 1 then 10 - T 21 ((k :: (l ++ s)).getD j 0) else 10) 0 (l.length + 1) = _
      rw [gPr_head, gPr_shift]
      have e1 : (if 0 < i + 1 then 10 - T 21 ((k :: (l ++ s)).getD 0 0) else 10) = 10 - T 21 k := by rw [if_pos (by omega)]; rfl
      have e2 : gPr (fun j => if j + 1 < i + 1 then 10 - T 21 ((k :: (l ++ s)).getD (j + 1) 0) else 10) 0 l.length = gPr (fun j => if j < i then 10 - T 21 ((l ++ s).getD j 0) else 10) 0 l.length := by
        refine gPr_eq (fun j _ => ?_)
        show (if 0 + j + 1 < i + 1 then _ else 10) = if 0 + j < i then _ else 10
        by_cases c : 0 + j < i
        · rw [if_pos (by omega), if_pos c]; rfl
        · rw [if_neg (by omega), if_neg c]
      rw [e1, e2]
      unfold kT
      rw [← Nat.mul_assoc, ← Nat.mul_assoc, Nat.mul_comm (T 20 ((l ++ s).getD i 0))]
    rw [h0, gSum_eq (fun i _ => h1 i), gSum_mul]
    show _ + (10 - T 21 k) * kN T (l ++ s) l.length = _
    rw [ih]
    rfl
theorem gD_set (o : List Nat) (i v j : Nat) (hi : i < o.length) : (o.set i v).getD j 0 = if j = i then v else o.getD j 0 := by
  rw [List.getD_eq_getElem?_getD, List.getD_eq_getElem?_getD, List.getElem?_set]
  by_cases h : j = i
  · rw [if_pos h.symm, if_pos h, if_pos (by omega)]; rfl
  · rw [if_neg (fun e => h e.symm), if_neg h]
section courts3
variable {M : goMI} {R : goMR} {T : tH} {b N n : Nat} {o : List Nat}
def pR (M : goMI) (o : List Nat) : Prop := o.length = 6 ∧ ∀ j, j < 6 → M 118 j = nI (o.getD j 0) ∧ o.getD j 0 < 6
theorem pR_of {l : List Nat} (h1 : oOk n l = true) (h2 : ∀ j, j < 6 → M 118 j = nI (l.getD j 0)) : pR M l := by
  unfold oOk at h1
  simp only [Bool.and_eq_true, decide_eq_true_eq, List.all_eq_true, List.mem_range] at h1
  exact ⟨h1.1.1.1, fun j hj => ⟨h2 j hj, h1.1.1.2 j hj⟩⟩
theorem mSwap (h : pR M o) {i j : Nat} (hi : i < 6) (hj : j < 6) : ∃ M', fX14_swaps M (nI i) (nI j) = some M' ∧ pR M' (oW o i j) ∧ ∀ b, b ≠ 118 → M' b = M b := by
  unfold fX14_swaps
  rw [gRd hi, gBd, gRd hj, gBd, (h.2 i hi).1, (h.2 j hj).1, gWr hi, gBd, gWr hj, gBd]
  refine ⟨_, rfl, ⟨?_, fun x hx => ?_⟩, fun b hb => by rw [goWI_ne hb, goWI_ne hb]⟩
  · unfold oW
    rw [List.length_set, List.length_set]; exact h.1
  · have e : (oW o i j).getD x 0 = if x = j then o.getD i 0 else if x = i then o.getD j 0 else o.getD x 0 := by
      unfold oW
      rw [gD_set _ _ _ _ (by rw [List.length_set, h.1]; exact hj), gD_set _ _ _ _ (by rw [h.1]; exact hi)]
    rw [gWI_self, gWI_self, e]
    by_cases c1 : x = j
    · rw [if_pos c1, if_pos c1]; exact ⟨rfl, (h.2 i hi).2⟩
    · rw [if_neg c1, if_neg c1]
      by_cases c2 : x = i
      · rw [if_pos c2, if_pos c2]; exact ⟨rfl, (h.2 j hj).2⟩
      · rw [if_neg c2, if_neg c2]; exact h.2 x hx
theorem mFindI (h : pR M o) : ∀ m f, m ≤ 5 → m < f → lX14_turns_4 M f (nI m - 1) = some (nI (oI o m) - 1)
  | 0, f, _, hf => by
    obtain ⟨f', rfl⟩ : ∃ f', f = f' + 1 := ⟨f - 1, by omega⟩
    rw [lX14_turns_4, if_neg (by decide)]
    rfl
  | m + 1, f, hm, hf => by
    obtain ⟨f', rfl⟩ : ∃ f', f = f' + 1 := ⟨f - 1, by omega⟩
    have h1 := h.2 m (by omega)
    have h2 := h.2 (m + 1) (by omega)
    rw [lX14_turns_4, nI_pred, if_pos (nI_pos' (by omega)), gRd (by omega), gBd, nI_1, gRd (by omega), gBd, h1.1, h2.1]
    unfold oI
    by_cases c : o.getD (m + 1) 0 < o.getD m 0
    · rw [if_pos (nI_lt c (by omega)), if_pos c]
      have : nI m + -1 = nI m - 1 := by rw [Int32.sub_eq_add_neg]
      rw [this]
      exact mFindI h m f' (by omega) (by omega)
    · rw [if_neg (nI_nlt (by omega) (by omega)), if_neg c, nI_pred]
theorem mFindJ (h : pR M o) {i : Nat} (hi : i < 6) : ∀ m f, m ≤ 5 → m < f → i + 1 ≤ oJ o i m → lX14_turns_41 (nI i) M f (nI m) = some (nI (oJ o i m))
  | 0, f, _, _, hj => absurd hj (by show ¬ i + 1 ≤ 0; omega)
  | m + 1, f, hm, hf, hj => by
    obtain ⟨f', rfl⟩ : ∃ f', f = f' + 1 := ⟨f - 1, by omega⟩
    have h1 := h.2 i hi
    have h2 := h.2 (m + 1) (by omega)
    rw [lX14_turns_41, gRd (by omega), gBd, gRd hi, gBd, h1.1, h2.1]
    unfold oJ at hj ⊢
    by_cases c : o.getD (m + 1) 0 < o.getD i 0
    · rw [if_pos c] at hj
      rw [if_pos (nI_lt c (by omega)), if_pos c, pk_m1]
      exact mFindJ h hi m f' (by omega) (by omega) hj
    · rw [if_neg (nI_nlt (by omega) (by omega)), if_neg c]
theorem mRev : ∀ f a b o M F, pR M o → a ≤ 6 → b ≤ 5 → b < a + 2 * f → f < F → ∃ M', lX14_turns_78 F (nI a) (nI b) M = some M' ∧ pR M' (oV f a b o) ∧ ∀ c, c ≠ 118 → M' c = M c
  | 0, a, b, o, M, F, h, ha, hb, hab, hF => by
    obtain ⟨F', rfl⟩ : ∃ F', F = F' + 1 := ⟨F - 1, by omega⟩
    rw [lX14_turns_78, if_neg (nI_nlt (by omega) (by omega))]
    exact ⟨M, rfl, h, fun _ _ => rfl⟩
  | f + 1, a, b, o, M, F, h, ha, hb, hab, hF => by
    obtain ⟨F', rfl⟩ : ∃ F', F = F' + 1 := ⟨F - 1, by omega⟩
    rw [lX14_turns_78]
    unfold oV
    by_cases c : a < b
    · obtain ⟨M1, s1, s2, s3⟩ := mSwap h (i := a) (j := b) (by omega) (by omega)
      obtain ⟨b', rfl⟩ : ∃ b', b = b' + 1 := ⟨b - 1, by omega⟩
      rw [if_pos (nI_lt c (by omega)), if_pos c, s1, gBd, nI_1, pk_m1]
      obtain ⟨M2, r1, r2, r3⟩ := mRev f (a + 1) b' (oW o a (b' + 1)) M1 F' s2 (by omega) (by omega) (by omega) (by omega)
      exact ⟨M2, r1, r2, fun c hc => (r3 c hc).trans (s3 c hc)⟩
    · rw [if_neg (nI_nlt (by omega) (by omega)), if_neg c]
      exact ⟨M, rfl, h, fun _ _ => rfl⟩
theorem oI_le (o : List Nat) : ∀ m, oI o m ≤ m
  | 0 => Nat.le_refl _
  | m + 1 => by
    have := oI_le o m
    unfold oI
    split <;> omega
theorem mTurns (hN : 5000 ≤ N) (hn : n ≤ 6) (h : pR M o) (hok : oOk n o = true) : match oN n o with
    | none => fX14_turns N M (nI n) = some (0, M)
    | some o' => ∃ M', fX14_turns N M (nI n) = some (1, M') ∧ (∀ j, j < 6 → M' 118 j = nI (o'.getD j 0)) ∧ ∀ b, b ≠ 118 → M' b = M b := by
  unfold oN
  unfold oOk at hok
  simp only [Bool.and_eq_true, Bool.or_eq_true, decide_eq_true_eq] at hok
  have hlast := hok.2
  by_cases n0 : n = 0
  · rw [if_pos n0, n0]
    show fX14_turns N M 0 = some (0, M)
    unfold fX14_turns
    obtain ⟨N', rfl⟩ : ∃ N', N = N' + 1 := ⟨N - 1, by omega⟩
    rw [gNm, lX14_turns_4, if_neg (by decide), gBd, if_pos (by decide)]
  · rw [if_neg n0]
    obtain ⟨m, rfl⟩ : ∃ m, n = m + 1 := ⟨n - 1, by omega⟩
    have e2 : nI (m + 1) - 2 = nI m - 1 := by
      rw [← nI_pred m, show (2 : Int32) = 1 + 1 from rfl]
      generalize nI (m + 1) = x
      rw [Int32.sub_sub]
    have hI := mFindI h m N (by omega) (by omega)
    have hIl := oI_le o m
    rw [show m + 1 - 1 = m by omega] at *
    by_cases c0 : oI o m = 0
    · rw [if_pos c0]
      show fX14_turns N M (nI (m + 1)) = some (0, M)
      unfold fX14_turns
      rw [gNm, e2, hI, c0, gBd, if_pos (by decide)]
    · rw [if_neg c0]
      have hj := (hlast.resolve_left (by rintro (h | h) <;> omega))
      obtain ⟨i, hi⟩ : ∃ i, oI o m = i + 1 := ⟨oI o m - 1, by omega⟩
      rw [hi, show i + 1 - 1 = i by omega] at hj
      rw [hi] at hI hIl
      rw [hi, show i + 1 - 1 = i by omega]
      have hJ := mFindJ h (i := i) (by omega) m N (by omega) (by omega) hj.1
      obtain ⟨M1, s1, s2, s3⟩ := mSwap h (i := i) (j := oJ o i m) (by omega) hj.2
      obtain ⟨M2, r1, r2, r3⟩ := mRev 3 (i + 1) m (oW o i (oJ o i m)) M1 N s2 (by omega) (by omega) (by omega) (by omega)
      refine ⟨M2, ?_, fun j hj => (r2.2 j hj).1, fun b hb => (r3 b hb).trans (s3 b hb)⟩
      unfold fX14_turns
      rw [gNm, e2, hI, gBd, nI_pred, if_neg (nI_pos (by omega)), gNm, nI_pred, hJ, gBd, s1, gBd, gNm, nI_1, gNm, r1, gBd]
theorem mMean (hR : R 102 3 = some b) (hM : tM M b T) (hT : tOk T) (hN : 5000 ≤ N) (h : pR M o) (hok : oOk (T 0 11) o = true) : fX14_meanOf N M R = some (lN (kN T o (T 0 11))) := by
  have hz := tO_sz hT
  unfold oOk at hok
  simp only [Bool.and_eq_true, decide_eq_true_eq, List.all_eq_true, List.mem_range] at hok
  have hlt := hok.1.2
  have inner : ∀ k, k < T 0 11 → lX14_meanOf_35 (nI k) M R N (lN (T 20 (o.getD k 0))) 0 = some (lN (kT T o k (T 0 11))) := by
    intro k hk
    have key := gUp (fun n j (x : Int64) => lX14_meanOf_35 (nI k) M R n x (nI j)) (fun j => lN (T 20 (o.getD k 0) * gPr (fun j => if j < k then 10 - T 21 (o.getD j 0) else 10) 0 j)) (T 0 11) (lN (kT T o k (T 0 11))) ?_ ?_ N 0 (Nat.zero_le _) (by omega)
    · have key' : lX14_meanOf_35 (nI k) M R N (lN (T 20 (o.getD k 0) * 1)) 0 = _ := key
      rw [Nat.mul_one] at key'
      exact key'
    · intro n j hj
      show lX14_meanOf_35 _ _ _ _ _ _ = lX14_meanOf_35 _ _ _ _ _ _
      have ho := hlt j hj
      obtain ⟨_, o21, o21'⟩ := tO_court hT _ ho
      rw [lX14_meanOf_35, hR, gBd, tM_0 hM (by decide), if_pos (nI_lt hj (by omega)), nI_1]
      have e : gPr (fun j => if j < k then 10 - T 21 (o.getD j 0) else 10) 0 (j + 1) = gPr (fun j => if j < k then 10 - T 21 (o.getD j 0) else 10) 0 j * (if j < k then 10 - T 21 (o.getD j 0) else 10) := by
        show _ * (if 0 + j < k then 10 - T 21 (o.getD (0 + j) 0) else 10) = _
        rw [Nat.zero_add]
      rw [e, ← Nat.mul_assoc]
      by_cases c : j < k
      · rw [if_pos (nI_lt c (by omega)), gBd, gRd (by omega), gBd, (h.2 j (by omega)).1, gRd (by omega), gBd, tM_21 hM (by omega), gBd, gL_10, pk_sub (by omega), nI_l (by omega), lN_mul, gNm, if_pos c]
      · rw [if_neg (nI_nlt (by omega) (by omega)), gBd, show ∀ x : Nat, lN x * 10 = lN (x * 10) from fun x => lN_mul x 10, gNm, if_neg c]
    · intro n
      show lX14_meanOf_35 _ _ _ _ _ _ = _
      rw [lX14_meanOf_35, hR, gBd, tM_0 hM (by decide), if_neg (nI_nlt (Nat.le_refl _) (by omega))]
      rfl
  unfold fX14_meanOf
  have key : lX14_meanOf_4 N M R N 0 0 = some (lN (kN T o (T 0 11))) := by
    refine gUp (fun n k (x : Int64) => lX14_meanOf_4 N M R n x (nI k)) (fun k => lN (gSum (fun k => kT T o k (T 0 11)) k)) (T 0 11) _ ?_ ?_ N 0 (Nat.zero_le _) (by omega)
    · intro n k hk
      have ho := hlt k hk
      obtain ⟨o20, _, _⟩ := tO_court hT _ ho
      show lX14_meanOf_4 _ _ _ _ _ _ = lX14_meanOf_4 _ _ _ _ _ _
      rw [lX14_meanOf_4, hR, gBd, tM_0 hM (by decide), if_pos (nI_lt hk (by omega)), gBd, gRd (by omega), gBd, (h.2 k (by omega)).1, gRd (by omega), gBd, tM_20 hM (by omega), nI_l (by omega), gNm, inner k hk, gBd, lN_add, gNm, nI_1]
      rfl
    · intro n
      show lX14_meanOf_4 _ _ _ _ _ _ = _
      rw [lX14_meanOf_4, hR, gBd, tM_0 hM (by decide), if_neg (nI_nlt (Nat.le_refl _) (by omega))]
      rfl
  rw [key, gBd]
end courts3
