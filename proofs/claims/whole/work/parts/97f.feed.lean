/-! FEED -/
theorem gShb (v : Int32) (k : Nat) (hk : k = 0 ∨ k = 8 ∨ k = 16 ∨ k = 24) : Int32.toInt8 ((Int32.toUInt32 v >>> (Int32.toUInt32 (nI k) &&& Int32.toUInt32 31)).toInt32) = Int32.toInt8 (v >>> (nI k &&& 31)) := by
  have h1 : ((Int32.toUInt32 v >>> (Int32.toUInt32 (nI k) &&& Int32.toUInt32 31)).toInt32).toBitVec.toNat = v.toBitVec.toNat / 2 ^ k := pk_ushr v (nI k) k (by rcases hk with h | h | h | h <;> subst h <;> rfl)
  have h2 : (v >>> (nI k &&& 31)).toInt = v.toInt >>> k := pk_shr v _ k (gI_sm k (by omega))
  have key : ∀ x y : Int32, x.toBitVec.toNat % 256 = y.toBitVec.toNat % 256 → Int32.toInt8 x = Int32.toInt8 y := by
    intro x y h
    apply Int8.toBitVec_inj.mp
    rw [Int32.toBitVec_toInt8, Int32.toBitVec_toInt8]
    apply BitVec.eq_of_toNat_eq
    rw [BitVec.signExtend_eq_setWidth_of_le _ (by decide), BitVec.signExtend_eq_setWidth_of_le _ (by decide), BitVec.toNat_setWidth, BitVec.toNat_setWidth]
    exact h
  apply key
  rw [h1]
  have h3 : v.toInt = v.toBitVec.toInt := rfl
  have h4 : (v >>> (nI k &&& 31)).toInt = (v >>> (nI k &&& 31)).toBitVec.toInt := rfl
  rw [h3, h4] at h2
  generalize v.toBitVec = a at *
  generalize (v >>> (nI k &&& 31)).toBitVec = b at *
  have ha := a.isLt
  have hb := b.isLt
  rw [BitVec.toInt_eq_toNat_cond, BitVec.toInt_eq_toNat_cond, Int.shiftRight_eq_div_pow] at h2
  rcases hk with h | h | h | h <;> subst h <;> split at h2 <;> split at h2 <;> simp at h2 ⊢ <;> omega
/-- the byte of an int: the j-th from above -/
def gBy (v : Int32) (j : Nat) : Int8 := Int32.toInt8 (v >>> (nI (24 - 8 * j) &&& 31))
def fB (B : Nat → Int8) (n : Nat) (f : Nat → Int8) : Nat → Int8 := fun i => if i < n then B i else f (i - n)
theorem gI8 (x : Int8) : Int8.toInt32 (Int32.toInt8 (Int8.toInt32 x)) = Int8.toInt32 x := by rw [Int8.toInt8_toInt32]
section feed
variable {M : goMI} {N : Nat}
def cTp (M : goMI) (n : Nat) (B : Nat → Int8) : Prop := M 1 1 = nI n ∧ ∀ i, i < n → M 2 i = Int8.toInt32 (B i)
def mTp (M : goMI) (n : Nat) (B : Nat → Int8) : Prop := M 102 6 = nI n ∧ ∀ i, i < n → M 103 i = Int8.toInt32 (B i)
theorem cAdd {n : Nat} {B : Nat → Int8} {v : Int32} (hN : 5000 ≤ N) (hn : n + 4 ≤ 1200) (h : cTp M n B) : ∃ M', fX11_add N M v = some M' ∧ cTp M' (n + 4) (fB B n (gBy v)) ∧ (∀ b, b ≠ 1 → b ≠ 2 → M' b = M b) ∧ ∀ j, j ≠ 1 → M' 1 j = M 1 j := by
  have step : ∀ m j M1, j < 4 → cTp M1 (n + j) (fB B n (gBy v)) → (∀ b, b ≠ 1 → b ≠ 2 → M1 b = M b) → (∀ i, i ≠ 1 → M1 1 i = M 1 i) → ∃ M2, lX11_add_3 v (m + 1) (nI (24 - 8 * j)) M1 = lX11_add_3 v m (nI (24 - 8 * j) + (-8)) M2 ∧ cTp M2 (n + (j + 1)) (fB B n (gBy v)) ∧ (∀ b, b ≠ 1 → b ≠ 2 → M2 b = M b) ∧ ∀ i, i ≠ 1 → M2 1 i = M 1 i := by
    intro m j M1 hj hT f1 f2
    obtain ⟨t1, t2⟩ := hT
    have hsh := gShb v (24 - 8 * j) (by omega)
    refine ⟨goWI (goWI M1 2 (n + j) (Int8.toInt32 (gBy v j))) 1 1 (nI (n + j + 1)), ?_, ⟨by rw [gWI_self, if_pos rfl]; rfl, fun i hi => ?_⟩, fun b h1 h2 => by rw [goWI_ne h1, goWI_ne h2]; exact f1 b h1 h2, fun i hi => by rw [gWI_nk hi, gWI_na (by decide)]; exact f2 i hi⟩
    · rw [lX11_add_3, if_pos (nI_pos' (by omega)), t1, gL_1200, if_pos (nI_lt (by omega) (by decide)), hsh, gWrB (by omega), gBd, gNm, gWI_na (by decide), t1, nI_1, gBd, gI8]
      rfl
    · rw [gWI_na (by decide), gWI_self]
      by_cases e : i = n + j
      · rw [if_pos e, e]
        unfold fB
        rw [if_neg (by omega), show n + j - n = j by omega]
      · rw [if_neg e]; exact t2 i (by omega)
  obtain ⟨m, rfl⟩ : ∃ m, N = m + 5 := ⟨N - 5, by omega⟩
  have h0 : cTp M (n + 0) (fB B n (gBy v)) := ⟨h.1, fun i hi => by
    unfold fB
    have hi' : i < n := hi
    rw [if_pos hi']; exact h.2 i hi⟩
  obtain ⟨M1, a1, a2, a3, a4⟩ := step (m + 4) 0 M (by decide) h0 (fun _ _ _ => rfl) (fun _ _ => rfl)
  obtain ⟨M2, b1, b2, b3, b4⟩ := step (m + 3) 1 M1 (by decide) a2 a3 a4
  obtain ⟨M3, c1, c2, c3, c4⟩ := step (m + 2) 2 M2 (by decide) b2 b3 b4
  obtain ⟨M4, d1, d2, d3, d4⟩ := step (m + 1) 3 M3 (by decide) c2 c3 c4
  refine ⟨M4, ?_, d2, d3, d4⟩
  unfold fX11_add
  have a1' : lX11_add_3 v (m + 5) 24 M = lX11_add_3 v (m + 4) (nI (24 - 8 * 1)) M1 := a1
  have b1' : lX11_add_3 v (m + 4) (nI (24 - 8 * 1)) M1 = lX11_add_3 v (m + 3) (nI (24 - 8 * 2)) M2 := b1
  have c1' : lX11_add_3 v (m + 3) (nI (24 - 8 * 2)) M2 = lX11_add_3 v (m + 2) (nI (24 - 8 * 3)) M3 := c1
  have d1' : lX11_add_3 v (m + 2) (nI (24 - 8 * 3)) M3 = lX11_add_3 v (m + 1) (-8) M4 := d1
  rw [a1', b1', c1', d1', lX11_add_3, if_neg (by decide), gBd]
def gA5 (a b c d e : Int32) (i : Nat) : Int32 := if i < 4 then a else if i < 8 then b else if i < 12 then c else if i < 16 then d else e
theorem mFeed {n : Nat} {B : Nat → Int8} {a b c d e : Int32} (hN : 5000 ≤ N) (hn : n + 20 ≤ 1200) (h : mTp M n B) : ∃ M', lX14_feed_23 a b c d e N 0 M = some M' ∧ mTp M' (n + 20) (fB B n (fun i => gBy (gA5 a b c d e i) (i % 4))) ∧ (∀ b, b ≠ 102 → b ≠ 103 → M' b = M b) ∧ ∀ j, j ≠ 6 → M' 102 j = M 102 j := by
  refine gFor (fun m i M' => lX14_feed_23 a b c d e m (nI i) M') (fun i M' => mTp M' (n + i) (fB B n (fun i => gBy (gA5 a b c d e i) (i % 4))) ∧ (∀ b, b ≠ 102 → b ≠ 103 → M' b = M b) ∧ ∀ j, j ≠ 6 → M' 102 j = M 102 j) _ 20 ?_ ?_ N 0 M (Nat.zero_le _) ⟨⟨h.1, fun i hi => by
    unfold fB
    have hi' : i < n := hi
    rw [if_pos hi']; exact h.2 i hi⟩, fun _ _ _ => rfl, fun _ _ => rfl⟩ (by omega)
  · intro m i M1 hi hP
    obtain ⟨⟨t1, t2⟩, f1, f2⟩ := hP
    refine ⟨goWI (goWI M1 103 (n + i) (Int8.toInt32 (gBy (gA5 a b c d e i) (i % 4)))) 102 6 (nI (n + i + 1)), ?_, ⟨by rw [gWI_self, if_pos rfl]; rfl, fun j hj => ?_⟩, fun b h1 h2 => by rw [goWI_ne h1, goWI_ne h2]; exact f1 b h1 h2, fun j hj => by rw [gWI_nk hj, gWI_na (by decide)]; exact f2 j hj⟩
    · show lX14_feed_23 _ _ _ _ _ _ _ _ = lX14_feed_23 _ _ _ _ _ _ _ _
      have e1 : (if nI i < 4 then a else if nI i < 8 then b else if nI i < 12 then c else if nI i < 16 then d else e) = gA5 a b c d e i := by
        unfold gA5
        simp only [gL_4, gL_8, gL_12, gL_16]
        simp (disch := omega) only [nI_ltI]
      rw [lX14_feed_23, gL_20, if_pos (nI_lt hi (by decide)), e1, gNm, t1, gL_4, pk_rem (by omega) (by decide) (by decide), gL_8, gN_8, gL_24, pk_sub (by omega), gWrB (by omega), gBd, gNm, gWI_na (by decide), t1, nI_1, nI_1, gI8]
      rfl
    · rw [gWI_na (by decide), gWI_self]
      by_cases ej : j = n + i
      · rw [if_pos ej, ej]
        unfold fB
        rw [if_neg (by omega), show n + i - n = i by omega]
      · rw [if_neg ej]; exact t2 j (by omega)
  · intro m M1 hP
    refine ⟨M1, ?_, hP⟩
    show lX14_feed_23 _ _ _ _ _ _ _ _ = _
    rw [lX14_feed_23, gL_20, if_neg (nI_nlt (Nat.le_refl _) (by decide))]
end feed
theorem go_feed : goS_feed gInv := by
  rintro k G M L R a1 a2 a3 a4 a5 ⟨t, T, A, B, hX⟩ hk
  obtain ⟨x1, x2, x3, x4, x5, x6, x7, x8, x9⟩ := id hX
  obtain ⟨n, n1, n2, n3, n4⟩ := x6
  by_cases c0 : n + 20 ≤ 1200
  · have hb : ∀ i, i < n → M 2 i = Int8.toInt32 (Int32.toInt8 (M 2 i)) := fun i hi => by
      obtain ⟨x, hx⟩ := (n4 i hi).2
      rw [hx, gI8]
    have h0 : cTp M n (fun i => Int32.toInt8 (M 2 i)) := ⟨n2, hb⟩
    obtain ⟨M1, p1, p2, p3, p4⟩ := cAdd (N := 5000) (v := a1) (by decide) (by omega) h0
    obtain ⟨M2, q1, q2, q3, q4⟩ := cAdd (N := 5000) (v := a2) (by decide) (by omega) p2
    obtain ⟨M3, r1, r2, r3, r4⟩ := cAdd (N := 5000) (v := a3) (by decide) (by omega) q2
    obtain ⟨M4, s1, s2, s3, s4⟩ := cAdd (N := 5000) (v := a4) (by decide) (by omega) r2
    obtain ⟨M5, t1, t2, t3, t4⟩ := cAdd (N := 5000) (v := a5) (by decide) (by omega) s2
    have f5 : ∀ b, b ≠ 1 → b ≠ 2 → M5 b = M b := fun b h1 h2 => by rw [t3 b h1 h2, s3 b h1 h2, r3 b h1 h2, q3 b h1 h2, p3 b h1 h2]
    have h1 : mTp (goWI M5 102 0 0) n (fun i => Int32.toInt8 (M 2 i)) := ⟨by rw [gWI_nk (by decide), f5 102 (by decide) (by decide)]; exact n3, fun i hi => by
      rw [gWI_na (by decide), f5 103 (by decide) (by decide), (n4 i hi).1]; exact hb i hi⟩
    obtain ⟨M6, m1, m2, m3, m4⟩ := mFeed (N := 5000) (a := a1) (b := a2) (c := a3) (d := a4) (e := a5) (by decide) c0 h1
    have f6 : ∀ b, b ≠ 102 → b ≠ 103 → M6 b = M5 b := fun b h1 h2 => by rw [m3 b h1 h2, goWI_ne h1]
    have f102 : ∀ j, j ≠ 0 → j ≠ 6 → M6 102 j = M 102 j := fun j h0 h6 => by rw [m4 j h6, gWI_nk h0, f5 102 (by decide) (by decide)]
    have fi : ∀ b, b ≠ 1 → b ≠ 2 → b ≠ 102 → b ≠ 103 → M6 b = M b := fun b h1 h2 h3 h4 => by rw [f6 b h3 h4, f5 b h1 h2]
    have ht := x2.1
    refine ⟨5000, nI (n + 20), M5, M6, ?_, ?_, t, T, A, B, x1, x2, tC_fr x3 (fun r hr => fi _ (by omega) (by omega) (by omega) (by omega)), iM_fr x4 (fun b hb => fi b (by omega) (by omega) (by omega) (by omega)), iA_fr x5 (fi 3 (by decide) (by decide) (by decide) (by decide)) (fi 4 (by decide) (by decide) (by decide) (by decide)) (fi 5 (by decide) (by decide) (by decide) (by decide)) (fi 6 (by decide) (by decide) (by decide) (by decide)) (fi 105 (by decide) (by decide) (by decide) (by decide)) (fi 106 (by decide) (by decide) (by decide) (by decide)) (fi 107 (by decide) (by decide) (by decide) (by decide)) (f102 21 (by decide) (by decide)) (f102 22 (by decide) (by decide)), ?_, ?_, kOk_fr x8 (by omega) (fi 3 (by decide) (by decide) (by decide) (by decide)) (fun b h1 h2 => fi b (by omega) (by omega) (by omega) (by omega)), x9⟩
    · unfold fX12_feed
      rw [n2, gL_20, nI_add, gL_1200, if_neg (nI_nlt c0 (by decide)), p1, gBd, q1, gBd, r1, gBd, s1, gBd, t1, gBd, t2.1]
    · unfold fX14_feed
      rw [gNm, h1.1, gL_20, nI_add, gL_1200, if_neg (nI_nlt c0 (by decide)), m1, gBd, m2.1]
    · refine ⟨n + 20, c0, ?_, m2.1, fun i hi => ?_⟩
      · rw [f6 1 (by decide) (by decide)]; exact t2.1
      · rw [f6 2 (by decide) (by decide), m2.2 i hi, t2.2 i hi]
        refine ⟨congrArg Int8.toInt32 ?_, _, rfl⟩
        have g5 : ∀ (x : Int32) (j : Nat), gA5 a1 a2 a3 a4 a5 (i - n) = x → (i - n) % 4 = j → (fun i => gBy (gA5 a1 a2 a3 a4 a5 i) (i % 4)) (i - n) = gBy x j := fun x j h1 h2 => by
          show gBy (gA5 a1 a2 a3 a4 a5 (i - n)) ((i - n) % 4) = _
          rw [h1, h2]
        unfold fB
        by_cases d0 : i < n
        · rw [if_pos d0, if_pos (by omega), if_pos (by omega), if_pos (by omega), if_pos (by omega), if_pos d0]
        · rw [if_neg d0]
          by_cases d1 : i < n + 4
          · rw [if_pos (by omega), if_pos (by omega), if_pos (by omega), if_pos d1, if_neg d0]
            exact g5 _ _ (by unfold gA5; rw [if_pos (by omega)]) (by omega)
          · by_cases d2 : i < n + 8
            · rw [if_pos (by omega), if_pos (by omega), if_pos (by omega), if_neg d1]
              exact g5 _ _ (by unfold gA5; rw [if_neg (by omega), if_pos (by omega)]) (by omega)
            · by_cases d3 : i < n + 12
              · rw [if_pos (by omega), if_pos (by omega), if_neg (by omega)]
                exact g5 _ _ (by unfold gA5; rw [if_neg (by omega), if_neg (by omega), if_pos (by omega)]) (by omega)
              · by_cases d4 : i < n + 16
                · rw [if_pos (by omega), if_neg (by omega)]
                  exact g5 _ _ (by unfold gA5; rw [if_neg (by omega), if_neg (by omega), if_neg (by omega), if_pos (by omega)]) (by omega)
                · rw [if_neg (by omega)]
                  exact g5 _ _ (by unfold gA5; rw [if_neg (by omega), if_neg (by omega), if_neg (by omega), if_neg (by omega)]) (by omega)
    · unfold iE
      rw [f102 1 (by decide) (by decide), f102 14 (by decide) (by decide), f102 2 (by decide) (by decide), fi 0 (by decide) (by decide) (by decide) (by decide), fi 67 (by decide) (by decide) (by decide) (by decide)]
      exact x7
  · refine ⟨5000, -1, M, goWI M 102 0 0, ?_, ?_, iX_0 hX 0⟩
    · unfold fX12_feed
      rw [n2, gL_20, nI_add, gL_1200, if_pos (nI_lt (by omega) (by omega))]
    · unfold fX14_feed
      rw [gNm, gWI_nk (by decide), n3, gL_20, nI_add, gL_1200, if_pos (nI_lt (by omega) (by omega))]
