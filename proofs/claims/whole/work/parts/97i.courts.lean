/-! ORDERS OF COURTS, over naturals -/
/-- the costs of an order, in 10 to as many as there are -/
def kU (T : tH) : List Nat → Nat
  | [] => 0
  | k :: r => T 20 k * 10 ^ (r.length + 1) + (10 - T 21 k) * kU T r
def plF (f : Nat → List (List Nat)) (x : Nat) : Nat → List (List Nat)
  | 0 => []
  | k + 1 => plF f x k ++ (if x.testBit k then (f (dAn x (2 ^ k))).map (fun l => k :: l) else [])
/-- all orders of a set of so many, by numbers -/
def pl : Nat → Nat → List (List Nat)
  | 0, _ => [[]]
  | m + 1, x => plF (pl m) x 6
def kBig : Nat := 9223372036854775807
def kW (T : tH) (f : Nat → Nat) (m x k : Nat) : Nat := T 20 k * 10 ^ (m + 1) + (10 - T 21 k) * f (dAn x (2 ^ k))
/-- the least costs of a set -/
def kL (T : tH) : Nat → Nat → Nat
  | 0, _ => 0
  | m + 1, x => (gMin (kW T (kL T m) m x) (fun k => x.testBit k) 0 kBig 6).2
def kF (T : tH) : Nat → Nat → Nat
  | 0, _ => 0
  | m + 1, x => (gMin (kW T (kL T m) m x) (fun k => x.testBit k) 0 kBig 6).1
/-- the first best order of a set -/
def kB (T : tH) : Nat → Nat → List Nat
  | 0, _ => []
  | m + 1, x => kF T (m + 1) x :: kB T m (dAn x (2 ^ kF T (m + 1) x))
/-- the better of two -/
def kC (a b : Option (Nat × List Nat)) : Option (Nat × List Nat) := match a, b with
  | none, y => y
  | some x, none => some x
  | some x, some y => if y.1 < x.1 then some y else some x
def kM (T : tH) (a : Option (Nat × List Nat)) : List (List Nat) → Option (Nat × List Nat)
  | [] => a
  | l :: ls => kM T (kC a (some (kU T l, l))) ls
theorem kC_assoc (a b c : Option (Nat × List Nat)) : kC (kC a b) c = kC a (kC b c) := by
  rcases a with _ | ⟨x, lx⟩ <;> rcases b with _ | ⟨y, ly⟩ <;> rcases c with _ | ⟨z, lz⟩ <;> try rfl
  · show kC (if y < x then some (y, ly) else some (x, lx)) none = kC (some (x, lx)) (some (y, ly))
    show _ = if y < x then some (y, ly) else some (x, lx)
    split <;> rfl
  · show kC (if y < x then some (y, ly) else some (x, lx)) (some (z, lz)) = kC (some (x, lx)) (if z < y then some (z, lz) else some (y, ly))
    by_cases h1 : y < x
    · rw [if_pos h1]
      by_cases h2 : z < y
      · rw [if_pos h2]
        show (if z < y then some (z, lz) else some (y, ly)) = if z < x then some (z, lz) else some (x, lx)
        rw [if_pos h2, if_pos (by omega)]
      · rw [if_neg h2]
        show (if z < y then some (z, lz) else some (y, ly)) = if y < x then some (y, ly) else some (x, lx)
        rw [if_neg h2, if_pos h1]
    · rw [if_neg h1]
      by_cases h2 : z < y
      · rw [if_pos h2]
      · rw [if_neg h2]
        show (if z < x then some (z, lz) else some (x, lx)) = if y < x then some (y, ly) else some (x, lx)
        rw [if_neg h1, if_neg (by omega)]
theorem kC_none (a : Option (Nat × List Nat)) : kC a none = a := by cases a <;> rfl
theorem kM_acc (T : tH) : ∀ (ls : List (List Nat)) (a : Option (Nat × List Nat)), kM T a ls = kC a (kM T none ls)
  | [], a => (kC_none a).symm
  | l :: ls, a => by
    show kM T (kC a (some (kU T l, l))) ls = kC a (kM T (kC none (some (kU T l, l))) ls)
    rw [kM_acc T ls, kM_acc T ls (kC none (some (kU T l, l))), kC_assoc]
    rfl
theorem kM_app (T : tH) : ∀ (l1 l2 : List (List Nat)) (a : Option (Nat × List Nat)), kM T a (l1 ++ l2) = kM T (kM T a l1) l2
  | [], _, _ => rfl
  | l :: l1, l2, a => kM_app T l1 l2 _
theorem kM_map (T : tH) {k m : Nat} (hw : T 21 k < 10) : ∀ (ls : List (List Nat)), (∀ l, l ∈ ls → l.length = m) → kM T none (ls.map (fun l => k :: l)) = (kM T none ls).map (fun y => (T 20 k * 10 ^ (m + 1) + (10 - T 21 k) * y.1, k :: y.2))
  | [], _ => rfl
  | l :: ls, h => by
    have hl := h l (List.mem_cons_self)
    have ih := kM_map T hw ls (fun x hx => h x (List.mem_cons_of_mem _ hx))
    show kM T (kC none (some (kU T (k :: l), k :: l))) (ls.map (fun l => k :: l)) = (kM T (kC none (some (kU T l, l))) ls).map _
    rw [kM_acc, ih, kM_acc T ls (kC none (some (kU T l, l)))]
    have e : kU T (k :: l) = T 20 k * 10 ^ (m + 1) + (10 - T 21 k) * kU T l := by
      show T 20 k * 10 ^ (l.length + 1) + (10 - T 21 k) * kU T l = _
      rw [hl]
    rw [e]
    show kC (some (T 20 k * 10 ^ (m + 1) + (10 - T 21 k) * kU T l, k :: l)) ((kM T none ls).map _) = (kC (some (kU T l, l)) (kM T none ls)).map _
    cases kM T none ls with
    | none => rfl
    | some y =>
      show (if T 20 k * 10 ^ (m + 1) + (10 - T 21 k) * y.1 < T 20 k * 10 ^ (m + 1) + (10 - T 21 k) * kU T l then _ else _) = (if y.1 < kU T l then some y else some (kU T l, l)).map _
      have hpos : 0 < 10 - T 21 k := by omega
      by_cases c : y.1 < kU T l
      · rw [if_pos c, if_pos (Nat.add_lt_add_left (Nat.mul_lt_mul_of_pos_left c hpos) _)]; rfl
      · rw [if_neg c, if_neg (by
          have := Nat.mul_le_mul_left (10 - T 21 k) (Nat.le_of_not_lt c)
          omega)]; rfl
theorem plF_len {f : Nat → List (List Nat)} {x m : Nat} (hf : ∀ y l, l ∈ f y → l.length = m) : ∀ k l, l ∈ plF f x k → l.length = m + 1
  | 0, l, h => by cases h
  | k + 1, l, h => by
    unfold plF at h
    rw [List.mem_append] at h
    rcases h with h | h
    · exact plF_len hf k l h
    · split at h
      · rw [List.mem_map] at h
        obtain ⟨r, h1, h2⟩ := h
        rw [← h2, List.length_cons, hf _ r h1]
      · cases h
theorem pl_len : ∀ m x l, l ∈ pl m x → l.length = m
  | 0, x, l, h => by
    have : l = [] := by simpa [pl] using h
    rw [this]; rfl
  | m + 1, x, l, h => plF_len (fun y l => pl_len m y l) 6 l h
theorem gPc_rem {x k m : Nat} (hk : k < 12) (hb : x.testBit k = true) (h : gPc x = m + 1) : gPc (dAn x (2 ^ k)) = m := by
  have e : dAn x (2 ^ k) = x ^^^ 2 ^ k := by
    apply Nat.eq_of_testBit_eq
    intro i
    rw [dAn_tb, gTb_x, gTb_pow]
    by_cases c : k = i
    · rw [← c, hb, decide_eq_true rfl]; rfl
    · rw [decide_eq_false c]
      cases x.testBit i <;> rfl
  have := gPc_flip (x := x) hk
  rw [hb] at this
  rw [e]
  have h1 : true.toNat = 1 := rfl
  have h0 : (!true).toNat = 0 := rfl
  omega
section courts
variable {T : tH} {n : Nat}
/-- bounds of the costs -/
def kOkT (T : tH) (n : Nat) : Prop := n ≤ 6 ∧ ∀ k, k < n → T 20 k ≤ 99 ∧ 1 ≤ T 21 k ∧ T 21 k ≤ 9
theorem kL_le (hT : kOkT T n) : ∀ m x, x < 2 ^ n → gPc x = m → kL T m x ≤ 99 * m * 10 ^ m
  | 0, x, _, _ => Nat.zero_le _
  | m + 1, x, hx, hp => by
    have hne : x ≠ 0 := fun e => by
      rw [e] at hp
      have h0 : gPc 0 = 0 := by decide
      omega
    obtain ⟨k, hk⟩ := gTb_ex hne
    have hkn : k < n := by
      apply Classical.byContradiction
      intro h
      rw [gTb_hi hx (by omega)] at hk
      cases hk
    have h6 := hT.1
    have hd : dAn x (2 ^ k) < 2 ^ n := dAn_lt hx
    have ih := kL_le hT m (dAn x (2 ^ k)) hd (gPc_rem (by omega) hk hp)
    obtain ⟨c1, c2, c3⟩ := hT.2 k hkn
    have h1 : kL T (m + 1) x ≤ kW T (kL T m) m x k := gMin_min (r := fun k => x.testBit k) hk (by omega)
    have h2 : kW T (kL T m) m x k ≤ 99 * 10 ^ (m + 1) + 9 * (99 * m * 10 ^ m) := by
      unfold kW
      exact Nat.add_le_add (Nat.mul_le_mul_right _ c1) (Nat.mul_le_mul (by omega) ih)
    have h3 : 99 * 10 ^ (m + 1) + 9 * (99 * m * 10 ^ m) ≤ 99 * (m + 1) * 10 ^ (m + 1) := by
      rw [Nat.pow_succ]
      generalize 10 ^ m = z
      have e1 : 9 * (99 * m * z) = 891 * (m * z) := by rw [Nat.mul_assoc 99 m z, ← Nat.mul_assoc]
      have e2 : 99 * (m + 1) * (z * 10) = 990 * (m * z) + 990 * z := by
        rw [Nat.mul_add, Nat.add_mul]
        have : 99 * m * (z * 10) = 990 * (m * z) := by
          rw [Nat.mul_assoc, ← Nat.mul_assoc m z 10, Nat.mul_comm (m * z) 10, ← Nat.mul_assoc]
        omega
      omega
    exact Nat.le_trans h1 (Nat.le_trans h2 h3)
theorem kL_lt (hT : kOkT T n) {m x : Nat} (hx : x < 2 ^ n) (hp : gPc x = m) : kL T m x < 1000000000 := by
  have h6 := hT.1
  have h1 := kL_le hT m x hx hp
  have hm : m ≤ 6 := by
    have := gPc_le2 (n := n) (by omega) hx
    omega
  have h2 : 10 ^ m ≤ 10 ^ 6 := Nat.pow_le_pow_right (by decide) hm
  have h3 : 99 * m * 10 ^ m ≤ 99 * 6 * 10 ^ 6 := Nat.mul_le_mul (by omega) h2
  omega
theorem kW_lt (hT : kOkT T n) {m x k : Nat} (hx : x < 2 ^ n) (hp : gPc x = m + 1) (hk : x.testBit k = true) : kW T (kL T m) m x k < 10000000000 := by
  have h6 := hT.1
  have hkn : k < n := by
    apply Classical.byContradiction
    intro h
    rw [gTb_hi hx (by omega)] at hk
    cases hk
  have hd : dAn x (2 ^ k) < 2 ^ n := dAn_lt hx
  have hl := kL_lt hT hd (gPc_rem (by omega) hk hp)
  obtain ⟨c1, c2, c3⟩ := hT.2 k hkn
  have hm : m + 1 ≤ 6 := by
    have := gPc_le2 (n := n) (by omega) hx
    omega
  have h2 : 10 ^ (m + 1) ≤ 10 ^ 6 := Nat.pow_le_pow_right (by decide) hm
  have h3 : T 20 k * 10 ^ (m + 1) ≤ 99 * 10 ^ 6 := Nat.mul_le_mul c1 h2
  have h4 : (10 - T 21 k) * kL T m (dAn x (2 ^ k)) ≤ 9 * kL T m (dAn x (2 ^ k)) := Nat.mul_le_mul_right _ (by omega)
  unfold kW
  omega
/-- the first best of all orders is the one that takes the best first court, and goes on so -/
theorem kM_pl (hT : kOkT T n) : ∀ m x, x < 2 ^ n → gPc x = m → kM T none (pl m x) = some (kL T m x, kB T m x)
  | 0, x, _, _ => rfl
  | m + 1, x, hx, hp => by
    have h6 := hT.1
    have step : ∀ k, k ≤ 6 → kM T none (plF (pl m) x k) = if (gMin (kW T (kL T m) m x) (fun k => x.testBit k) 0 kBig k).2 < kBig then some ((gMin (kW T (kL T m) m x) (fun k => x.testBit k) 0 kBig k).2, (gMin (kW T (kL T m) m x) (fun k => x.testBit k) 0 kBig k).1 :: kB T m (dAn x (2 ^ (gMin (kW T (kL T m) m x) (fun k => x.testBit k) 0 kBig k).1))) else none := by
      intro k
      induction k with
      | zero =>
        intro _
        show none = if kBig < kBig then _ else none
        rw [if_neg (Nat.lt_irrefl _)]
      | succ k ih =>
        intro hk
        have ih' := ih (by omega)
        unfold plF
        rw [kM_app, ih']
        cases hb : x.testBit k
        · rw [if_neg Bool.false_ne_true]
          have : gMin (kW T (kL T m) m x) (fun k => x.testBit k) 0 kBig (k + 1) = gMin (kW T (kL T m) m x) (fun k => x.testBit k) 0 kBig k := by
            show (if (x.testBit k && _) then _ else _) = _
            rw [hb, Bool.false_and, if_neg Bool.false_ne_true]
          rw [this]
          rfl
        · have hkn : k < n := by
            apply Classical.byContradiction
            intro h
            rw [gTb_hi hx (by omega)] at hb
            cases hb
          have hd : dAn x (2 ^ k) < 2 ^ n := dAn_lt hx
          have hrec := kM_pl hT m (dAn x (2 ^ k)) hd (gPc_rem (by omega) hb hp)
          have hw := kW_lt hT hx hp hb
          rw [if_pos rfl, kM_acc, kM_map T (by have := (hT.2 k hkn).2.2; omega) _ (fun l hl => pl_len m _ l hl), hrec]
          show kC _ (some (kW T (kL T m) m x k, k :: kB T m (dAn x (2 ^ k)))) = _
          have hs : gMin (kW T (kL T m) m x) (fun k => x.testBit k) 0 kBig (k + 1) = if kW T (kL T m) m x k < (gMin (kW T (kL T m) m x) (fun k => x.testBit k) 0 kBig k).2 then (k, kW T (kL T m) m x k) else gMin (kW T (kL T m) m x) (fun k => x.testBit k) 0 kBig k := by
            show (if (x.testBit k && decide _) = true then _ else _) = _
            rw [hb, Bool.true_and]
            by_cases c : kW T (kL T m) m x k < (gMin (kW T (kL T m) m x) (fun k => x.testBit k) 0 kBig k).2
            · rw [if_pos (decide_eq_true c), if_pos c]
            · rw [if_neg (by rw [decide_eq_false c]; exact Bool.false_ne_true), if_neg c]
          have hle := gMin_le (w := kW T (kL T m) m x) (r := fun k => x.testBit k) (b := 0) (l := kBig) k
          have hbig : kW T (kL T m) m x k < kBig := by unfold kBig; omega
          rw [hs]
          generalize gMin (kW T (kL T m) m x) (fun k => x.testBit k) 0 kBig k = g at *
          by_cases c1 : g.2 < kBig
          · rw [if_pos c1]
            show (if kW T (kL T m) m x k < g.2 then _ else _) = _
            by_cases c2 : kW T (kL T m) m x k < g.2
            · rw [if_pos c2, if_pos c2, if_pos hbig]
            · rw [if_neg c2, if_neg c2, if_pos c1]
          · have c2 : kW T (kL T m) m x k < g.2 := by omega
            rw [if_neg c1, if_pos c2, if_pos hbig]
            rfl
    have hne : x ≠ 0 := fun e => by
      rw [e] at hp
      have h0 : gPc 0 = 0 := by decide
      omega
    obtain ⟨k, hk⟩ := gTb_ex hne
    have hkn : k < n := by
      apply Classical.byContradiction
      intro h
      rw [gTb_hi hx (by omega)] at hk
      cases hk
    have hw := kW_lt hT hx hp hk
    have hm := gMin_min (w := kW T (kL T m) m x) (r := fun k => x.testBit k) (b := 0) (l := kBig) (n := 6) hk (by omega)
    have h := step 6 (Nat.le_refl _)
    rw [if_pos (by unfold kBig at *; omega)] at h
    exact h
end courts
