def goWI (M : goMI) (a k : Nat) (x : Int32) : goMI := fun b j => if b = a then (if j = k then x else M b j) else M b j
def goWL (M : goML) (a k : Nat) (x : Int64) : goML := fun b j => if b = a then (if j = k then x else M b j) else M b j
def goWR (M : goMR) (a k : Nat) (x : Option Nat) : goMR := fun b j => if b = a then (if j = k then x else M b j) else M b j
theorem goWI_ne {M : goMI} {a k : Nat} {x : Int32} {b : Nat} (h : b ≠ a) : goWI M a k x b = M b := by funext j; simp [goWI, h]
theorem goWL_ne {M : goML} {a k : Nat} {x : Int64} {b : Nat} (h : b ≠ a) : goWL M a k x b = M b := by funext j; simp [goWL, h]
theorem goWR_ne {M : goMR} {a k : Nat} {x : Option Nat} {b : Nat} (h : b ≠ a) : goWR M a k x b = M b := by funext j; simp [goWR, h]
/-- a place of an array of n -/
def goIn (i : Int32) (n : Nat) : Prop := 0 ≤ i ∧ i.toNatClampNeg < n
theorem goIn_in {i : Int32} {n : Nat} (h : goIn i n) : vp_in i n := fun q => q.elim (fun q => absurd h.1 (Int32.not_le.mpr q)) (fun q => absurd h.2 (Nat.not_lt.mpr q))
def goRd (M : goMI) (a n : Nat) (i : Int32) : Option Int32 := if 0 ≤ i ∧ i.toNatClampNeg < n then some (M a i.toNatClampNeg) else none
def goRdL (M : goML) (a n : Nat) (i : Int32) : Option Int64 := if 0 ≤ i ∧ i.toNatClampNeg < n then some (M a i.toNatClampNeg) else none
def goWr (M : goMI) (a n : Nat) (i x : Int32) : Option goMI := if 0 ≤ i ∧ i.toNatClampNeg < n then some (goWI M a i.toNatClampNeg x) else none
def goWrB (M : goMI) (a n : Nat) (i x : Int32) : Option goMI := if 0 ≤ i ∧ i.toNatClampNeg < n then some (goWI M a i.toNatClampNeg (vp_nar .byte x)) else none
def goWrZ (M : goMI) (a n : Nat) (i x : Int32) : Option goMI := if 0 ≤ i ∧ i.toNatClampNeg < n then some (goWI M a i.toNatClampNeg (vp_nar .boolean x)) else none
def goWrL (M : goML) (a n : Nat) (i : Int32) (x : Int64) : Option goML := if 0 ≤ i ∧ i.toNatClampNeg < n then some (goWL M a i.toNatClampNeg x) else none
theorem goRd_some {M : goMI} {a n : Nat} {i x : Int32} (h : goRd M a n i = some x) : goIn i n ∧ M a i.toNatClampNeg = x := by
  unfold goRd at h
  split at h
  · rename_i c; exact ⟨c, Option.some.inj h⟩
  · cases h
theorem goRdL_some {M : goML} {a n : Nat} {i : Int32} {x : Int64} (h : goRdL M a n i = some x) : goIn i n ∧ M a i.toNatClampNeg = x := by
  unfold goRdL at h
  split at h
  · rename_i c; exact ⟨c, Option.some.inj h⟩
  · cases h
theorem goWr_some {M M' : goMI} {a n : Nat} {i x : Int32} (h : goWr M a n i x = some M') : goIn i n ∧ goWI M a i.toNatClampNeg x = M' := by
  unfold goWr at h
  split at h
  · rename_i c; exact ⟨c, Option.some.inj h⟩
  · cases h
theorem goWrB_some {M M' : goMI} {a n : Nat} {i x : Int32} (h : goWrB M a n i x = some M') : goIn i n ∧ goWI M a i.toNatClampNeg (vp_nar .byte x) = M' := by
  unfold goWrB at h
  split at h
  · rename_i c; exact ⟨c, Option.some.inj h⟩
  · cases h
theorem goWrZ_some {M M' : goMI} {a n : Nat} {i x : Int32} (h : goWrZ M a n i x = some M') : goIn i n ∧ goWI M a i.toNatClampNeg (vp_nar .boolean x) = M' := by
  unfold goWrZ at h
  split at h
  · rename_i c; exact ⟨c, Option.some.inj h⟩
  · cases h
theorem goWrL_some {M M' : goML} {a n : Nat} {i : Int32} {x : Int64} (h : goWrL M a n i x = some M') : goIn i n ∧ goWL M a i.toNatClampNeg x = M' := by
  unfold goWrL at h
  split at h
  · rename_i c; exact ⟨c, Option.some.inj h⟩
  · cases h
/-- a bind that has an answer -/
theorem goBind {α β : Type} {e : Option α} {k : α → Option β} {r : β} (h : e.bind k = some r) : ∃ x, e = some x ∧ k x = some r := by
  cases e with
  | none => cases h
  | some x => exact ⟨x, rfl, h⟩
/-- a number that is named -/
def goNm {α β : Type} (e : α) (k : α → β) : β := k e
theorem goNm_h {α β : Type} {e : α} {k : α → Option β} {r : β} (h : goNm e k = some r) : ∃ x, x = e ∧ k x = some r := ⟨e, rfl, h⟩
theorem goAt_kept {E : goEv} {sh : Nat × Nat} {M M' : goMI} {L L' : goML} {R R' : goMR} {b : Nat} {H H' : Heap} (h : goAt E sh M L R b H) (hH : H'[E.2.1 + b]? = H[E.2.1 + b]?) (hM : M' b = M b) (hL : L' b = L b) (hR : R' b = R b) : goAt E sh M' L' R' b H' := by
  unfold goAt at h ⊢
  split at h
  · refine t_OB.to (h.kept hH) (fun k _ => ?_)
    unfold goV
    rw [hM, hL, hR]
  all_goals first | exact trivial | (rw [hH]; first | (rw [hM]; exact h) | (rw [hL]; exact h))
theorem goHp_upd {E : goEv} {G : goG} {M M' : goMI} {L L' : goML} {R R' : goMR} {H H' : Heap} {a : Nat} (a1 : goHp E G M L R H) (z : H'.size = H.size) (oq : ∀ q : Nat, q ≠ E.2.1 + a → H'[q]? = H[q]?) (hM : ∀ b, b ≠ a → M' b = M b) (hL : ∀ b, b ≠ a → L' b = L b) (hR : ∀ b, b ≠ a → R' b = R b)
    (hn : goAt E (G.1 a) M' L' R' a H') : goHp E G M' L' R' H' := by
  refine ⟨z.trans a1.1, a1.2.1, fun b hb => ?_⟩
  by_cases hba : b = a
  · subst hba; exact hn
  · exact goAt_kept (a1.2.2 b hb) (oq _ (by omega)) (hM b hba) (hL b hba) (hR b hba)
theorem goLow_upd {E : goEv} {H H' : Heap} {a : Nat} (h : goLow E H) (oq : ∀ q : Nat, q ≠ E.2.1 + a → H'[q]? = H[q]?) : goLow E H' := fun q hq => (oq q (by omega)).trans (h q hq)
theorem goAd_own {E : goEv} {G : goG} {M : goMI} {L : goML} {R : goMR} {H : Heap} {a : Nat} (a1 : goHp E G M L R H) (ha : a < G.2) : goAd E a = E.2.1 + a := if_pos (Nat.lt_of_lt_of_le ha a1.2.1)
/-- a class of the worlds -/
def goCl (ci : Nat) (C : String) (T : u_T) (N : Nat) : Prop := vwCl[ci]? = some (C, T, N) ∧ goN ci = N ∧ (∀ w ∈ u_ws C T N, w ∈ goTb) ∧ ∃ ty : Nat → FieldType, (∀ k, k < N → parseFieldDescriptor (T k).2.2.1 = some (ty k)) ∧ ∀ a, a < N → ∀ b, b < N → a ≠ b → (T a).2.1 ≠ (T b).2.1
/-- a field's link: entry idx of class own names field k of class ci -/
def goLk (own : String) (idx ci k : Nat) (d : String) (fin : Bool) : Prop := ∃ (C : String) (T : u_T) (N : Nat), goCl ci C T N ∧ k < N ∧ (T k).2.2.1 = d ∧ (T k).2.2.2 = fin ∧ (T k).1 = C ∧ (Cond.fieldLink own idx (T k).1 (T k).2.1 (T k).2.2.1 ∈ goTb ∨ ∃ host, Cond.fieldLinkNest own idx (T k).1 (T k).2.1 (T k).2.2.1 host ∈ lw_tbl)
def goLkF (own : String) (idx ci k : Nat) (d : String) : Prop := ∃ (C : String) (T : u_T) (N : Nat), goCl ci C T N ∧ k < N ∧ (T k).2.2.1 = d ∧ (T k).2.2.2 = true ∧ (T k).1 = own ∧ Cond.fieldLink own idx (T k).1 (T k).2.1 (T k).2.2.1 ∈ goTb
section goHeap
variable {E : goEv} {X : goX} {G : goG} {ce sl : Nat} {Q : State → Prop} {pc : Nat} {lv : List (Option Value)} {st : List Value} {M : goMI} {L : goML} {R : goMR} {cc : ByteArray} {own : String} {nL : Nat}
theorem goCx_K (h : goCx E X cc own nL) : va_K (goD E) vwCl (goTy E) X.2.2.2.2.1 := h.2.2.2.2.2.2.2.1.1.moved h.2.2.2.2.2.2.1.alike
theorem goCx_N (h : goCx E X cc own nL) {own2 : String} {i : Nat} {b n d q : String} (hw : Cond.fieldLinkNest own2 i b n d q ∈ lw_tbl) : (Cond.fieldLinkNest own2 i b n d q).before X.2.2.2.2.2.2.1 X.2.2.2.2.1 = true := va_Nw.use rfl ((h.2.2.2.2.2.2.2.1.2.2.1 _ hw rfl).warmF h.2.2.2.2.2.2.1)
theorem goCx_NM (h : goCx E X cc own nL) {own2 : String} {i : Nat} {y : MethodName} {q : String} (hw : Cond.methodLinkNest own2 i y q ∈ lw_tbl) : (Cond.methodLinkNest own2 i y q).before X.2.2.2.2.2.2.1 X.2.2.2.2.1 = true := va_Nw.use rfl ((h.2.2.2.2.2.2.2.1.2.2.1 _ hw rfl).warmM h.2.2.2.2.2.2.1)
theorem go_get (h : goCx E X cc own nL) {idx ci k a : Nat} {d : String} {fin : Bool} {v : Value} (hl : goLk own idx ci k d fin) (hd : decode cc pc = .ok (.getfield idx, 3)) (ha : a < G.2) (hs : G.1 a = (0, ci)) (hv : goCv E v = goV E M L R ci a k) (kk : goA E X G ce sl Q (pc + 3) lv (v :: st) M L R) : goA E X G ce sl Q pc lv (.ref a :: st) M L R := by
  intro H locs ls a1 a2 a3 a4
  have hA := goAd_own a1 ha
  have hAt := a1.2.2 a ha
  rw [hs] at hAt
  obtain ⟨cell, q1, q2, q3, q4⟩ := hAt
  obtain ⟨C, T, N, ⟨hc, hN, hin, -⟩, hk, -, -, -, hlink⟩ := hl
  have hts := h.2.2.2.2.1
  obtain ⟨hS, hfc, kC, hkC, hkind⟩ := (goCx_K h).1 ci _ hc
  obtain ⟨cf, kf, fi, f, hi, hsl⟩ := hS k hk
  have hz : cell.slots[f.slot]? = some (goCv E v) := by rw [hsl, hv]; exact q4 k (by rw [hN]; exact hk)
  have kk := kk H locs ls a1 a2 a3 a4
  show W _ _ _ _ _ _ _ _ _ _ _ _ _ _ _ (F0 _ pc ls (Value.ref (goAd E a) :: st.map (goCv E)))
  rw [hA]
  rcases hlink with hlink | ⟨host, hlink⟩
  · exact W.getf h.1 h.2.1 h.2.2.2.1 (hts _ hlink) hi (u_facts hfc hkC (u_lays hts hin hk) hi).1 q1 (by rw [q3]; exact fun q => by cases q) hz rfl rfl hd kk
  · exact va_Wgetf h.1 h.2.1 h.2.2.2.1 (goCx_N h hlink) hi (u_facts hfc hkC (u_lays hts hin hk) hi).1 q1 (by rw [q3]; exact fun q => by cases q) hz rfl rfl hd kk
theorem go_getI (h : goCx E X cc own nL) {idx ci k a : Nat} {d : String} {fin : Bool} (hl : goLk own idx ci k d fin) (hd : decode cc pc = .ok (.getfield idx, 3)) (hs : a < G.2 ∧ G.1 a = (0, ci)) (kk : goA E X G ce sl Q (pc + 3) lv (.int (M a k) :: st) M L R) (hK : goK ci k = 0 := by rfl) : goA E X G ce sl Q pc lv (.ref a :: st) M L R :=
  go_get h hl hd hs.1 hs.2 (by unfold goV; rw [hK]; rfl) kk
theorem go_getL (h : goCx E X cc own nL) {idx ci k a : Nat} {d : String} {fin : Bool} (hl : goLk own idx ci k d fin) (hd : decode cc pc = .ok (.getfield idx, 3)) (hs : a < G.2 ∧ G.1 a = (0, ci)) (kk : goA E X G ce sl Q (pc + 3) lv (.long (L a k) :: st) M L R) (hK : goK ci k = 1 := by rfl) : goA E X G ce sl Q pc lv (.ref a :: st) M L R :=
  go_get h hl hd hs.1 hs.2 (by unfold goV; rw [hK]; rfl) kk
theorem go_getR (h : goCx E X cc own nL) {idx ci k a b : Nat} {d : String} {fin : Bool} (hl : goLk own idx ci k d fin) (hd : decode cc pc = .ok (.getfield idx, 3)) (hs : a < G.2 ∧ G.1 a = (0, ci)) (hb : R a k = some b) (kk : goA E X G ce sl Q (pc + 3) lv (.ref b :: st) M L R) (hK : goK ci k = 2 := by rfl) : goA E X G ce sl Q pc lv (.ref a :: st) M L R :=
  go_get h hl hd hs.1 hs.2 (by unfold goV; rw [hK, hb]; rfl) kk
theorem go_getQ (h : goCx E X cc own nL) {idx ci k a : Nat} {d : String} {fin : Bool} (hl : goLk own idx ci k d fin) (hd : decode cc pc = .ok (.getfield idx, 3)) (hs : a < G.2 ∧ G.1 a = (0, ci)) (kk : goA E X G ce sl Q (pc + 3) lv (va_rf (R a k) :: st) M L R) (hK : goK ci k = 2 := by rfl) : goA E X G ce sl Q pc lv (.ref a :: st) M L R :=
  go_get h hl hd hs.1 hs.2 (by unfold goV; rw [hK]; rfl) kk
/-- a store into a field, of whatever type -/
theorem go_put (h : goCx E X cc own nL) {idx ci k a : Nat} {d : String} {v : Value} {ty : FieldType} {M' : goMI} {L' : goML} {R' : goMR} (hl : goLk own idx ci k d false) (hd : decode cc pc = .ok (.putfield idx, 3)) (ha : a < G.2) (hs : G.1 a = (0, ci)) (hp : parseFieldDescriptor d = some ty) (hn : narrow ty (goCv E v) = goCv E v) (hfit : fits ty (goCv E v) = true)
    (hM : ∀ b, b ≠ a → M' b = M b) (hL : ∀ b, b ≠ a → L' b = L b) (hR : ∀ b, b ≠ a → R' b = R b) (hnew : ∀ j, goV E M' L' R' ci a j = updV (goV E M L R ci a) k (goCv E v) j)
    (kk : goA E X G ce sl Q (pc + 3) lv st M' L' R') : goA E X G ce sl Q pc lv (v :: .ref a :: st) M L R := by
  intro H locs ls a1 a2 a3 a4
  have hA := goAd_own a1 ha
  have hAt := a1.2.2 a ha
  rw [hs] at hAt
  obtain ⟨cell, q1, q2, q3, q4⟩ := hAt
  obtain ⟨C, T, N, ⟨hc, hN, hin, ty0, hty, hnm⟩, hk, hdd, hff, hCC, hlink⟩ := hl
  have hts := h.2.2.2.2.1
  dsimp only at q1 q2 q4
  rw [hN] at q4
  have hap := va_apart (own := own) hts hin ty0 hty hnm (goCx_K h) hc
  obtain ⟨hS, hfc, kC, hkC, hkind⟩ := (goCx_K h).1 ci _ hc
  obtain ⟨cf, kf, fi, f, hi, hsl⟩ := hS k hk
  have hlay := hts _ (hin _ (u_in_lay hk))
  unfold u_lay at hlay
  have hst := (u_facts hfc hkC (u_lays hts hin hk) hi).1
  rw [← hdd] at hp
  have hend : ∀ H' : Heap, H'[E.2.1 + a]? = some (cell.setSlot f.slot (goCv E v)) → H'.size = H.size → (∀ q, q ≠ E.2.1 + a → H'[q]? = H[q]?) → W X.1 X.2.1 X.2.2.1 X.2.2.2.1 X.2.2.2.2.1 X.2.2.2.2.2.1 X.2.2.2.2.2.2.1 X.2.2.2.2.2.2.2.1 X.2.2.2.2.2.2.2.2.1 X.2.2.2.2.2.2.2.2.2 H' (locs ++ [⟨E.2.1 + a, f.slot⟩]) ce sl Q (F0 X.2.2.2.2.2.1 (pc + 3) ls (st.map (goCv E))) := by
    intro H' e1 e2 e3
    refine kk H' _ ls (goHp_upd a1 e2 e3 hM hL hR ?_) (a2.put e2 e3 (Nat.le_add_right _ _)) (goLow_upd a3 e3) a4
    rw [hs]
    rw [hsl] at e1
    refine t_OB.to (V := updV (goV E M L R ci a) k (goCv E v)) ⟨_, e1, q2, q3, ?_⟩ (fun j _ => (hnew j).symm)
    show ∀ j, j < goN ci → _
    rw [hN]
    exact t_set q4 hap hk _
  show W _ _ _ _ _ _ _ _ _ _ _ _ _ _ _ (F0 _ pc ls (goCv E v :: Value.ref (goAd E a) :: st.map (goCv E)))
  rw [hA]
  rw [if_neg (by rw [hff]; decide)] at hlay
  have h6 := u_store hfc hkC hkind hlay hi hp hn hfit
  rcases hlink with hlink | ⟨host, hlink⟩
  · exact W.putK h.1 h.2.1 (f := f) ⟨h.2.2.2.1, hts _ hlink, ⟨_, _, _, hi⟩, hst⟩ (by rw [q2]; exact h6) q1 q3 (by rw [hsl]; exact k2_hasslot (q4 k hk)) rfl rfl hd hend
  · exact va_WputK h.1 h.2.1 (f := f) h.2.2.2.1 (goCx_N h hlink) hi hst (by rw [q2]; exact h6) q1 q3 (by rw [hsl]; exact k2_hasslot (q4 k hk)) rfl rfl hd hend
/-- a store into a final field, in its class's constructor -/
theorem go_putF (h : goCx E X cc own nL) {idx ci k a : Nat} {d : String} {v : Value} {ty : FieldType} {M' : goMI} {L' : goML} {R' : goMR} (hl : goLkF own idx ci k d) (hin2 : X.2.2.2.2.2.2.2.2.1.name = "<init>") (hd : decode cc pc = .ok (.putfield idx, 3)) (ha : a < G.2) (hs : G.1 a = (0, ci)) (hp : parseFieldDescriptor d = some ty) (hn : narrow ty (goCv E v) = goCv E v) (hfit : fits ty (goCv E v) = true)
    (hM : ∀ b, b ≠ a → M' b = M b) (hL : ∀ b, b ≠ a → L' b = L b) (hR : ∀ b, b ≠ a → R' b = R b) (hnew : ∀ j, goV E M' L' R' ci a j = updV (goV E M L R ci a) k (goCv E v) j)
    (kk : goA E X G ce sl Q (pc + 3) lv st M' L' R') : goA E X G ce sl Q pc lv (v :: .ref a :: st) M L R := by
  intro H locs ls a1 a2 a3 a4
  have hA := goAd_own a1 ha
  have hAt := a1.2.2 a ha
  rw [hs] at hAt
  obtain ⟨cell, q1, q2, q3, q4⟩ := hAt
  obtain ⟨C, T, N, ⟨hc, hN, hin, ty0, hty, hnm⟩, hk, hdd, hff, hCC, hlink⟩ := hl
  have hts := h.2.2.2.2.1
  dsimp only at q1 q2 q4
  rw [hN] at q4
  have hap := va_apart (own := own) hts hin ty0 hty hnm (goCx_K h) hc
  obtain ⟨hS, hfc, kC, hkC, hkind⟩ := (goCx_K h).1 ci _ hc
  obtain ⟨cf, kf, fi, f, hi, hsl⟩ := hS k hk
  have hlay := hts _ (hin _ (u_in_lay hk))
  unfold u_lay at hlay
  have hst := (u_facts hfc hkC (u_lays hts hin hk) hi).1
  rw [← hdd] at hp
  have hend : ∀ H' : Heap, H'[E.2.1 + a]? = some (cell.setSlot f.slot (goCv E v)) → H'.size = H.size → (∀ q, q ≠ E.2.1 + a → H'[q]? = H[q]?) → W X.1 X.2.1 X.2.2.1 X.2.2.2.1 X.2.2.2.2.1 X.2.2.2.2.2.1 X.2.2.2.2.2.2.1 X.2.2.2.2.2.2.2.1 X.2.2.2.2.2.2.2.2.1 X.2.2.2.2.2.2.2.2.2 H' (locs ++ [⟨E.2.1 + a, f.slot⟩]) ce sl Q (F0 X.2.2.2.2.2.1 (pc + 3) ls (st.map (goCv E))) := by
    intro H' e1 e2 e3
    refine kk H' _ ls (goHp_upd a1 e2 e3 hM hL hR ?_) (a2.put e2 e3 (Nat.le_add_right _ _)) (goLow_upd a3 e3) a4
    rw [hs]
    rw [hsl] at e1
    refine t_OB.to (V := updV (goV E M L R ci a) k (goCv E v)) ⟨_, e1, q2, q3, ?_⟩ (fun j _ => (hnew j).symm)
    show ∀ j, j < goN ci → _
    rw [hN]
    exact t_set q4 hap hk _
  show W _ _ _ _ _ _ _ _ _ _ _ _ _ _ _ (F0 _ pc ls (goCv E v :: Value.ref (goAd E a) :: st.map (goCv E)))
  rw [hA]
  rw [if_pos hff] at hlay
  have hcf : X.2.2.2.2.2.1.cls = cf := by
    obtain ⟨_, _, c', _, _, _, -, -, hf', -, -, -, hown2, -⟩ := Cond.laysFinal_spec hlay
    have e1 : c' = cf := by have := hi.symm.trans hf'; simp at this; exact this.1.symm
    rw [hCC] at hown2
    rw [← e1]; exact Option.some.inj (h.2.2.2.1.symm.trans hown2)
  have h6 := u_fits hfc hkC hkind (Or.inr hlay) hi hp hn hfit
  exact W.putFinK h.1 h.2.1 h.2.2.2.1 (hts _ hlink) hi hst hcf hin2 (by rw [q2]; exact h6) q1 q3 (by rw [hsl]; exact k2_hasslot (q4 k hk)) rfl rfl hd hend
theorem goV_I {E : goEv} {M : goMI} {L : goML} {R : goMR} {ci a k : Nat} {x : Int32} (hK : goK ci k = 0) (j : Nat) : goV E (goWI M a k x) L R ci a j = updV (goV E M L R ci a) k (.int x) j := by
  unfold goV updV goWI
  by_cases hj : j = k
  · subst hj; rw [hK]; simp
  · simp [hj]
theorem goV_L {E : goEv} {M : goMI} {L : goML} {R : goMR} {ci a k : Nat} {x : Int64} (hK : goK ci k = 1) (j : Nat) : goV E M (goWL L a k x) R ci a j = updV (goV E M L R ci a) k (.long x) j := by
  unfold goV updV goWL
  by_cases hj : j = k
  · subst hj; rw [hK]; simp
  · simp [hj]
theorem goV_R {E : goEv} {M : goMI} {L : goML} {R : goMR} {ci a k : Nat} {x : Option Nat} (hK : goK ci k = 2) (j : Nat) : goV E M L (goWR R a k x) ci a j = updV (goV E M L R ci a) k (goCv E (va_rf x)) j := by
  unfold goV updV goWR
  by_cases hj : j = k
  · subst hj; rw [hK]; simp
  · simp [hj]
theorem go_putI (h : goCx E X cc own nL) {idx ci k a : Nat} {x : Int32} (hl : goLk own idx ci k "I" false) (hd : decode cc pc = .ok (.putfield idx, 3)) (hs : a < G.2 ∧ G.1 a = (0, ci)) (kk : goA E X G ce sl Q (pc + 3) lv st (goWI M a k x) L R) (hK : goK ci k = 0 := by rfl) : goA E X G ce sl Q pc lv (.int x :: .ref a :: st) M L R :=
  go_put h hl hd hs.1 hs.2 (ty := .int) (by decide +kernel) rfl rfl (fun _ q => goWI_ne q) (fun _ _ => rfl) (fun _ _ => rfl) (goV_I hK) kk
theorem go_putZ (h : goCx E X cc own nL) {idx ci k a : Nat} {x : Int32} (hl : goLk own idx ci k "Z" false) (hd : decode cc pc = .ok (.putfield idx, 3)) (hs : a < G.2 ∧ G.1 a = (0, ci)) (hx : x = 0 ∨ x = 1) (kk : goA E X G ce sl Q (pc + 3) lv st (goWI M a k x) L R) (hK : goK ci k = 0 := by rfl) : goA E X G ce sl Q pc lv (.int x :: .ref a :: st) M L R :=
  go_put h hl hd hs.1 hs.2 (ty := .boolean) (by decide +kernel) (by rcases hx with rfl | rfl <;> rfl) (by rcases hx with rfl | rfl <;> rfl) (fun _ q => goWI_ne q) (fun _ _ => rfl) (fun _ _ => rfl) (goV_I hK) kk
theorem go_putL (h : goCx E X cc own nL) {idx ci k a : Nat} {x : Int64} (hl : goLk own idx ci k "J" false) (hd : decode cc pc = .ok (.putfield idx, 3)) (hs : a < G.2 ∧ G.1 a = (0, ci)) (kk : goA E X G ce sl Q (pc + 3) lv st M (goWL L a k x) R) (hK : goK ci k = 1 := by rfl) : goA E X G ce sl Q pc lv (.long x :: .ref a :: st) M L R :=
  go_put h hl hd hs.1 hs.2 (ty := .long) (by decide +kernel) rfl rfl (fun _ _ => rfl) (fun _ q => goWL_ne q) (fun _ _ => rfl) (goV_L hK) kk
theorem go_putR (h : goCx E X cc own nL) {idx ci k a b : Nat} {d : String} (ty : FieldType) (hl : goLk own idx ci k d false) (hp : parseFieldDescriptor d = some ty) (ht : ∀ q : Nat, narrow ty (.ref q) = .ref q ∧ fits ty (.ref q) = true) (hd : decode cc pc = .ok (.putfield idx, 3)) (hs : a < G.2 ∧ G.1 a = (0, ci)) (kk : goA E X G ce sl Q (pc + 3) lv st M L (goWR R a k (some b))) (hK : goK ci k = 2 := by rfl) : goA E X G ce sl Q pc lv (.ref b :: .ref a :: st) M L R :=
  go_put h hl hd hs.1 hs.2 hp (ht _).1 (ht _).2 (fun _ _ => rfl) (fun _ _ => rfl) (fun _ q => goWR_ne q) (goV_R hK) kk
theorem go_putFR (h : goCx E X cc own nL) {idx ci k a b : Nat} {d : String} (ty : FieldType) (hl : goLkF own idx ci k d) (hin2 : X.2.2.2.2.2.2.2.2.1.name = "<init>") (hp : parseFieldDescriptor d = some ty) (ht : ∀ q : Nat, narrow ty (.ref q) = .ref q ∧ fits ty (.ref q) = true) (hd : decode cc pc = .ok (.putfield idx, 3)) (hs : a < G.2 ∧ G.1 a = (0, ci)) (kk : goA E X G ce sl Q (pc + 3) lv st M L (goWR R a k (some b))) (hK : goK ci k = 2 := by rfl) : goA E X G ce sl Q pc lv (.ref b :: .ref a :: st) M L R :=
  go_putF h hl hin2 hd hs.1 hs.2 hp (ht _).1 (ht _).2 (fun _ _ => rfl) (fun _ _ => rfl) (fun _ q => goWR_ne q) (goV_R hK) kk
end goHeap
