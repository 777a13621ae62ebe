section goArrays
variable {E : goEv} {X : goX} {G : goG} {ce sl : Nat} {Q : State → Prop} {pc : Nat} {lv : List (Option Value)} {st : List Value} {M : goMI} {L : goML} {R : goMR} {cc : ByteArray} {own : String} {nL : Nat}
theorem go_iald (h : goCx E X cc own nL) {a n : Nat} {i x : Int32} (hd : decode cc pc = .ok (.iaload, 1)) (hs : a < G.2 ∧ G.1 a = (1, n)) (hg : goRd M a n i = some x) (k : goA E X G ce sl Q (pc + 1) lv (.int x :: st) M L R) : goA E X G ce sl Q pc lv (.int i :: .ref a :: st) M L R := by
  intro H locs ls a1 a2 a3 a4
  obtain ⟨hi, rfl⟩ := goRd_some hg
  have hA := goAd_own a1 hs.1
  have hAt := a1.2.2 a hs.1
  rw [hs.2] at hAt
  have hAt : H[E.2.1 + a]? = some (arrV (E.2.2.2.2.1 1) n (fun j => .int (M a j))) := hAt
  have kk := k H locs ls a1 a2 a3 a4
  show W _ _ _ _ _ _ _ _ _ _ _ _ _ _ _ (F0 _ pc ls (Value.int i :: Value.ref (goAd E a) :: st.map (goCv E)))
  rw [hA]
  exact W.iald (v := .int (M a i.toNatClampNeg)) h.1 h.2.1 hAt (((goCx_K h).2 0 _ rfl).1 n _) (fun q => by cases q) (by rw [arrV_size]; exact goIn_in hi) (by rw [arrV_read _ _ hi.2]) rfl rfl hd kk
theorem go_bald (h : goCx E X cc own nL) {a n : Nat} {i x : Int32} (hd : decode cc pc = .ok (.baload, 1)) (hs : a < G.2 ∧ G.1 a = (2, n)) (hg : goRd M a n i = some x) (k : goA E X G ce sl Q (pc + 1) lv (.int x :: st) M L R) : goA E X G ce sl Q pc lv (.int i :: .ref a :: st) M L R := by
  intro H locs ls a1 a2 a3 a4
  obtain ⟨hi, rfl⟩ := goRd_some hg
  have hA := goAd_own a1 hs.1
  have hAt := a1.2.2 a hs.1
  rw [hs.2] at hAt
  have hAt : H[E.2.1 + a]? = some (arrV (E.2.2.2.2.1 2) n (fun j => .int (M a j))) := hAt
  have kk := k H locs ls a1 a2 a3 a4
  show W _ _ _ _ _ _ _ _ _ _ _ _ _ _ _ (F0 _ pc ls (Value.int i :: Value.ref (goAd E a) :: st.map (goCv E)))
  rw [hA]
  exact W.bald (v := .int (M a i.toNatClampNeg)) h.1 h.2.1 hAt (((goCx_K h).2 1 _ rfl).1 n _) (fun q => by cases q) (by rw [arrV_size]; exact goIn_in hi) (by rw [arrV_read _ _ hi.2]) rfl rfl hd kk
theorem go_zald (h : goCx E X cc own nL) {a n : Nat} {i x : Int32} (hd : decode cc pc = .ok (.baload, 1)) (hs : a < G.2 ∧ G.1 a = (3, n)) (hg : goRd M a n i = some x) (k : goA E X G ce sl Q (pc + 1) lv (.int x :: st) M L R) : goA E X G ce sl Q pc lv (.int i :: .ref a :: st) M L R := by
  intro H locs ls a1 a2 a3 a4
  obtain ⟨hi, rfl⟩ := goRd_some hg
  have hA := goAd_own a1 hs.1
  have hAt := a1.2.2 a hs.1
  rw [hs.2] at hAt
  have hAt : H[E.2.1 + a]? = some (arrV (E.2.2.2.2.1 3) n (fun j => .int (M a j))) := hAt
  have kk := k H locs ls a1 a2 a3 a4
  show W _ _ _ _ _ _ _ _ _ _ _ _ _ _ _ (F0 _ pc ls (Value.int i :: Value.ref (goAd E a) :: st.map (goCv E)))
  rw [hA]
  exact W.zald (v := .int (M a i.toNatClampNeg)) h.1 h.2.1 hAt (((goCx_K h).2 2 _ rfl).1 n _) (fun q => by cases q) (by rw [arrV_size]; exact goIn_in hi) (by rw [arrV_read _ _ hi.2]) rfl rfl hd kk
theorem go_lald (h : goCx E X cc own nL) {a n : Nat} {i : Int32} {x : Int64} (hd : decode cc pc = .ok (.laload, 1)) (hs : a < G.2 ∧ G.1 a = (4, n)) (hg : goRdL L a n i = some x) (k : goA E X G ce sl Q (pc + 1) lv (.long x :: st) M L R) : goA E X G ce sl Q pc lv (.int i :: .ref a :: st) M L R := by
  intro H locs ls a1 a2 a3 a4
  obtain ⟨hi, rfl⟩ := goRdL_some hg
  have hA := goAd_own a1 hs.1
  have hAt := a1.2.2 a hs.1
  rw [hs.2] at hAt
  have hAt : H[E.2.1 + a]? = some (arrV (E.2.2.2.2.1 4) n (fun j => .long (L a j))) := hAt
  have kk := k H locs ls a1 a2 a3 a4
  show W _ _ _ _ _ _ _ _ _ _ _ _ _ _ _ (F0 _ pc ls (Value.int i :: Value.ref (goAd E a) :: st.map (goCv E)))
  rw [hA]
  exact W.lald (v := .long (L a i.toNatClampNeg)) h.1 h.2.1 hAt (((goCx_K h).2 3 _ rfl).1 n _) (fun q => by cases q) (by rw [arrV_size]; exact goIn_in hi) (by rw [arrV_read _ _ hi.2]) rfl rfl hd kk
theorem go_iast (h : goCx E X cc own nL) {a n : Nat} {i x : Int32} {M' : goMI} (hd : decode cc pc = .ok (.iastore, 1)) (hs : a < G.2 ∧ G.1 a = (1, n)) (hg : goWr M a n i x = some M') (k : goA E X G ce sl Q (pc + 1) lv st M' L R) : goA E X G ce sl Q pc lv (.int x :: .int i :: .ref a :: st) M L R := by
  intro H locs ls a1 a2 a3 a4
  obtain ⟨hi, rfl⟩ := goWr_some hg
  have hA := goAd_own a1 hs.1
  have hAt := a1.2.2 a hs.1
  rw [hs.2] at hAt
  have hAt : H[E.2.1 + a]? = some (arrV (E.2.2.2.2.1 1) n (fun j => .int (M a j))) := hAt
  show W _ _ _ _ _ _ _ _ _ _ _ _ _ _ _ (F0 _ pc ls (Value.int x :: Value.int i :: Value.ref (goAd E a) :: st.map (goCv E)))
  rw [hA]
  refine W.iast h.1 h.2.1 hAt (((goCx_K h).2 0 _ rfl).1 n _) (fun q => by cases q) (by rw [arrV_size]; exact goIn_in hi) rfl rfl hd fun H1 e z oq => ?_
  refine k H1 _ ls (goHp_upd a1 z oq (fun _ q => goWI_ne q) (fun _ _ => rfl) (fun _ _ => rfl) ?_) (a2.put z oq (Nat.le_add_right _ _)) (goLow_upd a3 oq) a4
  rw [hs.2]
  show H1[E.2.1 + a]? = some (arrV (E.2.2.2.2.1 1) n _)
  rw [e, arrV_store]
  congr 2
  funext q
  by_cases hq : q = i.toNatClampNeg
  · subst hq
    simp [updV, goWI, vp_nar]
    try rfl
  · simp [updV, goWI, hq]
theorem go_bast (h : goCx E X cc own nL) {a n : Nat} {i x : Int32} {M' : goMI} (hd : decode cc pc = .ok (.bastore, 1)) (hs : a < G.2 ∧ G.1 a = (2, n)) (hg : goWrB M a n i x = some M') (k : goA E X G ce sl Q (pc + 1) lv st M' L R) : goA E X G ce sl Q pc lv (.int x :: .int i :: .ref a :: st) M L R := by
  intro H locs ls a1 a2 a3 a4
  obtain ⟨hi, rfl⟩ := goWrB_some hg
  have hA := goAd_own a1 hs.1
  have hAt := a1.2.2 a hs.1
  rw [hs.2] at hAt
  have hAt : H[E.2.1 + a]? = some (arrV (E.2.2.2.2.1 2) n (fun j => .int (M a j))) := hAt
  show W _ _ _ _ _ _ _ _ _ _ _ _ _ _ _ (F0 _ pc ls (Value.int x :: Value.int i :: Value.ref (goAd E a) :: st.map (goCv E)))
  rw [hA]
  refine W.bast h.1 h.2.1 hAt (((goCx_K h).2 1 _ rfl).1 n _) (fun q => by cases q) (by rw [arrV_size]; exact goIn_in hi) rfl rfl hd fun H1 e z oq => ?_
  refine k H1 _ ls (goHp_upd a1 z oq (fun _ q => goWI_ne q) (fun _ _ => rfl) (fun _ _ => rfl) ?_) (a2.put z oq (Nat.le_add_right _ _)) (goLow_upd a3 oq) a4
  rw [hs.2]
  show H1[E.2.1 + a]? = some (arrV (E.2.2.2.2.1 2) n _)
  rw [e, arrV_store]
  congr 2
  funext q
  by_cases hq : q = i.toNatClampNeg
  · subst hq
    simp [updV, goWI, vp_nar]
    try rfl
  · simp [updV, goWI, hq]
theorem go_zast (h : goCx E X cc own nL) {a n : Nat} {i x : Int32} {M' : goMI} (hd : decode cc pc = .ok (.bastore, 1)) (hs : a < G.2 ∧ G.1 a = (3, n)) (hg : goWrZ M a n i x = some M') (k : goA E X G ce sl Q (pc + 1) lv st M' L R) : goA E X G ce sl Q pc lv (.int x :: .int i :: .ref a :: st) M L R := by
  intro H locs ls a1 a2 a3 a4
  obtain ⟨hi, rfl⟩ := goWrZ_some hg
  have hA := goAd_own a1 hs.1
  have hAt := a1.2.2 a hs.1
  rw [hs.2] at hAt
  have hAt : H[E.2.1 + a]? = some (arrV (E.2.2.2.2.1 3) n (fun j => .int (M a j))) := hAt
  show W _ _ _ _ _ _ _ _ _ _ _ _ _ _ _ (F0 _ pc ls (Value.int x :: Value.int i :: Value.ref (goAd E a) :: st.map (goCv E)))
  rw [hA]
  refine W.zast h.1 h.2.1 hAt (((goCx_K h).2 2 _ rfl).1 n _) (fun q => by cases q) (by rw [arrV_size]; exact goIn_in hi) rfl rfl hd fun H1 e z oq => ?_
  refine k H1 _ ls (goHp_upd a1 z oq (fun _ q => goWI_ne q) (fun _ _ => rfl) (fun _ _ => rfl) ?_) (a2.put z oq (Nat.le_add_right _ _)) (goLow_upd a3 oq) a4
  rw [hs.2]
  show H1[E.2.1 + a]? = some (arrV (E.2.2.2.2.1 3) n _)
  rw [e, arrV_store]
  congr 2
  funext q
  by_cases hq : q = i.toNatClampNeg
  · subst hq
    simp [updV, goWI, vp_nar]
    try rfl
  · simp [updV, goWI, hq]
theorem go_last (h : goCx E X cc own nL) {a n : Nat} {i : Int32} {x : Int64} {L' : goML} (hd : decode cc pc = .ok (.lastore, 1)) (hs : a < G.2 ∧ G.1 a = (4, n)) (hg : goWrL L a n i x = some L') (k : goA E X G ce sl Q (pc + 1) lv st M L' R) : goA E X G ce sl Q pc lv (.long x :: .int i :: .ref a :: st) M L R := by
  intro H locs ls a1 a2 a3 a4
  obtain ⟨hi, rfl⟩ := goWrL_some hg
  have hA := goAd_own a1 hs.1
  have hAt := a1.2.2 a hs.1
  rw [hs.2] at hAt
  have hAt : H[E.2.1 + a]? = some (arrV (E.2.2.2.2.1 4) n (fun j => .long (L a j))) := hAt
  show W _ _ _ _ _ _ _ _ _ _ _ _ _ _ _ (F0 _ pc ls (Value.long x :: Value.int i :: Value.ref (goAd E a) :: st.map (goCv E)))
  rw [hA]
  refine W.last h.1 h.2.1 hAt (((goCx_K h).2 3 _ rfl).1 n _) (fun q => by cases q) (by rw [arrV_size]; exact goIn_in hi) rfl rfl hd fun H1 e z oq => ?_
  refine k H1 _ ls (goHp_upd a1 z oq (fun _ _ => rfl) (fun _ q => goWL_ne q) (fun _ _ => rfl) ?_) (a2.put z oq (Nat.le_add_right _ _)) (goLow_upd a3 oq) a4
  rw [hs.2]
  show H1[E.2.1 + a]? = some (arrV (E.2.2.2.2.1 4) n _)
  rw [e, arrV_store]
  congr 2
  funext q
  by_cases hq : q = i.toNatClampNeg
  · subst hq
    simp [updV, goWL]
  · simp [updV, goWL, hq]
theorem go_alen (h : goCx E X cc own nL) {a n : Nat} (hd : decode cc pc = .ok (.arraylength, 1)) (hs : a < G.2 ∧ G.1 a = (1, n)) (k : goA E X G ce sl Q (pc + 1) lv (.int (Int32.ofNat n) :: st) M L R) : goA E X G ce sl Q pc lv (.ref a :: st) M L R := by
  intro H locs ls a1 a2 a3 a4
  have hA := goAd_own a1 hs.1
  have hAt := a1.2.2 a hs.1
  rw [hs.2] at hAt
  have hAt : H[E.2.1 + a]? = some (arrV (E.2.2.2.2.1 1) n (fun j => .int (M a j))) := hAt
  have kk := k H locs ls a1 a2 a3 a4
  show W _ _ _ _ _ _ _ _ _ _ _ _ _ _ _ (F0 _ pc ls (Value.ref (goAd E a) :: st.map (goCv E)))
  rw [hA]
  exact W.alen (n := Int32.ofNat n) h.1 h.2.1 hAt (((goCx_K h).2 0 _ rfl).1 n _) (by rw [arrV_size]) rfl rfl hd kk
end goArrays
/-- a contract's start: the arguments, the memories -/
def goPre (E : goEv) (as : List Value) (G : goG) (M : goMI) (L : goML) (R : goMR) : Array Value → State → Prop := va_Pc (as.map (goCv E)) (fun U => E.1.WarmedH U.vm ∧ goLow E U.heap ∧ goHp E G M L R U.heap)
def goQi (E : goEv) (v : Int32) (G : goG) (M : goMI) (L : goML) (R : goMR) : Array Value → State → Outcome → State → Prop := va_Qi (S := Unit) (fun r _ => r = v) (fun _ t => goHp E G M L R t.heap) (goSet E)
def goQl (E : goEv) (v : Int64) (G : goG) (M : goMI) (L : goML) (R : goMR) : Array Value → State → Outcome → State → Prop := va_Ql (S := Unit) (fun r _ => r = v) (fun _ t => goHp E G M L R t.heap) (goSet E)
def goQv (E : goEv) (G : goG) (M : goMI) (L : goML) (R : goMR) : Array Value → State → Outcome → State → Prop := va_Qv (S := Unit) (fun _ => True) (fun _ t => goHp E G M L R t.heap) (goSet E)
def goQr (E : goEv) (v : Nat) (G : goG) (M : goMI) (L : goML) (R : goMR) : Array Value → State → Outcome → State → Prop := va_Qr (S := Unit) (fun _ => True) (fun _ q t => q = goAd E v ∧ goHp E G M L R t.heap) (goSet E)
def goCd (y : MethodName) (cc : ByteArray) (mL : Nat) (ret : Option FieldType) : List Cond := Cond.code y cc mL ret :: goTb
/-- what a method's state must come to, at its end -/
def goMQ (X : goX) (E : goEv) (Qc : Array Value → State → Outcome → State → Prop) (mc ms : Nat) : State → Prop := MQ X.2.2.2.2.2.2.2.1 Qc X.2.2.2.2.2.2.1 X.2.2.2.2.1 mc ms (goSet E)
section goReturns
variable {E : goEv} {X : goX} {G : goG} {ce sl : Nat} {Q : State → Prop} {pc : Nat} {lv : List (Option Value)} {st : List Value} {M : goMI} {L : goML} {R : goMR} {cc : ByteArray} {own : String} {nL : Nat}
theorem goRet_F {H : Heap} {locs : List Loc} {t : State} (a2 : va_S (goSet E) X.2.2.2.2.1.heap H locs) (ht : t.heap = H) : va_F (goSet E) X.2.2.2.2.1 t := a2.F ht
theorem go_iret (h : goCx E X cc own nL) {v : Int32} (hd : decode cc pc = .ok (.ireturn, 1)) (hr : X.2.2.2.2.2.2.2.2.1.sig.returnType = some .int) : goA E X G ce sl (goMQ X E (goQi E v G M L R) ce sl) pc lv [.int v] M L R :=
  fun H locs ls a1 a2 a3 a4 => W.iret h.1 h.2.1 hr (fun t ht _ => ⟨⟨v, (), rfl, rfl, by show goHp E G M L R t.heap; rw [ht]; exact a1⟩, a2.F ht⟩) a2.2.2 hd h.2.2.2.2.2.1
theorem go_zret (h : goCx E X cc own nL) {v : Int32} {ty : FieldType} (hd : decode cc pc = .ok (.ireturn, 1)) (hr : X.2.2.2.2.2.2.2.2.1.sig.returnType = some ty) (hn : narrow ty (.int v) = .int v) : goA E X G ce sl (goMQ X E (goQi E v G M L R) ce sl) pc lv [.int v] M L R :=
  fun H locs ls a1 a2 a3 a4 => W.zret h.1 h.2.1 hr hn (fun t ht _ => ⟨⟨v, (), rfl, rfl, by show goHp E G M L R t.heap; rw [ht]; exact a1⟩, a2.F ht⟩) a2.2.2 hd h.2.2.2.2.2.1
theorem go_lret (h : goCx E X cc own nL) {v : Int64} (hd : decode cc pc = .ok (.lreturn, 1)) (hr : X.2.2.2.2.2.2.2.2.1.sig.returnType = some .long) : goA E X G ce sl (goMQ X E (goQl E v G M L R) ce sl) pc lv [.long v] M L R :=
  fun H locs ls a1 a2 a3 a4 => W.lret h.1 h.2.1 hr (fun t ht _ => ⟨⟨v, (), rfl, rfl, by show goHp E G M L R t.heap; rw [ht]; exact a1⟩, a2.F ht⟩) a2.2.2 hd h.2.2.2.2.2.1
theorem go_vret (h : goCx E X cc own nL) (hd : decode cc pc = .ok (.return_, 1)) (hr : X.2.2.2.2.2.2.2.2.1.sig.returnType = none) : goA E X G ce sl (goMQ X E (goQv E G M L R) ce sl) pc lv [] M L R :=
  fun H locs ls a1 a2 a3 a4 => W.vret h.1 h.2.1 hr (fun t ht _ => ⟨⟨(), rfl, trivial, by show goHp E G M L R t.heap; rw [ht]; exact a1⟩, a2.F ht⟩) a2.2.2 hd h.2.2.2.2.2.1
theorem go_aret (h : goCx E X cc own nL) {v : Nat} {C : String} (hd : decode cc pc = .ok (.areturn, 1)) (hr : X.2.2.2.2.2.2.2.2.1.sig.returnType = some (.object C)) : goA E X G ce sl (goMQ X E (goQr E v G M L R) ce sl) pc lv [.ref v] M L R :=
  fun H locs ls a1 a2 a3 a4 => W.aret h.1 h.2.1 hr (Or.inl ⟨_, rfl⟩) (Or.inr ⟨_, rfl⟩) (fun t ht _ => ⟨⟨(), goAd E v, rfl, trivial, rfl, by show goHp E G M L R t.heap; rw [ht]; exact a1⟩, a2.F ht⟩) a2.2.2 hd h.2.2.2.2.2.1
theorem go_widen {k n : Nat} (h1 : ce ≤ k) (h2 : sl ≤ n) (kk : goA E X G k n Q pc lv st M L R) : goA E X G ce sl Q pc lv st M L R := fun H locs ls a1 a2 a3 a4 => W.widen h1 h2 (kk H locs ls a1 a2 a3 a4)
theorem go_nami {x : Int32} (k : ∀ y : Int32, y = x → goA E X G ce sl Q pc lv (.int y :: st) M L R) : goA E X G ce sl Q pc lv (.int x :: st) M L R := k x rfl
theorem go_naml {x : Int64} (k : ∀ y : Int64, y = x → goA E X G ce sl Q pc lv (.long y :: st) M L R) : goA E X G ce sl Q pc lv (.long x :: st) M L R := k x rfl
end goReturns
/-- the locals at a method's entry -/
def goLv : List Value → List (Option Value)
  | [] => []
  | v :: r => if v.category = 2 then some v :: none :: goLv r else some v :: goLv r
theorem goLv_mem {E : goEv} : ∀ (vs : List Value) (i j : Nat) (v : Value), (goLv vs)[j]? = some (some v) → (i + j, goCv E v) ∈ lv_args i (vs.map (goCv E))
  | [], i, j, v, h => by simp [goLv] at h
  | x :: r, i, j, v, h => by
    unfold goLv at h
    rw [List.map_cons, lv_args, goCv_cat]
    split at h
    · rename_i hc
      rw [if_pos hc]
      match j, h with
      | 0, h => simp at h; subst h; exact List.mem_cons_self
      | 1, h => simp at h
      | j + 2, h =>
        have := goLv_mem (E := E) r (i + 2) j v (by simpa using h)
        rw [show i + (j + 2) = i + 2 + j by omega]
        exact List.mem_cons_of_mem _ this
    · rename_i hc
      rw [if_neg hc]
      match j, h with
      | 0, h => simp at h; subst h; exact List.mem_cons_self
      | j + 1, h =>
        have := goLv_mem (E := E) r (i + 1) j v (by simpa using h)
        rw [show i + (j + 1) = i + 1 + j by omega]
        exact List.mem_cons_of_mem _ this
theorem goLv_len {E : goEv} : ∀ vs : List Value, (lg_sl (vs.map (goCv E))).length = (goLv vs).length
  | [] => rfl
  | x :: r => by
    have ih := goLv_len (E := E) r
    unfold goLv
    simp only [lg_sl, List.map_cons, List.flatMap_cons, goCv_cat, List.length_append] at ih ⊢
    split <;> simp [ih] <;> omega
/-- the walk of a method's body gives its contract -/
theorem goMet {E : goEv} {l : Launch} {y : MethodName} {cc : ByteArray} {mL : Nat} {ret : Option FieldType} {rm : Room} {as : List Value} {lv : List (Option Value)} {G : goG} {M : goMI} {L : goML} {R : goMR} {Qc : Array Value → State → Outcome → State → Prop} {mc ms : Nat}
    (hy : plainName y.cls = true) (hk : goKn E) (hlv : goLv as ++ List.replicate (mL - (goLv as).length) none = lv) (hle : (goLv as).length ≤ mL)
    (body : ∀ X : goX, goCx E X cc y.cls mL → X.2.1 = l → X.2.2.2.1 = rm → X.2.2.2.2.2.2.2.2.1.sig.returnType = ret → X.2.2.2.2.2.2.2.2.1.name = y.name → goA E X G 0 0 (goMQ X E Qc mc ms) 0 lv [] M L R) : Met l y (goCd y cc mL ret) rm (goPre E as G M L R) Qc mc ms (goSet E) := by
  refine Met.ofW (cc := cc) (maxL := mL) (ret := ret) hy rfl ?_
  intro p e s m args below meth c s₁ B hml hv
  obtain ⟨rfl, hw, hlow, hhp⟩ := hv
  have hts := atoms_spec (ws := goCd y cc mL ret) B.pre
  have hcx : goCx E (p, l, e, rm, s, m, (as.map (goCv E)).toArray, below, meth, c) cc y.cls mL := ⟨B.exec, B.bytes, hml, findClass_of_methodNamed B.named, fun w h => hts w (List.mem_cons_of_mem _ h), B.notSynchronized, hw, hk, by rw [hhp.1]; exact Nat.le_add_right _ _, hlow⟩
  have K := body (p, l, e, rm, s, m, (as.map (goCv E)).toArray, below, meth, c) hcx rfl rfl B.returns (name_of_methodNamed B.named B.method).1
  rw [lg_entry_eq]
  refine K s.heap [] _ hhp va_S.rf hlow ?_
  have hl := lv_entry (as.map (goCv E)) (n := mL) (by rw [goLv_len]; exact hle)
  have hlen : lv.length = mL := by rw [← hlv]; simp; omega
  refine ⟨by rw [hlen]; exact hl.1, hl.2.1, fun q hq => hl.2.2 q ?_⟩
  obtain ⟨j, v, h1, rfl⟩ := goAsc_mem.mp hq
  refine goLv_mem as 0 j v ?_
  rw [← hlv] at h1
  by_cases hj : j < (goLv as).length
  · rw [List.getElem?_append_left hj] at h1; exact h1
  · rw [List.getElem?_append_right (by omega)] at h1
    rw [List.getElem?_replicate] at h1
    split at h1 <;> simp at h1
