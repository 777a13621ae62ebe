theorem goIfT {α : Sort _} {c : Prop} [Decidable c] {x y r : α} (h : (if c then x else y) = r) (hc : c) : x = r := by rw [if_pos hc] at h; exact h
theorem goIfF {α : Sort _} {c : Prop} [Decidable c] {x y r : α} (h : (if c then x else y) = r) (hc : ¬ c) : y = r := by rw [if_neg hc] at h; exact h
theorem goNm_x {α β : Type} {e : α} {k : α → β} {r : β} (h : goNm e k = r) : ∃ x, x = e ∧ k x = r := ⟨e, rfl, h⟩
theorem goNm_y {α β : Type} {e : α} {k : α → β} {r : β} (h : goNm e k = r) : ∃ x, e = x ∧ k x = r := ⟨e, rfl, h⟩
def goB2 {α β γ : Type} (e : Option (α × β)) (k : α → β → Option γ) : Option γ := e.bind fun p => k p.1 p.2
def goB3 {α β γ δ : Type} (e : Option (α × β × γ)) (k : α → β → γ → Option δ) : Option δ := e.bind fun p => k p.1 p.2.1 p.2.2
def goB4 {α β γ δ ε : Type} (e : Option (α × β × γ × δ)) (k : α → β → γ → δ → Option ε) : Option ε := e.bind fun p => k p.1 p.2.1 p.2.2.1 p.2.2.2
theorem goB2_h {α β γ : Type} {e : Option (α × β)} {k : α → β → Option γ} {r : γ} (h : goB2 e k = some r) : ∃ x y, e = some (x, y) ∧ k x y = some r := by
  obtain ⟨⟨x, y⟩, h1, h2⟩ := goBind h
  exact ⟨x, y, h1, h2⟩
theorem goB3_h {α β γ δ : Type} {e : Option (α × β × γ)} {k : α → β → γ → Option δ} {r : δ} (h : goB3 e k = some r) : ∃ x y z, e = some (x, y, z) ∧ k x y z = some r := by
  obtain ⟨⟨x, y, z⟩, h1, h2⟩ := goBind h
  exact ⟨x, y, z, h1, h2⟩
theorem goB4_h {α β γ δ ε : Type} {e : Option (α × β × γ × δ)} {k : α → β → γ → δ → Option ε} {r : ε} (h : goB4 e k = some r) : ∃ x y z w, e = some (x, y, z, w) ∧ k x y z w = some r := by
  obtain ⟨⟨x, y, z, w⟩, h1, h2⟩ := goBind h
  exact ⟨x, y, z, w, h1, h2⟩
def goZr (x : Int32) : Option Int32 := if x = 0 ∨ x = 1 then some x else none
theorem goZr_h {x y : Int32} (h : goZr x = some y) : (x = 0 ∨ x = 1) ∧ x = y := by
  unfold goZr at h
  split at h
  · rename_i c; exact ⟨c, Option.some.inj h⟩
  · cases h
theorem goZ_n {x : Int32} (h : x = 0 ∨ x = 1) : narrow .boolean (.int x) = .int x := by rcases h with rfl | rfl <;> rfl
def goNz (x : Int32) : Option Unit := if x = 0 then none else some ()
theorem goNz_h {x : Int32} {u : Unit} (h : goNz x = some u) : ¬ x = 0 := by
  unfold goNz at h
  split at h
  · cases h
  · assumption
theorem goNn {x : Option Nat} {y : Nat} (h : x = some y) : ¬ x = none := by rw [h]; exact fun q => by cases q
def goRr (R : goMR) (a k : Nat) : Nat := (R a k).getD 0
theorem goNe {x k : Int32} {n : Int} (h : ¬ x = k) (hk : k.toInt = n) : x.toInt ≠ n := fun e => h (Int32.toInt_inj.mp (e.trans hk.symm))
/-- a stretch of an int array over another one -/
def goCp (M : goMI) (s ns : Nat) (sp : Int32) (d nd : Nat) (dp n : Int32) : Option goMI := if 0 ≤ sp ∧ 0 ≤ dp ∧ 0 ≤ n ∧ sp.toNatClampNeg + n.toNatClampNeg ≤ ns ∧ dp.toNatClampNeg + n.toNatClampNeg ≤ nd then some (fun b => if b = d then va_cpy (M s) (M d) sp.toNatClampNeg dp.toNatClampNeg n.toNatClampNeg else M b) else none
/-- System.arraycopy over int arrays (the proof follows va_copyi, with the heap's size told) -/
theorem go_cpW {p : Program} {l : Launch} {e : Env} {R : Room} {s : State} {m : MethodId} {args : Array Value} {below : List Frame} {meth : Method} {c : Code} {H : Heap} {locs : List Loc} {cells slots : Nat} {Q : State → Prop} {pc : Nat} {ls : Array Slot} {rest : List Value} {cc : ByteArray} (hexec : p.tables.exec = Jvm.exec) (hb : c.code = cc) (hml : c.maxLocals = ls.size) {own : String} {index : Nat} (hown : s.vm.findClass own = some m.cls) (hlink : (Cond.methodLink own index arraycopyName).before args s = true) (hnat : (Cond.native arraycopyName).before args s = true) (hstat : (Cond.static arraycopyName).before args s = true) (hini : (Cond.initialized "java/lang/System").before args s = true)
    {a0 a : Nat} {c0 : ClassId} {n0 n1 : Nat} {f g : Nat → Int32} (hK : ArrOfT s c0 .int) (hc0 : H[a0]? = some (arrV c0 n0 (fun j => .int (f j)))) (hc1 : H[a]? = some (arrV c0 n1 (fun j => .int (g j))))
    {sp dp n : Int32} (h1 : ¬ sp < 0) (h2 : ¬ dp < 0) (h3 : ¬ n < 0) (h4 : sp.toNatClampNeg + n.toNatClampNeg ≤ n0) (h5 : dp.toNatClampNeg + n.toNatClampNeg ≤ n1)
    (hframes : 1 ≤ R.frames) (hlocals : (rest.map fun v => v.category).sum + (nativeFrameWords "java/lang/System" "arraycopy" 5 + 11) ≤ R.locals) (hdg : decode cc pc = .ok (.invokestatic index, 3))
    (kk : ∀ (H1 : Heap) (locs1 : List Loc), H1.size = H.size → H1[a]? = some (arrV c0 n1 (fun j => .int (va_cpy f g sp.toNatClampNeg dp.toNatClampNeg n.toNatClampNeg j))) → (∀ q : Nat, q ≠ a → H1[q]? = H[q]?) → (∀ z ∈ locs1, z ∈ locs ∨ z.base = a) → W p l e R s m args below meth c H1 locs1 cells slots Q (F0 m (pc + 3) ls rest)) : W p l e R s m args below meth c H locs cells slots Q (F0 m pc ls (.int n :: .int dp :: .ref a :: .int sp :: .ref a0 :: rest)) := by
  have nn : ∀ z : Int32, ¬ z < 0 → z.toInt = (z.toNatClampNeg : Int) := by
    intro z hz
    have hz0 : (0 : Int) ≤ z.toInt := by
      have := Int32.not_lt.mp hz
      simpa using Int32.le_iff_toInt_le.mp this
    show z.toInt = ((z.toInt.toNat : Nat) : Int)
    omega
  intro T hT X
  obtain ⟨-, k0, hk0, cm0, hkk0⟩ := hK n0 (fun j => .int (f j))
  obtain ⟨-, k1, hk1, cm1, hkk1⟩ := hK n1 (fun j => .int (g j))
  obtain ⟨vm', X', step⟩ := X.arraycopy hexec hown hlink hnat hstat hini (src := a0) (dst := a) (cs := arrV c0 n0 (fun j => .int (f j))) (cd := arrV c0 n1 (fun j => .int (g j))) (srcPos := sp) (destPos := dp) (n := n) (by rw [hT]; exact hc0) (by rw [hT]; exact hc1)
    (fun _ h => by cases h) (fun _ h => by cases h) (fun h => by cases h) (fun h => by cases h) hk0 hk1 hkk0 hkk1 (by simp [refKind]) h1 h2 h3
    (by rw [nn sp h1, nn n h3]; show ¬ _ > ((arrV c0 n0 (fun j => .int (f j))).slots.size : Int); rw [arrV_size]; omega)
    (by rw [nn dp h2, nn n h3]; show ¬ _ > ((arrV c0 n1 (fun j => .int (g j))).slots.size : Int); rw [arrV_size]; omega)
    (fun vm₁ _ i hi => by
      have e : (arrV c0 n0 (fun j => .int (f j))).slots.getD (sp.toNatClampNeg + i) .null = .int (f (sp.toNatClampNeg + i)) := by
        rw [Array.getD_eq_getD_getElem?, arrV_read _ _ (by omega)]
        rfl
      refine ⟨?_, ?_⟩
      · rw [e]
        rfl
      · rw [e]
        exact trivial)
    (g := F0 m pc ls (.int n :: .int dp :: .ref a :: .int sp :: .ref a0 :: rest)) rfl (by rw [hml]) (rest := rest) rfl (by rw [hb]; exact hdg) hframes (by show 2 * 0 + _ + _ ≤ _; omega)
  have e1 : copied (arrV c0 n0 (fun j => .int (f j))) (arrV c0 n1 (fun j => .int (g j))) sp dp n = arrV c0 n1 (fun j => .int (va_cpy f g sp.toNatClampNeg dp.toNatClampNeg n.toNatClampNeg j)) := va_copied (fun z => .int z) c0 c0 f g h4
  rw [e1] at X' step
  have hl : a < H.size := (Array.getElem?_eq_some_iff.mp hc1).1
  have hheap : ((T.setVm vm').setCell a (arrV c0 n1 (fun j => .int (va_cpy f g sp.toNatClampNeg dp.toNatClampNeg n.toNatClampNeg j)))).heap = H.setIfInBounds a (arrV c0 n1 (fun j => .int (va_cpy f g sp.toNatClampNeg dp.toNatClampNeg n.toNatClampNeg j))) := by rw [← hT]; rfl
  have oq : ∀ q : Nat, q ≠ a → (H.setIfInBounds a (arrV c0 n1 (fun j => .int (va_cpy f g sp.toNatClampNeg dp.toNatClampNeg n.toNatClampNeg j))))[q]? = H[q]? := fun q hq => by simp [Array.getElem?_setIfInBounds, Ne.symm hq]
  obtain ⟨t, a1, b1⟩ := kk _ _ (by simp) (by simp [Array.getElem?_setIfInBounds, hl]) oq (fun q hq => by
      rcases List.mem_append.mp hq with h | h
      · exact Or.inl h
      · obtain ⟨z, -, hz⟩ := List.mem_map.mp h
        rw [← hz]
        exact Or.inr rfl) _ hheap X'
  exact ⟨t, step t a1, b1⟩
def goMax (x y : Int32) : Int32 := if x < y then y else x
def goMin (x y : Int32) : Int32 := if y < x then y else x
section goSup
variable {E : goEv} {X : goX} {G : goG} {ce sl : Nat} {Q : State → Prop} {pc : Nat} {lv : List (Option Value)} {st : List Value} {M M' : goMI} {L L' : goML} {R : goMR} {cc : ByteArray} {own : String} {nL : Nat}
theorem go_nmI {x y : Int32} (h : y = x) (k : goA E X G ce sl Q pc lv (.int y :: st) M L R) : goA E X G ce sl Q pc lv (.int x :: st) M L R := h ▸ k
theorem go_nmJ {x y : Int64} (h : y = x) (k : goA E X G ce sl Q pc lv (.long y :: st) M L R) : goA E X G ce sl Q pc lv (.long x :: st) M L R := h ▸ k
theorem go_ptI (h : goCx E X cc own nL) {idx ci k a : Nat} {x : Int32} (hl : goLk own idx ci k "I" false) (hd : decode cc pc = .ok (.putfield idx, 3)) (hs : a < G.2 ∧ G.1 a = (0, ci)) (hm : M' = goWI M a k x) (kk : goA E X G ce sl Q (pc + 3) lv st M' L R) (hK : goK ci k = 0 := by rfl) : goA E X G ce sl Q pc lv (.int x :: .ref a :: st) M L R := go_putI h hl hd hs (hm ▸ kk) hK
theorem go_ptZ (h : goCx E X cc own nL) {idx ci k a : Nat} {x : Int32} (hl : goLk own idx ci k "Z" false) (hd : decode cc pc = .ok (.putfield idx, 3)) (hs : a < G.2 ∧ G.1 a = (0, ci)) (hx : x = 0 ∨ x = 1) (hm : M' = goWI M a k x) (kk : goA E X G ce sl Q (pc + 3) lv st M' L R) (hK : goK ci k = 0 := by rfl) : goA E X G ce sl Q pc lv (.int x :: .ref a :: st) M L R := go_putZ h hl hd hs hx (hm ▸ kk) hK
theorem go_ptL (h : goCx E X cc own nL) {idx ci k a : Nat} {x : Int64} (hl : goLk own idx ci k "J" false) (hd : decode cc pc = .ok (.putfield idx, 3)) (hs : a < G.2 ∧ G.1 a = (0, ci)) (hm : L' = goWL L a k x) (kk : goA E X G ce sl Q (pc + 3) lv st M L' R) (hK : goK ci k = 1 := by rfl) : goA E X G ce sl Q pc lv (.long x :: .ref a :: st) M L R := go_putL h hl hd hs (hm ▸ kk) hK
theorem go_tabIn (h : goCx E X cc own nL) (tgt : Nat) {dflt lo hi off : Int} {offs : Array Int} {len : Nat} {x v : Int32} (hd : decode cc pc = .ok (.tableswitch dflt lo hi offs, len)) (hx : x = v) (h1 : ¬ v.toInt < lo) (h2 : ¬ hi < v.toInt) (ho : offs[(v.toInt - lo).toNat]? = some off) (ht : (pc : Int) + off = (tgt : Int)) (k : goA E X G ce sl Q tgt lv st M L R) : goA E X G ce sl Q pc lv (.int x :: st) M L R := by
  subst hx
  exact fun H locs ls a1 a2 a3 a4 => lv_tableIn h.1 h.2.1 hd h1 h2 ho ht (k H locs ls a1 a2 a3 a4)
theorem go_tabOut (h : goCx E X cc own nL) (tgt : Nat) {dflt lo hi : Int} {offs : Array Int} {len : Nat} {x : Int32} (hd : decode cc pc = .ok (.tableswitch dflt lo hi offs, len)) (hx : x.toInt < lo ∨ hi < x.toInt) (ht : (pc : Int) + dflt = (tgt : Int)) (k : goA E X G ce sl Q tgt lv st M L R) : goA E X G ce sl Q pc lv (.int x :: st) M L R :=
  fun H locs ls a1 a2 a3 a4 => lv_tableOut h.1 h.2.1 hd hx ht (k H locs ls a1 a2 a3 a4)
theorem go_copy (h : goCx E X cc own nL) {idx s ns d nd F W0 MC MS : Nat} {sp dp n : Int32} (hd : decode cc pc = .ok (.invokestatic idx, 3)) (hl : Cond.methodLink own idx arraycopyName ∈ goTb) (hR : X.2.2.2.1 = goRoom F W0 MC MS) (hb : (Nat.ble 1 F && Nat.ble (8 + (nativeFrameWords "java/lang/System" "arraycopy" 5 + 11)) W0) = true) (hs : s < G.2 ∧ G.1 s = (1, ns)) (hd2 : d < G.2 ∧ G.1 d = (1, nd)) (hlv : lv.length = nL) (hcat : (st.map Value.category).sum ≤ 8) (hg : goCp M s ns sp d nd dp n = some M') (k : goA E X G ce sl Q (pc + 3) lv st M' L R) : goA E X G ce sl Q pc lv (.int n :: .int dp :: .ref d :: .int sp :: .ref s :: st) M L R := by
  intro H locs ls a1 a2 a3 a4
  unfold goCp at hg
  split at hg
  · rename_i c
    obtain ⟨c1, c2, c3, c4, c5⟩ := c
    cases hg
    simp only [Bool.and_eq_true, Nat.ble_eq] at hb
    have hS := a1.2.2 s hs.1
    rw [hs.2] at hS
    have hS : H[E.2.1 + s]? = some (arrV (E.2.2.2.2.1 1) ns (fun j => .int (M s j))) := hS
    have hT := a1.2.2 d hd2.1
    rw [hd2.2] at hT
    have hT : H[E.2.1 + d]? = some (arrV (E.2.2.2.2.1 1) nd (fun j => .int (M d j))) := hT
    show W _ _ _ _ _ _ _ _ _ _ _ _ _ _ _ (F0 _ pc ls (Value.int n :: Value.int dp :: Value.ref (goAd E d) :: Value.int sp :: Value.ref (goAd E s) :: st.map (goCv E)))
    rw [goAd_own a1 hs.1, goAd_own a1 hd2.1]
    have hz : ∀ z : Int32, 0 ≤ z → ¬ z < 0 := fun z hz => Int32.not_lt.mpr hz
    refine go_cpW h.1 h.2.1 (h.2.2.1.trans (a4.1.trans hlv).symm) h.2.2.2.1 (h.2.2.2.2.1 _ hl) (h.2.2.2.2.1 _ wna_arraycopy) (h.2.2.2.2.1 _ wst_arraycopy) (h.2.2.2.2.1 _ win_RJ10) ((goCx_K h).2 0 _ rfl).1 hS hT (hz _ c1) (hz _ c2) (hz _ c3) c4 c5 (by rw [hR]; exact hb.1) (by rw [hR, goCat_map]; exact Nat.le_trans (Nat.add_le_add_right hcat _) hb.2) hd (fun H1 locs1 z e oq hlo => ?_)
    refine k H1 locs1 ls (goHp_upd a1 z oq (fun b q => by simp [q]) (fun _ _ => rfl) (fun _ _ => rfl) ?_) ⟨by rw [z]; exact a2.1, fun q q1 q2 => (oq q (fun e => q2 (by rw [e]; exact Nat.le_add_right _ _))).trans (a2.2.1 q q1 q2), fun q hq => (hlo q hq).elim (fun h => a2.2.2 q h) (fun h => by rw [h]; exact Nat.le_add_right _ _)⟩ (goLow_upd a3 oq) a4
    rw [hd2.2]
    show H1[E.2.1 + d]? = some (arrV (E.2.2.2.2.1 1) nd _)
    rw [e]
    simp
  · cases hg
theorem go_mmax (h : goCx E X cc own nL) {idx F W0 MC MS : Nat} {x y : Int32} (hd : decode cc pc = .ok (.invokestatic idx, 3)) (hl : Cond.methodLink own idx Lib.Math.max.name ∈ goTb) (hR : X.2.2.2.1 = goRoom F W0 MC MS) (hb : (Nat.ble 1 F && (Nat.ble 21 W0 && (Nat.ble ce MC && Nat.ble sl MS))) = true) (hlv : lv.length = nL) (hcat : (st.map Value.category).sum ≤ 8) (k : goA E X G ce sl Q (pc + 3) lv (.int (goMax x y) :: st) M L R) : goA E X G ce sl Q pc lv (.int y :: .int x :: st) M L R := by
  intro H locs ls a1 a2 a3 a4
  simp only [Bool.and_eq_true, Nat.ble_eq] at hb
  exact va_mmax h.1 h.2.1 (h.2.2.1.trans (a4.1.trans hlv).symm) h.2.2.2.1 (h.2.2.2.2.1 _ hl) (h.2.2.2.2.1 _ wst_J9_max_7cf53) (h.2.2.2.2.1 _ win_RJ9) (h.2.2.2.2.1 _ wco_J9_max_7cf53) (by rw [hR]; exact hb.1) (by rw [hR, goCat_map]; exact Nat.le_trans (Nat.add_le_add_right hcat _) hb.2.1) (by rw [hR]; exact hb.2.2.1) (by rw [hR]; exact hb.2.2.2) hd (k H locs ls a1 a2 a3 a4)
theorem go_mmin (h : goCx E X cc own nL) {idx F W0 MC MS : Nat} {x y : Int32} (hd : decode cc pc = .ok (.invokestatic idx, 3)) (hl : Cond.methodLink own idx Lib.Math.min.name ∈ goTb) (hR : X.2.2.2.1 = goRoom F W0 MC MS) (hb : (Nat.ble 1 F && (Nat.ble 21 W0 && (Nat.ble ce MC && Nat.ble sl MS))) = true) (hlv : lv.length = nL) (hcat : (st.map Value.category).sum ≤ 8) (k : goA E X G ce sl Q (pc + 3) lv (.int (goMin x y) :: st) M L R) : goA E X G ce sl Q pc lv (.int y :: .int x :: st) M L R := by
  intro H locs ls a1 a2 a3 a4
  simp only [Bool.and_eq_true, Nat.ble_eq] at hb
  exact va_mmin h.1 h.2.1 (h.2.2.1.trans (a4.1.trans hlv).symm) h.2.2.2.1 (h.2.2.2.2.1 _ hl) (h.2.2.2.2.1 _ wst_J9_min_7cf53) (h.2.2.2.2.1 _ win_RJ9) (h.2.2.2.2.1 _ wco_J9_min_7cf53) (by rw [hR]; exact hb.1) (by rw [hR, goCat_map]; exact Nat.le_trans (Nat.add_le_add_right hcat _) hb.2.1) (by rw [hR]; exact hb.2.2.1) (by rw [hR]; exact hb.2.2.2) hd (k H locs ls a1 a2 a3 a4)
end goSup
theorem goTo7 {x : Int32} (c0 : ¬ x = 0) (c1 : ¬ x = 1) (c2 : ¬ x = 2) (c3 : ¬ x = 3) (c4 : ¬ x = 4) (c5 : ¬ x = 5) (c6 : ¬ x = 6) : x.toInt < 0 ∨ 6 < x.toInt := by
  have q0 : x.toInt ≠ 0 := goNe c0 rfl
  have q1 : x.toInt ≠ 1 := goNe c1 rfl
  have q2 : x.toInt ≠ 2 := goNe c2 rfl
  have q3 : x.toInt ≠ 3 := goNe c3 rfl
  have q4 : x.toInt ≠ 4 := goNe c4 rfl
  have q5 : x.toInt ≠ 5 := goNe c5 rfl
  have q6 : x.toInt ≠ 6 := goNe c6 rfl
  omega
theorem goTo4 {x : Int32} (c0 : ¬ x = 0) (c1 : ¬ x = 1) (c2 : ¬ x = 2) (c3 : ¬ x = 3) : x.toInt < 0 ∨ 3 < x.toInt := by
  have q0 : x.toInt ≠ 0 := goNe c0 rfl
  have q1 : x.toInt ≠ 1 := goNe c1 rfl
  have q2 : x.toInt ≠ 2 := goNe c2 rfl
  have q3 : x.toInt ≠ 3 := goNe c3 rfl
  omega
theorem goTo15 {x : Int32} (c0 : ¬ x = 0) (c1 : ¬ x = 1) (c2 : ¬ x = 2) (c3 : ¬ x = 3) (c4 : ¬ x = 4) (c5 : ¬ x = 5) (c6 : ¬ x = 6) (c7 : ¬ x = 7) (c8 : ¬ x = 8) (c9 : ¬ x = 9) (c10 : ¬ x = 10) (c11 : ¬ x = 11) (c12 : ¬ x = 12) (c13 : ¬ x = 13) (c14 : ¬ x = 14) : x.toInt < 0 ∨ 14 < x.toInt := by
  have q0 : x.toInt ≠ 0 := goNe c0 rfl
  have q1 : x.toInt ≠ 1 := goNe c1 rfl
  have q2 : x.toInt ≠ 2 := goNe c2 rfl
  have q3 : x.toInt ≠ 3 := goNe c3 rfl
  have q4 : x.toInt ≠ 4 := goNe c4 rfl
  have q5 : x.toInt ≠ 5 := goNe c5 rfl
  have q6 : x.toInt ≠ 6 := goNe c6 rfl
  have q7 : x.toInt ≠ 7 := goNe c7 rfl
  have q8 : x.toInt ≠ 8 := goNe c8 rfl
  have q9 : x.toInt ≠ 9 := goNe c9 rfl
  have q10 : x.toInt ≠ 10 := goNe c10 rfl
  have q11 : x.toInt ≠ 11 := goNe c11 rfl
  have q12 : x.toInt ≠ 12 := goNe c12 rfl
  have q13 : x.toInt ≠ 13 := goNe c13 rfl
  have q14 : x.toInt ≠ 14 := goNe c14 rfl
  omega
theorem goTp15 {x : Int32} (c1 : ¬ x = 1) (c2 : ¬ x = 2) (c3 : ¬ x = 3) (c4 : ¬ x = 4) (c5 : ¬ x = 5) (c6 : ¬ x = 6) (c7 : ¬ x = 7) (c8 : ¬ x = 8) (c9 : ¬ x = 9) (c10 : ¬ x = 10) (c11 : ¬ x = 11) (c12 : ¬ x = 12) (c13 : ¬ x = 13) (c14 : ¬ x = 14) (c15 : ¬ x = 15) : x.toInt < 1 ∨ 15 < x.toInt := by
  have q1 : x.toInt ≠ 1 := goNe c1 rfl
  have q2 : x.toInt ≠ 2 := goNe c2 rfl
  have q3 : x.toInt ≠ 3 := goNe c3 rfl
  have q4 : x.toInt ≠ 4 := goNe c4 rfl
  have q5 : x.toInt ≠ 5 := goNe c5 rfl
  have q6 : x.toInt ≠ 6 := goNe c6 rfl
  have q7 : x.toInt ≠ 7 := goNe c7 rfl
  have q8 : x.toInt ≠ 8 := goNe c8 rfl
  have q9 : x.toInt ≠ 9 := goNe c9 rfl
  have q10 : x.toInt ≠ 10 := goNe c10 rfl
  have q11 : x.toInt ≠ 11 := goNe c11 rfl
  have q12 : x.toInt ≠ 12 := goNe c12 rfl
  have q13 : x.toInt ≠ 13 := goNe c13 rfl
  have q14 : x.toInt ≠ 14 := goNe c14 rfl
  have q15 : x.toInt ≠ 15 := goNe c15 rfl
  omega
theorem goTo6 {x : Int32} (c0 : ¬ x = 0) (c1 : ¬ x = 1) (c2 : ¬ x = 2) (c3 : ¬ x = 3) (c4 : ¬ x = 4) (c5 : ¬ x = 5) : x.toInt < 0 ∨ 5 < x.toInt := by
  have q0 : x.toInt ≠ 0 := goNe c0 rfl
  have q1 : x.toInt ≠ 1 := goNe c1 rfl
  have q2 : x.toInt ≠ 2 := goNe c2 rfl
  have q3 : x.toInt ≠ 3 := goNe c3 rfl
  have q4 : x.toInt ≠ 4 := goNe c4 rfl
  have q5 : x.toInt ≠ 5 := goNe c5 rfl
  omega
theorem goTo13 {x : Int32} (c0 : ¬ x = 0) (c1 : ¬ x = 1) (c2 : ¬ x = 2) (c3 : ¬ x = 3) (c4 : ¬ x = 4) (c5 : ¬ x = 5) (c6 : ¬ x = 6) (c7 : ¬ x = 7) (c8 : ¬ x = 8) (c9 : ¬ x = 9) (c10 : ¬ x = 10) (c11 : ¬ x = 11) (c12 : ¬ x = 12) : x.toInt < 0 ∨ 12 < x.toInt := by
  have q0 : x.toInt ≠ 0 := goNe c0 rfl
  have q1 : x.toInt ≠ 1 := goNe c1 rfl
  have q2 : x.toInt ≠ 2 := goNe c2 rfl
  have q3 : x.toInt ≠ 3 := goNe c3 rfl
  have q4 : x.toInt ≠ 4 := goNe c4 rfl
  have q5 : x.toInt ≠ 5 := goNe c5 rfl
  have q6 : x.toInt ≠ 6 := goNe c6 rfl
  have q7 : x.toInt ≠ 7 := goNe c7 rfl
  have q8 : x.toInt ≠ 8 := goNe c8 rfl
  have q9 : x.toInt ≠ 9 := goNe c9 rfl
  have q10 : x.toInt ≠ 10 := goNe c10 rfl
  have q11 : x.toInt ≠ 11 := goNe c11 rfl
  have q12 : x.toInt ≠ 12 := goNe c12 rfl
  omega
theorem goTo14 {x : Int32} (c0 : ¬ x = 0) (c1 : ¬ x = 1) (c2 : ¬ x = 2) (c3 : ¬ x = 3) (c4 : ¬ x = 4) (c5 : ¬ x = 5) (c6 : ¬ x = 6) (c7 : ¬ x = 7) (c8 : ¬ x = 8) (c9 : ¬ x = 9) (c10 : ¬ x = 10) (c11 : ¬ x = 11) (c12 : ¬ x = 12) (c13 : ¬ x = 13) : x.toInt < 0 ∨ 13 < x.toInt := by
  have q0 : x.toInt ≠ 0 := goNe c0 rfl
  have q1 : x.toInt ≠ 1 := goNe c1 rfl
  have q2 : x.toInt ≠ 2 := goNe c2 rfl
  have q3 : x.toInt ≠ 3 := goNe c3 rfl
  have q4 : x.toInt ≠ 4 := goNe c4 rfl
  have q5 : x.toInt ≠ 5 := goNe c5 rfl
  have q6 : x.toInt ≠ 6 := goNe c6 rfl
  have q7 : x.toInt ≠ 7 := goNe c7 rfl
  have q8 : x.toInt ≠ 8 := goNe c8 rfl
  have q9 : x.toInt ≠ 9 := goNe c9 rfl
  have q10 : x.toInt ≠ 10 := goNe c10 rfl
  have q11 : x.toInt ≠ 11 := goNe c11 rfl
  have q12 : x.toInt ≠ 12 := goNe c12 rfl
  have q13 : x.toInt ≠ 13 := goNe c13 rfl
  omega
theorem goTo51 {x : Int32} (c0 : ¬ x = 0) (c1 : ¬ x = 1) (c2 : ¬ x = 2) (c3 : ¬ x = 3) (c4 : ¬ x = 4) (c5 : ¬ x = 5) (c6 : ¬ x = 6) (c7 : ¬ x = 7) (c8 : ¬ x = 8) (c9 : ¬ x = 9) (c10 : ¬ x = 10) (c11 : ¬ x = 11) (c12 : ¬ x = 12) (c13 : ¬ x = 13) (c14 : ¬ x = 14) (c15 : ¬ x = 15) (c16 : ¬ x = 16) (c17 : ¬ x = 17) (c18 : ¬ x = 18) (c19 : ¬ x = 19) (c20 : ¬ x = 20) (c21 : ¬ x = 21) (c22 : ¬ x = 22) (c23 : ¬ x = 23) (c24 : ¬ x = 24) (c25 : ¬ x = 25) (c26 : ¬ x = 26) (c27 : ¬ x = 27) (c28 : ¬ x = 28) (c29 : ¬ x = 29) (c30 : ¬ x = 30) (c31 : ¬ x = 31) (c32 : ¬ x = 32) (c33 : ¬ x = 33) (c34 : ¬ x = 34) (c35 : ¬ x = 35) (c36 : ¬ x = 36) (c37 : ¬ x = 37) (c38 : ¬ x = 38) (c39 : ¬ x = 39) (c40 : ¬ x = 40) (c41 : ¬ x = 41) (c42 : ¬ x = 42) (c43 : ¬ x = 43) (c44 : ¬ x = 44) (c45 : ¬ x = 45) (c46 : ¬ x = 46) (c47 : ¬ x = 47) (c48 : ¬ x = 48) (c49 : ¬ x = 49) (c50 : ¬ x = 50) : x.toInt < 0 ∨ 50 < x.toInt := by
  have q0 : x.toInt ≠ 0 := goNe c0 rfl
  have q1 : x.toInt ≠ 1 := goNe c1 rfl
  have q2 : x.toInt ≠ 2 := goNe c2 rfl
  have q3 : x.toInt ≠ 3 := goNe c3 rfl
  have q4 : x.toInt ≠ 4 := goNe c4 rfl
  have q5 : x.toInt ≠ 5 := goNe c5 rfl
  have q6 : x.toInt ≠ 6 := goNe c6 rfl
  have q7 : x.toInt ≠ 7 := goNe c7 rfl
  have q8 : x.toInt ≠ 8 := goNe c8 rfl
  have q9 : x.toInt ≠ 9 := goNe c9 rfl
  have q10 : x.toInt ≠ 10 := goNe c10 rfl
  have q11 : x.toInt ≠ 11 := goNe c11 rfl
  have q12 : x.toInt ≠ 12 := goNe c12 rfl
  have q13 : x.toInt ≠ 13 := goNe c13 rfl
  have q14 : x.toInt ≠ 14 := goNe c14 rfl
  have q15 : x.toInt ≠ 15 := goNe c15 rfl
  have q16 : x.toInt ≠ 16 := goNe c16 rfl
  have q17 : x.toInt ≠ 17 := goNe c17 rfl
  have q18 : x.toInt ≠ 18 := goNe c18 rfl
  have q19 : x.toInt ≠ 19 := goNe c19 rfl
  have q20 : x.toInt ≠ 20 := goNe c20 rfl
  have q21 : x.toInt ≠ 21 := goNe c21 rfl
  have q22 : x.toInt ≠ 22 := goNe c22 rfl
  have q23 : x.toInt ≠ 23 := goNe c23 rfl
  have q24 : x.toInt ≠ 24 := goNe c24 rfl
  have q25 : x.toInt ≠ 25 := goNe c25 rfl
  have q26 : x.toInt ≠ 26 := goNe c26 rfl
  have q27 : x.toInt ≠ 27 := goNe c27 rfl
  have q28 : x.toInt ≠ 28 := goNe c28 rfl
  have q29 : x.toInt ≠ 29 := goNe c29 rfl
  have q30 : x.toInt ≠ 30 := goNe c30 rfl
  have q31 : x.toInt ≠ 31 := goNe c31 rfl
  have q32 : x.toInt ≠ 32 := goNe c32 rfl
  have q33 : x.toInt ≠ 33 := goNe c33 rfl
  have q34 : x.toInt ≠ 34 := goNe c34 rfl
  have q35 : x.toInt ≠ 35 := goNe c35 rfl
  have q36 : x.toInt ≠ 36 := goNe c36 rfl
  have q37 : x.toInt ≠ 37 := goNe c37 rfl
  have q38 : x.toInt ≠ 38 := goNe c38 rfl
  have q39 : x.toInt ≠ 39 := goNe c39 rfl
  have q40 : x.toInt ≠ 40 := goNe c40 rfl
  have q41 : x.toInt ≠ 41 := goNe c41 rfl
  have q42 : x.toInt ≠ 42 := goNe c42 rfl
  have q43 : x.toInt ≠ 43 := goNe c43 rfl
  have q44 : x.toInt ≠ 44 := goNe c44 rfl
  have q45 : x.toInt ≠ 45 := goNe c45 rfl
  have q46 : x.toInt ≠ 46 := goNe c46 rfl
  have q47 : x.toInt ≠ 47 := goNe c47 rfl
  have q48 : x.toInt ≠ 48 := goNe c48 rfl
  have q49 : x.toInt ≠ 49 := goNe c49 rfl
  have q50 : x.toInt ≠ 50 := goNe c50 rfl
  omega
