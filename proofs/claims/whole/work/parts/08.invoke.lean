def goRoom (f w mc ms : Nat) : Room := { frames := f, cells := mc, slots := ms, locals := w }
def goYk (y : MethodName) (cy : ByteArray) (mL : Nat) (rt : Option FieldType) (n : Nat) : Prop := Cond.code y cy mL rt ∈ goTb ∧ Cond.initialized y.cls ∈ goTb ∧ (y.cls ≠ "java/lang/invoke/MethodHandle" ∧ y.cls ≠ "java/lang/invoke/VarHandle" ∧ (parseMethodDescriptor y.desc).map (fun d => d.parameters.length) = some n)
def goMl (own : String) (idx : Nat) (y : MethodName) : Prop := Cond.methodLink own idx y ∈ goTb ∨ ∃ host, Cond.methodLinkNest own idx y host ∈ lw_tbl
theorem goGood {y : MethodName} {cy : ByteArray} {mL : Nat} {rt : Option FieldType} (hc : Cond.code y cy mL rt ∈ goTb) : GoodIn goTb (goCd y cy mL rt) := fun w hw => by
  have hm : w ∈ goTb := (List.mem_cons.mp hw).elim (fun e => by rw [e]; exact hc) id
  exact ⟨hm, good_of_word (List.mem_filter.mp hm).2⟩
def goFit (f w mc ms mL ce sl F W0 MC MS : Nat) : Bool := Nat.ble (f + 1) F && (Nat.ble (8 + (mL + 11) + w) W0 && (Nat.ble (ce + mc) MC && Nat.ble (sl + ms) MS))
theorem goFit_of {f w mc ms mL ce sl F W0 MC MS : Nat} (h : goFit f w mc ms mL ce sl F W0 MC MS = true) : (f + 1 ≤ F ∧ 8 + (mL + 11) + w ≤ W0) ∧ (ce + mc ≤ MC ∧ sl + ms ≤ MS) := by
  unfold goFit at h
  simp only [Bool.and_eq_true, Nat.ble_eq] at h
  exact ⟨⟨h.1, h.2.1⟩, h.2.2⟩
theorem goCat_map {E : goEv} : ∀ st : List Value, ((st.map (goCv E)).map fun v => v.category).sum = (st.map Value.category).sum
  | [] => rfl
  | v :: r => by simp only [List.map_cons, List.sum_cons, goCv_cat, goCat_map r]
theorem goPre_blind {E : goEv} {as : List Value} {G : goG} {M : goMI} {L : goML} {R : goMR} : FrameBlind (goPre E as G M L R) := fun _ _ _ _ q => q
section goCalls
variable {E : goEv} {X : goX} {G G' : goG} {ce sl : Nat} {Q : State → Prop} {pc : Nat} {lv : List (Option Value)} {st stk as : List Value} {M M' : goMI} {L L' : goML} {R R' : goMR} {cc cy : ByteArray} {own : String} {nL : Nat} {y : MethodName} {rt : Option FieldType} {mL n f w mc ms F W0 MC MS idx ci a : Nat}
theorem goCB (h : goCx E X cc own nL) (hl : Cond.methodLink own idx y ∈ goTb) (hy : goYk y cy mL rt n) (hR : X.2.2.2.1 = goRoom F W0 MC MS) (hb : (f + 1 ≤ F ∧ 8 + (mL + 11) + w ≤ W0)) : CallB X.2.2.2.1 X.2.2.2.2.1 X.2.2.2.2.2.2.1 own idx y cy mL rt (goCd y cy mL rt) (goRoom f w mc ms) mc ms n :=
  callB_of n h.2.2.2.2.1 (goGood hy.1) rfl rfl rfl (h.2.2.2.2.1 _ hy.2.1) (h.2.2.2.2.1 _ hl) hy.2.2 (by rw [hR]; exact hb)
theorem goCN (h : goCx E X cc own nL) {host : String} (hl : Cond.methodLinkNest own idx y host ∈ lw_tbl) (hy : goYk y cy mL rt n) (hR : X.2.2.2.1 = goRoom F W0 MC MS) (hb : (f + 1 ≤ F ∧ 8 + (mL + 11) + w ≤ W0)) : va_CN X.2.2.2.1 X.2.2.2.2.1 X.2.2.2.2.2.2.1 own idx y host cy mL rt (goCd y cy mL rt) (goRoom f w mc ms) mc ms n :=
  va_cnB n h.2.2.2.2.1 (goGood hy.1) rfl rfl rfl ((h.2.2.2.2.2.2.2.1.2.2.1 _ hl rfl).warmM h.2.2.2.2.2.2.1) (h.2.2.2.2.1 _ hy.2.1) hy.2.2 (by rw [hR]; exact hb)
theorem goPreOk (h : goCx E X cc own nL) {H : Heap} (a1 : goHp E G M L R H) (a3 : goLow E H) {as : List Value} : ∀ U : State, U.heap = H → X.2.2.2.2.1.WarmedH U.vm → goPre E as G M L R (as.map (goCv E)).toArray U := fun U hU hW => ⟨rfl, State.WarmedH.trans h.2.2.2.2.2.2.1 hW, by rw [hU]; exact a3, by rw [hU]; exact a1⟩
theorem goRecv (h : goCx E X cc own nL) {H : Heap} (a1 : goHp E G M L R H) (hs : a < G.2 ∧ G.1 a = (0, ci)) {C : String} (hci : vwCl[ci]?.map (fun q => q.1) = some C) : ∃ cellB : Cell, H[goAd E a]? = some cellB ∧ cellB.vm.isStatics = false ∧ X.2.2.2.2.1.vm.findClass C = some cellB.cls := by
  have hAt := a1.2.2 a hs.1
  rw [hs.2] at hAt
  obtain ⟨cell, q1, q2, q3, -⟩ := hAt
  cases hc : vwCl[ci]? with
  | none => rw [hc] at hci; cases hci
  | some q =>
    rw [hc] at hci
    have hq : q.1 = C := Option.some.inj hci
    have hk := ((goCx_K h).1 ci q hc).2.1
    rw [hq] at hk
    exact ⟨cell, by rw [goAd_own a1 hs.1]; exact q1, by rw [q3]; rfl, by rw [q2]; exact hk⟩
theorem goRecvO (h : goCx E X cc own nL) {H : Heap} (a1 : goHp E G M L R H) (a3 : goLow E H) {C : String} {t : Nat} (ho : va_O C t (goSet E) E.1 E.1.heap) : ∃ cellB : Cell, H[t]? = some cellB ∧ cellB.vm.isStatics = false ∧ X.2.2.2.2.1.vm.findClass C = some cellB.cls := by
  obtain ⟨cell, h1, h2, h3, h4⟩ := ho
  have ht : t < E.2.1 := Nat.not_le.mp h4
  exact ⟨cell, by rw [a3 t ht]; exact h1, h2, by rw [h.2.2.2.2.2.2.1.alike.findClass]; exact h3⟩
theorem goLow_call {H H1 : Heap} (a1 : goHp E G M L R H) (a3 : goLow E H) (hk : ∀ q : Nat, q < H.size → ¬ goSet E q → H1[q]? = H[q]?) : goLow E H1 := fun q hq => (hk q (by rw [a1.1]; omega) (Nat.not_le.mpr hq)).trans (a3 q hq)
theorem go_callVi (h : goCx E X cc own nL) {v : Int32} (hd : decode cc pc = .ok (.invokevirtual idx, 3)) (hM : Met X.2.1 y (goCd y cy mL rt) (goRoom f w mc ms) (goPre E (.ref a :: as) G M L R) (goQi E v G' M' L' R') mc ms (goSet E)) (hl : goMl own idx y) (hy : goYk y cy mL rt n) (hV : Cond.instanceMethod y ∈ goTb ∧ Cond.selects y.cls y y ∈ goTb) (hR : X.2.2.2.1 = goRoom F W0 MC MS) (hb : goFit f w mc ms mL ce sl F W0 MC MS = true) (hs : a < G.2 ∧ G.1 a = (0, ci)) (hci : vwCl[ci]?.map (fun q => q.1) = some y.cls) (hst : stk = as.reverse ++ .ref a :: st) (hn : as.length = n) (hc : (st.map Value.category).sum ≤ 8) (hlv : lv.length = nL) (kk : goA E X G' (ce + mc) (sl + ms) Q (pc + 3) lv (.int v :: st) M' L' R') : goA E X G ce sl Q pc lv stk M L R := by
  intro H locs ls a1 a2 a3 a4
  subst hst
  have hfit := goFit_of hb
  have hcat : 2 * (F0 X.2.2.2.2.2.1 pc ls (List.map (goCv E) (as.reverse ++ .ref a :: st))).monitorRoom + ((st.map (goCv E)).map fun v => v.category).sum ≤ 8 := lv_room (rest := List.map (goCv E) (as.reverse ++ .ref a :: st)) (by rw [goCat_map]; exact hc)
  have hsize : ls.size = nL := a4.1.trans hlv
  have hstk : List.map (goCv E) (as.reverse ++ .ref a :: st) = (as.map (goCv E)).reverse ++ .ref (goAd E a) :: st.map (goCv E) := by simp only [List.map_append, List.map_reverse, List.map_cons]; rfl
  have go : ∀ rr : va_Run X.1 X.2.1 X.2.2.1 X.2.2.2.1 X.2.2.2.2.1 X.2.2.2.2.2.1 X.2.2.2.2.2.2.1 X.2.2.2.2.2.2.2.1 X.2.2.2.2.2.2.2.2.1 X.2.2.2.2.2.2.2.2.2 H locs ce sl mc ms (F0 X.2.2.2.2.2.1 pc ls (List.map (goCv E) (as.reverse ++ .ref a :: st))) (st.map (goCv E)) ((goQi E v G' M' L' R') (List.map (goCv E) (.ref a :: as)).toArray) (goSet E), W X.1 X.2.1 X.2.2.1 X.2.2.2.1 X.2.2.2.2.1 X.2.2.2.2.2.1 X.2.2.2.2.2.2.1 X.2.2.2.2.2.2.2.1 X.2.2.2.2.2.2.2.2.1 X.2.2.2.2.2.2.2.2.2 H locs ce sl Q (F0 X.2.2.2.2.2.1 pc ls (List.map (goCv E) (as.reverse ++ .ref a :: st))) := by
    intro rr
    refine va_calli rr a2 (fun _ _ q => q) (fun _ q => q) (fun r u t H1 locs1 ht hvm hw hB hz hk hS => ?_)
    cases hw
    try dsimp only at hB
    rw [ht] at hB
    exact kk H1 locs1 ls hB hS (goLow_call a1 a3 hk) a4
  rcases hl with hl | ⟨host, hl⟩
  · exact go (va_runV (As := as.map (goCv E)) (rest := st.map (goCv E)) (b := goAd E a) ⟨h.1, h.2.1, h.2.2.1, h.2.2.2.1, h.2.2.2.2.1⟩ hM ⟨goCB h hl hy hR hfit.1, h.2.2.2.2.1 _ hV.1, h.2.2.2.2.1 _ hV.2⟩ ⟨goPre_blind, goRecv h a1 hs hci, goPreOk h a1 a3⟩ rfl (by rw [List.length_map]; exact hn) hsize hstk hcat hd (by rw [hR]; exact hfit.2))
  · exact go (va_runVN (As := as.map (goCv E)) (rest := st.map (goCv E)) (b := goAd E a) ⟨h.1, h.2.1, h.2.2.1, h.2.2.2.1, h.2.2.2.2.1⟩ hM ⟨goCN h hl hy hR hfit.1, h.2.2.2.2.1 _ hV.1, h.2.2.2.2.1 _ hV.2⟩ ⟨goPre_blind, goRecv h a1 hs hci, goPreOk h a1 a3⟩ rfl (by rw [List.length_map]; exact hn) hsize hstk hcat hd (by rw [hR]; exact hfit.2))
theorem go_callVl (h : goCx E X cc own nL) {v : Int64} (hd : decode cc pc = .ok (.invokevirtual idx, 3)) (hM : Met X.2.1 y (goCd y cy mL rt) (goRoom f w mc ms) (goPre E (.ref a :: as) G M L R) (goQl E v G' M' L' R') mc ms (goSet E)) (hl : goMl own idx y) (hy : goYk y cy mL rt n) (hV : Cond.instanceMethod y ∈ goTb ∧ Cond.selects y.cls y y ∈ goTb) (hR : X.2.2.2.1 = goRoom F W0 MC MS) (hb : goFit f w mc ms mL ce sl F W0 MC MS = true) (hs : a < G.2 ∧ G.1 a = (0, ci)) (hci : vwCl[ci]?.map (fun q => q.1) = some y.cls) (hst : stk = as.reverse ++ .ref a :: st) (hn : as.length = n) (hc : (st.map Value.category).sum ≤ 8) (hlv : lv.length = nL) (kk : goA E X G' (ce + mc) (sl + ms) Q (pc + 3) lv (.long v :: st) M' L' R') : goA E X G ce sl Q pc lv stk M L R := by
  intro H locs ls a1 a2 a3 a4
  subst hst
  have hfit := goFit_of hb
  have hcat : 2 * (F0 X.2.2.2.2.2.1 pc ls (List.map (goCv E) (as.reverse ++ .ref a :: st))).monitorRoom + ((st.map (goCv E)).map fun v => v.category).sum ≤ 8 := lv_room (rest := List.map (goCv E) (as.reverse ++ .ref a :: st)) (by rw [goCat_map]; exact hc)
  have hsize : ls.size = nL := a4.1.trans hlv
  have hstk : List.map (goCv E) (as.reverse ++ .ref a :: st) = (as.map (goCv E)).reverse ++ .ref (goAd E a) :: st.map (goCv E) := by simp only [List.map_append, List.map_reverse, List.map_cons]; rfl
  have go : ∀ rr : va_Run X.1 X.2.1 X.2.2.1 X.2.2.2.1 X.2.2.2.2.1 X.2.2.2.2.2.1 X.2.2.2.2.2.2.1 X.2.2.2.2.2.2.2.1 X.2.2.2.2.2.2.2.2.1 X.2.2.2.2.2.2.2.2.2 H locs ce sl mc ms (F0 X.2.2.2.2.2.1 pc ls (List.map (goCv E) (as.reverse ++ .ref a :: st))) (st.map (goCv E)) ((goQl E v G' M' L' R') (List.map (goCv E) (.ref a :: as)).toArray) (goSet E), W X.1 X.2.1 X.2.2.1 X.2.2.2.1 X.2.2.2.2.1 X.2.2.2.2.2.1 X.2.2.2.2.2.2.1 X.2.2.2.2.2.2.2.1 X.2.2.2.2.2.2.2.2.1 X.2.2.2.2.2.2.2.2.2 H locs ce sl Q (F0 X.2.2.2.2.2.1 pc ls (List.map (goCv E) (as.reverse ++ .ref a :: st))) := by
    intro rr
    refine va_calll rr a2 (fun _ _ q => q) (fun _ q => q) (fun r u t H1 locs1 ht hvm hw hB hz hk hS => ?_)
    cases hw
    try dsimp only at hB
    rw [ht] at hB
    exact kk H1 locs1 ls hB hS (goLow_call a1 a3 hk) a4
  rcases hl with hl | ⟨host, hl⟩
  · exact go (va_runV (As := as.map (goCv E)) (rest := st.map (goCv E)) (b := goAd E a) ⟨h.1, h.2.1, h.2.2.1, h.2.2.2.1, h.2.2.2.2.1⟩ hM ⟨goCB h hl hy hR hfit.1, h.2.2.2.2.1 _ hV.1, h.2.2.2.2.1 _ hV.2⟩ ⟨goPre_blind, goRecv h a1 hs hci, goPreOk h a1 a3⟩ rfl (by rw [List.length_map]; exact hn) hsize hstk hcat hd (by rw [hR]; exact hfit.2))
  · exact go (va_runVN (As := as.map (goCv E)) (rest := st.map (goCv E)) (b := goAd E a) ⟨h.1, h.2.1, h.2.2.1, h.2.2.2.1, h.2.2.2.2.1⟩ hM ⟨goCN h hl hy hR hfit.1, h.2.2.2.2.1 _ hV.1, h.2.2.2.2.1 _ hV.2⟩ ⟨goPre_blind, goRecv h a1 hs hci, goPreOk h a1 a3⟩ rfl (by rw [List.length_map]; exact hn) hsize hstk hcat hd (by rw [hR]; exact hfit.2))
theorem go_callVv (h : goCx E X cc own nL)  (hd : decode cc pc = .ok (.invokevirtual idx, 3)) (hM : Met X.2.1 y (goCd y cy mL rt) (goRoom f w mc ms) (goPre E (.ref a :: as) G M L R) (goQv E G' M' L' R') mc ms (goSet E)) (hl : goMl own idx y) (hy : goYk y cy mL rt n) (hV : Cond.instanceMethod y ∈ goTb ∧ Cond.selects y.cls y y ∈ goTb) (hR : X.2.2.2.1 = goRoom F W0 MC MS) (hb : goFit f w mc ms mL ce sl F W0 MC MS = true) (hs : a < G.2 ∧ G.1 a = (0, ci)) (hci : vwCl[ci]?.map (fun q => q.1) = some y.cls) (hst : stk = as.reverse ++ .ref a :: st) (hn : as.length = n) (hc : (st.map Value.category).sum ≤ 8) (hlv : lv.length = nL) (kk : goA E X G' (ce + mc) (sl + ms) Q (pc + 3) lv (st) M' L' R') : goA E X G ce sl Q pc lv stk M L R := by
  intro H locs ls a1 a2 a3 a4
  subst hst
  have hfit := goFit_of hb
  have hcat : 2 * (F0 X.2.2.2.2.2.1 pc ls (List.map (goCv E) (as.reverse ++ .ref a :: st))).monitorRoom + ((st.map (goCv E)).map fun v => v.category).sum ≤ 8 := lv_room (rest := List.map (goCv E) (as.reverse ++ .ref a :: st)) (by rw [goCat_map]; exact hc)
  have hsize : ls.size = nL := a4.1.trans hlv
  have hstk : List.map (goCv E) (as.reverse ++ .ref a :: st) = (as.map (goCv E)).reverse ++ .ref (goAd E a) :: st.map (goCv E) := by simp only [List.map_append, List.map_reverse, List.map_cons]; rfl
  have go : ∀ rr : va_Run X.1 X.2.1 X.2.2.1 X.2.2.2.1 X.2.2.2.2.1 X.2.2.2.2.2.1 X.2.2.2.2.2.2.1 X.2.2.2.2.2.2.2.1 X.2.2.2.2.2.2.2.2.1 X.2.2.2.2.2.2.2.2.2 H locs ce sl mc ms (F0 X.2.2.2.2.2.1 pc ls (List.map (goCv E) (as.reverse ++ .ref a :: st))) (st.map (goCv E)) ((goQv E G' M' L' R') (List.map (goCv E) (.ref a :: as)).toArray) (goSet E), W X.1 X.2.1 X.2.2.1 X.2.2.2.1 X.2.2.2.2.1 X.2.2.2.2.2.1 X.2.2.2.2.2.2.1 X.2.2.2.2.2.2.2.1 X.2.2.2.2.2.2.2.2.1 X.2.2.2.2.2.2.2.2.2 H locs ce sl Q (F0 X.2.2.2.2.2.1 pc ls (List.map (goCv E) (as.reverse ++ .ref a :: st))) := by
    intro rr
    refine va_callv rr a2 (fun _ _ q => q) (fun _ q => q) (fun u t H1 locs1 ht hvm hw hB hz hk hS => ?_)
    skip
    try dsimp only at hB
    rw [ht] at hB
    exact kk H1 locs1 ls hB hS (goLow_call a1 a3 hk) a4
  rcases hl with hl | ⟨host, hl⟩
  · exact go (va_runV (As := as.map (goCv E)) (rest := st.map (goCv E)) (b := goAd E a) ⟨h.1, h.2.1, h.2.2.1, h.2.2.2.1, h.2.2.2.2.1⟩ hM ⟨goCB h hl hy hR hfit.1, h.2.2.2.2.1 _ hV.1, h.2.2.2.2.1 _ hV.2⟩ ⟨goPre_blind, goRecv h a1 hs hci, goPreOk h a1 a3⟩ rfl (by rw [List.length_map]; exact hn) hsize hstk hcat hd (by rw [hR]; exact hfit.2))
  · exact go (va_runVN (As := as.map (goCv E)) (rest := st.map (goCv E)) (b := goAd E a) ⟨h.1, h.2.1, h.2.2.1, h.2.2.2.1, h.2.2.2.2.1⟩ hM ⟨goCN h hl hy hR hfit.1, h.2.2.2.2.1 _ hV.1, h.2.2.2.2.1 _ hV.2⟩ ⟨goPre_blind, goRecv h a1 hs hci, goPreOk h a1 a3⟩ rfl (by rw [List.length_map]; exact hn) hsize hstk hcat hd (by rw [hR]; exact hfit.2))
theorem go_callVr (h : goCx E X cc own nL) {v : Nat} (hd : decode cc pc = .ok (.invokevirtual idx, 3)) (hM : Met X.2.1 y (goCd y cy mL rt) (goRoom f w mc ms) (goPre E (.ref a :: as) G M L R) (goQr E v G' M' L' R') mc ms (goSet E)) (hl : goMl own idx y) (hy : goYk y cy mL rt n) (hV : Cond.instanceMethod y ∈ goTb ∧ Cond.selects y.cls y y ∈ goTb) (hR : X.2.2.2.1 = goRoom F W0 MC MS) (hb : goFit f w mc ms mL ce sl F W0 MC MS = true) (hs : a < G.2 ∧ G.1 a = (0, ci)) (hci : vwCl[ci]?.map (fun q => q.1) = some y.cls) (hst : stk = as.reverse ++ .ref a :: st) (hn : as.length = n) (hc : (st.map Value.category).sum ≤ 8) (hlv : lv.length = nL) (kk : goA E X G' (ce + mc) (sl + ms) Q (pc + 3) lv (.ref v :: st) M' L' R') : goA E X G ce sl Q pc lv stk M L R := by
  intro H locs ls a1 a2 a3 a4
  subst hst
  have hfit := goFit_of hb
  have hcat : 2 * (F0 X.2.2.2.2.2.1 pc ls (List.map (goCv E) (as.reverse ++ .ref a :: st))).monitorRoom + ((st.map (goCv E)).map fun v => v.category).sum ≤ 8 := lv_room (rest := List.map (goCv E) (as.reverse ++ .ref a :: st)) (by rw [goCat_map]; exact hc)
  have hsize : ls.size = nL := a4.1.trans hlv
  have hstk : List.map (goCv E) (as.reverse ++ .ref a :: st) = (as.map (goCv E)).reverse ++ .ref (goAd E a) :: st.map (goCv E) := by simp only [List.map_append, List.map_reverse, List.map_cons]; rfl
  have go : ∀ rr : va_Run X.1 X.2.1 X.2.2.1 X.2.2.2.1 X.2.2.2.2.1 X.2.2.2.2.2.1 X.2.2.2.2.2.2.1 X.2.2.2.2.2.2.2.1 X.2.2.2.2.2.2.2.2.1 X.2.2.2.2.2.2.2.2.2 H locs ce sl mc ms (F0 X.2.2.2.2.2.1 pc ls (List.map (goCv E) (as.reverse ++ .ref a :: st))) (st.map (goCv E)) ((goQr E v G' M' L' R') (List.map (goCv E) (.ref a :: as)).toArray) (goSet E), W X.1 X.2.1 X.2.2.1 X.2.2.2.1 X.2.2.2.2.1 X.2.2.2.2.2.1 X.2.2.2.2.2.2.1 X.2.2.2.2.2.2.2.1 X.2.2.2.2.2.2.2.2.1 X.2.2.2.2.2.2.2.2.2 H locs ce sl Q (F0 X.2.2.2.2.2.1 pc ls (List.map (goCv E) (as.reverse ++ .ref a :: st))) := by
    intro rr
    refine va_callr rr a2 (fun _ _ q => q) (fun _ q => q) (fun u ra t H1 locs1 ht hvm hw hB hz hk hS => ?_)
    obtain ⟨rfl, hB⟩ := hB
    try dsimp only at hB
    rw [ht] at hB
    exact kk H1 locs1 ls hB hS (goLow_call a1 a3 hk) a4
  rcases hl with hl | ⟨host, hl⟩
  · exact go (va_runV (As := as.map (goCv E)) (rest := st.map (goCv E)) (b := goAd E a) ⟨h.1, h.2.1, h.2.2.1, h.2.2.2.1, h.2.2.2.2.1⟩ hM ⟨goCB h hl hy hR hfit.1, h.2.2.2.2.1 _ hV.1, h.2.2.2.2.1 _ hV.2⟩ ⟨goPre_blind, goRecv h a1 hs hci, goPreOk h a1 a3⟩ rfl (by rw [List.length_map]; exact hn) hsize hstk hcat hd (by rw [hR]; exact hfit.2))
  · exact go (va_runVN (As := as.map (goCv E)) (rest := st.map (goCv E)) (b := goAd E a) ⟨h.1, h.2.1, h.2.2.1, h.2.2.2.1, h.2.2.2.2.1⟩ hM ⟨goCN h hl hy hR hfit.1, h.2.2.2.2.1 _ hV.1, h.2.2.2.2.1 _ hV.2⟩ ⟨goPre_blind, goRecv h a1 hs hci, goPreOk h a1 a3⟩ rfl (by rw [List.length_map]; exact hn) hsize hstk hcat hd (by rw [hR]; exact hfit.2))
theorem go_callSi (h : goCx E X cc own nL) {v : Int32} (hd : decode cc pc = .ok (.invokestatic idx, 3)) (hM : Met X.2.1 y (goCd y cy mL rt) (goRoom f w mc ms) (goPre E (as) G M L R) (goQi E v G' M' L' R') mc ms (goSet E)) (hl : goMl own idx y) (hy : goYk y cy mL rt n) (hV : Cond.static y ∈ goTb) (hR : X.2.2.2.1 = goRoom F W0 MC MS) (hb : goFit f w mc ms mL ce sl F W0 MC MS = true) (hst : stk = as.reverse ++ st) (hn : as.length = n) (hc : (st.map Value.category).sum ≤ 8) (hlv : lv.length = nL) (kk : goA E X G' (ce + mc) (sl + ms) Q (pc + 3) lv (.int v :: st) M' L' R') : goA E X G ce sl Q pc lv stk M L R := by
  intro H locs ls a1 a2 a3 a4
  subst hst
  have hfit := goFit_of hb
  have hcat : 2 * (F0 X.2.2.2.2.2.1 pc ls (List.map (goCv E) (as.reverse ++ st))).monitorRoom + ((st.map (goCv E)).map fun v => v.category).sum ≤ 8 := lv_room (rest := List.map (goCv E) (as.reverse ++ st)) (by rw [goCat_map]; exact hc)
  have hsize : ls.size = nL := a4.1.trans hlv
  have hstk : List.map (goCv E) (as.reverse ++ st) = (as.map (goCv E)).reverse ++ st.map (goCv E) := by simp only [List.map_append, List.map_reverse]
  have go : ∀ rr : va_Run X.1 X.2.1 X.2.2.1 X.2.2.2.1 X.2.2.2.2.1 X.2.2.2.2.2.1 X.2.2.2.2.2.2.1 X.2.2.2.2.2.2.2.1 X.2.2.2.2.2.2.2.2.1 X.2.2.2.2.2.2.2.2.2 H locs ce sl mc ms (F0 X.2.2.2.2.2.1 pc ls (List.map (goCv E) (as.reverse ++ st))) (st.map (goCv E)) ((goQi E v G' M' L' R') (List.map (goCv E) (as)).toArray) (goSet E), W X.1 X.2.1 X.2.2.1 X.2.2.2.1 X.2.2.2.2.1 X.2.2.2.2.2.1 X.2.2.2.2.2.2.1 X.2.2.2.2.2.2.2.1 X.2.2.2.2.2.2.2.2.1 X.2.2.2.2.2.2.2.2.2 H locs ce sl Q (F0 X.2.2.2.2.2.1 pc ls (List.map (goCv E) (as.reverse ++ st))) := by
    intro rr
    refine va_calli rr a2 (fun _ _ q => q) (fun _ q => q) (fun r u t H1 locs1 ht hvm hw hB hz hk hS => ?_)
    cases hw
    try dsimp only at hB
    rw [ht] at hB
    exact kk H1 locs1 ls hB hS (goLow_call a1 a3 hk) a4
  rcases hl with hl | ⟨host, hl⟩
  · exact go (va_runS (As := as.map (goCv E)) (rest := st.map (goCv E)) ⟨h.1, h.2.1, h.2.2.1, h.2.2.2.1, h.2.2.2.2.1⟩ hM ⟨goCB h hl hy hR hfit.1, h.2.2.2.2.1 _ hV⟩ ⟨goPre_blind, goPreOk h a1 a3⟩ rfl (by rw [List.length_map]; exact hn) hsize hstk hcat hd (by rw [hR]; exact hfit.2))
  · exact go (va_runSN (As := as.map (goCv E)) (rest := st.map (goCv E)) ⟨h.1, h.2.1, h.2.2.1, h.2.2.2.1, h.2.2.2.2.1⟩ hM ⟨goCN h hl hy hR hfit.1, h.2.2.2.2.1 _ hV, trivial⟩ ⟨goPre_blind, goPreOk h a1 a3⟩ rfl (by rw [List.length_map]; exact hn) hsize hstk hcat hd (by rw [hR]; exact hfit.2))
theorem go_callSl (h : goCx E X cc own nL) {v : Int64} (hd : decode cc pc = .ok (.invokestatic idx, 3)) (hM : Met X.2.1 y (goCd y cy mL rt) (goRoom f w mc ms) (goPre E (as) G M L R) (goQl E v G' M' L' R') mc ms (goSet E)) (hl : goMl own idx y) (hy : goYk y cy mL rt n) (hV : Cond.static y ∈ goTb) (hR : X.2.2.2.1 = goRoom F W0 MC MS) (hb : goFit f w mc ms mL ce sl F W0 MC MS = true) (hst : stk = as.reverse ++ st) (hn : as.length = n) (hc : (st.map Value.category).sum ≤ 8) (hlv : lv.length = nL) (kk : goA E X G' (ce + mc) (sl + ms) Q (pc + 3) lv (.long v :: st) M' L' R') : goA E X G ce sl Q pc lv stk M L R := by
  intro H locs ls a1 a2 a3 a4
  subst hst
  have hfit := goFit_of hb
  have hcat : 2 * (F0 X.2.2.2.2.2.1 pc ls (List.map (goCv E) (as.reverse ++ st))).monitorRoom + ((st.map (goCv E)).map fun v => v.category).sum ≤ 8 := lv_room (rest := List.map (goCv E) (as.reverse ++ st)) (by rw [goCat_map]; exact hc)
  have hsize : ls.size = nL := a4.1.trans hlv
  have hstk : List.map (goCv E) (as.reverse ++ st) = (as.map (goCv E)).reverse ++ st.map (goCv E) := by simp only [List.map_append, List.map_reverse]
  have go : ∀ rr : va_Run X.1 X.2.1 X.2.2.1 X.2.2.2.1 X.2.2.2.2.1 X.2.2.2.2.2.1 X.2.2.2.2.2.2.1 X.2.2.2.2.2.2.2.1 X.2.2.2.2.2.2.2.2.1 X.2.2.2.2.2.2.2.2.2 H locs ce sl mc ms (F0 X.2.2.2.2.2.1 pc ls (List.map (goCv E) (as.reverse ++ st))) (st.map (goCv E)) ((goQl E v G' M' L' R') (List.map (goCv E) (as)).toArray) (goSet E), W X.1 X.2.1 X.2.2.1 X.2.2.2.1 X.2.2.2.2.1 X.2.2.2.2.2.1 X.2.2.2.2.2.2.1 X.2.2.2.2.2.2.2.1 X.2.2.2.2.2.2.2.2.1 X.2.2.2.2.2.2.2.2.2 H locs ce sl Q (F0 X.2.2.2.2.2.1 pc ls (List.map (goCv E) (as.reverse ++ st))) := by
    intro rr
    refine va_calll rr a2 (fun _ _ q => q) (fun _ q => q) (fun r u t H1 locs1 ht hvm hw hB hz hk hS => ?_)
    cases hw
    try dsimp only at hB
    rw [ht] at hB
    exact kk H1 locs1 ls hB hS (goLow_call a1 a3 hk) a4
  rcases hl with hl | ⟨host, hl⟩
  · exact go (va_runS (As := as.map (goCv E)) (rest := st.map (goCv E)) ⟨h.1, h.2.1, h.2.2.1, h.2.2.2.1, h.2.2.2.2.1⟩ hM ⟨goCB h hl hy hR hfit.1, h.2.2.2.2.1 _ hV⟩ ⟨goPre_blind, goPreOk h a1 a3⟩ rfl (by rw [List.length_map]; exact hn) hsize hstk hcat hd (by rw [hR]; exact hfit.2))
  · exact go (va_runSN (As := as.map (goCv E)) (rest := st.map (goCv E)) ⟨h.1, h.2.1, h.2.2.1, h.2.2.2.1, h.2.2.2.2.1⟩ hM ⟨goCN h hl hy hR hfit.1, h.2.2.2.2.1 _ hV, trivial⟩ ⟨goPre_blind, goPreOk h a1 a3⟩ rfl (by rw [List.length_map]; exact hn) hsize hstk hcat hd (by rw [hR]; exact hfit.2))
theorem go_callSv (h : goCx E X cc own nL)  (hd : decode cc pc = .ok (.invokestatic idx, 3)) (hM : Met X.2.1 y (goCd y cy mL rt) (goRoom f w mc ms) (goPre E (as) G M L R) (goQv E G' M' L' R') mc ms (goSet E)) (hl : goMl own idx y) (hy : goYk y cy mL rt n) (hV : Cond.static y ∈ goTb) (hR : X.2.2.2.1 = goRoom F W0 MC MS) (hb : goFit f w mc ms mL ce sl F W0 MC MS = true) (hst : stk = as.reverse ++ st) (hn : as.length = n) (hc : (st.map Value.category).sum ≤ 8) (hlv : lv.length = nL) (kk : goA E X G' (ce + mc) (sl + ms) Q (pc + 3) lv (st) M' L' R') : goA E X G ce sl Q pc lv stk M L R := by
  intro H locs ls a1 a2 a3 a4
  subst hst
  have hfit := goFit_of hb
  have hcat : 2 * (F0 X.2.2.2.2.2.1 pc ls (List.map (goCv E) (as.reverse ++ st))).monitorRoom + ((st.map (goCv E)).map fun v => v.category).sum ≤ 8 := lv_room (rest := List.map (goCv E) (as.reverse ++ st)) (by rw [goCat_map]; exact hc)
  have hsize : ls.size = nL := a4.1.trans hlv
  have hstk : List.map (goCv E) (as.reverse ++ st) = (as.map (goCv E)).reverse ++ st.map (goCv E) := by simp only [List.map_append, List.map_reverse]
  have go : ∀ rr : va_Run X.1 X.2.1 X.2.2.1 X.2.2.2.1 X.2.2.2.2.1 X.2.2.2.2.2.1 X.2.2.2.2.2.2.1 X.2.2.2.2.2.2.2.1 X.2.2.2.2.2.2.2.2.1 X.2.2.2.2.2.2.2.2.2 H locs ce sl mc ms (F0 X.2.2.2.2.2.1 pc ls (List.map (goCv E) (as.reverse ++ st))) (st.map (goCv E)) ((goQv E G' M' L' R') (List.map (goCv E) (as)).toArray) (goSet E), W X.1 X.2.1 X.2.2.1 X.2.2.2.1 X.2.2.2.2.1 X.2.2.2.2.2.1 X.2.2.2.2.2.2.1 X.2.2.2.2.2.2.2.1 X.2.2.2.2.2.2.2.2.1 X.2.2.2.2.2.2.2.2.2 H locs ce sl Q (F0 X.2.2.2.2.2.1 pc ls (List.map (goCv E) (as.reverse ++ st))) := by
    intro rr
    refine va_callv rr a2 (fun _ _ q => q) (fun _ q => q) (fun u t H1 locs1 ht hvm hw hB hz hk hS => ?_)
    skip
    try dsimp only at hB
    rw [ht] at hB
    exact kk H1 locs1 ls hB hS (goLow_call a1 a3 hk) a4
  rcases hl with hl | ⟨host, hl⟩
  · exact go (va_runS (As := as.map (goCv E)) (rest := st.map (goCv E)) ⟨h.1, h.2.1, h.2.2.1, h.2.2.2.1, h.2.2.2.2.1⟩ hM ⟨goCB h hl hy hR hfit.1, h.2.2.2.2.1 _ hV⟩ ⟨goPre_blind, goPreOk h a1 a3⟩ rfl (by rw [List.length_map]; exact hn) hsize hstk hcat hd (by rw [hR]; exact hfit.2))
  · exact go (va_runSN (As := as.map (goCv E)) (rest := st.map (goCv E)) ⟨h.1, h.2.1, h.2.2.1, h.2.2.2.1, h.2.2.2.2.1⟩ hM ⟨goCN h hl hy hR hfit.1, h.2.2.2.2.1 _ hV, trivial⟩ ⟨goPre_blind, goPreOk h a1 a3⟩ rfl (by rw [List.length_map]; exact hn) hsize hstk hcat hd (by rw [hR]; exact hfit.2))
theorem go_callSr (h : goCx E X cc own nL) {v : Nat} (hd : decode cc pc = .ok (.invokestatic idx, 3)) (hM : Met X.2.1 y (goCd y cy mL rt) (goRoom f w mc ms) (goPre E (as) G M L R) (goQr E v G' M' L' R') mc ms (goSet E)) (hl : goMl own idx y) (hy : goYk y cy mL rt n) (hV : Cond.static y ∈ goTb) (hR : X.2.2.2.1 = goRoom F W0 MC MS) (hb : goFit f w mc ms mL ce sl F W0 MC MS = true) (hst : stk = as.reverse ++ st) (hn : as.length = n) (hc : (st.map Value.category).sum ≤ 8) (hlv : lv.length = nL) (kk : goA E X G' (ce + mc) (sl + ms) Q (pc + 3) lv (.ref v :: st) M' L' R') : goA E X G ce sl Q pc lv stk M L R := by
  intro H locs ls a1 a2 a3 a4
  subst hst
  have hfit := goFit_of hb
  have hcat : 2 * (F0 X.2.2.2.2.2.1 pc ls (List.map (goCv E) (as.reverse ++ st))).monitorRoom + ((st.map (goCv E)).map fun v => v.category).sum ≤ 8 := lv_room (rest := List.map (goCv E) (as.reverse ++ st)) (by rw [goCat_map]; exact hc)
  have hsize : ls.size = nL := a4.1.trans hlv
  have hstk : List.map (goCv E) (as.reverse ++ st) = (as.map (goCv E)).reverse ++ st.map (goCv E) := by simp only [List.map_append, List.map_reverse]
  have go : ∀ rr : va_Run X.1 X.2.1 X.2.2.1 X.2.2.2.1 X.2.2.2.2.1 X.2.2.2.2.2.1 X.2.2.2.2.2.2.1 X.2.2.2.2.2.2.2.1 X.2.2.2.2.2.2.2.2.1 X.2.2.2.2.2.2.2.2.2 H locs ce sl mc ms (F0 X.2.2.2.2.2.1 pc ls (List.map (goCv E) (as.reverse ++ st))) (st.map (goCv E)) ((goQr E v G' M' L' R') (List.map (goCv E) (as)).toArray) (goSet E), W X.1 X.2.1 X.2.2.1 X.2.2.2.1 X.2.2.2.2.1 X.2.2.2.2.2.1 X.2.2.2.2.2.2.1 X.2.2.2.2.2.2.2.1 X.2.2.2.2.2.2.2.2.1 X.2.2.2.2.2.2.2.2.2 H locs ce sl Q (F0 X.2.2.2.2.2.1 pc ls (List.map (goCv E) (as.reverse ++ st))) := by
    intro rr
    refine va_callr rr a2 (fun _ _ q => q) (fun _ q => q) (fun u ra t H1 locs1 ht hvm hw hB hz hk hS => ?_)
    obtain ⟨rfl, hB⟩ := hB
    try dsimp only at hB
    rw [ht] at hB
    exact kk H1 locs1 ls hB hS (goLow_call a1 a3 hk) a4
  rcases hl with hl | ⟨host, hl⟩
  · exact go (va_runS (As := as.map (goCv E)) (rest := st.map (goCv E)) ⟨h.1, h.2.1, h.2.2.1, h.2.2.2.1, h.2.2.2.2.1⟩ hM ⟨goCB h hl hy hR hfit.1, h.2.2.2.2.1 _ hV⟩ ⟨goPre_blind, goPreOk h a1 a3⟩ rfl (by rw [List.length_map]; exact hn) hsize hstk hcat hd (by rw [hR]; exact hfit.2))
  · exact go (va_runSN (As := as.map (goCv E)) (rest := st.map (goCv E)) ⟨h.1, h.2.1, h.2.2.1, h.2.2.2.1, h.2.2.2.2.1⟩ hM ⟨goCN h hl hy hR hfit.1, h.2.2.2.2.1 _ hV, trivial⟩ ⟨goPre_blind, goPreOk h a1 a3⟩ rfl (by rw [List.length_map]; exact hn) hsize hstk hcat hd (by rw [hR]; exact hfit.2))
theorem go_callIv (h : goCx E X cc own nL)  (hd : decode cc pc = .ok (.invokespecial idx, 3)) (hM : Met X.2.1 y (goCd y cy mL none) (goRoom f w mc ms) (goPre E (.ref a :: as) G M L R) (goQv E G' M' L' R') mc ms (goSet E)) (hl : goMl own idx y) (hy : goYk y cy mL none n) (hV : Cond.instanceMethod y ∈ goTb) (hnm : y.name = "<init>") (hR : X.2.2.2.1 = goRoom F W0 MC MS) (hb : goFit f w mc ms mL ce sl F W0 MC MS = true) (hst : stk = as.reverse ++ .ref a :: st) (hn : as.length = n) (hc : (st.map Value.category).sum ≤ 8) (hlv : lv.length = nL) (kk : goA E X G' (ce + mc) (sl + ms) Q (pc + 3) lv (st) M' L' R') : goA E X G ce sl Q pc lv stk M L R := by
  intro H locs ls a1 a2 a3 a4
  subst hst
  have hfit := goFit_of hb
  have hcat : 2 * (F0 X.2.2.2.2.2.1 pc ls (List.map (goCv E) (as.reverse ++ .ref a :: st))).monitorRoom + ((st.map (goCv E)).map fun v => v.category).sum ≤ 8 := lv_room (rest := List.map (goCv E) (as.reverse ++ .ref a :: st)) (by rw [goCat_map]; exact hc)
  have hsize : ls.size = nL := a4.1.trans hlv
  have hstk : List.map (goCv E) (as.reverse ++ .ref a :: st) = (as.map (goCv E)).reverse ++ .ref (goAd E a) :: st.map (goCv E) := by simp only [List.map_append, List.map_reverse, List.map_cons]; rfl
  have go : ∀ rr : va_Run X.1 X.2.1 X.2.2.1 X.2.2.2.1 X.2.2.2.2.1 X.2.2.2.2.2.1 X.2.2.2.2.2.2.1 X.2.2.2.2.2.2.2.1 X.2.2.2.2.2.2.2.2.1 X.2.2.2.2.2.2.2.2.2 H locs ce sl mc ms (F0 X.2.2.2.2.2.1 pc ls (List.map (goCv E) (as.reverse ++ .ref a :: st))) (st.map (goCv E)) ((goQv E G' M' L' R') (List.map (goCv E) (.ref a :: as)).toArray) (goSet E), W X.1 X.2.1 X.2.2.1 X.2.2.2.1 X.2.2.2.2.1 X.2.2.2.2.2.1 X.2.2.2.2.2.2.1 X.2.2.2.2.2.2.2.1 X.2.2.2.2.2.2.2.2.1 X.2.2.2.2.2.2.2.2.2 H locs ce sl Q (F0 X.2.2.2.2.2.1 pc ls (List.map (goCv E) (as.reverse ++ .ref a :: st))) := by
    intro rr
    refine va_callv rr a2 (fun _ _ q => q) (fun _ q => q) (fun u t H1 locs1 ht hvm hw hB hz hk hS => ?_)
    skip
    try dsimp only at hB
    rw [ht] at hB
    exact kk H1 locs1 ls hB hS (goLow_call a1 a3 hk) a4
  rcases hl with hl | ⟨host, hl⟩
  · exact go (va_runI (As := as.map (goCv E)) (rest := st.map (goCv E)) (b := goAd E a) ⟨h.1, h.2.1, h.2.2.1, h.2.2.2.1, h.2.2.2.2.1⟩ hM ⟨goCB h hl hy hR hfit.1, hnm, h.2.2.2.2.1 _ hV⟩ ⟨goPre_blind, goPreOk h a1 a3⟩ rfl (by rw [List.length_map]; exact hn) hsize hstk hcat hd (by rw [hR]; exact hfit.2))
  · exact go (va_runIN (As := as.map (goCv E)) (rest := st.map (goCv E)) (b := goAd E a) ⟨h.1, h.2.1, h.2.2.1, h.2.2.2.1, h.2.2.2.2.1⟩ hM ⟨goCN h hl hy hR hfit.1, hnm, h.2.2.2.2.1 _ hV⟩ ⟨goPre_blind, goPreOk h a1 a3⟩ rfl (by rw [List.length_map]; exact hn) hsize hstk hcat hd (by rw [hR]; exact hfit.2))
theorem go_callOi (h : goCx E X cc own nL) {v : Int32} (hd : decode cc pc = .ok (.invokevirtual idx, 3)) (hM : Met X.2.1 y (goCd y cy mL rt) (goRoom f w mc ms) (goPre E (.ref a :: as) G M L R) (goQi E v G' M' L' R') mc ms (goSet E)) (hl : goMl own idx y) (hy : goYk y cy mL rt n) (hV : Cond.instanceMethod y ∈ goTb ∧ Cond.selects y.cls y y ∈ goTb) (hR : X.2.2.2.1 = goRoom F W0 MC MS) (hb : goFit f w mc ms mL ce sl F W0 MC MS = true) (hs : va_O y.cls (goAd E a) (goSet E) E.1 E.1.heap) (hst : stk = as.reverse ++ .ref a :: st) (hn : as.length = n) (hc : (st.map Value.category).sum ≤ 8) (hlv : lv.length = nL) (kk : goA E X G' (ce + mc) (sl + ms) Q (pc + 3) lv (.int v :: st) M' L' R') : goA E X G ce sl Q pc lv stk M L R := by
  intro H locs ls a1 a2 a3 a4
  subst hst
  have hfit := goFit_of hb
  have hcat : 2 * (F0 X.2.2.2.2.2.1 pc ls (List.map (goCv E) (as.reverse ++ .ref a :: st))).monitorRoom + ((st.map (goCv E)).map fun v => v.category).sum ≤ 8 := lv_room (rest := List.map (goCv E) (as.reverse ++ .ref a :: st)) (by rw [goCat_map]; exact hc)
  have hsize : ls.size = nL := a4.1.trans hlv
  have hstk : List.map (goCv E) (as.reverse ++ .ref a :: st) = (as.map (goCv E)).reverse ++ .ref (goAd E a) :: st.map (goCv E) := by simp only [List.map_append, List.map_reverse, List.map_cons]; rfl
  have go : ∀ rr : va_Run X.1 X.2.1 X.2.2.1 X.2.2.2.1 X.2.2.2.2.1 X.2.2.2.2.2.1 X.2.2.2.2.2.2.1 X.2.2.2.2.2.2.2.1 X.2.2.2.2.2.2.2.2.1 X.2.2.2.2.2.2.2.2.2 H locs ce sl mc ms (F0 X.2.2.2.2.2.1 pc ls (List.map (goCv E) (as.reverse ++ .ref a :: st))) (st.map (goCv E)) ((goQi E v G' M' L' R') (List.map (goCv E) (.ref a :: as)).toArray) (goSet E), W X.1 X.2.1 X.2.2.1 X.2.2.2.1 X.2.2.2.2.1 X.2.2.2.2.2.1 X.2.2.2.2.2.2.1 X.2.2.2.2.2.2.2.1 X.2.2.2.2.2.2.2.2.1 X.2.2.2.2.2.2.2.2.2 H locs ce sl Q (F0 X.2.2.2.2.2.1 pc ls (List.map (goCv E) (as.reverse ++ .ref a :: st))) := by
    intro rr
    refine va_calli rr a2 (fun _ _ q => q) (fun _ q => q) (fun r u t H1 locs1 ht hvm hw hB hz hk hS => ?_)
    cases hw
    try dsimp only at hB
    rw [ht] at hB
    exact kk H1 locs1 ls hB hS (goLow_call a1 a3 hk) a4
  rcases hl with hl | ⟨host, hl⟩
  · exact go (va_runV (As := as.map (goCv E)) (rest := st.map (goCv E)) (b := goAd E a) ⟨h.1, h.2.1, h.2.2.1, h.2.2.2.1, h.2.2.2.2.1⟩ hM ⟨goCB h hl hy hR hfit.1, h.2.2.2.2.1 _ hV.1, h.2.2.2.2.1 _ hV.2⟩ ⟨goPre_blind, goRecvO h a1 a3 hs, goPreOk h a1 a3⟩ rfl (by rw [List.length_map]; exact hn) hsize hstk hcat hd (by rw [hR]; exact hfit.2))
  · exact go (va_runVN (As := as.map (goCv E)) (rest := st.map (goCv E)) (b := goAd E a) ⟨h.1, h.2.1, h.2.2.1, h.2.2.2.1, h.2.2.2.2.1⟩ hM ⟨goCN h hl hy hR hfit.1, h.2.2.2.2.1 _ hV.1, h.2.2.2.2.1 _ hV.2⟩ ⟨goPre_blind, goRecvO h a1 a3 hs, goPreOk h a1 a3⟩ rfl (by rw [List.length_map]; exact hn) hsize hstk hcat hd (by rw [hR]; exact hfit.2))
end goCalls
