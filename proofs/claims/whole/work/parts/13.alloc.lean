def goGb (G : goG) (s : List (Nat × Nat)) : goG := (fun b => if b < G.2 then G.1 b else s.getD (b - G.2) (0, 0), G.2 + s.length)
theorem goGb_lt {G : goG} {s : List (Nat × Nat)} {a : Nat} {sh : Nat × Nat} (h : a < G.2 ∧ G.1 a = sh) : a < (goGb G s).2 ∧ (goGb G s).1 a = sh := ⟨Nat.lt_of_lt_of_le h.1 (Nat.le_add_right _ _), by show (if a < G.2 then _ else _) = _; rw [if_pos h.1]; exact h.2⟩
theorem goGb_at {G : goG} {s : List (Nat × Nat)} (j : Nat) (hj : j < s.length) {sh : Nat × Nat} (h : s.getD j (0, 0) = sh) : G.2 + j < (goGb G s).2 ∧ (goGb G s).1 (G.2 + j) = sh := ⟨Nat.add_lt_add_left hj _, by show (if _ then _ else _) = _; rw [if_neg (by omega), Nat.add_sub_cancel_left]; exact h⟩
theorem goGb_nil {G : goG} (h : ∀ b, G.2 ≤ b → G.1 b = (0, 0)) : goGb G [] = G := by
  refine Prod.ext ?_ rfl
  funext b
  show (if b < G.2 then G.1 b else _) = _
  split
  · rfl
  · simp; exact (h b (by omega)).symm
theorem goGb_app {G : goG} {s t : List (Nat × Nat)} : goGb (goGb G s) t = goGb G (s ++ t) := by
  refine Prod.ext ?_ ?_
  · funext b
    show (if b < G.2 + s.length then (if b < G.2 then G.1 b else s.getD (b - G.2) (0, 0)) else t.getD (b - (G.2 + s.length)) (0, 0)) = (if b < G.2 then G.1 b else (s ++ t).getD (b - G.2) (0, 0))
    by_cases h1 : b < G.2
    · rw [if_pos (by omega), if_pos h1, if_pos h1]
    · rw [if_neg h1]
      by_cases h2 : b < G.2 + s.length
      · rw [if_pos h2, if_neg h1, List.getD_eq_getElem?_getD, List.getD_eq_getElem?_getD, List.getElem?_append_left (by omega)]
      · rw [if_neg h2, if_neg h1, List.getD_eq_getElem?_getD, List.getD_eq_getElem?_getD, List.getElem?_append_right (by omega), Nat.sub_sub]
  · show G.2 + s.length + t.length = G.2 + (s ++ t).length
    rw [List.length_append]; omega
/-- the memories hold nothing from n on -/
def goZe (n : Nat) (M : goMI) (L : goML) (R : goMR) : Prop := ∀ b k, n ≤ b → M b k = 0 ∧ L b k = 0 ∧ R b k = none
theorem goZe.mono {n m : Nat} {M : goMI} {L : goML} {R : goMR} (h : goZe n M L R) (hm : n ≤ m) : goZe m M L R := fun b k hb => h b k (Nat.le_trans hm hb)
theorem goZe.wR {n a j : Nat} {x : Option Nat} {M : goMI} {L : goML} {R : goMR} (h : goZe n M L R) (ha : a < n) : goZe n M L (goWR R a j x) := fun b k hb => ⟨(h b k hb).1, (h b k hb).2.1, by rw [goWR_ne (by omega)]; exact (h b k hb).2.2⟩
theorem goZe.wI {n a j : Nat} {x : Int32} {M : goMI} {L : goML} {R : goMR} (h : goZe n M L R) (ha : a < n) : goZe n (goWI M a j x) L R := fun b k hb => ⟨by rw [goWI_ne (by omega)]; exact (h b k hb).1, (h b k hb).2.1, (h b k hb).2.2⟩
theorem goZe.wL {n a j : Nat} {x : Int64} {M : goMI} {L : goML} {R : goMR} (h : goZe n M L R) (ha : a < n) : goZe n M (goWL L a j x) R := fun b k hb => ⟨(h b k hb).1, by rw [goWL_ne (by omega)]; exact (h b k hb).2.1, (h b k hb).2.2⟩
theorem goHp_ext {E : goEv} {G : goG} {M M' : goMI} {L L' : goML} {R R' : goMR} {H : Heap} (h : goHp E G M L R H) (hM : ∀ b, b < G.2 → M' b = M b) (hL : ∀ b, b < G.2 → L' b = L b) (hR : ∀ b, b < G.2 → R' b = R b) : goHp E G M' L' R' H := ⟨h.1, h.2.1, fun b hb => goAt_kept (h.2.2 b hb) rfl (hM b hb) (hL b hb) (hR b hb)⟩
/-- a cell more -/
theorem goHp_push {E : goEv} {G : goG} {s : List (Nat × Nat)} {sh : Nat × Nat} {M : goMI} {L : goML} {R : goMR} {H H' : Heap} (h : goHp E (goGb G s) M L R H) (hz : H'.size = E.2.1 + (goGb G s).2 + 1) (hq : ∀ q, q < E.2.1 + (goGb G s).2 → H'[q]? = H[q]?) (hn : goAt E sh M L R (goGb G s).2 H') (hle : (goGb G s).2 + 1 ≤ 1000000) : goHp E (goGb G (s ++ [sh])) M L R H' := by
  rw [← goGb_app]
  refine ⟨by rw [hz]; show _ = E.2.1 + ((goGb G s).2 + 1); omega, hle, fun b hb => ?_⟩
  have hb : b < (goGb G s).2 + 1 := hb
  show goAt E (if b < (goGb G s).2 then (goGb G s).1 b else [sh].getD (b - (goGb G s).2) (0, 0)) M L R b H'
  by_cases hlt : b < (goGb G s).2
  · rw [if_pos hlt]
    exact goAt_kept (h.2.2 b hlt) (hq _ (by omega)) rfl rfl rfl
  · have : b = (goGb G s).2 := by omega
    subst this
    rw [if_neg hlt, Nat.sub_self]
    exact hn
section goAlloc
variable {E : goEv} {X : goX} {G : goG} {ce sl : Nat} {Q : State → Prop} {pc : Nat} {lv : List (Option Value)} {st : List Value} {M : goMI} {L : goML} {R : goMR} {cc : ByteArray} {own : String} {nL : Nat} {s : List (Nat × Nat)}
theorem goS_push {H H' : Heap} {locs : List Loc} (a1 : goHp E G M L R H) (a2 : va_S (goSet E) X.2.2.2.2.1.heap H locs) (a3 : goLow E H) (hz : H'.size = H.size + 1) (hq : ∀ q, q < H.size → H'[q]? = H[q]?) : va_S (goSet E) X.2.2.2.2.1.heap H' locs ∧ goLow E H' :=
  ⟨⟨by rw [hz]; exact Nat.le_succ_of_le a2.1, fun q h1 h2 => (hq q (Nat.lt_of_lt_of_le h1 a2.1)).trans (a2.2.1 q h1 h2), a2.2.2⟩, fun q h => (hq q (by rw [a1.1]; omega)).trans (a3 q h)⟩
theorem go_newa1 (h : goCx E X cc own nL) {n : Int32} {N F W0 MC MS j : Nat} (hj : s.length = j) (hd : decode cc pc = .ok (.newarray .int, 2)) (hn : n.toNatClampNeg = N) (hn0 : 0 ≤ n) (hN : N ≤ 65536) (hz : goZe (G.2 + j) M L R) (hle : G.2 + j + 1 ≤ 1000000) (hR : X.2.2.2.1 = goRoom F W0 MC MS) (hb : (Nat.ble (ce + 1) MC && Nat.ble (sl + N) MS) = true) (k : goA E X (goGb G (s ++ [(1, N)])) (ce + 1) (sl + N) Q (pc + 2) lv (.ref (G.2 + j) :: st) M L R) : goA E X (goGb G s) ce sl Q pc lv (.int n :: st) M L R := by
  subst hj
  intro H locs ls a1 a2 a3 a4
  simp only [Bool.and_eq_true, Nat.ble_eq] at hb
  have hsz : H.size = E.2.1 + (G.2 + s.length) := a1.1
  refine va_newaK (g := F0 X.2.2.2.2.2.1 pc ls (.int n :: st.map (goCv E))) h.1 h.2.1 (atype := .int) (h.2.2.2.2.1 _ war_int) rfl hd rfl (Int32.not_lt.mpr hn0) hn (Nat.le_trans (Nat.mul_le_mul hN (show componentBytes .int ≤ 8 by decide)) (Nat.le_of_ble_eq_true rfl)) (by rw [hR]; exact hb.1) (by rw [hR]; exact hb.2) (h := E.2.1 + (G.2 + s.length)) hsz (fun H1 cA e1 z1 o1 hAr hNm => ?_)
  have hcA : cA = E.2.2.2.2.1 1 := by
    have h1 : X.2.2.2.2.1.vm.findClass ("[" ++ (FieldType.int).toString) = some (E.2.2.2.2.1 1) := ((goCx_K h).2 0 _ rfl).2
    exact Option.some.inj (hNm.symm.trans h1)
  subst hcA
  obtain ⟨b2, b3⟩ := goS_push a1 a2 a3 (by rw [z1, hsz]) (fun q hq => o1 q (by rw [hsz] at hq; exact hq))
  have b1 : goHp E (goGb G (s ++ [(1, N)])) M L R H1 := goHp_push a1 (by rw [z1]; rfl) (fun q hq => o1 q hq) (by
    show H1[E.2.1 + (G.2 + s.length)]? = some (arrV (E.2.2.2.2.1 1) N _)
    rw [e1]
    congr 2
    funext j
    show defaultValue .int = .int (M (G.2 + s.length) j)
    rw [(hz _ _ (Nat.le_refl _)).1]
    rfl) hle
  have kk := k H1 locs ls b1 b2 b3 a4
  have hA : goAd E (G.2 + s.length) = E.2.1 + (G.2 + s.length) := if_pos (by omega)
  have e2 : List.map (goCv E) (Value.ref (G.2 + s.length) :: st) = Value.ref (E.2.1 + (G.2 + s.length)) :: st.map (goCv E) := by rw [← hA]; rfl
  rw [e2] at kk
  exact kk
theorem go_newa2 (h : goCx E X cc own nL) {n : Int32} {N F W0 MC MS j : Nat} (hj : s.length = j) (hd : decode cc pc = .ok (.newarray .byte, 2)) (hn : n.toNatClampNeg = N) (hn0 : 0 ≤ n) (hN : N ≤ 65536) (hz : goZe (G.2 + j) M L R) (hle : G.2 + j + 1 ≤ 1000000) (hR : X.2.2.2.1 = goRoom F W0 MC MS) (hb : (Nat.ble (ce + 1) MC && Nat.ble (sl + N) MS) = true) (k : goA E X (goGb G (s ++ [(2, N)])) (ce + 1) (sl + N) Q (pc + 2) lv (.ref (G.2 + j) :: st) M L R) : goA E X (goGb G s) ce sl Q pc lv (.int n :: st) M L R := by
  subst hj
  intro H locs ls a1 a2 a3 a4
  simp only [Bool.and_eq_true, Nat.ble_eq] at hb
  have hsz : H.size = E.2.1 + (G.2 + s.length) := a1.1
  refine va_newaK (g := F0 X.2.2.2.2.2.1 pc ls (.int n :: st.map (goCv E))) h.1 h.2.1 (atype := .byte) (h.2.2.2.2.1 _ war_byte) rfl hd rfl (Int32.not_lt.mpr hn0) hn (Nat.le_trans (Nat.mul_le_mul hN (show componentBytes .byte ≤ 8 by decide)) (Nat.le_of_ble_eq_true rfl)) (by rw [hR]; exact hb.1) (by rw [hR]; exact hb.2) (h := E.2.1 + (G.2 + s.length)) hsz (fun H1 cA e1 z1 o1 hAr hNm => ?_)
  have hcA : cA = E.2.2.2.2.1 2 := by
    have h1 : X.2.2.2.2.1.vm.findClass ("[" ++ (FieldType.byte).toString) = some (E.2.2.2.2.1 2) := ((goCx_K h).2 1 _ rfl).2
    exact Option.some.inj (hNm.symm.trans h1)
  subst hcA
  obtain ⟨b2, b3⟩ := goS_push a1 a2 a3 (by rw [z1, hsz]) (fun q hq => o1 q (by rw [hsz] at hq; exact hq))
  have b1 : goHp E (goGb G (s ++ [(2, N)])) M L R H1 := goHp_push a1 (by rw [z1]; rfl) (fun q hq => o1 q hq) (by
    show H1[E.2.1 + (G.2 + s.length)]? = some (arrV (E.2.2.2.2.1 2) N _)
    rw [e1]
    congr 2
    funext j
    show defaultValue .byte = .int (M (G.2 + s.length) j)
    rw [(hz _ _ (Nat.le_refl _)).1]
    rfl) hle
  have kk := k H1 locs ls b1 b2 b3 a4
  have hA : goAd E (G.2 + s.length) = E.2.1 + (G.2 + s.length) := if_pos (by omega)
  have e2 : List.map (goCv E) (Value.ref (G.2 + s.length) :: st) = Value.ref (E.2.1 + (G.2 + s.length)) :: st.map (goCv E) := by rw [← hA]; rfl
  rw [e2] at kk
  exact kk
theorem go_newa3 (h : goCx E X cc own nL) {n : Int32} {N F W0 MC MS j : Nat} (hj : s.length = j) (hd : decode cc pc = .ok (.newarray .boolean, 2)) (hn : n.toNatClampNeg = N) (hn0 : 0 ≤ n) (hN : N ≤ 65536) (hz : goZe (G.2 + j) M L R) (hle : G.2 + j + 1 ≤ 1000000) (hR : X.2.2.2.1 = goRoom F W0 MC MS) (hb : (Nat.ble (ce + 1) MC && Nat.ble (sl + N) MS) = true) (k : goA E X (goGb G (s ++ [(3, N)])) (ce + 1) (sl + N) Q (pc + 2) lv (.ref (G.2 + j) :: st) M L R) : goA E X (goGb G s) ce sl Q pc lv (.int n :: st) M L R := by
  subst hj
  intro H locs ls a1 a2 a3 a4
  simp only [Bool.and_eq_true, Nat.ble_eq] at hb
  have hsz : H.size = E.2.1 + (G.2 + s.length) := a1.1
  refine va_newaK (g := F0 X.2.2.2.2.2.1 pc ls (.int n :: st.map (goCv E))) h.1 h.2.1 (atype := .boolean) (h.2.2.2.2.1 _ war_boolean) rfl hd rfl (Int32.not_lt.mpr hn0) hn (Nat.le_trans (Nat.mul_le_mul hN (show componentBytes .boolean ≤ 8 by decide)) (Nat.le_of_ble_eq_true rfl)) (by rw [hR]; exact hb.1) (by rw [hR]; exact hb.2) (h := E.2.1 + (G.2 + s.length)) hsz (fun H1 cA e1 z1 o1 hAr hNm => ?_)
  have hcA : cA = E.2.2.2.2.1 3 := by
    have h1 : X.2.2.2.2.1.vm.findClass ("[" ++ (FieldType.boolean).toString) = some (E.2.2.2.2.1 3) := ((goCx_K h).2 2 _ rfl).2
    exact Option.some.inj (hNm.symm.trans h1)
  subst hcA
  obtain ⟨b2, b3⟩ := goS_push a1 a2 a3 (by rw [z1, hsz]) (fun q hq => o1 q (by rw [hsz] at hq; exact hq))
  have b1 : goHp E (goGb G (s ++ [(3, N)])) M L R H1 := goHp_push a1 (by rw [z1]; rfl) (fun q hq => o1 q hq) (by
    show H1[E.2.1 + (G.2 + s.length)]? = some (arrV (E.2.2.2.2.1 3) N _)
    rw [e1]
    congr 2
    funext j
    show defaultValue .boolean = .int (M (G.2 + s.length) j)
    rw [(hz _ _ (Nat.le_refl _)).1]
    rfl) hle
  have kk := k H1 locs ls b1 b2 b3 a4
  have hA : goAd E (G.2 + s.length) = E.2.1 + (G.2 + s.length) := if_pos (by omega)
  have e2 : List.map (goCv E) (Value.ref (G.2 + s.length) :: st) = Value.ref (E.2.1 + (G.2 + s.length)) :: st.map (goCv E) := by rw [← hA]; rfl
  rw [e2] at kk
  exact kk
theorem go_newa4 (h : goCx E X cc own nL) {n : Int32} {N F W0 MC MS j : Nat} (hj : s.length = j) (hd : decode cc pc = .ok (.newarray .long, 2)) (hn : n.toNatClampNeg = N) (hn0 : 0 ≤ n) (hN : N ≤ 65536) (hz : goZe (G.2 + j) M L R) (hle : G.2 + j + 1 ≤ 1000000) (hR : X.2.2.2.1 = goRoom F W0 MC MS) (hb : (Nat.ble (ce + 1) MC && Nat.ble (sl + N) MS) = true) (k : goA E X (goGb G (s ++ [(4, N)])) (ce + 1) (sl + N) Q (pc + 2) lv (.ref (G.2 + j) :: st) M L R) : goA E X (goGb G s) ce sl Q pc lv (.int n :: st) M L R := by
  subst hj
  intro H locs ls a1 a2 a3 a4
  simp only [Bool.and_eq_true, Nat.ble_eq] at hb
  have hsz : H.size = E.2.1 + (G.2 + s.length) := a1.1
  refine va_newaK (g := F0 X.2.2.2.2.2.1 pc ls (.int n :: st.map (goCv E))) h.1 h.2.1 (atype := .long) (h.2.2.2.2.1 _ war_long) rfl hd rfl (Int32.not_lt.mpr hn0) hn (Nat.le_trans (Nat.mul_le_mul hN (show componentBytes .long ≤ 8 by decide)) (Nat.le_of_ble_eq_true rfl)) (by rw [hR]; exact hb.1) (by rw [hR]; exact hb.2) (h := E.2.1 + (G.2 + s.length)) hsz (fun H1 cA e1 z1 o1 hAr hNm => ?_)
  have hcA : cA = E.2.2.2.2.1 4 := by
    have h1 : X.2.2.2.2.1.vm.findClass ("[" ++ (FieldType.long).toString) = some (E.2.2.2.2.1 4) := ((goCx_K h).2 3 _ rfl).2
    exact Option.some.inj (hNm.symm.trans h1)
  subst hcA
  obtain ⟨b2, b3⟩ := goS_push a1 a2 a3 (by rw [z1, hsz]) (fun q hq => o1 q (by rw [hsz] at hq; exact hq))
  have b1 : goHp E (goGb G (s ++ [(4, N)])) M L R H1 := goHp_push a1 (by rw [z1]; rfl) (fun q hq => o1 q hq) (by
    show H1[E.2.1 + (G.2 + s.length)]? = some (arrV (E.2.2.2.2.1 4) N _)
    rw [e1]
    congr 2
    funext j
    show defaultValue .long = .long (L (G.2 + s.length) j)
    rw [(hz _ _ (Nat.le_refl _)).2.1]
    rfl) hle
  have kk := k H1 locs ls b1 b2 b3 a4
  have hA : goAd E (G.2 + s.length) = E.2.1 + (G.2 + s.length) := if_pos (by omega)
  have e2 : List.map (goCv E) (Value.ref (G.2 + s.length) :: st) = Value.ref (E.2.1 + (G.2 + s.length)) :: st.map (goCv E) := by rw [← hA]; rfl
  rw [e2] at kk
  exact kk
/-- the fields of an object that is new -/
def goDf (ci k : Nat) : Value := match goK ci k with
  | 0 => .int 0
  | 1 => .long 0
  | _ => .null
theorem go_new (h : goCx E X cc own nL) {idx ci F W0 MC MS j : Nat} {C : String} {T : u_T} {N : Nat} (hj : s.length = j) (hd : decode cc pc = .ok (.new idx, 3)) (hcl : Cond.classLink own idx C ∈ goTb) (hin : Cond.instantiable C N ∈ goTb) (hini : Cond.initialized C ∈ goTb) (hC : goCl ci C T N) (hdf : ∀ ty : Nat → FieldType, (∀ k, k < N → parseFieldDescriptor (T k).2.2.1 = some (ty k)) → ∀ k, k < N → defaultValue (ty k) = goDf ci k) (hz : goZe (G.2 + j) M L R) (hle : G.2 + j + 1 ≤ 1000000) (hR : X.2.2.2.1 = goRoom F W0 MC MS) (hb : (Nat.ble (ce + 1) MC && Nat.ble (sl + N) MS) = true) (k : goA E X (goGb G (s ++ [(0, ci)])) (ce + 1) (sl + N) Q (pc + 3) lv (.ref (G.2 + j) :: st) M L R) : goA E X (goGb G s) ce sl Q pc lv st M L R := by
  subst hj
  intro H locs ls a1 a2 a3 a4
  simp only [Bool.and_eq_true, Nat.ble_eq] at hb
  have hsz : H.size = E.2.1 + (G.2 + s.length) := a1.1
  obtain ⟨hc, hN, hws, ty, hty, hnm⟩ := hC
  have hKn := (goCx_K h).1 ci _ hc
  refine W.newcK (g := F0 X.2.2.2.2.2.1 pc ls (st.map (goCv E))) h.1 h.2.1 h.2.2.2.1 (h.2.2.2.2.1 _ hcl) (h.2.2.2.2.1 _ hin) (h.2.2.2.2.1 _ hini) rfl hd (by rw [hR]; exact hb.1) (by rw [hR]; exact hb.2) hKn.2.1 (h := E.2.1 + (G.2 + s.length)) hsz (fun H1 kC hkC e1 z1 o1 => ?_)
  obtain ⟨b2, b3⟩ := goS_push a1 a2 a3 (by rw [z1, hsz]) (fun q hq => o1 q (by rw [hsz] at hq; exact hq))
  have hborn := u_born (o := E.2.1 + (G.2 + s.length)) (H := H1) ty h.2.2.2.2.1 hws hKn hkC e1 hty
  have b1 : goHp E (goGb G (s ++ [(0, ci)])) M L R H1 := goHp_push a1 (by rw [z1]; rfl) (fun q hq => o1 q hq) (by
    show t_OB (E.2.1 + (G.2 + s.length)) (E.2.2.1 ci) (goN ci) (E.2.2.2.1 ci) H1 _
    rw [hN]
    refine hborn.to (fun j hj => ?_)
    rw [hdf ty hty j hj]
    unfold goDf goV
    have hzj := hz (G.2 + s.length) j (Nat.le_refl _)
    show _ = (match goK ci j with | 0 => Value.int (M (G.2 + s.length) j) | 1 => .long (L (G.2 + s.length) j) | _ => goCv E (va_rf (R (G.2 + s.length) j)))
    rw [hzj.1, hzj.2.1, hzj.2.2]
    rfl) hle
  have kk := k H1 locs ls b1 b2 b3 a4
  have hA : goAd E (G.2 + s.length) = E.2.1 + (G.2 + s.length) := if_pos (by omega)
  have e2 : List.map (goCv E) (Value.ref (G.2 + s.length) :: st) = Value.ref (E.2.1 + (G.2 + s.length)) :: st.map (goCv E) := by rw [← hA]; rfl
  rw [e2] at kk
  exact kk
theorem go_gnil (k : goA E X (goGb G []) ce sl Q pc lv st M L R) : goA E X G ce sl Q pc lv st M L R := fun H locs ls a1 a2 a3 a4 => k H locs ls ⟨a1.1, a1.2.1, fun b hb => by
    have hb : b < G.2 := hb
    show goAt E (if b < G.2 then G.1 b else _) M L R b H
    rw [if_pos hb]; exact a1.2.2 b hb⟩ a2 a3 a4
theorem go_gapp {t : List (Nat × Nat)} (k : goA E X (goGb G (s ++ t)) ce sl Q pc lv st M L R) : goA E X (goGb (goGb G s) t) ce sl Q pc lv st M L R := by rw [goGb_app]; exact k
theorem go_objInit (h : goCx E X cc own nL) {idx a F W0 MC MS : Nat} (hd : decode cc pc = .ok (.invokespecial idx, 3)) (hl : Cond.methodLink own idx objectInit ∈ goTb) (hR : X.2.2.2.1 = goRoom F W0 MC MS) (hb : (Nat.ble 1 F && Nat.ble 20 W0) = true) (hlv : lv.length = nL) (hcat : (st.map Value.category).sum ≤ 8) (k : goA E X G ce sl Q (pc + 3) lv st M L R) : goA E X G ce sl Q pc lv (.ref a :: st) M L R := by
  intro H locs ls a1 a2 a3 a4
  simp only [Bool.and_eq_true, Nat.ble_eq] at hb
  refine W.objInit (g := F0 X.2.2.2.2.2.1 pc ls (.ref (goAd E a) :: st.map (goCv E))) (a := goAd E a) h.1 h.2.1 h.2.2.2.1 (h.2.2.2.2.1 _ hl) (h.2.2.2.2.1 _ wim_objectInit) (h.2.2.2.2.1 _ wco_objectInit) rfl ((a4.1.trans hlv).trans h.2.2.1.symm) rfl hd (by rw [hR]; exact hb.1) ?_ (k H locs ls a1 a2 a3 a4)
  show 2 * 0 + _ + 12 ≤ _
  rw [goCat_map, hR]
  show 2 * 0 + (List.map Value.category st).sum + 12 ≤ W0
  omega
/-- what lies beyond the cells that are is nothing -/
def goClr (M : goMI) (n : Nat) : goMI := fun b k => if b < n then M b k else 0
def goClL (M : goML) (n : Nat) : goML := fun b k => if b < n then M b k else 0
def goClR (M : goMR) (n : Nat) : goMR := fun b k => if b < n then M b k else none
theorem goClr_lt {M : goMI} {n b : Nat} (h : b < n) : goClr M n b = M b := by funext k; simp [goClr, h]
theorem goClL_lt {M : goML} {n b : Nat} (h : b < n) : goClL M n b = M b := by funext k; simp [goClL, h]
theorem goClR_lt {M : goMR} {n b : Nat} (h : b < n) : goClR M n b = M b := by funext k; simp [goClR, h]
theorem goClr_Z {M : goMI} {L : goML} {R : goMR} {n : Nat} : goZe n (goClr M n) (goClL L n) (goClR R n) := fun b k hb => by
  have : ¬ b < n := by omega
  simp [goClr, goClL, goClR, this]
theorem go_clr {M' : goMI} {L' : goML} {R' : goMR} (hM : M' = goClr M G.2) (hL : L' = goClL L G.2) (hR : R' = goClR R G.2) (k : goA E X G ce sl Q pc lv st M' L' R') : goA E X G ce sl Q pc lv st M L R := fun H locs ls a1 a2 a3 a4 => k H locs ls (goHp_ext a1 (fun b hb => by rw [hM]; exact goClr_lt hb) (fun b hb => by rw [hL]; exact goClL_lt hb) (fun b hb => by rw [hR]; exact goClR_lt hb)) a2 a3 a4
end goAlloc
