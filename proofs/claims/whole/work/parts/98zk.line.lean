/-! A LINE in both readers (printed by gen98zi.py) -/
section lines32
variable {e s b st : Nat} {Rc Rm : goMR} {Mc Mm : goMI} {Lc Lm : goML} {T T' : tH}
def nJ (i : Nat) : Nat := [0, 2, 3, 4, 0, 5, 6, 7, 8, 0, 9, 14, 11, 15].getD i 0
def nL (T : tH) (i : Nat) : Nat := if i = 0 then (if T 0 0 = 0 then 0 else 1) else T 0 (nJ i)
/-- the lines told, in the component -/
def lC (st : Nat) (Mc : goMI) (T : tH) : Prop := (∀ i, i < 14 → i ≠ 4 → i ≠ 9 → Mc 71 i = nI (nL T i)) ∧ (∃ x, x ≤ st ∧ Mc 71 4 = nI x) ∧ ∃ x, x ≤ st ∧ Mc 71 9 = nI x
theorem nJ_a : ∀ i, i < 14 → (i = 0 ∨ i = 4 ∨ i = 9 ∨ (nJ i ≠ 0 ∧ 2 ≤ nJ i ∧ nJ i ≠ 10 ∧ nJ i ≠ 12 ∧ nJ i ≠ 13)) := by decide +kernel
theorem nJ_b : ∀ i, i < 14 → ∀ j, j < 14 → (i = 0 ∨ i = 4 ∨ i = 9 ∨ j = 0 ∨ j = 4 ∨ j = 9 ∨ nJ i ≠ nJ j ∨ i = j) := by decide +kernel
theorem nJ_all (i : Nat) (hi : i < 14) (h0 : i ≠ 0) (h4 : i ≠ 4) (h9 : i ≠ 9) : nJ i ≠ 0 ∧ 2 ≤ nJ i ∧ nJ i ≠ 10 ∧ nJ i ≠ 12 ∧ nJ i ≠ 13 ∧ ∀ j, j < 14 → j ≠ 0 → j ≠ 4 → j ≠ 9 → nJ i = nJ j → i = j := by
  have a := nJ_a i hi
  refine ⟨by omega, by omega, by omega, by omega, by omega, fun j hj j0 j4 j9 e => ?_⟩
  have b := nJ_b i hi j hj
  omega
theorem nL_le (h : pO T) {i : Nat} (hi : i < 14) (h4 : i ≠ 4) (h9 : i ≠ 9) : nL T i < 1000 := by
  obtain ⟨⟨a0, a1, a2, a3, a4, a5, a6, a7, a8, a9, a10, a11, a13, a15⟩, p14, _⟩ := h
  have h14 : T 0 14 ≤ 1 := by rw [p14]; split <;> omega
  unfold nL
  split
  · split <;> omega
  · rename_i c
    have hh : i = 1 ∨ i = 2 ∨ i = 3 ∨ i = 5 ∨ i = 6 ∨ i = 7 ∨ i = 8 ∨ i = 10 ∨ i = 11 ∨ i = 12 ∨ i = 13 := by omega
    rcases hh with e | e | e | e | e | e | e | e | e | e | e <;> subst e
    · show T 0 2 < 1000; omega
    · show T 0 3 < 1000; omega
    · show T 0 4 < 1000; omega
    · show T 0 5 < 1000; omega
    · show T 0 6 < 1000; omega
    · show T 0 7 < 1000; omega
    · show T 0 8 < 1000; omega
    · show T 0 9 < 1000; omega
    · show T 0 14 < 1000; omega
    · show T 0 11 < 1000; omega
    · show T 0 15 < 1000; omega
theorem lC_up {gi st' : Nat} {Mc' : goMI} (h : lC st Mc T) (hg : gi < 14) (h0 : gi ≠ 0) (h4 : gi ≠ 4) (h9 : gi ≠ 9) (hst : st ≤ st') (hM : Mc' 71 = goWI Mc 71 gi (nI (nL T gi + 1)) 71) (hT : ∀ j, j ≠ 10 → j ≠ 12 → j ≠ 13 → T' 0 j = if j = nJ gi then T 0 (nJ gi) + 1 else T 0 j) : lC st' Mc' T' := by
  obtain ⟨c1, ⟨x, x1, x2⟩, y, y1, y2⟩ := h
  obtain ⟨g0, g2, g10, g12, g13, gj⟩ := nJ_all gi hg h0 h4 h9
  refine ⟨fun i hi i4 i9 => ?_, ⟨x, by omega, by rw [hM, gWI_nk (fun e => h4 e.symm)]; exact x2⟩, y, by omega, by rw [hM, gWI_nk (fun e => h9 e.symm)]; exact y2⟩
  rw [hM, gWI_self]
  by_cases c : i = gi
  · rw [if_pos c, c]
    unfold nL
    rw [if_neg h0, if_neg h0, hT _ g10 g12 g13, if_pos rfl]
  · rw [if_neg c, c1 i hi i4 i9]
    unfold nL
    by_cases c0 : i = 0
    · rw [if_pos c0, if_pos c0, hT 0 (by decide) (by decide) (by decide), if_neg (show ¬ 0 = nJ gi from fun e => g0 e.symm)]
    · obtain ⟨k0, k2, k10, k12, k13, kj⟩ := nJ_all i hi c0 i4 i9
      rw [if_neg c0, if_neg c0, hT _ k10 k12 k13, if_neg (fun e => c (kj gi hg h0 h4 h9 e))]
theorem lC_any {gi st' x : Nat} {Mc' : goMI} (h : lC st Mc T) (hg : gi = 4 ∨ gi = 9) (hst : st < st') (hx : x ≤ st) (hM : Mc' 71 = goWI Mc 71 gi (nI (x + 1)) 71) (hT : ∀ j, j ≠ 10 → j ≠ 12 → j ≠ 13 → T' 0 j = T 0 j) : lC st' Mc' T' := by
  obtain ⟨c1, ⟨x', x1, x2⟩, y, y1, y2⟩ := h
  have hn : ∀ i, i < 14 → i ≠ 4 → i ≠ 9 → nL T' i = nL T i := by
    intro i hi i4 i9
    unfold nL
    by_cases c0 : i = 0
    · rw [if_pos c0, if_pos c0, hT 0 (by decide) (by decide) (by decide)]
    · obtain ⟨k0, k2, k10, k12, k13, kj⟩ := nJ_all i hi c0 i4 i9
      rw [if_neg c0, if_neg c0, hT _ k10 k12 k13]
  refine ⟨fun i hi i4 i9 => ?_, ?_, ?_⟩
  · rw [hM, gWI_nk (by omega), hn i hi i4 i9]; exact c1 i hi i4 i9
  · rw [hM, gWI_self]
    rcases hg with e | e
    · exact ⟨x + 1, by omega, by rw [if_pos e.symm]⟩
    · exact ⟨x', by omega, by rw [if_neg (by omega)]; exact x2⟩
  · rw [hM, gWI_self]
    rcases hg with e | e
    · exact ⟨y, by omega, by rw [if_neg (by omega)]; exact y2⟩
    · exact ⟨x + 1, by omega, by rw [if_pos e.symm]⟩
theorem lC_hill {st' : Nat} {Mc' : goMI} (h : lC st Mc T) (hst : st ≤ st') (h0 : T 0 0 = 0) (hM : Mc' 71 = goWI Mc 71 0 (nI 1) 71) (h0' : T' 0 0 ≠ 0) (hT : ∀ j, 2 ≤ j → T' 0 j = T 0 j) : lC st' Mc' T' := by
  obtain ⟨c1, ⟨x, x1, x2⟩, y, y1, y2⟩ := h
  refine ⟨fun i hi i4 i9 => ?_, ⟨x, by omega, by rw [hM, gWI_nk (by decide)]; exact x2⟩, y, by omega, by rw [hM, gWI_nk (by decide)]; exact y2⟩
  rw [hM, gWI_self]
  by_cases c0 : i = 0
  · rw [if_pos c0]
    unfold nL
    rw [if_pos c0, if_neg h0']
  · obtain ⟨k0, k2, _⟩ := nJ_all i hi c0 i4 i9
    rw [if_neg c0, c1 i hi i4 i9]
    unfold nL
    rw [if_neg c0, if_neg c0, hT _ k2]
/-- how a line with its head ends -/
def rOutL (e s b st : Nat) (Mc : goMI) (Lc : goML) (Mm : goMI) (Lm : goML) (c : Option (Int32 × goMI × goML)) (m : Option (goMI × goML)) : Prop :=
  (∃ st' Mc' Lc' Mm' Lm' T', st < st' ∧ c = some (1, Mc', Lc') ∧ m = some (Mm', Lm') ∧ rT e st' Mc' Lc' Mm' Lm' ∧ rD s b Mc' Lc' Mm' Lm' T' ∧ lC st' Mc' T' ∧ (Mc' 67 10 = Mc 67 10 ∧ Mm' 102 14 = Mm 102 14) ∧ gFr s b Mc Lc Mm Lm Mc' Lc' Mm' Lm') ∨
  (∃ (f : Int32) (st' : Nat) (Mc' : goMI) (Lc' : goML) (Mm' : goMI) (Lm' : goML), 0 < f ∧ c = some (0, Mc', Lc') ∧ m = some (Mm', Lm') ∧ Mc' 67 10 = f ∧ Mc' 67 11 = nI st' ∧ Mm' 102 9 = 5 ∧ Mm' 102 14 = f ∧ Mm' 102 15 = nI st' ∧ gFr s b Mc Lc Mm Lm Mc' Lc' Mm' Lm')
theorem rOutL_f {c : Option (Int32 × goMI × goML)} {m : Option (goMI × goML)} {f : Int32} {st1 : Nat} (hf : 0 < f) (hc : c = some (0, cF Mc f st1, Lc)) (hm : m = some (mF Mm f st1, Lm)) : rOutL e s b st Mc Lc Mm Lm c m := by
  refine Or.inr ⟨f, st1, _, _, _, _, hf, hc, hm, ?_, ?_, mF_9, ?_, ?_, gFr_f⟩
  · unfold cF; rw [gWI_nk (by decide), gWI_self, if_pos rfl]
  · unfold cF; rw [gWI_self, if_pos rfl]
  · unfold mF; rw [gWI_nk (by decide), gWI_nk (by decide), gWI_self, if_pos rfl]
  · unfold mF; rw [gWI_nk (by decide), gWI_self, if_pos rfl]
theorem rFin {st1 gi : Nat} {x : Int32} {Mc1 Mm1 : goMI} {Lc1 Lm1 : goML} {c : Option (Int32 × goMI × goML)} {m : Option (goMI × goML)} {Q : tH → Prop} (hst : st < st1) (f : rFr (goWI Mc 71 gi x) Lc Mm Lm Mc1 Lc1 Mm1 Lm1) (h : rOut e s b st1 Mc1 Lc1 Mm1 Lm1 c m Q) (hC : ∀ T' Mc' st', st1 ≤ st' → Mc' 71 = goWI Mc 71 gi x 71 → Q T' → lC st' Mc' T') (hs : s = 7 ∨ s = 37) : rOutL e s b st Mc Lc Mm Lm (goB3 c fun x M L => Option.bind (goZr x) fun y => some (y, M, L)) m := by
  have g1 : gFr s b Mc Lc Mm Lm Mc1 Lc1 Mm1 Lm1 := gFr_trans ⟨fun a h1 h2 h3 h4 => goWI_ne (x := x) (k := gi) (a := 71) (by omega), fun j _ => gWI_na (by decide), fun _ _ _ _ => rfl, fun _ _ _ _ => rfl, fun _ _ => rfl, fun _ _ _ => rfl⟩ (gFr_tok f)
  rcases h with ⟨st', Mc', Lc', Mm', Lm', T', r1, r2, r3, r4, r5, r6, r7, r8⟩ | ⟨f', st', Mc', Lc', Mm', Lm', r1, r2, r3, r4, r5, r6, r7, r8, r9⟩
  · refine Or.inl ⟨st', Mc', Lc', Mm', Lm', T', by omega, by rw [r2, gB3]; rfl, r3, r4, r5, hC T' Mc' st' r1 (by rw [r6.1, f.1 71 (by decide)]) r8, ⟨by rw [r6.2.1, f.1 67 (by decide), gWI_na (by decide)], by rw [r6.2.2, f.2.2.2.1 14 (by decide)]⟩, gFr_trans g1 r7⟩
  · exact Or.inr ⟨f', st', Mc', Lc', Mm', Lm', r1, by rw [r2, gB3]; rfl, r3, r4, r5, r6, r7, r8, gFr_trans g1 r9⟩
theorem rL_place (hs : s = 7 ∨ s = 37) (hb : 121 ≤ b) (hRc : goRr Rc 67 7 = s) (hRm : Rm 102 4 = some b) (hL : ∀ i, i < 18 → Lc 73 i = kw i) (h : rT e st Mc Lc Mm Lm) (hD : rD s b Mc Lc Mm Lm T) (hC : lC st Mc T) (c : Mc 1 4 = 1) (hk : kR (Lc 1 7) = 1) : rOutL e s b st Mc Lc Mm Lm (fX9_line 5000 Mc Lc Rc) (fX14_readLine 5000 Mm Lm Rm) := by
  obtain ⟨tw1, tw2⟩ := rT_w h
  obtain ⟨w1, q, q1, q2, q3, q4, _⟩ := tw2 c
  have hres : fX9_reservedHere 5000 Mc Lc = some 1000001 := by rw [rRes hL c, hk]
  have hp := hD.2.2.1
  have m00 : Mm b 0 = nI (T 0 0) := tM_0 hD.1 (by decide)
  have a0 : T 0 0 ≤ 12 := hp.1.1
  have he := h.1.1
  have hse := h.2.1
  have hx1 := nL_le hp (i := 1) (by decide) (by decide) (by decide)
  have x2 : Mc 71 1 = nI (T 0 2) := hC.1 1 (by decide) (by decide) (by decide)
  have hx1' : T 0 2 < 1000 := hx1
  have mcf : Mm b 2 = nI (T 0 2) := tM_0 hD.1 (by decide)
  rw [mLn_place (tw1.mp c) (by rw [← w1]; exact hk), cLn_w (t0 := if T 0 0 = 0 then 0 else 1) (lim := 8) hres rfl (by decide) (by decide) rfl (by decide) (by split <;> decide) (hC.1 0 (by decide) (by decide) (by decide)) h.2.2.1]
  by_cases h0 : T 0 0 = 0
  · rw [if_pos h0, if_pos rfl]
    have m0 : Mm b 0 = 0 := by rw [m00, h0]; rfl
    have z : T 0 2 = 0 := hp.2.2.2.2.2.2.2.2.2.2.2.2.2.2.1 h0 0 (by decide) 2
    have hbeg : fX14_begins 5000 Mm Lm Rm (Mm b 2) 8 = some (mF Mm 6 st, Lm) := mBeg6 hRm h (by rw [mcf, z]; decide) m0
    exact rOutL_f (f := 6) (by decide) rfl (ov_lplace hRm hbeg (mF_b hb (rNm_m hD.2.2.2.1)) mF_9)
  rw [if_neg h0, if_neg (by decide)]
  have m0' : ¬ Mm b 0 = 0 := by rw [m00]; exact fun hh => h0 ((nI_eq (b := 0) (by omega) (by decide)).mp hh)
  by_cases hf : 8 ≤ T 0 2
  · rw [cHd_full (lim := 8) (gi := 1) (x := T 0 2) h.2.2.1 rfl (by decide) rfl (by decide) (by omega) x2 hf]
    have hub : T 0 2 ≤ 8 := hp.1.2.2.1
    have heq : T 0 2 = 8 := by omega
    exact rOutL_f (f := 5) (by decide) rfl (ov_lplace hRm (mBeg5 hb hRm h (by rw [mcf, heq]; rfl)) (mF_b hb (rNm_m hD.2.2.2.1)) mF_9)
  have hlt : T 0 2 < 8 := by omega
  rw [cHd_go (lim := 8) (gi := 1) (x := (T 0 2)) (sw := 2) rfl (by decide) rfl (by decide) (by omega) x2 hlt rfl rfl]
  obtain ⟨st1, Mc1, Lc1, Mm1, Lm1, i1, n1, n1', t1, f1⟩ := rNext (Mc2 := goWI Mc 71 1 (nI ((T 0 2) + 1))) (Lc2 := Lc) (Mm2 := Mm) (Lm2 := Lm) h q1 q2 q3 q4 (goWI_ne (by decide)) (goWI_ne (by decide)) rfl rfl
  have hD1 : rD s b Mc1 Lc1 Mm1 Lm1 T := rD_tok hs hb (rD_w (Mc2 := Mc) (a := 71) hs (by omega) (by decide) (by decide) (by decide) hD) f1
  have hL1 : ∀ i, i < 18 → Lc1 73 i = kw i := fun i hi => by rw [f1.2.1 73 (by decide)]; exact hL i hi
  have hbeg : fX14_begins 5000 Mm Lm Rm (Mm b 2) 8 = some (Mm1, Lm1) := mBeg hRm (by rw [mcf]; exact fun hh => by have := (nI_eq (b := 8) (by omega) (by decide)).mp hh; omega) m0' n1'
  have key := rPlace hs hb hRc hRm hL1 h0 hlt hbeg t1 hD1
  rw [n1, gB2]
  exact rFin i1 f1 key (fun T' Mc' st' h1 h2 hq => lC_up hC (gi := 1) (by decide) (by decide) (by decide) (by decide) (by omega) h2 (fun j j1 j2 j3 => hq j j2)) hs
theorem rL_path (hs : s = 7 ∨ s = 37) (hb : 121 ≤ b) (hRc : goRr Rc 67 7 = s) (hRm : Rm 102 4 = some b) (hL : ∀ i, i < 18 → Lc 73 i = kw i) (h : rT e st Mc Lc Mm Lm) (hD : rD s b Mc Lc Mm Lm T) (hC : lC st Mc T) (c : Mc 1 4 = 1) (hk : kR (Lc 1 7) = 2) : rOutL e s b st Mc Lc Mm Lm (fX9_line 5000 Mc Lc Rc) (fX14_readLine 5000 Mm Lm Rm) := by
  obtain ⟨tw1, tw2⟩ := rT_w h
  obtain ⟨w1, q, q1, q2, q3, q4, _⟩ := tw2 c
  have hres : fX9_reservedHere 5000 Mc Lc = some 1000002 := by rw [rRes hL c, hk]
  have hp := hD.2.2.1
  have m00 : Mm b 0 = nI (T 0 0) := tM_0 hD.1 (by decide)
  have a0 : T 0 0 ≤ 12 := hp.1.1
  have he := h.1.1
  have hse := h.2.1
  have hx1 := nL_le hp (i := 2) (by decide) (by decide) (by decide)
  have x2 : Mc 71 2 = nI (T 0 3) := hC.1 2 (by decide) (by decide) (by decide)
  have hx1' : T 0 3 < 1000 := hx1
  have mcf : Mm b 3 = nI (T 0 3) := tM_0 hD.1 (by decide)
  rw [mLn_path (tw1.mp c) (by rw [← w1]; exact hk), cLn_w (t0 := if T 0 0 = 0 then 0 else 1) (lim := 14) hres rfl (by decide) (by decide) rfl (by decide) (by split <;> decide) (hC.1 0 (by decide) (by decide) (by decide)) h.2.2.1]
  by_cases h0 : T 0 0 = 0
  · rw [if_pos h0, if_pos rfl]
    have m0 : Mm b 0 = 0 := by rw [m00, h0]; rfl
    have z : T 0 3 = 0 := hp.2.2.2.2.2.2.2.2.2.2.2.2.2.2.1 h0 0 (by decide) 3
    have hbeg : fX14_begins 5000 Mm Lm Rm (Mm b 3) 14 = some (mF Mm 6 st, Lm) := mBeg6 hRm h (by rw [mcf, z]; decide) m0
    exact rOutL_f (f := 6) (by decide) rfl (ov_lpath hRm hbeg (mF_b hb (rNm_m hD.2.2.2.1)) mF_9)
  rw [if_neg h0, if_neg (by decide)]
  have m0' : ¬ Mm b 0 = 0 := by rw [m00]; exact fun hh => h0 ((nI_eq (b := 0) (by omega) (by decide)).mp hh)
  by_cases hf : 14 ≤ T 0 3
  · rw [cHd_full (lim := 14) (gi := 2) (x := T 0 3) h.2.2.1 rfl (by decide) rfl (by decide) (by omega) x2 hf]
    have hub : T 0 3 ≤ 14 := hp.1.2.2.2.1
    have heq : T 0 3 = 14 := by omega
    exact rOutL_f (f := 5) (by decide) rfl (ov_lpath hRm (mBeg5 hb hRm h (by rw [mcf, heq]; rfl)) (mF_b hb (rNm_m hD.2.2.2.1)) mF_9)
  have hlt : T 0 3 < 14 := by omega
  rw [cHd_go (lim := 14) (gi := 2) (x := (T 0 3)) (sw := 3) rfl (by decide) rfl (by decide) (by omega) x2 hlt rfl rfl]
  obtain ⟨st1, Mc1, Lc1, Mm1, Lm1, i1, n1, n1', t1, f1⟩ := rNext (Mc2 := goWI Mc 71 2 (nI ((T 0 3) + 1))) (Lc2 := Lc) (Mm2 := Mm) (Lm2 := Lm) h q1 q2 q3 q4 (goWI_ne (by decide)) (goWI_ne (by decide)) rfl rfl
  have hD1 : rD s b Mc1 Lc1 Mm1 Lm1 T := rD_tok hs hb (rD_w (Mc2 := Mc) (a := 71) hs (by omega) (by decide) (by decide) (by decide) hD) f1
  have hL1 : ∀ i, i < 18 → Lc1 73 i = kw i := fun i hi => by rw [f1.2.1 73 (by decide)]; exact hL i hi
  have hbeg : fX14_begins 5000 Mm Lm Rm (Mm b 3) 14 = some (Mm1, Lm1) := mBeg hRm (by rw [mcf]; exact fun hh => by have := (nI_eq (b := 14) (by omega) (by decide)).mp hh; omega) m0' n1'
  have key := rPath hs hb hRc hRm hL1 h0 hlt hbeg t1 hD1
  rw [n1, gB2]
  exact rFin i1 f1 key (fun T' Mc' st' h1 h2 hq => lC_up hC (gi := 2) (by decide) (by decide) (by decide) (by decide) (by omega) h2 (fun j j1 j2 j3 => hq j j2)) hs
theorem rL_person (hs : s = 7 ∨ s = 37) (hb : 121 ≤ b) (hRc : goRr Rc 67 7 = s) (hRm : Rm 102 4 = some b) (hL : ∀ i, i < 18 → Lc 73 i = kw i) (h : rT e st Mc Lc Mm Lm) (hD : rD s b Mc Lc Mm Lm T) (hC : lC st Mc T) (c : Mc 1 4 = 1) (hk : kR (Lc 1 7) = 3) : rOutL e s b st Mc Lc Mm Lm (fX9_line 5000 Mc Lc Rc) (fX14_readLine 5000 Mm Lm Rm) := by
  obtain ⟨tw1, tw2⟩ := rT_w h
  obtain ⟨w1, q, q1, q2, q3, q4, _⟩ := tw2 c
  have hres : fX9_reservedHere 5000 Mc Lc = some 1000003 := by rw [rRes hL c, hk]
  have hp := hD.2.2.1
  have m00 : Mm b 0 = nI (T 0 0) := tM_0 hD.1 (by decide)
  have a0 : T 0 0 ≤ 12 := hp.1.1
  have he := h.1.1
  have hse := h.2.1
  have hx1 := nL_le hp (i := 3) (by decide) (by decide) (by decide)
  have x2 : Mc 71 3 = nI (T 0 4) := hC.1 3 (by decide) (by decide) (by decide)
  have hx1' : T 0 4 < 1000 := hx1
  have mcf : Mm b 4 = nI (T 0 4) := tM_0 hD.1 (by decide)
  rw [mLn_person (tw1.mp c) (by rw [← w1]; exact hk), cLn_w (t0 := if T 0 0 = 0 then 0 else 1) (lim := 4) hres rfl (by decide) (by decide) rfl (by decide) (by split <;> decide) (hC.1 0 (by decide) (by decide) (by decide)) h.2.2.1]
  by_cases h0 : T 0 0 = 0
  · rw [if_pos h0, if_pos rfl]
    have m0 : Mm b 0 = 0 := by rw [m00, h0]; rfl
    have z : T 0 4 = 0 := hp.2.2.2.2.2.2.2.2.2.2.2.2.2.2.1 h0 0 (by decide) 4
    have hbeg : fX14_begins 5000 Mm Lm Rm (Mm b 4) 4 = some (mF Mm 6 st, Lm) := mBeg6 hRm h (by rw [mcf, z]; decide) m0
    exact rOutL_f (f := 6) (by decide) rfl (ov_lperson hRm hbeg (mF_b hb (rNm_m hD.2.2.2.1)) mF_9)
  rw [if_neg h0, if_neg (by decide)]
  have m0' : ¬ Mm b 0 = 0 := by rw [m00]; exact fun hh => h0 ((nI_eq (b := 0) (by omega) (by decide)).mp hh)
  by_cases hf : 4 ≤ T 0 4
  · rw [cHd_full (lim := 4) (gi := 3) (x := T 0 4) h.2.2.1 rfl (by decide) rfl (by decide) (by omega) x2 hf]
    have hub : T 0 4 ≤ 4 := hp.1.2.2.2.2.1
    have heq : T 0 4 = 4 := by omega
    exact rOutL_f (f := 5) (by decide) rfl (ov_lperson hRm (mBeg5 hb hRm h (by rw [mcf, heq]; rfl)) (mF_b hb (rNm_m hD.2.2.2.1)) mF_9)
  have hlt : T 0 4 < 4 := by omega
  rw [cHd_go (lim := 4) (gi := 3) (x := (T 0 4)) (sw := 4) rfl (by decide) rfl (by decide) (by omega) x2 hlt rfl rfl]
  obtain ⟨st1, Mc1, Lc1, Mm1, Lm1, i1, n1, n1', t1, f1⟩ := rNext (Mc2 := goWI Mc 71 3 (nI ((T 0 4) + 1))) (Lc2 := Lc) (Mm2 := Mm) (Lm2 := Lm) h q1 q2 q3 q4 (goWI_ne (by decide)) (goWI_ne (by decide)) rfl rfl
  have hD1 : rD s b Mc1 Lc1 Mm1 Lm1 T := rD_tok hs hb (rD_w (Mc2 := Mc) (a := 71) hs (by omega) (by decide) (by decide) (by decide) hD) f1
  have hL1 : ∀ i, i < 18 → Lc1 73 i = kw i := fun i hi => by rw [f1.2.1 73 (by decide)]; exact hL i hi
  have hbeg : fX14_begins 5000 Mm Lm Rm (Mm b 4) 4 = some (Mm1, Lm1) := mBeg hRm (by rw [mcf]; exact fun hh => by have := (nI_eq (b := 4) (by omega) (by decide)).mp hh; omega) m0' n1'
  have key := rPerson hs hb hRc hRm hL1 h0 hlt hbeg t1 hD1
  rw [n1, gB2]
  exact rFin i1 f1 key (fun T' Mc' st' h1 h2 hq => lC_up hC (gi := 3) (by decide) (by decide) (by decide) (by decide) (by omega) h2 (fun j j1 j2 j3 => hq j j2)) hs
theorem rL_story (hs : s = 7 ∨ s = 37) (hb : 121 ≤ b) (hRc : goRr Rc 67 7 = s) (hRm : Rm 102 4 = some b) (hL : ∀ i, i < 18 → Lc 73 i = kw i) (h : rT e st Mc Lc Mm Lm) (hD : rD s b Mc Lc Mm Lm T) (hC : lC st Mc T) (c : Mc 1 4 = 1) (hk : kR (Lc 1 7) = 4) : rOutL e s b st Mc Lc Mm Lm (fX9_line 5000 Mc Lc Rc) (fX14_readLine 5000 Mm Lm Rm) := by
  obtain ⟨tw1, tw2⟩ := rT_w h
  obtain ⟨w1, q, q1, q2, q3, q4, _⟩ := tw2 c
  have hres : fX9_reservedHere 5000 Mc Lc = some 1000004 := by rw [rRes hL c, hk]
  have hp := hD.2.2.1
  have m00 : Mm b 0 = nI (T 0 0) := tM_0 hD.1 (by decide)
  have a0 : T 0 0 ≤ 12 := hp.1.1
  have he := h.1.1
  have hse := h.2.1
  obtain ⟨x, x1, x2⟩ := hC.2.1
  rw [mLn_story (tw1.mp c) (by rw [← w1]; exact hk), cLn_w (t0 := if T 0 0 = 0 then 0 else 1) (lim := 1200) hres rfl (by decide) (by decide) rfl (by decide) (by split <;> decide) (hC.1 0 (by decide) (by decide) (by decide)) h.2.2.1]
  by_cases h0 : T 0 0 = 0
  · rw [if_pos h0, if_pos rfl]
    have m0 : Mm b 0 = 0 := by rw [m00, h0]; rfl
    have hbeg : fX14_begins 5000 Mm Lm Rm 0 1 = some (mF Mm 6 st, Lm) := mBeg6 hRm h (by decide) m0
    exact rOutL_f (f := 6) (by decide) rfl (ov_lstory hRm hbeg (mF_b hb (rNm_m hD.2.2.2.1)) mF_9)
  rw [if_neg h0, if_neg (by decide)]
  have m0' : ¬ Mm b 0 = 0 := by rw [m00]; exact fun hh => h0 ((nI_eq (b := 0) (by omega) (by decide)).mp hh)
  have hlt : x < 1200 := by omega
  rw [cHd_go (lim := 1200) (gi := 4) (x := x) (sw := 5) rfl (by decide) rfl (by decide) (by omega) x2 hlt rfl rfl]
  obtain ⟨st1, Mc1, Lc1, Mm1, Lm1, i1, n1, n1', t1, f1⟩ := rNext (Mc2 := goWI Mc 71 4 (nI (x + 1))) (Lc2 := Lc) (Mm2 := Mm) (Lm2 := Lm) h q1 q2 q3 q4 (goWI_ne (by decide)) (goWI_ne (by decide)) rfl rfl
  have hD1 : rD s b Mc1 Lc1 Mm1 Lm1 T := rD_tok hs hb (rD_w (Mc2 := Mc) (a := 71) hs (by omega) (by decide) (by decide) (by decide) hD) f1
  have hL1 : ∀ i, i < 18 → Lc1 73 i = kw i := fun i hi => by rw [f1.2.1 73 (by decide)]; exact hL i hi
  have hbeg : fX14_begins 5000 Mm Lm Rm 0 1 = some (Mm1, Lm1) := mBeg hRm (by decide) m0' n1'
  have key := rStory hs hb hRc hRm hL1 h0 hbeg t1 hD1
  rw [n1, gB2]
  exact rFin i1 f1 key (fun T' Mc' st' h1 h2 hq => lC_any hC (Or.inl rfl) (by omega) x1 h2 (fun j h1 h2 h3 => hq j h2)) hs
theorem rL_goat (hs : s = 7 ∨ s = 37) (hb : 121 ≤ b) (hRc : goRr Rc 67 7 = s) (hRm : Rm 102 4 = some b) (hL : ∀ i, i < 18 → Lc 73 i = kw i) (h : rT e st Mc Lc Mm Lm) (hD : rD s b Mc Lc Mm Lm T) (hC : lC st Mc T) (c : Mc 1 4 = 1) (hk : kR (Lc 1 7) = 5) : rOutL e s b st Mc Lc Mm Lm (fX9_line 5000 Mc Lc Rc) (fX14_readLine 5000 Mm Lm Rm) := by
  obtain ⟨tw1, tw2⟩ := rT_w h
  obtain ⟨w1, q, q1, q2, q3, q4, _⟩ := tw2 c
  have hres : fX9_reservedHere 5000 Mc Lc = some 1000005 := by rw [rRes hL c, hk]
  have hp := hD.2.2.1
  have m00 : Mm b 0 = nI (T 0 0) := tM_0 hD.1 (by decide)
  have a0 : T 0 0 ≤ 12 := hp.1.1
  have he := h.1.1
  have hse := h.2.1
  have hx1 := nL_le hp (i := 5) (by decide) (by decide) (by decide)
  have x2 : Mc 71 5 = nI (T 0 5) := hC.1 5 (by decide) (by decide) (by decide)
  have hx1' : T 0 5 < 1000 := hx1
  have mcf : Mm b 5 = nI (T 0 5) := tM_0 hD.1 (by decide)
  rw [mLn_goat (tw1.mp c) (by rw [← w1]; exact hk), cLn_w (t0 := if T 0 0 = 0 then 0 else 1) (lim := 6) hres rfl (by decide) (by decide) rfl (by decide) (by split <;> decide) (hC.1 0 (by decide) (by decide) (by decide)) h.2.2.1]
  by_cases h0 : T 0 0 = 0
  · rw [if_pos h0, if_pos rfl]
    have m0 : Mm b 0 = 0 := by rw [m00, h0]; rfl
    have z : T 0 5 = 0 := hp.2.2.2.2.2.2.2.2.2.2.2.2.2.2.1 h0 0 (by decide) 5
    have hbeg : fX14_begins 5000 Mm Lm Rm (Mm b 5) 6 = some (mF Mm 6 st, Lm) := mBeg6 hRm h (by rw [mcf, z]; decide) m0
    exact rOutL_f (f := 6) (by decide) rfl (ov_lgoat hRm hbeg (mF_b hb (rNm_m hD.2.2.2.1)) mF_9)
  rw [if_neg h0, if_neg (by decide)]
  have m0' : ¬ Mm b 0 = 0 := by rw [m00]; exact fun hh => h0 ((nI_eq (b := 0) (by omega) (by decide)).mp hh)
  by_cases hf : 6 ≤ T 0 5
  · rw [cHd_full (lim := 6) (gi := 5) (x := T 0 5) h.2.2.1 rfl (by decide) rfl (by decide) (by omega) x2 hf]
    have hub : T 0 5 ≤ 6 := hp.1.2.2.2.2.2.1
    have heq : T 0 5 = 6 := by omega
    exact rOutL_f (f := 5) (by decide) rfl (ov_lgoat hRm (mBeg5 hb hRm h (by rw [mcf, heq]; rfl)) (mF_b hb (rNm_m hD.2.2.2.1)) mF_9)
  have hlt : T 0 5 < 6 := by omega
  rw [cHd_go (lim := 6) (gi := 5) (x := (T 0 5)) (sw := 6) rfl (by decide) rfl (by decide) (by omega) x2 hlt rfl rfl]
  obtain ⟨st1, Mc1, Lc1, Mm1, Lm1, i1, n1, n1', t1, f1⟩ := rNext (Mc2 := goWI Mc 71 5 (nI ((T 0 5) + 1))) (Lc2 := Lc) (Mm2 := Mm) (Lm2 := Lm) h q1 q2 q3 q4 (goWI_ne (by decide)) (goWI_ne (by decide)) rfl rfl
  have hD1 : rD s b Mc1 Lc1 Mm1 Lm1 T := rD_tok hs hb (rD_w (Mc2 := Mc) (a := 71) hs (by omega) (by decide) (by decide) (by decide) hD) f1
  have hL1 : ∀ i, i < 18 → Lc1 73 i = kw i := fun i hi => by rw [f1.2.1 73 (by decide)]; exact hL i hi
  have hbeg : fX14_begins 5000 Mm Lm Rm (Mm b 5) 6 = some (Mm1, Lm1) := mBeg hRm (by rw [mcf]; exact fun hh => by have := (nI_eq (b := 6) (by omega) (by decide)).mp hh; omega) m0' n1'
  have key := rGoat hs hb hRc hRm hL1 h0 hlt hbeg t1 hD1
  rw [n1, gB2]
  exact rFin i1 f1 key (fun T' Mc' st' h1 h2 hq => lC_up hC (gi := 5) (by decide) (by decide) (by decide) (by decide) (by omega) h2 (fun j j1 j2 j3 => hq j j2)) hs
theorem rL_fears (hs : s = 7 ∨ s = 37) (hb : 121 ≤ b) (hRc : goRr Rc 67 7 = s) (hRm : Rm 102 4 = some b) (hL : ∀ i, i < 18 → Lc 73 i = kw i) (h : rT e st Mc Lc Mm Lm) (hD : rD s b Mc Lc Mm Lm T) (hC : lC st Mc T) (c : Mc 1 4 = 1) (hk : kR (Lc 1 7) = 6) : rOutL e s b st Mc Lc Mm Lm (fX9_line 5000 Mc Lc Rc) (fX14_readLine 5000 Mm Lm Rm) := by
  obtain ⟨tw1, tw2⟩ := rT_w h
  obtain ⟨w1, q, q1, q2, q3, q4, _⟩ := tw2 c
  have hres : fX9_reservedHere 5000 Mc Lc = some 1000006 := by rw [rRes hL c, hk]
  have hp := hD.2.2.1
  have m00 : Mm b 0 = nI (T 0 0) := tM_0 hD.1 (by decide)
  have a0 : T 0 0 ≤ 12 := hp.1.1
  have he := h.1.1
  have hse := h.2.1
  have hx1 := nL_le hp (i := 6) (by decide) (by decide) (by decide)
  have x2 : Mc 71 6 = nI (T 0 6) := hC.1 6 (by decide) (by decide) (by decide)
  have hx1' : T 0 6 < 1000 := hx1
  have mcf : Mm b 6 = nI (T 0 6) := tM_0 hD.1 (by decide)
  rw [mLn_fears (tw1.mp c) (by rw [← w1]; exact hk), cLn_w (t0 := if T 0 0 = 0 then 0 else 1) (lim := 8) hres rfl (by decide) (by decide) rfl (by decide) (by split <;> decide) (hC.1 0 (by decide) (by decide) (by decide)) h.2.2.1]
  by_cases h0 : T 0 0 = 0
  · rw [if_pos h0, if_pos rfl]
    have m0 : Mm b 0 = 0 := by rw [m00, h0]; rfl
    have z : T 0 6 = 0 := hp.2.2.2.2.2.2.2.2.2.2.2.2.2.2.1 h0 0 (by decide) 6
    have hbeg : fX14_begins 5000 Mm Lm Rm (Mm b 6) 8 = some (mF Mm 6 st, Lm) := mBeg6 hRm h (by rw [mcf, z]; decide) m0
    exact rOutL_f (f := 6) (by decide) rfl (ov_lfears hRm hbeg (mF_b hb (rNm_m hD.2.2.2.1)) mF_9)
  rw [if_neg h0, if_neg (by decide)]
  have m0' : ¬ Mm b 0 = 0 := by rw [m00]; exact fun hh => h0 ((nI_eq (b := 0) (by omega) (by decide)).mp hh)
  by_cases hf : 8 ≤ T 0 6
  · rw [cHd_full (lim := 8) (gi := 6) (x := T 0 6) h.2.2.1 rfl (by decide) rfl (by decide) (by omega) x2 hf]
    have hub : T 0 6 ≤ 8 := hp.1.2.2.2.2.2.2.1
    have heq : T 0 6 = 8 := by omega
    exact rOutL_f (f := 5) (by decide) rfl (ov_lfears hRm (mBeg5 hb hRm h (by rw [mcf, heq]; rfl)) (mF_b hb (rNm_m hD.2.2.2.1)) mF_9)
  have hlt : T 0 6 < 8 := by omega
  rw [cHd_go (lim := 8) (gi := 6) (x := (T 0 6)) (sw := 7) rfl (by decide) rfl (by decide) (by omega) x2 hlt rfl rfl]
  obtain ⟨st1, Mc1, Lc1, Mm1, Lm1, i1, n1, n1', t1, f1⟩ := rNext (Mc2 := goWI Mc 71 6 (nI ((T 0 6) + 1))) (Lc2 := Lc) (Mm2 := Mm) (Lm2 := Lm) h q1 q2 q3 q4 (goWI_ne (by decide)) (goWI_ne (by decide)) rfl rfl
  have hD1 : rD s b Mc1 Lc1 Mm1 Lm1 T := rD_tok hs hb (rD_w (Mc2 := Mc) (a := 71) hs (by omega) (by decide) (by decide) (by decide) hD) f1
  have hL1 : ∀ i, i < 18 → Lc1 73 i = kw i := fun i hi => by rw [f1.2.1 73 (by decide)]; exact hL i hi
  have hbeg : fX14_begins 5000 Mm Lm Rm (Mm b 6) 8 = some (Mm1, Lm1) := mBeg hRm (by rw [mcf]; exact fun hh => by have := (nI_eq (b := 8) (by omega) (by decide)).mp hh; omega) m0' n1'
  have key := rFear hs hb hRc hRm hL1 h0 hlt hbeg t1 hD1
  rw [n1, gB2]
  exact rFin i1 f1 key (fun T' Mc' st' h1 h2 hq => lC_up hC (gi := 6) (by decide) (by decide) (by decide) (by decide) (by omega) h2 (fun j j1 j2 j3 => hq j j2)) hs
theorem rL_found (hs : s = 7 ∨ s = 37) (hb : 121 ≤ b) (hRc : goRr Rc 67 7 = s) (hRm : Rm 102 4 = some b) (hL : ∀ i, i < 18 → Lc 73 i = kw i) (h : rT e st Mc Lc Mm Lm) (hD : rD s b Mc Lc Mm Lm T) (hC : lC st Mc T) (c : Mc 1 4 = 1) (hk : kR (Lc 1 7) = 7) : rOutL e s b st Mc Lc Mm Lm (fX9_line 5000 Mc Lc Rc) (fX14_readLine 5000 Mm Lm Rm) := by
  obtain ⟨tw1, tw2⟩ := rT_w h
  obtain ⟨w1, q, q1, q2, q3, q4, _⟩ := tw2 c
  have hres : fX9_reservedHere 5000 Mc Lc = some 1000007 := by rw [rRes hL c, hk]
  have hp := hD.2.2.1
  have m00 : Mm b 0 = nI (T 0 0) := tM_0 hD.1 (by decide)
  have a0 : T 0 0 ≤ 12 := hp.1.1
  have he := h.1.1
  have hse := h.2.1
  have hx1 := nL_le hp (i := 7) (by decide) (by decide) (by decide)
  have x2 : Mc 71 7 = nI (T 0 7) := hC.1 7 (by decide) (by decide) (by decide)
  have hx1' : T 0 7 < 1000 := hx1
  have mcf : Mm b 7 = nI (T 0 7) := tM_0 hD.1 (by decide)
  rw [mLn_found (tw1.mp c) (by rw [← w1]; exact hk), cLn_w (t0 := if T 0 0 = 0 then 0 else 1) (lim := 10) hres rfl (by decide) (by decide) rfl (by decide) (by split <;> decide) (hC.1 0 (by decide) (by decide) (by decide)) h.2.2.1]
  by_cases h0 : T 0 0 = 0
  · rw [if_pos h0, if_pos rfl]
    have m0 : Mm b 0 = 0 := by rw [m00, h0]; rfl
    have z : T 0 7 = 0 := hp.2.2.2.2.2.2.2.2.2.2.2.2.2.2.1 h0 0 (by decide) 7
    have hbeg : fX14_begins 5000 Mm Lm Rm (Mm b 7) 10 = some (mF Mm 6 st, Lm) := mBeg6 hRm h (by rw [mcf, z]; decide) m0
    exact rOutL_f (f := 6) (by decide) rfl (ov_lfound hRm hbeg (mF_b hb (rNm_m hD.2.2.2.1)) mF_9)
  rw [if_neg h0, if_neg (by decide)]
  have m0' : ¬ Mm b 0 = 0 := by rw [m00]; exact fun hh => h0 ((nI_eq (b := 0) (by omega) (by decide)).mp hh)
  by_cases hf : 10 ≤ T 0 7
  · rw [cHd_full (lim := 10) (gi := 7) (x := T 0 7) h.2.2.1 rfl (by decide) rfl (by decide) (by omega) x2 hf]
    have hub : T 0 7 ≤ 10 := hp.1.2.2.2.2.2.2.2.1
    have heq : T 0 7 = 10 := by omega
    exact rOutL_f (f := 5) (by decide) rfl (ov_lfound hRm (mBeg5 hb hRm h (by rw [mcf, heq]; rfl)) (mF_b hb (rNm_m hD.2.2.2.1)) mF_9)
  have hlt : T 0 7 < 10 := by omega
  rw [cHd_go (lim := 10) (gi := 7) (x := (T 0 7)) (sw := 8) rfl (by decide) rfl (by decide) (by omega) x2 hlt rfl rfl]
  obtain ⟨st1, Mc1, Lc1, Mm1, Lm1, i1, n1, n1', t1, f1⟩ := rNext (Mc2 := goWI Mc 71 7 (nI ((T 0 7) + 1))) (Lc2 := Lc) (Mm2 := Mm) (Lm2 := Lm) h q1 q2 q3 q4 (goWI_ne (by decide)) (goWI_ne (by decide)) rfl rfl
  have hD1 : rD s b Mc1 Lc1 Mm1 Lm1 T := rD_tok hs hb (rD_w (Mc2 := Mc) (a := 71) hs (by omega) (by decide) (by decide) (by decide) hD) f1
  have hL1 : ∀ i, i < 18 → Lc1 73 i = kw i := fun i hi => by rw [f1.2.1 73 (by decide)]; exact hL i hi
  have hbeg : fX14_begins 5000 Mm Lm Rm (Mm b 7) 10 = some (Mm1, Lm1) := mBeg hRm (by rw [mcf]; exact fun hh => by have := (nI_eq (b := 10) (by omega) (by decide)).mp hh; omega) m0' n1'
  have key := rFound hs hb hRc hRm hL1 h0 hlt hbeg t1 hD1
  rw [n1, gB2]
  exact rFin i1 f1 key (fun T' Mc' st' h1 h2 hq => lC_up hC (gi := 7) (by decide) (by decide) (by decide) (by decide) (by omega) h2 (fun j j1 j2 j3 => hq j j2)) hs
theorem rL_seen (hs : s = 7 ∨ s = 37) (hb : 121 ≤ b) (hRc : goRr Rc 67 7 = s) (hRm : Rm 102 4 = some b) (hL : ∀ i, i < 18 → Lc 73 i = kw i) (h : rT e st Mc Lc Mm Lm) (hD : rD s b Mc Lc Mm Lm T) (hC : lC st Mc T) (c : Mc 1 4 = 1) (hk : kR (Lc 1 7) = 8) : rOutL e s b st Mc Lc Mm Lm (fX9_line 5000 Mc Lc Rc) (fX14_readLine 5000 Mm Lm Rm) := by
  obtain ⟨tw1, tw2⟩ := rT_w h
  obtain ⟨w1, q, q1, q2, q3, q4, _⟩ := tw2 c
  have hres : fX9_reservedHere 5000 Mc Lc = some 1000008 := by rw [rRes hL c, hk]
  have hp := hD.2.2.1
  have m00 : Mm b 0 = nI (T 0 0) := tM_0 hD.1 (by decide)
  have a0 : T 0 0 ≤ 12 := hp.1.1
  have he := h.1.1
  have hse := h.2.1
  have hx1 := nL_le hp (i := 7) (by decide) (by decide) (by decide)
  have x2 : Mc 71 7 = nI (T 0 7) := hC.1 7 (by decide) (by decide) (by decide)
  have hx1' : T 0 7 < 1000 := hx1
  have mcf : Mm b 7 = nI (T 0 7) := tM_0 hD.1 (by decide)
  rw [mLn_seen (tw1.mp c) (by rw [← w1]; exact hk), cLn_w (t0 := if T 0 0 = 0 then 0 else 1) (lim := 10) hres rfl (by decide) (by decide) rfl (by decide) (by split <;> decide) (hC.1 0 (by decide) (by decide) (by decide)) h.2.2.1]
  by_cases h0 : T 0 0 = 0
  · rw [if_pos h0, if_pos rfl]
    have m0 : Mm b 0 = 0 := by rw [m00, h0]; rfl
    have z : T 0 7 = 0 := hp.2.2.2.2.2.2.2.2.2.2.2.2.2.2.1 h0 0 (by decide) 7
    have hbeg : fX14_begins 5000 Mm Lm Rm (Mm b 7) 10 = some (mF Mm 6 st, Lm) := mBeg6 hRm h (by rw [mcf, z]; decide) m0
    exact rOutL_f (f := 6) (by decide) rfl (ov_lseen hRm hbeg (mF_b hb (rNm_m hD.2.2.2.1)) mF_9)
  rw [if_neg h0, if_neg (by decide)]
  have m0' : ¬ Mm b 0 = 0 := by rw [m00]; exact fun hh => h0 ((nI_eq (b := 0) (by omega) (by decide)).mp hh)
  by_cases hf : 10 ≤ T 0 7
  · rw [cHd_full (lim := 10) (gi := 7) (x := T 0 7) h.2.2.1 rfl (by decide) rfl (by decide) (by omega) x2 hf]
    have hub : T 0 7 ≤ 10 := hp.1.2.2.2.2.2.2.2.1
    have heq : T 0 7 = 10 := by omega
    exact rOutL_f (f := 5) (by decide) rfl (ov_lseen hRm (mBeg5 hb hRm h (by rw [mcf, heq]; rfl)) (mF_b hb (rNm_m hD.2.2.2.1)) mF_9)
  have hlt : T 0 7 < 10 := by omega
  rw [cHd_go (lim := 10) (gi := 7) (x := (T 0 7)) (sw := 9) rfl (by decide) rfl (by decide) (by omega) x2 hlt rfl rfl]
  obtain ⟨st1, Mc1, Lc1, Mm1, Lm1, i1, n1, n1', t1, f1⟩ := rNext (Mc2 := goWI Mc 71 7 (nI ((T 0 7) + 1))) (Lc2 := Lc) (Mm2 := Mm) (Lm2 := Lm) h q1 q2 q3 q4 (goWI_ne (by decide)) (goWI_ne (by decide)) rfl rfl
  have hD1 : rD s b Mc1 Lc1 Mm1 Lm1 T := rD_tok hs hb (rD_w (Mc2 := Mc) (a := 71) hs (by omega) (by decide) (by decide) (by decide) hD) f1
  have hL1 : ∀ i, i < 18 → Lc1 73 i = kw i := fun i hi => by rw [f1.2.1 73 (by decide)]; exact hL i hi
  have hbeg : fX14_begins 5000 Mm Lm Rm (Mm b 7) 10 = some (Mm1, Lm1) := mBeg hRm (by rw [mcf]; exact fun hh => by have := (nI_eq (b := 10) (by omega) (by decide)).mp hh; omega) m0' n1'
  have key := rSeen (v := 1) (by decide) (by decide) hs hb hRc hRm hL1 h0 hlt hbeg t1 hD1
  rw [n1, gB2]
  exact rFin i1 f1 key (fun T' Mc' st' h1 h2 hq => lC_up hC (gi := 7) (by decide) (by decide) (by decide) (by decide) (by omega) h2 (fun j j1 j2 j3 => hq j j2)) hs
theorem rL_shied (hs : s = 7 ∨ s = 37) (hb : 121 ≤ b) (hRc : goRr Rc 67 7 = s) (hRm : Rm 102 4 = some b) (hL : ∀ i, i < 18 → Lc 73 i = kw i) (h : rT e st Mc Lc Mm Lm) (hD : rD s b Mc Lc Mm Lm T) (hC : lC st Mc T) (c : Mc 1 4 = 1) (hk : kR (Lc 1 7) = 9) : rOutL e s b st Mc Lc Mm Lm (fX9_line 5000 Mc Lc Rc) (fX14_readLine 5000 Mm Lm Rm) := by
  obtain ⟨tw1, tw2⟩ := rT_w h
  obtain ⟨w1, q, q1, q2, q3, q4, _⟩ := tw2 c
  have hres : fX9_reservedHere 5000 Mc Lc = some 1000009 := by rw [rRes hL c, hk]
  have hp := hD.2.2.1
  have m00 : Mm b 0 = nI (T 0 0) := tM_0 hD.1 (by decide)
  have a0 : T 0 0 ≤ 12 := hp.1.1
  have he := h.1.1
  have hse := h.2.1
  have hx1 := nL_le hp (i := 7) (by decide) (by decide) (by decide)
  have x2 : Mc 71 7 = nI (T 0 7) := hC.1 7 (by decide) (by decide) (by decide)
  have hx1' : T 0 7 < 1000 := hx1
  have mcf : Mm b 7 = nI (T 0 7) := tM_0 hD.1 (by decide)
  rw [mLn_shied (tw1.mp c) (by rw [← w1]; exact hk), cLn_w (t0 := if T 0 0 = 0 then 0 else 1) (lim := 10) hres rfl (by decide) (by decide) rfl (by decide) (by split <;> decide) (hC.1 0 (by decide) (by decide) (by decide)) h.2.2.1]
  by_cases h0 : T 0 0 = 0
  · rw [if_pos h0, if_pos rfl]
    have m0 : Mm b 0 = 0 := by rw [m00, h0]; rfl
    have z : T 0 7 = 0 := hp.2.2.2.2.2.2.2.2.2.2.2.2.2.2.1 h0 0 (by decide) 7
    have hbeg : fX14_begins 5000 Mm Lm Rm (Mm b 7) 10 = some (mF Mm 6 st, Lm) := mBeg6 hRm h (by rw [mcf, z]; decide) m0
    exact rOutL_f (f := 6) (by decide) rfl (ov_lshied hRm hbeg (mF_b hb (rNm_m hD.2.2.2.1)) mF_9)
  rw [if_neg h0, if_neg (by decide)]
  have m0' : ¬ Mm b 0 = 0 := by rw [m00]; exact fun hh => h0 ((nI_eq (b := 0) (by omega) (by decide)).mp hh)
  by_cases hf : 10 ≤ T 0 7
  · rw [cHd_full (lim := 10) (gi := 7) (x := T 0 7) h.2.2.1 rfl (by decide) rfl (by decide) (by omega) x2 hf]
    have hub : T 0 7 ≤ 10 := hp.1.2.2.2.2.2.2.2.1
    have heq : T 0 7 = 10 := by omega
    exact rOutL_f (f := 5) (by decide) rfl (ov_lshied hRm (mBeg5 hb hRm h (by rw [mcf, heq]; rfl)) (mF_b hb (rNm_m hD.2.2.2.1)) mF_9)
  have hlt : T 0 7 < 10 := by omega
  rw [cHd_go (lim := 10) (gi := 7) (x := (T 0 7)) (sw := 10) rfl (by decide) rfl (by decide) (by omega) x2 hlt rfl rfl]
  obtain ⟨st1, Mc1, Lc1, Mm1, Lm1, i1, n1, n1', t1, f1⟩ := rNext (Mc2 := goWI Mc 71 7 (nI ((T 0 7) + 1))) (Lc2 := Lc) (Mm2 := Mm) (Lm2 := Lm) h q1 q2 q3 q4 (goWI_ne (by decide)) (goWI_ne (by decide)) rfl rfl
  have hD1 : rD s b Mc1 Lc1 Mm1 Lm1 T := rD_tok hs hb (rD_w (Mc2 := Mc) (a := 71) hs (by omega) (by decide) (by decide) (by decide) hD) f1
  have hL1 : ∀ i, i < 18 → Lc1 73 i = kw i := fun i hi => by rw [f1.2.1 73 (by decide)]; exact hL i hi
  have hbeg : fX14_begins 5000 Mm Lm Rm (Mm b 7) 10 = some (Mm1, Lm1) := mBeg hRm (by rw [mcf]; exact fun hh => by have := (nI_eq (b := 10) (by omega) (by decide)).mp hh; omega) m0' n1'
  have key := rSeen (v := 2) (by decide) (by decide) hs hb hRc hRm hL1 h0 hlt hbeg t1 hD1
  rw [n1, gB2]
  exact rFin i1 f1 key (fun T' Mc' st' h1 h2 hq => lC_up hC (gi := 7) (by decide) (by decide) (by decide) (by decide) (by omega) h2 (fun j j1 j2 j3 => hq j j2)) hs
theorem rL_fact (hs : s = 7 ∨ s = 37) (hb : 121 ≤ b) (hRc : goRr Rc 67 7 = s) (hRm : Rm 102 4 = some b) (hL : ∀ i, i < 18 → Lc 73 i = kw i) (h : rT e st Mc Lc Mm Lm) (hD : rD s b Mc Lc Mm Lm T) (hC : lC st Mc T) (c : Mc 1 4 = 1) (hk : kR (Lc 1 7) = 10) : rOutL e s b st Mc Lc Mm Lm (fX9_line 5000 Mc Lc Rc) (fX14_readLine 5000 Mm Lm Rm) := by
  obtain ⟨tw1, tw2⟩ := rT_w h
  obtain ⟨w1, q, q1, q2, q3, q4, _⟩ := tw2 c
  have hres : fX9_reservedHere 5000 Mc Lc = some 1000010 := by rw [rRes hL c, hk]
  have hp := hD.2.2.1
  have m00 : Mm b 0 = nI (T 0 0) := tM_0 hD.1 (by decide)
  have a0 : T 0 0 ≤ 12 := hp.1.1
  have he := h.1.1
  have hse := h.2.1
  have hx1 := nL_le hp (i := 8) (by decide) (by decide) (by decide)
  have x2 : Mc 71 8 = nI (T 0 8) := hC.1 8 (by decide) (by decide) (by decide)
  have hx1' : T 0 8 < 1000 := hx1
  have mcf : Mm b 8 = nI (T 0 8) := tM_0 hD.1 (by decide)
  rw [mLn_fact (tw1.mp c) (by rw [← w1]; exact hk), cLn_w (t0 := if T 0 0 = 0 then 0 else 1) (lim := 8) hres rfl (by decide) (by decide) rfl (by decide) (by split <;> decide) (hC.1 0 (by decide) (by decide) (by decide)) h.2.2.1]
  by_cases h0 : T 0 0 = 0
  · rw [if_pos h0, if_pos rfl]
    have m0 : Mm b 0 = 0 := by rw [m00, h0]; rfl
    have z : T 0 8 = 0 := hp.2.2.2.2.2.2.2.2.2.2.2.2.2.2.1 h0 0 (by decide) 8
    have hbeg : fX14_begins 5000 Mm Lm Rm (Mm b 8) 8 = some (mF Mm 6 st, Lm) := mBeg6 hRm h (by rw [mcf, z]; decide) m0
    exact rOutL_f (f := 6) (by decide) rfl (ov_lfact hRm hbeg (mF_b hb (rNm_m hD.2.2.2.1)) mF_9)
  rw [if_neg h0, if_neg (by decide)]
  have m0' : ¬ Mm b 0 = 0 := by rw [m00]; exact fun hh => h0 ((nI_eq (b := 0) (by omega) (by decide)).mp hh)
  by_cases hf : 8 ≤ T 0 8
  · rw [cHd_full (lim := 8) (gi := 8) (x := T 0 8) h.2.2.1 rfl (by decide) rfl (by decide) (by omega) x2 hf]
    have hub : T 0 8 ≤ 8 := hp.1.2.2.2.2.2.2.2.2.1
    have heq : T 0 8 = 8 := by omega
    exact rOutL_f (f := 5) (by decide) rfl (ov_lfact hRm (mBeg5 hb hRm h (by rw [mcf, heq]; rfl)) (mF_b hb (rNm_m hD.2.2.2.1)) mF_9)
  have hlt : T 0 8 < 8 := by omega
  rw [cHd_go (lim := 8) (gi := 8) (x := (T 0 8)) (sw := 11) rfl (by decide) rfl (by decide) (by omega) x2 hlt rfl rfl]
  obtain ⟨st1, Mc1, Lc1, Mm1, Lm1, i1, n1, n1', t1, f1⟩ := rNext (Mc2 := goWI Mc 71 8 (nI ((T 0 8) + 1))) (Lc2 := Lc) (Mm2 := Mm) (Lm2 := Lm) h q1 q2 q3 q4 (goWI_ne (by decide)) (goWI_ne (by decide)) rfl rfl
  have hD1 : rD s b Mc1 Lc1 Mm1 Lm1 T := rD_tok hs hb (rD_w (Mc2 := Mc) (a := 71) hs (by omega) (by decide) (by decide) (by decide) hD) f1
  have hL1 : ∀ i, i < 18 → Lc1 73 i = kw i := fun i hi => by rw [f1.2.1 73 (by decide)]; exact hL i hi
  have hbeg : fX14_begins 5000 Mm Lm Rm (Mm b 8) 8 = some (Mm1, Lm1) := mBeg hRm (by rw [mcf]; exact fun hh => by have := (nI_eq (b := 8) (by omega) (by decide)).mp hh; omega) m0' n1'
  have key := rFact hs hb hRc hRm hL1 h0 hlt hbeg t1 hD1
  rw [n1, gB2]
  exact rFin i1 f1 key (fun T' Mc' st' h1 h2 hq => lC_up hC (gi := 8) (by decide) (by decide) (by decide) (by decide) (by omega) h2 (fun j j1 j2 j3 => hq j j2)) hs
theorem rL_holds (hs : s = 7 ∨ s = 37) (hb : 121 ≤ b) (hRc : goRr Rc 67 7 = s) (hRm : Rm 102 4 = some b) (hL : ∀ i, i < 18 → Lc 73 i = kw i) (h : rT e st Mc Lc Mm Lm) (hD : rD s b Mc Lc Mm Lm T) (hC : lC st Mc T) (c : Mc 1 4 = 1) (hk : kR (Lc 1 7) = 11) : rOutL e s b st Mc Lc Mm Lm (fX9_line 5000 Mc Lc Rc) (fX14_readLine 5000 Mm Lm Rm) := by
  obtain ⟨tw1, tw2⟩ := rT_w h
  obtain ⟨w1, q, q1, q2, q3, q4, _⟩ := tw2 c
  have hres : fX9_reservedHere 5000 Mc Lc = some 1000011 := by rw [rRes hL c, hk]
  have hp := hD.2.2.1
  have m00 : Mm b 0 = nI (T 0 0) := tM_0 hD.1 (by decide)
  have a0 : T 0 0 ≤ 12 := hp.1.1
  have he := h.1.1
  have hse := h.2.1
  obtain ⟨x, x1, x2⟩ := hC.2.2
  rw [mLn_holds (tw1.mp c) (by rw [← w1]; exact hk), cLn_w (t0 := if T 0 0 = 0 then 0 else 1) (lim := 1200) hres rfl (by decide) (by decide) rfl (by decide) (by split <;> decide) (hC.1 0 (by decide) (by decide) (by decide)) h.2.2.1]
  by_cases h0 : T 0 0 = 0
  · rw [if_pos h0, if_pos rfl]
    have m0 : Mm b 0 = 0 := by rw [m00, h0]; rfl
    have hbeg : fX14_begins 5000 Mm Lm Rm 0 1 = some (mF Mm 6 st, Lm) := mBeg6 hRm h (by decide) m0
    exact rOutL_f (f := 6) (by decide) rfl (ov_lholds hRm hbeg (mF_b hb (rNm_m hD.2.2.2.1)) mF_9)
  rw [if_neg h0, if_neg (by decide)]
  have m0' : ¬ Mm b 0 = 0 := by rw [m00]; exact fun hh => h0 ((nI_eq (b := 0) (by omega) (by decide)).mp hh)
  have hlt : x < 1200 := by omega
  rw [cHd_go (lim := 1200) (gi := 9) (x := x) (sw := 12) rfl (by decide) rfl (by decide) (by omega) x2 hlt rfl rfl]
  obtain ⟨st1, Mc1, Lc1, Mm1, Lm1, i1, n1, n1', t1, f1⟩ := rNext (Mc2 := goWI Mc 71 9 (nI (x + 1))) (Lc2 := Lc) (Mm2 := Mm) (Lm2 := Lm) h q1 q2 q3 q4 (goWI_ne (by decide)) (goWI_ne (by decide)) rfl rfl
  have hD1 : rD s b Mc1 Lc1 Mm1 Lm1 T := rD_tok hs hb (rD_w (Mc2 := Mc) (a := 71) hs (by omega) (by decide) (by decide) (by decide) hD) f1
  have hL1 : ∀ i, i < 18 → Lc1 73 i = kw i := fun i hi => by rw [f1.2.1 73 (by decide)]; exact hL i hi
  have hbeg : fX14_begins 5000 Mm Lm Rm 0 1 = some (Mm1, Lm1) := mBeg hRm (by decide) m0' n1'
  have key := rHolds hs hb hRc hRm hL1 h0 hbeg t1 hD1
  rw [n1, gB2]
  exact rFin i1 f1 key (fun T' Mc' st' h1 h2 hq => lC_any hC (Or.inr rfl) (by omega) x1 h2 (fun j h1 h2 h3 => hq j h2 h3)) hs
theorem rL_rule (hs : s = 7 ∨ s = 37) (hb : 121 ≤ b) (hRc : goRr Rc 67 7 = s) (hRm : Rm 102 4 = some b) (hL : ∀ i, i < 18 → Lc 73 i = kw i) (h : rT e st Mc Lc Mm Lm) (hD : rD s b Mc Lc Mm Lm T) (hC : lC st Mc T) (c : Mc 1 4 = 1) (hk : kR (Lc 1 7) = 12) : rOutL e s b st Mc Lc Mm Lm (fX9_line 5000 Mc Lc Rc) (fX14_readLine 5000 Mm Lm Rm) := by
  obtain ⟨tw1, tw2⟩ := rT_w h
  obtain ⟨w1, q, q1, q2, q3, q4, _⟩ := tw2 c
  have hres : fX9_reservedHere 5000 Mc Lc = some 1000012 := by rw [rRes hL c, hk]
  have hp := hD.2.2.1
  have m00 : Mm b 0 = nI (T 0 0) := tM_0 hD.1 (by decide)
  have a0 : T 0 0 ≤ 12 := hp.1.1
  have he := h.1.1
  have hse := h.2.1
  have hx1 := nL_le hp (i := 10) (by decide) (by decide) (by decide)
  have x2 : Mc 71 10 = nI (T 0 9) := hC.1 10 (by decide) (by decide) (by decide)
  have hx1' : T 0 9 < 1000 := hx1
  have mcf : Mm b 9 = nI (T 0 9) := tM_0 hD.1 (by decide)
  rw [mLn_rule (tw1.mp c) (by rw [← w1]; exact hk), cLn_w (t0 := if T 0 0 = 0 then 0 else 1) (lim := 8) hres rfl (by decide) (by decide) rfl (by decide) (by split <;> decide) (hC.1 0 (by decide) (by decide) (by decide)) h.2.2.1]
  by_cases h0 : T 0 0 = 0
  · rw [if_pos h0, if_pos rfl]
    have m0 : Mm b 0 = 0 := by rw [m00, h0]; rfl
    have z : T 0 9 = 0 := hp.2.2.2.2.2.2.2.2.2.2.2.2.2.2.1 h0 0 (by decide) 9
    have hbeg : fX14_begins 5000 Mm Lm Rm (Mm b 9) 8 = some (mF Mm 6 st, Lm) := mBeg6 hRm h (by rw [mcf, z]; decide) m0
    exact rOutL_f (f := 6) (by decide) rfl (ov_lrule hRm hbeg (mF_b hb (rNm_m hD.2.2.2.1)) mF_9)
  rw [if_neg h0, if_neg (by decide)]
  have m0' : ¬ Mm b 0 = 0 := by rw [m00]; exact fun hh => h0 ((nI_eq (b := 0) (by omega) (by decide)).mp hh)
  by_cases hf : 8 ≤ T 0 9
  · rw [cHd_full (lim := 8) (gi := 10) (x := T 0 9) h.2.2.1 rfl (by decide) rfl (by decide) (by omega) x2 hf]
    have hub : T 0 9 ≤ 8 := hp.1.2.2.2.2.2.2.2.2.2.1
    have heq : T 0 9 = 8 := by omega
    exact rOutL_f (f := 5) (by decide) rfl (ov_lrule hRm (mBeg5 hb hRm h (by rw [mcf, heq]; rfl)) (mF_b hb (rNm_m hD.2.2.2.1)) mF_9)
  have hlt : T 0 9 < 8 := by omega
  rw [cHd_go (lim := 8) (gi := 10) (x := (T 0 9)) (sw := 13) rfl (by decide) rfl (by decide) (by omega) x2 hlt rfl rfl]
  obtain ⟨st1, Mc1, Lc1, Mm1, Lm1, i1, n1, n1', t1, f1⟩ := rNext (Mc2 := goWI Mc 71 10 (nI ((T 0 9) + 1))) (Lc2 := Lc) (Mm2 := Mm) (Lm2 := Lm) h q1 q2 q3 q4 (goWI_ne (by decide)) (goWI_ne (by decide)) rfl rfl
  have hD1 : rD s b Mc1 Lc1 Mm1 Lm1 T := rD_tok hs hb (rD_w (Mc2 := Mc) (a := 71) hs (by omega) (by decide) (by decide) (by decide) hD) f1
  have hL1 : ∀ i, i < 18 → Lc1 73 i = kw i := fun i hi => by rw [f1.2.1 73 (by decide)]; exact hL i hi
  have hbeg : fX14_begins 5000 Mm Lm Rm (Mm b 9) 8 = some (Mm1, Lm1) := mBeg hRm (by rw [mcf]; exact fun hh => by have := (nI_eq (b := 8) (by omega) (by decide)).mp hh; omega) m0' n1'
  have key := rRule hs hb hRc hRm hL1 h0 hlt hbeg t1 hD1
  rw [n1, gB2]
  exact rFin i1 f1 key (fun T' Mc' st' h1 h2 hq => lC_up hC (gi := 10) (by decide) (by decide) (by decide) (by decide) (by omega) h2 (fun j j1 j2 j3 => hq j j2)) hs
theorem rL_proof (hs : s = 7 ∨ s = 37) (hb : 121 ≤ b) (hRc : goRr Rc 67 7 = s) (hRm : Rm 102 4 = some b) (hL : ∀ i, i < 18 → Lc 73 i = kw i) (h : rT e st Mc Lc Mm Lm) (hD : rD s b Mc Lc Mm Lm T) (hC : lC st Mc T) (c : Mc 1 4 = 1) (hk : kR (Lc 1 7) = 13) : rOutL e s b st Mc Lc Mm Lm (fX9_line 5000 Mc Lc Rc) (fX14_readLine 5000 Mm Lm Rm) := by
  obtain ⟨tw1, tw2⟩ := rT_w h
  obtain ⟨w1, q, q1, q2, q3, q4, _⟩ := tw2 c
  have hres : fX9_reservedHere 5000 Mc Lc = some 1000013 := by rw [rRes hL c, hk]
  have hp := hD.2.2.1
  have m00 : Mm b 0 = nI (T 0 0) := tM_0 hD.1 (by decide)
  have a0 : T 0 0 ≤ 12 := hp.1.1
  have he := h.1.1
  have hse := h.2.1
  have hx1 := nL_le hp (i := 11) (by decide) (by decide) (by decide)
  have x2 : Mc 71 11 = nI (T 0 14) := hC.1 11 (by decide) (by decide) (by decide)
  have hx1' : T 0 14 < 1000 := hx1
  have mcf : Mm b 14 = nI (T 0 14) := tM_0 hD.1 (by decide)
  rw [mLn_proof (tw1.mp c) (by rw [← w1]; exact hk), cLn_w (t0 := if T 0 0 = 0 then 0 else 1) (lim := 1) hres rfl (by decide) (by decide) rfl (by decide) (by split <;> decide) (hC.1 0 (by decide) (by decide) (by decide)) h.2.2.1]
  by_cases h0 : T 0 0 = 0
  · rw [if_pos h0, if_pos rfl]
    have m0 : Mm b 0 = 0 := by rw [m00, h0]; rfl
    have z : T 0 14 = 0 := hp.2.2.2.2.2.2.2.2.2.2.2.2.2.2.1 h0 0 (by decide) 14
    have hbeg : fX14_beginsOnce 5000 Mm Lm Rm (Mm b 14) = some (mF Mm 6 st, Lm) := by rw [mBo (by rw [mcf, z]; rfl)]; exact mBeg6 hRm h (by decide) m0
    exact rOutL_f (f := 6) (by decide) rfl (ov_lproof hRm hbeg (mF_b hb (rNm_m hD.2.2.2.1)) mF_9)
  rw [if_neg h0, if_neg (by decide)]
  have m0' : ¬ Mm b 0 = 0 := by rw [m00]; exact fun hh => h0 ((nI_eq (b := 0) (by omega) (by decide)).mp hh)
  by_cases hf : 1 ≤ T 0 14
  · rw [cHd_full (lim := 1) (gi := 11) (x := T 0 14) h.2.2.1 rfl (by decide) rfl (by decide) (by omega) x2 hf]
    exact rOutL_f (f := 3) (by decide) rfl (ov_lproof hRm (mBo3 hRm h (by rw [mcf]; exact fun hh => by have := (nI_eq (b := 0) (by omega) (by decide)).mp hh; omega)) (mF_b hb (rNm_m hD.2.2.2.1)) mF_9)
  have hlt : T 0 14 < 1 := by omega
  rw [cHd_go (lim := 1) (gi := 11) (x := (T 0 14)) (sw := 14) rfl (by decide) rfl (by decide) (by omega) x2 hlt rfl rfl]
  obtain ⟨st1, Mc1, Lc1, Mm1, Lm1, i1, n1, n1', t1, f1⟩ := rNext (Mc2 := goWI Mc 71 11 (nI ((T 0 14) + 1))) (Lc2 := Lc) (Mm2 := Mm) (Lm2 := Lm) h q1 q2 q3 q4 (goWI_ne (by decide)) (goWI_ne (by decide)) rfl rfl
  have hD1 : rD s b Mc1 Lc1 Mm1 Lm1 T := rD_tok hs hb (rD_w (Mc2 := Mc) (a := 71) hs (by omega) (by decide) (by decide) (by decide) hD) f1
  have hL1 : ∀ i, i < 18 → Lc1 73 i = kw i := fun i hi => by rw [f1.2.1 73 (by decide)]; exact hL i hi
  have z : T 0 14 = 0 := by omega
  have hbeg : fX14_beginsOnce 5000 Mm Lm Rm (Mm b 14) = some (Mm1, Lm1) := by rw [mBo (by rw [mcf, z]; rfl)]; exact mBeg hRm (by decide) m0' n1'
  have h10 : T 0 10 = 0 := by
    have p14 := hp.2.1
    rw [z] at p14
    by_cases cc : 0 < T 0 10
    · rw [if_pos cc] at p14; cases p14
    · omega
  have key := rProof hs hb hRc hRm hL1 h0 h10 hbeg t1 hD1
  rw [n1, gB2]
  exact rFin i1 f1 key (fun T' Mc' st' h1 h2 hq => lC_up hC (gi := 11) (by decide) (by decide) (by decide) (by decide) (by omega) h2 (fun j j1 j2 j3 => by
    show T' 0 j = if j = 14 then T 0 14 + 1 else T 0 j
    by_cases cj : j = 14
    · rw [if_pos cj, cj, hq.1, z]
    · rw [if_neg cj]; exact hq.2.2 j j2 j1 cj)) hs
theorem rL_court (hs : s = 7 ∨ s = 37) (hb : 121 ≤ b) (hRc : goRr Rc 67 7 = s) (hRm : Rm 102 4 = some b) (hL : ∀ i, i < 18 → Lc 73 i = kw i) (h : rT e st Mc Lc Mm Lm) (hD : rD s b Mc Lc Mm Lm T) (hC : lC st Mc T) (c : Mc 1 4 = 1) (hk : kR (Lc 1 7) = 14) : rOutL e s b st Mc Lc Mm Lm (fX9_line 5000 Mc Lc Rc) (fX14_readLine 5000 Mm Lm Rm) := by
  obtain ⟨tw1, tw2⟩ := rT_w h
  obtain ⟨w1, q, q1, q2, q3, q4, _⟩ := tw2 c
  have hres : fX9_reservedHere 5000 Mc Lc = some 1000014 := by rw [rRes hL c, hk]
  have hp := hD.2.2.1
  have m00 : Mm b 0 = nI (T 0 0) := tM_0 hD.1 (by decide)
  have a0 : T 0 0 ≤ 12 := hp.1.1
  have he := h.1.1
  have hse := h.2.1
  have hx1 := nL_le hp (i := 12) (by decide) (by decide) (by decide)
  have x2 : Mc 71 12 = nI (T 0 11) := hC.1 12 (by decide) (by decide) (by decide)
  have hx1' : T 0 11 < 1000 := hx1
  have mcf : Mm b 11 = nI (T 0 11) := tM_0 hD.1 (by decide)
  rw [mLn_court (tw1.mp c) (by rw [← w1]; exact hk), cLn_w (t0 := if T 0 0 = 0 then 0 else 1) (lim := 6) hres rfl (by decide) (by decide) rfl (by decide) (by split <;> decide) (hC.1 0 (by decide) (by decide) (by decide)) h.2.2.1]
  by_cases h0 : T 0 0 = 0
  · rw [if_pos h0, if_pos rfl]
    have m0 : Mm b 0 = 0 := by rw [m00, h0]; rfl
    have z : T 0 11 = 0 := hp.2.2.2.2.2.2.2.2.2.2.2.2.2.2.1 h0 0 (by decide) 11
    have hbeg : fX14_begins 5000 Mm Lm Rm (Mm b 11) 6 = some (mF Mm 6 st, Lm) := mBeg6 hRm h (by rw [mcf, z]; decide) m0
    exact rOutL_f (f := 6) (by decide) rfl (ov_lcourt hRm hbeg (mF_b hb (rNm_m hD.2.2.2.1)) mF_9)
  rw [if_neg h0, if_neg (by decide)]
  have m0' : ¬ Mm b 0 = 0 := by rw [m00]; exact fun hh => h0 ((nI_eq (b := 0) (by omega) (by decide)).mp hh)
  by_cases hf : 6 ≤ T 0 11
  · rw [cHd_full (lim := 6) (gi := 12) (x := T 0 11) h.2.2.1 rfl (by decide) rfl (by decide) (by omega) x2 hf]
    have hub : T 0 11 ≤ 6 := hp.1.2.2.2.2.2.2.2.2.2.2.2.1
    have heq : T 0 11 = 6 := by omega
    exact rOutL_f (f := 5) (by decide) rfl (ov_lcourt hRm (mBeg5 hb hRm h (by rw [mcf, heq]; rfl)) (mF_b hb (rNm_m hD.2.2.2.1)) mF_9)
  have hlt : T 0 11 < 6 := by omega
  rw [cHd_go (lim := 6) (gi := 12) (x := (T 0 11)) (sw := 15) rfl (by decide) rfl (by decide) (by omega) x2 hlt rfl rfl]
  obtain ⟨st1, Mc1, Lc1, Mm1, Lm1, i1, n1, n1', t1, f1⟩ := rNext (Mc2 := goWI Mc 71 12 (nI ((T 0 11) + 1))) (Lc2 := Lc) (Mm2 := Mm) (Lm2 := Lm) h q1 q2 q3 q4 (goWI_ne (by decide)) (goWI_ne (by decide)) rfl rfl
  have hD1 : rD s b Mc1 Lc1 Mm1 Lm1 T := rD_tok hs hb (rD_w (Mc2 := Mc) (a := 71) hs (by omega) (by decide) (by decide) (by decide) hD) f1
  have hL1 : ∀ i, i < 18 → Lc1 73 i = kw i := fun i hi => by rw [f1.2.1 73 (by decide)]; exact hL i hi
  have hbeg : fX14_begins 5000 Mm Lm Rm (Mm b 11) 6 = some (Mm1, Lm1) := mBeg hRm (by rw [mcf]; exact fun hh => by have := (nI_eq (b := 6) (by omega) (by decide)).mp hh; omega) m0' n1'
  have key := rCourt hs hb hRc hRm hL1 h0 hlt hbeg t1 hD1
  rw [n1, gB2]
  exact rFin i1 f1 key (fun T' Mc' st' h1 h2 hq => lC_up hC (gi := 12) (by decide) (by decide) (by decide) (by decide) (by omega) h2 (fun j j1 j2 j3 => hq j j2)) hs
theorem rL_cheese (hs : s = 7 ∨ s = 37) (hb : 121 ≤ b) (hRc : goRr Rc 67 7 = s) (hRm : Rm 102 4 = some b) (hL : ∀ i, i < 18 → Lc 73 i = kw i) (h : rT e st Mc Lc Mm Lm) (hD : rD s b Mc Lc Mm Lm T) (hC : lC st Mc T) (c : Mc 1 4 = 1) (hk : kR (Lc 1 7) = 15) : rOutL e s b st Mc Lc Mm Lm (fX9_line 5000 Mc Lc Rc) (fX14_readLine 5000 Mm Lm Rm) := by
  obtain ⟨tw1, tw2⟩ := rT_w h
  obtain ⟨w1, q, q1, q2, q3, q4, _⟩ := tw2 c
  have hres : fX9_reservedHere 5000 Mc Lc = some 1000015 := by rw [rRes hL c, hk]
  have hp := hD.2.2.1
  have m00 : Mm b 0 = nI (T 0 0) := tM_0 hD.1 (by decide)
  have a0 : T 0 0 ≤ 12 := hp.1.1
  have he := h.1.1
  have hse := h.2.1
  have hx1 := nL_le hp (i := 13) (by decide) (by decide) (by decide)
  have x2 : Mc 71 13 = nI (T 0 15) := hC.1 13 (by decide) (by decide) (by decide)
  have hx1' : T 0 15 < 1000 := hx1
  have mcf : Mm b 15 = nI (T 0 15) := tM_0 hD.1 (by decide)
  rw [mLn_cheese (tw1.mp c) (by rw [← w1]; exact hk), cLn_w (t0 := if T 0 0 = 0 then 0 else 1) (lim := 1) hres rfl (by decide) (by decide) rfl (by decide) (by split <;> decide) (hC.1 0 (by decide) (by decide) (by decide)) h.2.2.1]
  by_cases h0 : T 0 0 = 0
  · rw [if_pos h0, if_pos rfl]
    have m0 : Mm b 0 = 0 := by rw [m00, h0]; rfl
    have z : T 0 15 = 0 := hp.2.2.2.2.2.2.2.2.2.2.2.2.2.2.1 h0 0 (by decide) 15
    have hbeg : fX14_beginsOnce 5000 Mm Lm Rm (Mm b 15) = some (mF Mm 6 st, Lm) := by rw [mBo (by rw [mcf, z]; rfl)]; exact mBeg6 hRm h (by decide) m0
    exact rOutL_f (f := 6) (by decide) rfl (ov_lcheese hRm hbeg (mF_b hb (rNm_m hD.2.2.2.1)) mF_9)
  rw [if_neg h0, if_neg (by decide)]
  have m0' : ¬ Mm b 0 = 0 := by rw [m00]; exact fun hh => h0 ((nI_eq (b := 0) (by omega) (by decide)).mp hh)
  by_cases hf : 1 ≤ T 0 15
  · rw [cHd_full (lim := 1) (gi := 13) (x := T 0 15) h.2.2.1 rfl (by decide) rfl (by decide) (by omega) x2 hf]
    exact rOutL_f (f := 3) (by decide) rfl (ov_lcheese hRm (mBo3 hRm h (by rw [mcf]; exact fun hh => by have := (nI_eq (b := 0) (by omega) (by decide)).mp hh; omega)) (mF_b hb (rNm_m hD.2.2.2.1)) mF_9)
  have hlt : T 0 15 < 1 := by omega
  rw [cHd_go (lim := 1) (gi := 13) (x := (T 0 15)) (sw := 0) rfl (by decide) rfl (by decide) (by omega) x2 hlt rfl rfl]
  obtain ⟨st1, Mc1, Lc1, Mm1, Lm1, i1, n1, n1', t1, f1⟩ := rNext (Mc2 := goWI Mc 71 13 (nI ((T 0 15) + 1))) (Lc2 := Lc) (Mm2 := Mm) (Lm2 := Lm) h q1 q2 q3 q4 (goWI_ne (by decide)) (goWI_ne (by decide)) rfl rfl
  have hD1 : rD s b Mc1 Lc1 Mm1 Lm1 T := rD_tok hs hb (rD_w (Mc2 := Mc) (a := 71) hs (by omega) (by decide) (by decide) (by decide) hD) f1
  have hL1 : ∀ i, i < 18 → Lc1 73 i = kw i := fun i hi => by rw [f1.2.1 73 (by decide)]; exact hL i hi
  have z : T 0 15 = 0 := by omega
  have hbeg : fX14_beginsOnce 5000 Mm Lm Rm (Mm b 15) = some (Mm1, Lm1) := by rw [mBo (by rw [mcf, z]; rfl)]; exact mBeg hRm (by decide) m0' n1'
  have h15 : T 0 15 = 0 := z
  have key := rCheese hs hb hRc hRm h0 h15 hbeg t1 hD1
  rw [n1, gB2]
  exact rFin i1 f1 key (fun T' Mc' st' h1 h2 hq => lC_up hC (gi := 13) (by decide) (by decide) (by decide) (by decide) (by omega) h2 (fun j j1 j2 j3 => by
    show T' 0 j = if j = 15 then T 0 15 + 1 else T 0 j
    rw [hq j j2, z])) hs
theorem rL_hill (hs : s = 7 ∨ s = 37) (hb : 121 ≤ b) (hRc : goRr Rc 67 7 = s) (hRm : Rm 102 4 = some b) (hL : ∀ i, i < 18 → Lc 73 i = kw i) (h : rT e st Mc Lc Mm Lm) (hD : rD s b Mc Lc Mm Lm T) (hC : lC st Mc T) (c : Mc 1 4 = 1) (hk : kR (Lc 1 7) = 0) : rOutL e s b st Mc Lc Mm Lm (fX9_line 5000 Mc Lc Rc) (fX14_readLine 5000 Mm Lm Rm) := by
  obtain ⟨tw1, tw2⟩ := rT_w h
  obtain ⟨w1, q, q1, q2, q3, q4, _⟩ := tw2 c
  have hres : fX9_reservedHere 5000 Mc Lc = some 1000000 := by rw [rRes hL c, hk]
  have hp := hD.2.2.1
  have m00 : Mm b 0 = nI (T 0 0) := tM_0 hD.1 (by decide)
  have a0 : T 0 0 ≤ 12 := hp.1.1
  have x2 : Mc 71 0 = nI (if T 0 0 = 0 then 0 else 1) := hC.1 0 (by decide) (by decide) (by decide)
  rw [mLn_hill (tw1.mp c) (by rw [← w1]; exact hk), cLn_h hres]
  by_cases h0 : T 0 0 = 0
  · rw [if_pos h0] at x2
    rw [cHd_go (lim := 1) (gi := 0) (x := 0) (sw := 1) rfl (by decide) rfl (by decide) (by decide) x2 (by decide) rfl rfl]
    obtain ⟨st1, Mc1, Lc1, Mm1, Lm1, i1, n1, n1', t1, f1⟩ := rNext (Mc2 := goWI Mc 71 0 (nI (0 + 1))) (Lc2 := Lc) (Mm2 := Mm) (Lm2 := Lm) h q1 q2 q3 q4 (goWI_ne (by decide)) (goWI_ne (by decide)) rfl rfl
    have hD1 : rD s b Mc1 Lc1 Mm1 Lm1 T := rD_tok hs hb (rD_w (Mc2 := Mc) (a := 71) hs (by omega) (by decide) (by decide) (by decide) hD) f1
    have key := rHill hs hb hRc hRm h0 (by rw [m00, h0]; rfl) n1' t1 hD1
    rw [n1, gB2]
    exact rFin i1 f1 key (fun T' Mc' st' h1 h2 hq => lC_hill hC (by omega) h0 h2 hq.1 hq.2) hs
  · rw [if_neg h0] at x2
    rw [cHd_full (lim := 1) (gi := 0) (x := 1) h.2.2.1 rfl (by decide) rfl (by decide) (by decide) x2 (by decide)]
    have hm : fX14_readHill 5000 Mm Lm Rm = some (mF Mm 3 st, Lm) := by
      unfold fX14_readHill
      rw [hRm, gBd, if_pos (show 0 < Mm b 0 by rw [m00]; exact nI_lt (a := 0) (by omega) (by omega)), mFlaw h.2.2.2.1 (rT_9 h), gBd, gBd, ov_on mF_9, gB2, ov_part mF_9, gB3, ov_part mF_9, gB3, if_pos mF_9]
    exact rOutL_f (f := 3) (by decide) rfl hm
/-- a line -/
theorem rLine (hs : s = 7 ∨ s = 37) (hb : 121 ≤ b) (hRc : goRr Rc 67 7 = s) (hRm : Rm 102 4 = some b) (hL : ∀ i, i < 18 → Lc 73 i = kw i) (h : rT e st Mc Lc Mm Lm) (hD : rD s b Mc Lc Mm Lm T) (hC : lC st Mc T) : rOutL e s b st Mc Lc Mm Lm (fX9_line 5000 Mc Lc Rc) (fX14_readLine 5000 Mm Lm Rm) := by
  obtain ⟨tw1, tw2⟩ := rT_w h
  by_cases c : Mc 1 4 = 1
  · have hle := kR_le (Lc 1 7)
    obtain ⟨w1, _⟩ := tw2 c
    by_cases c16 : 16 ≤ kR (Lc 1 7)
    · have hEr : goEr (1000000 + kR (Lc 1 7)) = some 0 := by
        have : kR (Lc 1 7) = 16 ∨ kR (Lc 1 7) = 17 := by omega
        rcases this with e | e <;> rw [e] <;> rfl
      rw [cLn_n (rRes hL c) hEr h.2.2.1, mLn_none (tw1.mp c) (by rw [← w1]; exact c16), mFlaw h.2.2.2.1 (rT_9 h), gBd]
      exact rOutL_f (f := 1) (by decide) rfl rfl
    · have hh : kR (Lc 1 7) = 0 ∨ kR (Lc 1 7) = 1 ∨ kR (Lc 1 7) = 2 ∨ kR (Lc 1 7) = 3 ∨ kR (Lc 1 7) = 4 ∨ kR (Lc 1 7) = 5 ∨ kR (Lc 1 7) = 6 ∨ kR (Lc 1 7) = 7 ∨ kR (Lc 1 7) = 8 ∨ kR (Lc 1 7) = 9 ∨ kR (Lc 1 7) = 10 ∨ kR (Lc 1 7) = 11 ∨ kR (Lc 1 7) = 12 ∨ kR (Lc 1 7) = 13 ∨ kR (Lc 1 7) = 14 ∨ kR (Lc 1 7) = 15 := by omega
      rcases hh with e | e | e | e | e | e | e | e | e | e | e | e | e | e | e | e
      · exact rL_hill hs hb hRc hRm hL h hD hC c e
      · exact rL_place hs hb hRc hRm hL h hD hC c e
      · exact rL_path hs hb hRc hRm hL h hD hC c e
      · exact rL_person hs hb hRc hRm hL h hD hC c e
      · exact rL_story hs hb hRc hRm hL h hD hC c e
      · exact rL_goat hs hb hRc hRm hL h hD hC c e
      · exact rL_fears hs hb hRc hRm hL h hD hC c e
      · exact rL_found hs hb hRc hRm hL h hD hC c e
      · exact rL_seen hs hb hRc hRm hL h hD hC c e
      · exact rL_shied hs hb hRc hRm hL h hD hC c e
      · exact rL_fact hs hb hRc hRm hL h hD hC c e
      · exact rL_holds hs hb hRc hRm hL h hD hC c e
      · exact rL_rule hs hb hRc hRm hL h hD hC c e
      · exact rL_proof hs hb hRc hRm hL h hD hC c e
      · exact rL_court hs hb hRc hRm hL h hD hC c e
      · exact rL_cheese hs hb hRc hRm hL h hD hC c e
  · rw [cLn_n (rRes0 c) rfl h.2.2.1, mLn_0 (fun hx => c (tw1.mpr hx)), mFlaw h.2.2.2.1 (rT_9 h), gBd]
    exact rOutL_f (f := 1) (by decide) rfl rfl
end lines32
