theorem goCw_good : GoodIn goTb (va_wsS RL 222 yL_put goCw) := fun w hw => by
  have hm : w ∈ goTb := by
    rcases List.mem_append.mp hw with h | h
    · rcases List.mem_cons.mp h with rfl | h
      · exact wml_RL_222
      · rcases List.mem_cons.mp h with rfl | h
        · exact wst_L_put
        · rcases List.mem_cons.mp h with rfl | h
          · exact win_RL
          · exact absurd h List.not_mem_nil
    · rcases List.mem_cons.mp h with rfl | h
      · exact wcw_put
      · exact h
  exact ⟨hm, good_of_word (List.mem_filter.mp hm).2⟩
set_option maxRecDepth 100000 in
set_option maxHeartbeats 4000000 in
theorem law_put2 {E : goEv} {X : goX} {G : goG} {ce sl n Ln : Nat} {Q : State → Prop} {M : goMI} {L : goML} {R : goMR} {xs : Nat → Int32} {d5 d6 : Option Value} {I : goInv} {k : Nat} (hA : goAll I) {N : Nat} {r kv : Int32} {M2 : goMI} (hW : goW G R) (e2 : fX14_put N M R (xs (n + 1)) (goNb (xs (n + 2))) = some (r, M2)) (ht : M2 102 0 = kv) (ho : kv = 0 → L 120 0 = r.toInt64) (hI2 : I (k + 1) G M2 L R) (hc : goCx E X code RL 7) (hk : goKn E) (hR : X.2.2.2.1 = goRoom 16 614 601024 7293034) (hX : va_X (goAd E 1000800) Ln xs E.1 E.1.heap) (hbb : goAd E 1000800 < E.2.1) (hin : n + 6 ≤ Ln) (hLn : Ln ≤ 3072) (hce : ce + 27 ≤ 601024 ∧ sl + 600 ≤ 7293034) (kx : ∀ (G' : goG) (M' : goMI) (L' : goML) (R' : goMR) (d5 d6 : Option Value), I (k + 1) G' M' L' R' → goA E X G' (ce + 27) (sl + 600) Q 2043 [some (.ref 1000800), some (.ref 0), some (.ref 102), some (.ref 120), some (.int (Int32.ofNat n)), d5, d6] [] M' L' R') : goA E X G (ce + 1) (sl + 6) Q 1946 [some (.ref 1000800), some (.ref 0), some (.ref 102), some (.ref 120), some (.int (Int32.ofNat n)), d5, d6] [.int kv] M L R := by
  refine go_istore5 hc dL_law_1946 ?_
  refine go_aload2 hc dL_law_1948 ?_
  refine go_aload0 hc dL_law_1949 ?_
  refine go_iload4 hc dL_law_1950 ?_
  refine go_iconst (v := Int32.ofNat 1) hc dL_law_1952 rfl ?_
  refine go_iadd hc dL_law_1953 ?_
  refine go_sld hc hX hbb (goIx (by omega)) (by omega) dL_law_1954 ?_
  refine go_aload0 hc dL_law_1955 ?_
  refine go_iload4 hc dL_law_1956 ?_
  refine go_iconst (v := Int32.ofNat 2) hc dL_law_1958 rfl ?_
  refine go_iadd hc dL_law_1959 ?_
  refine go_sld hc hX hbb (goIx (by omega)) (by omega) dL_law_1960 ?_
  have kj1 : goA E X G (ce + 1) (sl + 6) Q 1969 [some (.ref 1000800), some (.ref 0), some (.ref 102), some (.ref 120), some (.int (Int32.ofNat n)), some (.int kv), d6] [.int (goNb (xs (n + 2))), .int (xs (n + 1)), .ref 102] M L R := by
    refine go_callVi hc dL_law_1969 (mX14_put hk hW e2) ml_RL_227 yk_X14_put ⟨wim_X14_put, wse_X14_put⟩ hR (goFit_i (Nat.le_of_ble_eq_true rfl) (Nat.le_of_ble_eq_true rfl) (by omega) (by omega)) (sh_102 hW) rfl rfl rfl (Nat.le_of_ble_eq_true rfl) rfl ?_
    refine go_istore6 hc dL_law_1972 ?_
    refine go_aload2 hc dL_law_1974 ?_
    refine go_callVi hc dL_law_1975 (mX14_thrown hk hW rfl) ml_RL_228 yk_X14_thrown ⟨wim_X14_thrown, wse_X14_thrown⟩ hR (goFit_i (Nat.le_of_ble_eq_true rfl) (Nat.le_of_ble_eq_true rfl) (by omega) (by omega)) (sh_102 hW) rfl rfl rfl (Nat.le_of_ble_eq_true rfl) rfl ?_
    refine go_iload5 hc dL_law_1978 ?_
    refine go_icmp_eq hc 1985 dL_law_1980 rfl (fun _ => ?_) (fun c => absurd ht c)
    refine go_iload5 hc dL_law_1985 ?_
    refine go_if_ne hc 2002 dL_law_1987 rfl (fun c => ?_) (fun c => ?_)
    · refine go_goto hc 2043 dL_law_2002 rfl ?_
      exact go_widen (by omega) (by omega) (kx _ _ _ _ _ _ hI2)
    · refine go_aload3 hc dL_law_1990 ?_
      refine go_iconst (v := 0) hc dL_law_1991 rfl ?_
      refine go_lald hc dL_law_1992 (sh_120 hW) (x := r.toInt64) (by unfold goRdL; rw [if_pos (by decide)]; exact congrArg some (ho c)) ?_
      refine go_iload6 hc dL_law_1993 ?_
      refine go_i2l hc dL_law_1995 ?_
      refine go_lcmp hc dL_law_1996 ?_
      refine go_if_eq hc 2002 dL_law_1997 rfl (fun _ => ?_) (fun c => absurd (goCmp_self _) c)
      refine go_goto hc 2043 dL_law_2002 rfl ?_
      exact go_widen (by omega) (by omega) (kx _ _ _ _ _ _ hI2)
  refine go_if_eq hc 1968 dL_law_1961 rfl (fun c => ?_) (fun c => ?_)
  · rw [show goNb (xs (n + 2)) = 0 from if_pos c] at kj1
    exact go_iconst (v := 0) hc dL_law_1968 rfl kj1
  · rw [show goNb (xs (n + 2)) = 1 from if_neg c] at kj1
    refine go_iconst (v := 1) hc dL_law_1964 rfl ?_
    exact go_goto hc 1969 dL_law_1965 rfl kj1
set_option maxRecDepth 100000 in
set_option maxHeartbeats 4000000 in
theorem law_put {E : goEv} {X : goX} {G : goG} {ce sl n Ln : Nat} {Q : State → Prop} {M : goMI} {L : goML} {R : goMR} {xs : Nat → Int32} {d5 d6 : Option Value} {I : goInv} {k : Nat} (hA : goAll I) (hI : I k G M L R) (hkk : k < 4000) (hfl : X.2.1.stackTraces = false) (hx : goXn E) (hbs : X.2.2.2.2.1.heap.size ≤ E.2.1) (hc : goCx E X code RL 7) (hk : goKn E) (hR : X.2.2.2.1 = goRoom 16 614 601024 7293034) (hX : va_X (goAd E 1000800) Ln xs E.1 E.1.heap) (hbb : goAd E 1000800 < E.2.1) (hin : n + 6 ≤ Ln) (hLn : Ln ≤ 3072) (hce : ce + 27 ≤ 601024 ∧ sl + 600 ≤ 7293034) (kx : ∀ (G' : goG) (M' : goMI) (L' : goML) (R' : goMR) (d5 d6 : Option Value), I (k + 1) G' M' L' R' → goA E X G' (ce + 27) (sl + 600) Q 2043 [some (.ref 1000800), some (.ref 0), some (.ref 102), some (.ref 120), some (.int (Int32.ofNat n)), d5, d6] [] M' L' R') : goA E X G ce sl Q 1921 [some (.ref 1000800), some (.ref 0), some (.ref 102), some (.ref 120), some (.int (Int32.ofNat n)), d5, d6] [] M L R := by
  have hW := hA.1 _ _ _ _ _ hI
  refine go_bound hbs (fun hGb => ?_)
  obtain ⟨N, s, r, M2, e1, e2, hneg, hpos⟩ := hA.2.2.2.2.2.2.2.2.2.2.2.2.2.2.2.2.2.2.2.2.2.2.2.2.2.2.2.2.2.2.2.2.2.2.2.2.2.2.2.2.2.2.2.2.2.2.2.2.2.2.1 k G M L R (xs (n + 1)) (xs (n + 2)) hI hkk
  refine go_aload1 hc dL_law_1921 ?_
  refine go_aload0 hc dL_law_1922 ?_
  refine go_iload4 hc dL_law_1923 ?_
  refine go_iconst (v := Int32.ofNat 1) hc dL_law_1925 rfl ?_
  refine go_iadd hc dL_law_1926 ?_
  refine go_sld hc hX hbb (goIx (by omega)) (by omega) dL_law_1927 ?_
  refine go_aload0 hc dL_law_1928 ?_
  refine go_iload4 hc dL_law_1929 ?_
  refine go_iconst (v := Int32.ofNat 2) hc dL_law_1931 rfl ?_
  refine go_iadd hc dL_law_1932 ?_
  refine go_sld hc hX hbb (goIx (by omega)) (by omega) dL_law_1933 ?_
  have kj1 : goA E X G ce sl Q 1942 [some (.ref 1000800), some (.ref 0), some (.ref 102), some (.ref 120), some (.int (Int32.ofNat n)), d5, d6] [.int (goNb (xs (n + 2))), .int (xs (n + 1)), .ref 0] M L R := by
    refine go_aload3 hc dL_law_1942 ?_
    intro H locs ls a1 a2 a3 a4
    have hts := hc.2.2.2.2.1
    refine va_calli (vx_runSW (As := [.ref (goAd E 0), .int (xs (n + 1)), .int (goNb (xs (n + 2))), .ref (goAd E 120)]) (rest := []) ⟨hc.1, hc.2.1, hc.2.2.1, hc.2.2.2.1, hts⟩ (mL_put hfl hx hk hW (by omega) e1) (vx_cwSW (ws' := goTb) 4 hts goCw_good rfl rfl rfl ⟨by decide +kernel, by decide +kernel, by decide +kernel⟩ (by rw [hR]; exact ⟨Nat.le_of_ble_eq_true rfl, Nat.le_of_ble_eq_true rfl⟩)) ⟨goPre_blind, goPreOk hc a1 a3 (as := [.ref 0, .int (xs (n + 1)), .int (goNb (xs (n + 2))), .ref 120])⟩ rfl rfl (a4.1.trans rfl) rfl (lv_room (Nat.le_of_ble_eq_true rfl)) dL_law_1943 (by rw [hR]; exact ⟨by show ce + 1 ≤ 601024; omega, by show sl + 6 ≤ 7293034; omega⟩)) a2 (fun _ _ q => q) (fun _ q => q) (fun rr u t H1 locs1 ht hvm hw hB hz hk1 hS => ?_)
    have hB : (¬ s < 0 → goHp E G M (goWL L 120 0 (fX12_spotCode s).toInt64) R t.heap) ∧ (s < 0 → goHp E (goUx G u) M L R t.heap) := hB
    rw [ht] at hB
    rcases hw with ⟨rfl, hs, -⟩ | ⟨rfl, hs, hu⟩
    · obtain ⟨h1, h2, h3⟩ := hpos hs
      exact law_put2 (kv := 0) hA hW e2 h1 (fun _ => by rw [h2]; show goWL L 120 0 _ 120 0 = _; simp [goWL]) h3 hc hk hR hX hbb hin hLn hce kx H1 locs1 ls (hB.1 hs) hS (goLow_call a1 a3 hk1) a4
    · obtain ⟨h1, h2⟩ := hneg hs
      exact law_put2 (kv := 1) hA (hA.1 _ _ _ _ _ (hA.2.1 _ _ _ _ _ u hI hu)) e2 h1 (fun c => absurd c (by decide)) (hA.2.1 _ _ _ _ _ u h2 hu) hc hk hR hX hbb hin hLn hce kx H1 locs1 ls (hB.2 hs) hS (goLow_call a1 a3 hk1) a4
  refine go_if_eq hc 1941 dL_law_1934 rfl (fun c => ?_) (fun c => ?_)
  · rw [show goNb (xs (n + 2)) = 0 from if_pos c] at kj1
    exact go_iconst (v := 0) hc dL_law_1941 rfl kj1
  · rw [show goNb (xs (n + 2)) = 1 from if_neg c] at kj1
    refine go_iconst (v := 1) hc dL_law_1937 rfl ?_
    exact go_goto hc 1942 dL_law_1938 rfl kj1
