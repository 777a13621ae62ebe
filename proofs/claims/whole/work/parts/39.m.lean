theorem dX14_known_0 : decode cX14_known 0 = .ok (.aload_n 0, 1) := by decide +kernel
theorem dX14_known_1 : decode cX14_known 1 = .ok (.invokevirtual 205, 3) := by decide +kernel
theorem dX14_known_4 : decode cX14_known 4 = .ok (.ifCond .ne 8, 3) := by decide +kernel
theorem dX14_known_7 : decode cX14_known 7 = .ok (.aload_n 0, 1) := by decide +kernel
theorem dX14_known_8 : decode cX14_known 8 = .ok (.iconst 1, 1) := by decide +kernel
theorem dX14_known_9 : decode cX14_known 9 = .ok (.invokevirtual 143, 3) := by decide +kernel
theorem dX14_known_12 : decode cX14_known 12 = .ok (.aload_n 0, 1) := by decide +kernel
theorem dX14_known_13 : decode cX14_known 13 = .ok (.getfield 192, 3) := by decide +kernel
theorem dX14_known_16 : decode cX14_known 16 = .ok (.aload_n 0, 1) := by decide +kernel
theorem dX14_known_17 : decode cX14_known 17 = .ok (.getfield 113, 3) := by decide +kernel
theorem dX14_known_20 : decode cX14_known 20 = .ok (.invokevirtual 209, 3) := by decide +kernel
theorem dX14_known_23 : decode cX14_known 23 = .ok (.istore_n 2, 1) := by decide +kernel
theorem dX14_known_24 : decode cX14_known 24 = .ok (.iload_n 2, 1) := by decide +kernel
theorem dX14_known_25 : decode cX14_known 25 = .ok (.iconst (-1), 1) := by decide +kernel
theorem dX14_known_26 : decode cX14_known 26 = .ok (.if_icmp .eq 16, 3) := by decide +kernel
theorem dX14_known_29 : decode cX14_known 29 = .ok (.aload_n 0, 1) := by decide +kernel
theorem dX14_known_30 : decode cX14_known 30 = .ok (.getfield 192, 3) := by decide +kernel
theorem dX14_known_33 : decode cX14_known 33 = .ok (.getfield 220, 3) := by decide +kernel
theorem dX14_known_36 : decode cX14_known 36 = .ok (.iload_n 2, 1) := by decide +kernel
theorem dX14_known_37 : decode cX14_known 37 = .ok (.iaload, 1) := by decide +kernel
theorem dX14_known_38 : decode cX14_known 38 = .ok (.iload_n 1, 1) := by decide +kernel
theorem dX14_known_39 : decode cX14_known 39 = .ok (.if_icmp .eq 8, 3) := by decide +kernel
theorem dX14_known_42 : decode cX14_known 42 = .ok (.aload_n 0, 1) := by decide +kernel
theorem dX14_known_43 : decode cX14_known 43 = .ok (.iconst 2, 1) := by decide +kernel
theorem dX14_known_44 : decode cX14_known 44 = .ok (.invokevirtual 143, 3) := by decide +kernel
theorem dX14_known_47 : decode cX14_known 47 = .ok (.aload_n 0, 1) := by decide +kernel
theorem dX14_known_48 : decode cX14_known 48 = .ok (.getfield 94, 3) := by decide +kernel
theorem dX14_known_51 : decode cX14_known 51 = .ok (.iconst 5, 1) := by decide +kernel
theorem dX14_known_52 : decode cX14_known 52 = .ok (.if_icmp .ne 7, 3) := by decide +kernel
theorem dX14_known_55 : decode cX14_known 55 = .ok (.iconst 0, 1) := by decide +kernel
theorem dX14_known_56 : decode cX14_known 56 = .ok (.goto 12, 3) := by decide +kernel
theorem dX14_known_59 : decode cX14_known 59 = .ok (.aload_n 0, 1) := by decide +kernel
theorem dX14_known_60 : decode cX14_known 60 = .ok (.getfield 192, 3) := by decide +kernel
theorem dX14_known_63 : decode cX14_known 63 = .ok (.getfield 223, 3) := by decide +kernel
theorem dX14_known_66 : decode cX14_known 66 = .ok (.iload_n 2, 1) := by decide +kernel
theorem dX14_known_67 : decode cX14_known 67 = .ok (.iaload, 1) := by decide +kernel
theorem dX14_known_68 : decode cX14_known 68 = .ok (.ireturn, 1) := by decide +kernel
set_option maxRecDepth 100000 in
set_option maxHeartbeats 4000000 in
theorem mX14_known {E : goEv} {l : Launch} {G : goG} {N : Nat} {M : goMI} {L : goML} {R : goMR} {v1 : Int32} {r0 : Int32} {r1 : goMI} (hk : goKn E) (hW : goW G R) (h : fX14_known N M L R v1 = some (r0, r1)) : Met l yX14_known (goCd yX14_known cX14_known 3 (Option.some FieldType.int)) (goRoom 8 170 0 0) (goPre E [.ref 102, .int v1] G M L R) (goQi E r0 G r1 L R) 0 0 (goSet E) := by
  refine goMet pl_RX14 hk (lv := [some (.ref 102), some (.int v1), none]) rfl (Nat.le_of_ble_eq_true rfl) ?_
  intro X hc hl hR hr hnm
  subst hl
  unfold fX14_known at h
  refine go_aload0 hc dX14_known_0 ?_
  replace h := goBind h; obtain ⟨x11, e12, h⟩ := h
  refine go_callVi hc dX14_known_1 (mX14_isName hk hW e12) ml_RX14_205 yk_X14_isName ⟨wim_X14_isName, wse_X14_isName⟩ hR rfl (sh_102 hW) rfl rfl rfl (Nat.le_of_ble_eq_true rfl) rfl ?_
  replace h := goBind h; obtain ⟨M13, e14, h⟩ := h
  have k15 : ∀ (d2 : Option Value), goA E X G 0 0 (goMQ X E (goQi E r0 G r1 L R) 0 0) 12 [some (.ref 102), some (.int v1), d2] [] M13 L R := by
    intro d2
    refine go_aload0 hc dX14_known_12 ?_
    replace h := goBind h; obtain ⟨b19, e20, h⟩ := h
    refine go_getR hc lk_RX14_192 dX14_known_13 (sh_102 hW) e20 ?_
    refine go_aload0 hc dX14_known_16 ?_
    refine go_getL hc lk_RX14_113 dX14_known_17 (sh_102 hW) ?_
    replace h := goBind h; obtain ⟨x21, e22, h⟩ := h
    refine go_callVi hc dX14_known_20 (mX13_find hk hW (goW_M4 hW e20) e22) ml_RX14_209 yk_X13_find ⟨wim_X13_find, wse_X13_find⟩ hR rfl (shM_0 (goW_M4 hW e20)) rfl rfl rfl (Nat.le_of_ble_eq_true rfl) rfl ?_
    refine go_istore2 hc dX14_known_23 ?_
    refine go_iload2 hc dX14_known_24 ?_
    refine go_iconst (v := (-1)) hc dX14_known_25 rfl ?_
    replace h := goBind h; obtain ⟨M23, e24, h⟩ := h
    have k25 : ∀ (d1 : Option Value), goA E X G 0 0 (goMQ X E (goQi E r0 G r1 L R) 0 0) 47 [some (.ref 102), d1, some (.int x21)] [] M23 L R := by
      intro d1
      refine go_aload0 hc dX14_known_47 ?_
      refine go_getI hc lk_RX14_94 dX14_known_48 (sh_102 hW) ?_
      refine go_iconst (v := 5) hc dX14_known_51 rfl ?_
      refine go_icmp_ne hc 59 dX14_known_52 rfl (fun c36 => ?_) (fun c36 => ?_)
      · replace h := goIfF h c36
        refine go_aload0 hc dX14_known_59 ?_
        replace h := goBind h; obtain ⟨b37, e38, h⟩ := h
        refine go_getR hc lk_RX14_192 dX14_known_60 (sh_102 hW) e38 ?_
        refine go_getR hc lk_RX14_223 dX14_known_63 (shM_0 (goW_M4 hW e38)) (rfM_40 (goW_M4 hW e38)) ?_
        refine go_iload2 hc dX14_known_66 ?_
        replace h := goBind h; obtain ⟨x39, e40, h⟩ := h
        refine go_iald hc dX14_known_67 (shM_25 (goW_M4 hW e38)) e40 ?_
        cases h
        exact go_iret hc dX14_known_68 hr
      · replace h := goIfT h c36
        refine go_iconst (v := 0) hc dX14_known_55 rfl ?_
        refine go_goto hc 68 dX14_known_56 rfl ?_
        cases h
        exact go_iret hc dX14_known_68 hr
    refine go_icmp_eq hc 42 dX14_known_26 rfl (fun c26 => ?_) (fun c26 => ?_)
    · replace e24 := goIfT e24 c26
      refine go_aload0 hc dX14_known_42 ?_
      refine go_iconst (v := 2) hc dX14_known_43 rfl ?_
      replace e24 := goBind e24; obtain ⟨M27, e28, e24⟩ := e24
      refine go_callVv hc dX14_known_44 (mX14_flaw hk hW e28) ml_RX14_143 yk_X14_flaw ⟨wim_X14_flaw, wse_X14_flaw⟩ hR rfl (sh_102 hW) rfl rfl rfl (Nat.le_of_ble_eq_true rfl) rfl ?_
      cases e24
      exact k25 _
    · replace e24 := goIfF e24 c26
      refine go_aload0 hc dX14_known_29 ?_
      replace e24 := goBind e24; obtain ⟨b29, e30, e24⟩ := e24
      refine go_getR hc lk_RX14_192 dX14_known_30 (sh_102 hW) e30 ?_
      refine go_getR hc lk_RX14_220 dX14_known_33 (shM_0 (goW_M4 hW e30)) (rfM_39 (goW_M4 hW e30)) ?_
      refine go_iload2 hc dX14_known_36 ?_
      replace e24 := goBind e24; obtain ⟨x31, e32, e24⟩ := e24
      refine go_iald hc dX14_known_37 (shM_24 (goW_M4 hW e30)) e32 ?_
      refine go_iload1 hc dX14_known_38 ?_
      refine go_icmp_eq hc 47 dX14_known_39 rfl (fun c33 => ?_) (fun c33 => ?_)
      · replace e24 := goIfT e24 c33
        cases e24
        exact k25 _
      · replace e24 := goIfF e24 c33
        refine go_aload0 hc dX14_known_42 ?_
        refine go_iconst (v := 2) hc dX14_known_43 rfl ?_
        replace e24 := goBind e24; obtain ⟨M34, e35, e24⟩ := e24
        refine go_callVv hc dX14_known_44 (mX14_flaw hk hW e35) ml_RX14_143 yk_X14_flaw ⟨wim_X14_flaw, wse_X14_flaw⟩ hR rfl (sh_102 hW) rfl rfl rfl (Nat.le_of_ble_eq_true rfl) rfl ?_
        cases e24
        exact k25 _
  refine go_if_ne hc 12 dX14_known_4 rfl (fun c16 => ?_) (fun c16 => ?_)
  · replace e14 := goIfF e14 c16
    cases e14
    exact k15 _
  · replace e14 := goIfT e14 c16
    refine go_aload0 hc dX14_known_7 ?_
    refine go_iconst (v := 1) hc dX14_known_8 rfl ?_
    replace e14 := goBind e14; obtain ⟨M17, e18, e14⟩ := e14
    refine go_callVv hc dX14_known_9 (mX14_flaw hk hW e18) ml_RX14_143 yk_X14_flaw ⟨wim_X14_flaw, wse_X14_flaw⟩ hR rfl (sh_102 hW) rfl rfl rfl (Nat.le_of_ble_eq_true rfl) rfl ?_
    cases e14
    exact k15 _
theorem dX14_readKnown_0 : decode cX14_readKnown 0 = .ok (.aload_n 0, 1) := by decide +kernel
theorem dX14_readKnown_1 : decode cX14_readKnown 1 = .ok (.iload_n 1, 1) := by decide +kernel
theorem dX14_readKnown_2 : decode cX14_readKnown 2 = .ok (.invokevirtual 226, 3) := by decide +kernel
theorem dX14_readKnown_5 : decode cX14_readKnown 5 = .ok (.istore_n 2, 1) := by decide +kernel
theorem dX14_readKnown_6 : decode cX14_readKnown 6 = .ok (.aload_n 0, 1) := by decide +kernel
theorem dX14_readKnown_7 : decode cX14_readKnown 7 = .ok (.invokevirtual 136, 3) := by decide +kernel
theorem dX14_readKnown_10 : decode cX14_readKnown 10 = .ok (.iload_n 2, 1) := by decide +kernel
theorem dX14_readKnown_11 : decode cX14_readKnown 11 = .ok (.ireturn, 1) := by decide +kernel
set_option maxRecDepth 100000 in
set_option maxHeartbeats 4000000 in
theorem mX14_readKnown {E : goEv} {l : Launch} {G : goG} {N : Nat} {M : goMI} {L : goML} {R : goMR} {v1 : Int32} {r0 : Int32} {r1 : goMI} {r2 : goML} (hk : goKn E) (hW : goW G R) (h : fX14_readKnown N M L R v1 = some (r0, r1, r2)) : Met l yX14_readKnown (goCd yX14_readKnown cX14_readKnown 3 (Option.some FieldType.int)) (goRoom 9 192 0 0) (goPre E [.ref 102, .int v1] G M L R) (goQi E r0 G r1 r2 R) 0 0 (goSet E) := by
  refine goMet pl_RX14 hk (lv := [some (.ref 102), some (.int v1), none]) rfl (Nat.le_of_ble_eq_true rfl) ?_
  intro X hc hl hR hr hnm
  subst hl
  unfold fX14_readKnown at h
  refine go_aload0 hc dX14_readKnown_0 ?_
  refine go_iload1 hc dX14_readKnown_1 ?_
  replace h := goB2_h h; obtain ⟨x11, M12, e13, h⟩ := h
  refine go_callVi hc dX14_readKnown_2 (mX14_known hk hW e13) ml_RX14_226 yk_X14_known ⟨wim_X14_known, wse_X14_known⟩ hR rfl (sh_102 hW) rfl rfl rfl (Nat.le_of_ble_eq_true rfl) rfl ?_
  refine go_istore2 hc dX14_readKnown_5 ?_
  refine go_aload0 hc dX14_readKnown_6 ?_
  replace h := goB2_h h; obtain ⟨M14, L15, e16, h⟩ := h
  refine go_callVv hc dX14_readKnown_7 (mX14_goesOn hk hW e16) ml_RX14_136 yk_X14_goesOn ⟨wim_X14_goesOn, wse_X14_goesOn⟩ hR rfl (sh_102 hW) rfl rfl rfl (Nat.le_of_ble_eq_true rfl) rfl ?_
  refine go_iload2 hc dX14_readKnown_10 ?_
  cases h
  exact go_iret hc dX14_readKnown_11 hr
theorem dX14_readPlants_0 : decode cX14_readPlants 0 = .ok (.iconst 0, 1) := by decide +kernel
theorem dX14_readPlants_1 : decode cX14_readPlants 1 = .ok (.istore 4, 2) := by decide +kernel
theorem dX14_readPlants_3 : decode cX14_readPlants 3 = .ok (.iload 4, 2) := by decide +kernel
theorem dX14_readPlants_5 : decode cX14_readPlants 5 = .ok (.aload_n 0, 1) := by decide +kernel
theorem dX14_readPlants_6 : decode cX14_readPlants 6 = .ok (.getfield 192, 3) := by decide +kernel
theorem dX14_readPlants_9 : decode cX14_readPlants 9 = .ok (.getfield 229, 3) := by decide +kernel
theorem dX14_readPlants_12 : decode cX14_readPlants 12 = .ok (.if_icmp .ge 40, 3) := by decide +kernel
theorem dX14_readPlants_15 : decode cX14_readPlants 15 = .ok (.aload_n 0, 1) := by decide +kernel
theorem dX14_readPlants_16 : decode cX14_readPlants 16 = .ok (.getfield 94, 3) := by decide +kernel
theorem dX14_readPlants_19 : decode cX14_readPlants 19 = .ok (.iconst 5, 1) := by decide +kernel
theorem dX14_readPlants_20 : decode cX14_readPlants 20 = .ok (.if_icmp .eq 32, 3) := by decide +kernel
theorem dX14_readPlants_23 : decode cX14_readPlants 23 = .ok (.iload 4, 2) := by decide +kernel
theorem dX14_readPlants_25 : decode cX14_readPlants 25 = .ok (.ifCond .le 9, 3) := by decide +kernel
theorem dX14_readPlants_28 : decode cX14_readPlants 28 = .ok (.aload_n 0, 1) := by decide +kernel
theorem dX14_readPlants_29 : decode cX14_readPlants 29 = .ok (.bipush 44, 2) := by decide +kernel
theorem dX14_readPlants_31 : decode cX14_readPlants 31 = .ok (.invokevirtual 232, 3) := by decide +kernel
theorem dX14_readPlants_34 : decode cX14_readPlants 34 = .ok (.aload_n 1, 1) := by decide +kernel
theorem dX14_readPlants_35 : decode cX14_readPlants 35 = .ok (.iload_n 2, 1) := by decide +kernel
theorem dX14_readPlants_36 : decode cX14_readPlants 36 = .ok (.iload 4, 2) := by decide +kernel
theorem dX14_readPlants_38 : decode cX14_readPlants 38 = .ok (.iadd, 1) := by decide +kernel
theorem dX14_readPlants_39 : decode cX14_readPlants 39 = .ok (.aload_n 0, 1) := by decide +kernel
theorem dX14_readPlants_40 : decode cX14_readPlants 40 = .ok (.iconst 0, 1) := by decide +kernel
theorem dX14_readPlants_41 : decode cX14_readPlants 41 = .ok (.iload_n 3, 1) := by decide +kernel
theorem dX14_readPlants_42 : decode cX14_readPlants 42 = .ok (.invokevirtual 155, 3) := by decide +kernel
theorem dX14_readPlants_45 : decode cX14_readPlants 45 = .ok (.iastore, 1) := by decide +kernel
theorem dX14_readPlants_46 : decode cX14_readPlants 46 = .ok (.iinc 4 1, 3) := by decide +kernel
theorem dX14_readPlants_49 : decode cX14_readPlants 49 = .ok (.goto (-46), 3) := by decide +kernel
theorem dX14_readPlants_52 : decode cX14_readPlants 52 = .ok (.return_, 1) := by decide +kernel
set_option maxRecDepth 100000 in
set_option maxHeartbeats 4000000 in
theorem mX14_readPlants_L3 {E : goEv} {X : goX} {G : goG} {Q : State → Prop} {R : goMR} {N : Nat} {v2 : Int32} {v3 : Int32} {a1 : Nat} {n1 : Nat} (hc : goCx E X cX14_readPlants RX14 5) (hk : goKn E) (hR : X.2.2.2.1 = goRoom 3 66 0 0) (hr : X.2.2.2.2.2.2.2.2.1.sig.returnType = none) (hW : goW G R) (m1 : a1 < G.2 ∧ G.1 a1 = (1, n1)) : ∀ (n : Nat) (v4 : Int32) (M : goMI) (L : goML) (r0 : goMI) (r1 : goML), lX14_readPlants_3 N v2 v3 R a1 n1 n v4 M L = some (r0, r1) → (∀ (d0 d1 d2 d3 d4 : Option Value), goA E X G 0 0 Q 52 [d0, d1, d2, d3, d4] [] r0 r1 R) → goA E X G 0 0 Q 3 [some (.ref 102), some (.ref a1), some (.int v2), some (.int v3), some (.int v4)] [] M L R := by
  intro n
  induction n with
  | zero => intro v4 M L r0 r1 h; exact nomatch h
  | succ n ih =>
    intro v4 M L r0 r1 h kx
    rw [lX14_readPlants_3] at h
    refine go_iload4 hc dX14_readPlants_3 ?_
    refine go_aload0 hc dX14_readPlants_5 ?_
    replace h := goBind h; obtain ⟨b11, e12, h⟩ := h
    refine go_getR hc lk_RX14_192 dX14_readPlants_6 (sh_102 hW) e12 ?_
    refine go_getI hc lk_RX14_229 dX14_readPlants_9 (shM_0 (goW_M4 hW e12)) ?_
    refine go_icmp_ge hc 52 dX14_readPlants_12 rfl (fun c13 => ?_) (fun c13 => ?_)
    · replace h := goIfF h c13
      cases h
      exact kx _ _ _ _ _
    · replace h := goIfT h c13
      refine go_aload0 hc dX14_readPlants_15 ?_
      refine go_getI hc lk_RX14_94 dX14_readPlants_16 (sh_102 hW) ?_
      refine go_iconst (v := 5) hc dX14_readPlants_19 rfl ?_
      refine go_icmp_eq hc 52 dX14_readPlants_20 rfl (fun c14 => ?_) (fun c14 => ?_)
      · replace h := goIfT h c14
        cases h
        exact kx _ _ _ _ _
      · replace h := goIfF h c14
        refine go_iload4 hc dX14_readPlants_23 ?_
        replace h := goB2_h h; obtain ⟨M15, L16, e17, h⟩ := h
        have k18 : goA E X G 0 0 Q 34 [some (.ref 102), some (.ref a1), some (.int v2), some (.int v3), some (.int v4)] [] M15 L16 R := by
          refine go_aload1 hc dX14_readPlants_34 ?_
          refine go_iload2 hc dX14_readPlants_35 ?_
          refine go_iload4 hc dX14_readPlants_36 ?_
          refine go_iadd hc dX14_readPlants_38 ?_
          refine go_aload0 hc dX14_readPlants_39 ?_
          refine go_iconst (v := 0) hc dX14_readPlants_40 rfl ?_
          refine go_iload3 hc dX14_readPlants_41 ?_
          replace h := goB3_h h; obtain ⟨x23, M24, L25, e26, h⟩ := h
          refine go_callVi hc dX14_readPlants_42 (mX14_readWhole hk hW e26) ml_RX14_155 yk_X14_readWhole ⟨wim_X14_readWhole, wse_X14_readWhole⟩ hR rfl (sh_102 hW) rfl rfl rfl (Nat.le_of_ble_eq_true rfl) rfl ?_
          replace h := goBind h; obtain ⟨M27, e28, h⟩ := h
          refine go_iast hc dX14_readPlants_45 m1 e28 ?_
          refine go_iinc4 (v := (v4 + 1)) hc dX14_readPlants_46 rfl ?_
          refine go_goto hc 3 dX14_readPlants_49 rfl ?_
          exact ih _ _ _ _ _ h kx
        refine go_if_le hc 34 dX14_readPlants_25 rfl (fun c19 => ?_) (fun c19 => ?_)
        · replace e17 := goIfF e17 c19
          cases e17
          exact k18
        · replace e17 := goIfT e17 c19
          refine go_aload0 hc dX14_readPlants_28 ?_
          refine go_bipush (v := 44) hc dX14_readPlants_29 rfl ?_
          replace e17 := goB2_h e17; obtain ⟨M20, L21, e22, e17⟩ := e17
          refine go_callVv hc dX14_readPlants_31 (mX14_needsSign hk hW e22) ml_RX14_232 yk_X14_needsSign ⟨wim_X14_needsSign, wse_X14_needsSign⟩ hR rfl (sh_102 hW) rfl rfl rfl (Nat.le_of_ble_eq_true rfl) rfl ?_
          cases e17
          exact k18
set_option maxRecDepth 100000 in
set_option maxHeartbeats 4000000 in
theorem mX14_readPlants {E : goEv} {l : Launch} {G : goG} {N : Nat} {M : goMI} {L : goML} {R : goMR} {a1 n1 : Nat} {v2 : Int32} {v3 : Int32} {r0 : goMI} {r1 : goML} (hk : goKn E) (hW : goW G R) (m1 : a1 < G.2 ∧ G.1 a1 = (1, n1)) (h : fX14_readPlants N M L R a1 n1 v2 v3 = some (r0, r1)) : Met l yX14_readPlants (goCd yX14_readPlants cX14_readPlants 5 none) (goRoom 3 66 0 0) (goPre E [.ref 102, .ref a1, .int v2, .int v3] G M L R) (goQv E G r0 r1 R) 0 0 (goSet E) := by
  refine goMet pl_RX14 hk (lv := [some (.ref 102), some (.ref a1), some (.int v2), some (.int v3), none]) rfl (Nat.le_of_ble_eq_true rfl) ?_
  intro X hc hl hR hr hnm
  subst hl
  unfold fX14_readPlants at h
  refine go_iconst (v := 0) hc dX14_readPlants_0 rfl ?_
  refine go_istore4 hc dX14_readPlants_1 ?_
  replace h := goB2_h h; obtain ⟨M30, L31, e29, h⟩ := h
  refine mX14_readPlants_L3 hc hk hR hr hW m1 _ _ _ _ _ _ e29 (fun d0 d1 d2 d3 d4 => ?_)
  cases h
  exact go_vret hc dX14_readPlants_52 hr
theorem dX14_readHill_0 : decode cX14_readHill 0 = .ok (.aload_n 0, 1) := by decide +kernel
theorem dX14_readHill_1 : decode cX14_readHill 1 = .ok (.getfield 192, 3) := by decide +kernel
theorem dX14_readHill_4 : decode cX14_readHill 4 = .ok (.getfield 196, 3) := by decide +kernel
theorem dX14_readHill_7 : decode cX14_readHill 7 = .ok (.ifCond .le 8, 3) := by decide +kernel
theorem dX14_readHill_10 : decode cX14_readHill 10 = .ok (.aload_n 0, 1) := by decide +kernel
theorem dX14_readHill_11 : decode cX14_readHill 11 = .ok (.iconst 3, 1) := by decide +kernel
theorem dX14_readHill_12 : decode cX14_readHill 12 = .ok (.invokevirtual 143, 3) := by decide +kernel
theorem dX14_readHill_15 : decode cX14_readHill 15 = .ok (.aload_n 0, 1) := by decide +kernel
theorem dX14_readHill_16 : decode cX14_readHill 16 = .ok (.invokevirtual 136, 3) := by decide +kernel
theorem dX14_readHill_19 : decode cX14_readHill 19 = .ok (.aload_n 0, 1) := by decide +kernel
theorem dX14_readHill_20 : decode cX14_readHill 20 = .ok (.ldc_w 286, 3) := by decide +kernel
theorem dX14_readHill_23 : decode cX14_readHill 23 = .ok (.iconst 2, 1) := by decide +kernel
theorem dX14_readHill_24 : decode cX14_readHill 24 = .ok (.bipush 12, 2) := by decide +kernel
theorem dX14_readHill_26 : decode cX14_readHill 26 = .ok (.invokevirtual 287, 3) := by decide +kernel
theorem dX14_readHill_29 : decode cX14_readHill 29 = .ok (.istore_n 1, 1) := by decide +kernel
theorem dX14_readHill_30 : decode cX14_readHill 30 = .ok (.aload_n 0, 1) := by decide +kernel
theorem dX14_readHill_31 : decode cX14_readHill 31 = .ok (.ldc_w 291, 3) := by decide +kernel
theorem dX14_readHill_34 : decode cX14_readHill 34 = .ok (.iconst 1, 1) := by decide +kernel
theorem dX14_readHill_35 : decode cX14_readHill 35 = .ok (.iconst 4, 1) := by decide +kernel
theorem dX14_readHill_36 : decode cX14_readHill 36 = .ok (.invokevirtual 287, 3) := by decide +kernel
theorem dX14_readHill_39 : decode cX14_readHill 39 = .ok (.istore_n 2, 1) := by decide +kernel
theorem dX14_readHill_40 : decode cX14_readHill 40 = .ok (.aload_n 0, 1) := by decide +kernel
theorem dX14_readHill_41 : decode cX14_readHill 41 = .ok (.getfield 94, 3) := by decide +kernel
theorem dX14_readHill_44 : decode cX14_readHill 44 = .ok (.iconst 5, 1) := by decide +kernel
theorem dX14_readHill_45 : decode cX14_readHill 45 = .ok (.if_icmp .ne 4, 3) := by decide +kernel
theorem dX14_readHill_48 : decode cX14_readHill 48 = .ok (.return_, 1) := by decide +kernel
theorem dX14_readHill_49 : decode cX14_readHill 49 = .ok (.aload_n 0, 1) := by decide +kernel
theorem dX14_readHill_50 : decode cX14_readHill 50 = .ok (.getfield 192, 3) := by decide +kernel
theorem dX14_readHill_53 : decode cX14_readHill 53 = .ok (.iload_n 1, 1) := by decide +kernel
theorem dX14_readHill_54 : decode cX14_readHill 54 = .ok (.putfield 196, 3) := by decide +kernel
theorem dX14_readHill_57 : decode cX14_readHill 57 = .ok (.aload_n 0, 1) := by decide +kernel
theorem dX14_readHill_58 : decode cX14_readHill 58 = .ok (.getfield 192, 3) := by decide +kernel
theorem dX14_readHill_61 : decode cX14_readHill 61 = .ok (.iload_n 2, 1) := by decide +kernel
theorem dX14_readHill_62 : decode cX14_readHill 62 = .ok (.putfield 229, 3) := by decide +kernel
theorem dX14_readHill_65 : decode cX14_readHill 65 = .ok (.return_, 1) := by decide +kernel
set_option maxRecDepth 100000 in
set_option maxHeartbeats 4000000 in
theorem mX14_readHill {E : goEv} {l : Launch} {G : goG} {N : Nat} {M : goMI} {L : goML} {R : goMR} {r0 : goMI} {r1 : goML} (hk : goKn E) (hW : goW G R) (h : fX14_readHill N M L R = some (r0, r1)) : Met l yX14_readHill (goCd yX14_readHill cX14_readHill 3 none) (goRoom 9 194 0 0) (goPre E [.ref 102] G M L R) (goQv E G r0 r1 R) 0 0 (goSet E) := by
  refine goMet pl_RX14 hk (lv := [some (.ref 102), none, none]) rfl (Nat.le_of_ble_eq_true rfl) ?_
  intro X hc hl hR hr hnm
  subst hl
  unfold fX14_readHill at h
  refine go_aload0 hc dX14_readHill_0 ?_
  replace h := goBind h; obtain ⟨b11, e12, h⟩ := h
  refine go_getR hc lk_RX14_192 dX14_readHill_1 (sh_102 hW) e12 ?_
  refine go_getI hc lk_RX14_196 dX14_readHill_4 (shM_0 (goW_M4 hW e12)) ?_
  replace h := goBind h; obtain ⟨M13, e14, h⟩ := h
  have k15 : ∀ (d1 d2 : Option Value), goA E X G 0 0 (goMQ X E (goQv E G r0 r1 R) 0 0) 15 [some (.ref 102), d1, d2] [] M13 L R := by
    intro d1 d2
    refine go_aload0 hc dX14_readHill_15 ?_
    replace h := goB2_h h; obtain ⟨M19, L20, e21, h⟩ := h
    refine go_callVv hc dX14_readHill_16 (mX14_goesOn hk hW e21) ml_RX14_136 yk_X14_goesOn ⟨wim_X14_goesOn, wse_X14_goesOn⟩ hR rfl (sh_102 hW) rfl rfl rfl (Nat.le_of_ble_eq_true rfl) rfl ?_
    refine go_aload0 hc dX14_readHill_19 ?_
    refine go_ldcwS hc (i := 47) (q := 1000147) (Nat.le_of_ble_eq_true rfl) rfl rfl rfl dX14_readHill_20 ?_
    refine go_iconst (v := 2) hc dX14_readHill_23 rfl ?_
    refine go_bipush (v := 12) hc dX14_readHill_24 rfl ?_
    replace h := goB3_h h; obtain ⟨x22, M23, L24, e25, h⟩ := h
    refine go_callVi hc dX14_readHill_26 (mX14_readPart hk hW e25) ml_RX14_287 yk_X14_readPart ⟨wim_X14_readPart, wse_X14_readPart⟩ hR rfl (sh_102 hW) rfl rfl rfl (Nat.le_of_ble_eq_true rfl) rfl ?_
    refine go_istore1 hc dX14_readHill_29 ?_
    refine go_aload0 hc dX14_readHill_30 ?_
    refine go_ldcwS hc (i := 48) (q := 1000148) (Nat.le_of_ble_eq_true rfl) rfl rfl rfl dX14_readHill_31 ?_
    refine go_iconst (v := 1) hc dX14_readHill_34 rfl ?_
    refine go_iconst (v := 4) hc dX14_readHill_35 rfl ?_
    replace h := goB3_h h; obtain ⟨x26, M27, L28, e29, h⟩ := h
    refine go_callVi hc dX14_readHill_36 (mX14_readPart hk hW e29) ml_RX14_287 yk_X14_readPart ⟨wim_X14_readPart, wse_X14_readPart⟩ hR rfl (sh_102 hW) rfl rfl rfl (Nat.le_of_ble_eq_true rfl) rfl ?_
    refine go_istore2 hc dX14_readHill_39 ?_
    refine go_aload0 hc dX14_readHill_40 ?_
    refine go_getI hc lk_RX14_94 dX14_readHill_41 (sh_102 hW) ?_
    refine go_iconst (v := 5) hc dX14_readHill_44 rfl ?_
    refine go_icmp_ne hc 49 dX14_readHill_45 rfl (fun c30 => ?_) (fun c30 => ?_)
    · replace h := goIfF h c30
      refine go_aload0 hc dX14_readHill_49 ?_
      replace h := goBind h; obtain ⟨b31, e32, h⟩ := h
      refine go_getR hc lk_RX14_192 dX14_readHill_50 (sh_102 hW) e32 ?_
      refine go_iload1 hc dX14_readHill_53 ?_
      replace h := goNm_x h; obtain ⟨M33, e34, h⟩ := h
      refine go_ptI hc lk_RX14_196 dX14_readHill_54 (shM_0 (goW_M4 hW e32)) e34 ?_
      refine go_aload0 hc dX14_readHill_57 ?_
      replace h := goBind h; obtain ⟨b35, e36, h⟩ := h
      refine go_getR hc lk_RX14_192 dX14_readHill_58 (sh_102 hW) e36 ?_
      refine go_iload2 hc dX14_readHill_61 ?_
      replace h := goNm_x h; obtain ⟨M37, e38, h⟩ := h
      refine go_ptI hc lk_RX14_229 dX14_readHill_62 (shM_0 (goW_M4 hW e36)) e38 ?_
      cases h
      exact go_vret hc dX14_readHill_65 hr
    · replace h := goIfT h c30
      cases h
      exact go_vret hc dX14_readHill_48 hr
  refine go_if_le hc 15 dX14_readHill_7 rfl (fun c16 => ?_) (fun c16 => ?_)
  · replace e14 := goIfF e14 c16
    cases e14
    exact k15 _ _
  · replace e14 := goIfT e14 c16
    refine go_aload0 hc dX14_readHill_10 ?_
    refine go_iconst (v := 3) hc dX14_readHill_11 rfl ?_
    replace e14 := goBind e14; obtain ⟨M17, e18, e14⟩ := e14
    refine go_callVv hc dX14_readHill_12 (mX14_flaw hk hW e18) ml_RX14_143 yk_X14_flaw ⟨wim_X14_flaw, wse_X14_flaw⟩ hR rfl (sh_102 hW) rfl rfl rfl (Nat.le_of_ble_eq_true rfl) rfl ?_
    cases e14
    exact k15 _ _
theorem dX14_readPlace_0 : decode cX14_readPlace 0 = .ok (.aload_n 0, 1) := by decide +kernel
theorem dX14_readPlace_1 : decode cX14_readPlace 1 = .ok (.aload_n 0, 1) := by decide +kernel
theorem dX14_readPlace_2 : decode cX14_readPlace 2 = .ok (.getfield 192, 3) := by decide +kernel
theorem dX14_readPlace_5 : decode cX14_readPlace 5 = .ok (.getfield 241, 3) := by decide +kernel
theorem dX14_readPlace_8 : decode cX14_readPlace 8 = .ok (.bipush 8, 2) := by decide +kernel
theorem dX14_readPlace_10 : decode cX14_readPlace 10 = .ok (.invokevirtual 201, 3) := by decide +kernel
theorem dX14_readPlace_13 : decode cX14_readPlace 13 = .ok (.aload_n 0, 1) := by decide +kernel
theorem dX14_readPlace_14 : decode cX14_readPlace 14 = .ok (.invokevirtual 292, 3) := by decide +kernel
theorem dX14_readPlace_17 : decode cX14_readPlace 17 = .ok (.lstore_n 1, 1) := by decide +kernel
theorem dX14_readPlace_18 : decode cX14_readPlace 18 = .ok (.aload_n 0, 1) := by decide +kernel
theorem dX14_readPlace_19 : decode cX14_readPlace 19 = .ok (.aload_n 0, 1) := by decide +kernel
theorem dX14_readPlace_20 : decode cX14_readPlace 20 = .ok (.getfield 192, 3) := by decide +kernel
theorem dX14_readPlace_23 : decode cX14_readPlace 23 = .ok (.getfield 296, 3) := by decide +kernel
theorem dX14_readPlace_26 : decode cX14_readPlace 26 = .ok (.iconst 4, 1) := by decide +kernel
theorem dX14_readPlace_27 : decode cX14_readPlace 27 = .ok (.aload_n 0, 1) := by decide +kernel
theorem dX14_readPlace_28 : decode cX14_readPlace 28 = .ok (.getfield 192, 3) := by decide +kernel
theorem dX14_readPlace_31 : decode cX14_readPlace 31 = .ok (.getfield 241, 3) := by decide +kernel
theorem dX14_readPlace_34 : decode cX14_readPlace 34 = .ok (.bipush 8, 2) := by decide +kernel
theorem dX14_readPlace_36 : decode cX14_readPlace 36 = .ok (.if_icmp .ge 13, 3) := by decide +kernel
theorem dX14_readPlace_39 : decode cX14_readPlace 39 = .ok (.aload_n 0, 1) := by decide +kernel
theorem dX14_readPlace_40 : decode cX14_readPlace 40 = .ok (.getfield 192, 3) := by decide +kernel
theorem dX14_readPlace_43 : decode cX14_readPlace 43 = .ok (.getfield 241, 3) := by decide +kernel
theorem dX14_readPlace_46 : decode cX14_readPlace 46 = .ok (.goto 4, 3) := by decide +kernel
theorem dX14_readPlace_49 : decode cX14_readPlace 49 = .ok (.iconst 0, 1) := by decide +kernel
theorem dX14_readPlace_50 : decode cX14_readPlace 50 = .ok (.imul, 1) := by decide +kernel
theorem dX14_readPlace_51 : decode cX14_readPlace 51 = .ok (.bipush 9, 2) := by decide +kernel
theorem dX14_readPlace_53 : decode cX14_readPlace 53 = .ok (.invokevirtual 299, 3) := by decide +kernel
theorem dX14_readPlace_56 : decode cX14_readPlace 56 = .ok (.aload_n 0, 1) := by decide +kernel
theorem dX14_readPlace_57 : decode cX14_readPlace 57 = .ok (.getfield 94, 3) := by decide +kernel
theorem dX14_readPlace_60 : decode cX14_readPlace 60 = .ok (.iconst 5, 1) := by decide +kernel
theorem dX14_readPlace_61 : decode cX14_readPlace 61 = .ok (.if_icmp .ne 4, 3) := by decide +kernel
theorem dX14_readPlace_64 : decode cX14_readPlace 64 = .ok (.return_, 1) := by decide +kernel
theorem dX14_readPlace_65 : decode cX14_readPlace 65 = .ok (.aload_n 0, 1) := by decide +kernel
theorem dX14_readPlace_66 : decode cX14_readPlace 66 = .ok (.lload_n 1, 1) := by decide +kernel
theorem dX14_readPlace_67 : decode cX14_readPlace 67 = .ok (.iconst 0, 1) := by decide +kernel
theorem dX14_readPlace_68 : decode cX14_readPlace 68 = .ok (.aload_n 0, 1) := by decide +kernel
theorem dX14_readPlace_69 : decode cX14_readPlace 69 = .ok (.getfield 192, 3) := by decide +kernel
theorem dX14_readPlace_72 : decode cX14_readPlace 72 = .ok (.getfield 241, 3) := by decide +kernel
theorem dX14_readPlace_75 : decode cX14_readPlace 75 = .ok (.invokevirtual 303, 3) := by decide +kernel
theorem dX14_readPlace_78 : decode cX14_readPlace 78 = .ok (.aload_n 0, 1) := by decide +kernel
theorem dX14_readPlace_79 : decode cX14_readPlace 79 = .ok (.getfield 192, 3) := by decide +kernel
theorem dX14_readPlace_82 : decode cX14_readPlace 82 = .ok (.dup, 1) := by decide +kernel
theorem dX14_readPlace_83 : decode cX14_readPlace 83 = .ok (.getfield 241, 3) := by decide +kernel
theorem dX14_readPlace_86 : decode cX14_readPlace 86 = .ok (.iconst 1, 1) := by decide +kernel
theorem dX14_readPlace_87 : decode cX14_readPlace 87 = .ok (.iadd, 1) := by decide +kernel
theorem dX14_readPlace_88 : decode cX14_readPlace 88 = .ok (.putfield 241, 3) := by decide +kernel
theorem dX14_readPlace_91 : decode cX14_readPlace 91 = .ok (.return_, 1) := by decide +kernel
set_option maxRecDepth 100000 in
set_option maxHeartbeats 4000000 in
theorem mX14_readPlace {E : goEv} {l : Launch} {G : goG} {N : Nat} {M : goMI} {L : goML} {R : goMR} {r0 : goMI} {r1 : goML} (hk : goKn E) (hW : goW G R) (h : fX14_readPlace N M L R = some (r0, r1)) : Met l yX14_readPlace (goCd yX14_readPlace cX14_readPlace 3 none) (goRoom 9 192 0 0) (goPre E [.ref 102] G M L R) (goQv E G r0 r1 R) 0 0 (goSet E) := by
  refine goMet pl_RX14 hk (lv := [some (.ref 102), none, none]) rfl (Nat.le_of_ble_eq_true rfl) ?_
  intro X hc hl hR hr hnm
  subst hl
  unfold fX14_readPlace at h
  refine go_aload0 hc dX14_readPlace_0 ?_
  refine go_aload0 hc dX14_readPlace_1 ?_
  replace h := goBind h; obtain ⟨b11, e12, h⟩ := h
  refine go_getR hc lk_RX14_192 dX14_readPlace_2 (sh_102 hW) e12 ?_
  refine go_getI hc lk_RX14_241 dX14_readPlace_5 (shM_0 (goW_M4 hW e12)) ?_
  refine go_bipush (v := 8) hc dX14_readPlace_8 rfl ?_
  replace h := goB2_h h; obtain ⟨M13, L14, e15, h⟩ := h
  refine go_callVv hc dX14_readPlace_10 (mX14_begins hk hW e15) ml_RX14_201 yk_X14_begins ⟨wim_X14_begins, wse_X14_begins⟩ hR rfl (sh_102 hW) rfl rfl rfl (Nat.le_of_ble_eq_true rfl) rfl ?_
  refine go_aload0 hc dX14_readPlace_13 ?_
  replace h := goB3_h h; obtain ⟨x16, M17, L18, e19, h⟩ := h
  refine go_callVl hc dX14_readPlace_14 (mX14_readFresh hk hW e19) ml_RX14_292 yk_X14_readFresh ⟨wim_X14_readFresh, wse_X14_readFresh⟩ hR rfl (sh_102 hW) rfl rfl rfl (Nat.le_of_ble_eq_true rfl) rfl ?_
  refine go_lstore1 hc dX14_readPlace_17 ?_
  refine go_aload0 hc dX14_readPlace_18 ?_
  refine go_aload0 hc dX14_readPlace_19 ?_
  replace h := goBind h; obtain ⟨b20, e21, h⟩ := h
  refine go_getR hc lk_RX14_192 dX14_readPlace_20 (sh_102 hW) e21 ?_
  refine go_getR hc lk_RX14_296 dX14_readPlace_23 (shM_0 (goW_M4 hW e21)) (rfM_16 (goW_M4 hW e21)) ?_
  refine go_iconst (v := 4) hc dX14_readPlace_26 rfl ?_
  refine go_aload0 hc dX14_readPlace_27 ?_
  replace h := goBind h; obtain ⟨b22, e23, h⟩ := h
  refine go_getR hc lk_RX14_192 dX14_readPlace_28 (sh_102 hW) e23 ?_
  refine go_getI hc lk_RX14_241 dX14_readPlace_31 (shM_0 (goW_M4 hW e23)) ?_
  refine go_bipush (v := 8) hc dX14_readPlace_34 rfl ?_
  replace h := goBind h; obtain ⟨x24, e25, h⟩ := h
  have k26 : goA E X G 0 0 (goMQ X E (goQv E G r0 r1 R) 0 0) 50 [some (.ref 102), some (.long x16), none] [.int x24, .int 4, .ref (b20 + 1), .ref 102] M17 L18 R := by
    refine go_imul hc dX14_readPlace_50 ?_
    refine go_bipush (v := 9) hc dX14_readPlace_51 rfl ?_
    replace h := goB2_h h; obtain ⟨M30, L31, e32, h⟩ := h
    refine go_callVv hc dX14_readPlace_53 (mX14_readPlants hk hW (shM_1 (goW_M4 hW e21)) e32) ml_RX14_299 yk_X14_readPlants ⟨wim_X14_readPlants, wse_X14_readPlants⟩ hR rfl (sh_102 hW) rfl rfl rfl (Nat.le_of_ble_eq_true rfl) rfl ?_
    refine go_aload0 hc dX14_readPlace_56 ?_
    refine go_getI hc lk_RX14_94 dX14_readPlace_57 (sh_102 hW) ?_
    refine go_iconst (v := 5) hc dX14_readPlace_60 rfl ?_
    refine go_icmp_ne hc 65 dX14_readPlace_61 rfl (fun c33 => ?_) (fun c33 => ?_)
    · replace h := goIfF h c33
      refine go_aload0 hc dX14_readPlace_65 ?_
      refine go_lload1 hc dX14_readPlace_66 ?_
      refine go_iconst (v := 0) hc dX14_readPlace_67 rfl ?_
      refine go_aload0 hc dX14_readPlace_68 ?_
      replace h := goBind h; obtain ⟨b34, e35, h⟩ := h
      refine go_getR hc lk_RX14_192 dX14_readPlace_69 (sh_102 hW) e35 ?_
      refine go_getI hc lk_RX14_241 dX14_readPlace_72 (shM_0 (goW_M4 hW e35)) ?_
      replace h := goB2_h h; obtain ⟨M36, L37, e38, h⟩ := h
      refine go_callVv hc dX14_readPlace_75 (mX14_names hk hW e38) ml_RX14_303 yk_X14_names ⟨wim_X14_names, wse_X14_names⟩ hR rfl (sh_102 hW) rfl rfl rfl (Nat.le_of_ble_eq_true rfl) rfl ?_
      refine go_aload0 hc dX14_readPlace_78 ?_
      replace h := goBind h; obtain ⟨b39, e40, h⟩ := h
      refine go_getR hc lk_RX14_192 dX14_readPlace_79 (sh_102 hW) e40 ?_
      refine go_dupr hc dX14_readPlace_82 ?_
      refine go_getI hc lk_RX14_241 dX14_readPlace_83 (shM_0 (goW_M4 hW e40)) ?_
      refine go_iconst (v := 1) hc dX14_readPlace_86 rfl ?_
      refine go_iadd hc dX14_readPlace_87 ?_
      replace h := goNm_x h; obtain ⟨M41, e42, h⟩ := h
      refine go_ptI hc lk_RX14_241 dX14_readPlace_88 (shM_0 (goW_M4 hW e40)) e42 ?_
      cases h
      exact go_vret hc dX14_readPlace_91 hr
    · replace h := goIfT h c33
      cases h
      exact go_vret hc dX14_readPlace_64 hr
  refine go_icmp_ge hc 49 dX14_readPlace_36 rfl (fun c27 => ?_) (fun c27 => ?_)
  · replace e25 := goIfF e25 c27
    refine go_iconst (v := 0) hc dX14_readPlace_49 rfl ?_
    cases e25
    exact k26
  · replace e25 := goIfT e25 c27
    refine go_aload0 hc dX14_readPlace_39 ?_
    replace e25 := goBind e25; obtain ⟨b28, e29, e25⟩ := e25
    refine go_getR hc lk_RX14_192 dX14_readPlace_40 (sh_102 hW) e29 ?_
    refine go_getI hc lk_RX14_241 dX14_readPlace_43 (shM_0 (goW_M4 hW e29)) ?_
    refine go_goto hc 50 dX14_readPlace_46 rfl ?_
    cases e25
    exact k26
theorem dX14_readPath_0 : decode cX14_readPath 0 = .ok (.aload_n 0, 1) := by decide +kernel
theorem dX14_readPath_1 : decode cX14_readPath 1 = .ok (.aload_n 0, 1) := by decide +kernel
theorem dX14_readPath_2 : decode cX14_readPath 2 = .ok (.getfield 192, 3) := by decide +kernel
theorem dX14_readPath_5 : decode cX14_readPath 5 = .ok (.getfield 306, 3) := by decide +kernel
theorem dX14_readPath_8 : decode cX14_readPath 8 = .ok (.bipush 14, 2) := by decide +kernel
theorem dX14_readPath_10 : decode cX14_readPath 10 = .ok (.invokevirtual 201, 3) := by decide +kernel
theorem dX14_readPath_13 : decode cX14_readPath 13 = .ok (.aload_n 0, 1) := by decide +kernel
theorem dX14_readPath_14 : decode cX14_readPath 14 = .ok (.iconst 0, 1) := by decide +kernel
theorem dX14_readPath_15 : decode cX14_readPath 15 = .ok (.invokevirtual 309, 3) := by decide +kernel
theorem dX14_readPath_18 : decode cX14_readPath 18 = .ok (.istore_n 1, 1) := by decide +kernel
theorem dX14_readPath_19 : decode cX14_readPath 19 = .ok (.aload_n 0, 1) := by decide +kernel
theorem dX14_readPath_20 : decode cX14_readPath 20 = .ok (.iconst 0, 1) := by decide +kernel
theorem dX14_readPath_21 : decode cX14_readPath 21 = .ok (.invokevirtual 226, 3) := by decide +kernel
theorem dX14_readPath_24 : decode cX14_readPath 24 = .ok (.istore_n 2, 1) := by decide +kernel
theorem dX14_readPath_25 : decode cX14_readPath 25 = .ok (.aload_n 0, 1) := by decide +kernel
theorem dX14_readPath_26 : decode cX14_readPath 26 = .ok (.getfield 94, 3) := by decide +kernel
theorem dX14_readPath_29 : decode cX14_readPath 29 = .ok (.iconst 5, 1) := by decide +kernel
theorem dX14_readPath_30 : decode cX14_readPath 30 = .ok (.if_icmp .eq 26, 3) := by decide +kernel
theorem dX14_readPath_33 : decode cX14_readPath 33 = .ok (.iload_n 1, 1) := by decide +kernel
theorem dX14_readPath_34 : decode cX14_readPath 34 = .ok (.iload_n 2, 1) := by decide +kernel
theorem dX14_readPath_35 : decode cX14_readPath 35 = .ok (.if_icmp .eq 16, 3) := by decide +kernel
theorem dX14_readPath_38 : decode cX14_readPath 38 = .ok (.aload_n 0, 1) := by decide +kernel
theorem dX14_readPath_39 : decode cX14_readPath 39 = .ok (.getfield 192, 3) := by decide +kernel
theorem dX14_readPath_42 : decode cX14_readPath 42 = .ok (.iload_n 1, 1) := by decide +kernel
theorem dX14_readPath_43 : decode cX14_readPath 43 = .ok (.iload_n 2, 1) := by decide +kernel
theorem dX14_readPath_44 : decode cX14_readPath 44 = .ok (.invokevirtual 312, 3) := by decide +kernel
theorem dX14_readPath_47 : decode cX14_readPath 47 = .ok (.iconst (-1), 1) := by decide +kernel
theorem dX14_readPath_48 : decode cX14_readPath 48 = .ok (.if_icmp .eq 8, 3) := by decide +kernel
theorem dX14_readPath_51 : decode cX14_readPath 51 = .ok (.aload_n 0, 1) := by decide +kernel
theorem dX14_readPath_52 : decode cX14_readPath 52 = .ok (.iconst 3, 1) := by decide +kernel
theorem dX14_readPath_53 : decode cX14_readPath 53 = .ok (.invokevirtual 143, 3) := by decide +kernel
theorem dX14_readPath_56 : decode cX14_readPath 56 = .ok (.aload_n 0, 1) := by decide +kernel
theorem dX14_readPath_57 : decode cX14_readPath 57 = .ok (.invokevirtual 136, 3) := by decide +kernel
theorem dX14_readPath_60 : decode cX14_readPath 60 = .ok (.aload_n 0, 1) := by decide +kernel
theorem dX14_readPath_61 : decode cX14_readPath 61 = .ok (.getfield 94, 3) := by decide +kernel
theorem dX14_readPath_64 : decode cX14_readPath 64 = .ok (.iconst 5, 1) := by decide +kernel
theorem dX14_readPath_65 : decode cX14_readPath 65 = .ok (.if_icmp .ne 4, 3) := by decide +kernel
theorem dX14_readPath_68 : decode cX14_readPath 68 = .ok (.return_, 1) := by decide +kernel
theorem dX14_readPath_69 : decode cX14_readPath 69 = .ok (.aload_n 0, 1) := by decide +kernel
theorem dX14_readPath_70 : decode cX14_readPath 70 = .ok (.getfield 192, 3) := by decide +kernel
theorem dX14_readPath_73 : decode cX14_readPath 73 = .ok (.getfield 314, 3) := by decide +kernel
theorem dX14_readPath_76 : decode cX14_readPath 76 = .ok (.aload_n 0, 1) := by decide +kernel
theorem dX14_readPath_77 : decode cX14_readPath 77 = .ok (.getfield 192, 3) := by decide +kernel
theorem dX14_readPath_80 : decode cX14_readPath 80 = .ok (.getfield 306, 3) := by decide +kernel
theorem dX14_readPath_83 : decode cX14_readPath 83 = .ok (.iload_n 1, 1) := by decide +kernel
theorem dX14_readPath_84 : decode cX14_readPath 84 = .ok (.iastore, 1) := by decide +kernel
theorem dX14_readPath_85 : decode cX14_readPath 85 = .ok (.aload_n 0, 1) := by decide +kernel
theorem dX14_readPath_86 : decode cX14_readPath 86 = .ok (.getfield 192, 3) := by decide +kernel
theorem dX14_readPath_89 : decode cX14_readPath 89 = .ok (.getfield 317, 3) := by decide +kernel
theorem dX14_readPath_92 : decode cX14_readPath 92 = .ok (.aload_n 0, 1) := by decide +kernel
theorem dX14_readPath_93 : decode cX14_readPath 93 = .ok (.getfield 192, 3) := by decide +kernel
theorem dX14_readPath_96 : decode cX14_readPath 96 = .ok (.getfield 306, 3) := by decide +kernel
theorem dX14_readPath_99 : decode cX14_readPath 99 = .ok (.iload_n 2, 1) := by decide +kernel
theorem dX14_readPath_100 : decode cX14_readPath 100 = .ok (.iastore, 1) := by decide +kernel
theorem dX14_readPath_101 : decode cX14_readPath 101 = .ok (.aload_n 0, 1) := by decide +kernel
theorem dX14_readPath_102 : decode cX14_readPath 102 = .ok (.getfield 192, 3) := by decide +kernel
theorem dX14_readPath_105 : decode cX14_readPath 105 = .ok (.dup, 1) := by decide +kernel
theorem dX14_readPath_106 : decode cX14_readPath 106 = .ok (.getfield 306, 3) := by decide +kernel
theorem dX14_readPath_109 : decode cX14_readPath 109 = .ok (.iconst 1, 1) := by decide +kernel
theorem dX14_readPath_110 : decode cX14_readPath 110 = .ok (.iadd, 1) := by decide +kernel
theorem dX14_readPath_111 : decode cX14_readPath 111 = .ok (.putfield 306, 3) := by decide +kernel
theorem dX14_readPath_114 : decode cX14_readPath 114 = .ok (.return_, 1) := by decide +kernel
set_option maxRecDepth 100000 in
set_option maxHeartbeats 4000000 in
theorem mX14_readPath {E : goEv} {l : Launch} {G : goG} {N : Nat} {M : goMI} {L : goML} {R : goMR} {r0 : goMI} {r1 : goML} (hk : goKn E) (hW : goW G R) (h : fX14_readPath N M L R = some (r0, r1)) : Met l yX14_readPath (goCd yX14_readPath cX14_readPath 3 none) (goRoom 10 214 0 0) (goPre E [.ref 102] G M L R) (goQv E G r0 r1 R) 0 0 (goSet E) := by
  refine goMet pl_RX14 hk (lv := [some (.ref 102), none, none]) rfl (Nat.le_of_ble_eq_true rfl) ?_
  intro X hc hl hR hr hnm
  subst hl
  unfold fX14_readPath at h
  refine go_aload0 hc dX14_readPath_0 ?_
  refine go_aload0 hc dX14_readPath_1 ?_
  replace h := goBind h; obtain ⟨b11, e12, h⟩ := h
  refine go_getR hc lk_RX14_192 dX14_readPath_2 (sh_102 hW) e12 ?_
  refine go_getI hc lk_RX14_306 dX14_readPath_5 (shM_0 (goW_M4 hW e12)) ?_
  refine go_bipush (v := 14) hc dX14_readPath_8 rfl ?_
  replace h := goB2_h h; obtain ⟨M13, L14, e15, h⟩ := h
  refine go_callVv hc dX14_readPath_10 (mX14_begins hk hW e15) ml_RX14_201 yk_X14_begins ⟨wim_X14_begins, wse_X14_begins⟩ hR rfl (sh_102 hW) rfl rfl rfl (Nat.le_of_ble_eq_true rfl) rfl ?_
  refine go_aload0 hc dX14_readPath_13 ?_
  refine go_iconst (v := 0) hc dX14_readPath_14 rfl ?_
  replace h := goB3_h h; obtain ⟨x16, M17, L18, e19, h⟩ := h
  refine go_callVi hc dX14_readPath_15 (mX14_readKnown hk hW e19) ml_RX14_309 yk_X14_readKnown ⟨wim_X14_readKnown, wse_X14_readKnown⟩ hR rfl (sh_102 hW) rfl rfl rfl (Nat.le_of_ble_eq_true rfl) rfl ?_
  refine go_istore1 hc dX14_readPath_18 ?_
  refine go_aload0 hc dX14_readPath_19 ?_
  refine go_iconst (v := 0) hc dX14_readPath_20 rfl ?_
  replace h := goB2_h h; obtain ⟨x20, M21, e22, h⟩ := h
  refine go_callVi hc dX14_readPath_21 (mX14_known hk hW e22) ml_RX14_226 yk_X14_known ⟨wim_X14_known, wse_X14_known⟩ hR rfl (sh_102 hW) rfl rfl rfl (Nat.le_of_ble_eq_true rfl) rfl ?_
  refine go_istore2 hc dX14_readPath_24 ?_
  refine go_aload0 hc dX14_readPath_25 ?_
  refine go_getI hc lk_RX14_94 dX14_readPath_26 (sh_102 hW) ?_
  refine go_iconst (v := 5) hc dX14_readPath_29 rfl ?_
  replace h := goBind h; obtain ⟨M23, e24, h⟩ := h
  have k25 : goA E X G 0 0 (goMQ X E (goQv E G r0 r1 R) 0 0) 56 [some (.ref 102), some (.int x16), some (.int x20)] [] M23 L18 R := by
    refine go_aload0 hc dX14_readPath_56 ?_
    replace h := goB2_h h; obtain ⟨M37, L38, e39, h⟩ := h
    refine go_callVv hc dX14_readPath_57 (mX14_goesOn hk hW e39) ml_RX14_136 yk_X14_goesOn ⟨wim_X14_goesOn, wse_X14_goesOn⟩ hR rfl (sh_102 hW) rfl rfl rfl (Nat.le_of_ble_eq_true rfl) rfl ?_
    refine go_aload0 hc dX14_readPath_60 ?_
    refine go_getI hc lk_RX14_94 dX14_readPath_61 (sh_102 hW) ?_
    refine go_iconst (v := 5) hc dX14_readPath_64 rfl ?_
    refine go_icmp_ne hc 69 dX14_readPath_65 rfl (fun c40 => ?_) (fun c40 => ?_)
    · replace h := goIfF h c40
      refine go_aload0 hc dX14_readPath_69 ?_
      replace h := goBind h; obtain ⟨b41, e42, h⟩ := h
      refine go_getR hc lk_RX14_192 dX14_readPath_70 (sh_102 hW) e42 ?_
      refine go_getR hc lk_RX14_314 dX14_readPath_73 (shM_0 (goW_M4 hW e42)) (rfM_17 (goW_M4 hW e42)) ?_
      refine go_aload0 hc dX14_readPath_76 ?_
      replace h := goBind h; obtain ⟨b43, e44, h⟩ := h
      refine go_getR hc lk_RX14_192 dX14_readPath_77 (sh_102 hW) e44 ?_
      refine go_getI hc lk_RX14_306 dX14_readPath_80 (shM_0 (goW_M4 hW e44)) ?_
      refine go_iload1 hc dX14_readPath_83 ?_
      replace h := goBind h; obtain ⟨M45, e46, h⟩ := h
      refine go_iast hc dX14_readPath_84 (shM_2 (goW_M4 hW e42)) e46 ?_
      refine go_aload0 hc dX14_readPath_85 ?_
      replace h := goBind h; obtain ⟨b47, e48, h⟩ := h
      refine go_getR hc lk_RX14_192 dX14_readPath_86 (sh_102 hW) e48 ?_
      refine go_getR hc lk_RX14_317 dX14_readPath_89 (shM_0 (goW_M4 hW e48)) (rfM_18 (goW_M4 hW e48)) ?_
      refine go_aload0 hc dX14_readPath_92 ?_
      replace h := goBind h; obtain ⟨b49, e50, h⟩ := h
      refine go_getR hc lk_RX14_192 dX14_readPath_93 (sh_102 hW) e50 ?_
      refine go_getI hc lk_RX14_306 dX14_readPath_96 (shM_0 (goW_M4 hW e50)) ?_
      refine go_iload2 hc dX14_readPath_99 ?_
      replace h := goBind h; obtain ⟨M51, e52, h⟩ := h
      refine go_iast hc dX14_readPath_100 (shM_3 (goW_M4 hW e48)) e52 ?_
      refine go_aload0 hc dX14_readPath_101 ?_
      replace h := goBind h; obtain ⟨b53, e54, h⟩ := h
      refine go_getR hc lk_RX14_192 dX14_readPath_102 (sh_102 hW) e54 ?_
      refine go_dupr hc dX14_readPath_105 ?_
      refine go_getI hc lk_RX14_306 dX14_readPath_106 (shM_0 (goW_M4 hW e54)) ?_
      refine go_iconst (v := 1) hc dX14_readPath_109 rfl ?_
      refine go_iadd hc dX14_readPath_110 ?_
      replace h := goNm_x h; obtain ⟨M55, e56, h⟩ := h
      refine go_ptI hc lk_RX14_306 dX14_readPath_111 (shM_0 (goW_M4 hW e54)) e56 ?_
      cases h
      exact go_vret hc dX14_readPath_114 hr
    · replace h := goIfT h c40
      cases h
      exact go_vret hc dX14_readPath_68 hr
  refine go_icmp_eq hc 56 dX14_readPath_30 rfl (fun c26 => ?_) (fun c26 => ?_)
  · replace e24 := goIfT e24 c26
    cases e24
    exact k25
  · replace e24 := goIfF e24 c26
    refine go_iload1 hc dX14_readPath_33 ?_
    refine go_iload2 hc dX14_readPath_34 ?_
    refine go_icmp_eq hc 51 dX14_readPath_35 rfl (fun c27 => ?_) (fun c27 => ?_)
    · replace e24 := goIfT e24 c27
      refine go_aload0 hc dX14_readPath_51 ?_
      refine go_iconst (v := 3) hc dX14_readPath_52 rfl ?_
      replace e24 := goBind e24; obtain ⟨M28, e29, e24⟩ := e24
      refine go_callVv hc dX14_readPath_53 (mX14_flaw hk hW e29) ml_RX14_143 yk_X14_flaw ⟨wim_X14_flaw, wse_X14_flaw⟩ hR rfl (sh_102 hW) rfl rfl rfl (Nat.le_of_ble_eq_true rfl) rfl ?_
      cases e24
      exact k25
    · replace e24 := goIfF e24 c27
      refine go_aload0 hc dX14_readPath_38 ?_
      replace e24 := goBind e24; obtain ⟨b30, e31, e24⟩ := e24
      refine go_getR hc lk_RX14_192 dX14_readPath_39 (sh_102 hW) e31 ?_
      refine go_iload1 hc dX14_readPath_42 ?_
      refine go_iload2 hc dX14_readPath_43 ?_
      replace e24 := goBind e24; obtain ⟨x32, e33, e24⟩ := e24
      refine go_callVi hc dX14_readPath_44 (mX13_path hk hW (goW_M4 hW e31) e33) ml_RX14_312 yk_X13_path ⟨wim_X13_path, wse_X13_path⟩ hR rfl (shM_0 (goW_M4 hW e31)) rfl rfl rfl (Nat.le_of_ble_eq_true rfl) rfl ?_
      refine go_iconst (v := (-1)) hc dX14_readPath_47 rfl ?_
      refine go_icmp_eq hc 56 dX14_readPath_48 rfl (fun c34 => ?_) (fun c34 => ?_)
      · replace e24 := goIfT e24 c34
        cases e24
        exact k25
      · replace e24 := goIfF e24 c34
        refine go_aload0 hc dX14_readPath_51 ?_
        refine go_iconst (v := 3) hc dX14_readPath_52 rfl ?_
        replace e24 := goBind e24; obtain ⟨M35, e36, e24⟩ := e24
        refine go_callVv hc dX14_readPath_53 (mX14_flaw hk hW e36) ml_RX14_143 yk_X14_flaw ⟨wim_X14_flaw, wse_X14_flaw⟩ hR rfl (sh_102 hW) rfl rfl rfl (Nat.le_of_ble_eq_true rfl) rfl ?_
        cases e24
        exact k25
theorem dX14_readPerson_0 : decode cX14_readPerson 0 = .ok (.aload_n 0, 1) := by decide +kernel
theorem dX14_readPerson_1 : decode cX14_readPerson 1 = .ok (.aload_n 0, 1) := by decide +kernel
theorem dX14_readPerson_2 : decode cX14_readPerson 2 = .ok (.getfield 192, 3) := by decide +kernel
theorem dX14_readPerson_5 : decode cX14_readPerson 5 = .ok (.getfield 320, 3) := by decide +kernel
theorem dX14_readPerson_8 : decode cX14_readPerson 8 = .ok (.iconst 4, 1) := by decide +kernel
theorem dX14_readPerson_9 : decode cX14_readPerson 9 = .ok (.invokevirtual 201, 3) := by decide +kernel
theorem dX14_readPerson_12 : decode cX14_readPerson 12 = .ok (.aload_n 0, 1) := by decide +kernel
theorem dX14_readPerson_13 : decode cX14_readPerson 13 = .ok (.invokevirtual 292, 3) := by decide +kernel
theorem dX14_readPerson_16 : decode cX14_readPerson 16 = .ok (.lstore_n 1, 1) := by decide +kernel
theorem dX14_readPerson_17 : decode cX14_readPerson 17 = .ok (.aload_n 0, 1) := by decide +kernel
theorem dX14_readPerson_18 : decode cX14_readPerson 18 = .ok (.getfield 94, 3) := by decide +kernel
theorem dX14_readPerson_21 : decode cX14_readPerson 21 = .ok (.iconst 5, 1) := by decide +kernel
theorem dX14_readPerson_22 : decode cX14_readPerson 22 = .ok (.if_icmp .ne 4, 3) := by decide +kernel
theorem dX14_readPerson_25 : decode cX14_readPerson 25 = .ok (.return_, 1) := by decide +kernel
theorem dX14_readPerson_26 : decode cX14_readPerson 26 = .ok (.aload_n 0, 1) := by decide +kernel
theorem dX14_readPerson_27 : decode cX14_readPerson 27 = .ok (.lload_n 1, 1) := by decide +kernel
theorem dX14_readPerson_28 : decode cX14_readPerson 28 = .ok (.iconst 1, 1) := by decide +kernel
theorem dX14_readPerson_29 : decode cX14_readPerson 29 = .ok (.aload_n 0, 1) := by decide +kernel
theorem dX14_readPerson_30 : decode cX14_readPerson 30 = .ok (.getfield 192, 3) := by decide +kernel
theorem dX14_readPerson_33 : decode cX14_readPerson 33 = .ok (.getfield 320, 3) := by decide +kernel
theorem dX14_readPerson_36 : decode cX14_readPerson 36 = .ok (.invokevirtual 303, 3) := by decide +kernel
theorem dX14_readPerson_39 : decode cX14_readPerson 39 = .ok (.aload_n 0, 1) := by decide +kernel
theorem dX14_readPerson_40 : decode cX14_readPerson 40 = .ok (.getfield 192, 3) := by decide +kernel
theorem dX14_readPerson_43 : decode cX14_readPerson 43 = .ok (.dup, 1) := by decide +kernel
theorem dX14_readPerson_44 : decode cX14_readPerson 44 = .ok (.getfield 320, 3) := by decide +kernel
theorem dX14_readPerson_47 : decode cX14_readPerson 47 = .ok (.iconst 1, 1) := by decide +kernel
theorem dX14_readPerson_48 : decode cX14_readPerson 48 = .ok (.iadd, 1) := by decide +kernel
theorem dX14_readPerson_49 : decode cX14_readPerson 49 = .ok (.putfield 320, 3) := by decide +kernel
theorem dX14_readPerson_52 : decode cX14_readPerson 52 = .ok (.return_, 1) := by decide +kernel
set_option maxRecDepth 100000 in
set_option maxHeartbeats 4000000 in
theorem mX14_readPerson {E : goEv} {l : Launch} {G : goG} {N : Nat} {M : goMI} {L : goML} {R : goMR} {r0 : goMI} {r1 : goML} (hk : goKn E) (hW : goW G R) (h : fX14_readPerson N M L R = some (r0, r1)) : Met l yX14_readPerson (goCd yX14_readPerson cX14_readPerson 3 none) (goRoom 9 192 0 0) (goPre E [.ref 102] G M L R) (goQv E G r0 r1 R) 0 0 (goSet E) := by
  refine goMet pl_RX14 hk (lv := [some (.ref 102), none, none]) rfl (Nat.le_of_ble_eq_true rfl) ?_
  intro X hc hl hR hr hnm
  subst hl
  unfold fX14_readPerson at h
  refine go_aload0 hc dX14_readPerson_0 ?_
  refine go_aload0 hc dX14_readPerson_1 ?_
  replace h := goBind h; obtain ⟨b11, e12, h⟩ := h
  refine go_getR hc lk_RX14_192 dX14_readPerson_2 (sh_102 hW) e12 ?_
  refine go_getI hc lk_RX14_320 dX14_readPerson_5 (shM_0 (goW_M4 hW e12)) ?_
  refine go_iconst (v := 4) hc dX14_readPerson_8 rfl ?_
  replace h := goB2_h h; obtain ⟨M13, L14, e15, h⟩ := h
  refine go_callVv hc dX14_readPerson_9 (mX14_begins hk hW e15) ml_RX14_201 yk_X14_begins ⟨wim_X14_begins, wse_X14_begins⟩ hR rfl (sh_102 hW) rfl rfl rfl (Nat.le_of_ble_eq_true rfl) rfl ?_
  refine go_aload0 hc dX14_readPerson_12 ?_
  replace h := goB3_h h; obtain ⟨x16, M17, L18, e19, h⟩ := h
  refine go_callVl hc dX14_readPerson_13 (mX14_readFresh hk hW e19) ml_RX14_292 yk_X14_readFresh ⟨wim_X14_readFresh, wse_X14_readFresh⟩ hR rfl (sh_102 hW) rfl rfl rfl (Nat.le_of_ble_eq_true rfl) rfl ?_
  refine go_lstore1 hc dX14_readPerson_16 ?_
  refine go_aload0 hc dX14_readPerson_17 ?_
  refine go_getI hc lk_RX14_94 dX14_readPerson_18 (sh_102 hW) ?_
  refine go_iconst (v := 5) hc dX14_readPerson_21 rfl ?_
  refine go_icmp_ne hc 26 dX14_readPerson_22 rfl (fun c20 => ?_) (fun c20 => ?_)
  · replace h := goIfF h c20
    refine go_aload0 hc dX14_readPerson_26 ?_
    refine go_lload1 hc dX14_readPerson_27 ?_
    refine go_iconst (v := 1) hc dX14_readPerson_28 rfl ?_
    refine go_aload0 hc dX14_readPerson_29 ?_
    replace h := goBind h; obtain ⟨b21, e22, h⟩ := h
    refine go_getR hc lk_RX14_192 dX14_readPerson_30 (sh_102 hW) e22 ?_
    refine go_getI hc lk_RX14_320 dX14_readPerson_33 (shM_0 (goW_M4 hW e22)) ?_
    replace h := goB2_h h; obtain ⟨M23, L24, e25, h⟩ := h
    refine go_callVv hc dX14_readPerson_36 (mX14_names hk hW e25) ml_RX14_303 yk_X14_names ⟨wim_X14_names, wse_X14_names⟩ hR rfl (sh_102 hW) rfl rfl rfl (Nat.le_of_ble_eq_true rfl) rfl ?_
    refine go_aload0 hc dX14_readPerson_39 ?_
    replace h := goBind h; obtain ⟨b26, e27, h⟩ := h
    refine go_getR hc lk_RX14_192 dX14_readPerson_40 (sh_102 hW) e27 ?_
    refine go_dupr hc dX14_readPerson_43 ?_
    refine go_getI hc lk_RX14_320 dX14_readPerson_44 (shM_0 (goW_M4 hW e27)) ?_
    refine go_iconst (v := 1) hc dX14_readPerson_47 rfl ?_
    refine go_iadd hc dX14_readPerson_48 ?_
    replace h := goNm_x h; obtain ⟨M28, e29, h⟩ := h
    refine go_ptI hc lk_RX14_320 dX14_readPerson_49 (shM_0 (goW_M4 hW e27)) e29 ?_
    cases h
    exact go_vret hc dX14_readPerson_52 hr
  · replace h := goIfT h c20
    cases h
    exact go_vret hc dX14_readPerson_25 hr
theorem dX14_readStory_0 : decode cX14_readStory 0 = .ok (.aload_n 0, 1) := by decide +kernel
theorem dX14_readStory_1 : decode cX14_readStory 1 = .ok (.iconst 0, 1) := by decide +kernel
theorem dX14_readStory_2 : decode cX14_readStory 2 = .ok (.iconst 1, 1) := by decide +kernel
theorem dX14_readStory_3 : decode cX14_readStory 3 = .ok (.invokevirtual 201, 3) := by decide +kernel
theorem dX14_readStory_6 : decode cX14_readStory 6 = .ok (.aload_n 0, 1) := by decide +kernel
theorem dX14_readStory_7 : decode cX14_readStory 7 = .ok (.iconst 1, 1) := by decide +kernel
theorem dX14_readStory_8 : decode cX14_readStory 8 = .ok (.invokevirtual 226, 3) := by decide +kernel
theorem dX14_readStory_11 : decode cX14_readStory 11 = .ok (.istore_n 1, 1) := by decide +kernel
theorem dX14_readStory_12 : decode cX14_readStory 12 = .ok (.aload_n 0, 1) := by decide +kernel
theorem dX14_readStory_13 : decode cX14_readStory 13 = .ok (.getfield 94, 3) := by decide +kernel
theorem dX14_readStory_16 : decode cX14_readStory 16 = .ok (.iconst 5, 1) := by decide +kernel
theorem dX14_readStory_17 : decode cX14_readStory 17 = .ok (.if_icmp .eq 21, 3) := by decide +kernel
theorem dX14_readStory_20 : decode cX14_readStory 20 = .ok (.aload_n 0, 1) := by decide +kernel
theorem dX14_readStory_21 : decode cX14_readStory 21 = .ok (.getfield 192, 3) := by decide +kernel
theorem dX14_readStory_24 : decode cX14_readStory 24 = .ok (.getfield 323, 3) := by decide +kernel
theorem dX14_readStory_27 : decode cX14_readStory 27 = .ok (.iload_n 1, 1) := by decide +kernel
theorem dX14_readStory_28 : decode cX14_readStory 28 = .ok (.iaload, 1) := by decide +kernel
theorem dX14_readStory_29 : decode cX14_readStory 29 = .ok (.iconst 3, 1) := by decide +kernel
theorem dX14_readStory_30 : decode cX14_readStory 30 = .ok (.if_icmp .ne 8, 3) := by decide +kernel
theorem dX14_readStory_33 : decode cX14_readStory 33 = .ok (.aload_n 0, 1) := by decide +kernel
theorem dX14_readStory_34 : decode cX14_readStory 34 = .ok (.iconst 5, 1) := by decide +kernel
theorem dX14_readStory_35 : decode cX14_readStory 35 = .ok (.invokevirtual 143, 3) := by decide +kernel
theorem dX14_readStory_38 : decode cX14_readStory 38 = .ok (.aload_n 0, 1) := by decide +kernel
theorem dX14_readStory_39 : decode cX14_readStory 39 = .ok (.invokevirtual 136, 3) := by decide +kernel
theorem dX14_readStory_42 : decode cX14_readStory 42 = .ok (.iconst 3, 1) := by decide +kernel
theorem dX14_readStory_43 : decode cX14_readStory 43 = .ok (.iload_n 1, 1) := by decide +kernel
theorem dX14_readStory_44 : decode cX14_readStory 44 = .ok (.imul, 1) := by decide +kernel
theorem dX14_readStory_45 : decode cX14_readStory 45 = .ok (.aload_n 0, 1) := by decide +kernel
theorem dX14_readStory_46 : decode cX14_readStory 46 = .ok (.getfield 94, 3) := by decide +kernel
theorem dX14_readStory_49 : decode cX14_readStory 49 = .ok (.iconst 5, 1) := by decide +kernel
theorem dX14_readStory_50 : decode cX14_readStory 50 = .ok (.if_icmp .ne 7, 3) := by decide +kernel
theorem dX14_readStory_53 : decode cX14_readStory 53 = .ok (.iconst 0, 1) := by decide +kernel
theorem dX14_readStory_54 : decode cX14_readStory 54 = .ok (.goto 12, 3) := by decide +kernel
theorem dX14_readStory_57 : decode cX14_readStory 57 = .ok (.aload_n 0, 1) := by decide +kernel
theorem dX14_readStory_58 : decode cX14_readStory 58 = .ok (.getfield 192, 3) := by decide +kernel
theorem dX14_readStory_61 : decode cX14_readStory 61 = .ok (.getfield 323, 3) := by decide +kernel
theorem dX14_readStory_64 : decode cX14_readStory 64 = .ok (.iload_n 1, 1) := by decide +kernel
theorem dX14_readStory_65 : decode cX14_readStory 65 = .ok (.iaload, 1) := by decide +kernel
theorem dX14_readStory_66 : decode cX14_readStory 66 = .ok (.iadd, 1) := by decide +kernel
theorem dX14_readStory_67 : decode cX14_readStory 67 = .ok (.bipush 12, 2) := by decide +kernel
theorem dX14_readStory_69 : decode cX14_readStory 69 = .ok (.imul, 1) := by decide +kernel
theorem dX14_readStory_70 : decode cX14_readStory 70 = .ok (.istore_n 2, 1) := by decide +kernel
theorem dX14_readStory_71 : decode cX14_readStory 71 = .ok (.iconst 0, 1) := by decide +kernel
theorem dX14_readStory_72 : decode cX14_readStory 72 = .ok (.istore_n 3, 1) := by decide +kernel
theorem dX14_readStory_73 : decode cX14_readStory 73 = .ok (.iconst 1, 1) := by decide +kernel
theorem dX14_readStory_74 : decode cX14_readStory 74 = .ok (.istore 4, 2) := by decide +kernel
theorem dX14_readStory_76 : decode cX14_readStory 76 = .ok (.iload 4, 2) := by decide +kernel
theorem dX14_readStory_78 : decode cX14_readStory 78 = .ok (.ifCond .eq 83, 3) := by decide +kernel
theorem dX14_readStory_81 : decode cX14_readStory 81 = .ok (.aload_n 0, 1) := by decide +kernel
theorem dX14_readStory_82 : decode cX14_readStory 82 = .ok (.iconst 0, 1) := by decide +kernel
theorem dX14_readStory_83 : decode cX14_readStory 83 = .ok (.invokevirtual 226, 3) := by decide +kernel
theorem dX14_readStory_86 : decode cX14_readStory 86 = .ok (.istore 5, 2) := by decide +kernel
theorem dX14_readStory_88 : decode cX14_readStory 88 = .ok (.iload_n 3, 1) := by decide +kernel
theorem dX14_readStory_89 : decode cX14_readStory 89 = .ok (.aload_n 0, 1) := by decide +kernel
theorem dX14_readStory_90 : decode cX14_readStory 90 = .ok (.getfield 192, 3) := by decide +kernel
theorem dX14_readStory_93 : decode cX14_readStory 93 = .ok (.getfield 196, 3) := by decide +kernel
theorem dX14_readStory_96 : decode cX14_readStory 96 = .ok (.if_icmp .ne 8, 3) := by decide +kernel
theorem dX14_readStory_99 : decode cX14_readStory 99 = .ok (.aload_n 0, 1) := by decide +kernel
theorem dX14_readStory_100 : decode cX14_readStory 100 = .ok (.iconst 5, 1) := by decide +kernel
theorem dX14_readStory_101 : decode cX14_readStory 101 = .ok (.invokevirtual 143, 3) := by decide +kernel
theorem dX14_readStory_104 : decode cX14_readStory 104 = .ok (.aload_n 0, 1) := by decide +kernel
theorem dX14_readStory_105 : decode cX14_readStory 105 = .ok (.invokevirtual 136, 3) := by decide +kernel
theorem dX14_readStory_108 : decode cX14_readStory 108 = .ok (.aload_n 0, 1) := by decide +kernel
theorem dX14_readStory_109 : decode cX14_readStory 109 = .ok (.getfield 94, 3) := by decide +kernel
theorem dX14_readStory_112 : decode cX14_readStory 112 = .ok (.iconst 5, 1) := by decide +kernel
theorem dX14_readStory_113 : decode cX14_readStory 113 = .ok (.if_icmp .ne 4, 3) := by decide +kernel
theorem dX14_readStory_116 : decode cX14_readStory 116 = .ok (.return_, 1) := by decide +kernel
theorem dX14_readStory_117 : decode cX14_readStory 117 = .ok (.iload_n 3, 1) := by decide +kernel
theorem dX14_readStory_118 : decode cX14_readStory 118 = .ok (.istore 6, 2) := by decide +kernel
theorem dX14_readStory_120 : decode cX14_readStory 120 = .ok (.iload 6, 2) := by decide +kernel
theorem dX14_readStory_122 : decode cX14_readStory 122 = .ok (.bipush 12, 2) := by decide +kernel
theorem dX14_readStory_124 : decode cX14_readStory 124 = .ok (.if_icmp .ge 23, 3) := by decide +kernel
theorem dX14_readStory_127 : decode cX14_readStory 127 = .ok (.aload_n 0, 1) := by decide +kernel
theorem dX14_readStory_128 : decode cX14_readStory 128 = .ok (.getfield 192, 3) := by decide +kernel
theorem dX14_readStory_131 : decode cX14_readStory 131 = .ok (.getfield 326, 3) := by decide +kernel
theorem dX14_readStory_134 : decode cX14_readStory 134 = .ok (.iload_n 2, 1) := by decide +kernel
theorem dX14_readStory_135 : decode cX14_readStory 135 = .ok (.iload 6, 2) := by decide +kernel
theorem dX14_readStory_137 : decode cX14_readStory 137 = .ok (.iadd, 1) := by decide +kernel
theorem dX14_readStory_138 : decode cX14_readStory 138 = .ok (.iload 5, 2) := by decide +kernel
theorem dX14_readStory_140 : decode cX14_readStory 140 = .ok (.iastore, 1) := by decide +kernel
theorem dX14_readStory_141 : decode cX14_readStory 141 = .ok (.iinc 6 1, 3) := by decide +kernel
theorem dX14_readStory_144 : decode cX14_readStory 144 = .ok (.goto (-24), 3) := by decide +kernel
theorem dX14_readStory_147 : decode cX14_readStory 147 = .ok (.iinc 3 1, 3) := by decide +kernel
theorem dX14_readStory_150 : decode cX14_readStory 150 = .ok (.aload_n 0, 1) := by decide +kernel
theorem dX14_readStory_151 : decode cX14_readStory 151 = .ok (.bipush 44, 2) := by decide +kernel
theorem dX14_readStory_153 : decode cX14_readStory 153 = .ok (.invokevirtual 238, 3) := by decide +kernel
theorem dX14_readStory_156 : decode cX14_readStory 156 = .ok (.istore 4, 2) := by decide +kernel
theorem dX14_readStory_158 : decode cX14_readStory 158 = .ok (.goto (-82), 3) := by decide +kernel
theorem dX14_readStory_161 : decode cX14_readStory 161 = .ok (.aload_n 0, 1) := by decide +kernel
theorem dX14_readStory_162 : decode cX14_readStory 162 = .ok (.getfield 192, 3) := by decide +kernel
theorem dX14_readStory_165 : decode cX14_readStory 165 = .ok (.getfield 323, 3) := by decide +kernel
theorem dX14_readStory_168 : decode cX14_readStory 168 = .ok (.iload_n 1, 1) := by decide +kernel
theorem dX14_readStory_169 : decode cX14_readStory 169 = .ok (.dup2, 1) := by decide +kernel
theorem dX14_readStory_170 : decode cX14_readStory 170 = .ok (.iaload, 1) := by decide +kernel
theorem dX14_readStory_171 : decode cX14_readStory 171 = .ok (.iconst 1, 1) := by decide +kernel
theorem dX14_readStory_172 : decode cX14_readStory 172 = .ok (.iadd, 1) := by decide +kernel
theorem dX14_readStory_173 : decode cX14_readStory 173 = .ok (.iastore, 1) := by decide +kernel
theorem dX14_readStory_174 : decode cX14_readStory 174 = .ok (.return_, 1) := by decide +kernel
set_option maxRecDepth 100000 in
set_option maxHeartbeats 4000000 in
theorem mX14_readStory_L120 {E : goEv} {X : goX} {G : goG} {Q : State → Prop} {L : goML} {R : goMR} {v2 : Int32} {v5 : Int32} {v1 : Int32} {v3 : Int32} (hc : goCx E X cX14_readStory RX14 7) (hk : goKn E) (hR : X.2.2.2.1 = goRoom 9 192 0 0) (hr : X.2.2.2.2.2.2.2.2.1.sig.returnType = none) (hW : goW G R) : ∀ (n : Nat) (v6 : Int32) (M : goMI) (r0 : goMI), lX14_readStory_120 v2 v5 R n v6 M = some r0 → (∀ (d4 d5 d6 : Option Value), goA E X G 0 0 Q 147 [some (.ref 102), some (.int v1), some (.int v2), some (.int v3), d4, d5, d6] [] r0 L R) → ∀ (d4 : Option Value), goA E X G 0 0 Q 120 [some (.ref 102), some (.int v1), some (.int v2), some (.int v3), d4, some (.int v5), some (.int v6)] [] M L R := by
  intro n
  induction n with
  | zero => intro v6 M r0 h; exact nomatch h
  | succ n ih =>
    intro v6 M r0 h kx d4
    rw [lX14_readStory_120] at h
    refine go_iload6 hc dX14_readStory_120 ?_
    refine go_bipush (v := 12) hc dX14_readStory_122 rfl ?_
    refine go_icmp_ge hc 147 dX14_readStory_124 rfl (fun c63 => ?_) (fun c63 => ?_)
    · replace h := goIfF h c63
      cases h
      exact kx _ _ _
    · replace h := goIfT h c63
      refine go_aload0 hc dX14_readStory_127 ?_
      replace h := goBind h; obtain ⟨b64, e65, h⟩ := h
      refine go_getR hc lk_RX14_192 dX14_readStory_128 (sh_102 hW) e65 ?_
      refine go_getR hc lk_RX14_326 dX14_readStory_131 (shM_0 (goW_M4 hW e65)) (rfM_20 (goW_M4 hW e65)) ?_
      refine go_iload2 hc dX14_readStory_134 ?_
      refine go_iload6 hc dX14_readStory_135 ?_
      refine go_iadd hc dX14_readStory_137 ?_
      refine go_iload5 hc dX14_readStory_138 ?_
      replace h := goBind h; obtain ⟨M66, e67, h⟩ := h
      refine go_iast hc dX14_readStory_140 (shM_5 (goW_M4 hW e65)) e67 ?_
      refine go_iinc6 (v := (v6 + 1)) hc dX14_readStory_141 rfl ?_
      refine go_goto hc 120 dX14_readStory_144 rfl ?_
      exact ih _ _ _ h kx _
set_option maxRecDepth 100000 in
set_option maxHeartbeats 4000000 in
theorem mX14_readStory_L76 {E : goEv} {X : goX} {G : goG} {R : goMR} {N : Nat} {v1 : Int32} {v2 : Int32} {r0 : goMI} {r1 : goML} (hc : goCx E X cX14_readStory RX14 7) (hk : goKn E) (hR : X.2.2.2.1 = goRoom 9 192 0 0) (hr : X.2.2.2.2.2.2.2.2.1.sig.returnType = none) (hW : goW G R) : ∀ (n : Nat) (v3 : Int32) (v4 : Int32) (M : goMI) (L : goML), lX14_readStory_76 N v1 v2 R n v3 v4 M L = some (r0, r1) → ∀ (d5 d6 : Option Value), goA E X G 0 0 (goMQ X E (goQv E G r0 r1 R) 0 0) 76 [some (.ref 102), some (.int v1), some (.int v2), some (.int v3), some (.int v4), d5, d6] [] M L R := by
  intro n
  induction n with
  | zero => intro v3 v4 M L h; exact nomatch h
  | succ n ih =>
    intro v3 v4 M L h d5 d6
    rw [lX14_readStory_76] at h
    refine go_iload4 hc dX14_readStory_76 ?_
    refine go_if_eq hc 161 dX14_readStory_78 rfl (fun c41 => ?_) (fun c41 => ?_)
    · replace h := goIfT h c41
      refine go_aload0 hc dX14_readStory_161 ?_
      replace h := goBind h; obtain ⟨b42, e43, h⟩ := h
      refine go_getR hc lk_RX14_192 dX14_readStory_162 (sh_102 hW) e43 ?_
      refine go_getR hc lk_RX14_323 dX14_readStory_165 (shM_0 (goW_M4 hW e43)) (rfM_19 (goW_M4 hW e43)) ?_
      refine go_iload1 hc dX14_readStory_168 ?_
      refine go_dup2 hc dX14_readStory_169 ?_
      replace h := goBind h; obtain ⟨x44, e45, h⟩ := h
      refine go_iald hc dX14_readStory_170 (shM_4 (goW_M4 hW e43)) e45 ?_
      refine go_iconst (v := 1) hc dX14_readStory_171 rfl ?_
      refine go_iadd hc dX14_readStory_172 ?_
      replace h := goBind h; obtain ⟨M46, e47, h⟩ := h
      refine go_iast hc dX14_readStory_173 (shM_4 (goW_M4 hW e43)) e47 ?_
      cases h
      exact go_vret hc dX14_readStory_174 hr
    · replace h := goIfF h c41
      refine go_aload0 hc dX14_readStory_81 ?_
      refine go_iconst (v := 0) hc dX14_readStory_82 rfl ?_
      replace h := goB2_h h; obtain ⟨x48, M49, e50, h⟩ := h
      refine go_callVi hc dX14_readStory_83 (mX14_known hk hW e50) ml_RX14_226 yk_X14_known ⟨wim_X14_known, wse_X14_known⟩ hR rfl (sh_102 hW) rfl rfl rfl (Nat.le_of_ble_eq_true rfl) rfl ?_
      refine go_istore5 hc dX14_readStory_86 ?_
      refine go_iload3 hc dX14_readStory_88 ?_
      refine go_aload0 hc dX14_readStory_89 ?_
      replace h := goBind h; obtain ⟨b51, e52, h⟩ := h
      refine go_getR hc lk_RX14_192 dX14_readStory_90 (sh_102 hW) e52 ?_
      refine go_getI hc lk_RX14_196 dX14_readStory_93 (shM_0 (goW_M4 hW e52)) ?_
      replace h := goBind h; obtain ⟨M53, e54, h⟩ := h
      have k55 : ∀ (d4 d6 : Option Value), goA E X G 0 0 (goMQ X E (goQv E G r0 r1 R) 0 0) 104 [some (.ref 102), some (.int v1), some (.int v2), some (.int v3), d4, some (.int x48), d6] [] M53 L R := by
        intro d4 d6
        refine go_aload0 hc dX14_readStory_104 ?_
        replace h := goB2_h h; obtain ⟨M59, L60, e61, h⟩ := h
        refine go_callVv hc dX14_readStory_105 (mX14_goesOn hk hW e61) ml_RX14_136 yk_X14_goesOn ⟨wim_X14_goesOn, wse_X14_goesOn⟩ hR rfl (sh_102 hW) rfl rfl rfl (Nat.le_of_ble_eq_true rfl) rfl ?_
        refine go_aload0 hc dX14_readStory_108 ?_
        refine go_getI hc lk_RX14_94 dX14_readStory_109 (sh_102 hW) ?_
        refine go_iconst (v := 5) hc dX14_readStory_112 rfl ?_
        refine go_icmp_ne hc 117 dX14_readStory_113 rfl (fun c62 => ?_) (fun c62 => ?_)
        · replace h := goIfF h c62
          refine go_iload3 hc dX14_readStory_117 ?_
          refine go_istore6 hc dX14_readStory_118 ?_
          replace h := goBind h; obtain ⟨M69, e68, h⟩ := h
          refine mX14_readStory_L120 hc hk hR hr hW _ _ _ _ e68 (fun d4 d5 d6 => ?_) _
          refine go_iinc3 (v := (v3 + 1)) hc dX14_readStory_147 rfl ?_
          refine go_aload0 hc dX14_readStory_150 ?_
          refine go_bipush (v := 44) hc dX14_readStory_151 rfl ?_
          replace h := goB3_h h; obtain ⟨x70, M71, L72, e73, h⟩ := h
          refine go_callVi hc dX14_readStory_153 (mX14_eatsSign hk hW e73) ml_RX14_238 yk_X14_eatsSign ⟨wim_X14_eatsSign, wse_X14_eatsSign⟩ hR rfl (sh_102 hW) rfl rfl rfl (Nat.le_of_ble_eq_true rfl) rfl ?_
          refine go_istore4 hc dX14_readStory_156 ?_
          refine go_goto hc 76 dX14_readStory_158 rfl ?_
          exact ih _ _ _ _ h _ _
        · replace h := goIfT h c62
          cases h
          exact go_vret hc dX14_readStory_116 hr
      refine go_icmp_ne hc 104 dX14_readStory_96 rfl (fun c56 => ?_) (fun c56 => ?_)
      · replace e54 := goIfF e54 c56
        cases e54
        exact k55 _ _
      · replace e54 := goIfT e54 c56
        refine go_aload0 hc dX14_readStory_99 ?_
        refine go_iconst (v := 5) hc dX14_readStory_100 rfl ?_
        replace e54 := goBind e54; obtain ⟨M57, e58, e54⟩ := e54
        refine go_callVv hc dX14_readStory_101 (mX14_flaw hk hW e58) ml_RX14_143 yk_X14_flaw ⟨wim_X14_flaw, wse_X14_flaw⟩ hR rfl (sh_102 hW) rfl rfl rfl (Nat.le_of_ble_eq_true rfl) rfl ?_
        cases e54
        exact k55 _ _
set_option maxRecDepth 100000 in
set_option maxHeartbeats 4000000 in
theorem mX14_readStory {E : goEv} {l : Launch} {G : goG} {N : Nat} {M : goMI} {L : goML} {R : goMR} {r0 : goMI} {r1 : goML} (hk : goKn E) (hW : goW G R) (h : fX14_readStory N M L R = some (r0, r1)) : Met l yX14_readStory (goCd yX14_readStory cX14_readStory 7 none) (goRoom 9 192 0 0) (goPre E [.ref 102] G M L R) (goQv E G r0 r1 R) 0 0 (goSet E) := by
  refine goMet pl_RX14 hk (lv := [some (.ref 102), none, none, none, none, none, none]) rfl (Nat.le_of_ble_eq_true rfl) ?_
  intro X hc hl hR hr hnm
  subst hl
  unfold fX14_readStory at h
  refine go_aload0 hc dX14_readStory_0 ?_
  refine go_iconst (v := 0) hc dX14_readStory_1 rfl ?_
  refine go_iconst (v := 1) hc dX14_readStory_2 rfl ?_
  replace h := goB2_h h; obtain ⟨M11, L12, e13, h⟩ := h
  refine go_callVv hc dX14_readStory_3 (mX14_begins hk hW e13) ml_RX14_201 yk_X14_begins ⟨wim_X14_begins, wse_X14_begins⟩ hR rfl (sh_102 hW) rfl rfl rfl (Nat.le_of_ble_eq_true rfl) rfl ?_
  refine go_aload0 hc dX14_readStory_6 ?_
  refine go_iconst (v := 1) hc dX14_readStory_7 rfl ?_
  replace h := goB2_h h; obtain ⟨x14, M15, e16, h⟩ := h
  refine go_callVi hc dX14_readStory_8 (mX14_known hk hW e16) ml_RX14_226 yk_X14_known ⟨wim_X14_known, wse_X14_known⟩ hR rfl (sh_102 hW) rfl rfl rfl (Nat.le_of_ble_eq_true rfl) rfl ?_
  refine go_istore1 hc dX14_readStory_11 ?_
  refine go_aload0 hc dX14_readStory_12 ?_
  refine go_getI hc lk_RX14_94 dX14_readStory_13 (sh_102 hW) ?_
  refine go_iconst (v := 5) hc dX14_readStory_16 rfl ?_
  replace h := goBind h; obtain ⟨M17, e18, h⟩ := h
  have k19 : ∀ (d2 d3 d4 d5 d6 : Option Value), goA E X G 0 0 (goMQ X E (goQv E G r0 r1 R) 0 0) 38 [some (.ref 102), some (.int x14), d2, d3, d4, d5, d6] [] M17 L12 R := by
    intro d2 d3 d4 d5 d6
    refine go_aload0 hc dX14_readStory_38 ?_
    replace h := goB2_h h; obtain ⟨M28, L29, e30, h⟩ := h
    refine go_callVv hc dX14_readStory_39 (mX14_goesOn hk hW e30) ml_RX14_136 yk_X14_goesOn ⟨wim_X14_goesOn, wse_X14_goesOn⟩ hR rfl (sh_102 hW) rfl rfl rfl (Nat.le_of_ble_eq_true rfl) rfl ?_
    refine go_iconst (v := 3) hc dX14_readStory_42 rfl ?_
    refine go_iload1 hc dX14_readStory_43 ?_
    refine go_imul hc dX14_readStory_44 ?_
    refine go_aload0 hc dX14_readStory_45 ?_
    refine go_getI hc lk_RX14_94 dX14_readStory_46 (sh_102 hW) ?_
    refine go_iconst (v := 5) hc dX14_readStory_49 rfl ?_
    replace h := goBind h; obtain ⟨x31, e32, h⟩ := h
    have k33 : ∀ (d2 d3 d4 d5 d6 : Option Value), goA E X G 0 0 (goMQ X E (goQv E G r0 r1 R) 0 0) 66 [some (.ref 102), some (.int x14), d2, d3, d4, d5, d6] [.int x31, .int (3 * x14)] M28 L29 R := by
      intro d2 d3 d4 d5 d6
      refine go_iadd hc dX14_readStory_66 ?_
      refine go_bipush (v := 12) hc dX14_readStory_67 rfl ?_
      refine go_imul hc dX14_readStory_69 ?_
      replace h := goNm_x h; obtain ⟨x39, e40, h⟩ := h
      refine go_nmI e40 ?_
      refine go_istore2 hc dX14_readStory_70 ?_
      refine go_iconst (v := 0) hc dX14_readStory_71 rfl ?_
      refine go_istore3 hc dX14_readStory_72 ?_
      refine go_iconst (v := 1) hc dX14_readStory_73 rfl ?_
      refine go_istore4 hc dX14_readStory_74 ?_
      exact mX14_readStory_L76 hc hk hR hr hW _ _ _ _ _ h _ _
    refine go_icmp_ne hc 57 dX14_readStory_50 rfl (fun c34 => ?_) (fun c34 => ?_)
    · replace e32 := goIfF e32 c34
      refine go_aload0 hc dX14_readStory_57 ?_
      replace e32 := goBind e32; obtain ⟨b35, e36, e32⟩ := e32
      refine go_getR hc lk_RX14_192 dX14_readStory_58 (sh_102 hW) e36 ?_
      refine go_getR hc lk_RX14_323 dX14_readStory_61 (shM_0 (goW_M4 hW e36)) (rfM_19 (goW_M4 hW e36)) ?_
      refine go_iload1 hc dX14_readStory_64 ?_
      replace e32 := goBind e32; obtain ⟨x37, e38, e32⟩ := e32
      refine go_iald hc dX14_readStory_65 (shM_4 (goW_M4 hW e36)) e38 ?_
      cases e32
      exact k33 _ _ _ _ _
    · replace e32 := goIfT e32 c34
      refine go_iconst (v := 0) hc dX14_readStory_53 rfl ?_
      refine go_goto hc 66 dX14_readStory_54 rfl ?_
      cases e32
      exact k33 _ _ _ _ _
  refine go_icmp_eq hc 38 dX14_readStory_17 rfl (fun c20 => ?_) (fun c20 => ?_)
  · replace e18 := goIfT e18 c20
    cases e18
    exact k19 _ _ _ _ _
  · replace e18 := goIfF e18 c20
    refine go_aload0 hc dX14_readStory_20 ?_
    replace e18 := goBind e18; obtain ⟨b21, e22, e18⟩ := e18
    refine go_getR hc lk_RX14_192 dX14_readStory_21 (sh_102 hW) e22 ?_
    refine go_getR hc lk_RX14_323 dX14_readStory_24 (shM_0 (goW_M4 hW e22)) (rfM_19 (goW_M4 hW e22)) ?_
    refine go_iload1 hc dX14_readStory_27 ?_
    replace e18 := goBind e18; obtain ⟨x23, e24, e18⟩ := e18
    refine go_iald hc dX14_readStory_28 (shM_4 (goW_M4 hW e22)) e24 ?_
    refine go_iconst (v := 3) hc dX14_readStory_29 rfl ?_
    refine go_icmp_ne hc 38 dX14_readStory_30 rfl (fun c25 => ?_) (fun c25 => ?_)
    · replace e18 := goIfF e18 c25
      cases e18
      exact k19 _ _ _ _ _
    · replace e18 := goIfT e18 c25
      refine go_aload0 hc dX14_readStory_33 ?_
      refine go_iconst (v := 5) hc dX14_readStory_34 rfl ?_
      replace e18 := goBind e18; obtain ⟨M26, e27, e18⟩ := e18
      refine go_callVv hc dX14_readStory_35 (mX14_flaw hk hW e27) ml_RX14_143 yk_X14_flaw ⟨wim_X14_flaw, wse_X14_flaw⟩ hR rfl (sh_102 hW) rfl rfl rfl (Nat.le_of_ble_eq_true rfl) rfl ?_
      cases e18
      exact k19 _ _ _ _ _
theorem dX14_readGoat_0 : decode cX14_readGoat 0 = .ok (.aload_n 0, 1) := by decide +kernel
theorem dX14_readGoat_1 : decode cX14_readGoat 1 = .ok (.aload_n 0, 1) := by decide +kernel
theorem dX14_readGoat_2 : decode cX14_readGoat 2 = .ok (.getfield 192, 3) := by decide +kernel
theorem dX14_readGoat_5 : decode cX14_readGoat 5 = .ok (.getfield 328, 3) := by decide +kernel
theorem dX14_readGoat_8 : decode cX14_readGoat 8 = .ok (.bipush 6, 2) := by decide +kernel
theorem dX14_readGoat_10 : decode cX14_readGoat 10 = .ok (.invokevirtual 201, 3) := by decide +kernel
theorem dX14_readGoat_13 : decode cX14_readGoat 13 = .ok (.aload_n 0, 1) := by decide +kernel
theorem dX14_readGoat_14 : decode cX14_readGoat 14 = .ok (.invokevirtual 292, 3) := by decide +kernel
theorem dX14_readGoat_17 : decode cX14_readGoat 17 = .ok (.lstore_n 1, 1) := by decide +kernel
theorem dX14_readGoat_18 : decode cX14_readGoat 18 = .ok (.aload_n 0, 1) := by decide +kernel
theorem dX14_readGoat_19 : decode cX14_readGoat 19 = .ok (.ldc_w 331, 3) := by decide +kernel
theorem dX14_readGoat_22 : decode cX14_readGoat 22 = .ok (.invokevirtual 139, 3) := by decide +kernel
theorem dX14_readGoat_25 : decode cX14_readGoat 25 = .ok (.ifCond .eq 7, 3) := by decide +kernel
theorem dX14_readGoat_28 : decode cX14_readGoat 28 = .ok (.iconst 0, 1) := by decide +kernel
theorem dX14_readGoat_29 : decode cX14_readGoat 29 = .ok (.goto 46, 3) := by decide +kernel
theorem dX14_readGoat_32 : decode cX14_readGoat 32 = .ok (.aload_n 0, 1) := by decide +kernel
theorem dX14_readGoat_33 : decode cX14_readGoat 33 = .ok (.ldc_w 333, 3) := by decide +kernel
theorem dX14_readGoat_36 : decode cX14_readGoat 36 = .ok (.invokevirtual 139, 3) := by decide +kernel
theorem dX14_readGoat_39 : decode cX14_readGoat 39 = .ok (.ifCond .eq 7, 3) := by decide +kernel
theorem dX14_readGoat_42 : decode cX14_readGoat 42 = .ok (.iconst 1, 1) := by decide +kernel
theorem dX14_readGoat_43 : decode cX14_readGoat 43 = .ok (.goto 32, 3) := by decide +kernel
theorem dX14_readGoat_46 : decode cX14_readGoat 46 = .ok (.aload_n 0, 1) := by decide +kernel
theorem dX14_readGoat_47 : decode cX14_readGoat 47 = .ok (.ldc_w 335, 3) := by decide +kernel
theorem dX14_readGoat_50 : decode cX14_readGoat 50 = .ok (.invokevirtual 139, 3) := by decide +kernel
theorem dX14_readGoat_53 : decode cX14_readGoat 53 = .ok (.ifCond .eq 7, 3) := by decide +kernel
theorem dX14_readGoat_56 : decode cX14_readGoat 56 = .ok (.iconst 2, 1) := by decide +kernel
theorem dX14_readGoat_57 : decode cX14_readGoat 57 = .ok (.goto 18, 3) := by decide +kernel
theorem dX14_readGoat_60 : decode cX14_readGoat 60 = .ok (.aload_n 0, 1) := by decide +kernel
theorem dX14_readGoat_61 : decode cX14_readGoat 61 = .ok (.ldc_w 337, 3) := by decide +kernel
theorem dX14_readGoat_64 : decode cX14_readGoat 64 = .ok (.invokevirtual 139, 3) := by decide +kernel
theorem dX14_readGoat_67 : decode cX14_readGoat 67 = .ok (.ifCond .eq 7, 3) := by decide +kernel
theorem dX14_readGoat_70 : decode cX14_readGoat 70 = .ok (.iconst 3, 1) := by decide +kernel
theorem dX14_readGoat_71 : decode cX14_readGoat 71 = .ok (.goto 4, 3) := by decide +kernel
theorem dX14_readGoat_74 : decode cX14_readGoat 74 = .ok (.iconst (-1), 1) := by decide +kernel
theorem dX14_readGoat_75 : decode cX14_readGoat 75 = .ok (.istore_n 3, 1) := by decide +kernel
theorem dX14_readGoat_76 : decode cX14_readGoat 76 = .ok (.iload_n 3, 1) := by decide +kernel
theorem dX14_readGoat_77 : decode cX14_readGoat 77 = .ok (.iconst (-1), 1) := by decide +kernel
theorem dX14_readGoat_78 : decode cX14_readGoat 78 = .ok (.if_icmp .ne 8, 3) := by decide +kernel
theorem dX14_readGoat_81 : decode cX14_readGoat 81 = .ok (.aload_n 0, 1) := by decide +kernel
theorem dX14_readGoat_82 : decode cX14_readGoat 82 = .ok (.iconst 1, 1) := by decide +kernel
theorem dX14_readGoat_83 : decode cX14_readGoat 83 = .ok (.invokevirtual 143, 3) := by decide +kernel
theorem dX14_readGoat_86 : decode cX14_readGoat 86 = .ok (.aload_n 0, 1) := by decide +kernel
theorem dX14_readGoat_87 : decode cX14_readGoat 87 = .ok (.invokevirtual 136, 3) := by decide +kernel
theorem dX14_readGoat_90 : decode cX14_readGoat 90 = .ok (.iload_n 3, 1) := by decide +kernel
theorem dX14_readGoat_91 : decode cX14_readGoat 91 = .ok (.iconst 3, 1) := by decide +kernel
theorem dX14_readGoat_92 : decode cX14_readGoat 92 = .ok (.if_icmp .ne 11, 3) := by decide +kernel
theorem dX14_readGoat_95 : decode cX14_readGoat 95 = .ok (.aload_n 0, 1) := by decide +kernel
theorem dX14_readGoat_96 : decode cX14_readGoat 96 = .ok (.iconst 2, 1) := by decide +kernel
theorem dX14_readGoat_97 : decode cX14_readGoat 97 = .ok (.invokevirtual 309, 3) := by decide +kernel
theorem dX14_readGoat_100 : decode cX14_readGoat 100 = .ok (.goto 5, 3) := by decide +kernel
theorem dX14_readGoat_103 : decode cX14_readGoat 103 = .ok (.bipush (-2), 2) := by decide +kernel
theorem dX14_readGoat_105 : decode cX14_readGoat 105 = .ok (.istore 4, 2) := by decide +kernel
theorem dX14_readGoat_107 : decode cX14_readGoat 107 = .ok (.aload_n 0, 1) := by decide +kernel
theorem dX14_readGoat_108 : decode cX14_readGoat 108 = .ok (.ldc_w 339, 3) := by decide +kernel
theorem dX14_readGoat_111 : decode cX14_readGoat 111 = .ok (.invokevirtual 151, 3) := by decide +kernel
theorem dX14_readGoat_114 : decode cX14_readGoat 114 = .ok (.aload_n 0, 1) := by decide +kernel
theorem dX14_readGoat_115 : decode cX14_readGoat 115 = .ok (.getfield 94, 3) := by decide +kernel
theorem dX14_readGoat_118 : decode cX14_readGoat 118 = .ok (.iconst 2, 1) := by decide +kernel
theorem dX14_readGoat_119 : decode cX14_readGoat 119 = .ok (.if_icmp .eq 8, 3) := by decide +kernel
theorem dX14_readGoat_122 : decode cX14_readGoat 122 = .ok (.aload_n 0, 1) := by decide +kernel
theorem dX14_readGoat_123 : decode cX14_readGoat 123 = .ok (.iconst 1, 1) := by decide +kernel
theorem dX14_readGoat_124 : decode cX14_readGoat 124 = .ok (.invokevirtual 143, 3) := by decide +kernel
theorem dX14_readGoat_127 : decode cX14_readGoat 127 = .ok (.aload_n 0, 1) := by decide +kernel
theorem dX14_readGoat_128 : decode cX14_readGoat 128 = .ok (.getfield 192, 3) := by decide +kernel
theorem dX14_readGoat_131 : decode cX14_readGoat 131 = .ok (.getfield 328, 3) := by decide +kernel
theorem dX14_readGoat_134 : decode cX14_readGoat 134 = .ok (.bipush 6, 2) := by decide +kernel
theorem dX14_readGoat_136 : decode cX14_readGoat 136 = .ok (.if_icmp .ge 13, 3) := by decide +kernel
theorem dX14_readGoat_139 : decode cX14_readGoat 139 = .ok (.aload_n 0, 1) := by decide +kernel
theorem dX14_readGoat_140 : decode cX14_readGoat 140 = .ok (.getfield 192, 3) := by decide +kernel
theorem dX14_readGoat_143 : decode cX14_readGoat 143 = .ok (.getfield 328, 3) := by decide +kernel
theorem dX14_readGoat_146 : decode cX14_readGoat 146 = .ok (.goto 4, 3) := by decide +kernel
theorem dX14_readGoat_149 : decode cX14_readGoat 149 = .ok (.iconst 0, 1) := by decide +kernel
theorem dX14_readGoat_150 : decode cX14_readGoat 150 = .ok (.istore 5, 2) := by decide +kernel
theorem dX14_readGoat_152 : decode cX14_readGoat 152 = .ok (.aload_n 0, 1) := by decide +kernel
theorem dX14_readGoat_153 : decode cX14_readGoat 153 = .ok (.getfield 117, 3) := by decide +kernel
theorem dX14_readGoat_156 : decode cX14_readGoat 156 = .ok (.istore 6, 2) := by decide +kernel
theorem dX14_readGoat_158 : decode cX14_readGoat 158 = .ok (.iconst 0, 1) := by decide +kernel
theorem dX14_readGoat_159 : decode cX14_readGoat 159 = .ok (.istore 7, 2) := by decide +kernel
theorem dX14_readGoat_161 : decode cX14_readGoat 161 = .ok (.aload_n 0, 1) := by decide +kernel
theorem dX14_readGoat_162 : decode cX14_readGoat 162 = .ok (.getfield 94, 3) := by decide +kernel
theorem dX14_readGoat_165 : decode cX14_readGoat 165 = .ok (.iconst 5, 1) := by decide +kernel
theorem dX14_readGoat_166 : decode cX14_readGoat 166 = .ok (.if_icmp .eq 127, 3) := by decide +kernel
theorem dX14_readGoat_169 : decode cX14_readGoat 169 = .ok (.iload 7, 2) := by decide +kernel
theorem dX14_readGoat_171 : decode cX14_readGoat 171 = .ok (.aload_n 0, 1) := by decide +kernel
theorem dX14_readGoat_172 : decode cX14_readGoat 172 = .ok (.getfield 117, 3) := by decide +kernel
theorem dX14_readGoat_175 : decode cX14_readGoat 175 = .ok (.if_icmp .ge 118, 3) := by decide +kernel
theorem dX14_readGoat_178 : decode cX14_readGoat 178 = .ok (.aload_n 0, 1) := by decide +kernel
theorem dX14_readGoat_179 : decode cX14_readGoat 179 = .ok (.getfield 17, 3) := by decide +kernel
theorem dX14_readGoat_182 : decode cX14_readGoat 182 = .ok (.iload 7, 2) := by decide +kernel
theorem dX14_readGoat_184 : decode cX14_readGoat 184 = .ok (.iaload, 1) := by decide +kernel
theorem dX14_readGoat_185 : decode cX14_readGoat 185 = .ok (.bipush 97, 2) := by decide +kernel
theorem dX14_readGoat_187 : decode cX14_readGoat 187 = .ok (.isub, 1) := by decide +kernel
theorem dX14_readGoat_188 : decode cX14_readGoat 188 = .ok (.iconst 0, 1) := by decide +kernel
theorem dX14_readGoat_189 : decode cX14_readGoat 189 = .ok (.aload_n 0, 1) := by decide +kernel
theorem dX14_readGoat_190 : decode cX14_readGoat 190 = .ok (.getfield 192, 3) := by decide +kernel
theorem dX14_readGoat_193 : decode cX14_readGoat 193 = .ok (.getfield 229, 3) := by decide +kernel
theorem dX14_readGoat_196 : decode cX14_readGoat 196 = .ok (.iconst 1, 1) := by decide +kernel
theorem dX14_readGoat_197 : decode cX14_readGoat 197 = .ok (.isub, 1) := by decide +kernel
theorem dX14_readGoat_198 : decode cX14_readGoat 198 = .ok (.invokestatic 147, 3) := by decide +kernel
theorem dX14_readGoat_201 : decode cX14_readGoat 201 = .ok (.istore 8, 2) := by decide +kernel
theorem dX14_readGoat_203 : decode cX14_readGoat 203 = .ok (.iconst 0, 1) := by decide +kernel
theorem dX14_readGoat_204 : decode cX14_readGoat 204 = .ok (.istore 9, 2) := by decide +kernel
theorem dX14_readGoat_206 : decode cX14_readGoat 206 = .ok (.iload 9, 2) := by decide +kernel
theorem dX14_readGoat_208 : decode cX14_readGoat 208 = .ok (.iload 7, 2) := by decide +kernel
theorem dX14_readGoat_210 : decode cX14_readGoat 210 = .ok (.if_icmp .ge 38, 3) := by decide +kernel
theorem dX14_readGoat_213 : decode cX14_readGoat 213 = .ok (.iload 8, 2) := by decide +kernel
theorem dX14_readGoat_215 : decode cX14_readGoat 215 = .ok (.ifCond .eq 24, 3) := by decide +kernel
theorem dX14_readGoat_218 : decode cX14_readGoat 218 = .ok (.aload_n 0, 1) := by decide +kernel
theorem dX14_readGoat_219 : decode cX14_readGoat 219 = .ok (.getfield 17, 3) := by decide +kernel
theorem dX14_readGoat_222 : decode cX14_readGoat 222 = .ok (.iload 9, 2) := by decide +kernel
theorem dX14_readGoat_224 : decode cX14_readGoat 224 = .ok (.iaload, 1) := by decide +kernel
theorem dX14_readGoat_225 : decode cX14_readGoat 225 = .ok (.aload_n 0, 1) := by decide +kernel
theorem dX14_readGoat_226 : decode cX14_readGoat 226 = .ok (.getfield 17, 3) := by decide +kernel
theorem dX14_readGoat_229 : decode cX14_readGoat 229 = .ok (.iload 7, 2) := by decide +kernel
theorem dX14_readGoat_231 : decode cX14_readGoat 231 = .ok (.iaload, 1) := by decide +kernel
theorem dX14_readGoat_232 : decode cX14_readGoat 232 = .ok (.if_icmp .eq 7, 3) := by decide +kernel
theorem dX14_readGoat_235 : decode cX14_readGoat 235 = .ok (.iconst 1, 1) := by decide +kernel
theorem dX14_readGoat_236 : decode cX14_readGoat 236 = .ok (.goto 4, 3) := by decide +kernel
theorem dX14_readGoat_239 : decode cX14_readGoat 239 = .ok (.iconst 0, 1) := by decide +kernel
theorem dX14_readGoat_240 : decode cX14_readGoat 240 = .ok (.istore 8, 2) := by decide +kernel
theorem dX14_readGoat_242 : decode cX14_readGoat 242 = .ok (.iinc 9 1, 3) := by decide +kernel
theorem dX14_readGoat_245 : decode cX14_readGoat 245 = .ok (.goto (-39), 3) := by decide +kernel
theorem dX14_readGoat_248 : decode cX14_readGoat 248 = .ok (.iload 8, 2) := by decide +kernel
theorem dX14_readGoat_250 : decode cX14_readGoat 250 = .ok (.ifCond .eq 31, 3) := by decide +kernel
theorem dX14_readGoat_253 : decode cX14_readGoat 253 = .ok (.aload_n 0, 1) := by decide +kernel
theorem dX14_readGoat_254 : decode cX14_readGoat 254 = .ok (.getfield 192, 3) := by decide +kernel
theorem dX14_readGoat_257 : decode cX14_readGoat 257 = .ok (.getfield 341, 3) := by decide +kernel
theorem dX14_readGoat_260 : decode cX14_readGoat 260 = .ok (.iconst 4, 1) := by decide +kernel
theorem dX14_readGoat_261 : decode cX14_readGoat 261 = .ok (.iload 5, 2) := by decide +kernel
theorem dX14_readGoat_263 : decode cX14_readGoat 263 = .ok (.imul, 1) := by decide +kernel
theorem dX14_readGoat_264 : decode cX14_readGoat 264 = .ok (.iload 7, 2) := by decide +kernel
theorem dX14_readGoat_266 : decode cX14_readGoat 266 = .ok (.iadd, 1) := by decide +kernel
theorem dX14_readGoat_267 : decode cX14_readGoat 267 = .ok (.aload_n 0, 1) := by decide +kernel
theorem dX14_readGoat_268 : decode cX14_readGoat 268 = .ok (.getfield 17, 3) := by decide +kernel
theorem dX14_readGoat_271 : decode cX14_readGoat 271 = .ok (.iload 7, 2) := by decide +kernel
theorem dX14_readGoat_273 : decode cX14_readGoat 273 = .ok (.iaload, 1) := by decide +kernel
theorem dX14_readGoat_274 : decode cX14_readGoat 274 = .ok (.bipush 97, 2) := by decide +kernel
theorem dX14_readGoat_276 : decode cX14_readGoat 276 = .ok (.isub, 1) := by decide +kernel
theorem dX14_readGoat_277 : decode cX14_readGoat 277 = .ok (.iastore, 1) := by decide +kernel
theorem dX14_readGoat_278 : decode cX14_readGoat 278 = .ok (.goto 9, 3) := by decide +kernel
theorem dX14_readGoat_281 : decode cX14_readGoat 281 = .ok (.aload_n 0, 1) := by decide +kernel
theorem dX14_readGoat_282 : decode cX14_readGoat 282 = .ok (.bipush 7, 2) := by decide +kernel
theorem dX14_readGoat_284 : decode cX14_readGoat 284 = .ok (.invokevirtual 143, 3) := by decide +kernel
theorem dX14_readGoat_287 : decode cX14_readGoat 287 = .ok (.iinc 7 1, 3) := by decide +kernel
theorem dX14_readGoat_290 : decode cX14_readGoat 290 = .ok (.goto (-129), 3) := by decide +kernel
theorem dX14_readGoat_293 : decode cX14_readGoat 293 = .ok (.aload_n 0, 1) := by decide +kernel
theorem dX14_readGoat_294 : decode cX14_readGoat 294 = .ok (.invokevirtual 136, 3) := by decide +kernel
theorem dX14_readGoat_297 : decode cX14_readGoat 297 = .ok (.aload_n 0, 1) := by decide +kernel
theorem dX14_readGoat_298 : decode cX14_readGoat 298 = .ok (.ldc_w 343, 3) := by decide +kernel
theorem dX14_readGoat_301 : decode cX14_readGoat 301 = .ok (.invokevirtual 151, 3) := by decide +kernel
theorem dX14_readGoat_304 : decode cX14_readGoat 304 = .ok (.aload_n 0, 1) := by decide +kernel
theorem dX14_readGoat_305 : decode cX14_readGoat 305 = .ok (.iconst 0, 1) := by decide +kernel
theorem dX14_readGoat_306 : decode cX14_readGoat 306 = .ok (.invokevirtual 309, 3) := by decide +kernel
theorem dX14_readGoat_309 : decode cX14_readGoat 309 = .ok (.istore 7, 2) := by decide +kernel
theorem dX14_readGoat_311 : decode cX14_readGoat 311 = .ok (.aload_n 0, 1) := by decide +kernel
theorem dX14_readGoat_312 : decode cX14_readGoat 312 = .ok (.ldc_w 345, 3) := by decide +kernel
theorem dX14_readGoat_315 : decode cX14_readGoat 315 = .ok (.iconst 1, 1) := by decide +kernel
theorem dX14_readGoat_316 : decode cX14_readGoat 316 = .ok (.bipush 9, 2) := by decide +kernel
theorem dX14_readGoat_318 : decode cX14_readGoat 318 = .ok (.invokevirtual 287, 3) := by decide +kernel
theorem dX14_readGoat_321 : decode cX14_readGoat 321 = .ok (.istore 8, 2) := by decide +kernel
theorem dX14_readGoat_323 : decode cX14_readGoat 323 = .ok (.aload_n 0, 1) := by decide +kernel
theorem dX14_readGoat_324 : decode cX14_readGoat 324 = .ok (.getfield 94, 3) := by decide +kernel
theorem dX14_readGoat_327 : decode cX14_readGoat 327 = .ok (.iconst 5, 1) := by decide +kernel
theorem dX14_readGoat_328 : decode cX14_readGoat 328 = .ok (.if_icmp .ne 4, 3) := by decide +kernel
theorem dX14_readGoat_331 : decode cX14_readGoat 331 = .ok (.return_, 1) := by decide +kernel
theorem dX14_readGoat_332 : decode cX14_readGoat 332 = .ok (.aload_n 0, 1) := by decide +kernel
theorem dX14_readGoat_333 : decode cX14_readGoat 333 = .ok (.lload_n 1, 1) := by decide +kernel
theorem dX14_readGoat_334 : decode cX14_readGoat 334 = .ok (.iconst 2, 1) := by decide +kernel
theorem dX14_readGoat_335 : decode cX14_readGoat 335 = .ok (.iload 5, 2) := by decide +kernel
theorem dX14_readGoat_337 : decode cX14_readGoat 337 = .ok (.invokevirtual 303, 3) := by decide +kernel
theorem dX14_readGoat_340 : decode cX14_readGoat 340 = .ok (.aload_n 0, 1) := by decide +kernel
theorem dX14_readGoat_341 : decode cX14_readGoat 341 = .ok (.getfield 192, 3) := by decide +kernel
theorem dX14_readGoat_344 : decode cX14_readGoat 344 = .ok (.getfield 347, 3) := by decide +kernel
theorem dX14_readGoat_347 : decode cX14_readGoat 347 = .ok (.iload 5, 2) := by decide +kernel
theorem dX14_readGoat_349 : decode cX14_readGoat 349 = .ok (.iload_n 3, 1) := by decide +kernel
theorem dX14_readGoat_350 : decode cX14_readGoat 350 = .ok (.iastore, 1) := by decide +kernel
theorem dX14_readGoat_351 : decode cX14_readGoat 351 = .ok (.aload_n 0, 1) := by decide +kernel
theorem dX14_readGoat_352 : decode cX14_readGoat 352 = .ok (.getfield 192, 3) := by decide +kernel
theorem dX14_readGoat_355 : decode cX14_readGoat 355 = .ok (.getfield 350, 3) := by decide +kernel
theorem dX14_readGoat_358 : decode cX14_readGoat 358 = .ok (.iload 5, 2) := by decide +kernel
theorem dX14_readGoat_360 : decode cX14_readGoat 360 = .ok (.iload 4, 2) := by decide +kernel
theorem dX14_readGoat_362 : decode cX14_readGoat 362 = .ok (.iastore, 1) := by decide +kernel
theorem dX14_readGoat_363 : decode cX14_readGoat 363 = .ok (.aload_n 0, 1) := by decide +kernel
theorem dX14_readGoat_364 : decode cX14_readGoat 364 = .ok (.getfield 192, 3) := by decide +kernel
theorem dX14_readGoat_367 : decode cX14_readGoat 367 = .ok (.getfield 353, 3) := by decide +kernel
theorem dX14_readGoat_370 : decode cX14_readGoat 370 = .ok (.iload 5, 2) := by decide +kernel
theorem dX14_readGoat_372 : decode cX14_readGoat 372 = .ok (.iload 6, 2) := by decide +kernel
theorem dX14_readGoat_374 : decode cX14_readGoat 374 = .ok (.iastore, 1) := by decide +kernel
theorem dX14_readGoat_375 : decode cX14_readGoat 375 = .ok (.aload_n 0, 1) := by decide +kernel
theorem dX14_readGoat_376 : decode cX14_readGoat 376 = .ok (.getfield 192, 3) := by decide +kernel
theorem dX14_readGoat_379 : decode cX14_readGoat 379 = .ok (.getfield 356, 3) := by decide +kernel
theorem dX14_readGoat_382 : decode cX14_readGoat 382 = .ok (.iload 5, 2) := by decide +kernel
theorem dX14_readGoat_384 : decode cX14_readGoat 384 = .ok (.iload 7, 2) := by decide +kernel
theorem dX14_readGoat_386 : decode cX14_readGoat 386 = .ok (.iastore, 1) := by decide +kernel
theorem dX14_readGoat_387 : decode cX14_readGoat 387 = .ok (.aload_n 0, 1) := by decide +kernel
theorem dX14_readGoat_388 : decode cX14_readGoat 388 = .ok (.getfield 192, 3) := by decide +kernel
theorem dX14_readGoat_391 : decode cX14_readGoat 391 = .ok (.getfield 359, 3) := by decide +kernel
theorem dX14_readGoat_394 : decode cX14_readGoat 394 = .ok (.iload 5, 2) := by decide +kernel
theorem dX14_readGoat_396 : decode cX14_readGoat 396 = .ok (.iload 8, 2) := by decide +kernel
theorem dX14_readGoat_398 : decode cX14_readGoat 398 = .ok (.iastore, 1) := by decide +kernel
theorem dX14_readGoat_399 : decode cX14_readGoat 399 = .ok (.aload_n 0, 1) := by decide +kernel
theorem dX14_readGoat_400 : decode cX14_readGoat 400 = .ok (.getfield 192, 3) := by decide +kernel
theorem dX14_readGoat_403 : decode cX14_readGoat 403 = .ok (.dup, 1) := by decide +kernel
theorem dX14_readGoat_404 : decode cX14_readGoat 404 = .ok (.getfield 328, 3) := by decide +kernel
theorem dX14_readGoat_407 : decode cX14_readGoat 407 = .ok (.iconst 1, 1) := by decide +kernel
theorem dX14_readGoat_408 : decode cX14_readGoat 408 = .ok (.iadd, 1) := by decide +kernel
theorem dX14_readGoat_409 : decode cX14_readGoat 409 = .ok (.putfield 328, 3) := by decide +kernel
theorem dX14_readGoat_412 : decode cX14_readGoat 412 = .ok (.return_, 1) := by decide +kernel
set_option maxRecDepth 100000 in
set_option maxHeartbeats 4000000 in
theorem mX14_readGoat_L206 {E : goEv} {X : goX} {G : goG} {Q : State → Prop} {M : goMI} {L : goML} {R : goMR} {v7 : Int32} {w1 : Int64} {v3 : Int32} {v4 : Int32} {v5 : Int32} {v6 : Int32} (hc : goCx E X cX14_readGoat RX14 10) (hk : goKn E) (hR : X.2.2.2.1 = goRoom 10 214 0 0) (hr : X.2.2.2.2.2.2.2.2.1.sig.returnType = none) (hW : goW G R) : ∀ (n : Nat) (v8 : Int32) (v9 : Int32) (r0 : Int32), lX14_readGoat_206 v7 M n v8 v9 = some r0 → (∀ (d9 : Option Value), goA E X G 0 0 Q 248 [some (.ref 102), some (.long w1), none, some (.int v3), some (.int v4), some (.int v5), some (.int v6), some (.int v7), some (.int r0), d9] [] M L R) → goA E X G 0 0 Q 206 [some (.ref 102), some (.long w1), none, some (.int v3), some (.int v4), some (.int v5), some (.int v6), some (.int v7), some (.int v8), some (.int v9)] [] M L R := by
  intro n
  induction n with
  | zero => intro v8 v9 r0 h; exact nomatch h
  | succ n ih =>
    intro v8 v9 r0 h kx
    rw [lX14_readGoat_206] at h
    refine go_iload9 hc dX14_readGoat_206 ?_
    refine go_iload7 hc dX14_readGoat_208 ?_
    refine go_icmp_ge hc 248 dX14_readGoat_210 rfl (fun c81 => ?_) (fun c81 => ?_)
    · replace h := goIfF h c81
      cases h
      exact kx _
    · replace h := goIfT h c81
      refine go_iload8 hc dX14_readGoat_213 ?_
      replace h := goBind h; obtain ⟨x82, e83, h⟩ := h
      have k84 : ∀ (d8 : Option Value), goA E X G 0 0 Q 240 [some (.ref 102), some (.long w1), none, some (.int v3), some (.int v4), some (.int v5), some (.int v6), some (.int v7), d8, some (.int v9)] [.int x82] M L R := by
        intro d8
        refine go_istore8 hc dX14_readGoat_240 ?_
        refine go_iinc9 (v := (v9 + 1)) hc dX14_readGoat_242 rfl ?_
        refine go_goto hc 206 dX14_readGoat_245 rfl ?_
        exact ih _ _ _ h kx
      refine go_if_eq hc 239 dX14_readGoat_215 rfl (fun c85 => ?_) (fun c85 => ?_)
      · replace e83 := goIfT e83 c85
        refine go_iconst (v := 0) hc dX14_readGoat_239 rfl ?_
        cases e83
        exact k84 _
      · replace e83 := goIfF e83 c85
        refine go_aload0 hc dX14_readGoat_218 ?_
        refine go_getR hc lk_RX14_17 dX14_readGoat_219 (sh_102 hW) (rf_102_16 hW) ?_
        refine go_iload9 hc dX14_readGoat_222 ?_
        replace e83 := goBind e83; obtain ⟨x86, e87, e83⟩ := e83
        refine go_iald hc dX14_readGoat_224 (sh_104 hW) e87 ?_
        refine go_aload0 hc dX14_readGoat_225 ?_
        refine go_getR hc lk_RX14_17 dX14_readGoat_226 (sh_102 hW) (rf_102_16 hW) ?_
        refine go_iload7 hc dX14_readGoat_229 ?_
        replace e83 := goBind e83; obtain ⟨x88, e89, e83⟩ := e83
        refine go_iald hc dX14_readGoat_231 (sh_104 hW) e89 ?_
        refine go_icmp_eq hc 239 dX14_readGoat_232 rfl (fun c90 => ?_) (fun c90 => ?_)
        · replace e83 := goIfT e83 c90
          refine go_iconst (v := 0) hc dX14_readGoat_239 rfl ?_
          cases e83
          exact k84 _
        · replace e83 := goIfF e83 c90
          refine go_iconst (v := 1) hc dX14_readGoat_235 rfl ?_
          refine go_goto hc 240 dX14_readGoat_236 rfl ?_
          cases e83
          exact k84 _
set_option maxRecDepth 100000 in
set_option maxHeartbeats 4000000 in
theorem mX14_readGoat_L161 {E : goEv} {X : goX} {G : goG} {Q : State → Prop} {L : goML} {R : goMR} {N : Nat} {v5 : Int32} {w1 : Int64} {v3 : Int32} {v4 : Int32} {v6 : Int32} (hc : goCx E X cX14_readGoat RX14 10) (hk : goKn E) (hR : X.2.2.2.1 = goRoom 10 214 0 0) (hr : X.2.2.2.2.2.2.2.2.1.sig.returnType = none) (hW : goW G R) : ∀ (n : Nat) (v7 : Int32) (M : goMI) (r0 : goMI), lX14_readGoat_161 N v5 R n v7 M = some r0 → (∀ (d7 d8 d9 : Option Value), goA E X G 0 0 Q 293 [some (.ref 102), some (.long w1), none, some (.int v3), some (.int v4), some (.int v5), some (.int v6), d7, d8, d9] [] r0 L R) → ∀ (d8 d9 : Option Value), goA E X G 0 0 Q 161 [some (.ref 102), some (.long w1), none, some (.int v3), some (.int v4), some (.int v5), some (.int v6), some (.int v7), d8, d9] [] M L R := by
  intro n
  induction n with
  | zero => intro v7 M r0 h; exact nomatch h
  | succ n ih =>
    intro v7 M r0 h kx d8 d9
    rw [lX14_readGoat_161] at h
    refine go_aload0 hc dX14_readGoat_161 ?_
    refine go_getI hc lk_RX14_94 dX14_readGoat_162 (sh_102 hW) ?_
    refine go_iconst (v := 5) hc dX14_readGoat_165 rfl ?_
    refine go_icmp_eq hc 293 dX14_readGoat_166 rfl (fun c73 => ?_) (fun c73 => ?_)
    · replace h := goIfT h c73
      cases h
      exact kx _ _ _
    · replace h := goIfF h c73
      refine go_iload7 hc dX14_readGoat_169 ?_
      refine go_aload0 hc dX14_readGoat_171 ?_
      refine go_getI hc lk_RX14_117 dX14_readGoat_172 (sh_102 hW) ?_
      refine go_icmp_ge hc 293 dX14_readGoat_175 rfl (fun c74 => ?_) (fun c74 => ?_)
      · replace h := goIfF h c74
        cases h
        exact kx _ _ _
      · replace h := goIfT h c74
        refine go_aload0 hc dX14_readGoat_178 ?_
        refine go_getR hc lk_RX14_17 dX14_readGoat_179 (sh_102 hW) (rf_102_16 hW) ?_
        refine go_iload7 hc dX14_readGoat_182 ?_
        replace h := goBind h; obtain ⟨x75, e76, h⟩ := h
        refine go_iald hc dX14_readGoat_184 (sh_104 hW) e76 ?_
        refine go_bipush (v := 97) hc dX14_readGoat_185 rfl ?_
        refine go_isub hc dX14_readGoat_187 ?_
        refine go_iconst (v := 0) hc dX14_readGoat_188 rfl ?_
        refine go_aload0 hc dX14_readGoat_189 ?_
        replace h := goBind h; obtain ⟨b77, e78, h⟩ := h
        refine go_getR hc lk_RX14_192 dX14_readGoat_190 (sh_102 hW) e78 ?_
        refine go_getI hc lk_RX14_229 dX14_readGoat_193 (shM_0 (goW_M4 hW e78)) ?_
        refine go_iconst (v := 1) hc dX14_readGoat_196 rfl ?_
        refine go_isub hc dX14_readGoat_197 ?_
        refine go_callSi hc dX14_readGoat_198 (mX14_within hk hW rfl) ml_RX14_147 yk_X14_within wst_X14_within hR rfl rfl rfl (Nat.le_of_ble_eq_true rfl) rfl ?_
        replace h := goNm_x h; obtain ⟨x79, e80, h⟩ := h
        refine go_nmI e80 ?_
        refine go_istore8 hc dX14_readGoat_201 ?_
        refine go_iconst (v := 0) hc dX14_readGoat_203 rfl ?_
        refine go_istore9 hc dX14_readGoat_204 ?_
        replace h := goBind h; obtain ⟨x92, e91, h⟩ := h
        refine mX14_readGoat_L206 hc hk hR hr hW _ _ _ _ e91 (fun d9 => ?_)
        refine go_iload8 hc dX14_readGoat_248 ?_
        replace h := goBind h; obtain ⟨M93, e94, h⟩ := h
        have k95 : ∀ (d8 d9 : Option Value), goA E X G 0 0 Q 287 [some (.ref 102), some (.long w1), none, some (.int v3), some (.int v4), some (.int v5), some (.int v6), some (.int v7), d8, d9] [] M93 L R := by
          intro d8 d9
          refine go_iinc7 (v := (v7 + 1)) hc dX14_readGoat_287 rfl ?_
          refine go_goto hc 161 dX14_readGoat_290 rfl ?_
          exact ih _ _ _ h kx _ _
        refine go_if_eq hc 281 dX14_readGoat_250 rfl (fun c96 => ?_) (fun c96 => ?_)
        · replace e94 := goIfT e94 c96
          refine go_aload0 hc dX14_readGoat_281 ?_
          refine go_bipush (v := 7) hc dX14_readGoat_282 rfl ?_
          replace e94 := goBind e94; obtain ⟨M97, e98, e94⟩ := e94
          refine go_callVv hc dX14_readGoat_284 (mX14_flaw hk hW e98) ml_RX14_143 yk_X14_flaw ⟨wim_X14_flaw, wse_X14_flaw⟩ hR rfl (sh_102 hW) rfl rfl rfl (Nat.le_of_ble_eq_true rfl) rfl ?_
          cases e94
          exact k95 _ _
        · replace e94 := goIfF e94 c96
          refine go_aload0 hc dX14_readGoat_253 ?_
          replace e94 := goBind e94; obtain ⟨b99, e100, e94⟩ := e94
          refine go_getR hc lk_RX14_192 dX14_readGoat_254 (sh_102 hW) e100 ?_
          refine go_getR hc lk_RX14_341 dX14_readGoat_257 (shM_0 (goW_M4 hW e100)) (rfM_24 (goW_M4 hW e100)) ?_
          refine go_iconst (v := 4) hc dX14_readGoat_260 rfl ?_
          refine go_iload5 hc dX14_readGoat_261 ?_
          refine go_imul hc dX14_readGoat_263 ?_
          refine go_iload7 hc dX14_readGoat_264 ?_
          refine go_iadd hc dX14_readGoat_266 ?_
          refine go_aload0 hc dX14_readGoat_267 ?_
          refine go_getR hc lk_RX14_17 dX14_readGoat_268 (sh_102 hW) (rf_102_16 hW) ?_
          refine go_iload7 hc dX14_readGoat_271 ?_
          replace e94 := goBind e94; obtain ⟨x101, e102, e94⟩ := e94
          refine go_iald hc dX14_readGoat_273 (sh_104 hW) e102 ?_
          refine go_bipush (v := 97) hc dX14_readGoat_274 rfl ?_
          refine go_isub hc dX14_readGoat_276 ?_
          replace e94 := goBind e94; obtain ⟨M103, e104, e94⟩ := e94
          refine go_iast hc dX14_readGoat_277 (shM_9 (goW_M4 hW e100)) e104 ?_
          refine go_goto hc 287 dX14_readGoat_278 rfl ?_
          cases e94
          exact k95 _ _
set_option maxRecDepth 100000 in
set_option maxHeartbeats 4000000 in
theorem mX14_readGoat {E : goEv} {l : Launch} {G : goG} {N : Nat} {M : goMI} {L : goML} {R : goMR} {r0 : goMI} {r1 : goML} (hk : goKn E) (hW : goW G R) (h : fX14_readGoat N M L R = some (r0, r1)) : Met l yX14_readGoat (goCd yX14_readGoat cX14_readGoat 10 none) (goRoom 10 214 0 0) (goPre E [.ref 102] G M L R) (goQv E G r0 r1 R) 0 0 (goSet E) := by
  refine goMet pl_RX14 hk (lv := [some (.ref 102), none, none, none, none, none, none, none, none, none]) rfl (Nat.le_of_ble_eq_true rfl) ?_
  intro X hc hl hR hr hnm
  subst hl
  unfold fX14_readGoat at h
  refine go_aload0 hc dX14_readGoat_0 ?_
  refine go_aload0 hc dX14_readGoat_1 ?_
  replace h := goBind h; obtain ⟨b11, e12, h⟩ := h
  refine go_getR hc lk_RX14_192 dX14_readGoat_2 (sh_102 hW) e12 ?_
  refine go_getI hc lk_RX14_328 dX14_readGoat_5 (shM_0 (goW_M4 hW e12)) ?_
  refine go_bipush (v := 6) hc dX14_readGoat_8 rfl ?_
  replace h := goB2_h h; obtain ⟨M13, L14, e15, h⟩ := h
  refine go_callVv hc dX14_readGoat_10 (mX14_begins hk hW e15) ml_RX14_201 yk_X14_begins ⟨wim_X14_begins, wse_X14_begins⟩ hR rfl (sh_102 hW) rfl rfl rfl (Nat.le_of_ble_eq_true rfl) rfl ?_
  refine go_aload0 hc dX14_readGoat_13 ?_
  replace h := goB3_h h; obtain ⟨x16, M17, L18, e19, h⟩ := h
  refine go_callVl hc dX14_readGoat_14 (mX14_readFresh hk hW e19) ml_RX14_292 yk_X14_readFresh ⟨wim_X14_readFresh, wse_X14_readFresh⟩ hR rfl (sh_102 hW) rfl rfl rfl (Nat.le_of_ble_eq_true rfl) rfl ?_
  refine go_lstore1 hc dX14_readGoat_17 ?_
  refine go_aload0 hc dX14_readGoat_18 ?_
  refine go_ldcwS hc (i := 49) (q := 1000149) (Nat.le_of_ble_eq_true rfl) rfl rfl rfl dX14_readGoat_19 ?_
  replace h := goBind h; obtain ⟨x20, e21, h⟩ := h
  refine go_callVi hc dX14_readGoat_22 (mX14_isWord hk hW e21) ml_RX14_139 yk_X14_isWord ⟨wim_X14_isWord, wse_X14_isWord⟩ hR rfl (sh_102 hW) rfl rfl rfl (Nat.le_of_ble_eq_true rfl) rfl ?_
  replace h := goBind h; obtain ⟨x22, e23, h⟩ := h
  have k24 : ∀ (d3 d4 d5 d6 d7 d8 d9 : Option Value), goA E X G 0 0 (goMQ X E (goQv E G r0 r1 R) 0 0) 75 [some (.ref 102), some (.long x16), none, d3, d4, d5, d6, d7, d8, d9] [.int x22] M17 L18 R := by
    intro d3 d4 d5 d6 d7 d8 d9
    refine go_istore3 hc dX14_readGoat_75 ?_
    refine go_iload3 hc dX14_readGoat_76 ?_
    refine go_iconst (v := (-1)) hc dX14_readGoat_77 rfl ?_
    replace h := goBind h; obtain ⟨M35, e36, h⟩ := h
    have k37 : ∀ (d4 d5 d6 d7 d8 d9 : Option Value), goA E X G 0 0 (goMQ X E (goQv E G r0 r1 R) 0 0) 86 [some (.ref 102), some (.long x16), none, some (.int x22), d4, d5, d6, d7, d8, d9] [] M35 L18 R := by
      intro d4 d5 d6 d7 d8 d9
      refine go_aload0 hc dX14_readGoat_86 ?_
      replace h := goB2_h h; obtain ⟨M41, L42, e43, h⟩ := h
      refine go_callVv hc dX14_readGoat_87 (mX14_goesOn hk hW e43) ml_RX14_136 yk_X14_goesOn ⟨wim_X14_goesOn, wse_X14_goesOn⟩ hR rfl (sh_102 hW) rfl rfl rfl (Nat.le_of_ble_eq_true rfl) rfl ?_
      refine go_iload3 hc dX14_readGoat_90 ?_
      refine go_iconst (v := 3) hc dX14_readGoat_91 rfl ?_
      replace h := goB3_h h; obtain ⟨x44, M45, L46, e47, h⟩ := h
      have k48 : ∀ (d4 d5 d6 d7 d8 d9 : Option Value), goA E X G 0 0 (goMQ X E (goQv E G r0 r1 R) 0 0) 105 [some (.ref 102), some (.long x16), none, some (.int x22), d4, d5, d6, d7, d8, d9] [.int x44] M45 L46 R := by
        intro d4 d5 d6 d7 d8 d9
        refine go_istore4 hc dX14_readGoat_105 ?_
        refine go_aload0 hc dX14_readGoat_107 ?_
        refine go_ldcwS hc (i := 53) (q := 1000153) (Nat.le_of_ble_eq_true rfl) rfl rfl rfl dX14_readGoat_108 ?_
        replace h := goB2_h h; obtain ⟨M54, L55, e56, h⟩ := h
        refine go_callVv hc dX14_readGoat_111 (mX14_wants hk hW e56) ml_RX14_151 yk_X14_wants ⟨wim_X14_wants, wse_X14_wants⟩ hR rfl (sh_102 hW) rfl rfl rfl (Nat.le_of_ble_eq_true rfl) rfl ?_
        refine go_aload0 hc dX14_readGoat_114 ?_
        refine go_getI hc lk_RX14_94 dX14_readGoat_115 (sh_102 hW) ?_
        refine go_iconst (v := 2) hc dX14_readGoat_118 rfl ?_
        replace h := goBind h; obtain ⟨M57, e58, h⟩ := h
        have k59 : ∀ (d5 d6 d7 d8 d9 : Option Value), goA E X G 0 0 (goMQ X E (goQv E G r0 r1 R) 0 0) 127 [some (.ref 102), some (.long x16), none, some (.int x22), some (.int x44), d5, d6, d7, d8, d9] [] M57 L55 R := by
          intro d5 d6 d7 d8 d9
          refine go_aload0 hc dX14_readGoat_127 ?_
          replace h := goBind h; obtain ⟨b63, e64, h⟩ := h
          refine go_getR hc lk_RX14_192 dX14_readGoat_128 (sh_102 hW) e64 ?_
          refine go_getI hc lk_RX14_328 dX14_readGoat_131 (shM_0 (goW_M4 hW e64)) ?_
          refine go_bipush (v := 6) hc dX14_readGoat_134 rfl ?_
          replace h := goBind h; obtain ⟨x65, e66, h⟩ := h
          have k67 : ∀ (d5 d6 d7 d8 d9 : Option Value), goA E X G 0 0 (goMQ X E (goQv E G r0 r1 R) 0 0) 150 [some (.ref 102), some (.long x16), none, some (.int x22), some (.int x44), d5, d6, d7, d8, d9] [.int x65] M57 L55 R := by
            intro d5 d6 d7 d8 d9
            refine go_istore5 hc dX14_readGoat_150 ?_
            refine go_aload0 hc dX14_readGoat_152 ?_
            refine go_getI hc lk_RX14_117 dX14_readGoat_153 (sh_102 hW) ?_
            replace h := goNm_x h; obtain ⟨x71, e72, h⟩ := h
            refine go_nmI e72 ?_
            refine go_istore6 hc dX14_readGoat_156 ?_
            refine go_iconst (v := 0) hc dX14_readGoat_158 rfl ?_
            refine go_istore7 hc dX14_readGoat_159 ?_
            replace h := goBind h; obtain ⟨M106, e105, h⟩ := h
            refine mX14_readGoat_L161 hc hk hR hr hW _ _ _ _ e105 (fun d7 d8 d9 => ?_) _ _
            refine go_aload0 hc dX14_readGoat_293 ?_
            replace h := goB2_h h; obtain ⟨M107, L108, e109, h⟩ := h
            refine go_callVv hc dX14_readGoat_294 (mX14_goesOn hk hW e109) ml_RX14_136 yk_X14_goesOn ⟨wim_X14_goesOn, wse_X14_goesOn⟩ hR rfl (sh_102 hW) rfl rfl rfl (Nat.le_of_ble_eq_true rfl) rfl ?_
            refine go_aload0 hc dX14_readGoat_297 ?_
            refine go_ldcwS hc (i := 54) (q := 1000154) (Nat.le_of_ble_eq_true rfl) rfl rfl rfl dX14_readGoat_298 ?_
            replace h := goB2_h h; obtain ⟨M110, L111, e112, h⟩ := h
            refine go_callVv hc dX14_readGoat_301 (mX14_wants hk hW e112) ml_RX14_151 yk_X14_wants ⟨wim_X14_wants, wse_X14_wants⟩ hR rfl (sh_102 hW) rfl rfl rfl (Nat.le_of_ble_eq_true rfl) rfl ?_
            refine go_aload0 hc dX14_readGoat_304 ?_
            refine go_iconst (v := 0) hc dX14_readGoat_305 rfl ?_
            replace h := goB3_h h; obtain ⟨x113, M114, L115, e116, h⟩ := h
            refine go_callVi hc dX14_readGoat_306 (mX14_readKnown hk hW e116) ml_RX14_309 yk_X14_readKnown ⟨wim_X14_readKnown, wse_X14_readKnown⟩ hR rfl (sh_102 hW) rfl rfl rfl (Nat.le_of_ble_eq_true rfl) rfl ?_
            refine go_istore7 hc dX14_readGoat_309 ?_
            refine go_aload0 hc dX14_readGoat_311 ?_
            refine go_ldcwS hc (i := 55) (q := 1000155) (Nat.le_of_ble_eq_true rfl) rfl rfl rfl dX14_readGoat_312 ?_
            refine go_iconst (v := 1) hc dX14_readGoat_315 rfl ?_
            refine go_bipush (v := 9) hc dX14_readGoat_316 rfl ?_
            replace h := goB3_h h; obtain ⟨x117, M118, L119, e120, h⟩ := h
            refine go_callVi hc dX14_readGoat_318 (mX14_readPart hk hW e120) ml_RX14_287 yk_X14_readPart ⟨wim_X14_readPart, wse_X14_readPart⟩ hR rfl (sh_102 hW) rfl rfl rfl (Nat.le_of_ble_eq_true rfl) rfl ?_
            refine go_istore8 hc dX14_readGoat_321 ?_
            refine go_aload0 hc dX14_readGoat_323 ?_
            refine go_getI hc lk_RX14_94 dX14_readGoat_324 (sh_102 hW) ?_
            refine go_iconst (v := 5) hc dX14_readGoat_327 rfl ?_
            refine go_icmp_ne hc 332 dX14_readGoat_328 rfl (fun c121 => ?_) (fun c121 => ?_)
            · replace h := goIfF h c121
              refine go_aload0 hc dX14_readGoat_332 ?_
              refine go_lload1 hc dX14_readGoat_333 ?_
              refine go_iconst (v := 2) hc dX14_readGoat_334 rfl ?_
              refine go_iload5 hc dX14_readGoat_335 ?_
              replace h := goB2_h h; obtain ⟨M122, L123, e124, h⟩ := h
              refine go_callVv hc dX14_readGoat_337 (mX14_names hk hW e124) ml_RX14_303 yk_X14_names ⟨wim_X14_names, wse_X14_names⟩ hR rfl (sh_102 hW) rfl rfl rfl (Nat.le_of_ble_eq_true rfl) rfl ?_
              refine go_aload0 hc dX14_readGoat_340 ?_
              replace h := goBind h; obtain ⟨b125, e126, h⟩ := h
              refine go_getR hc lk_RX14_192 dX14_readGoat_341 (sh_102 hW) e126 ?_
              refine go_getR hc lk_RX14_347 dX14_readGoat_344 (shM_0 (goW_M4 hW e126)) (rfM_21 (goW_M4 hW e126)) ?_
              refine go_iload5 hc dX14_readGoat_347 ?_
              refine go_iload3 hc dX14_readGoat_349 ?_
              replace h := goBind h; obtain ⟨M127, e128, h⟩ := h
              refine go_iast hc dX14_readGoat_350 (shM_6 (goW_M4 hW e126)) e128 ?_
              refine go_aload0 hc dX14_readGoat_351 ?_
              replace h := goBind h; obtain ⟨b129, e130, h⟩ := h
              refine go_getR hc lk_RX14_192 dX14_readGoat_352 (sh_102 hW) e130 ?_
              refine go_getR hc lk_RX14_350 dX14_readGoat_355 (shM_0 (goW_M4 hW e130)) (rfM_22 (goW_M4 hW e130)) ?_
              refine go_iload5 hc dX14_readGoat_358 ?_
              refine go_iload4 hc dX14_readGoat_360 ?_
              replace h := goBind h; obtain ⟨M131, e132, h⟩ := h
              refine go_iast hc dX14_readGoat_362 (shM_7 (goW_M4 hW e130)) e132 ?_
              refine go_aload0 hc dX14_readGoat_363 ?_
              replace h := goBind h; obtain ⟨b133, e134, h⟩ := h
              refine go_getR hc lk_RX14_192 dX14_readGoat_364 (sh_102 hW) e134 ?_
              refine go_getR hc lk_RX14_353 dX14_readGoat_367 (shM_0 (goW_M4 hW e134)) (rfM_23 (goW_M4 hW e134)) ?_
              refine go_iload5 hc dX14_readGoat_370 ?_
              refine go_iload6 hc dX14_readGoat_372 ?_
              replace h := goBind h; obtain ⟨M135, e136, h⟩ := h
              refine go_iast hc dX14_readGoat_374 (shM_8 (goW_M4 hW e134)) e136 ?_
              refine go_aload0 hc dX14_readGoat_375 ?_
              replace h := goBind h; obtain ⟨b137, e138, h⟩ := h
              refine go_getR hc lk_RX14_192 dX14_readGoat_376 (sh_102 hW) e138 ?_
              refine go_getR hc lk_RX14_356 dX14_readGoat_379 (shM_0 (goW_M4 hW e138)) (rfM_25 (goW_M4 hW e138)) ?_
              refine go_iload5 hc dX14_readGoat_382 ?_
              refine go_iload7 hc dX14_readGoat_384 ?_
              replace h := goBind h; obtain ⟨M139, e140, h⟩ := h
              refine go_iast hc dX14_readGoat_386 (shM_10 (goW_M4 hW e138)) e140 ?_
              refine go_aload0 hc dX14_readGoat_387 ?_
              replace h := goBind h; obtain ⟨b141, e142, h⟩ := h
              refine go_getR hc lk_RX14_192 dX14_readGoat_388 (sh_102 hW) e142 ?_
              refine go_getR hc lk_RX14_359 dX14_readGoat_391 (shM_0 (goW_M4 hW e142)) (rfM_26 (goW_M4 hW e142)) ?_
              refine go_iload5 hc dX14_readGoat_394 ?_
              refine go_iload8 hc dX14_readGoat_396 ?_
              replace h := goBind h; obtain ⟨M143, e144, h⟩ := h
              refine go_iast hc dX14_readGoat_398 (shM_11 (goW_M4 hW e142)) e144 ?_
              refine go_aload0 hc dX14_readGoat_399 ?_
              replace h := goBind h; obtain ⟨b145, e146, h⟩ := h
              refine go_getR hc lk_RX14_192 dX14_readGoat_400 (sh_102 hW) e146 ?_
              refine go_dupr hc dX14_readGoat_403 ?_
              refine go_getI hc lk_RX14_328 dX14_readGoat_404 (shM_0 (goW_M4 hW e146)) ?_
              refine go_iconst (v := 1) hc dX14_readGoat_407 rfl ?_
              refine go_iadd hc dX14_readGoat_408 ?_
              replace h := goNm_x h; obtain ⟨M147, e148, h⟩ := h
              refine go_ptI hc lk_RX14_328 dX14_readGoat_409 (shM_0 (goW_M4 hW e146)) e148 ?_
              cases h
              exact go_vret hc dX14_readGoat_412 hr
            · replace h := goIfT h c121
              cases h
              exact go_vret hc dX14_readGoat_331 hr
          refine go_icmp_ge hc 149 dX14_readGoat_136 rfl (fun c68 => ?_) (fun c68 => ?_)
          · replace e66 := goIfF e66 c68
            refine go_iconst (v := 0) hc dX14_readGoat_149 rfl ?_
            cases e66
            exact k67 _ _ _ _ _
          · replace e66 := goIfT e66 c68
            refine go_aload0 hc dX14_readGoat_139 ?_
            replace e66 := goBind e66; obtain ⟨b69, e70, e66⟩ := e66
            refine go_getR hc lk_RX14_192 dX14_readGoat_140 (sh_102 hW) e70 ?_
            refine go_getI hc lk_RX14_328 dX14_readGoat_143 (shM_0 (goW_M4 hW e70)) ?_
            refine go_goto hc 150 dX14_readGoat_146 rfl ?_
            cases e66
            exact k67 _ _ _ _ _
        refine go_icmp_eq hc 127 dX14_readGoat_119 rfl (fun c60 => ?_) (fun c60 => ?_)
        · replace e58 := goIfT e58 c60
          cases e58
          exact k59 _ _ _ _ _
        · replace e58 := goIfF e58 c60
          refine go_aload0 hc dX14_readGoat_122 ?_
          refine go_iconst (v := 1) hc dX14_readGoat_123 rfl ?_
          replace e58 := goBind e58; obtain ⟨M61, e62, e58⟩ := e58
          refine go_callVv hc dX14_readGoat_124 (mX14_flaw hk hW e62) ml_RX14_143 yk_X14_flaw ⟨wim_X14_flaw, wse_X14_flaw⟩ hR rfl (sh_102 hW) rfl rfl rfl (Nat.le_of_ble_eq_true rfl) rfl ?_
          cases e58
          exact k59 _ _ _ _ _
      refine go_icmp_ne hc 103 dX14_readGoat_92 rfl (fun c49 => ?_) (fun c49 => ?_)
      · replace e47 := goIfF e47 c49
        refine go_bipush (v := (-2)) hc dX14_readGoat_103 rfl ?_
        cases e47
        exact k48 _ _ _ _ _ _
      · replace e47 := goIfT e47 c49
        refine go_aload0 hc dX14_readGoat_95 ?_
        refine go_iconst (v := 2) hc dX14_readGoat_96 rfl ?_
        replace e47 := goB3_h e47; obtain ⟨x50, M51, L52, e53, e47⟩ := e47
        refine go_callVi hc dX14_readGoat_97 (mX14_readKnown hk hW e53) ml_RX14_309 yk_X14_readKnown ⟨wim_X14_readKnown, wse_X14_readKnown⟩ hR rfl (sh_102 hW) rfl rfl rfl (Nat.le_of_ble_eq_true rfl) rfl ?_
        refine go_goto hc 105 dX14_readGoat_100 rfl ?_
        cases e47
        exact k48 _ _ _ _ _ _
    refine go_icmp_ne hc 86 dX14_readGoat_78 rfl (fun c38 => ?_) (fun c38 => ?_)
    · replace e36 := goIfF e36 c38
      cases e36
      exact k37 _ _ _ _ _ _
    · replace e36 := goIfT e36 c38
      refine go_aload0 hc dX14_readGoat_81 ?_
      refine go_iconst (v := 1) hc dX14_readGoat_82 rfl ?_
      replace e36 := goBind e36; obtain ⟨M39, e40, e36⟩ := e36
      refine go_callVv hc dX14_readGoat_83 (mX14_flaw hk hW e40) ml_RX14_143 yk_X14_flaw ⟨wim_X14_flaw, wse_X14_flaw⟩ hR rfl (sh_102 hW) rfl rfl rfl (Nat.le_of_ble_eq_true rfl) rfl ?_
      cases e36
      exact k37 _ _ _ _ _ _
  refine go_if_eq hc 32 dX14_readGoat_25 rfl (fun c25 => ?_) (fun c25 => ?_)
  · replace e23 := goIfT e23 c25
    refine go_aload0 hc dX14_readGoat_32 ?_
    refine go_ldcwS hc (i := 50) (q := 1000150) (Nat.le_of_ble_eq_true rfl) rfl rfl rfl dX14_readGoat_33 ?_
    replace e23 := goBind e23; obtain ⟨x26, e27, e23⟩ := e23
    refine go_callVi hc dX14_readGoat_36 (mX14_isWord hk hW e27) ml_RX14_139 yk_X14_isWord ⟨wim_X14_isWord, wse_X14_isWord⟩ hR rfl (sh_102 hW) rfl rfl rfl (Nat.le_of_ble_eq_true rfl) rfl ?_
    refine go_if_eq hc 46 dX14_readGoat_39 rfl (fun c28 => ?_) (fun c28 => ?_)
    · replace e23 := goIfT e23 c28
      refine go_aload0 hc dX14_readGoat_46 ?_
      refine go_ldcwS hc (i := 51) (q := 1000151) (Nat.le_of_ble_eq_true rfl) rfl rfl rfl dX14_readGoat_47 ?_
      replace e23 := goBind e23; obtain ⟨x29, e30, e23⟩ := e23
      refine go_callVi hc dX14_readGoat_50 (mX14_isWord hk hW e30) ml_RX14_139 yk_X14_isWord ⟨wim_X14_isWord, wse_X14_isWord⟩ hR rfl (sh_102 hW) rfl rfl rfl (Nat.le_of_ble_eq_true rfl) rfl ?_
      refine go_if_eq hc 60 dX14_readGoat_53 rfl (fun c31 => ?_) (fun c31 => ?_)
      · replace e23 := goIfT e23 c31
        refine go_aload0 hc dX14_readGoat_60 ?_
        refine go_ldcwS hc (i := 52) (q := 1000152) (Nat.le_of_ble_eq_true rfl) rfl rfl rfl dX14_readGoat_61 ?_
        replace e23 := goBind e23; obtain ⟨x32, e33, e23⟩ := e23
        refine go_callVi hc dX14_readGoat_64 (mX14_isWord hk hW e33) ml_RX14_139 yk_X14_isWord ⟨wim_X14_isWord, wse_X14_isWord⟩ hR rfl (sh_102 hW) rfl rfl rfl (Nat.le_of_ble_eq_true rfl) rfl ?_
        refine go_if_eq hc 74 dX14_readGoat_67 rfl (fun c34 => ?_) (fun c34 => ?_)
        · replace e23 := goIfT e23 c34
          refine go_iconst (v := (-1)) hc dX14_readGoat_74 rfl ?_
          cases e23
          exact k24 _ _ _ _ _ _ _
        · replace e23 := goIfF e23 c34
          refine go_iconst (v := 3) hc dX14_readGoat_70 rfl ?_
          refine go_goto hc 75 dX14_readGoat_71 rfl ?_
          cases e23
          exact k24 _ _ _ _ _ _ _
      · replace e23 := goIfF e23 c31
        refine go_iconst (v := 2) hc dX14_readGoat_56 rfl ?_
        refine go_goto hc 75 dX14_readGoat_57 rfl ?_
        cases e23
        exact k24 _ _ _ _ _ _ _
    · replace e23 := goIfF e23 c28
      refine go_iconst (v := 1) hc dX14_readGoat_42 rfl ?_
      refine go_goto hc 75 dX14_readGoat_43 rfl ?_
      cases e23
      exact k24 _ _ _ _ _ _ _
  · replace e23 := goIfF e23 c25
    refine go_iconst (v := 0) hc dX14_readGoat_28 rfl ?_
    refine go_goto hc 75 dX14_readGoat_29 rfl ?_
    cases e23
    exact k24 _ _ _ _ _ _ _
theorem dX14_readFears_0 : decode cX14_readFears 0 = .ok (.aload_n 0, 1) := by decide +kernel
theorem dX14_readFears_1 : decode cX14_readFears 1 = .ok (.aload_n 0, 1) := by decide +kernel
theorem dX14_readFears_2 : decode cX14_readFears 2 = .ok (.getfield 192, 3) := by decide +kernel
theorem dX14_readFears_5 : decode cX14_readFears 5 = .ok (.getfield 361, 3) := by decide +kernel
theorem dX14_readFears_8 : decode cX14_readFears 8 = .ok (.bipush 8, 2) := by decide +kernel
theorem dX14_readFears_10 : decode cX14_readFears 10 = .ok (.invokevirtual 201, 3) := by decide +kernel
theorem dX14_readFears_13 : decode cX14_readFears 13 = .ok (.aload_n 0, 1) := by decide +kernel
theorem dX14_readFears_14 : decode cX14_readFears 14 = .ok (.iconst 2, 1) := by decide +kernel
theorem dX14_readFears_15 : decode cX14_readFears 15 = .ok (.invokevirtual 309, 3) := by decide +kernel
theorem dX14_readFears_18 : decode cX14_readFears 18 = .ok (.istore_n 1, 1) := by decide +kernel
theorem dX14_readFears_19 : decode cX14_readFears 19 = .ok (.aload_n 0, 1) := by decide +kernel
theorem dX14_readFears_20 : decode cX14_readFears 20 = .ok (.iconst 1, 1) := by decide +kernel
theorem dX14_readFears_21 : decode cX14_readFears 21 = .ok (.invokevirtual 226, 3) := by decide +kernel
theorem dX14_readFears_24 : decode cX14_readFears 24 = .ok (.istore_n 2, 1) := by decide +kernel
theorem dX14_readFears_25 : decode cX14_readFears 25 = .ok (.aload_n 0, 1) := by decide +kernel
theorem dX14_readFears_26 : decode cX14_readFears 26 = .ok (.getfield 94, 3) := by decide +kernel
theorem dX14_readFears_29 : decode cX14_readFears 29 = .ok (.iconst 5, 1) := by decide +kernel
theorem dX14_readFears_30 : decode cX14_readFears 30 = .ok (.if_icmp .eq 24, 3) := by decide +kernel
theorem dX14_readFears_33 : decode cX14_readFears 33 = .ok (.aload_n 0, 1) := by decide +kernel
theorem dX14_readFears_34 : decode cX14_readFears 34 = .ok (.getfield 192, 3) := by decide +kernel
theorem dX14_readFears_37 : decode cX14_readFears 37 = .ok (.getfield 363, 3) := by decide +kernel
theorem dX14_readFears_40 : decode cX14_readFears 40 = .ok (.iload_n 1, 1) := by decide +kernel
theorem dX14_readFears_41 : decode cX14_readFears 41 = .ok (.iaload, 1) := by decide +kernel
theorem dX14_readFears_42 : decode cX14_readFears 42 = .ok (.iload_n 2, 1) := by decide +kernel
theorem dX14_readFears_43 : decode cX14_readFears 43 = .ok (.invokestatic 366, 3) := by decide +kernel
theorem dX14_readFears_46 : decode cX14_readFears 46 = .ok (.ifCond .eq 8, 3) := by decide +kernel
theorem dX14_readFears_49 : decode cX14_readFears 49 = .ok (.aload_n 0, 1) := by decide +kernel
theorem dX14_readFears_50 : decode cX14_readFears 50 = .ok (.iconst 3, 1) := by decide +kernel
theorem dX14_readFears_51 : decode cX14_readFears 51 = .ok (.invokevirtual 143, 3) := by decide +kernel
theorem dX14_readFears_54 : decode cX14_readFears 54 = .ok (.aload_n 0, 1) := by decide +kernel
theorem dX14_readFears_55 : decode cX14_readFears 55 = .ok (.invokevirtual 136, 3) := by decide +kernel
theorem dX14_readFears_58 : decode cX14_readFears 58 = .ok (.aload_n 0, 1) := by decide +kernel
theorem dX14_readFears_59 : decode cX14_readFears 59 = .ok (.getfield 94, 3) := by decide +kernel
theorem dX14_readFears_62 : decode cX14_readFears 62 = .ok (.iconst 5, 1) := by decide +kernel
theorem dX14_readFears_63 : decode cX14_readFears 63 = .ok (.if_icmp .ne 4, 3) := by decide +kernel
theorem dX14_readFears_66 : decode cX14_readFears 66 = .ok (.return_, 1) := by decide +kernel
theorem dX14_readFears_67 : decode cX14_readFears 67 = .ok (.aload_n 0, 1) := by decide +kernel
theorem dX14_readFears_68 : decode cX14_readFears 68 = .ok (.getfield 192, 3) := by decide +kernel
theorem dX14_readFears_71 : decode cX14_readFears 71 = .ok (.getfield 363, 3) := by decide +kernel
theorem dX14_readFears_74 : decode cX14_readFears 74 = .ok (.iload_n 1, 1) := by decide +kernel
theorem dX14_readFears_75 : decode cX14_readFears 75 = .ok (.dup2, 1) := by decide +kernel
theorem dX14_readFears_76 : decode cX14_readFears 76 = .ok (.iaload, 1) := by decide +kernel
theorem dX14_readFears_77 : decode cX14_readFears 77 = .ok (.iconst 1, 1) := by decide +kernel
theorem dX14_readFears_78 : decode cX14_readFears 78 = .ok (.iload_n 2, 1) := by decide +kernel
theorem dX14_readFears_79 : decode cX14_readFears 79 = .ok (.ishl, 1) := by decide +kernel
theorem dX14_readFears_80 : decode cX14_readFears 80 = .ok (.ior, 1) := by decide +kernel
theorem dX14_readFears_81 : decode cX14_readFears 81 = .ok (.iastore, 1) := by decide +kernel
theorem dX14_readFears_82 : decode cX14_readFears 82 = .ok (.aload_n 0, 1) := by decide +kernel
theorem dX14_readFears_83 : decode cX14_readFears 83 = .ok (.getfield 192, 3) := by decide +kernel
theorem dX14_readFears_86 : decode cX14_readFears 86 = .ok (.dup, 1) := by decide +kernel
theorem dX14_readFears_87 : decode cX14_readFears 87 = .ok (.getfield 361, 3) := by decide +kernel
theorem dX14_readFears_90 : decode cX14_readFears 90 = .ok (.iconst 1, 1) := by decide +kernel
theorem dX14_readFears_91 : decode cX14_readFears 91 = .ok (.iadd, 1) := by decide +kernel
theorem dX14_readFears_92 : decode cX14_readFears 92 = .ok (.putfield 361, 3) := by decide +kernel
theorem dX14_readFears_95 : decode cX14_readFears 95 = .ok (.return_, 1) := by decide +kernel
set_option maxRecDepth 100000 in
set_option maxHeartbeats 4000000 in
theorem mX14_readFears {E : goEv} {l : Launch} {G : goG} {N : Nat} {M : goMI} {L : goML} {R : goMR} {r0 : goMI} {r1 : goML} (hk : goKn E) (hW : goW G R) (h : fX14_readFears N M L R = some (r0, r1)) : Met l yX14_readFears (goCd yX14_readFears cX14_readFears 3 none) (goRoom 10 214 0 0) (goPre E [.ref 102] G M L R) (goQv E G r0 r1 R) 0 0 (goSet E) := by
  refine goMet pl_RX14 hk (lv := [some (.ref 102), none, none]) rfl (Nat.le_of_ble_eq_true rfl) ?_
  intro X hc hl hR hr hnm
  subst hl
  unfold fX14_readFears at h
  refine go_aload0 hc dX14_readFears_0 ?_
  refine go_aload0 hc dX14_readFears_1 ?_
  replace h := goBind h; obtain ⟨b11, e12, h⟩ := h
  refine go_getR hc lk_RX14_192 dX14_readFears_2 (sh_102 hW) e12 ?_
  refine go_getI hc lk_RX14_361 dX14_readFears_5 (shM_0 (goW_M4 hW e12)) ?_
  refine go_bipush (v := 8) hc dX14_readFears_8 rfl ?_
  replace h := goB2_h h; obtain ⟨M13, L14, e15, h⟩ := h
  refine go_callVv hc dX14_readFears_10 (mX14_begins hk hW e15) ml_RX14_201 yk_X14_begins ⟨wim_X14_begins, wse_X14_begins⟩ hR rfl (sh_102 hW) rfl rfl rfl (Nat.le_of_ble_eq_true rfl) rfl ?_
  refine go_aload0 hc dX14_readFears_13 ?_
  refine go_iconst (v := 2) hc dX14_readFears_14 rfl ?_
  replace h := goB3_h h; obtain ⟨x16, M17, L18, e19, h⟩ := h
  refine go_callVi hc dX14_readFears_15 (mX14_readKnown hk hW e19) ml_RX14_309 yk_X14_readKnown ⟨wim_X14_readKnown, wse_X14_readKnown⟩ hR rfl (sh_102 hW) rfl rfl rfl (Nat.le_of_ble_eq_true rfl) rfl ?_
  refine go_istore1 hc dX14_readFears_18 ?_
  refine go_aload0 hc dX14_readFears_19 ?_
  refine go_iconst (v := 1) hc dX14_readFears_20 rfl ?_
  replace h := goB2_h h; obtain ⟨x20, M21, e22, h⟩ := h
  refine go_callVi hc dX14_readFears_21 (mX14_known hk hW e22) ml_RX14_226 yk_X14_known ⟨wim_X14_known, wse_X14_known⟩ hR rfl (sh_102 hW) rfl rfl rfl (Nat.le_of_ble_eq_true rfl) rfl ?_
  refine go_istore2 hc dX14_readFears_24 ?_
  refine go_aload0 hc dX14_readFears_25 ?_
  refine go_getI hc lk_RX14_94 dX14_readFears_26 (sh_102 hW) ?_
  refine go_iconst (v := 5) hc dX14_readFears_29 rfl ?_
  replace h := goBind h; obtain ⟨M23, e24, h⟩ := h
  have k25 : goA E X G 0 0 (goMQ X E (goQv E G r0 r1 R) 0 0) 54 [some (.ref 102), some (.int x16), some (.int x20)] [] M23 L18 R := by
    refine go_aload0 hc dX14_readFears_54 ?_
    replace h := goB2_h h; obtain ⟨M34, L35, e36, h⟩ := h
    refine go_callVv hc dX14_readFears_55 (mX14_goesOn hk hW e36) ml_RX14_136 yk_X14_goesOn ⟨wim_X14_goesOn, wse_X14_goesOn⟩ hR rfl (sh_102 hW) rfl rfl rfl (Nat.le_of_ble_eq_true rfl) rfl ?_
    refine go_aload0 hc dX14_readFears_58 ?_
    refine go_getI hc lk_RX14_94 dX14_readFears_59 (sh_102 hW) ?_
    refine go_iconst (v := 5) hc dX14_readFears_62 rfl ?_
    refine go_icmp_ne hc 67 dX14_readFears_63 rfl (fun c37 => ?_) (fun c37 => ?_)
    · replace h := goIfF h c37
      refine go_aload0 hc dX14_readFears_67 ?_
      replace h := goBind h; obtain ⟨b38, e39, h⟩ := h
      refine go_getR hc lk_RX14_192 dX14_readFears_68 (sh_102 hW) e39 ?_
      refine go_getR hc lk_RX14_363 dX14_readFears_71 (shM_0 (goW_M4 hW e39)) (rfM_27 (goW_M4 hW e39)) ?_
      refine go_iload1 hc dX14_readFears_74 ?_
      refine go_dup2 hc dX14_readFears_75 ?_
      replace h := goBind h; obtain ⟨x40, e41, h⟩ := h
      refine go_iald hc dX14_readFears_76 (shM_12 (goW_M4 hW e39)) e41 ?_
      refine go_iconst (v := 1) hc dX14_readFears_77 rfl ?_
      refine go_iload2 hc dX14_readFears_78 ?_
      refine go_ishl hc dX14_readFears_79 ?_
      refine go_ior hc dX14_readFears_80 ?_
      replace h := goBind h; obtain ⟨M42, e43, h⟩ := h
      refine go_iast hc dX14_readFears_81 (shM_12 (goW_M4 hW e39)) e43 ?_
      refine go_aload0 hc dX14_readFears_82 ?_
      replace h := goBind h; obtain ⟨b44, e45, h⟩ := h
      refine go_getR hc lk_RX14_192 dX14_readFears_83 (sh_102 hW) e45 ?_
      refine go_dupr hc dX14_readFears_86 ?_
      refine go_getI hc lk_RX14_361 dX14_readFears_87 (shM_0 (goW_M4 hW e45)) ?_
      refine go_iconst (v := 1) hc dX14_readFears_90 rfl ?_
      refine go_iadd hc dX14_readFears_91 ?_
      replace h := goNm_x h; obtain ⟨M46, e47, h⟩ := h
      refine go_ptI hc lk_RX14_361 dX14_readFears_92 (shM_0 (goW_M4 hW e45)) e47 ?_
      cases h
      exact go_vret hc dX14_readFears_95 hr
    · replace h := goIfT h c37
      cases h
      exact go_vret hc dX14_readFears_66 hr
  refine go_icmp_eq hc 54 dX14_readFears_30 rfl (fun c26 => ?_) (fun c26 => ?_)
  · replace e24 := goIfT e24 c26
    cases e24
    exact k25
  · replace e24 := goIfF e24 c26
    refine go_aload0 hc dX14_readFears_33 ?_
    replace e24 := goBind e24; obtain ⟨b27, e28, e24⟩ := e24
    refine go_getR hc lk_RX14_192 dX14_readFears_34 (sh_102 hW) e28 ?_
    refine go_getR hc lk_RX14_363 dX14_readFears_37 (shM_0 (goW_M4 hW e28)) (rfM_27 (goW_M4 hW e28)) ?_
    refine go_iload1 hc dX14_readFears_40 ?_
    replace e24 := goBind e24; obtain ⟨x29, e30, e24⟩ := e24
    refine go_iald hc dX14_readFears_41 (shM_12 (goW_M4 hW e28)) e30 ?_
    refine go_iload2 hc dX14_readFears_42 ?_
    refine go_callSi hc dX14_readFears_43 (mX14_bit hk hW rfl) ml_RX14_366 yk_X14_bit wst_X14_bit hR rfl rfl rfl (Nat.le_of_ble_eq_true rfl) rfl ?_
    refine go_if_eq hc 54 dX14_readFears_46 rfl (fun c31 => ?_) (fun c31 => ?_)
    · replace e24 := goIfT e24 c31
      cases e24
      exact k25
    · replace e24 := goIfF e24 c31
      refine go_aload0 hc dX14_readFears_49 ?_
      refine go_iconst (v := 3) hc dX14_readFears_50 rfl ?_
      replace e24 := goBind e24; obtain ⟨M32, e33, e24⟩ := e24
      refine go_callVv hc dX14_readFears_51 (mX14_flaw hk hW e33) ml_RX14_143 yk_X14_flaw ⟨wim_X14_flaw, wse_X14_flaw⟩ hR rfl (sh_102 hW) rfl rfl rfl (Nat.le_of_ble_eq_true rfl) rfl ?_
      cases e24
      exact k25
theorem dX14_readPlant_0 : decode cX14_readPlant 0 = .ok (.aload_n 0, 1) := by decide +kernel
theorem dX14_readPlant_1 : decode cX14_readPlant 1 = .ok (.getfield 94, 3) := by decide +kernel
theorem dX14_readPlant_4 : decode cX14_readPlant 4 = .ok (.iconst 2, 1) := by decide +kernel
theorem dX14_readPlant_5 : decode cX14_readPlant 5 = .ok (.if_icmp .eq 8, 3) := by decide +kernel
theorem dX14_readPlant_8 : decode cX14_readPlant 8 = .ok (.aload_n 0, 1) := by decide +kernel
theorem dX14_readPlant_9 : decode cX14_readPlant 9 = .ok (.iconst 1, 1) := by decide +kernel
theorem dX14_readPlant_10 : decode cX14_readPlant 10 = .ok (.invokevirtual 143, 3) := by decide +kernel
theorem dX14_readPlant_13 : decode cX14_readPlant 13 = .ok (.aload_n 0, 1) := by decide +kernel
theorem dX14_readPlant_14 : decode cX14_readPlant 14 = .ok (.getfield 94, 3) := by decide +kernel
theorem dX14_readPlant_17 : decode cX14_readPlant 17 = .ok (.iconst 5, 1) := by decide +kernel
theorem dX14_readPlant_18 : decode cX14_readPlant 18 = .ok (.if_icmp .ne 7, 3) := by decide +kernel
theorem dX14_readPlant_21 : decode cX14_readPlant 21 = .ok (.iconst 0, 1) := by decide +kernel
theorem dX14_readPlant_22 : decode cX14_readPlant 22 = .ok (.goto 12, 3) := by decide +kernel
theorem dX14_readPlant_25 : decode cX14_readPlant 25 = .ok (.aload_n 0, 1) := by decide +kernel
theorem dX14_readPlant_26 : decode cX14_readPlant 26 = .ok (.getfield 17, 3) := by decide +kernel
theorem dX14_readPlant_29 : decode cX14_readPlant 29 = .ok (.iconst 0, 1) := by decide +kernel
theorem dX14_readPlant_30 : decode cX14_readPlant 30 = .ok (.iaload, 1) := by decide +kernel
theorem dX14_readPlant_31 : decode cX14_readPlant 31 = .ok (.bipush 97, 2) := by decide +kernel
theorem dX14_readPlant_33 : decode cX14_readPlant 33 = .ok (.isub, 1) := by decide +kernel
theorem dX14_readPlant_34 : decode cX14_readPlant 34 = .ok (.istore_n 1, 1) := by decide +kernel
theorem dX14_readPlant_35 : decode cX14_readPlant 35 = .ok (.aload_n 0, 1) := by decide +kernel
theorem dX14_readPlant_36 : decode cX14_readPlant 36 = .ok (.getfield 94, 3) := by decide +kernel
theorem dX14_readPlant_39 : decode cX14_readPlant 39 = .ok (.iconst 5, 1) := by decide +kernel
theorem dX14_readPlant_40 : decode cX14_readPlant 40 = .ok (.if_icmp .eq 34, 3) := by decide +kernel
theorem dX14_readPlant_43 : decode cX14_readPlant 43 = .ok (.aload_n 0, 1) := by decide +kernel
theorem dX14_readPlant_44 : decode cX14_readPlant 44 = .ok (.getfield 117, 3) := by decide +kernel
theorem dX14_readPlant_47 : decode cX14_readPlant 47 = .ok (.iconst 1, 1) := by decide +kernel
theorem dX14_readPlant_48 : decode cX14_readPlant 48 = .ok (.if_icmp .ne 20, 3) := by decide +kernel
theorem dX14_readPlant_51 : decode cX14_readPlant 51 = .ok (.iload_n 1, 1) := by decide +kernel
theorem dX14_readPlant_52 : decode cX14_readPlant 52 = .ok (.iconst 0, 1) := by decide +kernel
theorem dX14_readPlant_53 : decode cX14_readPlant 53 = .ok (.aload_n 0, 1) := by decide +kernel
theorem dX14_readPlant_54 : decode cX14_readPlant 54 = .ok (.getfield 192, 3) := by decide +kernel
theorem dX14_readPlant_57 : decode cX14_readPlant 57 = .ok (.getfield 229, 3) := by decide +kernel
theorem dX14_readPlant_60 : decode cX14_readPlant 60 = .ok (.iconst 1, 1) := by decide +kernel
theorem dX14_readPlant_61 : decode cX14_readPlant 61 = .ok (.isub, 1) := by decide +kernel
theorem dX14_readPlant_62 : decode cX14_readPlant 62 = .ok (.invokestatic 147, 3) := by decide +kernel
theorem dX14_readPlant_65 : decode cX14_readPlant 65 = .ok (.ifCond .ne 9, 3) := by decide +kernel
theorem dX14_readPlant_68 : decode cX14_readPlant 68 = .ok (.aload_n 0, 1) := by decide +kernel
theorem dX14_readPlant_69 : decode cX14_readPlant 69 = .ok (.bipush 7, 2) := by decide +kernel
theorem dX14_readPlant_71 : decode cX14_readPlant 71 = .ok (.invokevirtual 143, 3) := by decide +kernel
theorem dX14_readPlant_74 : decode cX14_readPlant 74 = .ok (.aload_n 0, 1) := by decide +kernel
theorem dX14_readPlant_75 : decode cX14_readPlant 75 = .ok (.invokevirtual 136, 3) := by decide +kernel
theorem dX14_readPlant_78 : decode cX14_readPlant 78 = .ok (.iload_n 1, 1) := by decide +kernel
theorem dX14_readPlant_79 : decode cX14_readPlant 79 = .ok (.ireturn, 1) := by decide +kernel
set_option maxRecDepth 100000 in
set_option maxHeartbeats 4000000 in
theorem mX14_readPlant {E : goEv} {l : Launch} {G : goG} {N : Nat} {M : goMI} {L : goML} {R : goMR} {r0 : Int32} {r1 : goMI} {r2 : goML} (hk : goKn E) (hW : goW G R) (h : fX14_readPlant N M L R = some (r0, r1, r2)) : Met l yX14_readPlant (goCd yX14_readPlant cX14_readPlant 2 (Option.some FieldType.int)) (goRoom 2 43 0 0) (goPre E [.ref 102] G M L R) (goQi E r0 G r1 r2 R) 0 0 (goSet E) := by
  refine goMet pl_RX14 hk (lv := [some (.ref 102), none]) rfl (Nat.le_of_ble_eq_true rfl) ?_
  intro X hc hl hR hr hnm
  subst hl
  unfold fX14_readPlant at h
  refine go_aload0 hc dX14_readPlant_0 ?_
  refine go_getI hc lk_RX14_94 dX14_readPlant_1 (sh_102 hW) ?_
  refine go_iconst (v := 2) hc dX14_readPlant_4 rfl ?_
  replace h := goBind h; obtain ⟨M11, e12, h⟩ := h
  have k13 : ∀ (d1 : Option Value), goA E X G 0 0 (goMQ X E (goQi E r0 G r1 r2 R) 0 0) 13 [some (.ref 102), d1] [] M11 L R := by
    intro d1
    refine go_aload0 hc dX14_readPlant_13 ?_
    refine go_getI hc lk_RX14_94 dX14_readPlant_14 (sh_102 hW) ?_
    refine go_iconst (v := 5) hc dX14_readPlant_17 rfl ?_
    replace h := goBind h; obtain ⟨x17, e18, h⟩ := h
    have k19 : ∀ (d1 : Option Value), goA E X G 0 0 (goMQ X E (goQi E r0 G r1 r2 R) 0 0) 34 [some (.ref 102), d1] [.int x17] M11 L R := by
      intro d1
      refine go_istore1 hc dX14_readPlant_34 ?_
      refine go_aload0 hc dX14_readPlant_35 ?_
      refine go_getI hc lk_RX14_94 dX14_readPlant_36 (sh_102 hW) ?_
      refine go_iconst (v := 5) hc dX14_readPlant_39 rfl ?_
      replace h := goBind h; obtain ⟨M23, e24, h⟩ := h
      have k25 : goA E X G 0 0 (goMQ X E (goQi E r0 G r1 r2 R) 0 0) 74 [some (.ref 102), some (.int x17)] [] M23 L R := by
        refine go_aload0 hc dX14_readPlant_74 ?_
        replace h := goB2_h h; obtain ⟨M35, L36, e37, h⟩ := h
        refine go_callVv hc dX14_readPlant_75 (mX14_goesOn hk hW e37) ml_RX14_136 yk_X14_goesOn ⟨wim_X14_goesOn, wse_X14_goesOn⟩ hR rfl (sh_102 hW) rfl rfl rfl (Nat.le_of_ble_eq_true rfl) rfl ?_
        refine go_iload1 hc dX14_readPlant_78 ?_
        cases h
        exact go_iret hc dX14_readPlant_79 hr
      refine go_icmp_eq hc 74 dX14_readPlant_40 rfl (fun c26 => ?_) (fun c26 => ?_)
      · replace e24 := goIfT e24 c26
        cases e24
        exact k25
      · replace e24 := goIfF e24 c26
        refine go_aload0 hc dX14_readPlant_43 ?_
        refine go_getI hc lk_RX14_117 dX14_readPlant_44 (sh_102 hW) ?_
        refine go_iconst (v := 1) hc dX14_readPlant_47 rfl ?_
        refine go_icmp_ne hc 68 dX14_readPlant_48 rfl (fun c27 => ?_) (fun c27 => ?_)
        · replace e24 := goIfF e24 c27
          refine go_aload0 hc dX14_readPlant_68 ?_
          refine go_bipush (v := 7) hc dX14_readPlant_69 rfl ?_
          replace e24 := goBind e24; obtain ⟨M28, e29, e24⟩ := e24
          refine go_callVv hc dX14_readPlant_71 (mX14_flaw hk hW e29) ml_RX14_143 yk_X14_flaw ⟨wim_X14_flaw, wse_X14_flaw⟩ hR rfl (sh_102 hW) rfl rfl rfl (Nat.le_of_ble_eq_true rfl) rfl ?_
          cases e24
          exact k25
        · replace e24 := goIfT e24 c27
          refine go_iload1 hc dX14_readPlant_51 ?_
          refine go_iconst (v := 0) hc dX14_readPlant_52 rfl ?_
          refine go_aload0 hc dX14_readPlant_53 ?_
          replace e24 := goBind e24; obtain ⟨b30, e31, e24⟩ := e24
          refine go_getR hc lk_RX14_192 dX14_readPlant_54 (sh_102 hW) e31 ?_
          refine go_getI hc lk_RX14_229 dX14_readPlant_57 (shM_0 (goW_M4 hW e31)) ?_
          refine go_iconst (v := 1) hc dX14_readPlant_60 rfl ?_
          refine go_isub hc dX14_readPlant_61 ?_
          refine go_callSi hc dX14_readPlant_62 (mX14_within hk hW rfl) ml_RX14_147 yk_X14_within wst_X14_within hR rfl rfl rfl (Nat.le_of_ble_eq_true rfl) rfl ?_
          refine go_if_ne hc 74 dX14_readPlant_65 rfl (fun c32 => ?_) (fun c32 => ?_)
          · replace e24 := goIfF e24 c32
            cases e24
            exact k25
          · replace e24 := goIfT e24 c32
            refine go_aload0 hc dX14_readPlant_68 ?_
            refine go_bipush (v := 7) hc dX14_readPlant_69 rfl ?_
            replace e24 := goBind e24; obtain ⟨M33, e34, e24⟩ := e24
            refine go_callVv hc dX14_readPlant_71 (mX14_flaw hk hW e34) ml_RX14_143 yk_X14_flaw ⟨wim_X14_flaw, wse_X14_flaw⟩ hR rfl (sh_102 hW) rfl rfl rfl (Nat.le_of_ble_eq_true rfl) rfl ?_
            cases e24
            exact k25
    refine go_icmp_ne hc 25 dX14_readPlant_18 rfl (fun c20 => ?_) (fun c20 => ?_)
    · replace e18 := goIfF e18 c20
      refine go_aload0 hc dX14_readPlant_25 ?_
      refine go_getR hc lk_RX14_17 dX14_readPlant_26 (sh_102 hW) (rf_102_16 hW) ?_
      refine go_iconst (v := 0) hc dX14_readPlant_29 rfl ?_
      replace e18 := goBind e18; obtain ⟨x21, e22, e18⟩ := e18
      refine go_iald hc dX14_readPlant_30 (sh_104 hW) e22 ?_
      refine go_bipush (v := 97) hc dX14_readPlant_31 rfl ?_
      refine go_isub hc dX14_readPlant_33 ?_
      cases e18
      exact k19 _
    · replace e18 := goIfT e18 c20
      refine go_iconst (v := 0) hc dX14_readPlant_21 rfl ?_
      refine go_goto hc 34 dX14_readPlant_22 rfl ?_
      cases e18
      exact k19 _
  refine go_icmp_eq hc 13 dX14_readPlant_5 rfl (fun c14 => ?_) (fun c14 => ?_)
  · replace e12 := goIfT e12 c14
    cases e12
    exact k13 _
  · replace e12 := goIfF e12 c14
    refine go_aload0 hc dX14_readPlant_8 ?_
    refine go_iconst (v := 1) hc dX14_readPlant_9 rfl ?_
    replace e12 := goBind e12; obtain ⟨M15, e16, e12⟩ := e12
    refine go_callVv hc dX14_readPlant_10 (mX14_flaw hk hW e16) ml_RX14_143 yk_X14_flaw ⟨wim_X14_flaw, wse_X14_flaw⟩ hR rfl (sh_102 hW) rfl rfl rfl (Nat.le_of_ble_eq_true rfl) rfl ?_
    cases e12
    exact k13 _
theorem dX14_readClue_0 : decode cX14_readClue 0 = .ok (.aload_n 0, 1) := by decide +kernel
theorem dX14_readClue_1 : decode cX14_readClue 1 = .ok (.aload_n 0, 1) := by decide +kernel
theorem dX14_readClue_2 : decode cX14_readClue 2 = .ok (.getfield 192, 3) := by decide +kernel
theorem dX14_readClue_5 : decode cX14_readClue 5 = .ok (.getfield 370, 3) := by decide +kernel
theorem dX14_readClue_8 : decode cX14_readClue 8 = .ok (.bipush 10, 2) := by decide +kernel
theorem dX14_readClue_10 : decode cX14_readClue 10 = .ok (.invokevirtual 201, 3) := by decide +kernel
theorem dX14_readClue_13 : decode cX14_readClue 13 = .ok (.aload_n 0, 1) := by decide +kernel
theorem dX14_readClue_14 : decode cX14_readClue 14 = .ok (.iconst 2, 1) := by decide +kernel
theorem dX14_readClue_15 : decode cX14_readClue 15 = .ok (.invokevirtual 309, 3) := by decide +kernel
theorem dX14_readClue_18 : decode cX14_readClue 18 = .ok (.istore_n 2, 1) := by decide +kernel
theorem dX14_readClue_19 : decode cX14_readClue 19 = .ok (.iload_n 1, 1) := by decide +kernel
theorem dX14_readClue_20 : decode cX14_readClue 20 = .ok (.ifCond .ne 10, 3) := by decide +kernel
theorem dX14_readClue_23 : decode cX14_readClue 23 = .ok (.aload_n 0, 1) := by decide +kernel
theorem dX14_readClue_24 : decode cX14_readClue 24 = .ok (.invokevirtual 373, 3) := by decide +kernel
theorem dX14_readClue_27 : decode cX14_readClue 27 = .ok (.goto 4, 3) := by decide +kernel
theorem dX14_readClue_30 : decode cX14_readClue 30 = .ok (.iconst 0, 1) := by decide +kernel
theorem dX14_readClue_31 : decode cX14_readClue 31 = .ok (.istore_n 3, 1) := by decide +kernel
theorem dX14_readClue_32 : decode cX14_readClue 32 = .ok (.aload_n 0, 1) := by decide +kernel
theorem dX14_readClue_33 : decode cX14_readClue 33 = .ok (.iconst 0, 1) := by decide +kernel
theorem dX14_readClue_34 : decode cX14_readClue 34 = .ok (.invokevirtual 309, 3) := by decide +kernel
theorem dX14_readClue_37 : decode cX14_readClue 37 = .ok (.istore 4, 2) := by decide +kernel
theorem dX14_readClue_39 : decode cX14_readClue 39 = .ok (.iload_n 1, 1) := by decide +kernel
theorem dX14_readClue_40 : decode cX14_readClue 40 = .ok (.ifCond .eq 18, 3) := by decide +kernel
theorem dX14_readClue_43 : decode cX14_readClue 43 = .ok (.aload_n 0, 1) := by decide +kernel
theorem dX14_readClue_44 : decode cX14_readClue 44 = .ok (.iconst 0, 1) := by decide +kernel
theorem dX14_readClue_45 : decode cX14_readClue 45 = .ok (.aload_n 0, 1) := by decide +kernel
theorem dX14_readClue_46 : decode cX14_readClue 46 = .ok (.getfield 192, 3) := by decide +kernel
theorem dX14_readClue_49 : decode cX14_readClue 49 = .ok (.getfield 196, 3) := by decide +kernel
theorem dX14_readClue_52 : decode cX14_readClue 52 = .ok (.iconst 1, 1) := by decide +kernel
theorem dX14_readClue_53 : decode cX14_readClue 53 = .ok (.isub, 1) := by decide +kernel
theorem dX14_readClue_54 : decode cX14_readClue 54 = .ok (.invokevirtual 155, 3) := by decide +kernel
theorem dX14_readClue_57 : decode cX14_readClue 57 = .ok (.istore_n 3, 1) := by decide +kernel
theorem dX14_readClue_58 : decode cX14_readClue 58 = .ok (.aload_n 0, 1) := by decide +kernel
theorem dX14_readClue_59 : decode cX14_readClue 59 = .ok (.getfield 94, 3) := by decide +kernel
theorem dX14_readClue_62 : decode cX14_readClue 62 = .ok (.iconst 5, 1) := by decide +kernel
theorem dX14_readClue_63 : decode cX14_readClue 63 = .ok (.if_icmp .ne 4, 3) := by decide +kernel
theorem dX14_readClue_66 : decode cX14_readClue 66 = .ok (.return_, 1) := by decide +kernel
theorem dX14_readClue_67 : decode cX14_readClue 67 = .ok (.aload_n 0, 1) := by decide +kernel
theorem dX14_readClue_68 : decode cX14_readClue 68 = .ok (.getfield 192, 3) := by decide +kernel
theorem dX14_readClue_71 : decode cX14_readClue 71 = .ok (.getfield 370, 3) := by decide +kernel
theorem dX14_readClue_74 : decode cX14_readClue 74 = .ok (.istore 5, 2) := by decide +kernel
theorem dX14_readClue_76 : decode cX14_readClue 76 = .ok (.aload_n 0, 1) := by decide +kernel
theorem dX14_readClue_77 : decode cX14_readClue 77 = .ok (.getfield 192, 3) := by decide +kernel
theorem dX14_readClue_80 : decode cX14_readClue 80 = .ok (.getfield 376, 3) := by decide +kernel
theorem dX14_readClue_83 : decode cX14_readClue 83 = .ok (.iload 5, 2) := by decide +kernel
theorem dX14_readClue_85 : decode cX14_readClue 85 = .ok (.iload_n 1, 1) := by decide +kernel
theorem dX14_readClue_86 : decode cX14_readClue 86 = .ok (.iastore, 1) := by decide +kernel
theorem dX14_readClue_87 : decode cX14_readClue 87 = .ok (.aload_n 0, 1) := by decide +kernel
theorem dX14_readClue_88 : decode cX14_readClue 88 = .ok (.getfield 192, 3) := by decide +kernel
theorem dX14_readClue_91 : decode cX14_readClue 91 = .ok (.getfield 379, 3) := by decide +kernel
theorem dX14_readClue_94 : decode cX14_readClue 94 = .ok (.iload 5, 2) := by decide +kernel
theorem dX14_readClue_96 : decode cX14_readClue 96 = .ok (.iload_n 2, 1) := by decide +kernel
theorem dX14_readClue_97 : decode cX14_readClue 97 = .ok (.iastore, 1) := by decide +kernel
theorem dX14_readClue_98 : decode cX14_readClue 98 = .ok (.aload_n 0, 1) := by decide +kernel
theorem dX14_readClue_99 : decode cX14_readClue 99 = .ok (.getfield 192, 3) := by decide +kernel
theorem dX14_readClue_102 : decode cX14_readClue 102 = .ok (.getfield 382, 3) := by decide +kernel
theorem dX14_readClue_105 : decode cX14_readClue 105 = .ok (.iload 5, 2) := by decide +kernel
theorem dX14_readClue_107 : decode cX14_readClue 107 = .ok (.iload 4, 2) := by decide +kernel
theorem dX14_readClue_109 : decode cX14_readClue 109 = .ok (.iastore, 1) := by decide +kernel
theorem dX14_readClue_110 : decode cX14_readClue 110 = .ok (.aload_n 0, 1) := by decide +kernel
theorem dX14_readClue_111 : decode cX14_readClue 111 = .ok (.getfield 192, 3) := by decide +kernel
theorem dX14_readClue_114 : decode cX14_readClue 114 = .ok (.getfield 385, 3) := by decide +kernel
theorem dX14_readClue_117 : decode cX14_readClue 117 = .ok (.iload 5, 2) := by decide +kernel
theorem dX14_readClue_119 : decode cX14_readClue 119 = .ok (.iload_n 3, 1) := by decide +kernel
theorem dX14_readClue_120 : decode cX14_readClue 120 = .ok (.iastore, 1) := by decide +kernel
theorem dX14_readClue_121 : decode cX14_readClue 121 = .ok (.aload_n 0, 1) := by decide +kernel
theorem dX14_readClue_122 : decode cX14_readClue 122 = .ok (.getfield 192, 3) := by decide +kernel
theorem dX14_readClue_125 : decode cX14_readClue 125 = .ok (.dup, 1) := by decide +kernel
theorem dX14_readClue_126 : decode cX14_readClue 126 = .ok (.getfield 370, 3) := by decide +kernel
theorem dX14_readClue_129 : decode cX14_readClue 129 = .ok (.iconst 1, 1) := by decide +kernel
theorem dX14_readClue_130 : decode cX14_readClue 130 = .ok (.iadd, 1) := by decide +kernel
theorem dX14_readClue_131 : decode cX14_readClue 131 = .ok (.putfield 370, 3) := by decide +kernel
theorem dX14_readClue_134 : decode cX14_readClue 134 = .ok (.return_, 1) := by decide +kernel
set_option maxRecDepth 100000 in
set_option maxHeartbeats 4000000 in
theorem mX14_readClue {E : goEv} {l : Launch} {G : goG} {N : Nat} {M : goMI} {L : goML} {R : goMR} {v1 : Int32} {r0 : goMI} {r1 : goML} (hk : goKn E) (hW : goW G R) (h : fX14_readClue N M L R v1 = some (r0, r1)) : Met l yX14_readClue (goCd yX14_readClue cX14_readClue 6 none) (goRoom 10 214 0 0) (goPre E [.ref 102, .int v1] G M L R) (goQv E G r0 r1 R) 0 0 (goSet E) := by
  refine goMet pl_RX14 hk (lv := [some (.ref 102), some (.int v1), none, none, none, none]) rfl (Nat.le_of_ble_eq_true rfl) ?_
  intro X hc hl hR hr hnm
  subst hl
  unfold fX14_readClue at h
  refine go_aload0 hc dX14_readClue_0 ?_
  refine go_aload0 hc dX14_readClue_1 ?_
  replace h := goBind h; obtain ⟨b11, e12, h⟩ := h
  refine go_getR hc lk_RX14_192 dX14_readClue_2 (sh_102 hW) e12 ?_
  refine go_getI hc lk_RX14_370 dX14_readClue_5 (shM_0 (goW_M4 hW e12)) ?_
  refine go_bipush (v := 10) hc dX14_readClue_8 rfl ?_
  replace h := goB2_h h; obtain ⟨M13, L14, e15, h⟩ := h
  refine go_callVv hc dX14_readClue_10 (mX14_begins hk hW e15) ml_RX14_201 yk_X14_begins ⟨wim_X14_begins, wse_X14_begins⟩ hR rfl (sh_102 hW) rfl rfl rfl (Nat.le_of_ble_eq_true rfl) rfl ?_
  refine go_aload0 hc dX14_readClue_13 ?_
  refine go_iconst (v := 2) hc dX14_readClue_14 rfl ?_
  replace h := goB3_h h; obtain ⟨x16, M17, L18, e19, h⟩ := h
  refine go_callVi hc dX14_readClue_15 (mX14_readKnown hk hW e19) ml_RX14_309 yk_X14_readKnown ⟨wim_X14_readKnown, wse_X14_readKnown⟩ hR rfl (sh_102 hW) rfl rfl rfl (Nat.le_of_ble_eq_true rfl) rfl ?_
  refine go_istore2 hc dX14_readClue_18 ?_
  refine go_iload1 hc dX14_readClue_19 ?_
  replace h := goB3_h h; obtain ⟨x20, M21, L22, e23, h⟩ := h
  have k24 : ∀ (d3 d4 d5 : Option Value), goA E X G 0 0 (goMQ X E (goQv E G r0 r1 R) 0 0) 31 [some (.ref 102), some (.int v1), some (.int x16), d3, d4, d5] [.int x20] M21 L22 R := by
    intro d3 d4 d5
    refine go_istore3 hc dX14_readClue_31 ?_
    refine go_aload0 hc dX14_readClue_32 ?_
    refine go_iconst (v := 0) hc dX14_readClue_33 rfl ?_
    replace h := goB3_h h; obtain ⟨x30, M31, L32, e33, h⟩ := h
    refine go_callVi hc dX14_readClue_34 (mX14_readKnown hk hW e33) ml_RX14_309 yk_X14_readKnown ⟨wim_X14_readKnown, wse_X14_readKnown⟩ hR rfl (sh_102 hW) rfl rfl rfl (Nat.le_of_ble_eq_true rfl) rfl ?_
    refine go_istore4 hc dX14_readClue_37 ?_
    refine go_iload1 hc dX14_readClue_39 ?_
    replace h := goB3_h h; obtain ⟨x34, M35, L36, e37, h⟩ := h
    have k38 : ∀ (d5 : Option Value), goA E X G 0 0 (goMQ X E (goQv E G r0 r1 R) 0 0) 58 [some (.ref 102), some (.int v1), some (.int x16), some (.int x34), some (.int x30), d5] [] M35 L36 R := by
      intro d5
      refine go_aload0 hc dX14_readClue_58 ?_
      refine go_getI hc lk_RX14_94 dX14_readClue_59 (sh_102 hW) ?_
      refine go_iconst (v := 5) hc dX14_readClue_62 rfl ?_
      refine go_icmp_ne hc 67 dX14_readClue_63 rfl (fun c46 => ?_) (fun c46 => ?_)
      · replace h := goIfF h c46
        refine go_aload0 hc dX14_readClue_67 ?_
        replace h := goBind h; obtain ⟨b47, e48, h⟩ := h
        refine go_getR hc lk_RX14_192 dX14_readClue_68 (sh_102 hW) e48 ?_
        refine go_getI hc lk_RX14_370 dX14_readClue_71 (shM_0 (goW_M4 hW e48)) ?_
        replace h := goNm_x h; obtain ⟨x49, e50, h⟩ := h
        refine go_nmI e50 ?_
        refine go_istore5 hc dX14_readClue_74 ?_
        refine go_aload0 hc dX14_readClue_76 ?_
        replace h := goBind h; obtain ⟨b51, e52, h⟩ := h
        refine go_getR hc lk_RX14_192 dX14_readClue_77 (sh_102 hW) e52 ?_
        refine go_getR hc lk_RX14_376 dX14_readClue_80 (shM_0 (goW_M4 hW e52)) (rfM_28 (goW_M4 hW e52)) ?_
        refine go_iload5 hc dX14_readClue_83 ?_
        refine go_iload1 hc dX14_readClue_85 ?_
        replace h := goBind h; obtain ⟨M53, e54, h⟩ := h
        refine go_iast hc dX14_readClue_86 (shM_13 (goW_M4 hW e52)) e54 ?_
        refine go_aload0 hc dX14_readClue_87 ?_
        replace h := goBind h; obtain ⟨b55, e56, h⟩ := h
        refine go_getR hc lk_RX14_192 dX14_readClue_88 (sh_102 hW) e56 ?_
        refine go_getR hc lk_RX14_379 dX14_readClue_91 (shM_0 (goW_M4 hW e56)) (rfM_29 (goW_M4 hW e56)) ?_
        refine go_iload5 hc dX14_readClue_94 ?_
        refine go_iload2 hc dX14_readClue_96 ?_
        replace h := goBind h; obtain ⟨M57, e58, h⟩ := h
        refine go_iast hc dX14_readClue_97 (shM_14 (goW_M4 hW e56)) e58 ?_
        refine go_aload0 hc dX14_readClue_98 ?_
        replace h := goBind h; obtain ⟨b59, e60, h⟩ := h
        refine go_getR hc lk_RX14_192 dX14_readClue_99 (sh_102 hW) e60 ?_
        refine go_getR hc lk_RX14_382 dX14_readClue_102 (shM_0 (goW_M4 hW e60)) (rfM_30 (goW_M4 hW e60)) ?_
        refine go_iload5 hc dX14_readClue_105 ?_
        refine go_iload4 hc dX14_readClue_107 ?_
        replace h := goBind h; obtain ⟨M61, e62, h⟩ := h
        refine go_iast hc dX14_readClue_109 (shM_15 (goW_M4 hW e60)) e62 ?_
        refine go_aload0 hc dX14_readClue_110 ?_
        replace h := goBind h; obtain ⟨b63, e64, h⟩ := h
        refine go_getR hc lk_RX14_192 dX14_readClue_111 (sh_102 hW) e64 ?_
        refine go_getR hc lk_RX14_385 dX14_readClue_114 (shM_0 (goW_M4 hW e64)) (rfM_31 (goW_M4 hW e64)) ?_
        refine go_iload5 hc dX14_readClue_117 ?_
        refine go_iload3 hc dX14_readClue_119 ?_
        replace h := goBind h; obtain ⟨M65, e66, h⟩ := h
        refine go_iast hc dX14_readClue_120 (shM_16 (goW_M4 hW e64)) e66 ?_
        refine go_aload0 hc dX14_readClue_121 ?_
        replace h := goBind h; obtain ⟨b67, e68, h⟩ := h
        refine go_getR hc lk_RX14_192 dX14_readClue_122 (sh_102 hW) e68 ?_
        refine go_dupr hc dX14_readClue_125 ?_
        refine go_getI hc lk_RX14_370 dX14_readClue_126 (shM_0 (goW_M4 hW e68)) ?_
        refine go_iconst (v := 1) hc dX14_readClue_129 rfl ?_
        refine go_iadd hc dX14_readClue_130 ?_
        replace h := goNm_x h; obtain ⟨M69, e70, h⟩ := h
        refine go_ptI hc lk_RX14_370 dX14_readClue_131 (shM_0 (goW_M4 hW e68)) e70 ?_
        cases h
        exact go_vret hc dX14_readClue_134 hr
      · replace h := goIfT h c46
        cases h
        exact go_vret hc dX14_readClue_66 hr
    refine go_if_eq hc 58 dX14_readClue_40 rfl (fun c39 => ?_) (fun c39 => ?_)
    · replace e37 := goIfT e37 c39
      cases e37
      exact k38 _
    · replace e37 := goIfF e37 c39
      refine go_aload0 hc dX14_readClue_43 ?_
      refine go_iconst (v := 0) hc dX14_readClue_44 rfl ?_
      refine go_aload0 hc dX14_readClue_45 ?_
      replace e37 := goBind e37; obtain ⟨b40, e41, e37⟩ := e37
      refine go_getR hc lk_RX14_192 dX14_readClue_46 (sh_102 hW) e41 ?_
      refine go_getI hc lk_RX14_196 dX14_readClue_49 (shM_0 (goW_M4 hW e41)) ?_
      refine go_iconst (v := 1) hc dX14_readClue_52 rfl ?_
      refine go_isub hc dX14_readClue_53 ?_
      replace e37 := goB3_h e37; obtain ⟨x42, M43, L44, e45, e37⟩ := e37
      refine go_callVi hc dX14_readClue_54 (mX14_readWhole hk hW e45) ml_RX14_155 yk_X14_readWhole ⟨wim_X14_readWhole, wse_X14_readWhole⟩ hR rfl (sh_102 hW) rfl rfl rfl (Nat.le_of_ble_eq_true rfl) rfl ?_
      refine go_istore3 hc dX14_readClue_57 ?_
      cases e37
      exact k38 _
  refine go_if_ne hc 30 dX14_readClue_20 rfl (fun c25 => ?_) (fun c25 => ?_)
  · replace e23 := goIfF e23 c25
    refine go_iconst (v := 0) hc dX14_readClue_30 rfl ?_
    cases e23
    exact k24 _ _ _
  · replace e23 := goIfT e23 c25
    refine go_aload0 hc dX14_readClue_23 ?_
    replace e23 := goB3_h e23; obtain ⟨x26, M27, L28, e29, e23⟩ := e23
    refine go_callVi hc dX14_readClue_24 (mX14_readPlant hk hW e29) ml_RX14_373 yk_X14_readPlant ⟨wim_X14_readPlant, wse_X14_readPlant⟩ hR rfl (sh_102 hW) rfl rfl rfl (Nat.le_of_ble_eq_true rfl) rfl ?_
    refine go_goto hc 31 dX14_readClue_27 rfl ?_
    cases e23
    exact k24 _ _ _
