theorem dX14_readFact_0 : decode cX14_readFact 0 = .ok (.aload_n 0, 1) := by decide +kernel
theorem dX14_readFact_1 : decode cX14_readFact 1 = .ok (.aload_n 0, 1) := by decide +kernel
theorem dX14_readFact_2 : decode cX14_readFact 2 = .ok (.getfield 192, 3) := by decide +kernel
theorem dX14_readFact_5 : decode cX14_readFact 5 = .ok (.getfield 388, 3) := by decide +kernel
theorem dX14_readFact_8 : decode cX14_readFact 8 = .ok (.bipush 8, 2) := by decide +kernel
theorem dX14_readFact_10 : decode cX14_readFact 10 = .ok (.invokevirtual 201, 3) := by decide +kernel
theorem dX14_readFact_13 : decode cX14_readFact 13 = .ok (.aload_n 0, 1) := by decide +kernel
theorem dX14_readFact_14 : decode cX14_readFact 14 = .ok (.invokevirtual 292, 3) := by decide +kernel
theorem dX14_readFact_17 : decode cX14_readFact 17 = .ok (.lstore_n 1, 1) := by decide +kernel
theorem dX14_readFact_18 : decode cX14_readFact 18 = .ok (.aload_n 0, 1) := by decide +kernel
theorem dX14_readFact_19 : decode cX14_readFact 19 = .ok (.getfield 94, 3) := by decide +kernel
theorem dX14_readFact_22 : decode cX14_readFact 22 = .ok (.iconst 5, 1) := by decide +kernel
theorem dX14_readFact_23 : decode cX14_readFact 23 = .ok (.if_icmp .ne 4, 3) := by decide +kernel
theorem dX14_readFact_26 : decode cX14_readFact 26 = .ok (.return_, 1) := by decide +kernel
theorem dX14_readFact_27 : decode cX14_readFact 27 = .ok (.aload_n 0, 1) := by decide +kernel
theorem dX14_readFact_28 : decode cX14_readFact 28 = .ok (.lload_n 1, 1) := by decide +kernel
theorem dX14_readFact_29 : decode cX14_readFact 29 = .ok (.iconst 3, 1) := by decide +kernel
theorem dX14_readFact_30 : decode cX14_readFact 30 = .ok (.aload_n 0, 1) := by decide +kernel
theorem dX14_readFact_31 : decode cX14_readFact 31 = .ok (.getfield 192, 3) := by decide +kernel
theorem dX14_readFact_34 : decode cX14_readFact 34 = .ok (.getfield 388, 3) := by decide +kernel
theorem dX14_readFact_37 : decode cX14_readFact 37 = .ok (.invokevirtual 303, 3) := by decide +kernel
theorem dX14_readFact_40 : decode cX14_readFact 40 = .ok (.aload_n 0, 1) := by decide +kernel
theorem dX14_readFact_41 : decode cX14_readFact 41 = .ok (.getfield 192, 3) := by decide +kernel
theorem dX14_readFact_44 : decode cX14_readFact 44 = .ok (.dup, 1) := by decide +kernel
theorem dX14_readFact_45 : decode cX14_readFact 45 = .ok (.getfield 388, 3) := by decide +kernel
theorem dX14_readFact_48 : decode cX14_readFact 48 = .ok (.iconst 1, 1) := by decide +kernel
theorem dX14_readFact_49 : decode cX14_readFact 49 = .ok (.iadd, 1) := by decide +kernel
theorem dX14_readFact_50 : decode cX14_readFact 50 = .ok (.putfield 388, 3) := by decide +kernel
theorem dX14_readFact_53 : decode cX14_readFact 53 = .ok (.return_, 1) := by decide +kernel
set_option maxRecDepth 100000 in
set_option maxHeartbeats 4000000 in
theorem mX14_readFact {E : goEv} {l : Launch} {G : goG} {N : Nat} {M : goMI} {L : goML} {R : goMR} {r0 : goMI} {r1 : goML} (hk : goKn E) (hW : goW G R) (h : fX14_readFact N M L R = some (r0, r1)) : Met l yX14_readFact (goCd yX14_readFact cX14_readFact 3 none) (goRoom 9 192 0 0) (goPre E [.ref 102] G M L R) (goQv E G r0 r1 R) 0 0 (goSet E) := by
  refine goMet pl_RX14 hk (lv := [some (.ref 102), none, none]) rfl (Nat.le_of_ble_eq_true rfl) ?_
  intro X hc hl hR hr hnm
  subst hl
  unfold fX14_readFact at h
  refine go_aload0 hc dX14_readFact_0 ?_
  refine go_aload0 hc dX14_readFact_1 ?_
  replace h := goBind h; obtain ⟨b11, e12, h⟩ := h
  refine go_getR hc lk_RX14_192 dX14_readFact_2 (sh_102 hW) e12 ?_
  refine go_getI hc lk_RX14_388 dX14_readFact_5 (shM_0 (goW_M4 hW e12)) ?_
  refine go_bipush (v := 8) hc dX14_readFact_8 rfl ?_
  replace h := goB2_h h; obtain ⟨M13, L14, e15, h⟩ := h
  refine go_callVv hc dX14_readFact_10 (mX14_begins hk hW e15) ml_RX14_201 yk_X14_begins ⟨wim_X14_begins, wse_X14_begins⟩ hR rfl (sh_102 hW) rfl rfl rfl (Nat.le_of_ble_eq_true rfl) rfl ?_
  refine go_aload0 hc dX14_readFact_13 ?_
  replace h := goB3_h h; obtain ⟨x16, M17, L18, e19, h⟩ := h
  refine go_callVl hc dX14_readFact_14 (mX14_readFresh hk hW e19) ml_RX14_292 yk_X14_readFresh ⟨wim_X14_readFresh, wse_X14_readFresh⟩ hR rfl (sh_102 hW) rfl rfl rfl (Nat.le_of_ble_eq_true rfl) rfl ?_
  refine go_lstore1 hc dX14_readFact_17 ?_
  refine go_aload0 hc dX14_readFact_18 ?_
  refine go_getI hc lk_RX14_94 dX14_readFact_19 (sh_102 hW) ?_
  refine go_iconst (v := 5) hc dX14_readFact_22 rfl ?_
  refine go_icmp_ne hc 27 dX14_readFact_23 rfl (fun c20 => ?_) (fun c20 => ?_)
  · replace h := goIfF h c20
    refine go_aload0 hc dX14_readFact_27 ?_
    refine go_lload1 hc dX14_readFact_28 ?_
    refine go_iconst (v := 3) hc dX14_readFact_29 rfl ?_
    refine go_aload0 hc dX14_readFact_30 ?_
    replace h := goBind h; obtain ⟨b21, e22, h⟩ := h
    refine go_getR hc lk_RX14_192 dX14_readFact_31 (sh_102 hW) e22 ?_
    refine go_getI hc lk_RX14_388 dX14_readFact_34 (shM_0 (goW_M4 hW e22)) ?_
    replace h := goB2_h h; obtain ⟨M23, L24, e25, h⟩ := h
    refine go_callVv hc dX14_readFact_37 (mX14_names hk hW e25) ml_RX14_303 yk_X14_names ⟨wim_X14_names, wse_X14_names⟩ hR rfl (sh_102 hW) rfl rfl rfl (Nat.le_of_ble_eq_true rfl) rfl ?_
    refine go_aload0 hc dX14_readFact_40 ?_
    replace h := goBind h; obtain ⟨b26, e27, h⟩ := h
    refine go_getR hc lk_RX14_192 dX14_readFact_41 (sh_102 hW) e27 ?_
    refine go_dupr hc dX14_readFact_44 ?_
    refine go_getI hc lk_RX14_388 dX14_readFact_45 (shM_0 (goW_M4 hW e27)) ?_
    refine go_iconst (v := 1) hc dX14_readFact_48 rfl ?_
    refine go_iadd hc dX14_readFact_49 ?_
    replace h := goNm_x h; obtain ⟨M28, e29, h⟩ := h
    refine go_ptI hc lk_RX14_388 dX14_readFact_50 (shM_0 (goW_M4 hW e27)) e29 ?_
    cases h
    exact go_vret hc dX14_readFact_53 hr
  · replace h := goIfT h c20
    cases h
    exact go_vret hc dX14_readFact_26 hr
theorem dX14_readHolds_0 : decode cX14_readHolds 0 = .ok (.aload_n 0, 1) := by decide +kernel
theorem dX14_readHolds_1 : decode cX14_readHolds 1 = .ok (.iconst 0, 1) := by decide +kernel
theorem dX14_readHolds_2 : decode cX14_readHolds 2 = .ok (.iconst 1, 1) := by decide +kernel
theorem dX14_readHolds_3 : decode cX14_readHolds 3 = .ok (.invokevirtual 201, 3) := by decide +kernel
theorem dX14_readHolds_6 : decode cX14_readHolds 6 = .ok (.aload_n 0, 1) := by decide +kernel
theorem dX14_readHolds_7 : decode cX14_readHolds 7 = .ok (.iconst 3, 1) := by decide +kernel
theorem dX14_readHolds_8 : decode cX14_readHolds 8 = .ok (.invokevirtual 226, 3) := by decide +kernel
theorem dX14_readHolds_11 : decode cX14_readHolds 11 = .ok (.istore_n 1, 1) := by decide +kernel
theorem dX14_readHolds_12 : decode cX14_readHolds 12 = .ok (.aload_n 0, 1) := by decide +kernel
theorem dX14_readHolds_13 : decode cX14_readHolds 13 = .ok (.getfield 94, 3) := by decide +kernel
theorem dX14_readHolds_16 : decode cX14_readHolds 16 = .ok (.iconst 5, 1) := by decide +kernel
theorem dX14_readHolds_17 : decode cX14_readHolds 17 = .ok (.if_icmp .eq 22, 3) := by decide +kernel
theorem dX14_readHolds_20 : decode cX14_readHolds 20 = .ok (.aload_n 0, 1) := by decide +kernel
theorem dX14_readHolds_21 : decode cX14_readHolds 21 = .ok (.getfield 192, 3) := by decide +kernel
theorem dX14_readHolds_24 : decode cX14_readHolds 24 = .ok (.getfield 391, 3) := by decide +kernel
theorem dX14_readHolds_27 : decode cX14_readHolds 27 = .ok (.iload_n 1, 1) := by decide +kernel
theorem dX14_readHolds_28 : decode cX14_readHolds 28 = .ok (.invokestatic 366, 3) := by decide +kernel
theorem dX14_readHolds_31 : decode cX14_readHolds 31 = .ok (.ifCond .eq 8, 3) := by decide +kernel
theorem dX14_readHolds_34 : decode cX14_readHolds 34 = .ok (.aload_n 0, 1) := by decide +kernel
theorem dX14_readHolds_35 : decode cX14_readHolds 35 = .ok (.iconst 3, 1) := by decide +kernel
theorem dX14_readHolds_36 : decode cX14_readHolds 36 = .ok (.invokevirtual 143, 3) := by decide +kernel
theorem dX14_readHolds_39 : decode cX14_readHolds 39 = .ok (.aload_n 0, 1) := by decide +kernel
theorem dX14_readHolds_40 : decode cX14_readHolds 40 = .ok (.invokevirtual 136, 3) := by decide +kernel
theorem dX14_readHolds_43 : decode cX14_readHolds 43 = .ok (.aload_n 0, 1) := by decide +kernel
theorem dX14_readHolds_44 : decode cX14_readHolds 44 = .ok (.getfield 94, 3) := by decide +kernel
theorem dX14_readHolds_47 : decode cX14_readHolds 47 = .ok (.iconst 5, 1) := by decide +kernel
theorem dX14_readHolds_48 : decode cX14_readHolds 48 = .ok (.if_icmp .eq 18, 3) := by decide +kernel
theorem dX14_readHolds_51 : decode cX14_readHolds 51 = .ok (.aload_n 0, 1) := by decide +kernel
theorem dX14_readHolds_52 : decode cX14_readHolds 52 = .ok (.getfield 192, 3) := by decide +kernel
theorem dX14_readHolds_55 : decode cX14_readHolds 55 = .ok (.dup, 1) := by decide +kernel
theorem dX14_readHolds_56 : decode cX14_readHolds 56 = .ok (.getfield 391, 3) := by decide +kernel
theorem dX14_readHolds_59 : decode cX14_readHolds 59 = .ok (.iconst 1, 1) := by decide +kernel
theorem dX14_readHolds_60 : decode cX14_readHolds 60 = .ok (.iload_n 1, 1) := by decide +kernel
theorem dX14_readHolds_61 : decode cX14_readHolds 61 = .ok (.ishl, 1) := by decide +kernel
theorem dX14_readHolds_62 : decode cX14_readHolds 62 = .ok (.ior, 1) := by decide +kernel
theorem dX14_readHolds_63 : decode cX14_readHolds 63 = .ok (.putfield 391, 3) := by decide +kernel
theorem dX14_readHolds_66 : decode cX14_readHolds 66 = .ok (.return_, 1) := by decide +kernel
set_option maxRecDepth 100000 in
set_option maxHeartbeats 4000000 in
theorem mX14_readHolds {E : goEv} {l : Launch} {G : goG} {N : Nat} {M : goMI} {L : goML} {R : goMR} {r0 : goMI} {r1 : goML} (hk : goKn E) (hW : goW G R) (h : fX14_readHolds N M L R = some (r0, r1)) : Met l yX14_readHolds (goCd yX14_readHolds cX14_readHolds 2 none) (goRoom 9 192 0 0) (goPre E [.ref 102] G M L R) (goQv E G r0 r1 R) 0 0 (goSet E) := by
  refine goMet pl_RX14 hk (lv := [some (.ref 102), none]) rfl (Nat.le_of_ble_eq_true rfl) ?_
  intro X hc hl hR hr hnm
  subst hl
  unfold fX14_readHolds at h
  refine go_aload0 hc dX14_readHolds_0 ?_
  refine go_iconst (v := 0) hc dX14_readHolds_1 rfl ?_
  refine go_iconst (v := 1) hc dX14_readHolds_2 rfl ?_
  replace h := goB2_h h; obtain ⟨M11, L12, e13, h⟩ := h
  refine go_callVv hc dX14_readHolds_3 (mX14_begins hk hW e13) ml_RX14_201 yk_X14_begins ⟨wim_X14_begins, wse_X14_begins⟩ hR rfl (sh_102 hW) rfl rfl rfl (Nat.le_of_ble_eq_true rfl) rfl ?_
  refine go_aload0 hc dX14_readHolds_6 ?_
  refine go_iconst (v := 3) hc dX14_readHolds_7 rfl ?_
  replace h := goB2_h h; obtain ⟨x14, M15, e16, h⟩ := h
  refine go_callVi hc dX14_readHolds_8 (mX14_known hk hW e16) ml_RX14_226 yk_X14_known ⟨wim_X14_known, wse_X14_known⟩ hR rfl (sh_102 hW) rfl rfl rfl (Nat.le_of_ble_eq_true rfl) rfl ?_
  refine go_istore1 hc dX14_readHolds_11 ?_
  refine go_aload0 hc dX14_readHolds_12 ?_
  refine go_getI hc lk_RX14_94 dX14_readHolds_13 (sh_102 hW) ?_
  refine go_iconst (v := 5) hc dX14_readHolds_16 rfl ?_
  replace h := goBind h; obtain ⟨M17, e18, h⟩ := h
  have k19 : goA E X G 0 0 (goMQ X E (goQv E G r0 r1 R) 0 0) 39 [some (.ref 102), some (.int x14)] [] M17 L12 R := by
    refine go_aload0 hc dX14_readHolds_39 ?_
    replace h := goB2_h h; obtain ⟨M26, L27, e28, h⟩ := h
    refine go_callVv hc dX14_readHolds_40 (mX14_goesOn hk hW e28) ml_RX14_136 yk_X14_goesOn ⟨wim_X14_goesOn, wse_X14_goesOn⟩ hR rfl (sh_102 hW) rfl rfl rfl (Nat.le_of_ble_eq_true rfl) rfl ?_
    refine go_aload0 hc dX14_readHolds_43 ?_
    refine go_getI hc lk_RX14_94 dX14_readHolds_44 (sh_102 hW) ?_
    refine go_iconst (v := 5) hc dX14_readHolds_47 rfl ?_
    refine go_icmp_eq hc 66 dX14_readHolds_48 rfl (fun c29 => ?_) (fun c29 => ?_)
    · replace h := goIfT h c29
      cases h
      exact go_vret hc dX14_readHolds_66 hr
    · replace h := goIfF h c29
      refine go_aload0 hc dX14_readHolds_51 ?_
      replace h := goBind h; obtain ⟨b30, e31, h⟩ := h
      refine go_getR hc lk_RX14_192 dX14_readHolds_52 (sh_102 hW) e31 ?_
      refine go_dupr hc dX14_readHolds_55 ?_
      refine go_getI hc lk_RX14_391 dX14_readHolds_56 (shM_0 (goW_M4 hW e31)) ?_
      refine go_iconst (v := 1) hc dX14_readHolds_59 rfl ?_
      refine go_iload1 hc dX14_readHolds_60 ?_
      refine go_ishl hc dX14_readHolds_61 ?_
      refine go_ior hc dX14_readHolds_62 ?_
      replace h := goNm_x h; obtain ⟨M32, e33, h⟩ := h
      refine go_ptI hc lk_RX14_391 dX14_readHolds_63 (shM_0 (goW_M4 hW e31)) e33 ?_
      cases h
      exact go_vret hc dX14_readHolds_66 hr
  refine go_icmp_eq hc 39 dX14_readHolds_17 rfl (fun c20 => ?_) (fun c20 => ?_)
  · replace e18 := goIfT e18 c20
    cases e18
    exact k19
  · replace e18 := goIfF e18 c20
    refine go_aload0 hc dX14_readHolds_20 ?_
    replace e18 := goBind e18; obtain ⟨b21, e22, e18⟩ := e18
    refine go_getR hc lk_RX14_192 dX14_readHolds_21 (sh_102 hW) e22 ?_
    refine go_getI hc lk_RX14_391 dX14_readHolds_24 (shM_0 (goW_M4 hW e22)) ?_
    refine go_iload1 hc dX14_readHolds_27 ?_
    refine go_callSi hc dX14_readHolds_28 (mX14_bit hk hW rfl) ml_RX14_366 yk_X14_bit wst_X14_bit hR rfl rfl rfl (Nat.le_of_ble_eq_true rfl) rfl ?_
    refine go_if_eq hc 39 dX14_readHolds_31 rfl (fun c23 => ?_) (fun c23 => ?_)
    · replace e18 := goIfT e18 c23
      cases e18
      exact k19
    · replace e18 := goIfF e18 c23
      refine go_aload0 hc dX14_readHolds_34 ?_
      refine go_iconst (v := 3) hc dX14_readHolds_35 rfl ?_
      replace e18 := goBind e18; obtain ⟨M24, e25, e18⟩ := e18
      refine go_callVv hc dX14_readHolds_36 (mX14_flaw hk hW e25) ml_RX14_143 yk_X14_flaw ⟨wim_X14_flaw, wse_X14_flaw⟩ hR rfl (sh_102 hW) rfl rfl rfl (Nat.le_of_ble_eq_true rfl) rfl ?_
      cases e18
      exact k19
theorem dX14_readRule_0 : decode cX14_readRule 0 = .ok (.aload_n 0, 1) := by decide +kernel
theorem dX14_readRule_1 : decode cX14_readRule 1 = .ok (.aload_n 0, 1) := by decide +kernel
theorem dX14_readRule_2 : decode cX14_readRule 2 = .ok (.getfield 192, 3) := by decide +kernel
theorem dX14_readRule_5 : decode cX14_readRule 5 = .ok (.getfield 393, 3) := by decide +kernel
theorem dX14_readRule_8 : decode cX14_readRule 8 = .ok (.bipush 8, 2) := by decide +kernel
theorem dX14_readRule_10 : decode cX14_readRule 10 = .ok (.invokevirtual 201, 3) := by decide +kernel
theorem dX14_readRule_13 : decode cX14_readRule 13 = .ok (.aload_n 0, 1) := by decide +kernel
theorem dX14_readRule_14 : decode cX14_readRule 14 = .ok (.iconst 3, 1) := by decide +kernel
theorem dX14_readRule_15 : decode cX14_readRule 15 = .ok (.invokevirtual 309, 3) := by decide +kernel
theorem dX14_readRule_18 : decode cX14_readRule 18 = .ok (.istore_n 1, 1) := by decide +kernel
theorem dX14_readRule_19 : decode cX14_readRule 19 = .ok (.aload_n 0, 1) := by decide +kernel
theorem dX14_readRule_20 : decode cX14_readRule 20 = .ok (.ldc 190, 2) := by decide +kernel
theorem dX14_readRule_22 : decode cX14_readRule 22 = .ok (.invokevirtual 151, 3) := by decide +kernel
theorem dX14_readRule_25 : decode cX14_readRule 25 = .ok (.iconst 0, 1) := by decide +kernel
theorem dX14_readRule_26 : decode cX14_readRule 26 = .ok (.istore_n 2, 1) := by decide +kernel
theorem dX14_readRule_27 : decode cX14_readRule 27 = .ok (.iconst 1, 1) := by decide +kernel
theorem dX14_readRule_28 : decode cX14_readRule 28 = .ok (.istore_n 3, 1) := by decide +kernel
theorem dX14_readRule_29 : decode cX14_readRule 29 = .ok (.iload_n 3, 1) := by decide +kernel
theorem dX14_readRule_30 : decode cX14_readRule 30 = .ok (.ifCond .eq 83, 3) := by decide +kernel
theorem dX14_readRule_33 : decode cX14_readRule 33 = .ok (.aload_n 0, 1) := by decide +kernel
theorem dX14_readRule_34 : decode cX14_readRule 34 = .ok (.iconst 3, 1) := by decide +kernel
theorem dX14_readRule_35 : decode cX14_readRule 35 = .ok (.invokevirtual 226, 3) := by decide +kernel
theorem dX14_readRule_38 : decode cX14_readRule 38 = .ok (.istore 4, 2) := by decide +kernel
theorem dX14_readRule_40 : decode cX14_readRule 40 = .ok (.aload_n 0, 1) := by decide +kernel
theorem dX14_readRule_41 : decode cX14_readRule 41 = .ok (.getfield 94, 3) := by decide +kernel
theorem dX14_readRule_44 : decode cX14_readRule 44 = .ok (.iconst 5, 1) := by decide +kernel
theorem dX14_readRule_45 : decode cX14_readRule 45 = .ok (.if_icmp .eq 17, 3) := by decide +kernel
theorem dX14_readRule_48 : decode cX14_readRule 48 = .ok (.iload_n 2, 1) := by decide +kernel
theorem dX14_readRule_49 : decode cX14_readRule 49 = .ok (.iload 4, 2) := by decide +kernel
theorem dX14_readRule_51 : decode cX14_readRule 51 = .ok (.invokestatic 366, 3) := by decide +kernel
theorem dX14_readRule_54 : decode cX14_readRule 54 = .ok (.ifCond .eq 8, 3) := by decide +kernel
theorem dX14_readRule_57 : decode cX14_readRule 57 = .ok (.aload_n 0, 1) := by decide +kernel
theorem dX14_readRule_58 : decode cX14_readRule 58 = .ok (.iconst 3, 1) := by decide +kernel
theorem dX14_readRule_59 : decode cX14_readRule 59 = .ok (.invokevirtual 143, 3) := by decide +kernel
theorem dX14_readRule_62 : decode cX14_readRule 62 = .ok (.aload_n 0, 1) := by decide +kernel
theorem dX14_readRule_63 : decode cX14_readRule 63 = .ok (.getfield 94, 3) := by decide +kernel
theorem dX14_readRule_66 : decode cX14_readRule 66 = .ok (.iconst 5, 1) := by decide +kernel
theorem dX14_readRule_67 : decode cX14_readRule 67 = .ok (.if_icmp .eq 16, 3) := by decide +kernel
theorem dX14_readRule_70 : decode cX14_readRule 70 = .ok (.iload_n 2, 1) := by decide +kernel
theorem dX14_readRule_71 : decode cX14_readRule 71 = .ok (.invokestatic 396, 3) := by decide +kernel
theorem dX14_readRule_74 : decode cX14_readRule 74 = .ok (.iconst 3, 1) := by decide +kernel
theorem dX14_readRule_75 : decode cX14_readRule 75 = .ok (.if_icmp .ne 8, 3) := by decide +kernel
theorem dX14_readRule_78 : decode cX14_readRule 78 = .ok (.aload_n 0, 1) := by decide +kernel
theorem dX14_readRule_79 : decode cX14_readRule 79 = .ok (.iconst 5, 1) := by decide +kernel
theorem dX14_readRule_80 : decode cX14_readRule 80 = .ok (.invokevirtual 143, 3) := by decide +kernel
theorem dX14_readRule_83 : decode cX14_readRule 83 = .ok (.aload_n 0, 1) := by decide +kernel
theorem dX14_readRule_84 : decode cX14_readRule 84 = .ok (.invokevirtual 136, 3) := by decide +kernel
theorem dX14_readRule_87 : decode cX14_readRule 87 = .ok (.aload_n 0, 1) := by decide +kernel
theorem dX14_readRule_88 : decode cX14_readRule 88 = .ok (.getfield 94, 3) := by decide +kernel
theorem dX14_readRule_91 : decode cX14_readRule 91 = .ok (.iconst 5, 1) := by decide +kernel
theorem dX14_readRule_92 : decode cX14_readRule 92 = .ok (.if_icmp .ne 4, 3) := by decide +kernel
theorem dX14_readRule_95 : decode cX14_readRule 95 = .ok (.return_, 1) := by decide +kernel
theorem dX14_readRule_96 : decode cX14_readRule 96 = .ok (.iload_n 2, 1) := by decide +kernel
theorem dX14_readRule_97 : decode cX14_readRule 97 = .ok (.iconst 1, 1) := by decide +kernel
theorem dX14_readRule_98 : decode cX14_readRule 98 = .ok (.iload 4, 2) := by decide +kernel
theorem dX14_readRule_100 : decode cX14_readRule 100 = .ok (.ishl, 1) := by decide +kernel
theorem dX14_readRule_101 : decode cX14_readRule 101 = .ok (.ior, 1) := by decide +kernel
theorem dX14_readRule_102 : decode cX14_readRule 102 = .ok (.istore_n 2, 1) := by decide +kernel
theorem dX14_readRule_103 : decode cX14_readRule 103 = .ok (.aload_n 0, 1) := by decide +kernel
theorem dX14_readRule_104 : decode cX14_readRule 104 = .ok (.bipush 44, 2) := by decide +kernel
theorem dX14_readRule_106 : decode cX14_readRule 106 = .ok (.invokevirtual 238, 3) := by decide +kernel
theorem dX14_readRule_109 : decode cX14_readRule 109 = .ok (.istore_n 3, 1) := by decide +kernel
theorem dX14_readRule_110 : decode cX14_readRule 110 = .ok (.goto (-81), 3) := by decide +kernel
theorem dX14_readRule_113 : decode cX14_readRule 113 = .ok (.aload_n 0, 1) := by decide +kernel
theorem dX14_readRule_114 : decode cX14_readRule 114 = .ok (.getfield 192, 3) := by decide +kernel
theorem dX14_readRule_117 : decode cX14_readRule 117 = .ok (.getfield 399, 3) := by decide +kernel
theorem dX14_readRule_120 : decode cX14_readRule 120 = .ok (.aload_n 0, 1) := by decide +kernel
theorem dX14_readRule_121 : decode cX14_readRule 121 = .ok (.getfield 192, 3) := by decide +kernel
theorem dX14_readRule_124 : decode cX14_readRule 124 = .ok (.getfield 393, 3) := by decide +kernel
theorem dX14_readRule_127 : decode cX14_readRule 127 = .ok (.iload_n 1, 1) := by decide +kernel
theorem dX14_readRule_128 : decode cX14_readRule 128 = .ok (.iastore, 1) := by decide +kernel
theorem dX14_readRule_129 : decode cX14_readRule 129 = .ok (.aload_n 0, 1) := by decide +kernel
theorem dX14_readRule_130 : decode cX14_readRule 130 = .ok (.getfield 192, 3) := by decide +kernel
theorem dX14_readRule_133 : decode cX14_readRule 133 = .ok (.getfield 402, 3) := by decide +kernel
theorem dX14_readRule_136 : decode cX14_readRule 136 = .ok (.aload_n 0, 1) := by decide +kernel
theorem dX14_readRule_137 : decode cX14_readRule 137 = .ok (.getfield 192, 3) := by decide +kernel
theorem dX14_readRule_140 : decode cX14_readRule 140 = .ok (.getfield 393, 3) := by decide +kernel
theorem dX14_readRule_143 : decode cX14_readRule 143 = .ok (.iload_n 2, 1) := by decide +kernel
theorem dX14_readRule_144 : decode cX14_readRule 144 = .ok (.iastore, 1) := by decide +kernel
theorem dX14_readRule_145 : decode cX14_readRule 145 = .ok (.aload_n 0, 1) := by decide +kernel
theorem dX14_readRule_146 : decode cX14_readRule 146 = .ok (.getfield 192, 3) := by decide +kernel
theorem dX14_readRule_149 : decode cX14_readRule 149 = .ok (.dup, 1) := by decide +kernel
theorem dX14_readRule_150 : decode cX14_readRule 150 = .ok (.getfield 393, 3) := by decide +kernel
theorem dX14_readRule_153 : decode cX14_readRule 153 = .ok (.iconst 1, 1) := by decide +kernel
theorem dX14_readRule_154 : decode cX14_readRule 154 = .ok (.iadd, 1) := by decide +kernel
theorem dX14_readRule_155 : decode cX14_readRule 155 = .ok (.putfield 393, 3) := by decide +kernel
theorem dX14_readRule_158 : decode cX14_readRule 158 = .ok (.return_, 1) := by decide +kernel
set_option maxRecDepth 100000 in
set_option maxHeartbeats 4000000 in
theorem mX14_readRule_L29 {E : goEv} {X : goX} {G : goG} {R : goMR} {N : Nat} {v1 : Int32} {r0 : goMI} {r1 : goML} (hc : goCx E X cX14_readRule RX14 5) (hk : goKn E) (hR : X.2.2.2.1 = goRoom 10 214 0 0) (hr : X.2.2.2.2.2.2.2.2.1.sig.returnType = none) (hW : goW G R) : ∀ (n : Nat) (v2 : Int32) (v3 : Int32) (M : goMI) (L : goML), lX14_readRule_29 N v1 R n v2 v3 M L = some (r0, r1) → ∀ (d4 : Option Value), goA E X G 0 0 (goMQ X E (goQv E G r0 r1 R) 0 0) 29 [some (.ref 102), some (.int v1), some (.int v2), some (.int v3), d4] [] M L R := by
  intro n
  induction n with
  | zero => intro v2 v3 M L h; exact nomatch h
  | succ n ih =>
    intro v2 v3 M L h d4
    rw [lX14_readRule_29] at h
    refine go_iload3 hc dX14_readRule_29 ?_
    refine go_if_eq hc 113 dX14_readRule_30 rfl (fun c23 => ?_) (fun c23 => ?_)
    · replace h := goIfT h c23
      refine go_aload0 hc dX14_readRule_113 ?_
      replace h := goBind h; obtain ⟨b24, e25, h⟩ := h
      refine go_getR hc lk_RX14_192 dX14_readRule_114 (sh_102 hW) e25 ?_
      refine go_getR hc lk_RX14_399 dX14_readRule_117 (shM_0 (goW_M4 hW e25)) (rfM_32 (goW_M4 hW e25)) ?_
      refine go_aload0 hc dX14_readRule_120 ?_
      replace h := goBind h; obtain ⟨b26, e27, h⟩ := h
      refine go_getR hc lk_RX14_192 dX14_readRule_121 (sh_102 hW) e27 ?_
      refine go_getI hc lk_RX14_393 dX14_readRule_124 (shM_0 (goW_M4 hW e27)) ?_
      refine go_iload1 hc dX14_readRule_127 ?_
      replace h := goBind h; obtain ⟨M28, e29, h⟩ := h
      refine go_iast hc dX14_readRule_128 (shM_17 (goW_M4 hW e25)) e29 ?_
      refine go_aload0 hc dX14_readRule_129 ?_
      replace h := goBind h; obtain ⟨b30, e31, h⟩ := h
      refine go_getR hc lk_RX14_192 dX14_readRule_130 (sh_102 hW) e31 ?_
      refine go_getR hc lk_RX14_402 dX14_readRule_133 (shM_0 (goW_M4 hW e31)) (rfM_33 (goW_M4 hW e31)) ?_
      refine go_aload0 hc dX14_readRule_136 ?_
      replace h := goBind h; obtain ⟨b32, e33, h⟩ := h
      refine go_getR hc lk_RX14_192 dX14_readRule_137 (sh_102 hW) e33 ?_
      refine go_getI hc lk_RX14_393 dX14_readRule_140 (shM_0 (goW_M4 hW e33)) ?_
      refine go_iload2 hc dX14_readRule_143 ?_
      replace h := goBind h; obtain ⟨M34, e35, h⟩ := h
      refine go_iast hc dX14_readRule_144 (shM_18 (goW_M4 hW e31)) e35 ?_
      refine go_aload0 hc dX14_readRule_145 ?_
      replace h := goBind h; obtain ⟨b36, e37, h⟩ := h
      refine go_getR hc lk_RX14_192 dX14_readRule_146 (sh_102 hW) e37 ?_
      refine go_dupr hc dX14_readRule_149 ?_
      refine go_getI hc lk_RX14_393 dX14_readRule_150 (shM_0 (goW_M4 hW e37)) ?_
      refine go_iconst (v := 1) hc dX14_readRule_153 rfl ?_
      refine go_iadd hc dX14_readRule_154 ?_
      replace h := goNm_x h; obtain ⟨M38, e39, h⟩ := h
      refine go_ptI hc lk_RX14_393 dX14_readRule_155 (shM_0 (goW_M4 hW e37)) e39 ?_
      cases h
      exact go_vret hc dX14_readRule_158 hr
    · replace h := goIfF h c23
      refine go_aload0 hc dX14_readRule_33 ?_
      refine go_iconst (v := 3) hc dX14_readRule_34 rfl ?_
      replace h := goB2_h h; obtain ⟨x40, M41, e42, h⟩ := h
      refine go_callVi hc dX14_readRule_35 (mX14_known hk hW e42) ml_RX14_226 yk_X14_known ⟨wim_X14_known, wse_X14_known⟩ hR rfl (sh_102 hW) rfl rfl rfl (Nat.le_of_ble_eq_true rfl) rfl ?_
      refine go_istore4 hc dX14_readRule_38 ?_
      refine go_aload0 hc dX14_readRule_40 ?_
      refine go_getI hc lk_RX14_94 dX14_readRule_41 (sh_102 hW) ?_
      refine go_iconst (v := 5) hc dX14_readRule_44 rfl ?_
      replace h := goBind h; obtain ⟨M43, e44, h⟩ := h
      have k45 : ∀ (d3 : Option Value), goA E X G 0 0 (goMQ X E (goQv E G r0 r1 R) 0 0) 62 [some (.ref 102), some (.int v1), some (.int v2), d3, some (.int x40)] [] M43 L R := by
        intro d3
        refine go_aload0 hc dX14_readRule_62 ?_
        refine go_getI hc lk_RX14_94 dX14_readRule_63 (sh_102 hW) ?_
        refine go_iconst (v := 5) hc dX14_readRule_66 rfl ?_
        replace h := goBind h; obtain ⟨M50, e51, h⟩ := h
        have k52 : ∀ (d3 : Option Value), goA E X G 0 0 (goMQ X E (goQv E G r0 r1 R) 0 0) 83 [some (.ref 102), some (.int v1), some (.int v2), d3, some (.int x40)] [] M50 L R := by
          intro d3
          refine go_aload0 hc dX14_readRule_83 ?_
          replace h := goB2_h h; obtain ⟨M59, L60, e61, h⟩ := h
          refine go_callVv hc dX14_readRule_84 (mX14_goesOn hk hW e61) ml_RX14_136 yk_X14_goesOn ⟨wim_X14_goesOn, wse_X14_goesOn⟩ hR rfl (sh_102 hW) rfl rfl rfl (Nat.le_of_ble_eq_true rfl) rfl ?_
          refine go_aload0 hc dX14_readRule_87 ?_
          refine go_getI hc lk_RX14_94 dX14_readRule_88 (sh_102 hW) ?_
          refine go_iconst (v := 5) hc dX14_readRule_91 rfl ?_
          refine go_icmp_ne hc 96 dX14_readRule_92 rfl (fun c62 => ?_) (fun c62 => ?_)
          · replace h := goIfF h c62
            refine go_iload2 hc dX14_readRule_96 ?_
            refine go_iconst (v := 1) hc dX14_readRule_97 rfl ?_
            refine go_iload4 hc dX14_readRule_98 ?_
            refine go_ishl hc dX14_readRule_100 ?_
            refine go_ior hc dX14_readRule_101 ?_
            replace h := goNm_x h; obtain ⟨x63, e64, h⟩ := h
            refine go_nmI e64 ?_
            refine go_istore2 hc dX14_readRule_102 ?_
            refine go_aload0 hc dX14_readRule_103 ?_
            refine go_bipush (v := 44) hc dX14_readRule_104 rfl ?_
            replace h := goB3_h h; obtain ⟨x65, M66, L67, e68, h⟩ := h
            refine go_callVi hc dX14_readRule_106 (mX14_eatsSign hk hW e68) ml_RX14_238 yk_X14_eatsSign ⟨wim_X14_eatsSign, wse_X14_eatsSign⟩ hR rfl (sh_102 hW) rfl rfl rfl (Nat.le_of_ble_eq_true rfl) rfl ?_
            refine go_istore3 hc dX14_readRule_109 ?_
            refine go_goto hc 29 dX14_readRule_110 rfl ?_
            exact ih _ _ _ _ h _
          · replace h := goIfT h c62
            cases h
            exact go_vret hc dX14_readRule_95 hr
        refine go_icmp_eq hc 83 dX14_readRule_67 rfl (fun c53 => ?_) (fun c53 => ?_)
        · replace e51 := goIfT e51 c53
          cases e51
          exact k52 _
        · replace e51 := goIfF e51 c53
          refine go_iload2 hc dX14_readRule_70 ?_
          replace e51 := goBind e51; obtain ⟨x54, e55, e51⟩ := e51
          refine go_callSi hc dX14_readRule_71 (mX14_bits hk hW e55) ml_RX14_396 yk_X14_bits wst_X14_bits hR rfl rfl rfl (Nat.le_of_ble_eq_true rfl) rfl ?_
          refine go_iconst (v := 3) hc dX14_readRule_74 rfl ?_
          refine go_icmp_ne hc 83 dX14_readRule_75 rfl (fun c56 => ?_) (fun c56 => ?_)
          · replace e51 := goIfF e51 c56
            cases e51
            exact k52 _
          · replace e51 := goIfT e51 c56
            refine go_aload0 hc dX14_readRule_78 ?_
            refine go_iconst (v := 5) hc dX14_readRule_79 rfl ?_
            replace e51 := goBind e51; obtain ⟨M57, e58, e51⟩ := e51
            refine go_callVv hc dX14_readRule_80 (mX14_flaw hk hW e58) ml_RX14_143 yk_X14_flaw ⟨wim_X14_flaw, wse_X14_flaw⟩ hR rfl (sh_102 hW) rfl rfl rfl (Nat.le_of_ble_eq_true rfl) rfl ?_
            cases e51
            exact k52 _
      refine go_icmp_eq hc 62 dX14_readRule_45 rfl (fun c46 => ?_) (fun c46 => ?_)
      · replace e44 := goIfT e44 c46
        cases e44
        exact k45 _
      · replace e44 := goIfF e44 c46
        refine go_iload2 hc dX14_readRule_48 ?_
        refine go_iload4 hc dX14_readRule_49 ?_
        refine go_callSi hc dX14_readRule_51 (mX14_bit hk hW rfl) ml_RX14_366 yk_X14_bit wst_X14_bit hR rfl rfl rfl (Nat.le_of_ble_eq_true rfl) rfl ?_
        refine go_if_eq hc 62 dX14_readRule_54 rfl (fun c47 => ?_) (fun c47 => ?_)
        · replace e44 := goIfT e44 c47
          cases e44
          exact k45 _
        · replace e44 := goIfF e44 c47
          refine go_aload0 hc dX14_readRule_57 ?_
          refine go_iconst (v := 3) hc dX14_readRule_58 rfl ?_
          replace e44 := goBind e44; obtain ⟨M48, e49, e44⟩ := e44
          refine go_callVv hc dX14_readRule_59 (mX14_flaw hk hW e49) ml_RX14_143 yk_X14_flaw ⟨wim_X14_flaw, wse_X14_flaw⟩ hR rfl (sh_102 hW) rfl rfl rfl (Nat.le_of_ble_eq_true rfl) rfl ?_
          cases e44
          exact k45 _
set_option maxRecDepth 100000 in
set_option maxHeartbeats 4000000 in
theorem mX14_readRule {E : goEv} {l : Launch} {G : goG} {N : Nat} {M : goMI} {L : goML} {R : goMR} {r0 : goMI} {r1 : goML} (hk : goKn E) (hW : goW G R) (h : fX14_readRule N M L R = some (r0, r1)) : Met l yX14_readRule (goCd yX14_readRule cX14_readRule 5 none) (goRoom 10 214 0 0) (goPre E [.ref 102] G M L R) (goQv E G r0 r1 R) 0 0 (goSet E) := by
  refine goMet pl_RX14 hk (lv := [some (.ref 102), none, none, none, none]) rfl (Nat.le_of_ble_eq_true rfl) ?_
  intro X hc hl hR hr hnm
  subst hl
  unfold fX14_readRule at h
  refine go_aload0 hc dX14_readRule_0 ?_
  refine go_aload0 hc dX14_readRule_1 ?_
  replace h := goBind h; obtain ⟨b11, e12, h⟩ := h
  refine go_getR hc lk_RX14_192 dX14_readRule_2 (sh_102 hW) e12 ?_
  refine go_getI hc lk_RX14_393 dX14_readRule_5 (shM_0 (goW_M4 hW e12)) ?_
  refine go_bipush (v := 8) hc dX14_readRule_8 rfl ?_
  replace h := goB2_h h; obtain ⟨M13, L14, e15, h⟩ := h
  refine go_callVv hc dX14_readRule_10 (mX14_begins hk hW e15) ml_RX14_201 yk_X14_begins ⟨wim_X14_begins, wse_X14_begins⟩ hR rfl (sh_102 hW) rfl rfl rfl (Nat.le_of_ble_eq_true rfl) rfl ?_
  refine go_aload0 hc dX14_readRule_13 ?_
  refine go_iconst (v := 3) hc dX14_readRule_14 rfl ?_
  replace h := goB3_h h; obtain ⟨x16, M17, L18, e19, h⟩ := h
  refine go_callVi hc dX14_readRule_15 (mX14_readKnown hk hW e19) ml_RX14_309 yk_X14_readKnown ⟨wim_X14_readKnown, wse_X14_readKnown⟩ hR rfl (sh_102 hW) rfl rfl rfl (Nat.le_of_ble_eq_true rfl) rfl ?_
  refine go_istore1 hc dX14_readRule_18 ?_
  refine go_aload0 hc dX14_readRule_19 ?_
  refine go_ldcS hc (i := 46) (q := 1000146) (Nat.le_of_ble_eq_true rfl) rfl rfl rfl dX14_readRule_20 ?_
  replace h := goB2_h h; obtain ⟨M20, L21, e22, h⟩ := h
  refine go_callVv hc dX14_readRule_22 (mX14_wants hk hW e22) ml_RX14_151 yk_X14_wants ⟨wim_X14_wants, wse_X14_wants⟩ hR rfl (sh_102 hW) rfl rfl rfl (Nat.le_of_ble_eq_true rfl) rfl ?_
  refine go_iconst (v := 0) hc dX14_readRule_25 rfl ?_
  refine go_istore2 hc dX14_readRule_26 ?_
  refine go_iconst (v := 1) hc dX14_readRule_27 rfl ?_
  refine go_istore3 hc dX14_readRule_28 ?_
  exact mX14_readRule_L29 hc hk hR hr hW _ _ _ _ _ h _
theorem dX14_readProof_0 : decode cX14_readProof 0 = .ok (.aload_n 0, 1) := by decide +kernel
theorem dX14_readProof_1 : decode cX14_readProof 1 = .ok (.aload_n 0, 1) := by decide +kernel
theorem dX14_readProof_2 : decode cX14_readProof 2 = .ok (.getfield 192, 3) := by decide +kernel
theorem dX14_readProof_5 : decode cX14_readProof 5 = .ok (.getfield 405, 3) := by decide +kernel
theorem dX14_readProof_8 : decode cX14_readProof 8 = .ok (.invokevirtual 409, 3) := by decide +kernel
theorem dX14_readProof_11 : decode cX14_readProof 11 = .ok (.iconst 1, 1) := by decide +kernel
theorem dX14_readProof_12 : decode cX14_readProof 12 = .ok (.istore_n 1, 1) := by decide +kernel
theorem dX14_readProof_13 : decode cX14_readProof 13 = .ok (.iload_n 1, 1) := by decide +kernel
theorem dX14_readProof_14 : decode cX14_readProof 14 = .ok (.ifCond .eq 78, 3) := by decide +kernel
theorem dX14_readProof_17 : decode cX14_readProof 17 = .ok (.aload_n 0, 1) := by decide +kernel
theorem dX14_readProof_18 : decode cX14_readProof 18 = .ok (.iconst 3, 1) := by decide +kernel
theorem dX14_readProof_19 : decode cX14_readProof 19 = .ok (.invokevirtual 226, 3) := by decide +kernel
theorem dX14_readProof_22 : decode cX14_readProof 22 = .ok (.istore_n 2, 1) := by decide +kernel
theorem dX14_readProof_23 : decode cX14_readProof 23 = .ok (.aload_n 0, 1) := by decide +kernel
theorem dX14_readProof_24 : decode cX14_readProof 24 = .ok (.getfield 192, 3) := by decide +kernel
theorem dX14_readProof_27 : decode cX14_readProof 27 = .ok (.getfield 413, 3) := by decide +kernel
theorem dX14_readProof_30 : decode cX14_readProof 30 = .ok (.bipush 8, 2) := by decide +kernel
theorem dX14_readProof_32 : decode cX14_readProof 32 = .ok (.if_icmp .ne 8, 3) := by decide +kernel
theorem dX14_readProof_35 : decode cX14_readProof 35 = .ok (.aload_n 0, 1) := by decide +kernel
theorem dX14_readProof_36 : decode cX14_readProof 36 = .ok (.iconst 5, 1) := by decide +kernel
theorem dX14_readProof_37 : decode cX14_readProof 37 = .ok (.invokevirtual 143, 3) := by decide +kernel
theorem dX14_readProof_40 : decode cX14_readProof 40 = .ok (.aload_n 0, 1) := by decide +kernel
theorem dX14_readProof_41 : decode cX14_readProof 41 = .ok (.invokevirtual 136, 3) := by decide +kernel
theorem dX14_readProof_44 : decode cX14_readProof 44 = .ok (.aload_n 0, 1) := by decide +kernel
theorem dX14_readProof_45 : decode cX14_readProof 45 = .ok (.getfield 94, 3) := by decide +kernel
theorem dX14_readProof_48 : decode cX14_readProof 48 = .ok (.iconst 5, 1) := by decide +kernel
theorem dX14_readProof_49 : decode cX14_readProof 49 = .ok (.if_icmp .ne 4, 3) := by decide +kernel
theorem dX14_readProof_52 : decode cX14_readProof 52 = .ok (.return_, 1) := by decide +kernel
theorem dX14_readProof_53 : decode cX14_readProof 53 = .ok (.aload_n 0, 1) := by decide +kernel
theorem dX14_readProof_54 : decode cX14_readProof 54 = .ok (.getfield 192, 3) := by decide +kernel
theorem dX14_readProof_57 : decode cX14_readProof 57 = .ok (.getfield 416, 3) := by decide +kernel
theorem dX14_readProof_60 : decode cX14_readProof 60 = .ok (.aload_n 0, 1) := by decide +kernel
theorem dX14_readProof_61 : decode cX14_readProof 61 = .ok (.getfield 192, 3) := by decide +kernel
theorem dX14_readProof_64 : decode cX14_readProof 64 = .ok (.getfield 413, 3) := by decide +kernel
theorem dX14_readProof_67 : decode cX14_readProof 67 = .ok (.iload_n 2, 1) := by decide +kernel
theorem dX14_readProof_68 : decode cX14_readProof 68 = .ok (.iastore, 1) := by decide +kernel
theorem dX14_readProof_69 : decode cX14_readProof 69 = .ok (.aload_n 0, 1) := by decide +kernel
theorem dX14_readProof_70 : decode cX14_readProof 70 = .ok (.getfield 192, 3) := by decide +kernel
theorem dX14_readProof_73 : decode cX14_readProof 73 = .ok (.dup, 1) := by decide +kernel
theorem dX14_readProof_74 : decode cX14_readProof 74 = .ok (.getfield 413, 3) := by decide +kernel
theorem dX14_readProof_77 : decode cX14_readProof 77 = .ok (.iconst 1, 1) := by decide +kernel
theorem dX14_readProof_78 : decode cX14_readProof 78 = .ok (.iadd, 1) := by decide +kernel
theorem dX14_readProof_79 : decode cX14_readProof 79 = .ok (.putfield 413, 3) := by decide +kernel
theorem dX14_readProof_82 : decode cX14_readProof 82 = .ok (.aload_n 0, 1) := by decide +kernel
theorem dX14_readProof_83 : decode cX14_readProof 83 = .ok (.bipush 44, 2) := by decide +kernel
theorem dX14_readProof_85 : decode cX14_readProof 85 = .ok (.invokevirtual 238, 3) := by decide +kernel
theorem dX14_readProof_88 : decode cX14_readProof 88 = .ok (.istore_n 1, 1) := by decide +kernel
theorem dX14_readProof_89 : decode cX14_readProof 89 = .ok (.goto (-76), 3) := by decide +kernel
theorem dX14_readProof_92 : decode cX14_readProof 92 = .ok (.aload_n 0, 1) := by decide +kernel
theorem dX14_readProof_93 : decode cX14_readProof 93 = .ok (.getfield 192, 3) := by decide +kernel
theorem dX14_readProof_96 : decode cX14_readProof 96 = .ok (.iconst 1, 1) := by decide +kernel
theorem dX14_readProof_97 : decode cX14_readProof 97 = .ok (.putfield 405, 3) := by decide +kernel
theorem dX14_readProof_100 : decode cX14_readProof 100 = .ok (.return_, 1) := by decide +kernel
set_option maxRecDepth 100000 in
set_option maxHeartbeats 4000000 in
theorem mX14_readProof_L13 {E : goEv} {X : goX} {G : goG} {R : goMR} {N : Nat} {r0 : goMI} {r1 : goML} (hc : goCx E X cX14_readProof RX14 3) (hk : goKn E) (hR : X.2.2.2.1 = goRoom 9 192 0 0) (hr : X.2.2.2.2.2.2.2.2.1.sig.returnType = none) (hW : goW G R) : ∀ (n : Nat) (v1 : Int32) (M : goMI) (L : goML), lX14_readProof_13 N R n v1 M L = some (r0, r1) → ∀ (d2 : Option Value), goA E X G 0 0 (goMQ X E (goQv E G r0 r1 R) 0 0) 13 [some (.ref 102), some (.int v1), d2] [] M L R := by
  intro n
  induction n with
  | zero => intro v1 M L h; exact nomatch h
  | succ n ih =>
    intro v1 M L h d2
    rw [lX14_readProof_13] at h
    refine go_iload1 hc dX14_readProof_13 ?_
    refine go_if_eq hc 92 dX14_readProof_14 rfl (fun c16 => ?_) (fun c16 => ?_)
    · replace h := goIfT h c16
      refine go_aload0 hc dX14_readProof_92 ?_
      replace h := goBind h; obtain ⟨b17, e18, h⟩ := h
      refine go_getR hc lk_RX14_192 dX14_readProof_93 (sh_102 hW) e18 ?_
      refine go_iconst (v := 1) hc dX14_readProof_96 rfl ?_
      replace h := goNm_x h; obtain ⟨M19, e20, h⟩ := h
      refine go_ptZ hc lk_RX14_405 dX14_readProof_97 (shM_0 (goW_M4 hW e18)) (Or.inr rfl) e20 ?_
      cases h
      exact go_vret hc dX14_readProof_100 hr
    · replace h := goIfF h c16
      refine go_aload0 hc dX14_readProof_17 ?_
      refine go_iconst (v := 3) hc dX14_readProof_18 rfl ?_
      replace h := goB2_h h; obtain ⟨x21, M22, e23, h⟩ := h
      refine go_callVi hc dX14_readProof_19 (mX14_known hk hW e23) ml_RX14_226 yk_X14_known ⟨wim_X14_known, wse_X14_known⟩ hR rfl (sh_102 hW) rfl rfl rfl (Nat.le_of_ble_eq_true rfl) rfl ?_
      refine go_istore2 hc dX14_readProof_22 ?_
      refine go_aload0 hc dX14_readProof_23 ?_
      replace h := goBind h; obtain ⟨b24, e25, h⟩ := h
      refine go_getR hc lk_RX14_192 dX14_readProof_24 (sh_102 hW) e25 ?_
      refine go_getI hc lk_RX14_413 dX14_readProof_27 (shM_0 (goW_M4 hW e25)) ?_
      refine go_bipush (v := 8) hc dX14_readProof_30 rfl ?_
      replace h := goBind h; obtain ⟨M26, e27, h⟩ := h
      have k28 : ∀ (d1 : Option Value), goA E X G 0 0 (goMQ X E (goQv E G r0 r1 R) 0 0) 40 [some (.ref 102), d1, some (.int x21)] [] M26 L R := by
        intro d1
        refine go_aload0 hc dX14_readProof_40 ?_
        replace h := goB2_h h; obtain ⟨M32, L33, e34, h⟩ := h
        refine go_callVv hc dX14_readProof_41 (mX14_goesOn hk hW e34) ml_RX14_136 yk_X14_goesOn ⟨wim_X14_goesOn, wse_X14_goesOn⟩ hR rfl (sh_102 hW) rfl rfl rfl (Nat.le_of_ble_eq_true rfl) rfl ?_
        refine go_aload0 hc dX14_readProof_44 ?_
        refine go_getI hc lk_RX14_94 dX14_readProof_45 (sh_102 hW) ?_
        refine go_iconst (v := 5) hc dX14_readProof_48 rfl ?_
        refine go_icmp_ne hc 53 dX14_readProof_49 rfl (fun c35 => ?_) (fun c35 => ?_)
        · replace h := goIfF h c35
          refine go_aload0 hc dX14_readProof_53 ?_
          replace h := goBind h; obtain ⟨b36, e37, h⟩ := h
          refine go_getR hc lk_RX14_192 dX14_readProof_54 (sh_102 hW) e37 ?_
          refine go_getR hc lk_RX14_416 dX14_readProof_57 (shM_0 (goW_M4 hW e37)) (rfM_34 (goW_M4 hW e37)) ?_
          refine go_aload0 hc dX14_readProof_60 ?_
          replace h := goBind h; obtain ⟨b38, e39, h⟩ := h
          refine go_getR hc lk_RX14_192 dX14_readProof_61 (sh_102 hW) e39 ?_
          refine go_getI hc lk_RX14_413 dX14_readProof_64 (shM_0 (goW_M4 hW e39)) ?_
          refine go_iload2 hc dX14_readProof_67 ?_
          replace h := goBind h; obtain ⟨M40, e41, h⟩ := h
          refine go_iast hc dX14_readProof_68 (shM_19 (goW_M4 hW e37)) e41 ?_
          refine go_aload0 hc dX14_readProof_69 ?_
          replace h := goBind h; obtain ⟨b42, e43, h⟩ := h
          refine go_getR hc lk_RX14_192 dX14_readProof_70 (sh_102 hW) e43 ?_
          refine go_dupr hc dX14_readProof_73 ?_
          refine go_getI hc lk_RX14_413 dX14_readProof_74 (shM_0 (goW_M4 hW e43)) ?_
          refine go_iconst (v := 1) hc dX14_readProof_77 rfl ?_
          refine go_iadd hc dX14_readProof_78 ?_
          replace h := goNm_x h; obtain ⟨M44, e45, h⟩ := h
          refine go_ptI hc lk_RX14_413 dX14_readProof_79 (shM_0 (goW_M4 hW e43)) e45 ?_
          refine go_aload0 hc dX14_readProof_82 ?_
          refine go_bipush (v := 44) hc dX14_readProof_83 rfl ?_
          replace h := goB3_h h; obtain ⟨x46, M47, L48, e49, h⟩ := h
          refine go_callVi hc dX14_readProof_85 (mX14_eatsSign hk hW e49) ml_RX14_238 yk_X14_eatsSign ⟨wim_X14_eatsSign, wse_X14_eatsSign⟩ hR rfl (sh_102 hW) rfl rfl rfl (Nat.le_of_ble_eq_true rfl) rfl ?_
          refine go_istore1 hc dX14_readProof_88 ?_
          refine go_goto hc 13 dX14_readProof_89 rfl ?_
          exact ih _ _ _ h _
        · replace h := goIfT h c35
          cases h
          exact go_vret hc dX14_readProof_52 hr
      refine go_icmp_ne hc 40 dX14_readProof_32 rfl (fun c29 => ?_) (fun c29 => ?_)
      · replace e27 := goIfF e27 c29
        cases e27
        exact k28 _
      · replace e27 := goIfT e27 c29
        refine go_aload0 hc dX14_readProof_35 ?_
        refine go_iconst (v := 5) hc dX14_readProof_36 rfl ?_
        replace e27 := goBind e27; obtain ⟨M30, e31, e27⟩ := e27
        refine go_callVv hc dX14_readProof_37 (mX14_flaw hk hW e31) ml_RX14_143 yk_X14_flaw ⟨wim_X14_flaw, wse_X14_flaw⟩ hR rfl (sh_102 hW) rfl rfl rfl (Nat.le_of_ble_eq_true rfl) rfl ?_
        cases e27
        exact k28 _
set_option maxRecDepth 100000 in
set_option maxHeartbeats 4000000 in
theorem mX14_readProof {E : goEv} {l : Launch} {G : goG} {N : Nat} {M : goMI} {L : goML} {R : goMR} {r0 : goMI} {r1 : goML} (hk : goKn E) (hW : goW G R) (h : fX14_readProof N M L R = some (r0, r1)) : Met l yX14_readProof (goCd yX14_readProof cX14_readProof 3 none) (goRoom 9 192 0 0) (goPre E [.ref 102] G M L R) (goQv E G r0 r1 R) 0 0 (goSet E) := by
  refine goMet pl_RX14 hk (lv := [some (.ref 102), none, none]) rfl (Nat.le_of_ble_eq_true rfl) ?_
  intro X hc hl hR hr hnm
  subst hl
  unfold fX14_readProof at h
  refine go_aload0 hc dX14_readProof_0 ?_
  refine go_aload0 hc dX14_readProof_1 ?_
  replace h := goBind h; obtain ⟨b11, e12, h⟩ := h
  refine go_getR hc lk_RX14_192 dX14_readProof_2 (sh_102 hW) e12 ?_
  refine go_getI hc lk_RX14_405 dX14_readProof_5 (shM_0 (goW_M4 hW e12)) ?_
  replace h := goB2_h h; obtain ⟨M13, L14, e15, h⟩ := h
  refine go_callVv hc dX14_readProof_8 (mX14_beginsOnce hk hW e15) ml_RX14_409 yk_X14_beginsOnce ⟨wim_X14_beginsOnce, wse_X14_beginsOnce⟩ hR rfl (sh_102 hW) rfl rfl rfl (Nat.le_of_ble_eq_true rfl) rfl ?_
  refine go_iconst (v := 1) hc dX14_readProof_11 rfl ?_
  refine go_istore1 hc dX14_readProof_12 ?_
  exact mX14_readProof_L13 hc hk hR hr hW _ _ _ _ h _
theorem dX14_readCourt_0 : decode cX14_readCourt 0 = .ok (.aload_n 0, 1) := by decide +kernel
theorem dX14_readCourt_1 : decode cX14_readCourt 1 = .ok (.aload_n 0, 1) := by decide +kernel
theorem dX14_readCourt_2 : decode cX14_readCourt 2 = .ok (.getfield 192, 3) := by decide +kernel
theorem dX14_readCourt_5 : decode cX14_readCourt 5 = .ok (.getfield 419, 3) := by decide +kernel
theorem dX14_readCourt_8 : decode cX14_readCourt 8 = .ok (.bipush 6, 2) := by decide +kernel
theorem dX14_readCourt_10 : decode cX14_readCourt 10 = .ok (.invokevirtual 201, 3) := by decide +kernel
theorem dX14_readCourt_13 : decode cX14_readCourt 13 = .ok (.aload_n 0, 1) := by decide +kernel
theorem dX14_readCourt_14 : decode cX14_readCourt 14 = .ok (.invokevirtual 292, 3) := by decide +kernel
theorem dX14_readCourt_17 : decode cX14_readCourt 17 = .ok (.lstore_n 1, 1) := by decide +kernel
theorem dX14_readCourt_18 : decode cX14_readCourt 18 = .ok (.aload_n 0, 1) := by decide +kernel
theorem dX14_readCourt_19 : decode cX14_readCourt 19 = .ok (.ldc_w 422, 3) := by decide +kernel
theorem dX14_readCourt_22 : decode cX14_readCourt 22 = .ok (.iconst 0, 1) := by decide +kernel
theorem dX14_readCourt_23 : decode cX14_readCourt 23 = .ok (.bipush 99, 2) := by decide +kernel
theorem dX14_readCourt_25 : decode cX14_readCourt 25 = .ok (.invokevirtual 287, 3) := by decide +kernel
theorem dX14_readCourt_28 : decode cX14_readCourt 28 = .ok (.istore_n 3, 1) := by decide +kernel
theorem dX14_readCourt_29 : decode cX14_readCourt 29 = .ok (.aload_n 0, 1) := by decide +kernel
theorem dX14_readCourt_30 : decode cX14_readCourt 30 = .ok (.ldc_w 424, 3) := by decide +kernel
theorem dX14_readCourt_33 : decode cX14_readCourt 33 = .ok (.iconst 1, 1) := by decide +kernel
theorem dX14_readCourt_34 : decode cX14_readCourt 34 = .ok (.bipush 9, 2) := by decide +kernel
theorem dX14_readCourt_36 : decode cX14_readCourt 36 = .ok (.invokevirtual 287, 3) := by decide +kernel
theorem dX14_readCourt_39 : decode cX14_readCourt 39 = .ok (.istore 4, 2) := by decide +kernel
theorem dX14_readCourt_41 : decode cX14_readCourt 41 = .ok (.aload_n 0, 1) := by decide +kernel
theorem dX14_readCourt_42 : decode cX14_readCourt 42 = .ok (.getfield 94, 3) := by decide +kernel
theorem dX14_readCourt_45 : decode cX14_readCourt 45 = .ok (.iconst 5, 1) := by decide +kernel
theorem dX14_readCourt_46 : decode cX14_readCourt 46 = .ok (.if_icmp .ne 4, 3) := by decide +kernel
theorem dX14_readCourt_49 : decode cX14_readCourt 49 = .ok (.return_, 1) := by decide +kernel
theorem dX14_readCourt_50 : decode cX14_readCourt 50 = .ok (.aload_n 0, 1) := by decide +kernel
theorem dX14_readCourt_51 : decode cX14_readCourt 51 = .ok (.lload_n 1, 1) := by decide +kernel
theorem dX14_readCourt_52 : decode cX14_readCourt 52 = .ok (.iconst 4, 1) := by decide +kernel
theorem dX14_readCourt_53 : decode cX14_readCourt 53 = .ok (.aload_n 0, 1) := by decide +kernel
theorem dX14_readCourt_54 : decode cX14_readCourt 54 = .ok (.getfield 192, 3) := by decide +kernel
theorem dX14_readCourt_57 : decode cX14_readCourt 57 = .ok (.getfield 419, 3) := by decide +kernel
theorem dX14_readCourt_60 : decode cX14_readCourt 60 = .ok (.invokevirtual 303, 3) := by decide +kernel
theorem dX14_readCourt_63 : decode cX14_readCourt 63 = .ok (.aload_n 0, 1) := by decide +kernel
theorem dX14_readCourt_64 : decode cX14_readCourt 64 = .ok (.getfield 192, 3) := by decide +kernel
theorem dX14_readCourt_67 : decode cX14_readCourt 67 = .ok (.getfield 426, 3) := by decide +kernel
theorem dX14_readCourt_70 : decode cX14_readCourt 70 = .ok (.aload_n 0, 1) := by decide +kernel
theorem dX14_readCourt_71 : decode cX14_readCourt 71 = .ok (.getfield 192, 3) := by decide +kernel
theorem dX14_readCourt_74 : decode cX14_readCourt 74 = .ok (.getfield 419, 3) := by decide +kernel
theorem dX14_readCourt_77 : decode cX14_readCourt 77 = .ok (.iload_n 3, 1) := by decide +kernel
theorem dX14_readCourt_78 : decode cX14_readCourt 78 = .ok (.iastore, 1) := by decide +kernel
theorem dX14_readCourt_79 : decode cX14_readCourt 79 = .ok (.aload_n 0, 1) := by decide +kernel
theorem dX14_readCourt_80 : decode cX14_readCourt 80 = .ok (.getfield 192, 3) := by decide +kernel
theorem dX14_readCourt_83 : decode cX14_readCourt 83 = .ok (.getfield 428, 3) := by decide +kernel
theorem dX14_readCourt_86 : decode cX14_readCourt 86 = .ok (.aload_n 0, 1) := by decide +kernel
theorem dX14_readCourt_87 : decode cX14_readCourt 87 = .ok (.getfield 192, 3) := by decide +kernel
theorem dX14_readCourt_90 : decode cX14_readCourt 90 = .ok (.getfield 419, 3) := by decide +kernel
theorem dX14_readCourt_93 : decode cX14_readCourt 93 = .ok (.iload 4, 2) := by decide +kernel
theorem dX14_readCourt_95 : decode cX14_readCourt 95 = .ok (.iastore, 1) := by decide +kernel
theorem dX14_readCourt_96 : decode cX14_readCourt 96 = .ok (.aload_n 0, 1) := by decide +kernel
theorem dX14_readCourt_97 : decode cX14_readCourt 97 = .ok (.getfield 192, 3) := by decide +kernel
theorem dX14_readCourt_100 : decode cX14_readCourt 100 = .ok (.dup, 1) := by decide +kernel
theorem dX14_readCourt_101 : decode cX14_readCourt 101 = .ok (.getfield 419, 3) := by decide +kernel
theorem dX14_readCourt_104 : decode cX14_readCourt 104 = .ok (.iconst 1, 1) := by decide +kernel
theorem dX14_readCourt_105 : decode cX14_readCourt 105 = .ok (.iadd, 1) := by decide +kernel
theorem dX14_readCourt_106 : decode cX14_readCourt 106 = .ok (.putfield 419, 3) := by decide +kernel
theorem dX14_readCourt_109 : decode cX14_readCourt 109 = .ok (.return_, 1) := by decide +kernel
set_option maxRecDepth 100000 in
set_option maxHeartbeats 4000000 in
theorem mX14_readCourt {E : goEv} {l : Launch} {G : goG} {N : Nat} {M : goMI} {L : goML} {R : goMR} {r0 : goMI} {r1 : goML} (hk : goKn E) (hW : goW G R) (h : fX14_readCourt N M L R = some (r0, r1)) : Met l yX14_readCourt (goCd yX14_readCourt cX14_readCourt 5 none) (goRoom 9 194 0 0) (goPre E [.ref 102] G M L R) (goQv E G r0 r1 R) 0 0 (goSet E) := by
  refine goMet pl_RX14 hk (lv := [some (.ref 102), none, none, none, none]) rfl (Nat.le_of_ble_eq_true rfl) ?_
  intro X hc hl hR hr hnm
  subst hl
  unfold fX14_readCourt at h
  refine go_aload0 hc dX14_readCourt_0 ?_
  refine go_aload0 hc dX14_readCourt_1 ?_
  replace h := goBind h; obtain ⟨b11, e12, h⟩ := h
  refine go_getR hc lk_RX14_192 dX14_readCourt_2 (sh_102 hW) e12 ?_
  refine go_getI hc lk_RX14_419 dX14_readCourt_5 (shM_0 (goW_M4 hW e12)) ?_
  refine go_bipush (v := 6) hc dX14_readCourt_8 rfl ?_
  replace h := goB2_h h; obtain ⟨M13, L14, e15, h⟩ := h
  refine go_callVv hc dX14_readCourt_10 (mX14_begins hk hW e15) ml_RX14_201 yk_X14_begins ⟨wim_X14_begins, wse_X14_begins⟩ hR rfl (sh_102 hW) rfl rfl rfl (Nat.le_of_ble_eq_true rfl) rfl ?_
  refine go_aload0 hc dX14_readCourt_13 ?_
  replace h := goB3_h h; obtain ⟨x16, M17, L18, e19, h⟩ := h
  refine go_callVl hc dX14_readCourt_14 (mX14_readFresh hk hW e19) ml_RX14_292 yk_X14_readFresh ⟨wim_X14_readFresh, wse_X14_readFresh⟩ hR rfl (sh_102 hW) rfl rfl rfl (Nat.le_of_ble_eq_true rfl) rfl ?_
  refine go_lstore1 hc dX14_readCourt_17 ?_
  refine go_aload0 hc dX14_readCourt_18 ?_
  refine go_ldcwS hc (i := 56) (q := 1000156) (Nat.le_of_ble_eq_true rfl) rfl rfl rfl dX14_readCourt_19 ?_
  refine go_iconst (v := 0) hc dX14_readCourt_22 rfl ?_
  refine go_bipush (v := 99) hc dX14_readCourt_23 rfl ?_
  replace h := goB3_h h; obtain ⟨x20, M21, L22, e23, h⟩ := h
  refine go_callVi hc dX14_readCourt_25 (mX14_readPart hk hW e23) ml_RX14_287 yk_X14_readPart ⟨wim_X14_readPart, wse_X14_readPart⟩ hR rfl (sh_102 hW) rfl rfl rfl (Nat.le_of_ble_eq_true rfl) rfl ?_
  refine go_istore3 hc dX14_readCourt_28 ?_
  refine go_aload0 hc dX14_readCourt_29 ?_
  refine go_ldcwS hc (i := 57) (q := 1000157) (Nat.le_of_ble_eq_true rfl) rfl rfl rfl dX14_readCourt_30 ?_
  refine go_iconst (v := 1) hc dX14_readCourt_33 rfl ?_
  refine go_bipush (v := 9) hc dX14_readCourt_34 rfl ?_
  replace h := goB3_h h; obtain ⟨x24, M25, L26, e27, h⟩ := h
  refine go_callVi hc dX14_readCourt_36 (mX14_readPart hk hW e27) ml_RX14_287 yk_X14_readPart ⟨wim_X14_readPart, wse_X14_readPart⟩ hR rfl (sh_102 hW) rfl rfl rfl (Nat.le_of_ble_eq_true rfl) rfl ?_
  refine go_istore4 hc dX14_readCourt_39 ?_
  refine go_aload0 hc dX14_readCourt_41 ?_
  refine go_getI hc lk_RX14_94 dX14_readCourt_42 (sh_102 hW) ?_
  refine go_iconst (v := 5) hc dX14_readCourt_45 rfl ?_
  refine go_icmp_ne hc 50 dX14_readCourt_46 rfl (fun c28 => ?_) (fun c28 => ?_)
  · replace h := goIfF h c28
    refine go_aload0 hc dX14_readCourt_50 ?_
    refine go_lload1 hc dX14_readCourt_51 ?_
    refine go_iconst (v := 4) hc dX14_readCourt_52 rfl ?_
    refine go_aload0 hc dX14_readCourt_53 ?_
    replace h := goBind h; obtain ⟨b29, e30, h⟩ := h
    refine go_getR hc lk_RX14_192 dX14_readCourt_54 (sh_102 hW) e30 ?_
    refine go_getI hc lk_RX14_419 dX14_readCourt_57 (shM_0 (goW_M4 hW e30)) ?_
    replace h := goB2_h h; obtain ⟨M31, L32, e33, h⟩ := h
    refine go_callVv hc dX14_readCourt_60 (mX14_names hk hW e33) ml_RX14_303 yk_X14_names ⟨wim_X14_names, wse_X14_names⟩ hR rfl (sh_102 hW) rfl rfl rfl (Nat.le_of_ble_eq_true rfl) rfl ?_
    refine go_aload0 hc dX14_readCourt_63 ?_
    replace h := goBind h; obtain ⟨b34, e35, h⟩ := h
    refine go_getR hc lk_RX14_192 dX14_readCourt_64 (sh_102 hW) e35 ?_
    refine go_getR hc lk_RX14_426 dX14_readCourt_67 (shM_0 (goW_M4 hW e35)) (rfM_35 (goW_M4 hW e35)) ?_
    refine go_aload0 hc dX14_readCourt_70 ?_
    replace h := goBind h; obtain ⟨b36, e37, h⟩ := h
    refine go_getR hc lk_RX14_192 dX14_readCourt_71 (sh_102 hW) e37 ?_
    refine go_getI hc lk_RX14_419 dX14_readCourt_74 (shM_0 (goW_M4 hW e37)) ?_
    refine go_iload3 hc dX14_readCourt_77 ?_
    replace h := goBind h; obtain ⟨M38, e39, h⟩ := h
    refine go_iast hc dX14_readCourt_78 (shM_20 (goW_M4 hW e35)) e39 ?_
    refine go_aload0 hc dX14_readCourt_79 ?_
    replace h := goBind h; obtain ⟨b40, e41, h⟩ := h
    refine go_getR hc lk_RX14_192 dX14_readCourt_80 (sh_102 hW) e41 ?_
    refine go_getR hc lk_RX14_428 dX14_readCourt_83 (shM_0 (goW_M4 hW e41)) (rfM_36 (goW_M4 hW e41)) ?_
    refine go_aload0 hc dX14_readCourt_86 ?_
    replace h := goBind h; obtain ⟨b42, e43, h⟩ := h
    refine go_getR hc lk_RX14_192 dX14_readCourt_87 (sh_102 hW) e43 ?_
    refine go_getI hc lk_RX14_419 dX14_readCourt_90 (shM_0 (goW_M4 hW e43)) ?_
    refine go_iload4 hc dX14_readCourt_93 ?_
    replace h := goBind h; obtain ⟨M44, e45, h⟩ := h
    refine go_iast hc dX14_readCourt_95 (shM_21 (goW_M4 hW e41)) e45 ?_
    refine go_aload0 hc dX14_readCourt_96 ?_
    replace h := goBind h; obtain ⟨b46, e47, h⟩ := h
    refine go_getR hc lk_RX14_192 dX14_readCourt_97 (sh_102 hW) e47 ?_
    refine go_dupr hc dX14_readCourt_100 ?_
    refine go_getI hc lk_RX14_419 dX14_readCourt_101 (shM_0 (goW_M4 hW e47)) ?_
    refine go_iconst (v := 1) hc dX14_readCourt_104 rfl ?_
    refine go_iadd hc dX14_readCourt_105 ?_
    replace h := goNm_x h; obtain ⟨M48, e49, h⟩ := h
    refine go_ptI hc lk_RX14_419 dX14_readCourt_106 (shM_0 (goW_M4 hW e47)) e49 ?_
    cases h
    exact go_vret hc dX14_readCourt_109 hr
  · replace h := goIfT h c28
    cases h
    exact go_vret hc dX14_readCourt_49 hr
theorem dX14_readCheese_0 : decode cX14_readCheese 0 = .ok (.aload_n 0, 1) := by decide +kernel
theorem dX14_readCheese_1 : decode cX14_readCheese 1 = .ok (.aload_n 0, 1) := by decide +kernel
theorem dX14_readCheese_2 : decode cX14_readCheese 2 = .ok (.getfield 192, 3) := by decide +kernel
theorem dX14_readCheese_5 : decode cX14_readCheese 5 = .ok (.getfield 430, 3) := by decide +kernel
theorem dX14_readCheese_8 : decode cX14_readCheese 8 = .ok (.invokevirtual 409, 3) := by decide +kernel
theorem dX14_readCheese_11 : decode cX14_readCheese 11 = .ok (.aload_n 0, 1) := by decide +kernel
theorem dX14_readCheese_12 : decode cX14_readCheese 12 = .ok (.aload_n 0, 1) := by decide +kernel
theorem dX14_readCheese_13 : decode cX14_readCheese 13 = .ok (.getfield 192, 3) := by decide +kernel
theorem dX14_readCheese_16 : decode cX14_readCheese 16 = .ok (.getfield 433, 3) := by decide +kernel
theorem dX14_readCheese_19 : decode cX14_readCheese 19 = .ok (.iconst 0, 1) := by decide +kernel
theorem dX14_readCheese_20 : decode cX14_readCheese 20 = .ok (.bipush 99, 2) := by decide +kernel
theorem dX14_readCheese_22 : decode cX14_readCheese 22 = .ok (.invokevirtual 299, 3) := by decide +kernel
theorem dX14_readCheese_25 : decode cX14_readCheese 25 = .ok (.aload_n 0, 1) := by decide +kernel
theorem dX14_readCheese_26 : decode cX14_readCheese 26 = .ok (.getfield 94, 3) := by decide +kernel
theorem dX14_readCheese_29 : decode cX14_readCheese 29 = .ok (.iconst 5, 1) := by decide +kernel
theorem dX14_readCheese_30 : decode cX14_readCheese 30 = .ok (.if_icmp .eq 11, 3) := by decide +kernel
theorem dX14_readCheese_33 : decode cX14_readCheese 33 = .ok (.aload_n 0, 1) := by decide +kernel
theorem dX14_readCheese_34 : decode cX14_readCheese 34 = .ok (.getfield 192, 3) := by decide +kernel
theorem dX14_readCheese_37 : decode cX14_readCheese 37 = .ok (.iconst 1, 1) := by decide +kernel
theorem dX14_readCheese_38 : decode cX14_readCheese 38 = .ok (.putfield 430, 3) := by decide +kernel
theorem dX14_readCheese_41 : decode cX14_readCheese 41 = .ok (.return_, 1) := by decide +kernel
set_option maxRecDepth 100000 in
set_option maxHeartbeats 4000000 in
theorem mX14_readCheese {E : goEv} {l : Launch} {G : goG} {N : Nat} {M : goMI} {L : goML} {R : goMR} {r0 : goMI} {r1 : goML} (hk : goKn E) (hW : goW G R) (h : fX14_readCheese N M L R = some (r0, r1)) : Met l yX14_readCheese (goCd yX14_readCheese cX14_readCheese 1 none) (goRoom 4 90 0 0) (goPre E [.ref 102] G M L R) (goQv E G r0 r1 R) 0 0 (goSet E) := by
  refine goMet pl_RX14 hk (lv := [some (.ref 102)]) rfl (Nat.le_of_ble_eq_true rfl) ?_
  intro X hc hl hR hr hnm
  subst hl
  unfold fX14_readCheese at h
  refine go_aload0 hc dX14_readCheese_0 ?_
  refine go_aload0 hc dX14_readCheese_1 ?_
  replace h := goBind h; obtain ⟨b11, e12, h⟩ := h
  refine go_getR hc lk_RX14_192 dX14_readCheese_2 (sh_102 hW) e12 ?_
  refine go_getI hc lk_RX14_430 dX14_readCheese_5 (shM_0 (goW_M4 hW e12)) ?_
  replace h := goB2_h h; obtain ⟨M13, L14, e15, h⟩ := h
  refine go_callVv hc dX14_readCheese_8 (mX14_beginsOnce hk hW e15) ml_RX14_409 yk_X14_beginsOnce ⟨wim_X14_beginsOnce, wse_X14_beginsOnce⟩ hR rfl (sh_102 hW) rfl rfl rfl (Nat.le_of_ble_eq_true rfl) rfl ?_
  refine go_aload0 hc dX14_readCheese_11 ?_
  refine go_aload0 hc dX14_readCheese_12 ?_
  replace h := goBind h; obtain ⟨b16, e17, h⟩ := h
  refine go_getR hc lk_RX14_192 dX14_readCheese_13 (sh_102 hW) e17 ?_
  refine go_getR hc lk_RX14_433 dX14_readCheese_16 (shM_0 (goW_M4 hW e17)) (rfM_37 (goW_M4 hW e17)) ?_
  refine go_iconst (v := 0) hc dX14_readCheese_19 rfl ?_
  refine go_bipush (v := 99) hc dX14_readCheese_20 rfl ?_
  replace h := goB2_h h; obtain ⟨M18, L19, e20, h⟩ := h
  refine go_callVv hc dX14_readCheese_22 (mX14_readPlants hk hW (shM_22 (goW_M4 hW e17)) e20) ml_RX14_299 yk_X14_readPlants ⟨wim_X14_readPlants, wse_X14_readPlants⟩ hR rfl (sh_102 hW) rfl rfl rfl (Nat.le_of_ble_eq_true rfl) rfl ?_
  refine go_aload0 hc dX14_readCheese_25 ?_
  refine go_getI hc lk_RX14_94 dX14_readCheese_26 (sh_102 hW) ?_
  refine go_iconst (v := 5) hc dX14_readCheese_29 rfl ?_
  refine go_icmp_eq hc 41 dX14_readCheese_30 rfl (fun c21 => ?_) (fun c21 => ?_)
  · replace h := goIfT h c21
    cases h
    exact go_vret hc dX14_readCheese_41 hr
  · replace h := goIfF h c21
    refine go_aload0 hc dX14_readCheese_33 ?_
    replace h := goBind h; obtain ⟨b22, e23, h⟩ := h
    refine go_getR hc lk_RX14_192 dX14_readCheese_34 (sh_102 hW) e23 ?_
    refine go_iconst (v := 1) hc dX14_readCheese_37 rfl ?_
    replace h := goNm_x h; obtain ⟨M24, e25, h⟩ := h
    refine go_ptZ hc lk_RX14_430 dX14_readCheese_38 (shM_0 (goW_M4 hW e23)) (Or.inr rfl) e25 ?_
    cases h
    exact go_vret hc dX14_readCheese_41 hr
theorem dX14_readLine_0 : decode cX14_readLine 0 = .ok (.aload_n 0, 1) := by decide +kernel
theorem dX14_readLine_1 : decode cX14_readLine 1 = .ok (.ldc 159, 2) := by decide +kernel
theorem dX14_readLine_3 : decode cX14_readLine 3 = .ok (.invokevirtual 139, 3) := by decide +kernel
theorem dX14_readLine_6 : decode cX14_readLine 6 = .ok (.ifCond .eq 10, 3) := by decide +kernel
theorem dX14_readLine_9 : decode cX14_readLine 9 = .ok (.aload_n 0, 1) := by decide +kernel
theorem dX14_readLine_10 : decode cX14_readLine 10 = .ok (.invokevirtual 244, 3) := by decide +kernel
theorem dX14_readLine_13 : decode cX14_readLine 13 = .ok (.goto 251, 3) := by decide +kernel
theorem dX14_readLine_16 : decode cX14_readLine 16 = .ok (.aload_n 0, 1) := by decide +kernel
theorem dX14_readLine_17 : decode cX14_readLine 17 = .ok (.ldc 161, 2) := by decide +kernel
theorem dX14_readLine_19 : decode cX14_readLine 19 = .ok (.invokevirtual 139, 3) := by decide +kernel
theorem dX14_readLine_22 : decode cX14_readLine 22 = .ok (.ifCond .eq 10, 3) := by decide +kernel
theorem dX14_readLine_25 : decode cX14_readLine 25 = .ok (.aload_n 0, 1) := by decide +kernel
theorem dX14_readLine_26 : decode cX14_readLine 26 = .ok (.invokevirtual 247, 3) := by decide +kernel
theorem dX14_readLine_29 : decode cX14_readLine 29 = .ok (.goto 235, 3) := by decide +kernel
theorem dX14_readLine_32 : decode cX14_readLine 32 = .ok (.aload_n 0, 1) := by decide +kernel
theorem dX14_readLine_33 : decode cX14_readLine 33 = .ok (.ldc 162, 2) := by decide +kernel
theorem dX14_readLine_35 : decode cX14_readLine 35 = .ok (.invokevirtual 139, 3) := by decide +kernel
theorem dX14_readLine_38 : decode cX14_readLine 38 = .ok (.ifCond .eq 10, 3) := by decide +kernel
theorem dX14_readLine_41 : decode cX14_readLine 41 = .ok (.aload_n 0, 1) := by decide +kernel
theorem dX14_readLine_42 : decode cX14_readLine 42 = .ok (.invokevirtual 250, 3) := by decide +kernel
theorem dX14_readLine_45 : decode cX14_readLine 45 = .ok (.goto 219, 3) := by decide +kernel
theorem dX14_readLine_48 : decode cX14_readLine 48 = .ok (.aload_n 0, 1) := by decide +kernel
theorem dX14_readLine_49 : decode cX14_readLine 49 = .ok (.ldc 164, 2) := by decide +kernel
theorem dX14_readLine_51 : decode cX14_readLine 51 = .ok (.invokevirtual 139, 3) := by decide +kernel
theorem dX14_readLine_54 : decode cX14_readLine 54 = .ok (.ifCond .eq 10, 3) := by decide +kernel
theorem dX14_readLine_57 : decode cX14_readLine 57 = .ok (.aload_n 0, 1) := by decide +kernel
theorem dX14_readLine_58 : decode cX14_readLine 58 = .ok (.invokevirtual 253, 3) := by decide +kernel
theorem dX14_readLine_61 : decode cX14_readLine 61 = .ok (.goto 203, 3) := by decide +kernel
theorem dX14_readLine_64 : decode cX14_readLine 64 = .ok (.aload_n 0, 1) := by decide +kernel
theorem dX14_readLine_65 : decode cX14_readLine 65 = .ok (.ldc 166, 2) := by decide +kernel
theorem dX14_readLine_67 : decode cX14_readLine 67 = .ok (.invokevirtual 139, 3) := by decide +kernel
theorem dX14_readLine_70 : decode cX14_readLine 70 = .ok (.ifCond .eq 10, 3) := by decide +kernel
theorem dX14_readLine_73 : decode cX14_readLine 73 = .ok (.aload_n 0, 1) := by decide +kernel
theorem dX14_readLine_74 : decode cX14_readLine 74 = .ok (.invokevirtual 256, 3) := by decide +kernel
theorem dX14_readLine_77 : decode cX14_readLine 77 = .ok (.goto 187, 3) := by decide +kernel
theorem dX14_readLine_80 : decode cX14_readLine 80 = .ok (.aload_n 0, 1) := by decide +kernel
theorem dX14_readLine_81 : decode cX14_readLine 81 = .ok (.ldc 168, 2) := by decide +kernel
theorem dX14_readLine_83 : decode cX14_readLine 83 = .ok (.invokevirtual 139, 3) := by decide +kernel
theorem dX14_readLine_86 : decode cX14_readLine 86 = .ok (.ifCond .eq 10, 3) := by decide +kernel
theorem dX14_readLine_89 : decode cX14_readLine 89 = .ok (.aload_n 0, 1) := by decide +kernel
theorem dX14_readLine_90 : decode cX14_readLine 90 = .ok (.invokevirtual 259, 3) := by decide +kernel
theorem dX14_readLine_93 : decode cX14_readLine 93 = .ok (.goto 171, 3) := by decide +kernel
theorem dX14_readLine_96 : decode cX14_readLine 96 = .ok (.aload_n 0, 1) := by decide +kernel
theorem dX14_readLine_97 : decode cX14_readLine 97 = .ok (.ldc 170, 2) := by decide +kernel
theorem dX14_readLine_99 : decode cX14_readLine 99 = .ok (.invokevirtual 139, 3) := by decide +kernel
theorem dX14_readLine_102 : decode cX14_readLine 102 = .ok (.ifCond .eq 10, 3) := by decide +kernel
theorem dX14_readLine_105 : decode cX14_readLine 105 = .ok (.aload_n 0, 1) := by decide +kernel
theorem dX14_readLine_106 : decode cX14_readLine 106 = .ok (.invokevirtual 262, 3) := by decide +kernel
theorem dX14_readLine_109 : decode cX14_readLine 109 = .ok (.goto 155, 3) := by decide +kernel
theorem dX14_readLine_112 : decode cX14_readLine 112 = .ok (.aload_n 0, 1) := by decide +kernel
theorem dX14_readLine_113 : decode cX14_readLine 113 = .ok (.ldc 172, 2) := by decide +kernel
theorem dX14_readLine_115 : decode cX14_readLine 115 = .ok (.invokevirtual 139, 3) := by decide +kernel
theorem dX14_readLine_118 : decode cX14_readLine 118 = .ok (.ifCond .eq 11, 3) := by decide +kernel
theorem dX14_readLine_121 : decode cX14_readLine 121 = .ok (.aload_n 0, 1) := by decide +kernel
theorem dX14_readLine_122 : decode cX14_readLine 122 = .ok (.iconst 0, 1) := by decide +kernel
theorem dX14_readLine_123 : decode cX14_readLine 123 = .ok (.invokevirtual 265, 3) := by decide +kernel
theorem dX14_readLine_126 : decode cX14_readLine 126 = .ok (.goto 138, 3) := by decide +kernel
theorem dX14_readLine_129 : decode cX14_readLine 129 = .ok (.aload_n 0, 1) := by decide +kernel
theorem dX14_readLine_130 : decode cX14_readLine 130 = .ok (.ldc 174, 2) := by decide +kernel
theorem dX14_readLine_132 : decode cX14_readLine 132 = .ok (.invokevirtual 139, 3) := by decide +kernel
theorem dX14_readLine_135 : decode cX14_readLine 135 = .ok (.ifCond .eq 11, 3) := by decide +kernel
theorem dX14_readLine_138 : decode cX14_readLine 138 = .ok (.aload_n 0, 1) := by decide +kernel
theorem dX14_readLine_139 : decode cX14_readLine 139 = .ok (.iconst 1, 1) := by decide +kernel
theorem dX14_readLine_140 : decode cX14_readLine 140 = .ok (.invokevirtual 265, 3) := by decide +kernel
theorem dX14_readLine_143 : decode cX14_readLine 143 = .ok (.goto 121, 3) := by decide +kernel
theorem dX14_readLine_146 : decode cX14_readLine 146 = .ok (.aload_n 0, 1) := by decide +kernel
theorem dX14_readLine_147 : decode cX14_readLine 147 = .ok (.ldc 176, 2) := by decide +kernel
theorem dX14_readLine_149 : decode cX14_readLine 149 = .ok (.invokevirtual 139, 3) := by decide +kernel
theorem dX14_readLine_152 : decode cX14_readLine 152 = .ok (.ifCond .eq 11, 3) := by decide +kernel
theorem dX14_readLine_155 : decode cX14_readLine 155 = .ok (.aload_n 0, 1) := by decide +kernel
theorem dX14_readLine_156 : decode cX14_readLine 156 = .ok (.iconst 2, 1) := by decide +kernel
theorem dX14_readLine_157 : decode cX14_readLine 157 = .ok (.invokevirtual 265, 3) := by decide +kernel
theorem dX14_readLine_160 : decode cX14_readLine 160 = .ok (.goto 104, 3) := by decide +kernel
theorem dX14_readLine_163 : decode cX14_readLine 163 = .ok (.aload_n 0, 1) := by decide +kernel
theorem dX14_readLine_164 : decode cX14_readLine 164 = .ok (.ldc 178, 2) := by decide +kernel
theorem dX14_readLine_166 : decode cX14_readLine 166 = .ok (.invokevirtual 139, 3) := by decide +kernel
theorem dX14_readLine_169 : decode cX14_readLine 169 = .ok (.ifCond .eq 10, 3) := by decide +kernel
theorem dX14_readLine_172 : decode cX14_readLine 172 = .ok (.aload_n 0, 1) := by decide +kernel
theorem dX14_readLine_173 : decode cX14_readLine 173 = .ok (.invokevirtual 268, 3) := by decide +kernel
theorem dX14_readLine_176 : decode cX14_readLine 176 = .ok (.goto 88, 3) := by decide +kernel
theorem dX14_readLine_179 : decode cX14_readLine 179 = .ok (.aload_n 0, 1) := by decide +kernel
theorem dX14_readLine_180 : decode cX14_readLine 180 = .ok (.ldc 180, 2) := by decide +kernel
theorem dX14_readLine_182 : decode cX14_readLine 182 = .ok (.invokevirtual 139, 3) := by decide +kernel
theorem dX14_readLine_185 : decode cX14_readLine 185 = .ok (.ifCond .eq 10, 3) := by decide +kernel
theorem dX14_readLine_188 : decode cX14_readLine 188 = .ok (.aload_n 0, 1) := by decide +kernel
theorem dX14_readLine_189 : decode cX14_readLine 189 = .ok (.invokevirtual 271, 3) := by decide +kernel
theorem dX14_readLine_192 : decode cX14_readLine 192 = .ok (.goto 72, 3) := by decide +kernel
theorem dX14_readLine_195 : decode cX14_readLine 195 = .ok (.aload_n 0, 1) := by decide +kernel
theorem dX14_readLine_196 : decode cX14_readLine 196 = .ok (.ldc 182, 2) := by decide +kernel
theorem dX14_readLine_198 : decode cX14_readLine 198 = .ok (.invokevirtual 139, 3) := by decide +kernel
theorem dX14_readLine_201 : decode cX14_readLine 201 = .ok (.ifCond .eq 10, 3) := by decide +kernel
theorem dX14_readLine_204 : decode cX14_readLine 204 = .ok (.aload_n 0, 1) := by decide +kernel
theorem dX14_readLine_205 : decode cX14_readLine 205 = .ok (.invokevirtual 274, 3) := by decide +kernel
theorem dX14_readLine_208 : decode cX14_readLine 208 = .ok (.goto 56, 3) := by decide +kernel
theorem dX14_readLine_211 : decode cX14_readLine 211 = .ok (.aload_n 0, 1) := by decide +kernel
theorem dX14_readLine_212 : decode cX14_readLine 212 = .ok (.ldc 184, 2) := by decide +kernel
theorem dX14_readLine_214 : decode cX14_readLine 214 = .ok (.invokevirtual 139, 3) := by decide +kernel
theorem dX14_readLine_217 : decode cX14_readLine 217 = .ok (.ifCond .eq 10, 3) := by decide +kernel
theorem dX14_readLine_220 : decode cX14_readLine 220 = .ok (.aload_n 0, 1) := by decide +kernel
theorem dX14_readLine_221 : decode cX14_readLine 221 = .ok (.invokevirtual 277, 3) := by decide +kernel
theorem dX14_readLine_224 : decode cX14_readLine 224 = .ok (.goto 40, 3) := by decide +kernel
theorem dX14_readLine_227 : decode cX14_readLine 227 = .ok (.aload_n 0, 1) := by decide +kernel
theorem dX14_readLine_228 : decode cX14_readLine 228 = .ok (.ldc 186, 2) := by decide +kernel
theorem dX14_readLine_230 : decode cX14_readLine 230 = .ok (.invokevirtual 139, 3) := by decide +kernel
theorem dX14_readLine_233 : decode cX14_readLine 233 = .ok (.ifCond .eq 10, 3) := by decide +kernel
theorem dX14_readLine_236 : decode cX14_readLine 236 = .ok (.aload_n 0, 1) := by decide +kernel
theorem dX14_readLine_237 : decode cX14_readLine 237 = .ok (.invokevirtual 280, 3) := by decide +kernel
theorem dX14_readLine_240 : decode cX14_readLine 240 = .ok (.goto 24, 3) := by decide +kernel
theorem dX14_readLine_243 : decode cX14_readLine 243 = .ok (.aload_n 0, 1) := by decide +kernel
theorem dX14_readLine_244 : decode cX14_readLine 244 = .ok (.ldc 188, 2) := by decide +kernel
theorem dX14_readLine_246 : decode cX14_readLine 246 = .ok (.invokevirtual 139, 3) := by decide +kernel
theorem dX14_readLine_249 : decode cX14_readLine 249 = .ok (.ifCond .eq 10, 3) := by decide +kernel
theorem dX14_readLine_252 : decode cX14_readLine 252 = .ok (.aload_n 0, 1) := by decide +kernel
theorem dX14_readLine_253 : decode cX14_readLine 253 = .ok (.invokevirtual 283, 3) := by decide +kernel
theorem dX14_readLine_256 : decode cX14_readLine 256 = .ok (.goto 8, 3) := by decide +kernel
theorem dX14_readLine_259 : decode cX14_readLine 259 = .ok (.aload_n 0, 1) := by decide +kernel
theorem dX14_readLine_260 : decode cX14_readLine 260 = .ok (.iconst 1, 1) := by decide +kernel
theorem dX14_readLine_261 : decode cX14_readLine 261 = .ok (.invokevirtual 143, 3) := by decide +kernel
theorem dX14_readLine_264 : decode cX14_readLine 264 = .ok (.return_, 1) := by decide +kernel
set_option maxRecDepth 100000 in
set_option maxHeartbeats 4000000 in
theorem mX14_readLine {E : goEv} {l : Launch} {G : goG} {N : Nat} {M : goMI} {L : goML} {R : goMR} {r0 : goMI} {r1 : goML} (hk : goKn E) (hW : goW G R) (h : fX14_readLine N M L R = some (r0, r1)) : Met l yX14_readLine (goCd yX14_readLine cX14_readLine 1 none) (goRoom 11 243 0 0) (goPre E [.ref 102] G M L R) (goQv E G r0 r1 R) 0 0 (goSet E) := by
  refine goMet pl_RX14 hk (lv := [some (.ref 102)]) rfl (Nat.le_of_ble_eq_true rfl) ?_
  intro X hc hl hR hr hnm
  subst hl
  unfold fX14_readLine at h
  refine go_aload0 hc dX14_readLine_0 ?_
  refine go_ldcS hc (i := 30) (q := 1000130) (Nat.le_of_ble_eq_true rfl) rfl rfl rfl dX14_readLine_1 ?_
  replace h := goBind h; obtain ⟨x11, e12, h⟩ := h
  refine go_callVi hc dX14_readLine_3 (mX14_isWord hk hW e12) ml_RX14_139 yk_X14_isWord ⟨wim_X14_isWord, wse_X14_isWord⟩ hR rfl (sh_102 hW) rfl rfl rfl (Nat.le_of_ble_eq_true rfl) rfl ?_
  refine go_if_eq hc 16 dX14_readLine_6 rfl (fun c13 => ?_) (fun c13 => ?_)
  · replace h := goIfT h c13
    refine go_aload0 hc dX14_readLine_16 ?_
    refine go_ldcS hc (i := 31) (q := 1000131) (Nat.le_of_ble_eq_true rfl) rfl rfl rfl dX14_readLine_17 ?_
    replace h := goBind h; obtain ⟨x14, e15, h⟩ := h
    refine go_callVi hc dX14_readLine_19 (mX14_isWord hk hW e15) ml_RX14_139 yk_X14_isWord ⟨wim_X14_isWord, wse_X14_isWord⟩ hR rfl (sh_102 hW) rfl rfl rfl (Nat.le_of_ble_eq_true rfl) rfl ?_
    refine go_if_eq hc 32 dX14_readLine_22 rfl (fun c16 => ?_) (fun c16 => ?_)
    · replace h := goIfT h c16
      refine go_aload0 hc dX14_readLine_32 ?_
      refine go_ldcS hc (i := 32) (q := 1000132) (Nat.le_of_ble_eq_true rfl) rfl rfl rfl dX14_readLine_33 ?_
      replace h := goBind h; obtain ⟨x17, e18, h⟩ := h
      refine go_callVi hc dX14_readLine_35 (mX14_isWord hk hW e18) ml_RX14_139 yk_X14_isWord ⟨wim_X14_isWord, wse_X14_isWord⟩ hR rfl (sh_102 hW) rfl rfl rfl (Nat.le_of_ble_eq_true rfl) rfl ?_
      refine go_if_eq hc 48 dX14_readLine_38 rfl (fun c19 => ?_) (fun c19 => ?_)
      · replace h := goIfT h c19
        refine go_aload0 hc dX14_readLine_48 ?_
        refine go_ldcS hc (i := 33) (q := 1000133) (Nat.le_of_ble_eq_true rfl) rfl rfl rfl dX14_readLine_49 ?_
        replace h := goBind h; obtain ⟨x20, e21, h⟩ := h
        refine go_callVi hc dX14_readLine_51 (mX14_isWord hk hW e21) ml_RX14_139 yk_X14_isWord ⟨wim_X14_isWord, wse_X14_isWord⟩ hR rfl (sh_102 hW) rfl rfl rfl (Nat.le_of_ble_eq_true rfl) rfl ?_
        refine go_if_eq hc 64 dX14_readLine_54 rfl (fun c22 => ?_) (fun c22 => ?_)
        · replace h := goIfT h c22
          refine go_aload0 hc dX14_readLine_64 ?_
          refine go_ldcS hc (i := 34) (q := 1000134) (Nat.le_of_ble_eq_true rfl) rfl rfl rfl dX14_readLine_65 ?_
          replace h := goBind h; obtain ⟨x23, e24, h⟩ := h
          refine go_callVi hc dX14_readLine_67 (mX14_isWord hk hW e24) ml_RX14_139 yk_X14_isWord ⟨wim_X14_isWord, wse_X14_isWord⟩ hR rfl (sh_102 hW) rfl rfl rfl (Nat.le_of_ble_eq_true rfl) rfl ?_
          refine go_if_eq hc 80 dX14_readLine_70 rfl (fun c25 => ?_) (fun c25 => ?_)
          · replace h := goIfT h c25
            refine go_aload0 hc dX14_readLine_80 ?_
            refine go_ldcS hc (i := 35) (q := 1000135) (Nat.le_of_ble_eq_true rfl) rfl rfl rfl dX14_readLine_81 ?_
            replace h := goBind h; obtain ⟨x26, e27, h⟩ := h
            refine go_callVi hc dX14_readLine_83 (mX14_isWord hk hW e27) ml_RX14_139 yk_X14_isWord ⟨wim_X14_isWord, wse_X14_isWord⟩ hR rfl (sh_102 hW) rfl rfl rfl (Nat.le_of_ble_eq_true rfl) rfl ?_
            refine go_if_eq hc 96 dX14_readLine_86 rfl (fun c28 => ?_) (fun c28 => ?_)
            · replace h := goIfT h c28
              refine go_aload0 hc dX14_readLine_96 ?_
              refine go_ldcS hc (i := 36) (q := 1000136) (Nat.le_of_ble_eq_true rfl) rfl rfl rfl dX14_readLine_97 ?_
              replace h := goBind h; obtain ⟨x29, e30, h⟩ := h
              refine go_callVi hc dX14_readLine_99 (mX14_isWord hk hW e30) ml_RX14_139 yk_X14_isWord ⟨wim_X14_isWord, wse_X14_isWord⟩ hR rfl (sh_102 hW) rfl rfl rfl (Nat.le_of_ble_eq_true rfl) rfl ?_
              refine go_if_eq hc 112 dX14_readLine_102 rfl (fun c31 => ?_) (fun c31 => ?_)
              · replace h := goIfT h c31
                refine go_aload0 hc dX14_readLine_112 ?_
                refine go_ldcS hc (i := 37) (q := 1000137) (Nat.le_of_ble_eq_true rfl) rfl rfl rfl dX14_readLine_113 ?_
                replace h := goBind h; obtain ⟨x32, e33, h⟩ := h
                refine go_callVi hc dX14_readLine_115 (mX14_isWord hk hW e33) ml_RX14_139 yk_X14_isWord ⟨wim_X14_isWord, wse_X14_isWord⟩ hR rfl (sh_102 hW) rfl rfl rfl (Nat.le_of_ble_eq_true rfl) rfl ?_
                refine go_if_eq hc 129 dX14_readLine_118 rfl (fun c34 => ?_) (fun c34 => ?_)
                · replace h := goIfT h c34
                  refine go_aload0 hc dX14_readLine_129 ?_
                  refine go_ldcS hc (i := 38) (q := 1000138) (Nat.le_of_ble_eq_true rfl) rfl rfl rfl dX14_readLine_130 ?_
                  replace h := goBind h; obtain ⟨x35, e36, h⟩ := h
                  refine go_callVi hc dX14_readLine_132 (mX14_isWord hk hW e36) ml_RX14_139 yk_X14_isWord ⟨wim_X14_isWord, wse_X14_isWord⟩ hR rfl (sh_102 hW) rfl rfl rfl (Nat.le_of_ble_eq_true rfl) rfl ?_
                  refine go_if_eq hc 146 dX14_readLine_135 rfl (fun c37 => ?_) (fun c37 => ?_)
                  · replace h := goIfT h c37
                    refine go_aload0 hc dX14_readLine_146 ?_
                    refine go_ldcS hc (i := 39) (q := 1000139) (Nat.le_of_ble_eq_true rfl) rfl rfl rfl dX14_readLine_147 ?_
                    replace h := goBind h; obtain ⟨x38, e39, h⟩ := h
                    refine go_callVi hc dX14_readLine_149 (mX14_isWord hk hW e39) ml_RX14_139 yk_X14_isWord ⟨wim_X14_isWord, wse_X14_isWord⟩ hR rfl (sh_102 hW) rfl rfl rfl (Nat.le_of_ble_eq_true rfl) rfl ?_
                    refine go_if_eq hc 163 dX14_readLine_152 rfl (fun c40 => ?_) (fun c40 => ?_)
                    · replace h := goIfT h c40
                      refine go_aload0 hc dX14_readLine_163 ?_
                      refine go_ldcS hc (i := 40) (q := 1000140) (Nat.le_of_ble_eq_true rfl) rfl rfl rfl dX14_readLine_164 ?_
                      replace h := goBind h; obtain ⟨x41, e42, h⟩ := h
                      refine go_callVi hc dX14_readLine_166 (mX14_isWord hk hW e42) ml_RX14_139 yk_X14_isWord ⟨wim_X14_isWord, wse_X14_isWord⟩ hR rfl (sh_102 hW) rfl rfl rfl (Nat.le_of_ble_eq_true rfl) rfl ?_
                      refine go_if_eq hc 179 dX14_readLine_169 rfl (fun c43 => ?_) (fun c43 => ?_)
                      · replace h := goIfT h c43
                        refine go_aload0 hc dX14_readLine_179 ?_
                        refine go_ldcS hc (i := 41) (q := 1000141) (Nat.le_of_ble_eq_true rfl) rfl rfl rfl dX14_readLine_180 ?_
                        replace h := goBind h; obtain ⟨x44, e45, h⟩ := h
                        refine go_callVi hc dX14_readLine_182 (mX14_isWord hk hW e45) ml_RX14_139 yk_X14_isWord ⟨wim_X14_isWord, wse_X14_isWord⟩ hR rfl (sh_102 hW) rfl rfl rfl (Nat.le_of_ble_eq_true rfl) rfl ?_
                        refine go_if_eq hc 195 dX14_readLine_185 rfl (fun c46 => ?_) (fun c46 => ?_)
                        · replace h := goIfT h c46
                          refine go_aload0 hc dX14_readLine_195 ?_
                          refine go_ldcS hc (i := 42) (q := 1000142) (Nat.le_of_ble_eq_true rfl) rfl rfl rfl dX14_readLine_196 ?_
                          replace h := goBind h; obtain ⟨x47, e48, h⟩ := h
                          refine go_callVi hc dX14_readLine_198 (mX14_isWord hk hW e48) ml_RX14_139 yk_X14_isWord ⟨wim_X14_isWord, wse_X14_isWord⟩ hR rfl (sh_102 hW) rfl rfl rfl (Nat.le_of_ble_eq_true rfl) rfl ?_
                          refine go_if_eq hc 211 dX14_readLine_201 rfl (fun c49 => ?_) (fun c49 => ?_)
                          · replace h := goIfT h c49
                            refine go_aload0 hc dX14_readLine_211 ?_
                            refine go_ldcS hc (i := 43) (q := 1000143) (Nat.le_of_ble_eq_true rfl) rfl rfl rfl dX14_readLine_212 ?_
                            replace h := goBind h; obtain ⟨x50, e51, h⟩ := h
                            refine go_callVi hc dX14_readLine_214 (mX14_isWord hk hW e51) ml_RX14_139 yk_X14_isWord ⟨wim_X14_isWord, wse_X14_isWord⟩ hR rfl (sh_102 hW) rfl rfl rfl (Nat.le_of_ble_eq_true rfl) rfl ?_
                            refine go_if_eq hc 227 dX14_readLine_217 rfl (fun c52 => ?_) (fun c52 => ?_)
                            · replace h := goIfT h c52
                              refine go_aload0 hc dX14_readLine_227 ?_
                              refine go_ldcS hc (i := 44) (q := 1000144) (Nat.le_of_ble_eq_true rfl) rfl rfl rfl dX14_readLine_228 ?_
                              replace h := goBind h; obtain ⟨x53, e54, h⟩ := h
                              refine go_callVi hc dX14_readLine_230 (mX14_isWord hk hW e54) ml_RX14_139 yk_X14_isWord ⟨wim_X14_isWord, wse_X14_isWord⟩ hR rfl (sh_102 hW) rfl rfl rfl (Nat.le_of_ble_eq_true rfl) rfl ?_
                              refine go_if_eq hc 243 dX14_readLine_233 rfl (fun c55 => ?_) (fun c55 => ?_)
                              · replace h := goIfT h c55
                                refine go_aload0 hc dX14_readLine_243 ?_
                                refine go_ldcS hc (i := 45) (q := 1000145) (Nat.le_of_ble_eq_true rfl) rfl rfl rfl dX14_readLine_244 ?_
                                replace h := goBind h; obtain ⟨x56, e57, h⟩ := h
                                refine go_callVi hc dX14_readLine_246 (mX14_isWord hk hW e57) ml_RX14_139 yk_X14_isWord ⟨wim_X14_isWord, wse_X14_isWord⟩ hR rfl (sh_102 hW) rfl rfl rfl (Nat.le_of_ble_eq_true rfl) rfl ?_
                                refine go_if_eq hc 259 dX14_readLine_249 rfl (fun c58 => ?_) (fun c58 => ?_)
                                · replace h := goIfT h c58
                                  refine go_aload0 hc dX14_readLine_259 ?_
                                  refine go_iconst (v := 1) hc dX14_readLine_260 rfl ?_
                                  replace h := goBind h; obtain ⟨M59, e60, h⟩ := h
                                  refine go_callVv hc dX14_readLine_261 (mX14_flaw hk hW e60) ml_RX14_143 yk_X14_flaw ⟨wim_X14_flaw, wse_X14_flaw⟩ hR rfl (sh_102 hW) rfl rfl rfl (Nat.le_of_ble_eq_true rfl) rfl ?_
                                  cases h
                                  exact go_vret hc dX14_readLine_264 hr
                                · replace h := goIfF h c58
                                  refine go_aload0 hc dX14_readLine_252 ?_
                                  replace h := goB2_h h; obtain ⟨M61, L62, e63, h⟩ := h
                                  refine go_callVv hc dX14_readLine_253 (mX14_readCheese hk hW e63) ml_RX14_283 yk_X14_readCheese ⟨wim_X14_readCheese, wse_X14_readCheese⟩ hR rfl (sh_102 hW) rfl rfl rfl (Nat.le_of_ble_eq_true rfl) rfl ?_
                                  refine go_goto hc 264 dX14_readLine_256 rfl ?_
                                  cases h
                                  exact go_vret hc dX14_readLine_264 hr
                              · replace h := goIfF h c55
                                refine go_aload0 hc dX14_readLine_236 ?_
                                replace h := goB2_h h; obtain ⟨M64, L65, e66, h⟩ := h
                                refine go_callVv hc dX14_readLine_237 (mX14_readCourt hk hW e66) ml_RX14_280 yk_X14_readCourt ⟨wim_X14_readCourt, wse_X14_readCourt⟩ hR rfl (sh_102 hW) rfl rfl rfl (Nat.le_of_ble_eq_true rfl) rfl ?_
                                refine go_goto hc 264 dX14_readLine_240 rfl ?_
                                cases h
                                exact go_vret hc dX14_readLine_264 hr
                            · replace h := goIfF h c52
                              refine go_aload0 hc dX14_readLine_220 ?_
                              replace h := goB2_h h; obtain ⟨M67, L68, e69, h⟩ := h
                              refine go_callVv hc dX14_readLine_221 (mX14_readProof hk hW e69) ml_RX14_277 yk_X14_readProof ⟨wim_X14_readProof, wse_X14_readProof⟩ hR rfl (sh_102 hW) rfl rfl rfl (Nat.le_of_ble_eq_true rfl) rfl ?_
                              refine go_goto hc 264 dX14_readLine_224 rfl ?_
                              cases h
                              exact go_vret hc dX14_readLine_264 hr
                          · replace h := goIfF h c49
                            refine go_aload0 hc dX14_readLine_204 ?_
                            replace h := goB2_h h; obtain ⟨M70, L71, e72, h⟩ := h
                            refine go_callVv hc dX14_readLine_205 (mX14_readRule hk hW e72) ml_RX14_274 yk_X14_readRule ⟨wim_X14_readRule, wse_X14_readRule⟩ hR rfl (sh_102 hW) rfl rfl rfl (Nat.le_of_ble_eq_true rfl) rfl ?_
                            refine go_goto hc 264 dX14_readLine_208 rfl ?_
                            cases h
                            exact go_vret hc dX14_readLine_264 hr
                        · replace h := goIfF h c46
                          refine go_aload0 hc dX14_readLine_188 ?_
                          replace h := goB2_h h; obtain ⟨M73, L74, e75, h⟩ := h
                          refine go_callVv hc dX14_readLine_189 (mX14_readHolds hk hW e75) ml_RX14_271 yk_X14_readHolds ⟨wim_X14_readHolds, wse_X14_readHolds⟩ hR rfl (sh_102 hW) rfl rfl rfl (Nat.le_of_ble_eq_true rfl) rfl ?_
                          refine go_goto hc 264 dX14_readLine_192 rfl ?_
                          cases h
                          exact go_vret hc dX14_readLine_264 hr
                      · replace h := goIfF h c43
                        refine go_aload0 hc dX14_readLine_172 ?_
                        replace h := goB2_h h; obtain ⟨M76, L77, e78, h⟩ := h
                        refine go_callVv hc dX14_readLine_173 (mX14_readFact hk hW e78) ml_RX14_268 yk_X14_readFact ⟨wim_X14_readFact, wse_X14_readFact⟩ hR rfl (sh_102 hW) rfl rfl rfl (Nat.le_of_ble_eq_true rfl) rfl ?_
                        refine go_goto hc 264 dX14_readLine_176 rfl ?_
                        cases h
                        exact go_vret hc dX14_readLine_264 hr
                    · replace h := goIfF h c40
                      refine go_aload0 hc dX14_readLine_155 ?_
                      refine go_iconst (v := 2) hc dX14_readLine_156 rfl ?_
                      replace h := goB2_h h; obtain ⟨M79, L80, e81, h⟩ := h
                      refine go_callVv hc dX14_readLine_157 (mX14_readClue hk hW e81) ml_RX14_265 yk_X14_readClue ⟨wim_X14_readClue, wse_X14_readClue⟩ hR rfl (sh_102 hW) rfl rfl rfl (Nat.le_of_ble_eq_true rfl) rfl ?_
                      refine go_goto hc 264 dX14_readLine_160 rfl ?_
                      cases h
                      exact go_vret hc dX14_readLine_264 hr
                  · replace h := goIfF h c37
                    refine go_aload0 hc dX14_readLine_138 ?_
                    refine go_iconst (v := 1) hc dX14_readLine_139 rfl ?_
                    replace h := goB2_h h; obtain ⟨M82, L83, e84, h⟩ := h
                    refine go_callVv hc dX14_readLine_140 (mX14_readClue hk hW e84) ml_RX14_265 yk_X14_readClue ⟨wim_X14_readClue, wse_X14_readClue⟩ hR rfl (sh_102 hW) rfl rfl rfl (Nat.le_of_ble_eq_true rfl) rfl ?_
                    refine go_goto hc 264 dX14_readLine_143 rfl ?_
                    cases h
                    exact go_vret hc dX14_readLine_264 hr
                · replace h := goIfF h c34
                  refine go_aload0 hc dX14_readLine_121 ?_
                  refine go_iconst (v := 0) hc dX14_readLine_122 rfl ?_
                  replace h := goB2_h h; obtain ⟨M85, L86, e87, h⟩ := h
                  refine go_callVv hc dX14_readLine_123 (mX14_readClue hk hW e87) ml_RX14_265 yk_X14_readClue ⟨wim_X14_readClue, wse_X14_readClue⟩ hR rfl (sh_102 hW) rfl rfl rfl (Nat.le_of_ble_eq_true rfl) rfl ?_
                  refine go_goto hc 264 dX14_readLine_126 rfl ?_
                  cases h
                  exact go_vret hc dX14_readLine_264 hr
              · replace h := goIfF h c31
                refine go_aload0 hc dX14_readLine_105 ?_
                replace h := goB2_h h; obtain ⟨M88, L89, e90, h⟩ := h
                refine go_callVv hc dX14_readLine_106 (mX14_readFears hk hW e90) ml_RX14_262 yk_X14_readFears ⟨wim_X14_readFears, wse_X14_readFears⟩ hR rfl (sh_102 hW) rfl rfl rfl (Nat.le_of_ble_eq_true rfl) rfl ?_
                refine go_goto hc 264 dX14_readLine_109 rfl ?_
                cases h
                exact go_vret hc dX14_readLine_264 hr
            · replace h := goIfF h c28
              refine go_aload0 hc dX14_readLine_89 ?_
              replace h := goB2_h h; obtain ⟨M91, L92, e93, h⟩ := h
              refine go_callVv hc dX14_readLine_90 (mX14_readGoat hk hW e93) ml_RX14_259 yk_X14_readGoat ⟨wim_X14_readGoat, wse_X14_readGoat⟩ hR rfl (sh_102 hW) rfl rfl rfl (Nat.le_of_ble_eq_true rfl) rfl ?_
              refine go_goto hc 264 dX14_readLine_93 rfl ?_
              cases h
              exact go_vret hc dX14_readLine_264 hr
          · replace h := goIfF h c25
            refine go_aload0 hc dX14_readLine_73 ?_
            replace h := goB2_h h; obtain ⟨M94, L95, e96, h⟩ := h
            refine go_callVv hc dX14_readLine_74 (mX14_readStory hk hW e96) ml_RX14_256 yk_X14_readStory ⟨wim_X14_readStory, wse_X14_readStory⟩ hR rfl (sh_102 hW) rfl rfl rfl (Nat.le_of_ble_eq_true rfl) rfl ?_
            refine go_goto hc 264 dX14_readLine_77 rfl ?_
            cases h
            exact go_vret hc dX14_readLine_264 hr
        · replace h := goIfF h c22
          refine go_aload0 hc dX14_readLine_57 ?_
          replace h := goB2_h h; obtain ⟨M97, L98, e99, h⟩ := h
          refine go_callVv hc dX14_readLine_58 (mX14_readPerson hk hW e99) ml_RX14_253 yk_X14_readPerson ⟨wim_X14_readPerson, wse_X14_readPerson⟩ hR rfl (sh_102 hW) rfl rfl rfl (Nat.le_of_ble_eq_true rfl) rfl ?_
          refine go_goto hc 264 dX14_readLine_61 rfl ?_
          cases h
          exact go_vret hc dX14_readLine_264 hr
      · replace h := goIfF h c19
        refine go_aload0 hc dX14_readLine_41 ?_
        replace h := goB2_h h; obtain ⟨M100, L101, e102, h⟩ := h
        refine go_callVv hc dX14_readLine_42 (mX14_readPath hk hW e102) ml_RX14_250 yk_X14_readPath ⟨wim_X14_readPath, wse_X14_readPath⟩ hR rfl (sh_102 hW) rfl rfl rfl (Nat.le_of_ble_eq_true rfl) rfl ?_
        refine go_goto hc 264 dX14_readLine_45 rfl ?_
        cases h
        exact go_vret hc dX14_readLine_264 hr
    · replace h := goIfF h c16
      refine go_aload0 hc dX14_readLine_25 ?_
      replace h := goB2_h h; obtain ⟨M103, L104, e105, h⟩ := h
      refine go_callVv hc dX14_readLine_26 (mX14_readPlace hk hW e105) ml_RX14_247 yk_X14_readPlace ⟨wim_X14_readPlace, wse_X14_readPlace⟩ hR rfl (sh_102 hW) rfl rfl rfl (Nat.le_of_ble_eq_true rfl) rfl ?_
      refine go_goto hc 264 dX14_readLine_29 rfl ?_
      cases h
      exact go_vret hc dX14_readLine_264 hr
  · replace h := goIfF h c13
    refine go_aload0 hc dX14_readLine_9 ?_
    replace h := goB2_h h; obtain ⟨M106, L107, e108, h⟩ := h
    refine go_callVv hc dX14_readLine_10 (mX14_readHill hk hW e108) ml_RX14_244 yk_X14_readHill ⟨wim_X14_readHill, wse_X14_readHill⟩ hR rfl (sh_102 hW) rfl rfl rfl (Nat.le_of_ble_eq_true rfl) rfl ?_
    refine go_goto hc 264 dX14_readLine_13 rfl ?_
    cases h
    exact go_vret hc dX14_readLine_264 hr
theorem dX14_readAll_0 : decode cX14_readAll 0 = .ok (.iconst 1, 1) := by decide +kernel
theorem dX14_readAll_1 : decode cX14_readAll 1 = .ok (.istore_n 1, 1) := by decide +kernel
theorem dX14_readAll_2 : decode cX14_readAll 2 = .ok (.iload_n 1, 1) := by decide +kernel
theorem dX14_readAll_3 : decode cX14_readAll 3 = .ok (.ifCond .eq 17, 3) := by decide +kernel
theorem dX14_readAll_6 : decode cX14_readAll 6 = .ok (.aload_n 0, 1) := by decide +kernel
theorem dX14_readAll_7 : decode cX14_readAll 7 = .ok (.invokevirtual 235, 3) := by decide +kernel
theorem dX14_readAll_10 : decode cX14_readAll 10 = .ok (.aload_n 0, 1) := by decide +kernel
theorem dX14_readAll_11 : decode cX14_readAll 11 = .ok (.bipush 59, 2) := by decide +kernel
theorem dX14_readAll_13 : decode cX14_readAll 13 = .ok (.invokevirtual 238, 3) := by decide +kernel
theorem dX14_readAll_16 : decode cX14_readAll 16 = .ok (.istore_n 1, 1) := by decide +kernel
theorem dX14_readAll_17 : decode cX14_readAll 17 = .ok (.goto (-15), 3) := by decide +kernel
theorem dX14_readAll_20 : decode cX14_readAll 20 = .ok (.aload_n 0, 1) := by decide +kernel
theorem dX14_readAll_21 : decode cX14_readAll 21 = .ok (.getfield 94, 3) := by decide +kernel
theorem dX14_readAll_24 : decode cX14_readAll 24 = .ok (.iconst 1, 1) := by decide +kernel
theorem dX14_readAll_25 : decode cX14_readAll 25 = .ok (.if_icmp .eq 8, 3) := by decide +kernel
theorem dX14_readAll_28 : decode cX14_readAll 28 = .ok (.aload_n 0, 1) := by decide +kernel
theorem dX14_readAll_29 : decode cX14_readAll 29 = .ok (.iconst 1, 1) := by decide +kernel
theorem dX14_readAll_30 : decode cX14_readAll 30 = .ok (.invokevirtual 143, 3) := by decide +kernel
theorem dX14_readAll_33 : decode cX14_readAll 33 = .ok (.aload_n 0, 1) := by decide +kernel
theorem dX14_readAll_34 : decode cX14_readAll 34 = .ok (.getfield 192, 3) := by decide +kernel
theorem dX14_readAll_37 : decode cX14_readAll 37 = .ok (.getfield 241, 3) := by decide +kernel
theorem dX14_readAll_40 : decode cX14_readAll 40 = .ok (.ifCond .ne 9, 3) := by decide +kernel
theorem dX14_readAll_43 : decode cX14_readAll 43 = .ok (.aload_n 0, 1) := by decide +kernel
theorem dX14_readAll_44 : decode cX14_readAll 44 = .ok (.bipush 6, 2) := by decide +kernel
theorem dX14_readAll_46 : decode cX14_readAll 46 = .ok (.invokevirtual 143, 3) := by decide +kernel
theorem dX14_readAll_49 : decode cX14_readAll 49 = .ok (.return_, 1) := by decide +kernel
set_option maxRecDepth 100000 in
set_option maxHeartbeats 4000000 in
theorem mX14_readAll_L2 {E : goEv} {X : goX} {G : goG} {Q : State → Prop} {R : goMR} {N : Nat} (hc : goCx E X cX14_readAll RX14 2) (hk : goKn E) (hR : X.2.2.2.1 = goRoom 12 263 0 0) (hr : X.2.2.2.2.2.2.2.2.1.sig.returnType = none) (hW : goW G R) : ∀ (n : Nat) (v1 : Int32) (M : goMI) (L : goML) (r0 : goMI) (r1 : goML), lX14_readAll_2 N R n v1 M L = some (r0, r1) → (∀ (d1 : Option Value), goA E X G 0 0 Q 20 [some (.ref 102), d1] [] r0 r1 R) → goA E X G 0 0 Q 2 [some (.ref 102), some (.int v1)] [] M L R := by
  intro n
  induction n with
  | zero => intro v1 M L r0 r1 h; exact nomatch h
  | succ n ih =>
    intro v1 M L r0 r1 h kx
    rw [lX14_readAll_2] at h
    refine go_iload1 hc dX14_readAll_2 ?_
    refine go_if_eq hc 20 dX14_readAll_3 rfl (fun c11 => ?_) (fun c11 => ?_)
    · replace h := goIfT h c11
      cases h
      exact kx _
    · replace h := goIfF h c11
      refine go_aload0 hc dX14_readAll_6 ?_
      replace h := goB2_h h; obtain ⟨M12, L13, e14, h⟩ := h
      refine go_callVv hc dX14_readAll_7 (mX14_readLine hk hW e14) ml_RX14_235 yk_X14_readLine ⟨wim_X14_readLine, wse_X14_readLine⟩ hR rfl (sh_102 hW) rfl rfl rfl (Nat.le_of_ble_eq_true rfl) rfl ?_
      refine go_aload0 hc dX14_readAll_10 ?_
      refine go_bipush (v := 59) hc dX14_readAll_11 rfl ?_
      replace h := goB3_h h; obtain ⟨x15, M16, L17, e18, h⟩ := h
      refine go_callVi hc dX14_readAll_13 (mX14_eatsSign hk hW e18) ml_RX14_238 yk_X14_eatsSign ⟨wim_X14_eatsSign, wse_X14_eatsSign⟩ hR rfl (sh_102 hW) rfl rfl rfl (Nat.le_of_ble_eq_true rfl) rfl ?_
      refine go_istore1 hc dX14_readAll_16 ?_
      refine go_goto hc 2 dX14_readAll_17 rfl ?_
      exact ih _ _ _ _ _ h kx
set_option maxRecDepth 100000 in
set_option maxHeartbeats 4000000 in
theorem mX14_readAll {E : goEv} {l : Launch} {G : goG} {N : Nat} {M : goMI} {L : goML} {R : goMR} {r0 : goMI} {r1 : goML} (hk : goKn E) (hW : goW G R) (h : fX14_readAll N M L R = some (r0, r1)) : Met l yX14_readAll (goCd yX14_readAll cX14_readAll 2 none) (goRoom 12 263 0 0) (goPre E [.ref 102] G M L R) (goQv E G r0 r1 R) 0 0 (goSet E) := by
  refine goMet pl_RX14 hk (lv := [some (.ref 102), none]) rfl (Nat.le_of_ble_eq_true rfl) ?_
  intro X hc hl hR hr hnm
  subst hl
  unfold fX14_readAll at h
  refine go_iconst (v := 1) hc dX14_readAll_0 rfl ?_
  refine go_istore1 hc dX14_readAll_1 ?_
  replace h := goB2_h h; obtain ⟨M20, L21, e19, h⟩ := h
  refine mX14_readAll_L2 hc hk hR hr hW _ _ _ _ _ _ e19 (fun d1 => ?_)
  refine go_aload0 hc dX14_readAll_20 ?_
  refine go_getI hc lk_RX14_94 dX14_readAll_21 (sh_102 hW) ?_
  refine go_iconst (v := 1) hc dX14_readAll_24 rfl ?_
  replace h := goBind h; obtain ⟨M22, e23, h⟩ := h
  have k24 : ∀ (d1 : Option Value), goA E X G 0 0 (goMQ X E (goQv E G r0 r1 R) 0 0) 33 [some (.ref 102), d1] [] M22 L21 R := by
    intro d1
    refine go_aload0 hc dX14_readAll_33 ?_
    replace h := goBind h; obtain ⟨b28, e29, h⟩ := h
    refine go_getR hc lk_RX14_192 dX14_readAll_34 (sh_102 hW) e29 ?_
    refine go_getI hc lk_RX14_241 dX14_readAll_37 (shM_0 (goW_M4 hW e29)) ?_
    refine go_if_ne hc 49 dX14_readAll_40 rfl (fun c30 => ?_) (fun c30 => ?_)
    · replace h := goIfF h c30
      cases h
      exact go_vret hc dX14_readAll_49 hr
    · replace h := goIfT h c30
      refine go_aload0 hc dX14_readAll_43 ?_
      refine go_bipush (v := 6) hc dX14_readAll_44 rfl ?_
      replace h := goBind h; obtain ⟨M31, e32, h⟩ := h
      refine go_callVv hc dX14_readAll_46 (mX14_flaw hk hW e32) ml_RX14_143 yk_X14_flaw ⟨wim_X14_flaw, wse_X14_flaw⟩ hR rfl (sh_102 hW) rfl rfl rfl (Nat.le_of_ble_eq_true rfl) rfl ?_
      cases h
      exact go_vret hc dX14_readAll_49 hr
  refine go_icmp_eq hc 33 dX14_readAll_25 rfl (fun c25 => ?_) (fun c25 => ?_)
  · replace e23 := goIfT e23 c25
    cases e23
    exact k24 _
  · replace e23 := goIfF e23 c25
    refine go_aload0 hc dX14_readAll_28 ?_
    refine go_iconst (v := 1) hc dX14_readAll_29 rfl ?_
    replace e23 := goBind e23; obtain ⟨M26, e27, e23⟩ := e23
    refine go_callVv hc dX14_readAll_30 (mX14_flaw hk hW e27) ml_RX14_143 yk_X14_flaw ⟨wim_X14_flaw, wse_X14_flaw⟩ hR rfl (sh_102 hW) rfl rfl rfl (Nat.le_of_ble_eq_true rfl) rfl ?_
    cases e23
    exact k24 _
theorem dX14_feed_0 : decode cX14_feed 0 = .ok (.aload_n 0, 1) := by decide +kernel
theorem dX14_feed_1 : decode cX14_feed 1 = .ok (.iconst 0, 1) := by decide +kernel
theorem dX14_feed_2 : decode cX14_feed 2 = .ok (.putfield 66, 3) := by decide +kernel
theorem dX14_feed_5 : decode cX14_feed 5 = .ok (.aload_n 0, 1) := by decide +kernel
theorem dX14_feed_6 : decode cX14_feed 6 = .ok (.getfield 435, 3) := by decide +kernel
theorem dX14_feed_9 : decode cX14_feed 9 = .ok (.bipush 20, 2) := by decide +kernel
theorem dX14_feed_11 : decode cX14_feed 11 = .ok (.iadd, 1) := by decide +kernel
theorem dX14_feed_12 : decode cX14_feed 12 = .ok (.sipush 1200, 3) := by decide +kernel
theorem dX14_feed_15 : decode cX14_feed 15 = .ok (.if_icmp .le 5, 3) := by decide +kernel
theorem dX14_feed_18 : decode cX14_feed 18 = .ok (.iconst (-1), 1) := by decide +kernel
theorem dX14_feed_19 : decode cX14_feed 19 = .ok (.ireturn, 1) := by decide +kernel
theorem dX14_feed_20 : decode cX14_feed 20 = .ok (.iconst 0, 1) := by decide +kernel
theorem dX14_feed_21 : decode cX14_feed 21 = .ok (.istore 6, 2) := by decide +kernel
theorem dX14_feed_23 : decode cX14_feed 23 = .ok (.iload 6, 2) := by decide +kernel
theorem dX14_feed_25 : decode cX14_feed 25 = .ok (.bipush 20, 2) := by decide +kernel
theorem dX14_feed_27 : decode cX14_feed 27 = .ok (.if_icmp .ge 90, 3) := by decide +kernel
theorem dX14_feed_30 : decode cX14_feed 30 = .ok (.iload 6, 2) := by decide +kernel
theorem dX14_feed_32 : decode cX14_feed 32 = .ok (.iconst 4, 1) := by decide +kernel
theorem dX14_feed_33 : decode cX14_feed 33 = .ok (.if_icmp .ge 7, 3) := by decide +kernel
theorem dX14_feed_36 : decode cX14_feed 36 = .ok (.iload_n 1, 1) := by decide +kernel
theorem dX14_feed_37 : decode cX14_feed 37 = .ok (.goto 39, 3) := by decide +kernel
theorem dX14_feed_40 : decode cX14_feed 40 = .ok (.iload 6, 2) := by decide +kernel
theorem dX14_feed_42 : decode cX14_feed 42 = .ok (.bipush 8, 2) := by decide +kernel
theorem dX14_feed_44 : decode cX14_feed 44 = .ok (.if_icmp .ge 7, 3) := by decide +kernel
theorem dX14_feed_47 : decode cX14_feed 47 = .ok (.iload_n 2, 1) := by decide +kernel
theorem dX14_feed_48 : decode cX14_feed 48 = .ok (.goto 28, 3) := by decide +kernel
theorem dX14_feed_51 : decode cX14_feed 51 = .ok (.iload 6, 2) := by decide +kernel
theorem dX14_feed_53 : decode cX14_feed 53 = .ok (.bipush 12, 2) := by decide +kernel
theorem dX14_feed_55 : decode cX14_feed 55 = .ok (.if_icmp .ge 7, 3) := by decide +kernel
theorem dX14_feed_58 : decode cX14_feed 58 = .ok (.iload_n 3, 1) := by decide +kernel
theorem dX14_feed_59 : decode cX14_feed 59 = .ok (.goto 17, 3) := by decide +kernel
theorem dX14_feed_62 : decode cX14_feed 62 = .ok (.iload 6, 2) := by decide +kernel
theorem dX14_feed_64 : decode cX14_feed 64 = .ok (.bipush 16, 2) := by decide +kernel
theorem dX14_feed_66 : decode cX14_feed 66 = .ok (.if_icmp .ge 8, 3) := by decide +kernel
theorem dX14_feed_69 : decode cX14_feed 69 = .ok (.iload 4, 2) := by decide +kernel
theorem dX14_feed_71 : decode cX14_feed 71 = .ok (.goto 5, 3) := by decide +kernel
theorem dX14_feed_74 : decode cX14_feed 74 = .ok (.iload 5, 2) := by decide +kernel
theorem dX14_feed_76 : decode cX14_feed 76 = .ok (.istore 7, 2) := by decide +kernel
theorem dX14_feed_78 : decode cX14_feed 78 = .ok (.aload_n 0, 1) := by decide +kernel
theorem dX14_feed_79 : decode cX14_feed 79 = .ok (.getfield 13, 3) := by decide +kernel
theorem dX14_feed_82 : decode cX14_feed 82 = .ok (.aload_n 0, 1) := by decide +kernel
theorem dX14_feed_83 : decode cX14_feed 83 = .ok (.getfield 435, 3) := by decide +kernel
theorem dX14_feed_86 : decode cX14_feed 86 = .ok (.iload 7, 2) := by decide +kernel
theorem dX14_feed_88 : decode cX14_feed 88 = .ok (.bipush 24, 2) := by decide +kernel
theorem dX14_feed_90 : decode cX14_feed 90 = .ok (.bipush 8, 2) := by decide +kernel
theorem dX14_feed_92 : decode cX14_feed 92 = .ok (.iload 6, 2) := by decide +kernel
theorem dX14_feed_94 : decode cX14_feed 94 = .ok (.iconst 4, 1) := by decide +kernel
theorem dX14_feed_95 : decode cX14_feed 95 = .ok (.irem, 1) := by decide +kernel
theorem dX14_feed_96 : decode cX14_feed 96 = .ok (.imul, 1) := by decide +kernel
theorem dX14_feed_97 : decode cX14_feed 97 = .ok (.isub, 1) := by decide +kernel
theorem dX14_feed_98 : decode cX14_feed 98 = .ok (.ishr, 1) := by decide +kernel
theorem dX14_feed_99 : decode cX14_feed 99 = .ok (.i2b, 1) := by decide +kernel
theorem dX14_feed_100 : decode cX14_feed 100 = .ok (.bastore, 1) := by decide +kernel
theorem dX14_feed_101 : decode cX14_feed 101 = .ok (.aload_n 0, 1) := by decide +kernel
theorem dX14_feed_102 : decode cX14_feed 102 = .ok (.dup, 1) := by decide +kernel
theorem dX14_feed_103 : decode cX14_feed 103 = .ok (.getfield 435, 3) := by decide +kernel
theorem dX14_feed_106 : decode cX14_feed 106 = .ok (.iconst 1, 1) := by decide +kernel
theorem dX14_feed_107 : decode cX14_feed 107 = .ok (.iadd, 1) := by decide +kernel
theorem dX14_feed_108 : decode cX14_feed 108 = .ok (.putfield 435, 3) := by decide +kernel
theorem dX14_feed_111 : decode cX14_feed 111 = .ok (.iinc 6 1, 3) := by decide +kernel
theorem dX14_feed_114 : decode cX14_feed 114 = .ok (.goto (-91), 3) := by decide +kernel
theorem dX14_feed_117 : decode cX14_feed 117 = .ok (.aload_n 0, 1) := by decide +kernel
theorem dX14_feed_118 : decode cX14_feed 118 = .ok (.getfield 435, 3) := by decide +kernel
theorem dX14_feed_121 : decode cX14_feed 121 = .ok (.ireturn, 1) := by decide +kernel
set_option maxRecDepth 100000 in
set_option maxHeartbeats 4000000 in
theorem mX14_feed_L23 {E : goEv} {X : goX} {G : goG} {Q : State → Prop} {L : goML} {R : goMR} {v1 : Int32} {v2 : Int32} {v3 : Int32} {v4 : Int32} {v5 : Int32} (hc : goCx E X cX14_feed RX14 8) (hk : goKn E) (hR : X.2.2.2.1 = goRoom 0 0 0 0) (hr : X.2.2.2.2.2.2.2.2.1.sig.returnType = (Option.some FieldType.int)) (hW : goW G R) : ∀ (n : Nat) (v6 : Int32) (M : goMI) (r0 : goMI), lX14_feed_23 v1 v2 v3 v4 v5 n v6 M = some r0 → (∀ (d1 d2 d3 d4 d5 d6 d7 : Option Value), goA E X G 0 0 Q 117 [some (.ref 102), d1, d2, d3, d4, d5, d6, d7] [] r0 L R) → ∀ (d7 : Option Value), goA E X G 0 0 Q 23 [some (.ref 102), some (.int v1), some (.int v2), some (.int v3), some (.int v4), some (.int v5), some (.int v6), d7] [] M L R := by
  intro n
  induction n with
  | zero => intro v6 M r0 h; exact nomatch h
  | succ n ih =>
    intro v6 M r0 h kx d7
    rw [lX14_feed_23] at h
    refine go_iload6 hc dX14_feed_23 ?_
    refine go_bipush (v := 20) hc dX14_feed_25 rfl ?_
    refine go_icmp_ge hc 117 dX14_feed_27 rfl (fun c14 => ?_) (fun c14 => ?_)
    · replace h := goIfF h c14
      cases h
      exact kx _ _ _ _ _ _ _
    · replace h := goIfT h c14
      refine go_iload6 hc dX14_feed_30 ?_
      refine go_iconst (v := 4) hc dX14_feed_32 rfl ?_
      replace h := goNm_y h; obtain ⟨x15, e16, h⟩ := h
      have k17 : ∀ (d7 : Option Value), goA E X G 0 0 Q 76 [some (.ref 102), some (.int v1), some (.int v2), some (.int v3), some (.int v4), some (.int v5), some (.int v6), d7] [.int x15] M L R := by
        intro d7
        refine go_istore7 hc dX14_feed_76 ?_
        refine go_aload0 hc dX14_feed_78 ?_
        refine go_getR hc lk_RX14_13 dX14_feed_79 (sh_102 hW) (rf_102_5 hW) ?_
        refine go_aload0 hc dX14_feed_82 ?_
        refine go_getI hc lk_RX14_435 dX14_feed_83 (sh_102 hW) ?_
        refine go_iload7 hc dX14_feed_86 ?_
        refine go_bipush (v := 24) hc dX14_feed_88 rfl ?_
        refine go_bipush (v := 8) hc dX14_feed_90 rfl ?_
        refine go_iload6 hc dX14_feed_92 ?_
        refine go_iconst (v := 4) hc dX14_feed_94 rfl ?_
        refine go_irem hc dX14_feed_95 (by decide) ?_
        refine go_imul hc dX14_feed_96 ?_
        refine go_isub hc dX14_feed_97 ?_
        refine go_ishr hc dX14_feed_98 ?_
        refine go_i2b hc dX14_feed_99 ?_
        replace h := goBind h; obtain ⟨M22, e23, h⟩ := h
        refine go_bast hc dX14_feed_100 (sh_103 hW) e23 ?_
        refine go_aload0 hc dX14_feed_101 ?_
        refine go_dupr hc dX14_feed_102 ?_
        refine go_getI hc lk_RX14_435 dX14_feed_103 (sh_102 hW) ?_
        refine go_iconst (v := 1) hc dX14_feed_106 rfl ?_
        refine go_iadd hc dX14_feed_107 ?_
        replace h := goNm_x h; obtain ⟨M24, e25, h⟩ := h
        refine go_ptI hc lk_RX14_435 dX14_feed_108 (sh_102 hW) e25 ?_
        refine go_iinc6 (v := (v6 + 1)) hc dX14_feed_111 rfl ?_
        refine go_goto hc 23 dX14_feed_114 rfl ?_
        exact ih _ _ _ h kx _
      refine go_icmp_ge hc 40 dX14_feed_33 rfl (fun c18 => ?_) (fun c18 => ?_)
      · replace e16 := goIfF e16 c18
        refine go_iload6 hc dX14_feed_40 ?_
        refine go_bipush (v := 8) hc dX14_feed_42 rfl ?_
        refine go_icmp_ge hc 51 dX14_feed_44 rfl (fun c19 => ?_) (fun c19 => ?_)
        · replace e16 := goIfF e16 c19
          refine go_iload6 hc dX14_feed_51 ?_
          refine go_bipush (v := 12) hc dX14_feed_53 rfl ?_
          refine go_icmp_ge hc 62 dX14_feed_55 rfl (fun c20 => ?_) (fun c20 => ?_)
          · replace e16 := goIfF e16 c20
            refine go_iload6 hc dX14_feed_62 ?_
            refine go_bipush (v := 16) hc dX14_feed_64 rfl ?_
            refine go_icmp_ge hc 74 dX14_feed_66 rfl (fun c21 => ?_) (fun c21 => ?_)
            · replace e16 := goIfF e16 c21
              refine go_iload5 hc dX14_feed_74 ?_
              subst e16
              exact k17 _
            · replace e16 := goIfT e16 c21
              refine go_iload4 hc dX14_feed_69 ?_
              refine go_goto hc 76 dX14_feed_71 rfl ?_
              subst e16
              exact k17 _
          · replace e16 := goIfT e16 c20
            refine go_iload3 hc dX14_feed_58 ?_
            refine go_goto hc 76 dX14_feed_59 rfl ?_
            subst e16
            exact k17 _
        · replace e16 := goIfT e16 c19
          refine go_iload2 hc dX14_feed_47 ?_
          refine go_goto hc 76 dX14_feed_48 rfl ?_
          subst e16
          exact k17 _
      · replace e16 := goIfT e16 c18
        refine go_iload1 hc dX14_feed_36 ?_
        refine go_goto hc 76 dX14_feed_37 rfl ?_
        subst e16
        exact k17 _
set_option maxRecDepth 100000 in
set_option maxHeartbeats 4000000 in
theorem mX14_feed {E : goEv} {l : Launch} {G : goG} {N : Nat} {M : goMI} {L : goML} {R : goMR} {v1 : Int32} {v2 : Int32} {v3 : Int32} {v4 : Int32} {v5 : Int32} {r0 : Int32} {r1 : goMI} (hk : goKn E) (hW : goW G R) (h : fX14_feed N M v1 v2 v3 v4 v5 = some (r0, r1)) : Met l yX14_feed (goCd yX14_feed cX14_feed 8 (Option.some FieldType.int)) (goRoom 0 0 0 0) (goPre E [.ref 102, .int v1, .int v2, .int v3, .int v4, .int v5] G M L R) (goQi E r0 G r1 L R) 0 0 (goSet E) := by
  refine goMet pl_RX14 hk (lv := [some (.ref 102), some (.int v1), some (.int v2), some (.int v3), some (.int v4), some (.int v5), none, none]) rfl (Nat.le_of_ble_eq_true rfl) ?_
  intro X hc hl hR hr hnm
  subst hl
  unfold fX14_feed at h
  refine go_aload0 hc dX14_feed_0 ?_
  refine go_iconst (v := 0) hc dX14_feed_1 rfl ?_
  replace h := goNm_x h; obtain ⟨M11, e12, h⟩ := h
  refine go_ptI hc lk_RX14_66 dX14_feed_2 (sh_102 hW) e12 ?_
  refine go_aload0 hc dX14_feed_5 ?_
  refine go_getI hc lk_RX14_435 dX14_feed_6 (sh_102 hW) ?_
  refine go_bipush (v := 20) hc dX14_feed_9 rfl ?_
  refine go_iadd hc dX14_feed_11 ?_
  refine go_sipush (v := 1200) hc dX14_feed_12 rfl ?_
  refine go_icmp_le hc 20 dX14_feed_15 rfl (fun c13 => ?_) (fun c13 => ?_)
  · replace h := goIfF h c13
    refine go_iconst (v := 0) hc dX14_feed_20 rfl ?_
    refine go_istore6 hc dX14_feed_21 ?_
    replace h := goBind h; obtain ⟨M27, e26, h⟩ := h
    refine mX14_feed_L23 hc hk hR hr hW _ _ _ _ e26 (fun d1 d2 d3 d4 d5 d6 d7 => ?_) _
    refine go_aload0 hc dX14_feed_117 ?_
    refine go_getI hc lk_RX14_435 dX14_feed_118 (sh_102 hW) ?_
    cases h
    exact go_iret hc dX14_feed_121 hr
  · replace h := goIfT h c13
    refine go_iconst (v := (-1)) hc dX14_feed_18 rfl ?_
    cases h
    exact go_iret hc dX14_feed_19 hr
theorem dX14_hill_0 : decode cX14_hill 0 = .ok (.aload_n 0, 1) := by decide +kernel
theorem dX14_hill_1 : decode cX14_hill 1 = .ok (.iconst 0, 1) := by decide +kernel
theorem dX14_hill_2 : decode cX14_hill 2 = .ok (.putfield 66, 3) := by decide +kernel
theorem dX14_hill_5 : decode cX14_hill 5 = .ok (.iload_n 1, 1) := by decide +kernel
theorem dX14_hill_6 : decode cX14_hill 6 = .ok (.ifCond .lt 11, 3) := by decide +kernel
theorem dX14_hill_9 : decode cX14_hill 9 = .ok (.iload_n 1, 1) := by decide +kernel
theorem dX14_hill_10 : decode cX14_hill 10 = .ok (.aload_n 0, 1) := by decide +kernel
theorem dX14_hill_11 : decode cX14_hill 11 = .ok (.getfield 435, 3) := by decide +kernel
theorem dX14_hill_14 : decode cX14_hill 14 = .ok (.if_icmp .le 9, 3) := by decide +kernel
theorem dX14_hill_17 : decode cX14_hill 17 = .ok (.aload_n 0, 1) := by decide +kernel
theorem dX14_hill_18 : decode cX14_hill 18 = .ok (.iconst 2, 1) := by decide +kernel
theorem dX14_hill_19 : decode cX14_hill 19 = .ok (.invokevirtual 72, 3) := by decide +kernel
theorem dX14_hill_22 : decode cX14_hill 22 = .ok (.ireturn, 1) := by decide +kernel
theorem dX14_hill_23 : decode cX14_hill 23 = .ok (.aload_n 0, 1) := by decide +kernel
theorem dX14_hill_24 : decode cX14_hill 24 = .ok (.iload_n 1, 1) := by decide +kernel
theorem dX14_hill_25 : decode cX14_hill 25 = .ok (.putfield 79, 3) := by decide +kernel
theorem dX14_hill_28 : decode cX14_hill 28 = .ok (.aload_n 0, 1) := by decide +kernel
theorem dX14_hill_29 : decode cX14_hill 29 = .ok (.iconst 0, 1) := by decide +kernel
theorem dX14_hill_30 : decode cX14_hill 30 = .ok (.putfield 435, 3) := by decide +kernel
theorem dX14_hill_33 : decode cX14_hill 33 = .ok (.aload_n 0, 1) := by decide +kernel
theorem dX14_hill_34 : decode cX14_hill 34 = .ok (.iconst 0, 1) := by decide +kernel
theorem dX14_hill_35 : decode cX14_hill 35 = .ok (.putfield 97, 3) := by decide +kernel
theorem dX14_hill_38 : decode cX14_hill 38 = .ok (.aload_n 0, 1) := by decide +kernel
theorem dX14_hill_39 : decode cX14_hill 39 = .ok (.iconst 0, 1) := by decide +kernel
theorem dX14_hill_40 : decode cX14_hill 40 = .ok (.putfield 126, 3) := by decide +kernel
theorem dX14_hill_43 : decode cX14_hill 43 = .ok (.aload_n 0, 1) := by decide +kernel
theorem dX14_hill_44 : decode cX14_hill 44 = .ok (.new 197, 3) := by decide +kernel
theorem dX14_hill_47 : decode cX14_hill 47 = .ok (.dup, 1) := by decide +kernel
theorem dX14_hill_48 : decode cX14_hill 48 = .ok (.invokespecial 438, 3) := by decide +kernel
theorem dX14_hill_51 : decode cX14_hill 51 = .ok (.putfield 192, 3) := by decide +kernel
theorem dX14_hill_54 : decode cX14_hill 54 = .ok (.aload_n 0, 1) := by decide +kernel
theorem dX14_hill_55 : decode cX14_hill 55 = .ok (.iconst 0, 1) := by decide +kernel
theorem dX14_hill_56 : decode cX14_hill 56 = .ok (.putfield 94, 3) := by decide +kernel
theorem dX14_hill_59 : decode cX14_hill 59 = .ok (.aload_n 0, 1) := by decide +kernel
theorem dX14_hill_60 : decode cX14_hill 60 = .ok (.invokevirtual 136, 3) := by decide +kernel
theorem dX14_hill_63 : decode cX14_hill 63 = .ok (.aload_n 0, 1) := by decide +kernel
theorem dX14_hill_64 : decode cX14_hill 64 = .ok (.invokevirtual 439, 3) := by decide +kernel
theorem dX14_hill_67 : decode cX14_hill 67 = .ok (.aload_n 0, 1) := by decide +kernel
theorem dX14_hill_68 : decode cX14_hill 68 = .ok (.getfield 126, 3) := by decide +kernel
theorem dX14_hill_71 : decode cX14_hill 71 = .ok (.ifCond .le 18, 3) := by decide +kernel
theorem dX14_hill_74 : decode cX14_hill 74 = .ok (.aload_n 0, 1) := by decide +kernel
theorem dX14_hill_75 : decode cX14_hill 75 = .ok (.iconst 4, 1) := by decide +kernel
theorem dX14_hill_76 : decode cX14_hill 76 = .ok (.putfield 69, 3) := by decide +kernel
theorem dX14_hill_79 : decode cX14_hill 79 = .ok (.aload_n 0, 1) := by decide +kernel
theorem dX14_hill_80 : decode cX14_hill 80 = .ok (.aload_n 0, 1) := by decide +kernel
theorem dX14_hill_81 : decode cX14_hill 81 = .ok (.getfield 129, 3) := by decide +kernel
theorem dX14_hill_84 : decode cX14_hill 84 = .ok (.putfield 9, 3) := by decide +kernel
theorem dX14_hill_87 : decode cX14_hill 87 = .ok (.iconst (-1), 1) := by decide +kernel
theorem dX14_hill_88 : decode cX14_hill 88 = .ok (.ireturn, 1) := by decide +kernel
theorem dX14_hill_89 : decode cX14_hill 89 = .ok (.aload_n 0, 1) := by decide +kernel
theorem dX14_hill_90 : decode cX14_hill 90 = .ok (.aload_n 0, 1) := by decide +kernel
theorem dX14_hill_91 : decode cX14_hill 91 = .ok (.getfield 192, 3) := by decide +kernel
theorem dX14_hill_94 : decode cX14_hill 94 = .ok (.putfield 442, 3) := by decide +kernel
theorem dX14_hill_97 : decode cX14_hill 97 = .ok (.iconst 0, 1) := by decide +kernel
theorem dX14_hill_98 : decode cX14_hill 98 = .ok (.istore_n 2, 1) := by decide +kernel
theorem dX14_hill_99 : decode cX14_hill 99 = .ok (.iload_n 2, 1) := by decide +kernel
theorem dX14_hill_100 : decode cX14_hill 100 = .ok (.bipush 18, 2) := by decide +kernel
theorem dX14_hill_102 : decode cX14_hill 102 = .ok (.if_icmp .ge 16, 3) := by decide +kernel
theorem dX14_hill_105 : decode cX14_hill 105 = .ok (.aload_n 0, 1) := by decide +kernel
theorem dX14_hill_106 : decode cX14_hill 106 = .ok (.getfield 21, 3) := by decide +kernel
theorem dX14_hill_109 : decode cX14_hill 109 = .ok (.iload_n 2, 1) := by decide +kernel
theorem dX14_hill_110 : decode cX14_hill 110 = .ok (.iconst 0, 1) := by decide +kernel
theorem dX14_hill_111 : decode cX14_hill 111 = .ok (.iastore, 1) := by decide +kernel
theorem dX14_hill_112 : decode cX14_hill 112 = .ok (.iinc 2 1, 3) := by decide +kernel
theorem dX14_hill_115 : decode cX14_hill 115 = .ok (.goto (-16), 3) := by decide +kernel
theorem dX14_hill_118 : decode cX14_hill 118 = .ok (.aload_n 0, 1) := by decide +kernel
theorem dX14_hill_119 : decode cX14_hill 119 = .ok (.getfield 21, 3) := by decide +kernel
theorem dX14_hill_122 : decode cX14_hill 122 = .ok (.bipush 17, 2) := by decide +kernel
theorem dX14_hill_124 : decode cX14_hill 124 = .ok (.bipush 63, 2) := by decide +kernel
theorem dX14_hill_126 : decode cX14_hill 126 = .ok (.iastore, 1) := by decide +kernel
theorem dX14_hill_127 : decode cX14_hill 127 = .ok (.aload_n 0, 1) := by decide +kernel
theorem dX14_hill_128 : decode cX14_hill 128 = .ok (.iconst 0, 1) := by decide +kernel
theorem dX14_hill_129 : decode cX14_hill 129 = .ok (.putfield 444, 3) := by decide +kernel
theorem dX14_hill_132 : decode cX14_hill 132 = .ok (.aload_n 0, 1) := by decide +kernel
theorem dX14_hill_133 : decode cX14_hill 133 = .ok (.iconst 0, 1) := by decide +kernel
theorem dX14_hill_134 : decode cX14_hill 134 = .ok (.putfield 447, 3) := by decide +kernel
theorem dX14_hill_137 : decode cX14_hill 137 = .ok (.aload_n 0, 1) := by decide +kernel
theorem dX14_hill_138 : decode cX14_hill 138 = .ok (.aload_n 0, 1) := by decide +kernel
theorem dX14_hill_139 : decode cX14_hill 139 = .ok (.getfield 442, 3) := by decide +kernel
theorem dX14_hill_142 : decode cX14_hill 142 = .ok (.invokevirtual 450, 3) := by decide +kernel
theorem dX14_hill_145 : decode cX14_hill 145 = .ok (.invokevirtual 76, 3) := by decide +kernel
theorem dX14_hill_148 : decode cX14_hill 148 = .ok (.ireturn, 1) := by decide +kernel
set_option maxRecDepth 100000 in
set_option maxHeartbeats 4000000 in
theorem mX14_hill_L99 {E : goEv} {X : goX} {G : goG} {Q : State → Prop} {L : goML} {R : goMR} (hc : goCx E X cX14_hill RX14 3) (hk : goKn E) (hR : X.2.2.2.1 = goRoom 13 284 26 509) (hr : X.2.2.2.2.2.2.2.2.1.sig.returnType = (Option.some FieldType.int)) (hW : goW (goGb G goMsh) R) : ∀ (n : Nat) (v2 : Int32) (M : goMI) (r0 : goMI), lX14_hill_99 n v2 M = some r0 → (∀ (d1 d2 : Option Value), goA E X (goGb G goMsh) 26 509 Q 118 [some (.ref 102), d1, d2] [] r0 L R) → ∀ (d1 : Option Value), goA E X (goGb G goMsh) 26 509 Q 99 [some (.ref 102), d1, some (.int v2)] [] M L R := by
  intro n
  induction n with
  | zero => intro v2 M r0 h; exact nomatch h
  | succ n ih =>
    intro v2 M r0 h kx d1
    rw [lX14_hill_99] at h
    refine go_iload2 hc dX14_hill_99 ?_
    refine go_bipush (v := 18) hc dX14_hill_100 rfl ?_
    refine go_icmp_ge hc 118 dX14_hill_102 rfl (fun c41 => ?_) (fun c41 => ?_)
    · replace h := goIfF h c41
      cases h
      exact kx _ _
    · replace h := goIfT h c41
      refine go_aload0 hc dX14_hill_105 ?_
      refine go_getR hc lk_RX14_21 dX14_hill_106 (sh_102 hW) (rf_102_18 hW) ?_
      refine go_iload2 hc dX14_hill_109 ?_
      refine go_iconst (v := 0) hc dX14_hill_110 rfl ?_
      replace h := goBind h; obtain ⟨M42, e43, h⟩ := h
      refine go_iast hc dX14_hill_111 (sh_105 hW) e43 ?_
      refine go_iinc2 (v := (v2 + 1)) hc dX14_hill_112 rfl ?_
      refine go_goto hc 99 dX14_hill_115 rfl ?_
      exact ih _ _ _ h kx _
set_option maxRecDepth 100000 in
set_option maxHeartbeats 4000000 in
theorem mX14_hill {E : goEv} {l : Launch} {G : goG} {N : Nat} {M : goMI} {L : goML} {R : goMR} {v1 : Int32} {r0 : Int32} {r1 : goMI} {r2 : goML} {r3 : goMR} {r4 : Bool} (hk : goKn E) (hW : goW G R) (hle : G.2 + 26 ≤ 1000000) (h : fX14_hill N M L R G.2 v1 = some (r0, r1, r2, r3, r4)) : Met l yX14_hill (goCd yX14_hill cX14_hill 3 (Option.some FieldType.int)) (goRoom 13 284 26 509) (goPre E [.ref 102, .int v1] G M L R) (goQi E r0 (cond r4 (goGb G goMsh) G) r1 r2 r3) 26 509 (goSet E) := by
  refine goMet pl_RX14 hk (lv := [some (.ref 102), some (.int v1), none]) rfl (Nat.le_of_ble_eq_true rfl) ?_
  intro X hc hl hR hr hnm
  subst hl
  unfold fX14_hill at h
  refine go_aload0 hc dX14_hill_0 ?_
  refine go_iconst (v := 0) hc dX14_hill_1 rfl ?_
  replace h := goNm_x h; obtain ⟨M11, e12, h⟩ := h
  refine go_ptI hc lk_RX14_66 dX14_hill_2 (sh_102 hW) e12 ?_
  refine go_iload1 hc dX14_hill_5 ?_
  refine go_if_lt hc 17 dX14_hill_6 rfl (fun c13 => ?_) (fun c13 => ?_)
  · replace h := goIfF h c13
    refine go_aload0 hc dX14_hill_17 ?_
    refine go_iconst (v := 2) hc dX14_hill_18 rfl ?_
    replace h := goB2_h h; obtain ⟨x14, M15, e16, h⟩ := h
    refine go_callVi hc dX14_hill_19 (mX14_refused hk hW e16) ml_RX14_72 yk_X14_refused ⟨wim_X14_refused, wse_X14_refused⟩ hR rfl (sh_102 hW) rfl rfl rfl (Nat.le_of_ble_eq_true rfl) rfl ?_
    cases h
    refine go_widen (k := 26) (n := 509) (by omega) (by omega) ?_
    exact go_iret hc dX14_hill_22 hr
  · replace h := goIfT h c13
    refine go_iload1 hc dX14_hill_9 ?_
    refine go_aload0 hc dX14_hill_10 ?_
    refine go_getI hc lk_RX14_435 dX14_hill_11 (sh_102 hW) ?_
    refine go_icmp_le hc 23 dX14_hill_14 rfl (fun c17 => ?_) (fun c17 => ?_)
    · replace h := goIfF h c17
      refine go_aload0 hc dX14_hill_23 ?_
      refine go_iload1 hc dX14_hill_24 ?_
      replace h := goNm_x h; obtain ⟨M18, e19, h⟩ := h
      refine go_ptI hc lk_RX14_79 dX14_hill_25 (sh_102 hW) e19 ?_
      refine go_aload0 hc dX14_hill_28 ?_
      refine go_iconst (v := 0) hc dX14_hill_29 rfl ?_
      replace h := goNm_x h; obtain ⟨M20, e21, h⟩ := h
      refine go_ptI hc lk_RX14_435 dX14_hill_30 (sh_102 hW) e21 ?_
      refine go_aload0 hc dX14_hill_33 ?_
      refine go_iconst (v := 0) hc dX14_hill_34 rfl ?_
      replace h := goNm_x h; obtain ⟨M22, e23, h⟩ := h
      refine go_ptI hc lk_RX14_97 dX14_hill_35 (sh_102 hW) e23 ?_
      refine go_aload0 hc dX14_hill_38 ?_
      refine go_iconst (v := 0) hc dX14_hill_39 rfl ?_
      replace h := goNm_x h; obtain ⟨M24, e25, h⟩ := h
      refine go_ptI hc lk_RX14_126 dX14_hill_40 (sh_102 hW) e25 ?_
      refine go_aload0 hc dX14_hill_43 ?_
      replace h := goNm_x h; obtain ⟨M26, e28, h⟩ := h
      replace h := goNm_x h; obtain ⟨L27, e29, h⟩ := h
      have hz : goZe G.2 M26 L27 (goClR R G.2) := by rw [e28, e29]; exact goClr_Z
      refine go_clr e28 e29 rfl ?_
      refine go_gnil ?_
      refine go_new hc (j := 0) rfl dX14_hill_44 wcl_RX14_197 wia_RX13 win_RX13 cl_11 df_11 hz (by omega) hR rfl ?_
      refine go_dupr hc dX14_hill_47 ?_
      refine go_callIv hc dX14_hill_48 (mX13_init hk (goGb_at 0 (Nat.le_of_ble_eq_true rfl) rfl) (show goZe (G.2 + 1) _ _ _ from hz.mono (by omega)) (show G.2 + 1 + 25 ≤ 1000000 by omega)) ml_RX14_438 yk_X13_init wim_X13_init rfl hR rfl rfl rfl (Nat.le_of_ble_eq_true rfl) rfl ?_
      refine go_gapp ?_
      refine go_putR hc (.object "GoatCourtModel$Hill") lk_RX14_192 (by decide +kernel) (fun _ => ⟨rfl, rfl⟩) dX14_hill_51 (goGb_lt (sh_102 hW)) ?_
      replace hW := goW_hill hW
      show goA E X (goGb G goMsh) 26 509 _ _ _ _ _ _ (goNewR R G.2)
      refine go_aload0 hc dX14_hill_54 ?_
      refine go_iconst (v := 0) hc dX14_hill_55 rfl ?_
      replace h := goNm_x h; obtain ⟨M30, e31, h⟩ := h
      refine go_ptI hc lk_RX14_94 dX14_hill_56 (sh_102 hW) e31 ?_
      refine go_aload0 hc dX14_hill_59 ?_
      replace h := goB2_h h; obtain ⟨M32, L33, e34, h⟩ := h
      refine go_callVv hc dX14_hill_60 (mX14_goesOn hk hW e34) ml_RX14_136 yk_X14_goesOn ⟨wim_X14_goesOn, wse_X14_goesOn⟩ hR rfl (sh_102 hW) rfl rfl rfl (Nat.le_of_ble_eq_true rfl) rfl ?_
      refine go_aload0 hc dX14_hill_63 ?_
      replace h := goB2_h h; obtain ⟨M35, L36, e37, h⟩ := h
      refine go_callVv hc dX14_hill_64 (mX14_readAll hk hW e37) ml_RX14_439 yk_X14_readAll ⟨wim_X14_readAll, wse_X14_readAll⟩ hR rfl (sh_102 hW) rfl rfl rfl (Nat.le_of_ble_eq_true rfl) rfl ?_
      refine go_aload0 hc dX14_hill_67 ?_
      refine go_getI hc lk_RX14_126 dX14_hill_68 (sh_102 hW) ?_
      refine go_if_le hc 89 dX14_hill_71 rfl (fun c38 => ?_) (fun c38 => ?_)
      · replace h := goIfF h c38
        refine go_aload0 hc dX14_hill_89 ?_
        refine go_aload0 hc dX14_hill_90 ?_
        replace h := goBind h; obtain ⟨b39, e40, h⟩ := h
        refine go_getR hc lk_RX14_192 dX14_hill_91 (sh_102 hW) e40 ?_
        refine go_putR hc (.object "GoatCourtModel$Hill") lk_RX14_442 (by decide +kernel) (fun _ => ⟨rfl, rfl⟩) dX14_hill_94 (sh_102 hW) ?_
        replace hW := goW_setM hW (Or.inl rfl) (goW_M4 hW e40)
        refine go_iconst (v := 0) hc dX14_hill_97 rfl ?_
        refine go_istore2 hc dX14_hill_98 ?_
        replace h := goBind h; obtain ⟨M45, e44, h⟩ := h
        refine mX14_hill_L99 hc hk hR hr hW _ _ _ _ e44 (fun d1 d2 => ?_) _
        refine go_aload0 hc dX14_hill_118 ?_
        refine go_getR hc lk_RX14_21 dX14_hill_119 (sh_102 hW) (rf_102_18 hW) ?_
        refine go_bipush (v := 17) hc dX14_hill_122 rfl ?_
        refine go_bipush (v := 63) hc dX14_hill_124 rfl ?_
        replace h := goBind h; obtain ⟨M46, e47, h⟩ := h
        refine go_iast hc dX14_hill_126 (sh_105 hW) e47 ?_
        refine go_aload0 hc dX14_hill_127 ?_
        refine go_iconst (v := 0) hc dX14_hill_128 rfl ?_
        replace h := goNm_x h; obtain ⟨M48, e49, h⟩ := h
        refine go_ptI hc lk_RX14_444 dX14_hill_129 (sh_102 hW) e49 ?_
        refine go_aload0 hc dX14_hill_132 ?_
        refine go_iconst (v := 0) hc dX14_hill_133 rfl ?_
        replace h := goNm_x h; obtain ⟨M50, e51, h⟩ := h
        refine go_ptI hc lk_RX14_447 dX14_hill_134 (sh_102 hW) e51 ?_
        refine go_aload0 hc dX14_hill_137 ?_
        refine go_aload0 hc dX14_hill_138 ?_
        replace h := goBind h; obtain ⟨b52, e53, h⟩ := h
        refine go_getR hc lk_RX14_442 dX14_hill_139 (sh_102 hW) e53 ?_
        replace h := goBind h; obtain ⟨x54, e55, h⟩ := h
        refine go_callVi hc dX14_hill_142 (mX13_cases hk hW (goW_M3 hW e53) e55) ml_RX14_450 yk_X13_cases ⟨wim_X13_cases, wse_X13_cases⟩ hR rfl (shM_0 (goW_M3 hW e53)) rfl rfl rfl (Nat.le_of_ble_eq_true rfl) rfl ?_
        replace h := goB2_h h; obtain ⟨x56, M57, e58, h⟩ := h
        refine go_callVi hc dX14_hill_145 (mX14_good hk hW e58) ml_RX14_76 yk_X14_good ⟨wim_X14_good, wse_X14_good⟩ hR rfl (sh_102 hW) rfl rfl rfl (Nat.le_of_ble_eq_true rfl) rfl ?_
        cases h
        exact go_iret hc dX14_hill_148 hr
      · replace h := goIfT h c38
        refine go_aload0 hc dX14_hill_74 ?_
        refine go_iconst (v := 4) hc dX14_hill_75 rfl ?_
        replace h := goNm_x h; obtain ⟨M59, e60, h⟩ := h
        refine go_ptI hc lk_RX14_69 dX14_hill_76 (sh_102 hW) e60 ?_
        refine go_aload0 hc dX14_hill_79 ?_
        refine go_aload0 hc dX14_hill_80 ?_
        refine go_getI hc lk_RX14_129 dX14_hill_81 (sh_102 hW) ?_
        replace h := goNm_x h; obtain ⟨M61, e62, h⟩ := h
        refine go_ptI hc lk_RX14_9 dX14_hill_84 (sh_102 hW) e62 ?_
        refine go_iconst (v := (-1)) hc dX14_hill_87 rfl ?_
        cases h
        exact go_iret hc dX14_hill_88 hr
    · replace h := goIfT h c17
      refine go_aload0 hc dX14_hill_17 ?_
      refine go_iconst (v := 2) hc dX14_hill_18 rfl ?_
      replace h := goB2_h h; obtain ⟨x63, M64, e65, h⟩ := h
      refine go_callVi hc dX14_hill_19 (mX14_refused hk hW e65) ml_RX14_72 yk_X14_refused ⟨wim_X14_refused, wse_X14_refused⟩ hR rfl (sh_102 hW) rfl rfl rfl (Nat.le_of_ble_eq_true rfl) rfl ?_
      cases h
      refine go_widen (k := 26) (n := 509) (by omega) (by omega) ?_
      exact go_iret hc dX14_hill_22 hr
theorem dX14_fault_0 : decode cX14_fault 0 = .ok (.aload_n 0, 1) := by decide +kernel
theorem dX14_fault_1 : decode cX14_fault 1 = .ok (.iconst 0, 1) := by decide +kernel
theorem dX14_fault_2 : decode cX14_fault 2 = .ok (.putfield 66, 3) := by decide +kernel
theorem dX14_fault_5 : decode cX14_fault 5 = .ok (.aload_n 0, 1) := by decide +kernel
theorem dX14_fault_6 : decode cX14_fault 6 = .ok (.getfield 126, 3) := by decide +kernel
theorem dX14_fault_9 : decode cX14_fault 9 = .ok (.ireturn, 1) := by decide +kernel
set_option maxRecDepth 100000 in
set_option maxHeartbeats 4000000 in
theorem mX14_fault {E : goEv} {l : Launch} {G : goG} {M : goMI} {L : goML} {R : goMR} {r0 : Int32} {r1 : goMI} (hk : goKn E) (hW : goW G R) (h : fX14_fault M = some (r0, r1)) : Met l yX14_fault (goCd yX14_fault cX14_fault 1 (Option.some FieldType.int)) (goRoom 0 0 0 0) (goPre E [.ref 102] G M L R) (goQi E r0 G r1 L R) 0 0 (goSet E) := by
  refine goMet pl_RX14 hk (lv := [some (.ref 102)]) rfl (Nat.le_of_ble_eq_true rfl) ?_
  intro X hc hl hR hr hnm
  subst hl
  unfold fX14_fault at h
  refine go_aload0 hc dX14_fault_0 ?_
  refine go_iconst (v := 0) hc dX14_fault_1 rfl ?_
  replace h := goNm_x h; obtain ⟨M11, e12, h⟩ := h
  refine go_ptI hc lk_RX14_66 dX14_fault_2 (sh_102 hW) e12 ?_
  refine go_aload0 hc dX14_fault_5 ?_
  refine go_getI hc lk_RX14_126 dX14_fault_6 (sh_102 hW) ?_
  cases h
  exact go_iret hc dX14_fault_9 hr
theorem dX14_where_0 : decode cX14_where 0 = .ok (.aload_n 0, 1) := by decide +kernel
theorem dX14_where_1 : decode cX14_where 1 = .ok (.iconst 0, 1) := by decide +kernel
theorem dX14_where_2 : decode cX14_where 2 = .ok (.putfield 66, 3) := by decide +kernel
theorem dX14_where_5 : decode cX14_where 5 = .ok (.aload_n 0, 1) := by decide +kernel
theorem dX14_where_6 : decode cX14_where 6 = .ok (.getfield 9, 3) := by decide +kernel
theorem dX14_where_9 : decode cX14_where 9 = .ok (.ireturn, 1) := by decide +kernel
set_option maxRecDepth 100000 in
set_option maxHeartbeats 4000000 in
theorem mX14_where {E : goEv} {l : Launch} {G : goG} {M : goMI} {L : goML} {R : goMR} {r0 : Int32} {r1 : goMI} (hk : goKn E) (hW : goW G R) (h : fX14_where M = some (r0, r1)) : Met l yX14_where (goCd yX14_where cX14_where 1 (Option.some FieldType.int)) (goRoom 0 0 0 0) (goPre E [.ref 102] G M L R) (goQi E r0 G r1 L R) 0 0 (goSet E) := by
  refine goMet pl_RX14 hk (lv := [some (.ref 102)]) rfl (Nat.le_of_ble_eq_true rfl) ?_
  intro X hc hl hR hr hnm
  subst hl
  unfold fX14_where at h
  refine go_aload0 hc dX14_where_0 ?_
  refine go_iconst (v := 0) hc dX14_where_1 rfl ?_
  replace h := goNm_x h; obtain ⟨M11, e12, h⟩ := h
  refine go_ptI hc lk_RX14_66 dX14_where_2 (sh_102 hW) e12 ?_
  refine go_aload0 hc dX14_where_5 ?_
  refine go_getI hc lk_RX14_9 dX14_where_6 (sh_102 hW) ?_
  cases h
  exact go_iret hc dX14_where_9 hr
theorem dX14_isHeard_0 : decode cX14_isHeard 0 = .ok (.aload_n 0, 1) := by decide +kernel
theorem dX14_isHeard_1 : decode cX14_isHeard 1 = .ok (.getfield 21, 3) := by decide +kernel
theorem dX14_isHeard_4 : decode cX14_isHeard 4 = .ok (.bipush 17, 2) := by decide +kernel
theorem dX14_isHeard_6 : decode cX14_isHeard 6 = .ok (.iaload, 1) := by decide +kernel
theorem dX14_isHeard_7 : decode cX14_isHeard 7 = .ok (.iload_n 1, 1) := by decide +kernel
theorem dX14_isHeard_8 : decode cX14_isHeard 8 = .ok (.invokestatic 366, 3) := by decide +kernel
theorem dX14_isHeard_11 : decode cX14_isHeard 11 = .ok (.ireturn, 1) := by decide +kernel
set_option maxRecDepth 100000 in
set_option maxHeartbeats 4000000 in
theorem mX14_isHeard {E : goEv} {l : Launch} {G : goG} {M : goMI} {L : goML} {R : goMR} {v1 : Int32} {r0 : Int32} (hk : goKn E) (hW : goW G R) (h : fX14_isHeard M v1 = some r0) : Met l yX14_isHeard (goCd yX14_isHeard cX14_isHeard 2 (Option.some FieldType.boolean)) (goRoom 1 21 0 0) (goPre E [.ref 102, .int v1] G M L R) (goQi E r0 G M L R) 0 0 (goSet E) := by
  refine goMet pl_RX14 hk (lv := [some (.ref 102), some (.int v1)]) rfl (Nat.le_of_ble_eq_true rfl) ?_
  intro X hc hl hR hr hnm
  subst hl
  unfold fX14_isHeard at h
  refine go_aload0 hc dX14_isHeard_0 ?_
  refine go_getR hc lk_RX14_21 dX14_isHeard_1 (sh_102 hW) (rf_102_18 hW) ?_
  refine go_bipush (v := 17) hc dX14_isHeard_4 rfl ?_
  replace h := goBind h; obtain ⟨x11, e12, h⟩ := h
  refine go_iald hc dX14_isHeard_6 (sh_105 hW) e12 ?_
  refine go_iload1 hc dX14_isHeard_7 ?_
  refine go_callSi hc dX14_isHeard_8 (mX14_bit hk hW rfl) ml_RX14_366 yk_X14_bit wst_X14_bit hR rfl rfl rfl (Nat.le_of_ble_eq_true rfl) rfl ?_
  replace h := goBind h; obtain ⟨x13, e14, h⟩ := h
  obtain ⟨ze14, rfl⟩ := goZr_h e14
  cases h
  exact go_zret hc dX14_isHeard_11 hr (goZ_n ze14)
theorem dX14_fears_0 : decode cX14_fears 0 = .ok (.aload_n 0, 1) := by decide +kernel
theorem dX14_fears_1 : decode cX14_fears 1 = .ok (.getfield 442, 3) := by decide +kernel
theorem dX14_fears_4 : decode cX14_fears 4 = .ok (.getfield 347, 3) := by decide +kernel
theorem dX14_fears_7 : decode cX14_fears 7 = .ok (.iload_n 2, 1) := by decide +kernel
theorem dX14_fears_8 : decode cX14_fears 8 = .ok (.iaload, 1) := by decide +kernel
theorem dX14_fears_9 : decode cX14_fears 9 = .ok (.iconst 2, 1) := by decide +kernel
theorem dX14_fears_10 : decode cX14_fears 10 = .ok (.if_icmp .ne 5, 3) := by decide +kernel
theorem dX14_fears_13 : decode cX14_fears 13 = .ok (.iconst 0, 1) := by decide +kernel
theorem dX14_fears_14 : decode cX14_fears 14 = .ok (.ireturn, 1) := by decide +kernel
theorem dX14_fears_15 : decode cX14_fears 15 = .ok (.aload_n 0, 1) := by decide +kernel
theorem dX14_fears_16 : decode cX14_fears 16 = .ok (.getfield 21, 3) := by decide +kernel
theorem dX14_fears_19 : decode cX14_fears 19 = .ok (.bipush 8, 2) := by decide +kernel
theorem dX14_fears_21 : decode cX14_fears 21 = .ok (.iload_n 3, 1) := by decide +kernel
theorem dX14_fears_22 : decode cX14_fears 22 = .ok (.iadd, 1) := by decide +kernel
theorem dX14_fears_23 : decode cX14_fears 23 = .ok (.iaload, 1) := by decide +kernel
theorem dX14_fears_24 : decode cX14_fears 24 = .ok (.iload 4, 2) := by decide +kernel
theorem dX14_fears_26 : decode cX14_fears 26 = .ok (.invokestatic 366, 3) := by decide +kernel
theorem dX14_fears_29 : decode cX14_fears 29 = .ok (.ifCond .eq 5, 3) := by decide +kernel
theorem dX14_fears_32 : decode cX14_fears 32 = .ok (.iconst 1, 1) := by decide +kernel
theorem dX14_fears_33 : decode cX14_fears 33 = .ok (.ireturn, 1) := by decide +kernel
theorem dX14_fears_34 : decode cX14_fears 34 = .ok (.iconst 0, 1) := by decide +kernel
theorem dX14_fears_35 : decode cX14_fears 35 = .ok (.istore 5, 2) := by decide +kernel
theorem dX14_fears_37 : decode cX14_fears 37 = .ok (.iload 5, 2) := by decide +kernel
theorem dX14_fears_39 : decode cX14_fears 39 = .ok (.aload_n 0, 1) := by decide +kernel
theorem dX14_fears_40 : decode cX14_fears 40 = .ok (.getfield 442, 3) := by decide +kernel
theorem dX14_fears_43 : decode cX14_fears 43 = .ok (.getfield 320, 3) := by decide +kernel
theorem dX14_fears_46 : decode cX14_fears 46 = .ok (.if_icmp .ge 57, 3) := by decide +kernel
theorem dX14_fears_49 : decode cX14_fears 49 = .ok (.aload_n 0, 1) := by decide +kernel
theorem dX14_fears_50 : decode cX14_fears 50 = .ok (.getfield 442, 3) := by decide +kernel
theorem dX14_fears_53 : decode cX14_fears 53 = .ok (.iload_n 1, 1) := by decide +kernel
theorem dX14_fears_54 : decode cX14_fears 54 = .ok (.iload 5, 2) := by decide +kernel
theorem dX14_fears_56 : decode cX14_fears 56 = .ok (.iload 4, 2) := by decide +kernel
theorem dX14_fears_58 : decode cX14_fears 58 = .ok (.invokevirtual 453, 3) := by decide +kernel
theorem dX14_fears_61 : decode cX14_fears 61 = .ok (.iload_n 3, 1) := by decide +kernel
theorem dX14_fears_62 : decode cX14_fears 62 = .ok (.if_icmp .ne 35, 3) := by decide +kernel
theorem dX14_fears_65 : decode cX14_fears 65 = .ok (.aload_n 0, 1) := by decide +kernel
theorem dX14_fears_66 : decode cX14_fears 66 = .ok (.getfield 442, 3) := by decide +kernel
theorem dX14_fears_69 : decode cX14_fears 69 = .ok (.getfield 347, 3) := by decide +kernel
theorem dX14_fears_72 : decode cX14_fears 72 = .ok (.iload_n 2, 1) := by decide +kernel
theorem dX14_fears_73 : decode cX14_fears 73 = .ok (.iaload, 1) := by decide +kernel
theorem dX14_fears_74 : decode cX14_fears 74 = .ok (.iconst 1, 1) := by decide +kernel
theorem dX14_fears_75 : decode cX14_fears 75 = .ok (.if_icmp .eq 20, 3) := by decide +kernel
theorem dX14_fears_78 : decode cX14_fears 78 = .ok (.aload_n 0, 1) := by decide +kernel
theorem dX14_fears_79 : decode cX14_fears 79 = .ok (.getfield 442, 3) := by decide +kernel
theorem dX14_fears_82 : decode cX14_fears 82 = .ok (.getfield 363, 3) := by decide +kernel
theorem dX14_fears_85 : decode cX14_fears 85 = .ok (.iload_n 2, 1) := by decide +kernel
theorem dX14_fears_86 : decode cX14_fears 86 = .ok (.iaload, 1) := by decide +kernel
theorem dX14_fears_87 : decode cX14_fears 87 = .ok (.iload 5, 2) := by decide +kernel
theorem dX14_fears_89 : decode cX14_fears 89 = .ok (.invokestatic 366, 3) := by decide +kernel
theorem dX14_fears_92 : decode cX14_fears 92 = .ok (.ifCond .eq 5, 3) := by decide +kernel
theorem dX14_fears_95 : decode cX14_fears 95 = .ok (.iconst 1, 1) := by decide +kernel
theorem dX14_fears_96 : decode cX14_fears 96 = .ok (.ireturn, 1) := by decide +kernel
theorem dX14_fears_97 : decode cX14_fears 97 = .ok (.iinc 5 1, 3) := by decide +kernel
theorem dX14_fears_100 : decode cX14_fears 100 = .ok (.goto (-63), 3) := by decide +kernel
theorem dX14_fears_103 : decode cX14_fears 103 = .ok (.iconst 0, 1) := by decide +kernel
theorem dX14_fears_104 : decode cX14_fears 104 = .ok (.ireturn, 1) := by decide +kernel
set_option maxRecDepth 100000 in
set_option maxHeartbeats 4000000 in
theorem mX14_fears_L37 {E : goEv} {X : goX} {G : goG} {M : goMI} {L : goML} {R : goMR} {N : Nat} {v1 : Int32} {v2 : Int32} {v3 : Int32} {v4 : Int32} {r0 : Int32} (hc : goCx E X cX14_fears RX14 6) (hk : goKn E) (hR : X.2.2.2.1 = goRoom 2 47 0 0) (hr : X.2.2.2.2.2.2.2.2.1.sig.returnType = (Option.some FieldType.boolean)) (hW : goW G R) : ∀ (n : Nat) (v5 : Int32), lX14_fears_37 N v1 v2 v3 v4 M R n v5 = some r0 → goA E X G 0 0 (goMQ X E (goQi E r0 G M L R) 0 0) 37 [some (.ref 102), some (.int v1), some (.int v2), some (.int v3), some (.int v4), some (.int v5)] [] M L R := by
  intro n
  induction n with
  | zero => intro v5 h; exact nomatch h
  | succ n ih =>
    intro v5 h
    rw [lX14_fears_37] at h
    refine go_iload5 hc dX14_fears_37 ?_
    refine go_aload0 hc dX14_fears_39 ?_
    replace h := goBind h; obtain ⟨b19, e20, h⟩ := h
    refine go_getR hc lk_RX14_442 dX14_fears_40 (sh_102 hW) e20 ?_
    refine go_getI hc lk_RX14_320 dX14_fears_43 (shM_0 (goW_M3 hW e20)) ?_
    refine go_icmp_ge hc 103 dX14_fears_46 rfl (fun c21 => ?_) (fun c21 => ?_)
    · replace h := goIfF h c21
      refine go_iconst (v := 0) hc dX14_fears_103 rfl ?_
      cases h
      exact go_zret hc dX14_fears_104 hr rfl
    · replace h := goIfT h c21
      refine go_aload0 hc dX14_fears_49 ?_
      replace h := goBind h; obtain ⟨b22, e23, h⟩ := h
      refine go_getR hc lk_RX14_442 dX14_fears_50 (sh_102 hW) e23 ?_
      refine go_iload1 hc dX14_fears_53 ?_
      refine go_iload5 hc dX14_fears_54 ?_
      refine go_iload4 hc dX14_fears_56 ?_
      replace h := goBind h; obtain ⟨x24, e25, h⟩ := h
      refine go_callVi hc dX14_fears_58 (mX13_placeIn hk hW (goW_M3 hW e23) e25) ml_RX14_453 yk_X13_placeIn ⟨wim_X13_placeIn, wse_X13_placeIn⟩ hR rfl (shM_0 (goW_M3 hW e23)) rfl rfl rfl (Nat.le_of_ble_eq_true rfl) rfl ?_
      refine go_iload3 hc dX14_fears_61 ?_
      refine go_icmp_ne hc 97 dX14_fears_62 rfl (fun c26 => ?_) (fun c26 => ?_)
      · replace h := goIfF h c26
        refine go_iinc5 (v := (v5 + 1)) hc dX14_fears_97 rfl ?_
        refine go_goto hc 37 dX14_fears_100 rfl ?_
        exact ih _ h
      · replace h := goIfT h c26
        refine go_aload0 hc dX14_fears_65 ?_
        replace h := goBind h; obtain ⟨b27, e28, h⟩ := h
        refine go_getR hc lk_RX14_442 dX14_fears_66 (sh_102 hW) e28 ?_
        refine go_getR hc lk_RX14_347 dX14_fears_69 (shM_0 (goW_M3 hW e28)) (rfM_21 (goW_M3 hW e28)) ?_
        refine go_iload2 hc dX14_fears_72 ?_
        replace h := goBind h; obtain ⟨x29, e30, h⟩ := h
        refine go_iald hc dX14_fears_73 (shM_6 (goW_M3 hW e28)) e30 ?_
        refine go_iconst (v := 1) hc dX14_fears_74 rfl ?_
        refine go_icmp_eq hc 95 dX14_fears_75 rfl (fun c31 => ?_) (fun c31 => ?_)
        · replace h := goIfT h c31
          refine go_iconst (v := 1) hc dX14_fears_95 rfl ?_
          cases h
          exact go_zret hc dX14_fears_96 hr rfl
        · replace h := goIfF h c31
          refine go_aload0 hc dX14_fears_78 ?_
          replace h := goBind h; obtain ⟨b32, e33, h⟩ := h
          refine go_getR hc lk_RX14_442 dX14_fears_79 (sh_102 hW) e33 ?_
          refine go_getR hc lk_RX14_363 dX14_fears_82 (shM_0 (goW_M3 hW e33)) (rfM_27 (goW_M3 hW e33)) ?_
          refine go_iload2 hc dX14_fears_85 ?_
          replace h := goBind h; obtain ⟨x34, e35, h⟩ := h
          refine go_iald hc dX14_fears_86 (shM_12 (goW_M3 hW e33)) e35 ?_
          refine go_iload5 hc dX14_fears_87 ?_
          refine go_callSi hc dX14_fears_89 (mX14_bit hk hW rfl) ml_RX14_366 yk_X14_bit wst_X14_bit hR rfl rfl rfl (Nat.le_of_ble_eq_true rfl) rfl ?_
          refine go_if_eq hc 97 dX14_fears_92 rfl (fun c36 => ?_) (fun c36 => ?_)
          · replace h := goIfT h c36
            refine go_iinc5 (v := (v5 + 1)) hc dX14_fears_97 rfl ?_
            refine go_goto hc 37 dX14_fears_100 rfl ?_
            exact ih _ h
          · replace h := goIfF h c36
            refine go_iconst (v := 1) hc dX14_fears_95 rfl ?_
            cases h
            exact go_zret hc dX14_fears_96 hr rfl
set_option maxRecDepth 100000 in
set_option maxHeartbeats 4000000 in
theorem mX14_fears {E : goEv} {l : Launch} {G : goG} {N : Nat} {M : goMI} {L : goML} {R : goMR} {v1 : Int32} {v2 : Int32} {v3 : Int32} {v4 : Int32} {r0 : Int32} (hk : goKn E) (hW : goW G R) (h : fX14_fears N M R v1 v2 v3 v4 = some r0) : Met l yX14_fears (goCd yX14_fears cX14_fears 6 (Option.some FieldType.boolean)) (goRoom 2 47 0 0) (goPre E [.ref 102, .int v1, .int v2, .int v3, .int v4] G M L R) (goQi E r0 G M L R) 0 0 (goSet E) := by
  refine goMet pl_RX14 hk (lv := [some (.ref 102), some (.int v1), some (.int v2), some (.int v3), some (.int v4), none]) rfl (Nat.le_of_ble_eq_true rfl) ?_
  intro X hc hl hR hr hnm
  subst hl
  unfold fX14_fears at h
  refine go_aload0 hc dX14_fears_0 ?_
  replace h := goBind h; obtain ⟨b11, e12, h⟩ := h
  refine go_getR hc lk_RX14_442 dX14_fears_1 (sh_102 hW) e12 ?_
  refine go_getR hc lk_RX14_347 dX14_fears_4 (shM_0 (goW_M3 hW e12)) (rfM_21 (goW_M3 hW e12)) ?_
  refine go_iload2 hc dX14_fears_7 ?_
  replace h := goBind h; obtain ⟨x13, e14, h⟩ := h
  refine go_iald hc dX14_fears_8 (shM_6 (goW_M3 hW e12)) e14 ?_
  refine go_iconst (v := 2) hc dX14_fears_9 rfl ?_
  refine go_icmp_ne hc 15 dX14_fears_10 rfl (fun c15 => ?_) (fun c15 => ?_)
  · replace h := goIfF h c15
    refine go_aload0 hc dX14_fears_15 ?_
    refine go_getR hc lk_RX14_21 dX14_fears_16 (sh_102 hW) (rf_102_18 hW) ?_
    refine go_bipush (v := 8) hc dX14_fears_19 rfl ?_
    refine go_iload3 hc dX14_fears_21 ?_
    refine go_iadd hc dX14_fears_22 ?_
    replace h := goBind h; obtain ⟨x16, e17, h⟩ := h
    refine go_iald hc dX14_fears_23 (sh_105 hW) e17 ?_
    refine go_iload4 hc dX14_fears_24 ?_
    refine go_callSi hc dX14_fears_26 (mX14_bit hk hW rfl) ml_RX14_366 yk_X14_bit wst_X14_bit hR rfl rfl rfl (Nat.le_of_ble_eq_true rfl) rfl ?_
    refine go_if_eq hc 34 dX14_fears_29 rfl (fun c18 => ?_) (fun c18 => ?_)
    · replace h := goIfT h c18
      refine go_iconst (v := 0) hc dX14_fears_34 rfl ?_
      refine go_istore5 hc dX14_fears_35 ?_
      exact mX14_fears_L37 hc hk hR hr hW _ _ h
    · replace h := goIfF h c18
      refine go_iconst (v := 1) hc dX14_fears_32 rfl ?_
      cases h
      exact go_zret hc dX14_fears_33 hr rfl
  · replace h := goIfT h c15
    refine go_iconst (v := 0) hc dX14_fears_13 rfl ?_
    cases h
    exact go_zret hc dX14_fears_14 hr rfl
theorem dX14_plantAt_0 : decode cX14_plantAt 0 = .ok (.iconst 0, 1) := by decide +kernel
theorem dX14_plantAt_1 : decode cX14_plantAt 1 = .ok (.istore_n 3, 1) := by decide +kernel
theorem dX14_plantAt_2 : decode cX14_plantAt 2 = .ok (.iload_n 3, 1) := by decide +kernel
theorem dX14_plantAt_3 : decode cX14_plantAt 3 = .ok (.aload_n 0, 1) := by decide +kernel
theorem dX14_plantAt_4 : decode cX14_plantAt 4 = .ok (.getfield 442, 3) := by decide +kernel
theorem dX14_plantAt_7 : decode cX14_plantAt 7 = .ok (.getfield 353, 3) := by decide +kernel
theorem dX14_plantAt_10 : decode cX14_plantAt 10 = .ok (.iload_n 1, 1) := by decide +kernel
theorem dX14_plantAt_11 : decode cX14_plantAt 11 = .ok (.iaload, 1) := by decide +kernel
theorem dX14_plantAt_12 : decode cX14_plantAt 12 = .ok (.if_icmp .ge 48, 3) := by decide +kernel
theorem dX14_plantAt_15 : decode cX14_plantAt 15 = .ok (.aload_n 0, 1) := by decide +kernel
theorem dX14_plantAt_16 : decode cX14_plantAt 16 = .ok (.getfield 39, 3) := by decide +kernel
theorem dX14_plantAt_19 : decode cX14_plantAt 19 = .ok (.iconst 4, 1) := by decide +kernel
theorem dX14_plantAt_20 : decode cX14_plantAt 20 = .ok (.iload_n 2, 1) := by decide +kernel
theorem dX14_plantAt_21 : decode cX14_plantAt 21 = .ok (.imul, 1) := by decide +kernel
theorem dX14_plantAt_22 : decode cX14_plantAt 22 = .ok (.aload_n 0, 1) := by decide +kernel
theorem dX14_plantAt_23 : decode cX14_plantAt 23 = .ok (.getfield 442, 3) := by decide +kernel
theorem dX14_plantAt_26 : decode cX14_plantAt 26 = .ok (.getfield 341, 3) := by decide +kernel
theorem dX14_plantAt_29 : decode cX14_plantAt 29 = .ok (.iconst 4, 1) := by decide +kernel
theorem dX14_plantAt_30 : decode cX14_plantAt 30 = .ok (.iload_n 1, 1) := by decide +kernel
theorem dX14_plantAt_31 : decode cX14_plantAt 31 = .ok (.imul, 1) := by decide +kernel
theorem dX14_plantAt_32 : decode cX14_plantAt 32 = .ok (.iload_n 3, 1) := by decide +kernel
theorem dX14_plantAt_33 : decode cX14_plantAt 33 = .ok (.iadd, 1) := by decide +kernel
theorem dX14_plantAt_34 : decode cX14_plantAt 34 = .ok (.iaload, 1) := by decide +kernel
theorem dX14_plantAt_35 : decode cX14_plantAt 35 = .ok (.iadd, 1) := by decide +kernel
theorem dX14_plantAt_36 : decode cX14_plantAt 36 = .ok (.iaload, 1) := by decide +kernel
theorem dX14_plantAt_37 : decode cX14_plantAt 37 = .ok (.ifCond .le 17, 3) := by decide +kernel
theorem dX14_plantAt_40 : decode cX14_plantAt 40 = .ok (.aload_n 0, 1) := by decide +kernel
theorem dX14_plantAt_41 : decode cX14_plantAt 41 = .ok (.getfield 442, 3) := by decide +kernel
theorem dX14_plantAt_44 : decode cX14_plantAt 44 = .ok (.getfield 341, 3) := by decide +kernel
theorem dX14_plantAt_47 : decode cX14_plantAt 47 = .ok (.iconst 4, 1) := by decide +kernel
theorem dX14_plantAt_48 : decode cX14_plantAt 48 = .ok (.iload_n 1, 1) := by decide +kernel
theorem dX14_plantAt_49 : decode cX14_plantAt 49 = .ok (.imul, 1) := by decide +kernel
theorem dX14_plantAt_50 : decode cX14_plantAt 50 = .ok (.iload_n 3, 1) := by decide +kernel
theorem dX14_plantAt_51 : decode cX14_plantAt 51 = .ok (.iadd, 1) := by decide +kernel
theorem dX14_plantAt_52 : decode cX14_plantAt 52 = .ok (.iaload, 1) := by decide +kernel
theorem dX14_plantAt_53 : decode cX14_plantAt 53 = .ok (.ireturn, 1) := by decide +kernel
theorem dX14_plantAt_54 : decode cX14_plantAt 54 = .ok (.iinc 3 1, 3) := by decide +kernel
theorem dX14_plantAt_57 : decode cX14_plantAt 57 = .ok (.goto (-55), 3) := by decide +kernel
theorem dX14_plantAt_60 : decode cX14_plantAt 60 = .ok (.iconst (-1), 1) := by decide +kernel
theorem dX14_plantAt_61 : decode cX14_plantAt 61 = .ok (.ireturn, 1) := by decide +kernel
set_option maxRecDepth 100000 in
set_option maxHeartbeats 4000000 in
theorem mX14_plantAt_L2 {E : goEv} {X : goX} {G : goG} {M : goMI} {L : goML} {R : goMR} {v1 : Int32} {v2 : Int32} {r0 : Int32} (hc : goCx E X cX14_plantAt RX14 4) (hk : goKn E) (hR : X.2.2.2.1 = goRoom 0 0 0 0) (hr : X.2.2.2.2.2.2.2.2.1.sig.returnType = (Option.some FieldType.int)) (hW : goW G R) : ∀ (n : Nat) (v3 : Int32), lX14_plantAt_2 v1 v2 M R n v3 = some r0 → goA E X G 0 0 (goMQ X E (goQi E r0 G M L R) 0 0) 2 [some (.ref 102), some (.int v1), some (.int v2), some (.int v3)] [] M L R := by
  intro n
  induction n with
  | zero => intro v3 h; exact nomatch h
  | succ n ih =>
    intro v3 h
    rw [lX14_plantAt_2] at h
    refine go_iload3 hc dX14_plantAt_2 ?_
    refine go_aload0 hc dX14_plantAt_3 ?_
    replace h := goBind h; obtain ⟨b11, e12, h⟩ := h
    refine go_getR hc lk_RX14_442 dX14_plantAt_4 (sh_102 hW) e12 ?_
    refine go_getR hc lk_RX14_353 dX14_plantAt_7 (shM_0 (goW_M3 hW e12)) (rfM_23 (goW_M3 hW e12)) ?_
    refine go_iload1 hc dX14_plantAt_10 ?_
    replace h := goBind h; obtain ⟨x13, e14, h⟩ := h
    refine go_iald hc dX14_plantAt_11 (shM_8 (goW_M3 hW e12)) e14 ?_
    refine go_icmp_ge hc 60 dX14_plantAt_12 rfl (fun c15 => ?_) (fun c15 => ?_)
    · replace h := goIfF h c15
      refine go_iconst (v := (-1)) hc dX14_plantAt_60 rfl ?_
      cases h
      exact go_iret hc dX14_plantAt_61 hr
    · replace h := goIfT h c15
      refine go_aload0 hc dX14_plantAt_15 ?_
      refine go_getR hc lk_RX14_39 dX14_plantAt_16 (sh_102 hW) (rf_102_26 hW) ?_
      refine go_iconst (v := 4) hc dX14_plantAt_19 rfl ?_
      refine go_iload2 hc dX14_plantAt_20 ?_
      refine go_imul hc dX14_plantAt_21 ?_
      refine go_aload0 hc dX14_plantAt_22 ?_
      replace h := goBind h; obtain ⟨b16, e17, h⟩ := h
      refine go_getR hc lk_RX14_442 dX14_plantAt_23 (sh_102 hW) e17 ?_
      refine go_getR hc lk_RX14_341 dX14_plantAt_26 (shM_0 (goW_M3 hW e17)) (rfM_24 (goW_M3 hW e17)) ?_
      refine go_iconst (v := 4) hc dX14_plantAt_29 rfl ?_
      refine go_iload1 hc dX14_plantAt_30 ?_
      refine go_imul hc dX14_plantAt_31 ?_
      refine go_iload3 hc dX14_plantAt_32 ?_
      refine go_iadd hc dX14_plantAt_33 ?_
      replace h := goBind h; obtain ⟨x18, e19, h⟩ := h
      refine go_iald hc dX14_plantAt_34 (shM_9 (goW_M3 hW e17)) e19 ?_
      refine go_iadd hc dX14_plantAt_35 ?_
      replace h := goBind h; obtain ⟨x20, e21, h⟩ := h
      refine go_iald hc dX14_plantAt_36 (sh_111 hW) e21 ?_
      refine go_if_le hc 54 dX14_plantAt_37 rfl (fun c22 => ?_) (fun c22 => ?_)
      · replace h := goIfF h c22
        refine go_iinc3 (v := (v3 + 1)) hc dX14_plantAt_54 rfl ?_
        refine go_goto hc 2 dX14_plantAt_57 rfl ?_
        exact ih _ h
      · replace h := goIfT h c22
        refine go_aload0 hc dX14_plantAt_40 ?_
        replace h := goBind h; obtain ⟨b23, e24, h⟩ := h
        refine go_getR hc lk_RX14_442 dX14_plantAt_41 (sh_102 hW) e24 ?_
        refine go_getR hc lk_RX14_341 dX14_plantAt_44 (shM_0 (goW_M3 hW e24)) (rfM_24 (goW_M3 hW e24)) ?_
        refine go_iconst (v := 4) hc dX14_plantAt_47 rfl ?_
        refine go_iload1 hc dX14_plantAt_48 ?_
        refine go_imul hc dX14_plantAt_49 ?_
        refine go_iload3 hc dX14_plantAt_50 ?_
        refine go_iadd hc dX14_plantAt_51 ?_
        replace h := goBind h; obtain ⟨x25, e26, h⟩ := h
        refine go_iald hc dX14_plantAt_52 (shM_9 (goW_M3 hW e24)) e26 ?_
        cases h
        exact go_iret hc dX14_plantAt_53 hr
set_option maxRecDepth 100000 in
set_option maxHeartbeats 4000000 in
theorem mX14_plantAt {E : goEv} {l : Launch} {G : goG} {N : Nat} {M : goMI} {L : goML} {R : goMR} {v1 : Int32} {v2 : Int32} {r0 : Int32} (hk : goKn E) (hW : goW G R) (h : fX14_plantAt N M R v1 v2 = some r0) : Met l yX14_plantAt (goCd yX14_plantAt cX14_plantAt 4 (Option.some FieldType.int)) (goRoom 0 0 0 0) (goPre E [.ref 102, .int v1, .int v2] G M L R) (goQi E r0 G M L R) 0 0 (goSet E) := by
  refine goMet pl_RX14 hk (lv := [some (.ref 102), some (.int v1), some (.int v2), none]) rfl (Nat.le_of_ble_eq_true rfl) ?_
  intro X hc hl hR hr hnm
  subst hl
  unfold fX14_plantAt at h
  refine go_iconst (v := 0) hc dX14_plantAt_0 rfl ?_
  refine go_istore3 hc dX14_plantAt_1 ?_
  exact mX14_plantAt_L2 hc hk hR hr hW _ _ h
theorem dX14_worth_0 : decode cX14_worth 0 = .ok (.aload_n 0, 1) := by decide +kernel
theorem dX14_worth_1 : decode cX14_worth 1 = .ok (.getfield 21, 3) := by decide +kernel
theorem dX14_worth_4 : decode cX14_worth 4 = .ok (.iconst 0, 1) := by decide +kernel
theorem dX14_worth_5 : decode cX14_worth 5 = .ok (.iload_n 2, 1) := by decide +kernel
theorem dX14_worth_6 : decode cX14_worth 6 = .ok (.iadd, 1) := by decide +kernel
theorem dX14_worth_7 : decode cX14_worth 7 = .ok (.iaload, 1) := by decide +kernel
theorem dX14_worth_8 : decode cX14_worth 8 = .ok (.iload_n 3, 1) := by decide +kernel
theorem dX14_worth_9 : decode cX14_worth 9 = .ok (.invokestatic 366, 3) := by decide +kernel
theorem dX14_worth_12 : decode cX14_worth 12 = .ok (.ifCond .eq 5, 3) := by decide +kernel
theorem dX14_worth_15 : decode cX14_worth 15 = .ok (.iconst 0, 1) := by decide +kernel
theorem dX14_worth_16 : decode cX14_worth 16 = .ok (.ireturn, 1) := by decide +kernel
theorem dX14_worth_17 : decode cX14_worth 17 = .ok (.iconst 0, 1) := by decide +kernel
theorem dX14_worth_18 : decode cX14_worth 18 = .ok (.istore 4, 2) := by decide +kernel
theorem dX14_worth_20 : decode cX14_worth 20 = .ok (.iload 4, 2) := by decide +kernel
theorem dX14_worth_22 : decode cX14_worth 22 = .ok (.aload_n 0, 1) := by decide +kernel
theorem dX14_worth_23 : decode cX14_worth 23 = .ok (.getfield 442, 3) := by decide +kernel
theorem dX14_worth_26 : decode cX14_worth 26 = .ok (.getfield 353, 3) := by decide +kernel
theorem dX14_worth_29 : decode cX14_worth 29 = .ok (.iload_n 1, 1) := by decide +kernel
theorem dX14_worth_30 : decode cX14_worth 30 = .ok (.iaload, 1) := by decide +kernel
theorem dX14_worth_31 : decode cX14_worth 31 = .ok (.if_icmp .ge 40, 3) := by decide +kernel
theorem dX14_worth_34 : decode cX14_worth 34 = .ok (.aload_n 0, 1) := by decide +kernel
theorem dX14_worth_35 : decode cX14_worth 35 = .ok (.getfield 39, 3) := by decide +kernel
theorem dX14_worth_38 : decode cX14_worth 38 = .ok (.iconst 4, 1) := by decide +kernel
theorem dX14_worth_39 : decode cX14_worth 39 = .ok (.iload_n 2, 1) := by decide +kernel
theorem dX14_worth_40 : decode cX14_worth 40 = .ok (.imul, 1) := by decide +kernel
theorem dX14_worth_41 : decode cX14_worth 41 = .ok (.aload_n 0, 1) := by decide +kernel
theorem dX14_worth_42 : decode cX14_worth 42 = .ok (.getfield 442, 3) := by decide +kernel
theorem dX14_worth_45 : decode cX14_worth 45 = .ok (.getfield 341, 3) := by decide +kernel
theorem dX14_worth_48 : decode cX14_worth 48 = .ok (.iconst 4, 1) := by decide +kernel
theorem dX14_worth_49 : decode cX14_worth 49 = .ok (.iload_n 1, 1) := by decide +kernel
theorem dX14_worth_50 : decode cX14_worth 50 = .ok (.imul, 1) := by decide +kernel
theorem dX14_worth_51 : decode cX14_worth 51 = .ok (.iload 4, 2) := by decide +kernel
theorem dX14_worth_53 : decode cX14_worth 53 = .ok (.iadd, 1) := by decide +kernel
theorem dX14_worth_54 : decode cX14_worth 54 = .ok (.iaload, 1) := by decide +kernel
theorem dX14_worth_55 : decode cX14_worth 55 = .ok (.iadd, 1) := by decide +kernel
theorem dX14_worth_56 : decode cX14_worth 56 = .ok (.iaload, 1) := by decide +kernel
theorem dX14_worth_57 : decode cX14_worth 57 = .ok (.ifCond .le 8, 3) := by decide +kernel
theorem dX14_worth_60 : decode cX14_worth 60 = .ok (.iload 4, 2) := by decide +kernel
theorem dX14_worth_62 : decode cX14_worth 62 = .ok (.iconst 1, 1) := by decide +kernel
theorem dX14_worth_63 : decode cX14_worth 63 = .ok (.iadd, 1) := by decide +kernel
theorem dX14_worth_64 : decode cX14_worth 64 = .ok (.ireturn, 1) := by decide +kernel
theorem dX14_worth_65 : decode cX14_worth 65 = .ok (.iinc 4 1, 3) := by decide +kernel
theorem dX14_worth_68 : decode cX14_worth 68 = .ok (.goto (-48), 3) := by decide +kernel
theorem dX14_worth_71 : decode cX14_worth 71 = .ok (.bipush 9, 2) := by decide +kernel
theorem dX14_worth_73 : decode cX14_worth 73 = .ok (.ireturn, 1) := by decide +kernel
set_option maxRecDepth 100000 in
set_option maxHeartbeats 4000000 in
theorem mX14_worth_L20 {E : goEv} {X : goX} {G : goG} {M : goMI} {L : goML} {R : goMR} {v1 : Int32} {v2 : Int32} {r0 : Int32} (hc : goCx E X cX14_worth RX14 5) (hk : goKn E) (hR : X.2.2.2.1 = goRoom 1 21 0 0) (hr : X.2.2.2.2.2.2.2.2.1.sig.returnType = (Option.some FieldType.int)) (hW : goW G R) : ∀ (n : Nat) (v4 : Int32), lX14_worth_20 v1 v2 M R n v4 = some r0 → ∀ (d3 : Option Value), goA E X G 0 0 (goMQ X E (goQi E r0 G M L R) 0 0) 20 [some (.ref 102), some (.int v1), some (.int v2), d3, some (.int v4)] [] M L R := by
  intro n
  induction n with
  | zero => intro v4 h; exact nomatch h
  | succ n ih =>
    intro v4 h d3
    rw [lX14_worth_20] at h
    refine go_iload4 hc dX14_worth_20 ?_
    refine go_aload0 hc dX14_worth_22 ?_
    replace h := goBind h; obtain ⟨b14, e15, h⟩ := h
    refine go_getR hc lk_RX14_442 dX14_worth_23 (sh_102 hW) e15 ?_
    refine go_getR hc lk_RX14_353 dX14_worth_26 (shM_0 (goW_M3 hW e15)) (rfM_23 (goW_M3 hW e15)) ?_
    refine go_iload1 hc dX14_worth_29 ?_
    replace h := goBind h; obtain ⟨x16, e17, h⟩ := h
    refine go_iald hc dX14_worth_30 (shM_8 (goW_M3 hW e15)) e17 ?_
    refine go_icmp_ge hc 71 dX14_worth_31 rfl (fun c18 => ?_) (fun c18 => ?_)
    · replace h := goIfF h c18
      refine go_bipush (v := 9) hc dX14_worth_71 rfl ?_
      cases h
      exact go_iret hc dX14_worth_73 hr
    · replace h := goIfT h c18
      refine go_aload0 hc dX14_worth_34 ?_
      refine go_getR hc lk_RX14_39 dX14_worth_35 (sh_102 hW) (rf_102_26 hW) ?_
      refine go_iconst (v := 4) hc dX14_worth_38 rfl ?_
      refine go_iload2 hc dX14_worth_39 ?_
      refine go_imul hc dX14_worth_40 ?_
      refine go_aload0 hc dX14_worth_41 ?_
      replace h := goBind h; obtain ⟨b19, e20, h⟩ := h
      refine go_getR hc lk_RX14_442 dX14_worth_42 (sh_102 hW) e20 ?_
      refine go_getR hc lk_RX14_341 dX14_worth_45 (shM_0 (goW_M3 hW e20)) (rfM_24 (goW_M3 hW e20)) ?_
      refine go_iconst (v := 4) hc dX14_worth_48 rfl ?_
      refine go_iload1 hc dX14_worth_49 ?_
      refine go_imul hc dX14_worth_50 ?_
      refine go_iload4 hc dX14_worth_51 ?_
      refine go_iadd hc dX14_worth_53 ?_
      replace h := goBind h; obtain ⟨x21, e22, h⟩ := h
      refine go_iald hc dX14_worth_54 (shM_9 (goW_M3 hW e20)) e22 ?_
      refine go_iadd hc dX14_worth_55 ?_
      replace h := goBind h; obtain ⟨x23, e24, h⟩ := h
      refine go_iald hc dX14_worth_56 (sh_111 hW) e24 ?_
      refine go_if_le hc 65 dX14_worth_57 rfl (fun c25 => ?_) (fun c25 => ?_)
      · replace h := goIfF h c25
        refine go_iinc4 (v := (v4 + 1)) hc dX14_worth_65 rfl ?_
        refine go_goto hc 20 dX14_worth_68 rfl ?_
        exact ih _ h _
      · replace h := goIfT h c25
        refine go_iload4 hc dX14_worth_60 ?_
        refine go_iconst (v := 1) hc dX14_worth_62 rfl ?_
        refine go_iadd hc dX14_worth_63 ?_
        cases h
        exact go_iret hc dX14_worth_64 hr
set_option maxRecDepth 100000 in
set_option maxHeartbeats 4000000 in
theorem mX14_worth {E : goEv} {l : Launch} {G : goG} {N : Nat} {M : goMI} {L : goML} {R : goMR} {v1 : Int32} {v2 : Int32} {v3 : Int32} {r0 : Int32} (hk : goKn E) (hW : goW G R) (h : fX14_worth N M R v1 v2 v3 = some r0) : Met l yX14_worth (goCd yX14_worth cX14_worth 5 (Option.some FieldType.int)) (goRoom 1 21 0 0) (goPre E [.ref 102, .int v1, .int v2, .int v3] G M L R) (goQi E r0 G M L R) 0 0 (goSet E) := by
  refine goMet pl_RX14 hk (lv := [some (.ref 102), some (.int v1), some (.int v2), some (.int v3), none]) rfl (Nat.le_of_ble_eq_true rfl) ?_
  intro X hc hl hR hr hnm
  subst hl
  unfold fX14_worth at h
  refine go_aload0 hc dX14_worth_0 ?_
  refine go_getR hc lk_RX14_21 dX14_worth_1 (sh_102 hW) (rf_102_18 hW) ?_
  refine go_iconst (v := 0) hc dX14_worth_4 rfl ?_
  refine go_iload2 hc dX14_worth_5 ?_
  refine go_iadd hc dX14_worth_6 ?_
  replace h := goBind h; obtain ⟨x11, e12, h⟩ := h
  refine go_iald hc dX14_worth_7 (sh_105 hW) e12 ?_
  refine go_iload3 hc dX14_worth_8 ?_
  refine go_callSi hc dX14_worth_9 (mX14_bit hk hW rfl) ml_RX14_366 yk_X14_bit wst_X14_bit hR rfl rfl rfl (Nat.le_of_ble_eq_true rfl) rfl ?_
  refine go_if_eq hc 17 dX14_worth_12 rfl (fun c13 => ?_) (fun c13 => ?_)
  · replace h := goIfT h c13
    refine go_iconst (v := 0) hc dX14_worth_17 rfl ?_
    refine go_istore4 hc dX14_worth_18 ?_
    exact mX14_worth_L20 hc hk hR hr hW _ _ h _
  · replace h := goIfF h c13
    refine go_iconst (v := 0) hc dX14_worth_15 rfl ?_
    cases h
    exact go_iret hc dX14_worth_16 hr
