theorem dX14_ledAt_0 : decode cX14_ledAt 0 = .ok (.aload_n 0, 1) := by decide +kernel
theorem dX14_ledAt_1 : decode cX14_ledAt 1 = .ok (.iconst 0, 1) := by decide +kernel
theorem dX14_ledAt_2 : decode cX14_ledAt 2 = .ok (.putfield 66, 3) := by decide +kernel
theorem dX14_ledAt_5 : decode cX14_ledAt 5 = .ok (.aload_n 0, 1) := by decide +kernel
theorem dX14_ledAt_6 : decode cX14_ledAt 6 = .ok (.iload_n 1, 1) := by decide +kernel
theorem dX14_ledAt_7 : decode cX14_ledAt 7 = .ok (.iload_n 2, 1) := by decide +kernel
theorem dX14_ledAt_8 : decode cX14_ledAt 8 = .ok (.iload_n 3, 1) := by decide +kernel
theorem dX14_ledAt_9 : decode cX14_ledAt 9 = .ok (.iload 4, 2) := by decide +kernel
theorem dX14_ledAt_11 : decode cX14_ledAt 11 = .ok (.invokevirtual 568, 3) := by decide +kernel
theorem dX14_ledAt_14 : decode cX14_ledAt 14 = .ok (.istore 6, 2) := by decide +kernel
theorem dX14_ledAt_16 : decode cX14_ledAt 16 = .ok (.iload 6, 2) := by decide +kernel
theorem dX14_ledAt_18 : decode cX14_ledAt 18 = .ok (.ifCond .le 10, 3) := by decide +kernel
theorem dX14_ledAt_21 : decode cX14_ledAt 21 = .ok (.aload_n 0, 1) := by decide +kernel
theorem dX14_ledAt_22 : decode cX14_ledAt 22 = .ok (.iload 6, 2) := by decide +kernel
theorem dX14_ledAt_24 : decode cX14_ledAt 24 = .ok (.invokevirtual 72, 3) := by decide +kernel
theorem dX14_ledAt_27 : decode cX14_ledAt 27 = .ok (.ireturn, 1) := by decide +kernel
theorem dX14_ledAt_28 : decode cX14_ledAt 28 = .ok (.aload_n 0, 1) := by decide +kernel
theorem dX14_ledAt_29 : decode cX14_ledAt 29 = .ok (.iconst 0, 1) := by decide +kernel
theorem dX14_ledAt_30 : decode cX14_ledAt 30 = .ok (.iload_n 1, 1) := by decide +kernel
theorem dX14_ledAt_31 : decode cX14_ledAt 31 = .ok (.iload_n 2, 1) := by decide +kernel
theorem dX14_ledAt_32 : decode cX14_ledAt 32 = .ok (.iload_n 3, 1) := by decide +kernel
theorem dX14_ledAt_33 : decode cX14_ledAt 33 = .ok (.iload 4, 2) := by decide +kernel
theorem dX14_ledAt_35 : decode cX14_ledAt 35 = .ok (.invokevirtual 572, 3) := by decide +kernel
theorem dX14_ledAt_38 : decode cX14_ledAt 38 = .ok (.istore 7, 2) := by decide +kernel
theorem dX14_ledAt_40 : decode cX14_ledAt 40 = .ok (.iload 5, 2) := by decide +kernel
theorem dX14_ledAt_42 : decode cX14_ledAt 42 = .ok (.ifCond .lt 10, 3) := by decide +kernel
theorem dX14_ledAt_45 : decode cX14_ledAt 45 = .ok (.iload 5, 2) := by decide +kernel
theorem dX14_ledAt_47 : decode cX14_ledAt 47 = .ok (.iload 7, 2) := by decide +kernel
theorem dX14_ledAt_49 : decode cX14_ledAt 49 = .ok (.if_icmp .lt 9, 3) := by decide +kernel
theorem dX14_ledAt_52 : decode cX14_ledAt 52 = .ok (.aload_n 0, 1) := by decide +kernel
theorem dX14_ledAt_53 : decode cX14_ledAt 53 = .ok (.iconst 1, 1) := by decide +kernel
theorem dX14_ledAt_54 : decode cX14_ledAt 54 = .ok (.invokevirtual 72, 3) := by decide +kernel
theorem dX14_ledAt_57 : decode cX14_ledAt 57 = .ok (.ireturn, 1) := by decide +kernel
theorem dX14_ledAt_58 : decode cX14_ledAt 58 = .ok (.iload 5, 2) := by decide +kernel
theorem dX14_ledAt_60 : decode cX14_ledAt 60 = .ok (.ifCond .ne 10, 3) := by decide +kernel
theorem dX14_ledAt_63 : decode cX14_ledAt 63 = .ok (.aload_n 0, 1) := by decide +kernel
theorem dX14_ledAt_64 : decode cX14_ledAt 64 = .ok (.getfield 562, 3) := by decide +kernel
theorem dX14_ledAt_67 : decode cX14_ledAt 67 = .ok (.goto 7, 3) := by decide +kernel
theorem dX14_ledAt_70 : decode cX14_ledAt 70 = .ok (.aload_n 0, 1) := by decide +kernel
theorem dX14_ledAt_71 : decode cX14_ledAt 71 = .ok (.getfield 565, 3) := by decide +kernel
theorem dX14_ledAt_74 : decode cX14_ledAt 74 = .ok (.istore 8, 2) := by decide +kernel
theorem dX14_ledAt_76 : decode cX14_ledAt 76 = .ok (.aload_n 0, 1) := by decide +kernel
theorem dX14_ledAt_77 : decode cX14_ledAt 77 = .ok (.bipush 100, 2) := by decide +kernel
theorem dX14_ledAt_79 : decode cX14_ledAt 79 = .ok (.iload 8, 2) := by decide +kernel
theorem dX14_ledAt_81 : decode cX14_ledAt 81 = .ok (.bipush 12, 2) := by decide +kernel
theorem dX14_ledAt_83 : decode cX14_ledAt 83 = .ok (.idiv, 1) := by decide +kernel
theorem dX14_ledAt_84 : decode cX14_ledAt 84 = .ok (.imul, 1) := by decide +kernel
theorem dX14_ledAt_85 : decode cX14_ledAt 85 = .ok (.iload 8, 2) := by decide +kernel
theorem dX14_ledAt_87 : decode cX14_ledAt 87 = .ok (.bipush 12, 2) := by decide +kernel
theorem dX14_ledAt_89 : decode cX14_ledAt 89 = .ok (.irem, 1) := by decide +kernel
theorem dX14_ledAt_90 : decode cX14_ledAt 90 = .ok (.iadd, 1) := by decide +kernel
theorem dX14_ledAt_91 : decode cX14_ledAt 91 = .ok (.invokevirtual 76, 3) := by decide +kernel
theorem dX14_ledAt_94 : decode cX14_ledAt 94 = .ok (.ireturn, 1) := by decide +kernel
set_option maxRecDepth 100000 in
set_option maxHeartbeats 4000000 in
theorem mX14_ledAt {E : goEv} {l : Launch} {G : goG} {N : Nat} {M : goMI} {L : goML} {R : goMR} {v1 : Int32} {v2 : Int32} {v3 : Int32} {v4 : Int32} {v5 : Int32} {r0 : Int32} {r1 : goMI} (hk : goKn E) (hW : goW G R) (h : fX14_ledAt N M R v1 v2 v3 v4 v5 = some (r0, r1)) : Met l yX14_ledAt (goCd yX14_ledAt cX14_ledAt 9 (Option.some FieldType.int)) (goRoom 8 198 0 0) (goPre E [.ref 102, .int v1, .int v2, .int v3, .int v4, .int v5] G M L R) (goQi E r0 G r1 L R) 0 0 (goSet E) := by
  refine goMet pl_RX14 hk (lv := [some (.ref 102), some (.int v1), some (.int v2), some (.int v3), some (.int v4), some (.int v5), none, none, none]) rfl (Nat.le_of_ble_eq_true rfl) ?_
  intro X hc hl hR hr hnm
  subst hl
  unfold fX14_ledAt at h
  refine go_aload0 hc dX14_ledAt_0 ?_
  refine go_iconst (v := 0) hc dX14_ledAt_1 rfl ?_
  replace h := goNm_x h; obtain ⟨M11, e12, h⟩ := h
  refine go_ptI hc lk_RX14_66 dX14_ledAt_2 (sh_102 hW) e12 ?_
  refine go_aload0 hc dX14_ledAt_5 ?_
  refine go_iload1 hc dX14_ledAt_6 ?_
  refine go_iload2 hc dX14_ledAt_7 ?_
  refine go_iload3 hc dX14_ledAt_8 ?_
  refine go_iload4 hc dX14_ledAt_9 ?_
  replace h := goBind h; obtain ⟨x13, e14, h⟩ := h
  refine go_callVi hc dX14_ledAt_11 (mX14_refusesLed hk hW e14) ml_RX14_568 yk_X14_refusesLed ⟨wim_X14_refusesLed, wse_X14_refusesLed⟩ hR rfl (sh_102 hW) rfl rfl rfl (Nat.le_of_ble_eq_true rfl) rfl ?_
  refine go_istore6 hc dX14_ledAt_14 ?_
  refine go_iload6 hc dX14_ledAt_16 ?_
  refine go_if_le hc 28 dX14_ledAt_18 rfl (fun c15 => ?_) (fun c15 => ?_)
  · replace h := goIfF h c15
    refine go_aload0 hc dX14_ledAt_28 ?_
    refine go_iconst (v := 0) hc dX14_ledAt_29 rfl ?_
    refine go_iload1 hc dX14_ledAt_30 ?_
    refine go_iload2 hc dX14_ledAt_31 ?_
    refine go_iload3 hc dX14_ledAt_32 ?_
    refine go_iload4 hc dX14_ledAt_33 ?_
    replace h := goB2_h h; obtain ⟨x16, M17, e18, h⟩ := h
    refine go_callVi hc dX14_ledAt_35 (mX14_fewest hk hW e18) ml_RX14_572 yk_X14_fewest ⟨wim_X14_fewest, wse_X14_fewest⟩ hR rfl (sh_102 hW) rfl rfl rfl (Nat.le_of_ble_eq_true rfl) rfl ?_
    refine go_istore7 hc dX14_ledAt_38 ?_
    refine go_iload5 hc dX14_ledAt_40 ?_
    refine go_if_lt hc 52 dX14_ledAt_42 rfl (fun c19 => ?_) (fun c19 => ?_)
    · replace h := goIfF h c19
      refine go_aload0 hc dX14_ledAt_52 ?_
      refine go_iconst (v := 1) hc dX14_ledAt_53 rfl ?_
      replace h := goB2_h h; obtain ⟨x20, M21, e22, h⟩ := h
      refine go_callVi hc dX14_ledAt_54 (mX14_refused hk hW e22) ml_RX14_72 yk_X14_refused ⟨wim_X14_refused, wse_X14_refused⟩ hR rfl (sh_102 hW) rfl rfl rfl (Nat.le_of_ble_eq_true rfl) rfl ?_
      cases h
      exact go_iret hc dX14_ledAt_57 hr
    · replace h := goIfT h c19
      refine go_iload5 hc dX14_ledAt_45 ?_
      refine go_iload7 hc dX14_ledAt_47 ?_
      refine go_icmp_lt hc 58 dX14_ledAt_49 rfl (fun c23 => ?_) (fun c23 => ?_)
      · replace h := goIfF h c23
        refine go_iload5 hc dX14_ledAt_58 ?_
        replace h := goNm_y h; obtain ⟨x24, e25, h⟩ := h
        have k26 : ∀ (d1 d2 d3 d4 d5 d6 d7 d8 : Option Value), goA E X G 0 0 (goMQ X E (goQi E r0 G r1 L R) 0 0) 74 [some (.ref 102), d1, d2, d3, d4, d5, d6, d7, d8] [.int x24] M17 L R := by
          intro d1 d2 d3 d4 d5 d6 d7 d8
          refine go_istore8 hc dX14_ledAt_74 ?_
          refine go_aload0 hc dX14_ledAt_76 ?_
          refine go_bipush (v := 100) hc dX14_ledAt_77 rfl ?_
          refine go_iload8 hc dX14_ledAt_79 ?_
          refine go_bipush (v := 12) hc dX14_ledAt_81 rfl ?_
          refine go_idiv hc dX14_ledAt_83 (by decide) ?_
          refine go_imul hc dX14_ledAt_84 ?_
          refine go_iload8 hc dX14_ledAt_85 ?_
          refine go_bipush (v := 12) hc dX14_ledAt_87 rfl ?_
          refine go_irem hc dX14_ledAt_89 (by decide) ?_
          refine go_iadd hc dX14_ledAt_90 ?_
          replace h := goB2_h h; obtain ⟨x28, M29, e30, h⟩ := h
          refine go_callVi hc dX14_ledAt_91 (mX14_good hk hW e30) ml_RX14_76 yk_X14_good ⟨wim_X14_good, wse_X14_good⟩ hR rfl (sh_102 hW) rfl rfl rfl (Nat.le_of_ble_eq_true rfl) rfl ?_
          cases h
          exact go_iret hc dX14_ledAt_94 hr
        refine go_if_ne hc 70 dX14_ledAt_60 rfl (fun c27 => ?_) (fun c27 => ?_)
        · replace e25 := goIfF e25 c27
          refine go_aload0 hc dX14_ledAt_70 ?_
          refine go_getI hc lk_RX14_565 dX14_ledAt_71 (sh_102 hW) ?_
          subst e25
          exact k26 _ _ _ _ _ _ _ _
        · replace e25 := goIfT e25 c27
          refine go_aload0 hc dX14_ledAt_63 ?_
          refine go_getI hc lk_RX14_562 dX14_ledAt_64 (sh_102 hW) ?_
          refine go_goto hc 74 dX14_ledAt_67 rfl ?_
          subst e25
          exact k26 _ _ _ _ _ _ _ _
      · replace h := goIfT h c23
        refine go_aload0 hc dX14_ledAt_52 ?_
        refine go_iconst (v := 1) hc dX14_ledAt_53 rfl ?_
        replace h := goB2_h h; obtain ⟨x31, M32, e33, h⟩ := h
        refine go_callVi hc dX14_ledAt_54 (mX14_refused hk hW e33) ml_RX14_72 yk_X14_refused ⟨wim_X14_refused, wse_X14_refused⟩ hR rfl (sh_102 hW) rfl rfl rfl (Nat.le_of_ble_eq_true rfl) rfl ?_
        cases h
        exact go_iret hc dX14_ledAt_57 hr
  · replace h := goIfT h c15
    refine go_aload0 hc dX14_ledAt_21 ?_
    refine go_iload6 hc dX14_ledAt_22 ?_
    replace h := goB2_h h; obtain ⟨x34, M35, e36, h⟩ := h
    refine go_callVi hc dX14_ledAt_24 (mX14_refused hk hW e36) ml_RX14_72 yk_X14_refused ⟨wim_X14_refused, wse_X14_refused⟩ hR rfl (sh_102 hW) rfl rfl rfl (Nat.le_of_ble_eq_true rfl) rfl ?_
    cases h
    exact go_iret hc dX14_ledAt_27 hr
theorem dX14_scared_0 : decode cX14_scared 0 = .ok (.aload_n 0, 1) := by decide +kernel
theorem dX14_scared_1 : decode cX14_scared 1 = .ok (.iconst 0, 1) := by decide +kernel
theorem dX14_scared_2 : decode cX14_scared 2 = .ok (.putfield 66, 3) := by decide +kernel
theorem dX14_scared_5 : decode cX14_scared 5 = .ok (.aload_n 0, 1) := by decide +kernel
theorem dX14_scared_6 : decode cX14_scared 6 = .ok (.iload_n 1, 1) := by decide +kernel
theorem dX14_scared_7 : decode cX14_scared 7 = .ok (.iload_n 2, 1) := by decide +kernel
theorem dX14_scared_8 : decode cX14_scared 8 = .ok (.iload_n 3, 1) := by decide +kernel
theorem dX14_scared_9 : decode cX14_scared 9 = .ok (.iload 4, 2) := by decide +kernel
theorem dX14_scared_11 : decode cX14_scared 11 = .ok (.invokevirtual 568, 3) := by decide +kernel
theorem dX14_scared_14 : decode cX14_scared 14 = .ok (.istore 5, 2) := by decide +kernel
theorem dX14_scared_16 : decode cX14_scared 16 = .ok (.iload 5, 2) := by decide +kernel
theorem dX14_scared_18 : decode cX14_scared 18 = .ok (.ifCond .le 12, 3) := by decide +kernel
theorem dX14_scared_21 : decode cX14_scared 21 = .ok (.aload_n 0, 1) := by decide +kernel
theorem dX14_scared_22 : decode cX14_scared 22 = .ok (.iload 5, 2) := by decide +kernel
theorem dX14_scared_24 : decode cX14_scared 24 = .ok (.invokevirtual 72, 3) := by decide +kernel
theorem dX14_scared_27 : decode cX14_scared 27 = .ok (.goto 18, 3) := by decide +kernel
theorem dX14_scared_30 : decode cX14_scared 30 = .ok (.aload_n 0, 1) := by decide +kernel
theorem dX14_scared_31 : decode cX14_scared 31 = .ok (.aload_n 0, 1) := by decide +kernel
theorem dX14_scared_32 : decode cX14_scared 32 = .ok (.bipush 8, 2) := by decide +kernel
theorem dX14_scared_34 : decode cX14_scared 34 = .ok (.iload_n 1, 1) := by decide +kernel
theorem dX14_scared_35 : decode cX14_scared 35 = .ok (.iload_n 2, 1) := by decide +kernel
theorem dX14_scared_36 : decode cX14_scared 36 = .ok (.iload_n 3, 1) := by decide +kernel
theorem dX14_scared_37 : decode cX14_scared 37 = .ok (.iload 4, 2) := by decide +kernel
theorem dX14_scared_39 : decode cX14_scared 39 = .ok (.invokevirtual 572, 3) := by decide +kernel
theorem dX14_scared_42 : decode cX14_scared 42 = .ok (.invokevirtual 76, 3) := by decide +kernel
theorem dX14_scared_45 : decode cX14_scared 45 = .ok (.ireturn, 1) := by decide +kernel
set_option maxRecDepth 100000 in
set_option maxHeartbeats 4000000 in
theorem mX14_scared {E : goEv} {l : Launch} {G : goG} {N : Nat} {M : goMI} {L : goML} {R : goMR} {v1 : Int32} {v2 : Int32} {v3 : Int32} {v4 : Int32} {r0 : Int32} {r1 : goMI} (hk : goKn E) (hW : goW G R) (h : fX14_scared N M R v1 v2 v3 v4 = some (r0, r1)) : Met l yX14_scared (goCd yX14_scared cX14_scared 6 (Option.some FieldType.int)) (goRoom 8 198 0 0) (goPre E [.ref 102, .int v1, .int v2, .int v3, .int v4] G M L R) (goQi E r0 G r1 L R) 0 0 (goSet E) := by
  refine goMet pl_RX14 hk (lv := [some (.ref 102), some (.int v1), some (.int v2), some (.int v3), some (.int v4), none]) rfl (Nat.le_of_ble_eq_true rfl) ?_
  intro X hc hl hR hr hnm
  subst hl
  unfold fX14_scared at h
  refine go_aload0 hc dX14_scared_0 ?_
  refine go_iconst (v := 0) hc dX14_scared_1 rfl ?_
  replace h := goNm_x h; obtain ⟨M11, e12, h⟩ := h
  refine go_ptI hc lk_RX14_66 dX14_scared_2 (sh_102 hW) e12 ?_
  refine go_aload0 hc dX14_scared_5 ?_
  refine go_iload1 hc dX14_scared_6 ?_
  refine go_iload2 hc dX14_scared_7 ?_
  refine go_iload3 hc dX14_scared_8 ?_
  refine go_iload4 hc dX14_scared_9 ?_
  replace h := goBind h; obtain ⟨x13, e14, h⟩ := h
  refine go_callVi hc dX14_scared_11 (mX14_refusesLed hk hW e14) ml_RX14_568 yk_X14_refusesLed ⟨wim_X14_refusesLed, wse_X14_refusesLed⟩ hR rfl (sh_102 hW) rfl rfl rfl (Nat.le_of_ble_eq_true rfl) rfl ?_
  refine go_istore5 hc dX14_scared_14 ?_
  refine go_iload5 hc dX14_scared_16 ?_
  refine go_if_le hc 30 dX14_scared_18 rfl (fun c15 => ?_) (fun c15 => ?_)
  · replace h := goIfF h c15
    refine go_aload0 hc dX14_scared_30 ?_
    refine go_aload0 hc dX14_scared_31 ?_
    refine go_bipush (v := 8) hc dX14_scared_32 rfl ?_
    refine go_iload1 hc dX14_scared_34 ?_
    refine go_iload2 hc dX14_scared_35 ?_
    refine go_iload3 hc dX14_scared_36 ?_
    refine go_iload4 hc dX14_scared_37 ?_
    replace h := goB2_h h; obtain ⟨x16, M17, e18, h⟩ := h
    refine go_callVi hc dX14_scared_39 (mX14_fewest hk hW e18) ml_RX14_572 yk_X14_fewest ⟨wim_X14_fewest, wse_X14_fewest⟩ hR rfl (sh_102 hW) rfl rfl rfl (Nat.le_of_ble_eq_true rfl) rfl ?_
    replace h := goB2_h h; obtain ⟨x19, M20, e21, h⟩ := h
    refine go_callVi hc dX14_scared_42 (mX14_good hk hW e21) ml_RX14_76 yk_X14_good ⟨wim_X14_good, wse_X14_good⟩ hR rfl (sh_102 hW) rfl rfl rfl (Nat.le_of_ble_eq_true rfl) rfl ?_
    cases h
    exact go_iret hc dX14_scared_45 hr
  · replace h := goIfT h c15
    refine go_aload0 hc dX14_scared_21 ?_
    refine go_iload5 hc dX14_scared_22 ?_
    replace h := goB2_h h; obtain ⟨x22, M23, e24, h⟩ := h
    refine go_callVi hc dX14_scared_24 (mX14_refused hk hW e24) ml_RX14_72 yk_X14_refused ⟨wim_X14_refused, wse_X14_refused⟩ hR rfl (sh_102 hW) rfl rfl rfl (Nat.le_of_ble_eq_true rfl) rfl ?_
    refine go_goto hc 45 dX14_scared_27 rfl ?_
    cases h
    exact go_iret hc dX14_scared_45 hr
theorem dX14_following_0 : decode cX14_following 0 = .ok (.iload_n 1, 1) := by decide +kernel
theorem dX14_following_1 : decode cX14_following 1 = .ok (.istore_n 3, 1) := by decide +kernel
theorem dX14_following_2 : decode cX14_following 2 = .ok (.iconst 1, 1) := by decide +kernel
theorem dX14_following_3 : decode cX14_following 3 = .ok (.istore 4, 2) := by decide +kernel
theorem dX14_following_5 : decode cX14_following 5 = .ok (.iload 4, 2) := by decide +kernel
theorem dX14_following_7 : decode cX14_following 7 = .ok (.ifCond .eq 81, 3) := by decide +kernel
theorem dX14_following_10 : decode cX14_following 10 = .ok (.iload_n 3, 1) := by decide +kernel
theorem dX14_following_11 : decode cX14_following 11 = .ok (.istore 5, 2) := by decide +kernel
theorem dX14_following_13 : decode cX14_following 13 = .ok (.iconst 0, 1) := by decide +kernel
theorem dX14_following_14 : decode cX14_following 14 = .ok (.istore 6, 2) := by decide +kernel
theorem dX14_following_16 : decode cX14_following 16 = .ok (.iload 6, 2) := by decide +kernel
theorem dX14_following_18 : decode cX14_following 18 = .ok (.aload_n 0, 1) := by decide +kernel
theorem dX14_following_19 : decode cX14_following 19 = .ok (.getfield 442, 3) := by decide +kernel
theorem dX14_following_22 : decode cX14_following 22 = .ok (.getfield 393, 3) := by decide +kernel
theorem dX14_following_25 : decode cX14_following 25 = .ok (.if_icmp .ge 47, 3) := by decide +kernel
theorem dX14_following_28 : decode cX14_following 28 = .ok (.iload 6, 2) := by decide +kernel
theorem dX14_following_30 : decode cX14_following 30 = .ok (.iload_n 2, 1) := by decide +kernel
theorem dX14_following_31 : decode cX14_following 31 = .ok (.if_icmp .eq 35, 3) := by decide +kernel
theorem dX14_following_34 : decode cX14_following 34 = .ok (.aload_n 0, 1) := by decide +kernel
theorem dX14_following_35 : decode cX14_following 35 = .ok (.getfield 442, 3) := by decide +kernel
theorem dX14_following_38 : decode cX14_following 38 = .ok (.getfield 402, 3) := by decide +kernel
theorem dX14_following_41 : decode cX14_following 41 = .ok (.iload 6, 2) := by decide +kernel
theorem dX14_following_43 : decode cX14_following 43 = .ok (.iaload, 1) := by decide +kernel
theorem dX14_following_44 : decode cX14_following 44 = .ok (.iload_n 3, 1) := by decide +kernel
theorem dX14_following_45 : decode cX14_following 45 = .ok (.iconst (-1), 1) := by decide +kernel
theorem dX14_following_46 : decode cX14_following 46 = .ok (.ixor, 1) := by decide +kernel
theorem dX14_following_47 : decode cX14_following 47 = .ok (.iand, 1) := by decide +kernel
theorem dX14_following_48 : decode cX14_following 48 = .ok (.ifCond .ne 18, 3) := by decide +kernel
theorem dX14_following_51 : decode cX14_following 51 = .ok (.iload_n 3, 1) := by decide +kernel
theorem dX14_following_52 : decode cX14_following 52 = .ok (.iconst 1, 1) := by decide +kernel
theorem dX14_following_53 : decode cX14_following 53 = .ok (.aload_n 0, 1) := by decide +kernel
theorem dX14_following_54 : decode cX14_following 54 = .ok (.getfield 442, 3) := by decide +kernel
theorem dX14_following_57 : decode cX14_following 57 = .ok (.getfield 399, 3) := by decide +kernel
theorem dX14_following_60 : decode cX14_following 60 = .ok (.iload 6, 2) := by decide +kernel
theorem dX14_following_62 : decode cX14_following 62 = .ok (.iaload, 1) := by decide +kernel
theorem dX14_following_63 : decode cX14_following 63 = .ok (.ishl, 1) := by decide +kernel
theorem dX14_following_64 : decode cX14_following 64 = .ok (.ior, 1) := by decide +kernel
theorem dX14_following_65 : decode cX14_following 65 = .ok (.istore_n 3, 1) := by decide +kernel
theorem dX14_following_66 : decode cX14_following 66 = .ok (.iinc 6 1, 3) := by decide +kernel
theorem dX14_following_69 : decode cX14_following 69 = .ok (.goto (-53), 3) := by decide +kernel
theorem dX14_following_72 : decode cX14_following 72 = .ok (.iload_n 3, 1) := by decide +kernel
theorem dX14_following_73 : decode cX14_following 73 = .ok (.iload 5, 2) := by decide +kernel
theorem dX14_following_75 : decode cX14_following 75 = .ok (.if_icmp .eq 7, 3) := by decide +kernel
theorem dX14_following_78 : decode cX14_following 78 = .ok (.iconst 1, 1) := by decide +kernel
theorem dX14_following_79 : decode cX14_following 79 = .ok (.goto 4, 3) := by decide +kernel
theorem dX14_following_82 : decode cX14_following 82 = .ok (.iconst 0, 1) := by decide +kernel
theorem dX14_following_83 : decode cX14_following 83 = .ok (.istore 4, 2) := by decide +kernel
theorem dX14_following_85 : decode cX14_following 85 = .ok (.goto (-80), 3) := by decide +kernel
theorem dX14_following_88 : decode cX14_following 88 = .ok (.iload_n 3, 1) := by decide +kernel
theorem dX14_following_89 : decode cX14_following 89 = .ok (.ireturn, 1) := by decide +kernel
set_option maxRecDepth 100000 in
set_option maxHeartbeats 4000000 in
theorem mX14_following_L16 {E : goEv} {X : goX} {G : goG} {Q : State → Prop} {M : goMI} {L : goML} {R : goMR} {v2 : Int32} {v5 : Int32} (hc : goCx E X cX14_following RX14 7) (hk : goKn E) (hR : X.2.2.2.1 = goRoom 0 0 0 0) (hr : X.2.2.2.2.2.2.2.2.1.sig.returnType = (Option.some FieldType.int)) (hW : goW G R) : ∀ (n : Nat) (v3 : Int32) (v6 : Int32) (r0 : Int32), lX14_following_16 v2 M R n v3 v6 = some r0 → (∀ (d1 d4 d6 : Option Value), goA E X G 0 0 Q 72 [some (.ref 102), d1, some (.int v2), some (.int r0), d4, some (.int v5), d6] [] M L R) → ∀ (d1 d4 : Option Value), goA E X G 0 0 Q 16 [some (.ref 102), d1, some (.int v2), some (.int v3), d4, some (.int v5), some (.int v6)] [] M L R := by
  intro n
  induction n with
  | zero => intro v3 v6 r0 h; exact nomatch h
  | succ n ih =>
    intro v3 v6 r0 h kx d1 d4
    rw [lX14_following_16] at h
    refine go_iload6 hc dX14_following_16 ?_
    refine go_aload0 hc dX14_following_18 ?_
    replace h := goBind h; obtain ⟨b12, e13, h⟩ := h
    refine go_getR hc lk_RX14_442 dX14_following_19 (sh_102 hW) e13 ?_
    refine go_getI hc lk_RX14_393 dX14_following_22 (shM_0 (goW_M3 hW e13)) ?_
    refine go_icmp_ge hc 72 dX14_following_25 rfl (fun c14 => ?_) (fun c14 => ?_)
    · replace h := goIfF h c14
      cases h
      exact kx _ _ _
    · replace h := goIfT h c14
      refine go_iload6 hc dX14_following_28 ?_
      refine go_iload2 hc dX14_following_30 ?_
      replace h := goBind h; obtain ⟨x15, e16, h⟩ := h
      have k17 : ∀ (d1 d4 : Option Value), goA E X G 0 0 Q 66 [some (.ref 102), d1, some (.int v2), some (.int x15), d4, some (.int v5), some (.int v6)] [] M L R := by
        intro d1 d4
        refine go_iinc6 (v := (v6 + 1)) hc dX14_following_66 rfl ?_
        refine go_goto hc 16 dX14_following_69 rfl ?_
        exact ih _ _ _ h kx _ _
      refine go_icmp_eq hc 66 dX14_following_31 rfl (fun c18 => ?_) (fun c18 => ?_)
      · replace e16 := goIfT e16 c18
        cases e16
        exact k17 _ _
      · replace e16 := goIfF e16 c18
        refine go_aload0 hc dX14_following_34 ?_
        replace e16 := goBind e16; obtain ⟨b19, e20, e16⟩ := e16
        refine go_getR hc lk_RX14_442 dX14_following_35 (sh_102 hW) e20 ?_
        refine go_getR hc lk_RX14_402 dX14_following_38 (shM_0 (goW_M3 hW e20)) (rfM_33 (goW_M3 hW e20)) ?_
        refine go_iload6 hc dX14_following_41 ?_
        replace e16 := goBind e16; obtain ⟨x21, e22, e16⟩ := e16
        refine go_iald hc dX14_following_43 (shM_18 (goW_M3 hW e20)) e22 ?_
        refine go_iload3 hc dX14_following_44 ?_
        refine go_iconst (v := (-1)) hc dX14_following_45 rfl ?_
        refine go_ixor hc dX14_following_46 ?_
        refine go_iand hc dX14_following_47 ?_
        refine go_if_ne hc 66 dX14_following_48 rfl (fun c23 => ?_) (fun c23 => ?_)
        · replace e16 := goIfF e16 c23
          cases e16
          exact k17 _ _
        · replace e16 := goIfT e16 c23
          refine go_iload3 hc dX14_following_51 ?_
          refine go_iconst (v := 1) hc dX14_following_52 rfl ?_
          refine go_aload0 hc dX14_following_53 ?_
          replace e16 := goBind e16; obtain ⟨b24, e25, e16⟩ := e16
          refine go_getR hc lk_RX14_442 dX14_following_54 (sh_102 hW) e25 ?_
          refine go_getR hc lk_RX14_399 dX14_following_57 (shM_0 (goW_M3 hW e25)) (rfM_32 (goW_M3 hW e25)) ?_
          refine go_iload6 hc dX14_following_60 ?_
          replace e16 := goBind e16; obtain ⟨x26, e27, e16⟩ := e16
          refine go_iald hc dX14_following_62 (shM_17 (goW_M3 hW e25)) e27 ?_
          refine go_ishl hc dX14_following_63 ?_
          refine go_ior hc dX14_following_64 ?_
          replace e16 := goNm_x e16; obtain ⟨x28, e29, e16⟩ := e16
          refine go_nmI e29 ?_
          refine go_istore3 hc dX14_following_65 ?_
          cases e16
          exact k17 _ _
set_option maxRecDepth 100000 in
set_option maxHeartbeats 4000000 in
theorem mX14_following_L5 {E : goEv} {X : goX} {G : goG} {Q : State → Prop} {M : goMI} {L : goML} {R : goMR} {N : Nat} {v2 : Int32} (hc : goCx E X cX14_following RX14 7) (hk : goKn E) (hR : X.2.2.2.1 = goRoom 0 0 0 0) (hr : X.2.2.2.2.2.2.2.2.1.sig.returnType = (Option.some FieldType.int)) (hW : goW G R) : ∀ (n : Nat) (v3 : Int32) (v4 : Int32) (r0 : Int32), lX14_following_5 N v2 M R n v3 v4 = some r0 → (∀ (d0 d1 d2 d4 d5 d6 : Option Value), goA E X G 0 0 Q 88 [d0, d1, d2, some (.int r0), d4, d5, d6] [] M L R) → ∀ (d1 d5 d6 : Option Value), goA E X G 0 0 Q 5 [some (.ref 102), d1, some (.int v2), some (.int v3), some (.int v4), d5, d6] [] M L R := by
  intro n
  induction n with
  | zero => intro v3 v4 r0 h; exact nomatch h
  | succ n ih =>
    intro v3 v4 r0 h kx d1 d5 d6
    rw [lX14_following_5] at h
    refine go_iload4 hc dX14_following_5 ?_
    refine go_if_eq hc 88 dX14_following_7 rfl (fun c11 => ?_) (fun c11 => ?_)
    · replace h := goIfT h c11
      cases h
      exact kx _ _ _ _ _ _
    · replace h := goIfF h c11
      refine go_iload3 hc dX14_following_10 ?_
      refine go_istore5 hc dX14_following_11 ?_
      refine go_iconst (v := 0) hc dX14_following_13 rfl ?_
      refine go_istore6 hc dX14_following_14 ?_
      replace h := goBind h; obtain ⟨x31, e30, h⟩ := h
      refine mX14_following_L16 hc hk hR hr hW _ _ _ _ e30 (fun d1 d4 d6 => ?_) _ _
      refine go_iload3 hc dX14_following_72 ?_
      refine go_iload5 hc dX14_following_73 ?_
      replace h := goNm_y h; obtain ⟨x32, e33, h⟩ := h
      have k34 : ∀ (d1 d4 d5 d6 : Option Value), goA E X G 0 0 Q 83 [some (.ref 102), d1, some (.int v2), some (.int x31), d4, d5, d6] [.int x32] M L R := by
        intro d1 d4 d5 d6
        refine go_istore4 hc dX14_following_83 ?_
        refine go_goto hc 5 dX14_following_85 rfl ?_
        exact ih _ _ _ h kx _ _ _
      refine go_icmp_eq hc 82 dX14_following_75 rfl (fun c35 => ?_) (fun c35 => ?_)
      · replace e33 := goIfT e33 c35
        refine go_iconst (v := 0) hc dX14_following_82 rfl ?_
        subst e33
        exact k34 _ _ _ _
      · replace e33 := goIfF e33 c35
        refine go_iconst (v := 1) hc dX14_following_78 rfl ?_
        refine go_goto hc 83 dX14_following_79 rfl ?_
        subst e33
        exact k34 _ _ _ _
set_option maxRecDepth 100000 in
set_option maxHeartbeats 4000000 in
theorem mX14_following {E : goEv} {l : Launch} {G : goG} {N : Nat} {M : goMI} {L : goML} {R : goMR} {v1 : Int32} {v2 : Int32} {r0 : Int32} (hk : goKn E) (hW : goW G R) (h : fX14_following N M R v1 v2 = some r0) : Met l yX14_following (goCd yX14_following cX14_following 7 (Option.some FieldType.int)) (goRoom 0 0 0 0) (goPre E [.ref 102, .int v1, .int v2] G M L R) (goQi E r0 G M L R) 0 0 (goSet E) := by
  refine goMet pl_RX14 hk (lv := [some (.ref 102), some (.int v1), some (.int v2), none, none, none, none]) rfl (Nat.le_of_ble_eq_true rfl) ?_
  intro X hc hl hR hr hnm
  subst hl
  unfold fX14_following at h
  refine go_iload1 hc dX14_following_0 ?_
  refine go_istore3 hc dX14_following_1 ?_
  refine go_iconst (v := 1) hc dX14_following_2 rfl ?_
  refine go_istore4 hc dX14_following_3 ?_
  replace h := goBind h; obtain ⟨x37, e36, h⟩ := h
  refine mX14_following_L5 hc hk hR hr hW _ _ _ _ e36 (fun d0 d1 d2 d4 d5 d6 => ?_) _ _ _
  refine go_iload3 hc dX14_following_88 ?_
  cases h
  exact go_iret hc dX14_following_89 hr
theorem dX14_followsNow_0 : decode cX14_followsNow 0 = .ok (.aload_n 0, 1) := by decide +kernel
theorem dX14_followsNow_1 : decode cX14_followsNow 1 = .ok (.aload_n 0, 1) := by decide +kernel
theorem dX14_followsNow_2 : decode cX14_followsNow 2 = .ok (.getfield 442, 3) := by decide +kernel
theorem dX14_followsNow_5 : decode cX14_followsNow 5 = .ok (.getfield 391, 3) := by decide +kernel
theorem dX14_followsNow_8 : decode cX14_followsNow 8 = .ok (.iconst (-1), 1) := by decide +kernel
theorem dX14_followsNow_9 : decode cX14_followsNow 9 = .ok (.invokevirtual 576, 3) := by decide +kernel
theorem dX14_followsNow_12 : decode cX14_followsNow 12 = .ok (.iload_n 1, 1) := by decide +kernel
theorem dX14_followsNow_13 : decode cX14_followsNow 13 = .ok (.invokestatic 366, 3) := by decide +kernel
theorem dX14_followsNow_16 : decode cX14_followsNow 16 = .ok (.ireturn, 1) := by decide +kernel
set_option maxRecDepth 100000 in
set_option maxHeartbeats 4000000 in
theorem mX14_followsNow {E : goEv} {l : Launch} {G : goG} {N : Nat} {M : goMI} {L : goML} {R : goMR} {v1 : Int32} {r0 : Int32} (hk : goKn E) (hW : goW G R) (h : fX14_followsNow N M R v1 = some r0) : Met l yX14_followsNow (goCd yX14_followsNow cX14_followsNow 2 (Option.some FieldType.boolean)) (goRoom 1 26 0 0) (goPre E [.ref 102, .int v1] G M L R) (goQi E r0 G M L R) 0 0 (goSet E) := by
  refine goMet pl_RX14 hk (lv := [some (.ref 102), some (.int v1)]) rfl (Nat.le_of_ble_eq_true rfl) ?_
  intro X hc hl hR hr hnm
  subst hl
  unfold fX14_followsNow at h
  refine go_aload0 hc dX14_followsNow_0 ?_
  refine go_aload0 hc dX14_followsNow_1 ?_
  replace h := goBind h; obtain ⟨b11, e12, h⟩ := h
  refine go_getR hc lk_RX14_442 dX14_followsNow_2 (sh_102 hW) e12 ?_
  refine go_getI hc lk_RX14_391 dX14_followsNow_5 (shM_0 (goW_M3 hW e12)) ?_
  refine go_iconst (v := (-1)) hc dX14_followsNow_8 rfl ?_
  replace h := goBind h; obtain ⟨x13, e14, h⟩ := h
  refine go_callVi hc dX14_followsNow_9 (mX14_following hk hW e14) ml_RX14_576 yk_X14_following ⟨wim_X14_following, wse_X14_following⟩ hR rfl (sh_102 hW) rfl rfl rfl (Nat.le_of_ble_eq_true rfl) rfl ?_
  refine go_iload1 hc dX14_followsNow_12 ?_
  refine go_callSi hc dX14_followsNow_13 (mX14_bit hk hW rfl) ml_RX14_366 yk_X14_bit wst_X14_bit hR rfl rfl rfl (Nat.le_of_ble_eq_true rfl) rfl ?_
  replace h := goBind h; obtain ⟨x15, e16, h⟩ := h
  obtain ⟨ze16, rfl⟩ := goZr_h e16
  cases h
  exact go_zret hc dX14_followsNow_16 hr (goZ_n ze16)
theorem dX14_follows_0 : decode cX14_follows 0 = .ok (.aload_n 0, 1) := by decide +kernel
theorem dX14_follows_1 : decode cX14_follows 1 = .ok (.iconst 0, 1) := by decide +kernel
theorem dX14_follows_2 : decode cX14_follows 2 = .ok (.putfield 66, 3) := by decide +kernel
theorem dX14_follows_5 : decode cX14_follows 5 = .ok (.aload_n 0, 1) := by decide +kernel
theorem dX14_follows_6 : decode cX14_follows 6 = .ok (.iload_n 1, 1) := by decide +kernel
theorem dX14_follows_7 : decode cX14_follows 7 = .ok (.invokevirtual 579, 3) := by decide +kernel
theorem dX14_follows_10 : decode cX14_follows 10 = .ok (.ifCond .eq 23, 3) := by decide +kernel
theorem dX14_follows_13 : decode cX14_follows 13 = .ok (.aload_n 0, 1) := by decide +kernel
theorem dX14_follows_14 : decode cX14_follows 14 = .ok (.aload_n 0, 1) := by decide +kernel
theorem dX14_follows_15 : decode cX14_follows 15 = .ok (.iload_n 1, 1) := by decide +kernel
theorem dX14_follows_16 : decode cX14_follows 16 = .ok (.invokevirtual 582, 3) := by decide +kernel
theorem dX14_follows_19 : decode cX14_follows 19 = .ok (.ifCond .eq 7, 3) := by decide +kernel
theorem dX14_follows_22 : decode cX14_follows 22 = .ok (.iconst 1, 1) := by decide +kernel
theorem dX14_follows_23 : decode cX14_follows 23 = .ok (.goto 4, 3) := by decide +kernel
theorem dX14_follows_26 : decode cX14_follows 26 = .ok (.iconst 0, 1) := by decide +kernel
theorem dX14_follows_27 : decode cX14_follows 27 = .ok (.invokevirtual 76, 3) := by decide +kernel
theorem dX14_follows_30 : decode cX14_follows 30 = .ok (.goto 8, 3) := by decide +kernel
theorem dX14_follows_33 : decode cX14_follows 33 = .ok (.aload_n 0, 1) := by decide +kernel
theorem dX14_follows_34 : decode cX14_follows 34 = .ok (.iconst 1, 1) := by decide +kernel
theorem dX14_follows_35 : decode cX14_follows 35 = .ok (.invokevirtual 72, 3) := by decide +kernel
theorem dX14_follows_38 : decode cX14_follows 38 = .ok (.ireturn, 1) := by decide +kernel
set_option maxRecDepth 100000 in
set_option maxHeartbeats 4000000 in
theorem mX14_follows {E : goEv} {l : Launch} {G : goG} {N : Nat} {M : goMI} {L : goML} {R : goMR} {v1 : Int32} {r0 : Int32} {r1 : goMI} (hk : goKn E) (hW : goW G R) (h : fX14_follows N M R v1 = some (r0, r1)) : Met l yX14_follows (goCd yX14_follows cX14_follows 2 (Option.some FieldType.int)) (goRoom 2 47 0 0) (goPre E [.ref 102, .int v1] G M L R) (goQi E r0 G r1 L R) 0 0 (goSet E) := by
  refine goMet pl_RX14 hk (lv := [some (.ref 102), some (.int v1)]) rfl (Nat.le_of_ble_eq_true rfl) ?_
  intro X hc hl hR hr hnm
  subst hl
  unfold fX14_follows at h
  refine go_aload0 hc dX14_follows_0 ?_
  refine go_iconst (v := 0) hc dX14_follows_1 rfl ?_
  replace h := goNm_x h; obtain ⟨M11, e12, h⟩ := h
  refine go_ptI hc lk_RX14_66 dX14_follows_2 (sh_102 hW) e12 ?_
  refine go_aload0 hc dX14_follows_5 ?_
  refine go_iload1 hc dX14_follows_6 ?_
  replace h := goBind h; obtain ⟨x13, e14, h⟩ := h
  refine go_callVi hc dX14_follows_7 (mX14_isFact hk hW e14) ml_RX14_579 yk_X14_isFact ⟨wim_X14_isFact, wse_X14_isFact⟩ hR rfl (sh_102 hW) rfl rfl rfl (Nat.le_of_ble_eq_true rfl) rfl ?_
  refine go_if_eq hc 33 dX14_follows_10 rfl (fun c15 => ?_) (fun c15 => ?_)
  · replace h := goIfT h c15
    refine go_aload0 hc dX14_follows_33 ?_
    refine go_iconst (v := 1) hc dX14_follows_34 rfl ?_
    replace h := goB2_h h; obtain ⟨x16, M17, e18, h⟩ := h
    refine go_callVi hc dX14_follows_35 (mX14_refused hk hW e18) ml_RX14_72 yk_X14_refused ⟨wim_X14_refused, wse_X14_refused⟩ hR rfl (sh_102 hW) rfl rfl rfl (Nat.le_of_ble_eq_true rfl) rfl ?_
    cases h
    exact go_iret hc dX14_follows_38 hr
  · replace h := goIfF h c15
    refine go_aload0 hc dX14_follows_13 ?_
    refine go_aload0 hc dX14_follows_14 ?_
    refine go_iload1 hc dX14_follows_15 ?_
    replace h := goBind h; obtain ⟨x19, e20, h⟩ := h
    refine go_callVi hc dX14_follows_16 (mX14_followsNow hk hW e20) ml_RX14_582 yk_X14_followsNow ⟨wim_X14_followsNow, wse_X14_followsNow⟩ hR rfl (sh_102 hW) rfl rfl rfl (Nat.le_of_ble_eq_true rfl) rfl ?_
    replace h := goNm_y h; obtain ⟨x21, e22, h⟩ := h
    have k23 : ∀ (d0 d1 : Option Value), goA E X G 0 0 (goMQ X E (goQi E r0 G r1 L R) 0 0) 27 [d0, d1] [.int x21, .ref 102] M11 L R := by
      intro d0 d1
      replace h := goB2_h h; obtain ⟨x25, M26, e27, h⟩ := h
      refine go_callVi hc dX14_follows_27 (mX14_good hk hW e27) ml_RX14_76 yk_X14_good ⟨wim_X14_good, wse_X14_good⟩ hR rfl (sh_102 hW) rfl rfl rfl (Nat.le_of_ble_eq_true rfl) rfl ?_
      refine go_goto hc 38 dX14_follows_30 rfl ?_
      cases h
      exact go_iret hc dX14_follows_38 hr
    refine go_if_eq hc 26 dX14_follows_19 rfl (fun c24 => ?_) (fun c24 => ?_)
    · replace e22 := goIfT e22 c24
      refine go_iconst (v := 0) hc dX14_follows_26 rfl ?_
      subst e22
      exact k23 _ _
    · replace e22 := goIfF e22 c24
      refine go_iconst (v := 1) hc dX14_follows_22 rfl ?_
      refine go_goto hc 27 dX14_follows_23 rfl ?_
      subst e22
      exact k23 _ _
theorem dX14_step_0 : decode cX14_step 0 = .ok (.aload_n 0, 1) := by decide +kernel
theorem dX14_step_1 : decode cX14_step 1 = .ok (.iconst 0, 1) := by decide +kernel
theorem dX14_step_2 : decode cX14_step 2 = .ok (.putfield 66, 3) := by decide +kernel
theorem dX14_step_5 : decode cX14_step 5 = .ok (.aload_n 0, 1) := by decide +kernel
theorem dX14_step_6 : decode cX14_step 6 = .ok (.getfield 442, 3) := by decide +kernel
theorem dX14_step_9 : decode cX14_step 9 = .ok (.ifnonnull 9, 3) := by decide +kernel
theorem dX14_step_12 : decode cX14_step 12 = .ok (.aload_n 0, 1) := by decide +kernel
theorem dX14_step_13 : decode cX14_step 13 = .ok (.iconst 1, 1) := by decide +kernel
theorem dX14_step_14 : decode cX14_step 14 = .ok (.invokevirtual 72, 3) := by decide +kernel
theorem dX14_step_17 : decode cX14_step 17 = .ok (.ireturn, 1) := by decide +kernel
theorem dX14_step_18 : decode cX14_step 18 = .ok (.aload_n 0, 1) := by decide +kernel
theorem dX14_step_19 : decode cX14_step 19 = .ok (.getfield 442, 3) := by decide +kernel
theorem dX14_step_22 : decode cX14_step 22 = .ok (.getfield 405, 3) := by decide +kernel
theorem dX14_step_25 : decode cX14_step 25 = .ok (.ifCond .ne 10, 3) := by decide +kernel
theorem dX14_step_28 : decode cX14_step 28 = .ok (.aload_n 0, 1) := by decide +kernel
theorem dX14_step_29 : decode cX14_step 29 = .ok (.bipush 6, 2) := by decide +kernel
theorem dX14_step_31 : decode cX14_step 31 = .ok (.invokevirtual 72, 3) := by decide +kernel
theorem dX14_step_34 : decode cX14_step 34 = .ok (.ireturn, 1) := by decide +kernel
theorem dX14_step_35 : decode cX14_step 35 = .ok (.iconst 0, 1) := by decide +kernel
theorem dX14_step_36 : decode cX14_step 36 = .ok (.istore_n 1, 1) := by decide +kernel
theorem dX14_step_37 : decode cX14_step 37 = .ok (.iconst 0, 1) := by decide +kernel
theorem dX14_step_38 : decode cX14_step 38 = .ok (.istore_n 2, 1) := by decide +kernel
theorem dX14_step_39 : decode cX14_step 39 = .ok (.iload_n 2, 1) := by decide +kernel
theorem dX14_step_40 : decode cX14_step 40 = .ok (.aload_n 0, 1) := by decide +kernel
theorem dX14_step_41 : decode cX14_step 41 = .ok (.getfield 442, 3) := by decide +kernel
theorem dX14_step_44 : decode cX14_step 44 = .ok (.getfield 413, 3) := by decide +kernel
theorem dX14_step_47 : decode cX14_step 47 = .ok (.if_icmp .ge 123, 3) := by decide +kernel
theorem dX14_step_50 : decode cX14_step 50 = .ok (.aload_n 0, 1) := by decide +kernel
theorem dX14_step_51 : decode cX14_step 51 = .ok (.getfield 442, 3) := by decide +kernel
theorem dX14_step_54 : decode cX14_step 54 = .ok (.getfield 391, 3) := by decide +kernel
theorem dX14_step_57 : decode cX14_step 57 = .ok (.aload_n 0, 1) := by decide +kernel
theorem dX14_step_58 : decode cX14_step 58 = .ok (.getfield 442, 3) := by decide +kernel
theorem dX14_step_61 : decode cX14_step 61 = .ok (.getfield 416, 3) := by decide +kernel
theorem dX14_step_64 : decode cX14_step 64 = .ok (.iload_n 2, 1) := by decide +kernel
theorem dX14_step_65 : decode cX14_step 65 = .ok (.iaload, 1) := by decide +kernel
theorem dX14_step_66 : decode cX14_step 66 = .ok (.invokestatic 366, 3) := by decide +kernel
theorem dX14_step_69 : decode cX14_step 69 = .ok (.istore_n 3, 1) := by decide +kernel
theorem dX14_step_70 : decode cX14_step 70 = .ok (.iconst 0, 1) := by decide +kernel
theorem dX14_step_71 : decode cX14_step 71 = .ok (.istore 4, 2) := by decide +kernel
theorem dX14_step_73 : decode cX14_step 73 = .ok (.iload 4, 2) := by decide +kernel
theorem dX14_step_75 : decode cX14_step 75 = .ok (.aload_n 0, 1) := by decide +kernel
theorem dX14_step_76 : decode cX14_step 76 = .ok (.getfield 442, 3) := by decide +kernel
theorem dX14_step_79 : decode cX14_step 79 = .ok (.getfield 393, 3) := by decide +kernel
theorem dX14_step_82 : decode cX14_step 82 = .ok (.if_icmp .ge 58, 3) := by decide +kernel
theorem dX14_step_85 : decode cX14_step 85 = .ok (.iload_n 3, 1) := by decide +kernel
theorem dX14_step_86 : decode cX14_step 86 = .ok (.ifCond .ne 42, 3) := by decide +kernel
theorem dX14_step_89 : decode cX14_step 89 = .ok (.aload_n 0, 1) := by decide +kernel
theorem dX14_step_90 : decode cX14_step 90 = .ok (.getfield 442, 3) := by decide +kernel
theorem dX14_step_93 : decode cX14_step 93 = .ok (.getfield 399, 3) := by decide +kernel
theorem dX14_step_96 : decode cX14_step 96 = .ok (.iload 4, 2) := by decide +kernel
theorem dX14_step_98 : decode cX14_step 98 = .ok (.iaload, 1) := by decide +kernel
theorem dX14_step_99 : decode cX14_step 99 = .ok (.aload_n 0, 1) := by decide +kernel
theorem dX14_step_100 : decode cX14_step 100 = .ok (.getfield 442, 3) := by decide +kernel
theorem dX14_step_103 : decode cX14_step 103 = .ok (.getfield 416, 3) := by decide +kernel
theorem dX14_step_106 : decode cX14_step 106 = .ok (.iload_n 2, 1) := by decide +kernel
theorem dX14_step_107 : decode cX14_step 107 = .ok (.iaload, 1) := by decide +kernel
theorem dX14_step_108 : decode cX14_step 108 = .ok (.if_icmp .ne 24, 3) := by decide +kernel
theorem dX14_step_111 : decode cX14_step 111 = .ok (.aload_n 0, 1) := by decide +kernel
theorem dX14_step_112 : decode cX14_step 112 = .ok (.getfield 442, 3) := by decide +kernel
theorem dX14_step_115 : decode cX14_step 115 = .ok (.getfield 402, 3) := by decide +kernel
theorem dX14_step_118 : decode cX14_step 118 = .ok (.iload 4, 2) := by decide +kernel
theorem dX14_step_120 : decode cX14_step 120 = .ok (.iaload, 1) := by decide +kernel
theorem dX14_step_121 : decode cX14_step 121 = .ok (.iload_n 1, 1) := by decide +kernel
theorem dX14_step_122 : decode cX14_step 122 = .ok (.iconst (-1), 1) := by decide +kernel
theorem dX14_step_123 : decode cX14_step 123 = .ok (.ixor, 1) := by decide +kernel
theorem dX14_step_124 : decode cX14_step 124 = .ok (.iand, 1) := by decide +kernel
theorem dX14_step_125 : decode cX14_step 125 = .ok (.ifCond .ne 7, 3) := by decide +kernel
theorem dX14_step_128 : decode cX14_step 128 = .ok (.iconst 1, 1) := by decide +kernel
theorem dX14_step_129 : decode cX14_step 129 = .ok (.goto 4, 3) := by decide +kernel
theorem dX14_step_132 : decode cX14_step 132 = .ok (.iconst 0, 1) := by decide +kernel
theorem dX14_step_133 : decode cX14_step 133 = .ok (.istore_n 3, 1) := by decide +kernel
theorem dX14_step_134 : decode cX14_step 134 = .ok (.iinc 4 1, 3) := by decide +kernel
theorem dX14_step_137 : decode cX14_step 137 = .ok (.goto (-64), 3) := by decide +kernel
theorem dX14_step_140 : decode cX14_step 140 = .ok (.iload_n 3, 1) := by decide +kernel
theorem dX14_step_141 : decode cX14_step 141 = .ok (.ifCond .ne 9, 3) := by decide +kernel
theorem dX14_step_144 : decode cX14_step 144 = .ok (.aload_n 0, 1) := by decide +kernel
theorem dX14_step_145 : decode cX14_step 145 = .ok (.iload_n 2, 1) := by decide +kernel
theorem dX14_step_146 : decode cX14_step 146 = .ok (.invokevirtual 76, 3) := by decide +kernel
theorem dX14_step_149 : decode cX14_step 149 = .ok (.ireturn, 1) := by decide +kernel
theorem dX14_step_150 : decode cX14_step 150 = .ok (.iload_n 1, 1) := by decide +kernel
theorem dX14_step_151 : decode cX14_step 151 = .ok (.iconst 1, 1) := by decide +kernel
theorem dX14_step_152 : decode cX14_step 152 = .ok (.aload_n 0, 1) := by decide +kernel
theorem dX14_step_153 : decode cX14_step 153 = .ok (.getfield 442, 3) := by decide +kernel
theorem dX14_step_156 : decode cX14_step 156 = .ok (.getfield 416, 3) := by decide +kernel
theorem dX14_step_159 : decode cX14_step 159 = .ok (.iload_n 2, 1) := by decide +kernel
theorem dX14_step_160 : decode cX14_step 160 = .ok (.iaload, 1) := by decide +kernel
theorem dX14_step_161 : decode cX14_step 161 = .ok (.ishl, 1) := by decide +kernel
theorem dX14_step_162 : decode cX14_step 162 = .ok (.ior, 1) := by decide +kernel
theorem dX14_step_163 : decode cX14_step 163 = .ok (.istore_n 1, 1) := by decide +kernel
theorem dX14_step_164 : decode cX14_step 164 = .ok (.iinc 2 1, 3) := by decide +kernel
theorem dX14_step_167 : decode cX14_step 167 = .ok (.goto (-128), 3) := by decide +kernel
theorem dX14_step_170 : decode cX14_step 170 = .ok (.aload_n 0, 1) := by decide +kernel
theorem dX14_step_171 : decode cX14_step 171 = .ok (.bipush (-2), 2) := by decide +kernel
theorem dX14_step_173 : decode cX14_step 173 = .ok (.invokevirtual 76, 3) := by decide +kernel
theorem dX14_step_176 : decode cX14_step 176 = .ok (.ireturn, 1) := by decide +kernel
set_option maxRecDepth 100000 in
set_option maxHeartbeats 4000000 in
theorem mX14_step_L73 {E : goEv} {X : goX} {G : goG} {Q : State → Prop} {M : goMI} {L : goML} {R : goMR} {v1 : Int32} {v2 : Int32} (hc : goCx E X cX14_step RX14 5) (hk : goKn E) (hR : X.2.2.2.1 = goRoom 1 21 0 0) (hr : X.2.2.2.2.2.2.2.2.1.sig.returnType = (Option.some FieldType.int)) (hW : goW G R) : ∀ (n : Nat) (v3 : Int32) (v4 : Int32) (r0 : Int32), lX14_step_73 v1 v2 M R n v3 v4 = some r0 → (∀ (d4 : Option Value), goA E X G 0 0 Q 140 [some (.ref 102), some (.int v1), some (.int v2), some (.int r0), d4] [] M L R) → goA E X G 0 0 Q 73 [some (.ref 102), some (.int v1), some (.int v2), some (.int v3), some (.int v4)] [] M L R := by
  intro n
  induction n with
  | zero => intro v3 v4 r0 h; exact nomatch h
  | succ n ih =>
    intro v3 v4 r0 h kx
    rw [lX14_step_73] at h
    refine go_iload4 hc dX14_step_73 ?_
    refine go_aload0 hc dX14_step_75 ?_
    replace h := goBind h; obtain ⟨b31, e32, h⟩ := h
    refine go_getR hc lk_RX14_442 dX14_step_76 (sh_102 hW) e32 ?_
    refine go_getI hc lk_RX14_393 dX14_step_79 (shM_0 (goW_M3 hW e32)) ?_
    refine go_icmp_ge hc 140 dX14_step_82 rfl (fun c33 => ?_) (fun c33 => ?_)
    · replace h := goIfF h c33
      cases h
      exact kx _
    · replace h := goIfT h c33
      refine go_iload3 hc dX14_step_85 ?_
      replace h := goBind h; obtain ⟨x34, e35, h⟩ := h
      have k36 : ∀ (d3 : Option Value), goA E X G 0 0 Q 133 [some (.ref 102), some (.int v1), some (.int v2), d3, some (.int v4)] [.int x34] M L R := by
        intro d3
        refine go_istore3 hc dX14_step_133 ?_
        refine go_iinc4 (v := (v4 + 1)) hc dX14_step_134 rfl ?_
        refine go_goto hc 73 dX14_step_137 rfl ?_
        exact ih _ _ _ h kx
      refine go_if_ne hc 128 dX14_step_86 rfl (fun c37 => ?_) (fun c37 => ?_)
      · replace e35 := goIfF e35 c37
        refine go_iconst (v := 1) hc dX14_step_128 rfl ?_
        refine go_goto hc 133 dX14_step_129 rfl ?_
        cases e35
        exact k36 _
      · replace e35 := goIfT e35 c37
        refine go_aload0 hc dX14_step_89 ?_
        replace e35 := goBind e35; obtain ⟨b38, e39, e35⟩ := e35
        refine go_getR hc lk_RX14_442 dX14_step_90 (sh_102 hW) e39 ?_
        refine go_getR hc lk_RX14_399 dX14_step_93 (shM_0 (goW_M3 hW e39)) (rfM_32 (goW_M3 hW e39)) ?_
        refine go_iload4 hc dX14_step_96 ?_
        replace e35 := goBind e35; obtain ⟨x40, e41, e35⟩ := e35
        refine go_iald hc dX14_step_98 (shM_17 (goW_M3 hW e39)) e41 ?_
        refine go_aload0 hc dX14_step_99 ?_
        replace e35 := goBind e35; obtain ⟨b42, e43, e35⟩ := e35
        refine go_getR hc lk_RX14_442 dX14_step_100 (sh_102 hW) e43 ?_
        refine go_getR hc lk_RX14_416 dX14_step_103 (shM_0 (goW_M3 hW e43)) (rfM_34 (goW_M3 hW e43)) ?_
        refine go_iload2 hc dX14_step_106 ?_
        replace e35 := goBind e35; obtain ⟨x44, e45, e35⟩ := e35
        refine go_iald hc dX14_step_107 (shM_19 (goW_M3 hW e43)) e45 ?_
        refine go_icmp_ne hc 132 dX14_step_108 rfl (fun c46 => ?_) (fun c46 => ?_)
        · replace e35 := goIfF e35 c46
          refine go_iconst (v := 0) hc dX14_step_132 rfl ?_
          cases e35
          exact k36 _
        · replace e35 := goIfT e35 c46
          refine go_aload0 hc dX14_step_111 ?_
          replace e35 := goBind e35; obtain ⟨b47, e48, e35⟩ := e35
          refine go_getR hc lk_RX14_442 dX14_step_112 (sh_102 hW) e48 ?_
          refine go_getR hc lk_RX14_402 dX14_step_115 (shM_0 (goW_M3 hW e48)) (rfM_33 (goW_M3 hW e48)) ?_
          refine go_iload4 hc dX14_step_118 ?_
          replace e35 := goBind e35; obtain ⟨x49, e50, e35⟩ := e35
          refine go_iald hc dX14_step_120 (shM_18 (goW_M3 hW e48)) e50 ?_
          refine go_iload1 hc dX14_step_121 ?_
          refine go_iconst (v := (-1)) hc dX14_step_122 rfl ?_
          refine go_ixor hc dX14_step_123 ?_
          refine go_iand hc dX14_step_124 ?_
          refine go_if_ne hc 132 dX14_step_125 rfl (fun c51 => ?_) (fun c51 => ?_)
          · replace e35 := goIfF e35 c51
            refine go_iconst (v := 0) hc dX14_step_132 rfl ?_
            cases e35
            exact k36 _
          · replace e35 := goIfT e35 c51
            refine go_iconst (v := 1) hc dX14_step_128 rfl ?_
            refine go_goto hc 133 dX14_step_129 rfl ?_
            cases e35
            exact k36 _
set_option maxRecDepth 100000 in
set_option maxHeartbeats 4000000 in
theorem mX14_step_L39 {E : goEv} {X : goX} {G : goG} {M : goMI} {L : goML} {R : goMR} {N : Nat} {r0 : Int32} {r1 : goMI} (hc : goCx E X cX14_step RX14 5) (hk : goKn E) (hR : X.2.2.2.1 = goRoom 1 21 0 0) (hr : X.2.2.2.2.2.2.2.2.1.sig.returnType = (Option.some FieldType.int)) (hW : goW G R) : ∀ (n : Nat) (v1 : Int32) (v2 : Int32), lX14_step_39 N M R n v1 v2 = some (r0, r1) → ∀ (d3 d4 : Option Value), goA E X G 0 0 (goMQ X E (goQi E r0 G r1 L R) 0 0) 39 [some (.ref 102), some (.int v1), some (.int v2), d3, d4] [] M L R := by
  intro n
  induction n with
  | zero => intro v1 v2 h; exact nomatch h
  | succ n ih =>
    intro v1 v2 h d3 d4
    rw [lX14_step_39] at h
    refine go_iload2 hc dX14_step_39 ?_
    refine go_aload0 hc dX14_step_40 ?_
    replace h := goBind h; obtain ⟨b17, e18, h⟩ := h
    refine go_getR hc lk_RX14_442 dX14_step_41 (sh_102 hW) e18 ?_
    refine go_getI hc lk_RX14_413 dX14_step_44 (shM_0 (goW_M3 hW e18)) ?_
    refine go_icmp_ge hc 170 dX14_step_47 rfl (fun c19 => ?_) (fun c19 => ?_)
    · replace h := goIfF h c19
      refine go_aload0 hc dX14_step_170 ?_
      refine go_bipush (v := (-2)) hc dX14_step_171 rfl ?_
      replace h := goB2_h h; obtain ⟨x20, M21, e22, h⟩ := h
      refine go_callVi hc dX14_step_173 (mX14_good hk hW e22) ml_RX14_76 yk_X14_good ⟨wim_X14_good, wse_X14_good⟩ hR rfl (sh_102 hW) rfl rfl rfl (Nat.le_of_ble_eq_true rfl) rfl ?_
      cases h
      exact go_iret hc dX14_step_176 hr
    · replace h := goIfT h c19
      refine go_aload0 hc dX14_step_50 ?_
      replace h := goBind h; obtain ⟨b23, e24, h⟩ := h
      refine go_getR hc lk_RX14_442 dX14_step_51 (sh_102 hW) e24 ?_
      refine go_getI hc lk_RX14_391 dX14_step_54 (shM_0 (goW_M3 hW e24)) ?_
      refine go_aload0 hc dX14_step_57 ?_
      replace h := goBind h; obtain ⟨b25, e26, h⟩ := h
      refine go_getR hc lk_RX14_442 dX14_step_58 (sh_102 hW) e26 ?_
      refine go_getR hc lk_RX14_416 dX14_step_61 (shM_0 (goW_M3 hW e26)) (rfM_34 (goW_M3 hW e26)) ?_
      refine go_iload2 hc dX14_step_64 ?_
      replace h := goBind h; obtain ⟨x27, e28, h⟩ := h
      refine go_iald hc dX14_step_65 (shM_19 (goW_M3 hW e26)) e28 ?_
      refine go_callSi hc dX14_step_66 (mX14_bit hk hW rfl) ml_RX14_366 yk_X14_bit wst_X14_bit hR rfl rfl rfl (Nat.le_of_ble_eq_true rfl) rfl ?_
      replace h := goNm_x h; obtain ⟨x29, e30, h⟩ := h
      refine go_nmI e30 ?_
      refine go_istore3 hc dX14_step_69 ?_
      refine go_iconst (v := 0) hc dX14_step_70 rfl ?_
      refine go_istore4 hc dX14_step_71 ?_
      replace h := goBind h; obtain ⟨x53, e52, h⟩ := h
      refine mX14_step_L73 hc hk hR hr hW _ _ _ _ e52 (fun d4 => ?_)
      refine go_iload3 hc dX14_step_140 ?_
      refine go_if_ne hc 150 dX14_step_141 rfl (fun c54 => ?_) (fun c54 => ?_)
      · replace h := goIfF h c54
        refine go_iload1 hc dX14_step_150 ?_
        refine go_iconst (v := 1) hc dX14_step_151 rfl ?_
        refine go_aload0 hc dX14_step_152 ?_
        replace h := goBind h; obtain ⟨b55, e56, h⟩ := h
        refine go_getR hc lk_RX14_442 dX14_step_153 (sh_102 hW) e56 ?_
        refine go_getR hc lk_RX14_416 dX14_step_156 (shM_0 (goW_M3 hW e56)) (rfM_34 (goW_M3 hW e56)) ?_
        refine go_iload2 hc dX14_step_159 ?_
        replace h := goBind h; obtain ⟨x57, e58, h⟩ := h
        refine go_iald hc dX14_step_160 (shM_19 (goW_M3 hW e56)) e58 ?_
        refine go_ishl hc dX14_step_161 ?_
        refine go_ior hc dX14_step_162 ?_
        replace h := goNm_x h; obtain ⟨x59, e60, h⟩ := h
        refine go_nmI e60 ?_
        refine go_istore1 hc dX14_step_163 ?_
        refine go_iinc2 (v := (v2 + 1)) hc dX14_step_164 rfl ?_
        refine go_goto hc 39 dX14_step_167 rfl ?_
        exact ih _ _ h _ _
      · replace h := goIfT h c54
        refine go_aload0 hc dX14_step_144 ?_
        refine go_iload2 hc dX14_step_145 ?_
        replace h := goB2_h h; obtain ⟨x61, M62, e63, h⟩ := h
        refine go_callVi hc dX14_step_146 (mX14_good hk hW e63) ml_RX14_76 yk_X14_good ⟨wim_X14_good, wse_X14_good⟩ hR rfl (sh_102 hW) rfl rfl rfl (Nat.le_of_ble_eq_true rfl) rfl ?_
        cases h
        exact go_iret hc dX14_step_149 hr
set_option maxRecDepth 100000 in
set_option maxHeartbeats 4000000 in
theorem mX14_step {E : goEv} {l : Launch} {G : goG} {N : Nat} {M : goMI} {L : goML} {R : goMR} {r0 : Int32} {r1 : goMI} (hk : goKn E) (hW : goW G R) (h : fX14_step N M R = some (r0, r1)) : Met l yX14_step (goCd yX14_step cX14_step 5 (Option.some FieldType.int)) (goRoom 1 21 0 0) (goPre E [.ref 102] G M L R) (goQi E r0 G r1 L R) 0 0 (goSet E) := by
  refine goMet pl_RX14 hk (lv := [some (.ref 102), none, none, none, none]) rfl (Nat.le_of_ble_eq_true rfl) ?_
  intro X hc hl hR hr hnm
  subst hl
  unfold fX14_step at h
  refine go_aload0 hc dX14_step_0 ?_
  refine go_iconst (v := 0) hc dX14_step_1 rfl ?_
  replace h := goNm_x h; obtain ⟨M11, e12, h⟩ := h
  refine go_ptI hc lk_RX14_66 dX14_step_2 (sh_102 hW) e12 ?_
  refine go_aload0 hc dX14_step_5 ?_
  refine go_getQ hc lk_RX14_442 dX14_step_6 (sh_102 hW) ?_
  refine go_ifnonnull hc 18 dX14_step_9 rfl (fun _ c13 => ?_) (fun c13 => ?_)
  · replace h := goIfF h (goNn c13)
    refine go_aload0 hc dX14_step_18 ?_
    replace h := goBind h; obtain ⟨b14, e15, h⟩ := h
    refine go_getR hc lk_RX14_442 dX14_step_19 (sh_102 hW) e15 ?_
    refine go_getI hc lk_RX14_405 dX14_step_22 (shM_0 (goW_M3 hW e15)) ?_
    refine go_if_ne hc 35 dX14_step_25 rfl (fun c16 => ?_) (fun c16 => ?_)
    · replace h := goIfF h c16
      refine go_iconst (v := 0) hc dX14_step_35 rfl ?_
      refine go_istore1 hc dX14_step_36 ?_
      refine go_iconst (v := 0) hc dX14_step_37 rfl ?_
      refine go_istore2 hc dX14_step_38 ?_
      exact mX14_step_L39 hc hk hR hr hW _ _ _ h _ _
    · replace h := goIfT h c16
      refine go_aload0 hc dX14_step_28 ?_
      refine go_bipush (v := 6) hc dX14_step_29 rfl ?_
      replace h := goB2_h h; obtain ⟨x64, M65, e66, h⟩ := h
      refine go_callVi hc dX14_step_31 (mX14_refused hk hW e66) ml_RX14_72 yk_X14_refused ⟨wim_X14_refused, wse_X14_refused⟩ hR rfl (sh_102 hW) rfl rfl rfl (Nat.le_of_ble_eq_true rfl) rfl ?_
      cases h
      exact go_iret hc dX14_step_34 hr
  · replace h := goIfT h c13
    refine go_aload0 hc dX14_step_12 ?_
    refine go_iconst (v := 1) hc dX14_step_13 rfl ?_
    replace h := goB2_h h; obtain ⟨x67, M68, e69, h⟩ := h
    refine go_callVi hc dX14_step_14 (mX14_refused hk hW e69) ml_RX14_72 yk_X14_refused ⟨wim_X14_refused, wse_X14_refused⟩ hR rfl (sh_102 hW) rfl rfl rfl (Nat.le_of_ble_eq_true rfl) rfl ?_
    cases h
    exact go_iret hc dX14_step_17 hr
theorem dX14_needs_0 : decode cX14_needs 0 = .ok (.aload_n 0, 1) := by decide +kernel
theorem dX14_needs_1 : decode cX14_needs 1 = .ok (.iconst 0, 1) := by decide +kernel
theorem dX14_needs_2 : decode cX14_needs 2 = .ok (.putfield 66, 3) := by decide +kernel
theorem dX14_needs_5 : decode cX14_needs 5 = .ok (.aload_n 0, 1) := by decide +kernel
theorem dX14_needs_6 : decode cX14_needs 6 = .ok (.iload_n 1, 1) := by decide +kernel
theorem dX14_needs_7 : decode cX14_needs 7 = .ok (.invokevirtual 579, 3) := by decide +kernel
theorem dX14_needs_10 : decode cX14_needs 10 = .ok (.ifCond .ne 9, 3) := by decide +kernel
theorem dX14_needs_13 : decode cX14_needs 13 = .ok (.aload_n 0, 1) := by decide +kernel
theorem dX14_needs_14 : decode cX14_needs 14 = .ok (.iconst 1, 1) := by decide +kernel
theorem dX14_needs_15 : decode cX14_needs 15 = .ok (.invokevirtual 72, 3) := by decide +kernel
theorem dX14_needs_18 : decode cX14_needs 18 = .ok (.ireturn, 1) := by decide +kernel
theorem dX14_needs_19 : decode cX14_needs 19 = .ok (.aload_n 0, 1) := by decide +kernel
theorem dX14_needs_20 : decode cX14_needs 20 = .ok (.iload_n 1, 1) := by decide +kernel
theorem dX14_needs_21 : decode cX14_needs 21 = .ok (.invokevirtual 582, 3) := by decide +kernel
theorem dX14_needs_24 : decode cX14_needs 24 = .ok (.ifCond .ne 10, 3) := by decide +kernel
theorem dX14_needs_27 : decode cX14_needs 27 = .ok (.aload_n 0, 1) := by decide +kernel
theorem dX14_needs_28 : decode cX14_needs 28 = .ok (.bipush (-2), 2) := by decide +kernel
theorem dX14_needs_30 : decode cX14_needs 30 = .ok (.invokevirtual 76, 3) := by decide +kernel
theorem dX14_needs_33 : decode cX14_needs 33 = .ok (.ireturn, 1) := by decide +kernel
theorem dX14_needs_34 : decode cX14_needs 34 = .ok (.iconst 0, 1) := by decide +kernel
theorem dX14_needs_35 : decode cX14_needs 35 = .ok (.istore_n 2, 1) := by decide +kernel
theorem dX14_needs_36 : decode cX14_needs 36 = .ok (.iconst 0, 1) := by decide +kernel
theorem dX14_needs_37 : decode cX14_needs 37 = .ok (.istore_n 3, 1) := by decide +kernel
theorem dX14_needs_38 : decode cX14_needs 38 = .ok (.iload_n 3, 1) := by decide +kernel
theorem dX14_needs_39 : decode cX14_needs 39 = .ok (.aload_n 0, 1) := by decide +kernel
theorem dX14_needs_40 : decode cX14_needs 40 = .ok (.getfield 442, 3) := by decide +kernel
theorem dX14_needs_43 : decode cX14_needs 43 = .ok (.getfield 393, 3) := by decide +kernel
theorem dX14_needs_46 : decode cX14_needs 46 = .ok (.if_icmp .ge 38, 3) := by decide +kernel
theorem dX14_needs_49 : decode cX14_needs 49 = .ok (.iload_n 2, 1) := by decide +kernel
theorem dX14_needs_50 : decode cX14_needs 50 = .ok (.aload_n 0, 1) := by decide +kernel
theorem dX14_needs_51 : decode cX14_needs 51 = .ok (.aload_n 0, 1) := by decide +kernel
theorem dX14_needs_52 : decode cX14_needs 52 = .ok (.getfield 442, 3) := by decide +kernel
theorem dX14_needs_55 : decode cX14_needs 55 = .ok (.getfield 391, 3) := by decide +kernel
theorem dX14_needs_58 : decode cX14_needs 58 = .ok (.iload_n 3, 1) := by decide +kernel
theorem dX14_needs_59 : decode cX14_needs 59 = .ok (.invokevirtual 576, 3) := by decide +kernel
theorem dX14_needs_62 : decode cX14_needs 62 = .ok (.iload_n 1, 1) := by decide +kernel
theorem dX14_needs_63 : decode cX14_needs 63 = .ok (.invokestatic 366, 3) := by decide +kernel
theorem dX14_needs_66 : decode cX14_needs 66 = .ok (.ifCond .eq 7, 3) := by decide +kernel
theorem dX14_needs_69 : decode cX14_needs 69 = .ok (.iconst 0, 1) := by decide +kernel
theorem dX14_needs_70 : decode cX14_needs 70 = .ok (.goto 6, 3) := by decide +kernel
theorem dX14_needs_73 : decode cX14_needs 73 = .ok (.iconst 1, 1) := by decide +kernel
theorem dX14_needs_74 : decode cX14_needs 74 = .ok (.iload_n 3, 1) := by decide +kernel
theorem dX14_needs_75 : decode cX14_needs 75 = .ok (.ishl, 1) := by decide +kernel
theorem dX14_needs_76 : decode cX14_needs 76 = .ok (.ior, 1) := by decide +kernel
theorem dX14_needs_77 : decode cX14_needs 77 = .ok (.istore_n 2, 1) := by decide +kernel
theorem dX14_needs_78 : decode cX14_needs 78 = .ok (.iinc 3 1, 3) := by decide +kernel
theorem dX14_needs_81 : decode cX14_needs 81 = .ok (.goto (-43), 3) := by decide +kernel
theorem dX14_needs_84 : decode cX14_needs 84 = .ok (.aload_n 0, 1) := by decide +kernel
theorem dX14_needs_85 : decode cX14_needs 85 = .ok (.iload_n 2, 1) := by decide +kernel
theorem dX14_needs_86 : decode cX14_needs 86 = .ok (.invokevirtual 76, 3) := by decide +kernel
theorem dX14_needs_89 : decode cX14_needs 89 = .ok (.ireturn, 1) := by decide +kernel
set_option maxRecDepth 100000 in
set_option maxHeartbeats 4000000 in
theorem mX14_needs_L38 {E : goEv} {X : goX} {G : goG} {Q : State → Prop} {M : goMI} {L : goML} {R : goMR} {N : Nat} {v1 : Int32} (hc : goCx E X cX14_needs RX14 4) (hk : goKn E) (hR : X.2.2.2.1 = goRoom 2 47 0 0) (hr : X.2.2.2.2.2.2.2.2.1.sig.returnType = (Option.some FieldType.int)) (hW : goW G R) : ∀ (n : Nat) (v2 : Int32) (v3 : Int32) (r0 : Int32), lX14_needs_38 N v1 M R n v2 v3 = some r0 → (∀ (d1 d3 : Option Value), goA E X G 0 0 Q 84 [some (.ref 102), d1, some (.int r0), d3] [] M L R) → goA E X G 0 0 Q 38 [some (.ref 102), some (.int v1), some (.int v2), some (.int v3)] [] M L R := by
  intro n
  induction n with
  | zero => intro v2 v3 r0 h; exact nomatch h
  | succ n ih =>
    intro v2 v3 r0 h kx
    rw [lX14_needs_38] at h
    refine go_iload3 hc dX14_needs_38 ?_
    refine go_aload0 hc dX14_needs_39 ?_
    replace h := goBind h; obtain ⟨b19, e20, h⟩ := h
    refine go_getR hc lk_RX14_442 dX14_needs_40 (sh_102 hW) e20 ?_
    refine go_getI hc lk_RX14_393 dX14_needs_43 (shM_0 (goW_M3 hW e20)) ?_
    refine go_icmp_ge hc 84 dX14_needs_46 rfl (fun c21 => ?_) (fun c21 => ?_)
    · replace h := goIfF h c21
      cases h
      exact kx _ _
    · replace h := goIfT h c21
      refine go_iload2 hc dX14_needs_49 ?_
      refine go_aload0 hc dX14_needs_50 ?_
      refine go_aload0 hc dX14_needs_51 ?_
      replace h := goBind h; obtain ⟨b22, e23, h⟩ := h
      refine go_getR hc lk_RX14_442 dX14_needs_52 (sh_102 hW) e23 ?_
      refine go_getI hc lk_RX14_391 dX14_needs_55 (shM_0 (goW_M3 hW e23)) ?_
      refine go_iload3 hc dX14_needs_58 ?_
      replace h := goBind h; obtain ⟨x24, e25, h⟩ := h
      refine go_callVi hc dX14_needs_59 (mX14_following hk hW e25) ml_RX14_576 yk_X14_following ⟨wim_X14_following, wse_X14_following⟩ hR rfl (sh_102 hW) rfl rfl rfl (Nat.le_of_ble_eq_true rfl) rfl ?_
      refine go_iload1 hc dX14_needs_62 ?_
      refine go_callSi hc dX14_needs_63 (mX14_bit hk hW rfl) ml_RX14_366 yk_X14_bit wst_X14_bit hR rfl rfl rfl (Nat.le_of_ble_eq_true rfl) rfl ?_
      replace h := goNm_y h; obtain ⟨x26, e27, h⟩ := h
      have k28 : ∀ (d2 : Option Value), goA E X G 0 0 Q 76 [some (.ref 102), some (.int v1), d2, some (.int v3)] [.int x26, .int v2] M L R := by
        intro d2
        refine go_ior hc dX14_needs_76 ?_
        replace h := goNm_x h; obtain ⟨x30, e31, h⟩ := h
        refine go_nmI e31 ?_
        refine go_istore2 hc dX14_needs_77 ?_
        refine go_iinc3 (v := (v3 + 1)) hc dX14_needs_78 rfl ?_
        refine go_goto hc 38 dX14_needs_81 rfl ?_
        exact ih _ _ _ h kx
      refine go_if_eq hc 73 dX14_needs_66 rfl (fun c29 => ?_) (fun c29 => ?_)
      · replace e27 := goIfT e27 c29
        refine go_iconst (v := 1) hc dX14_needs_73 rfl ?_
        refine go_iload3 hc dX14_needs_74 ?_
        refine go_ishl hc dX14_needs_75 ?_
        subst e27
        exact k28 _
      · replace e27 := goIfF e27 c29
        refine go_iconst (v := 0) hc dX14_needs_69 rfl ?_
        refine go_goto hc 76 dX14_needs_70 rfl ?_
        subst e27
        exact k28 _
set_option maxRecDepth 100000 in
set_option maxHeartbeats 4000000 in
theorem mX14_needs {E : goEv} {l : Launch} {G : goG} {N : Nat} {M : goMI} {L : goML} {R : goMR} {v1 : Int32} {r0 : Int32} {r1 : goMI} (hk : goKn E) (hW : goW G R) (h : fX14_needs N M R v1 = some (r0, r1)) : Met l yX14_needs (goCd yX14_needs cX14_needs 4 (Option.some FieldType.int)) (goRoom 2 47 0 0) (goPre E [.ref 102, .int v1] G M L R) (goQi E r0 G r1 L R) 0 0 (goSet E) := by
  refine goMet pl_RX14 hk (lv := [some (.ref 102), some (.int v1), none, none]) rfl (Nat.le_of_ble_eq_true rfl) ?_
  intro X hc hl hR hr hnm
  subst hl
  unfold fX14_needs at h
  refine go_aload0 hc dX14_needs_0 ?_
  refine go_iconst (v := 0) hc dX14_needs_1 rfl ?_
  replace h := goNm_x h; obtain ⟨M11, e12, h⟩ := h
  refine go_ptI hc lk_RX14_66 dX14_needs_2 (sh_102 hW) e12 ?_
  refine go_aload0 hc dX14_needs_5 ?_
  refine go_iload1 hc dX14_needs_6 ?_
  replace h := goBind h; obtain ⟨x13, e14, h⟩ := h
  refine go_callVi hc dX14_needs_7 (mX14_isFact hk hW e14) ml_RX14_579 yk_X14_isFact ⟨wim_X14_isFact, wse_X14_isFact⟩ hR rfl (sh_102 hW) rfl rfl rfl (Nat.le_of_ble_eq_true rfl) rfl ?_
  refine go_if_ne hc 19 dX14_needs_10 rfl (fun c15 => ?_) (fun c15 => ?_)
  · replace h := goIfF h c15
    refine go_aload0 hc dX14_needs_19 ?_
    refine go_iload1 hc dX14_needs_20 ?_
    replace h := goBind h; obtain ⟨x16, e17, h⟩ := h
    refine go_callVi hc dX14_needs_21 (mX14_followsNow hk hW e17) ml_RX14_582 yk_X14_followsNow ⟨wim_X14_followsNow, wse_X14_followsNow⟩ hR rfl (sh_102 hW) rfl rfl rfl (Nat.le_of_ble_eq_true rfl) rfl ?_
    refine go_if_ne hc 34 dX14_needs_24 rfl (fun c18 => ?_) (fun c18 => ?_)
    · replace h := goIfF h c18
      refine go_iconst (v := 0) hc dX14_needs_34 rfl ?_
      refine go_istore2 hc dX14_needs_35 ?_
      refine go_iconst (v := 0) hc dX14_needs_36 rfl ?_
      refine go_istore3 hc dX14_needs_37 ?_
      replace h := goBind h; obtain ⟨x33, e32, h⟩ := h
      refine mX14_needs_L38 hc hk hR hr hW _ _ _ _ e32 (fun d1 d3 => ?_)
      refine go_aload0 hc dX14_needs_84 ?_
      refine go_iload2 hc dX14_needs_85 ?_
      replace h := goB2_h h; obtain ⟨x34, M35, e36, h⟩ := h
      refine go_callVi hc dX14_needs_86 (mX14_good hk hW e36) ml_RX14_76 yk_X14_good ⟨wim_X14_good, wse_X14_good⟩ hR rfl (sh_102 hW) rfl rfl rfl (Nat.le_of_ble_eq_true rfl) rfl ?_
      cases h
      exact go_iret hc dX14_needs_89 hr
    · replace h := goIfT h c18
      refine go_aload0 hc dX14_needs_27 ?_
      refine go_bipush (v := (-2)) hc dX14_needs_28 rfl ?_
      replace h := goB2_h h; obtain ⟨x37, M38, e39, h⟩ := h
      refine go_callVi hc dX14_needs_30 (mX14_good hk hW e39) ml_RX14_76 yk_X14_good ⟨wim_X14_good, wse_X14_good⟩ hR rfl (sh_102 hW) rfl rfl rfl (Nat.le_of_ble_eq_true rfl) rfl ?_
      cases h
      exact go_iret hc dX14_needs_33 hr
  · replace h := goIfT h c15
    refine go_aload0 hc dX14_needs_13 ?_
    refine go_iconst (v := 1) hc dX14_needs_14 rfl ?_
    replace h := goB2_h h; obtain ⟨x40, M41, e42, h⟩ := h
    refine go_callVi hc dX14_needs_15 (mX14_refused hk hW e42) ml_RX14_72 yk_X14_refused ⟨wim_X14_refused, wse_X14_refused⟩ hR rfl (sh_102 hW) rfl rfl rfl (Nat.le_of_ble_eq_true rfl) rfl ?_
    cases h
    exact go_iret hc dX14_needs_18 hr
theorem dX14_enough_0 : decode cX14_enough 0 = .ok (.aload_n 0, 1) := by decide +kernel
theorem dX14_enough_1 : decode cX14_enough 1 = .ok (.iconst 0, 1) := by decide +kernel
theorem dX14_enough_2 : decode cX14_enough 2 = .ok (.putfield 66, 3) := by decide +kernel
theorem dX14_enough_5 : decode cX14_enough 5 = .ok (.aload_n 0, 1) := by decide +kernel
theorem dX14_enough_6 : decode cX14_enough 6 = .ok (.iload_n 1, 1) := by decide +kernel
theorem dX14_enough_7 : decode cX14_enough 7 = .ok (.invokevirtual 579, 3) := by decide +kernel
theorem dX14_enough_10 : decode cX14_enough 10 = .ok (.ifCond .ne 9, 3) := by decide +kernel
theorem dX14_enough_13 : decode cX14_enough 13 = .ok (.aload_n 0, 1) := by decide +kernel
theorem dX14_enough_14 : decode cX14_enough 14 = .ok (.iconst 1, 1) := by decide +kernel
theorem dX14_enough_15 : decode cX14_enough 15 = .ok (.invokevirtual 72, 3) := by decide +kernel
theorem dX14_enough_18 : decode cX14_enough 18 = .ok (.ireturn, 1) := by decide +kernel
theorem dX14_enough_19 : decode cX14_enough 19 = .ok (.bipush (-2), 2) := by decide +kernel
theorem dX14_enough_21 : decode cX14_enough 21 = .ok (.istore_n 2, 1) := by decide +kernel
theorem dX14_enough_22 : decode cX14_enough 22 = .ok (.iconst 0, 1) := by decide +kernel
theorem dX14_enough_23 : decode cX14_enough 23 = .ok (.istore_n 3, 1) := by decide +kernel
theorem dX14_enough_24 : decode cX14_enough 24 = .ok (.iload_n 3, 1) := by decide +kernel
theorem dX14_enough_25 : decode cX14_enough 25 = .ok (.iconst 1, 1) := by decide +kernel
theorem dX14_enough_26 : decode cX14_enough 26 = .ok (.aload_n 0, 1) := by decide +kernel
theorem dX14_enough_27 : decode cX14_enough 27 = .ok (.getfield 442, 3) := by decide +kernel
theorem dX14_enough_30 : decode cX14_enough 30 = .ok (.getfield 388, 3) := by decide +kernel
theorem dX14_enough_33 : decode cX14_enough 33 = .ok (.ishl, 1) := by decide +kernel
theorem dX14_enough_34 : decode cX14_enough 34 = .ok (.if_icmp .ge 55, 3) := by decide +kernel
theorem dX14_enough_37 : decode cX14_enough 37 = .ok (.iload_n 3, 1) := by decide +kernel
theorem dX14_enough_38 : decode cX14_enough 38 = .ok (.aload_n 0, 1) := by decide +kernel
theorem dX14_enough_39 : decode cX14_enough 39 = .ok (.getfield 442, 3) := by decide +kernel
theorem dX14_enough_42 : decode cX14_enough 42 = .ok (.getfield 391, 3) := by decide +kernel
theorem dX14_enough_45 : decode cX14_enough 45 = .ok (.iconst (-1), 1) := by decide +kernel
theorem dX14_enough_46 : decode cX14_enough 46 = .ok (.ixor, 1) := by decide +kernel
theorem dX14_enough_47 : decode cX14_enough 47 = .ok (.iand, 1) := by decide +kernel
theorem dX14_enough_48 : decode cX14_enough 48 = .ok (.ifCond .ne 35, 3) := by decide +kernel
theorem dX14_enough_51 : decode cX14_enough 51 = .ok (.iload_n 2, 1) := by decide +kernel
theorem dX14_enough_52 : decode cX14_enough 52 = .ok (.bipush (-2), 2) := by decide +kernel
theorem dX14_enough_54 : decode cX14_enough 54 = .ok (.if_icmp .eq 14, 3) := by decide +kernel
theorem dX14_enough_57 : decode cX14_enough 57 = .ok (.iload_n 3, 1) := by decide +kernel
theorem dX14_enough_58 : decode cX14_enough 58 = .ok (.invokestatic 396, 3) := by decide +kernel
theorem dX14_enough_61 : decode cX14_enough 61 = .ok (.iload_n 2, 1) := by decide +kernel
theorem dX14_enough_62 : decode cX14_enough 62 = .ok (.invokestatic 396, 3) := by decide +kernel
theorem dX14_enough_65 : decode cX14_enough 65 = .ok (.if_icmp .ge 18, 3) := by decide +kernel
theorem dX14_enough_68 : decode cX14_enough 68 = .ok (.aload_n 0, 1) := by decide +kernel
theorem dX14_enough_69 : decode cX14_enough 69 = .ok (.iload_n 3, 1) := by decide +kernel
theorem dX14_enough_70 : decode cX14_enough 70 = .ok (.iconst (-1), 1) := by decide +kernel
theorem dX14_enough_71 : decode cX14_enough 71 = .ok (.invokevirtual 576, 3) := by decide +kernel
theorem dX14_enough_74 : decode cX14_enough 74 = .ok (.iload_n 1, 1) := by decide +kernel
theorem dX14_enough_75 : decode cX14_enough 75 = .ok (.invokestatic 366, 3) := by decide +kernel
theorem dX14_enough_78 : decode cX14_enough 78 = .ok (.ifCond .eq 5, 3) := by decide +kernel
theorem dX14_enough_81 : decode cX14_enough 81 = .ok (.iload_n 3, 1) := by decide +kernel
theorem dX14_enough_82 : decode cX14_enough 82 = .ok (.istore_n 2, 1) := by decide +kernel
theorem dX14_enough_83 : decode cX14_enough 83 = .ok (.iinc 3 1, 3) := by decide +kernel
theorem dX14_enough_86 : decode cX14_enough 86 = .ok (.goto (-62), 3) := by decide +kernel
theorem dX14_enough_89 : decode cX14_enough 89 = .ok (.aload_n 0, 1) := by decide +kernel
theorem dX14_enough_90 : decode cX14_enough 90 = .ok (.iload_n 2, 1) := by decide +kernel
theorem dX14_enough_91 : decode cX14_enough 91 = .ok (.invokevirtual 76, 3) := by decide +kernel
theorem dX14_enough_94 : decode cX14_enough 94 = .ok (.ireturn, 1) := by decide +kernel
set_option maxRecDepth 100000 in
set_option maxHeartbeats 4000000 in
theorem mX14_enough_L24 {E : goEv} {X : goX} {G : goG} {Q : State → Prop} {M : goMI} {L : goML} {R : goMR} {N : Nat} {v1 : Int32} (hc : goCx E X cX14_enough RX14 4) (hk : goKn E) (hR : X.2.2.2.1 = goRoom 1 26 0 0) (hr : X.2.2.2.2.2.2.2.2.1.sig.returnType = (Option.some FieldType.int)) (hW : goW G R) : ∀ (n : Nat) (v2 : Int32) (v3 : Int32) (r0 : Int32), lX14_enough_24 N v1 M R n v2 v3 = some r0 → (∀ (d1 d3 : Option Value), goA E X G 0 0 Q 89 [some (.ref 102), d1, some (.int r0), d3] [] M L R) → goA E X G 0 0 Q 24 [some (.ref 102), some (.int v1), some (.int v2), some (.int v3)] [] M L R := by
  intro n
  induction n with
  | zero => intro v2 v3 r0 h; exact nomatch h
  | succ n ih =>
    intro v2 v3 r0 h kx
    rw [lX14_enough_24] at h
    refine go_iload3 hc dX14_enough_24 ?_
    refine go_iconst (v := 1) hc dX14_enough_25 rfl ?_
    refine go_aload0 hc dX14_enough_26 ?_
    replace h := goBind h; obtain ⟨b16, e17, h⟩ := h
    refine go_getR hc lk_RX14_442 dX14_enough_27 (sh_102 hW) e17 ?_
    refine go_getI hc lk_RX14_388 dX14_enough_30 (shM_0 (goW_M3 hW e17)) ?_
    refine go_ishl hc dX14_enough_33 ?_
    refine go_icmp_ge hc 89 dX14_enough_34 rfl (fun c18 => ?_) (fun c18 => ?_)
    · replace h := goIfF h c18
      cases h
      exact kx _ _
    · replace h := goIfT h c18
      refine go_iload3 hc dX14_enough_37 ?_
      refine go_aload0 hc dX14_enough_38 ?_
      replace h := goBind h; obtain ⟨b19, e20, h⟩ := h
      refine go_getR hc lk_RX14_442 dX14_enough_39 (sh_102 hW) e20 ?_
      refine go_getI hc lk_RX14_391 dX14_enough_42 (shM_0 (goW_M3 hW e20)) ?_
      refine go_iconst (v := (-1)) hc dX14_enough_45 rfl ?_
      refine go_ixor hc dX14_enough_46 ?_
      refine go_iand hc dX14_enough_47 ?_
      replace h := goBind h; obtain ⟨x21, e22, h⟩ := h
      have k23 : goA E X G 0 0 Q 83 [some (.ref 102), some (.int v1), some (.int x21), some (.int v3)] [] M L R := by
        refine go_iinc3 (v := (v3 + 1)) hc dX14_enough_83 rfl ?_
        refine go_goto hc 24 dX14_enough_86 rfl ?_
        exact ih _ _ _ h kx
      refine go_if_ne hc 83 dX14_enough_48 rfl (fun c24 => ?_) (fun c24 => ?_)
      · replace e22 := goIfF e22 c24
        cases e22
        exact k23
      · replace e22 := goIfT e22 c24
        refine go_iload2 hc dX14_enough_51 ?_
        refine go_bipush (v := (-2)) hc dX14_enough_52 rfl ?_
        refine go_icmp_eq hc 68 dX14_enough_54 rfl (fun c25 => ?_) (fun c25 => ?_)
        · replace e22 := goIfT e22 c25
          refine go_aload0 hc dX14_enough_68 ?_
          refine go_iload3 hc dX14_enough_69 ?_
          refine go_iconst (v := (-1)) hc dX14_enough_70 rfl ?_
          replace e22 := goBind e22; obtain ⟨x26, e27, e22⟩ := e22
          refine go_callVi hc dX14_enough_71 (mX14_following hk hW e27) ml_RX14_576 yk_X14_following ⟨wim_X14_following, wse_X14_following⟩ hR rfl (sh_102 hW) rfl rfl rfl (Nat.le_of_ble_eq_true rfl) rfl ?_
          refine go_iload1 hc dX14_enough_74 ?_
          refine go_callSi hc dX14_enough_75 (mX14_bit hk hW rfl) ml_RX14_366 yk_X14_bit wst_X14_bit hR rfl rfl rfl (Nat.le_of_ble_eq_true rfl) rfl ?_
          refine go_if_eq hc 83 dX14_enough_78 rfl (fun c28 => ?_) (fun c28 => ?_)
          · replace e22 := goIfT e22 c28
            cases e22
            exact k23
          · replace e22 := goIfF e22 c28
            refine go_iload3 hc dX14_enough_81 ?_
            refine go_istore2 hc dX14_enough_82 ?_
            cases e22
            exact k23
        · replace e22 := goIfF e22 c25
          refine go_iload3 hc dX14_enough_57 ?_
          replace e22 := goBind e22; obtain ⟨x29, e30, e22⟩ := e22
          refine go_callSi hc dX14_enough_58 (mX14_bits hk hW e30) ml_RX14_396 yk_X14_bits wst_X14_bits hR rfl rfl rfl (Nat.le_of_ble_eq_true rfl) rfl ?_
          refine go_iload2 hc dX14_enough_61 ?_
          replace e22 := goBind e22; obtain ⟨x31, e32, e22⟩ := e22
          refine go_callSi hc dX14_enough_62 (mX14_bits hk hW e32) ml_RX14_396 yk_X14_bits wst_X14_bits hR rfl rfl rfl (Nat.le_of_ble_eq_true rfl) rfl ?_
          refine go_icmp_ge hc 83 dX14_enough_65 rfl (fun c33 => ?_) (fun c33 => ?_)
          · replace e22 := goIfF e22 c33
            cases e22
            exact k23
          · replace e22 := goIfT e22 c33
            refine go_aload0 hc dX14_enough_68 ?_
            refine go_iload3 hc dX14_enough_69 ?_
            refine go_iconst (v := (-1)) hc dX14_enough_70 rfl ?_
            replace e22 := goBind e22; obtain ⟨x34, e35, e22⟩ := e22
            refine go_callVi hc dX14_enough_71 (mX14_following hk hW e35) ml_RX14_576 yk_X14_following ⟨wim_X14_following, wse_X14_following⟩ hR rfl (sh_102 hW) rfl rfl rfl (Nat.le_of_ble_eq_true rfl) rfl ?_
            refine go_iload1 hc dX14_enough_74 ?_
            refine go_callSi hc dX14_enough_75 (mX14_bit hk hW rfl) ml_RX14_366 yk_X14_bit wst_X14_bit hR rfl rfl rfl (Nat.le_of_ble_eq_true rfl) rfl ?_
            refine go_if_eq hc 83 dX14_enough_78 rfl (fun c36 => ?_) (fun c36 => ?_)
            · replace e22 := goIfT e22 c36
              cases e22
              exact k23
            · replace e22 := goIfF e22 c36
              refine go_iload3 hc dX14_enough_81 ?_
              refine go_istore2 hc dX14_enough_82 ?_
              cases e22
              exact k23
set_option maxRecDepth 100000 in
set_option maxHeartbeats 4000000 in
theorem mX14_enough {E : goEv} {l : Launch} {G : goG} {N : Nat} {M : goMI} {L : goML} {R : goMR} {v1 : Int32} {r0 : Int32} {r1 : goMI} (hk : goKn E) (hW : goW G R) (h : fX14_enough N M R v1 = some (r0, r1)) : Met l yX14_enough (goCd yX14_enough cX14_enough 4 (Option.some FieldType.int)) (goRoom 1 26 0 0) (goPre E [.ref 102, .int v1] G M L R) (goQi E r0 G r1 L R) 0 0 (goSet E) := by
  refine goMet pl_RX14 hk (lv := [some (.ref 102), some (.int v1), none, none]) rfl (Nat.le_of_ble_eq_true rfl) ?_
  intro X hc hl hR hr hnm
  subst hl
  unfold fX14_enough at h
  refine go_aload0 hc dX14_enough_0 ?_
  refine go_iconst (v := 0) hc dX14_enough_1 rfl ?_
  replace h := goNm_x h; obtain ⟨M11, e12, h⟩ := h
  refine go_ptI hc lk_RX14_66 dX14_enough_2 (sh_102 hW) e12 ?_
  refine go_aload0 hc dX14_enough_5 ?_
  refine go_iload1 hc dX14_enough_6 ?_
  replace h := goBind h; obtain ⟨x13, e14, h⟩ := h
  refine go_callVi hc dX14_enough_7 (mX14_isFact hk hW e14) ml_RX14_579 yk_X14_isFact ⟨wim_X14_isFact, wse_X14_isFact⟩ hR rfl (sh_102 hW) rfl rfl rfl (Nat.le_of_ble_eq_true rfl) rfl ?_
  refine go_if_ne hc 19 dX14_enough_10 rfl (fun c15 => ?_) (fun c15 => ?_)
  · replace h := goIfF h c15
    refine go_bipush (v := (-2)) hc dX14_enough_19 rfl ?_
    refine go_istore2 hc dX14_enough_21 ?_
    refine go_iconst (v := 0) hc dX14_enough_22 rfl ?_
    refine go_istore3 hc dX14_enough_23 ?_
    replace h := goBind h; obtain ⟨x38, e37, h⟩ := h
    refine mX14_enough_L24 hc hk hR hr hW _ _ _ _ e37 (fun d1 d3 => ?_)
    refine go_aload0 hc dX14_enough_89 ?_
    refine go_iload2 hc dX14_enough_90 ?_
    replace h := goB2_h h; obtain ⟨x39, M40, e41, h⟩ := h
    refine go_callVi hc dX14_enough_91 (mX14_good hk hW e41) ml_RX14_76 yk_X14_good ⟨wim_X14_good, wse_X14_good⟩ hR rfl (sh_102 hW) rfl rfl rfl (Nat.le_of_ble_eq_true rfl) rfl ?_
    cases h
    exact go_iret hc dX14_enough_94 hr
  · replace h := goIfT h c15
    refine go_aload0 hc dX14_enough_13 ?_
    refine go_iconst (v := 1) hc dX14_enough_14 rfl ?_
    replace h := goB2_h h; obtain ⟨x42, M43, e44, h⟩ := h
    refine go_callVi hc dX14_enough_15 (mX14_refused hk hW e44) ml_RX14_72 yk_X14_refused ⟨wim_X14_refused, wse_X14_refused⟩ hR rfl (sh_102 hW) rfl rfl rfl (Nat.le_of_ble_eq_true rfl) rfl ?_
    cases h
    exact go_iret hc dX14_enough_18 hr
theorem dX14_isCheese_0 : decode cX14_isCheese 0 = .ok (.iconst 0, 1) := by decide +kernel
theorem dX14_isCheese_1 : decode cX14_isCheese 1 = .ok (.istore_n 2, 1) := by decide +kernel
theorem dX14_isCheese_2 : decode cX14_isCheese 2 = .ok (.iload_n 2, 1) := by decide +kernel
theorem dX14_isCheese_3 : decode cX14_isCheese 3 = .ok (.aload_n 0, 1) := by decide +kernel
theorem dX14_isCheese_4 : decode cX14_isCheese 4 = .ok (.getfield 442, 3) := by decide +kernel
theorem dX14_isCheese_7 : decode cX14_isCheese 7 = .ok (.getfield 229, 3) := by decide +kernel
theorem dX14_isCheese_10 : decode cX14_isCheese 10 = .ok (.if_icmp .ge 70, 3) := by decide +kernel
theorem dX14_isCheese_13 : decode cX14_isCheese 13 = .ok (.iconst 0, 1) := by decide +kernel
theorem dX14_isCheese_14 : decode cX14_isCheese 14 = .ok (.istore_n 3, 1) := by decide +kernel
theorem dX14_isCheese_15 : decode cX14_isCheese 15 = .ok (.iconst 0, 1) := by decide +kernel
theorem dX14_isCheese_16 : decode cX14_isCheese 16 = .ok (.istore 4, 2) := by decide +kernel
theorem dX14_isCheese_18 : decode cX14_isCheese 18 = .ok (.iload 4, 2) := by decide +kernel
theorem dX14_isCheese_20 : decode cX14_isCheese 20 = .ok (.aload_n 0, 1) := by decide +kernel
theorem dX14_isCheese_21 : decode cX14_isCheese 21 = .ok (.getfield 442, 3) := by decide +kernel
theorem dX14_isCheese_24 : decode cX14_isCheese 24 = .ok (.getfield 328, 3) := by decide +kernel
theorem dX14_isCheese_27 : decode cX14_isCheese 27 = .ok (.if_icmp .ge 32, 3) := by decide +kernel
theorem dX14_isCheese_30 : decode cX14_isCheese 30 = .ok (.iload_n 3, 1) := by decide +kernel
theorem dX14_isCheese_31 : decode cX14_isCheese 31 = .ok (.iload_n 1, 1) := by decide +kernel
theorem dX14_isCheese_32 : decode cX14_isCheese 32 = .ok (.iload 4, 2) := by decide +kernel
theorem dX14_isCheese_34 : decode cX14_isCheese 34 = .ok (.invokestatic 366, 3) := by decide +kernel
theorem dX14_isCheese_37 : decode cX14_isCheese 37 = .ok (.ifCond .eq 13, 3) := by decide +kernel
theorem dX14_isCheese_40 : decode cX14_isCheese 40 = .ok (.aload_n 0, 1) := by decide +kernel
theorem dX14_isCheese_41 : decode cX14_isCheese 41 = .ok (.iload 4, 2) := by decide +kernel
theorem dX14_isCheese_43 : decode cX14_isCheese 43 = .ok (.iload_n 2, 1) := by decide +kernel
theorem dX14_isCheese_44 : decode cX14_isCheese 44 = .ok (.invokevirtual 520, 3) := by decide +kernel
theorem dX14_isCheese_47 : decode cX14_isCheese 47 = .ok (.goto 4, 3) := by decide +kernel
theorem dX14_isCheese_50 : decode cX14_isCheese 50 = .ok (.iconst 0, 1) := by decide +kernel
theorem dX14_isCheese_51 : decode cX14_isCheese 51 = .ok (.iadd, 1) := by decide +kernel
theorem dX14_isCheese_52 : decode cX14_isCheese 52 = .ok (.istore_n 3, 1) := by decide +kernel
theorem dX14_isCheese_53 : decode cX14_isCheese 53 = .ok (.iinc 4 1, 3) := by decide +kernel
theorem dX14_isCheese_56 : decode cX14_isCheese 56 = .ok (.goto (-38), 3) := by decide +kernel
theorem dX14_isCheese_59 : decode cX14_isCheese 59 = .ok (.iload_n 3, 1) := by decide +kernel
theorem dX14_isCheese_60 : decode cX14_isCheese 60 = .ok (.aload_n 0, 1) := by decide +kernel
theorem dX14_isCheese_61 : decode cX14_isCheese 61 = .ok (.getfield 442, 3) := by decide +kernel
theorem dX14_isCheese_64 : decode cX14_isCheese 64 = .ok (.getfield 433, 3) := by decide +kernel
theorem dX14_isCheese_67 : decode cX14_isCheese 67 = .ok (.iload_n 2, 1) := by decide +kernel
theorem dX14_isCheese_68 : decode cX14_isCheese 68 = .ok (.iaload, 1) := by decide +kernel
theorem dX14_isCheese_69 : decode cX14_isCheese 69 = .ok (.if_icmp .eq 5, 3) := by decide +kernel
theorem dX14_isCheese_72 : decode cX14_isCheese 72 = .ok (.iconst 0, 1) := by decide +kernel
theorem dX14_isCheese_73 : decode cX14_isCheese 73 = .ok (.ireturn, 1) := by decide +kernel
theorem dX14_isCheese_74 : decode cX14_isCheese 74 = .ok (.iinc 2 1, 3) := by decide +kernel
theorem dX14_isCheese_77 : decode cX14_isCheese 77 = .ok (.goto (-75), 3) := by decide +kernel
theorem dX14_isCheese_80 : decode cX14_isCheese 80 = .ok (.iconst 1, 1) := by decide +kernel
theorem dX14_isCheese_81 : decode cX14_isCheese 81 = .ok (.ireturn, 1) := by decide +kernel
set_option maxRecDepth 100000 in
set_option maxHeartbeats 4000000 in
theorem mX14_isCheese_L18 {E : goEv} {X : goX} {G : goG} {Q : State → Prop} {M : goMI} {L : goML} {R : goMR} {N : Nat} {v1 : Int32} {v2 : Int32} (hc : goCx E X cX14_isCheese RX14 5) (hk : goKn E) (hR : X.2.2.2.1 = goRoom 1 24 0 0) (hr : X.2.2.2.2.2.2.2.2.1.sig.returnType = (Option.some FieldType.boolean)) (hW : goW G R) : ∀ (n : Nat) (v3 : Int32) (v4 : Int32) (r0 : Int32), lX14_isCheese_18 N v1 v2 M R n v3 v4 = some r0 → (∀ (d4 : Option Value), goA E X G 0 0 Q 59 [some (.ref 102), some (.int v1), some (.int v2), some (.int r0), d4] [] M L R) → goA E X G 0 0 Q 18 [some (.ref 102), some (.int v1), some (.int v2), some (.int v3), some (.int v4)] [] M L R := by
  intro n
  induction n with
  | zero => intro v3 v4 r0 h; exact nomatch h
  | succ n ih =>
    intro v3 v4 r0 h kx
    rw [lX14_isCheese_18] at h
    refine go_iload4 hc dX14_isCheese_18 ?_
    refine go_aload0 hc dX14_isCheese_20 ?_
    replace h := goBind h; obtain ⟨b14, e15, h⟩ := h
    refine go_getR hc lk_RX14_442 dX14_isCheese_21 (sh_102 hW) e15 ?_
    refine go_getI hc lk_RX14_328 dX14_isCheese_24 (shM_0 (goW_M3 hW e15)) ?_
    refine go_icmp_ge hc 59 dX14_isCheese_27 rfl (fun c16 => ?_) (fun c16 => ?_)
    · replace h := goIfF h c16
      cases h
      exact kx _
    · replace h := goIfT h c16
      refine go_iload3 hc dX14_isCheese_30 ?_
      refine go_iload1 hc dX14_isCheese_31 ?_
      refine go_iload4 hc dX14_isCheese_32 ?_
      refine go_callSi hc dX14_isCheese_34 (mX14_bit hk hW rfl) ml_RX14_366 yk_X14_bit wst_X14_bit hR rfl rfl rfl (Nat.le_of_ble_eq_true rfl) rfl ?_
      replace h := goBind h; obtain ⟨x17, e18, h⟩ := h
      have k19 : ∀ (d3 : Option Value), goA E X G 0 0 Q 51 [some (.ref 102), some (.int v1), some (.int v2), d3, some (.int v4)] [.int x17, .int v3] M L R := by
        intro d3
        refine go_iadd hc dX14_isCheese_51 ?_
        replace h := goNm_x h; obtain ⟨x23, e24, h⟩ := h
        refine go_nmI e24 ?_
        refine go_istore3 hc dX14_isCheese_52 ?_
        refine go_iinc4 (v := (v4 + 1)) hc dX14_isCheese_53 rfl ?_
        refine go_goto hc 18 dX14_isCheese_56 rfl ?_
        exact ih _ _ _ h kx
      refine go_if_eq hc 50 dX14_isCheese_37 rfl (fun c20 => ?_) (fun c20 => ?_)
      · replace e18 := goIfT e18 c20
        refine go_iconst (v := 0) hc dX14_isCheese_50 rfl ?_
        cases e18
        exact k19 _
      · replace e18 := goIfF e18 c20
        refine go_aload0 hc dX14_isCheese_40 ?_
        refine go_iload4 hc dX14_isCheese_41 ?_
        refine go_iload2 hc dX14_isCheese_43 ?_
        replace e18 := goBind e18; obtain ⟨x21, e22, e18⟩ := e18
        refine go_callVi hc dX14_isCheese_44 (mX14_ateOf hk hW e22) ml_RX14_520 yk_X14_ateOf ⟨wim_X14_ateOf, wse_X14_ateOf⟩ hR rfl (sh_102 hW) rfl rfl rfl (Nat.le_of_ble_eq_true rfl) rfl ?_
        refine go_goto hc 51 dX14_isCheese_47 rfl ?_
        cases e18
        exact k19 _
set_option maxRecDepth 100000 in
set_option maxHeartbeats 4000000 in
theorem mX14_isCheese_L2 {E : goEv} {X : goX} {G : goG} {M : goMI} {L : goML} {R : goMR} {N : Nat} {v1 : Int32} {r0 : Int32} (hc : goCx E X cX14_isCheese RX14 5) (hk : goKn E) (hR : X.2.2.2.1 = goRoom 1 24 0 0) (hr : X.2.2.2.2.2.2.2.2.1.sig.returnType = (Option.some FieldType.boolean)) (hW : goW G R) : ∀ (n : Nat) (v2 : Int32), lX14_isCheese_2 N v1 M R n v2 = some r0 → ∀ (d3 d4 : Option Value), goA E X G 0 0 (goMQ X E (goQi E r0 G M L R) 0 0) 2 [some (.ref 102), some (.int v1), some (.int v2), d3, d4] [] M L R := by
  intro n
  induction n with
  | zero => intro v2 h; exact nomatch h
  | succ n ih =>
    intro v2 h d3 d4
    rw [lX14_isCheese_2] at h
    refine go_iload2 hc dX14_isCheese_2 ?_
    refine go_aload0 hc dX14_isCheese_3 ?_
    replace h := goBind h; obtain ⟨b11, e12, h⟩ := h
    refine go_getR hc lk_RX14_442 dX14_isCheese_4 (sh_102 hW) e12 ?_
    refine go_getI hc lk_RX14_229 dX14_isCheese_7 (shM_0 (goW_M3 hW e12)) ?_
    refine go_icmp_ge hc 80 dX14_isCheese_10 rfl (fun c13 => ?_) (fun c13 => ?_)
    · replace h := goIfF h c13
      refine go_iconst (v := 1) hc dX14_isCheese_80 rfl ?_
      cases h
      exact go_zret hc dX14_isCheese_81 hr rfl
    · replace h := goIfT h c13
      refine go_iconst (v := 0) hc dX14_isCheese_13 rfl ?_
      refine go_istore3 hc dX14_isCheese_14 ?_
      refine go_iconst (v := 0) hc dX14_isCheese_15 rfl ?_
      refine go_istore4 hc dX14_isCheese_16 ?_
      replace h := goBind h; obtain ⟨x26, e25, h⟩ := h
      refine mX14_isCheese_L18 hc hk hR hr hW _ _ _ _ e25 (fun d4 => ?_)
      refine go_iload3 hc dX14_isCheese_59 ?_
      refine go_aload0 hc dX14_isCheese_60 ?_
      replace h := goBind h; obtain ⟨b27, e28, h⟩ := h
      refine go_getR hc lk_RX14_442 dX14_isCheese_61 (sh_102 hW) e28 ?_
      refine go_getR hc lk_RX14_433 dX14_isCheese_64 (shM_0 (goW_M3 hW e28)) (rfM_37 (goW_M3 hW e28)) ?_
      refine go_iload2 hc dX14_isCheese_67 ?_
      replace h := goBind h; obtain ⟨x29, e30, h⟩ := h
      refine go_iald hc dX14_isCheese_68 (shM_22 (goW_M3 hW e28)) e30 ?_
      refine go_icmp_eq hc 74 dX14_isCheese_69 rfl (fun c31 => ?_) (fun c31 => ?_)
      · replace h := goIfT h c31
        refine go_iinc2 (v := (v2 + 1)) hc dX14_isCheese_74 rfl ?_
        refine go_goto hc 2 dX14_isCheese_77 rfl ?_
        exact ih _ h _ _
      · replace h := goIfF h c31
        refine go_iconst (v := 0) hc dX14_isCheese_72 rfl ?_
        cases h
        exact go_zret hc dX14_isCheese_73 hr rfl
set_option maxRecDepth 100000 in
set_option maxHeartbeats 4000000 in
theorem mX14_isCheese {E : goEv} {l : Launch} {G : goG} {N : Nat} {M : goMI} {L : goML} {R : goMR} {v1 : Int32} {r0 : Int32} (hk : goKn E) (hW : goW G R) (h : fX14_isCheese N M R v1 = some r0) : Met l yX14_isCheese (goCd yX14_isCheese cX14_isCheese 5 (Option.some FieldType.boolean)) (goRoom 1 24 0 0) (goPre E [.ref 102, .int v1] G M L R) (goQi E r0 G M L R) 0 0 (goSet E) := by
  refine goMet pl_RX14 hk (lv := [some (.ref 102), some (.int v1), none, none, none]) rfl (Nat.le_of_ble_eq_true rfl) ?_
  intro X hc hl hR hr hnm
  subst hl
  unfold fX14_isCheese at h
  refine go_iconst (v := 0) hc dX14_isCheese_0 rfl ?_
  refine go_istore2 hc dX14_isCheese_1 ?_
  exact mX14_isCheese_L2 hc hk hR hr hW _ _ h _ _
theorem dX14_refusesCheese_0 : decode cX14_refusesCheese 0 = .ok (.aload_n 0, 1) := by decide +kernel
theorem dX14_refusesCheese_1 : decode cX14_refusesCheese 1 = .ok (.iload_n 1, 1) := by decide +kernel
theorem dX14_refusesCheese_2 : decode cX14_refusesCheese 2 = .ok (.invokevirtual 514, 3) := by decide +kernel
theorem dX14_refusesCheese_5 : decode cX14_refusesCheese 5 = .ok (.ifCond .ne 7, 3) := by decide +kernel
theorem dX14_refusesCheese_8 : decode cX14_refusesCheese 8 = .ok (.iconst 1, 1) := by decide +kernel
theorem dX14_refusesCheese_9 : decode cX14_refusesCheese 9 = .ok (.goto 19, 3) := by decide +kernel
theorem dX14_refusesCheese_12 : decode cX14_refusesCheese 12 = .ok (.aload_n 0, 1) := by decide +kernel
theorem dX14_refusesCheese_13 : decode cX14_refusesCheese 13 = .ok (.getfield 442, 3) := by decide +kernel
theorem dX14_refusesCheese_16 : decode cX14_refusesCheese 16 = .ok (.getfield 430, 3) := by decide +kernel
theorem dX14_refusesCheese_19 : decode cX14_refusesCheese 19 = .ok (.ifCond .eq 7, 3) := by decide +kernel
theorem dX14_refusesCheese_22 : decode cX14_refusesCheese 22 = .ok (.iconst 0, 1) := by decide +kernel
theorem dX14_refusesCheese_23 : decode cX14_refusesCheese 23 = .ok (.goto 5, 3) := by decide +kernel
theorem dX14_refusesCheese_26 : decode cX14_refusesCheese 26 = .ok (.bipush 6, 2) := by decide +kernel
theorem dX14_refusesCheese_28 : decode cX14_refusesCheese 28 = .ok (.ireturn, 1) := by decide +kernel
set_option maxRecDepth 100000 in
set_option maxHeartbeats 4000000 in
theorem mX14_refusesCheese {E : goEv} {l : Launch} {G : goG} {N : Nat} {M : goMI} {L : goML} {R : goMR} {v1 : Int32} {r0 : Int32} (hk : goKn E) (hW : goW G R) (h : fX14_refusesCheese N M R v1 = some r0) : Met l yX14_refusesCheese (goCd yX14_refusesCheese cX14_refusesCheese 2 (Option.some FieldType.int)) (goRoom 2 43 0 0) (goPre E [.ref 102, .int v1] G M L R) (goQi E r0 G M L R) 0 0 (goSet E) := by
  refine goMet pl_RX14 hk (lv := [some (.ref 102), some (.int v1)]) rfl (Nat.le_of_ble_eq_true rfl) ?_
  intro X hc hl hR hr hnm
  subst hl
  unfold fX14_refusesCheese at h
  refine go_aload0 hc dX14_refusesCheese_0 ?_
  refine go_iload1 hc dX14_refusesCheese_1 ?_
  replace h := goBind h; obtain ⟨x11, e12, h⟩ := h
  refine go_callVi hc dX14_refusesCheese_2 (mX14_isCase hk hW e12) ml_RX14_514 yk_X14_isCase ⟨wim_X14_isCase, wse_X14_isCase⟩ hR rfl (sh_102 hW) rfl rfl rfl (Nat.le_of_ble_eq_true rfl) rfl ?_
  refine go_if_ne hc 12 dX14_refusesCheese_5 rfl (fun c13 => ?_) (fun c13 => ?_)
  · replace h := goIfF h c13
    refine go_aload0 hc dX14_refusesCheese_12 ?_
    replace h := goBind h; obtain ⟨b14, e15, h⟩ := h
    refine go_getR hc lk_RX14_442 dX14_refusesCheese_13 (sh_102 hW) e15 ?_
    refine go_getI hc lk_RX14_430 dX14_refusesCheese_16 (shM_0 (goW_M3 hW e15)) ?_
    refine go_if_eq hc 26 dX14_refusesCheese_19 rfl (fun c16 => ?_) (fun c16 => ?_)
    · replace h := goIfT h c16
      refine go_bipush (v := 6) hc dX14_refusesCheese_26 rfl ?_
      cases h
      exact go_iret hc dX14_refusesCheese_28 hr
    · replace h := goIfF h c16
      refine go_iconst (v := 0) hc dX14_refusesCheese_22 rfl ?_
      refine go_goto hc 28 dX14_refusesCheese_23 rfl ?_
      cases h
      exact go_iret hc dX14_refusesCheese_28 hr
  · replace h := goIfT h c13
    refine go_iconst (v := 1) hc dX14_refusesCheese_8 rfl ?_
    refine go_goto hc 28 dX14_refusesCheese_9 rfl ?_
    cases h
    exact go_iret hc dX14_refusesCheese_28 hr
theorem dX14_cheese_0 : decode cX14_cheese 0 = .ok (.aload_n 0, 1) := by decide +kernel
theorem dX14_cheese_1 : decode cX14_cheese 1 = .ok (.iconst 0, 1) := by decide +kernel
theorem dX14_cheese_2 : decode cX14_cheese 2 = .ok (.putfield 66, 3) := by decide +kernel
theorem dX14_cheese_5 : decode cX14_cheese 5 = .ok (.aload_n 0, 1) := by decide +kernel
theorem dX14_cheese_6 : decode cX14_cheese 6 = .ok (.iload_n 1, 1) := by decide +kernel
theorem dX14_cheese_7 : decode cX14_cheese 7 = .ok (.invokevirtual 585, 3) := by decide +kernel
theorem dX14_cheese_10 : decode cX14_cheese 10 = .ok (.istore_n 2, 1) := by decide +kernel
theorem dX14_cheese_11 : decode cX14_cheese 11 = .ok (.iload_n 2, 1) := by decide +kernel
theorem dX14_cheese_12 : decode cX14_cheese 12 = .ok (.ifCond .le 9, 3) := by decide +kernel
theorem dX14_cheese_15 : decode cX14_cheese 15 = .ok (.aload_n 0, 1) := by decide +kernel
theorem dX14_cheese_16 : decode cX14_cheese 16 = .ok (.iload_n 2, 1) := by decide +kernel
theorem dX14_cheese_17 : decode cX14_cheese 17 = .ok (.invokevirtual 72, 3) := by decide +kernel
theorem dX14_cheese_20 : decode cX14_cheese 20 = .ok (.ireturn, 1) := by decide +kernel
theorem dX14_cheese_21 : decode cX14_cheese 21 = .ok (.aload_n 0, 1) := by decide +kernel
theorem dX14_cheese_22 : decode cX14_cheese 22 = .ok (.iload_n 1, 1) := by decide +kernel
theorem dX14_cheese_23 : decode cX14_cheese 23 = .ok (.invokevirtual 482, 3) := by decide +kernel
theorem dX14_cheese_26 : decode cX14_cheese 26 = .ok (.iconst 0, 1) := by decide +kernel
theorem dX14_cheese_27 : decode cX14_cheese 27 = .ok (.istore_n 3, 1) := by decide +kernel
theorem dX14_cheese_28 : decode cX14_cheese 28 = .ok (.iconst 0, 1) := by decide +kernel
theorem dX14_cheese_29 : decode cX14_cheese 29 = .ok (.istore 4, 2) := by decide +kernel
theorem dX14_cheese_31 : decode cX14_cheese 31 = .ok (.iload 4, 2) := by decide +kernel
theorem dX14_cheese_33 : decode cX14_cheese 33 = .ok (.aload_n 0, 1) := by decide +kernel
theorem dX14_cheese_34 : decode cX14_cheese 34 = .ok (.invokevirtual 488, 3) := by decide +kernel
theorem dX14_cheese_37 : decode cX14_cheese 37 = .ok (.if_icmp .gt 26, 3) := by decide +kernel
theorem dX14_cheese_40 : decode cX14_cheese 40 = .ok (.iload_n 3, 1) := by decide +kernel
theorem dX14_cheese_41 : decode cX14_cheese 41 = .ok (.aload_n 0, 1) := by decide +kernel
theorem dX14_cheese_42 : decode cX14_cheese 42 = .ok (.iload 4, 2) := by decide +kernel
theorem dX14_cheese_44 : decode cX14_cheese 44 = .ok (.invokevirtual 588, 3) := by decide +kernel
theorem dX14_cheese_47 : decode cX14_cheese 47 = .ok (.ifCond .eq 7, 3) := by decide +kernel
theorem dX14_cheese_50 : decode cX14_cheese 50 = .ok (.iconst 1, 1) := by decide +kernel
theorem dX14_cheese_51 : decode cX14_cheese 51 = .ok (.goto 4, 3) := by decide +kernel
theorem dX14_cheese_54 : decode cX14_cheese 54 = .ok (.iconst 0, 1) := by decide +kernel
theorem dX14_cheese_55 : decode cX14_cheese 55 = .ok (.iadd, 1) := by decide +kernel
theorem dX14_cheese_56 : decode cX14_cheese 56 = .ok (.istore_n 3, 1) := by decide +kernel
theorem dX14_cheese_57 : decode cX14_cheese 57 = .ok (.iinc 4 1, 3) := by decide +kernel
theorem dX14_cheese_60 : decode cX14_cheese 60 = .ok (.goto (-29), 3) := by decide +kernel
theorem dX14_cheese_63 : decode cX14_cheese 63 = .ok (.aload_n 0, 1) := by decide +kernel
theorem dX14_cheese_64 : decode cX14_cheese 64 = .ok (.iload_n 3, 1) := by decide +kernel
theorem dX14_cheese_65 : decode cX14_cheese 65 = .ok (.invokevirtual 76, 3) := by decide +kernel
theorem dX14_cheese_68 : decode cX14_cheese 68 = .ok (.ireturn, 1) := by decide +kernel
set_option maxRecDepth 100000 in
set_option maxHeartbeats 4000000 in
theorem mX14_cheese_L31 {E : goEv} {X : goX} {G : goG} {Q : State → Prop} {M : goMI} {L : goML} {R : goMR} {N : Nat} (hc : goCx E X cX14_cheese RX14 5) (hk : goKn E) (hR : X.2.2.2.1 = goRoom 6 146 0 0) (hr : X.2.2.2.2.2.2.2.2.1.sig.returnType = (Option.some FieldType.int)) (hW : goW G R) : ∀ (n : Nat) (v3 : Int32) (v4 : Int32) (r0 : Int32), lX14_cheese_31 N M R n v3 v4 = some r0 → (∀ (d1 d2 d4 : Option Value), goA E X G 0 0 Q 63 [some (.ref 102), d1, d2, some (.int r0), d4] [] M L R) → ∀ (d1 d2 : Option Value), goA E X G 0 0 Q 31 [some (.ref 102), d1, d2, some (.int v3), some (.int v4)] [] M L R := by
  intro n
  induction n with
  | zero => intro v3 v4 r0 h; exact nomatch h
  | succ n ih =>
    intro v3 v4 r0 h kx d1 d2
    rw [lX14_cheese_31] at h
    refine go_iload4 hc dX14_cheese_31 ?_
    refine go_aload0 hc dX14_cheese_33 ?_
    replace h := goBind h; obtain ⟨x18, e19, h⟩ := h
    refine go_callVi hc dX14_cheese_34 (mX14_allGoats hk hW e19) ml_RX14_488 yk_X14_allGoats ⟨wim_X14_allGoats, wse_X14_allGoats⟩ hR rfl (sh_102 hW) rfl rfl rfl (Nat.le_of_ble_eq_true rfl) rfl ?_
    refine go_icmp_gt hc 63 dX14_cheese_37 rfl (fun c20 => ?_) (fun c20 => ?_)
    · replace h := goIfF h c20
      cases h
      exact kx _ _ _
    · replace h := goIfT h c20
      refine go_iload3 hc dX14_cheese_40 ?_
      refine go_aload0 hc dX14_cheese_41 ?_
      refine go_iload4 hc dX14_cheese_42 ?_
      replace h := goBind h; obtain ⟨x21, e22, h⟩ := h
      refine go_callVi hc dX14_cheese_44 (mX14_isCheese hk hW e22) ml_RX14_588 yk_X14_isCheese ⟨wim_X14_isCheese, wse_X14_isCheese⟩ hR rfl (sh_102 hW) rfl rfl rfl (Nat.le_of_ble_eq_true rfl) rfl ?_
      replace h := goNm_y h; obtain ⟨x23, e24, h⟩ := h
      have k25 : ∀ (d1 d2 d3 : Option Value), goA E X G 0 0 Q 55 [some (.ref 102), d1, d2, d3, some (.int v4)] [.int x23, .int v3] M L R := by
        intro d1 d2 d3
        refine go_iadd hc dX14_cheese_55 ?_
        replace h := goNm_x h; obtain ⟨x27, e28, h⟩ := h
        refine go_nmI e28 ?_
        refine go_istore3 hc dX14_cheese_56 ?_
        refine go_iinc4 (v := (v4 + 1)) hc dX14_cheese_57 rfl ?_
        refine go_goto hc 31 dX14_cheese_60 rfl ?_
        exact ih _ _ _ h kx _ _
      refine go_if_eq hc 54 dX14_cheese_47 rfl (fun c26 => ?_) (fun c26 => ?_)
      · replace e24 := goIfT e24 c26
        refine go_iconst (v := 0) hc dX14_cheese_54 rfl ?_
        subst e24
        exact k25 _ _ _
      · replace e24 := goIfF e24 c26
        refine go_iconst (v := 1) hc dX14_cheese_50 rfl ?_
        refine go_goto hc 55 dX14_cheese_51 rfl ?_
        subst e24
        exact k25 _ _ _
set_option maxRecDepth 100000 in
set_option maxHeartbeats 4000000 in
theorem mX14_cheese {E : goEv} {l : Launch} {G : goG} {N : Nat} {M : goMI} {L : goML} {R : goMR} {v1 : Int32} {r0 : Int32} {r1 : goMI} (hk : goKn E) (hW : goW G R) (h : fX14_cheese N M R v1 = some (r0, r1)) : Met l yX14_cheese (goCd yX14_cheese cX14_cheese 5 (Option.some FieldType.int)) (goRoom 6 146 0 0) (goPre E [.ref 102, .int v1] G M L R) (goQi E r0 G r1 L R) 0 0 (goSet E) := by
  refine goMet pl_RX14 hk (lv := [some (.ref 102), some (.int v1), none, none, none]) rfl (Nat.le_of_ble_eq_true rfl) ?_
  intro X hc hl hR hr hnm
  subst hl
  unfold fX14_cheese at h
  refine go_aload0 hc dX14_cheese_0 ?_
  refine go_iconst (v := 0) hc dX14_cheese_1 rfl ?_
  replace h := goNm_x h; obtain ⟨M11, e12, h⟩ := h
  refine go_ptI hc lk_RX14_66 dX14_cheese_2 (sh_102 hW) e12 ?_
  refine go_aload0 hc dX14_cheese_5 ?_
  refine go_iload1 hc dX14_cheese_6 ?_
  replace h := goBind h; obtain ⟨x13, e14, h⟩ := h
  refine go_callVi hc dX14_cheese_7 (mX14_refusesCheese hk hW e14) ml_RX14_585 yk_X14_refusesCheese ⟨wim_X14_refusesCheese, wse_X14_refusesCheese⟩ hR rfl (sh_102 hW) rfl rfl rfl (Nat.le_of_ble_eq_true rfl) rfl ?_
  refine go_istore2 hc dX14_cheese_10 ?_
  refine go_iload2 hc dX14_cheese_11 ?_
  refine go_if_le hc 21 dX14_cheese_12 rfl (fun c15 => ?_) (fun c15 => ?_)
  · replace h := goIfF h c15
    refine go_aload0 hc dX14_cheese_21 ?_
    refine go_iload1 hc dX14_cheese_22 ?_
    replace h := goBind h; obtain ⟨M16, e17, h⟩ := h
    refine go_callVv hc dX14_cheese_23 (mX14_day hk hW e17) ml_RX14_482 yk_X14_day ⟨wim_X14_day, wse_X14_day⟩ hR rfl (sh_102 hW) rfl rfl rfl (Nat.le_of_ble_eq_true rfl) rfl ?_
    refine go_iconst (v := 0) hc dX14_cheese_26 rfl ?_
    refine go_istore3 hc dX14_cheese_27 ?_
    refine go_iconst (v := 0) hc dX14_cheese_28 rfl ?_
    refine go_istore4 hc dX14_cheese_29 ?_
    replace h := goBind h; obtain ⟨x30, e29, h⟩ := h
    refine mX14_cheese_L31 hc hk hR hr hW _ _ _ _ e29 (fun d1 d2 d4 => ?_) _ _
    refine go_aload0 hc dX14_cheese_63 ?_
    refine go_iload3 hc dX14_cheese_64 ?_
    replace h := goB2_h h; obtain ⟨x31, M32, e33, h⟩ := h
    refine go_callVi hc dX14_cheese_65 (mX14_good hk hW e33) ml_RX14_76 yk_X14_good ⟨wim_X14_good, wse_X14_good⟩ hR rfl (sh_102 hW) rfl rfl rfl (Nat.le_of_ble_eq_true rfl) rfl ?_
    cases h
    exact go_iret hc dX14_cheese_68 hr
  · replace h := goIfT h c15
    refine go_aload0 hc dX14_cheese_15 ?_
    refine go_iload2 hc dX14_cheese_16 ?_
    replace h := goB2_h h; obtain ⟨x34, M35, e36, h⟩ := h
    refine go_callVi hc dX14_cheese_17 (mX14_refused hk hW e36) ml_RX14_72 yk_X14_refused ⟨wim_X14_refused, wse_X14_refused⟩ hR rfl (sh_102 hW) rfl rfl rfl (Nat.le_of_ble_eq_true rfl) rfl ?_
    cases h
    exact go_iret hc dX14_cheese_20 hr
theorem dX14_cheeseOf_0 : decode cX14_cheeseOf 0 = .ok (.aload_n 0, 1) := by decide +kernel
theorem dX14_cheeseOf_1 : decode cX14_cheeseOf 1 = .ok (.iconst 0, 1) := by decide +kernel
theorem dX14_cheeseOf_2 : decode cX14_cheeseOf 2 = .ok (.putfield 66, 3) := by decide +kernel
theorem dX14_cheeseOf_5 : decode cX14_cheeseOf 5 = .ok (.aload_n 0, 1) := by decide +kernel
theorem dX14_cheeseOf_6 : decode cX14_cheeseOf 6 = .ok (.iload_n 1, 1) := by decide +kernel
theorem dX14_cheeseOf_7 : decode cX14_cheeseOf 7 = .ok (.invokevirtual 585, 3) := by decide +kernel
theorem dX14_cheeseOf_10 : decode cX14_cheeseOf 10 = .ok (.istore_n 2, 1) := by decide +kernel
theorem dX14_cheeseOf_11 : decode cX14_cheeseOf 11 = .ok (.iload_n 2, 1) := by decide +kernel
theorem dX14_cheeseOf_12 : decode cX14_cheeseOf 12 = .ok (.ifCond .le 9, 3) := by decide +kernel
theorem dX14_cheeseOf_15 : decode cX14_cheeseOf 15 = .ok (.aload_n 0, 1) := by decide +kernel
theorem dX14_cheeseOf_16 : decode cX14_cheeseOf 16 = .ok (.iload_n 2, 1) := by decide +kernel
theorem dX14_cheeseOf_17 : decode cX14_cheeseOf 17 = .ok (.invokevirtual 72, 3) := by decide +kernel
theorem dX14_cheeseOf_20 : decode cX14_cheeseOf 20 = .ok (.ireturn, 1) := by decide +kernel
theorem dX14_cheeseOf_21 : decode cX14_cheeseOf 21 = .ok (.aload_n 0, 1) := by decide +kernel
theorem dX14_cheeseOf_22 : decode cX14_cheeseOf 22 = .ok (.iload_n 1, 1) := by decide +kernel
theorem dX14_cheeseOf_23 : decode cX14_cheeseOf 23 = .ok (.invokevirtual 482, 3) := by decide +kernel
theorem dX14_cheeseOf_26 : decode cX14_cheeseOf 26 = .ok (.iconst 0, 1) := by decide +kernel
theorem dX14_cheeseOf_27 : decode cX14_cheeseOf 27 = .ok (.istore_n 3, 1) := by decide +kernel
theorem dX14_cheeseOf_28 : decode cX14_cheeseOf 28 = .ok (.iload_n 3, 1) := by decide +kernel
theorem dX14_cheeseOf_29 : decode cX14_cheeseOf 29 = .ok (.aload_n 0, 1) := by decide +kernel
theorem dX14_cheeseOf_30 : decode cX14_cheeseOf 30 = .ok (.invokevirtual 488, 3) := by decide +kernel
theorem dX14_cheeseOf_33 : decode cX14_cheeseOf 33 = .ok (.if_icmp .gt 23, 3) := by decide +kernel
theorem dX14_cheeseOf_36 : decode cX14_cheeseOf 36 = .ok (.aload_n 0, 1) := by decide +kernel
theorem dX14_cheeseOf_37 : decode cX14_cheeseOf 37 = .ok (.iload_n 3, 1) := by decide +kernel
theorem dX14_cheeseOf_38 : decode cX14_cheeseOf 38 = .ok (.invokevirtual 588, 3) := by decide +kernel
theorem dX14_cheeseOf_41 : decode cX14_cheeseOf 41 = .ok (.ifCond .eq 9, 3) := by decide +kernel
theorem dX14_cheeseOf_44 : decode cX14_cheeseOf 44 = .ok (.aload_n 0, 1) := by decide +kernel
theorem dX14_cheeseOf_45 : decode cX14_cheeseOf 45 = .ok (.iload_n 3, 1) := by decide +kernel
theorem dX14_cheeseOf_46 : decode cX14_cheeseOf 46 = .ok (.invokevirtual 76, 3) := by decide +kernel
theorem dX14_cheeseOf_49 : decode cX14_cheeseOf 49 = .ok (.ireturn, 1) := by decide +kernel
theorem dX14_cheeseOf_50 : decode cX14_cheeseOf 50 = .ok (.iinc 3 1, 3) := by decide +kernel
theorem dX14_cheeseOf_53 : decode cX14_cheeseOf 53 = .ok (.goto (-25), 3) := by decide +kernel
theorem dX14_cheeseOf_56 : decode cX14_cheeseOf 56 = .ok (.aload_n 0, 1) := by decide +kernel
theorem dX14_cheeseOf_57 : decode cX14_cheeseOf 57 = .ok (.bipush (-2), 2) := by decide +kernel
theorem dX14_cheeseOf_59 : decode cX14_cheeseOf 59 = .ok (.invokevirtual 76, 3) := by decide +kernel
theorem dX14_cheeseOf_62 : decode cX14_cheeseOf 62 = .ok (.ireturn, 1) := by decide +kernel
set_option maxRecDepth 100000 in
set_option maxHeartbeats 4000000 in
theorem mX14_cheeseOf_L28 {E : goEv} {X : goX} {G : goG} {M : goMI} {L : goML} {R : goMR} {N : Nat} {r0 : Int32} {r1 : goMI} (hc : goCx E X cX14_cheeseOf RX14 4) (hk : goKn E) (hR : X.2.2.2.1 = goRoom 6 146 0 0) (hr : X.2.2.2.2.2.2.2.2.1.sig.returnType = (Option.some FieldType.int)) (hW : goW G R) : ∀ (n : Nat) (v3 : Int32), lX14_cheeseOf_28 N M R n v3 = some (r0, r1) → ∀ (d1 d2 : Option Value), goA E X G 0 0 (goMQ X E (goQi E r0 G r1 L R) 0 0) 28 [some (.ref 102), d1, d2, some (.int v3)] [] M L R := by
  intro n
  induction n with
  | zero => intro v3 h; exact nomatch h
  | succ n ih =>
    intro v3 h d1 d2
    rw [lX14_cheeseOf_28] at h
    refine go_iload3 hc dX14_cheeseOf_28 ?_
    refine go_aload0 hc dX14_cheeseOf_29 ?_
    replace h := goBind h; obtain ⟨x18, e19, h⟩ := h
    refine go_callVi hc dX14_cheeseOf_30 (mX14_allGoats hk hW e19) ml_RX14_488 yk_X14_allGoats ⟨wim_X14_allGoats, wse_X14_allGoats⟩ hR rfl (sh_102 hW) rfl rfl rfl (Nat.le_of_ble_eq_true rfl) rfl ?_
    refine go_icmp_gt hc 56 dX14_cheeseOf_33 rfl (fun c20 => ?_) (fun c20 => ?_)
    · replace h := goIfF h c20
      refine go_aload0 hc dX14_cheeseOf_56 ?_
      refine go_bipush (v := (-2)) hc dX14_cheeseOf_57 rfl ?_
      replace h := goB2_h h; obtain ⟨x21, M22, e23, h⟩ := h
      refine go_callVi hc dX14_cheeseOf_59 (mX14_good hk hW e23) ml_RX14_76 yk_X14_good ⟨wim_X14_good, wse_X14_good⟩ hR rfl (sh_102 hW) rfl rfl rfl (Nat.le_of_ble_eq_true rfl) rfl ?_
      cases h
      exact go_iret hc dX14_cheeseOf_62 hr
    · replace h := goIfT h c20
      refine go_aload0 hc dX14_cheeseOf_36 ?_
      refine go_iload3 hc dX14_cheeseOf_37 ?_
      replace h := goBind h; obtain ⟨x24, e25, h⟩ := h
      refine go_callVi hc dX14_cheeseOf_38 (mX14_isCheese hk hW e25) ml_RX14_588 yk_X14_isCheese ⟨wim_X14_isCheese, wse_X14_isCheese⟩ hR rfl (sh_102 hW) rfl rfl rfl (Nat.le_of_ble_eq_true rfl) rfl ?_
      refine go_if_eq hc 50 dX14_cheeseOf_41 rfl (fun c26 => ?_) (fun c26 => ?_)
      · replace h := goIfT h c26
        refine go_iinc3 (v := (v3 + 1)) hc dX14_cheeseOf_50 rfl ?_
        refine go_goto hc 28 dX14_cheeseOf_53 rfl ?_
        exact ih _ h _ _
      · replace h := goIfF h c26
        refine go_aload0 hc dX14_cheeseOf_44 ?_
        refine go_iload3 hc dX14_cheeseOf_45 ?_
        replace h := goB2_h h; obtain ⟨x27, M28, e29, h⟩ := h
        refine go_callVi hc dX14_cheeseOf_46 (mX14_good hk hW e29) ml_RX14_76 yk_X14_good ⟨wim_X14_good, wse_X14_good⟩ hR rfl (sh_102 hW) rfl rfl rfl (Nat.le_of_ble_eq_true rfl) rfl ?_
        cases h
        exact go_iret hc dX14_cheeseOf_49 hr
set_option maxRecDepth 100000 in
set_option maxHeartbeats 4000000 in
theorem mX14_cheeseOf {E : goEv} {l : Launch} {G : goG} {N : Nat} {M : goMI} {L : goML} {R : goMR} {v1 : Int32} {r0 : Int32} {r1 : goMI} (hk : goKn E) (hW : goW G R) (h : fX14_cheeseOf N M R v1 = some (r0, r1)) : Met l yX14_cheeseOf (goCd yX14_cheeseOf cX14_cheeseOf 4 (Option.some FieldType.int)) (goRoom 6 146 0 0) (goPre E [.ref 102, .int v1] G M L R) (goQi E r0 G r1 L R) 0 0 (goSet E) := by
  refine goMet pl_RX14 hk (lv := [some (.ref 102), some (.int v1), none, none]) rfl (Nat.le_of_ble_eq_true rfl) ?_
  intro X hc hl hR hr hnm
  subst hl
  unfold fX14_cheeseOf at h
  refine go_aload0 hc dX14_cheeseOf_0 ?_
  refine go_iconst (v := 0) hc dX14_cheeseOf_1 rfl ?_
  replace h := goNm_x h; obtain ⟨M11, e12, h⟩ := h
  refine go_ptI hc lk_RX14_66 dX14_cheeseOf_2 (sh_102 hW) e12 ?_
  refine go_aload0 hc dX14_cheeseOf_5 ?_
  refine go_iload1 hc dX14_cheeseOf_6 ?_
  replace h := goBind h; obtain ⟨x13, e14, h⟩ := h
  refine go_callVi hc dX14_cheeseOf_7 (mX14_refusesCheese hk hW e14) ml_RX14_585 yk_X14_refusesCheese ⟨wim_X14_refusesCheese, wse_X14_refusesCheese⟩ hR rfl (sh_102 hW) rfl rfl rfl (Nat.le_of_ble_eq_true rfl) rfl ?_
  refine go_istore2 hc dX14_cheeseOf_10 ?_
  refine go_iload2 hc dX14_cheeseOf_11 ?_
  refine go_if_le hc 21 dX14_cheeseOf_12 rfl (fun c15 => ?_) (fun c15 => ?_)
  · replace h := goIfF h c15
    refine go_aload0 hc dX14_cheeseOf_21 ?_
    refine go_iload1 hc dX14_cheeseOf_22 ?_
    replace h := goBind h; obtain ⟨M16, e17, h⟩ := h
    refine go_callVv hc dX14_cheeseOf_23 (mX14_day hk hW e17) ml_RX14_482 yk_X14_day ⟨wim_X14_day, wse_X14_day⟩ hR rfl (sh_102 hW) rfl rfl rfl (Nat.le_of_ble_eq_true rfl) rfl ?_
    refine go_iconst (v := 0) hc dX14_cheeseOf_26 rfl ?_
    refine go_istore3 hc dX14_cheeseOf_27 ?_
    exact mX14_cheeseOf_L28 hc hk hR hr hW _ _ h _ _
  · replace h := goIfT h c15
    refine go_aload0 hc dX14_cheeseOf_15 ?_
    refine go_iload2 hc dX14_cheeseOf_16 ?_
    replace h := goB2_h h; obtain ⟨x30, M31, e32, h⟩ := h
    refine go_callVi hc dX14_cheeseOf_17 (mX14_refused hk hW e32) ml_RX14_72 yk_X14_refused ⟨wim_X14_refused, wse_X14_refused⟩ hR rfl (sh_102 hW) rfl rfl rfl (Nat.le_of_ble_eq_true rfl) rfl ?_
    cases h
    exact go_iret hc dX14_cheeseOf_20 hr
theorem dX14_meanOf_0 : decode cX14_meanOf 0 = .ok (.lconst 0, 1) := by decide +kernel
theorem dX14_meanOf_1 : decode cX14_meanOf 1 = .ok (.lstore_n 1, 1) := by decide +kernel
theorem dX14_meanOf_2 : decode cX14_meanOf 2 = .ok (.iconst 0, 1) := by decide +kernel
theorem dX14_meanOf_3 : decode cX14_meanOf 3 = .ok (.istore_n 3, 1) := by decide +kernel
theorem dX14_meanOf_4 : decode cX14_meanOf 4 = .ok (.iload_n 3, 1) := by decide +kernel
theorem dX14_meanOf_5 : decode cX14_meanOf 5 = .ok (.aload_n 0, 1) := by decide +kernel
theorem dX14_meanOf_6 : decode cX14_meanOf 6 = .ok (.getfield 442, 3) := by decide +kernel
theorem dX14_meanOf_9 : decode cX14_meanOf 9 = .ok (.getfield 419, 3) := by decide +kernel
theorem dX14_meanOf_12 : decode cX14_meanOf 12 = .ok (.if_icmp .ge 88, 3) := by decide +kernel
theorem dX14_meanOf_15 : decode cX14_meanOf 15 = .ok (.aload_n 0, 1) := by decide +kernel
theorem dX14_meanOf_16 : decode cX14_meanOf 16 = .ok (.getfield 442, 3) := by decide +kernel
theorem dX14_meanOf_19 : decode cX14_meanOf 19 = .ok (.getfield 426, 3) := by decide +kernel
theorem dX14_meanOf_22 : decode cX14_meanOf 22 = .ok (.aload_n 0, 1) := by decide +kernel
theorem dX14_meanOf_23 : decode cX14_meanOf 23 = .ok (.getfield 60, 3) := by decide +kernel
theorem dX14_meanOf_26 : decode cX14_meanOf 26 = .ok (.iload_n 3, 1) := by decide +kernel
theorem dX14_meanOf_27 : decode cX14_meanOf 27 = .ok (.iaload, 1) := by decide +kernel
theorem dX14_meanOf_28 : decode cX14_meanOf 28 = .ok (.iaload, 1) := by decide +kernel
theorem dX14_meanOf_29 : decode cX14_meanOf 29 = .ok (.i2l, 1) := by decide +kernel
theorem dX14_meanOf_30 : decode cX14_meanOf 30 = .ok (.lstore 4, 2) := by decide +kernel
theorem dX14_meanOf_32 : decode cX14_meanOf 32 = .ok (.iconst 0, 1) := by decide +kernel
theorem dX14_meanOf_33 : decode cX14_meanOf 33 = .ok (.istore 6, 2) := by decide +kernel
theorem dX14_meanOf_35 : decode cX14_meanOf 35 = .ok (.iload 6, 2) := by decide +kernel
theorem dX14_meanOf_37 : decode cX14_meanOf 37 = .ok (.aload_n 0, 1) := by decide +kernel
theorem dX14_meanOf_38 : decode cX14_meanOf 38 = .ok (.getfield 442, 3) := by decide +kernel
theorem dX14_meanOf_41 : decode cX14_meanOf 41 = .ok (.getfield 419, 3) := by decide +kernel
theorem dX14_meanOf_44 : decode cX14_meanOf 44 = .ok (.if_icmp .ge 45, 3) := by decide +kernel
theorem dX14_meanOf_47 : decode cX14_meanOf 47 = .ok (.lload 4, 2) := by decide +kernel
theorem dX14_meanOf_49 : decode cX14_meanOf 49 = .ok (.iload 6, 2) := by decide +kernel
theorem dX14_meanOf_51 : decode cX14_meanOf 51 = .ok (.iload_n 3, 1) := by decide +kernel
theorem dX14_meanOf_52 : decode cX14_meanOf 52 = .ok (.if_icmp .ge 25, 3) := by decide +kernel
theorem dX14_meanOf_55 : decode cX14_meanOf 55 = .ok (.bipush 10, 2) := by decide +kernel
theorem dX14_meanOf_57 : decode cX14_meanOf 57 = .ok (.aload_n 0, 1) := by decide +kernel
theorem dX14_meanOf_58 : decode cX14_meanOf 58 = .ok (.getfield 442, 3) := by decide +kernel
theorem dX14_meanOf_61 : decode cX14_meanOf 61 = .ok (.getfield 428, 3) := by decide +kernel
theorem dX14_meanOf_64 : decode cX14_meanOf 64 = .ok (.aload_n 0, 1) := by decide +kernel
theorem dX14_meanOf_65 : decode cX14_meanOf 65 = .ok (.getfield 60, 3) := by decide +kernel
theorem dX14_meanOf_68 : decode cX14_meanOf 68 = .ok (.iload 6, 2) := by decide +kernel
theorem dX14_meanOf_70 : decode cX14_meanOf 70 = .ok (.iaload, 1) := by decide +kernel
theorem dX14_meanOf_71 : decode cX14_meanOf 71 = .ok (.iaload, 1) := by decide +kernel
theorem dX14_meanOf_72 : decode cX14_meanOf 72 = .ok (.isub, 1) := by decide +kernel
theorem dX14_meanOf_73 : decode cX14_meanOf 73 = .ok (.i2l, 1) := by decide +kernel
theorem dX14_meanOf_74 : decode cX14_meanOf 74 = .ok (.goto 6, 3) := by decide +kernel
theorem dX14_meanOf_77 : decode cX14_meanOf 77 = .ok (.ldc2_w 591, 3) := by decide +kernel
theorem dX14_meanOf_80 : decode cX14_meanOf 80 = .ok (.lmul, 1) := by decide +kernel
theorem dX14_meanOf_81 : decode cX14_meanOf 81 = .ok (.lstore 4, 2) := by decide +kernel
theorem dX14_meanOf_83 : decode cX14_meanOf 83 = .ok (.iinc 6 1, 3) := by decide +kernel
theorem dX14_meanOf_86 : decode cX14_meanOf 86 = .ok (.goto (-51), 3) := by decide +kernel
theorem dX14_meanOf_89 : decode cX14_meanOf 89 = .ok (.lload_n 1, 1) := by decide +kernel
theorem dX14_meanOf_90 : decode cX14_meanOf 90 = .ok (.lload 4, 2) := by decide +kernel
theorem dX14_meanOf_92 : decode cX14_meanOf 92 = .ok (.ladd, 1) := by decide +kernel
theorem dX14_meanOf_93 : decode cX14_meanOf 93 = .ok (.lstore_n 1, 1) := by decide +kernel
theorem dX14_meanOf_94 : decode cX14_meanOf 94 = .ok (.iinc 3 1, 3) := by decide +kernel
theorem dX14_meanOf_97 : decode cX14_meanOf 97 = .ok (.goto (-93), 3) := by decide +kernel
theorem dX14_meanOf_100 : decode cX14_meanOf 100 = .ok (.lload_n 1, 1) := by decide +kernel
theorem dX14_meanOf_101 : decode cX14_meanOf 101 = .ok (.lreturn, 1) := by decide +kernel
set_option maxRecDepth 100000 in
set_option maxHeartbeats 4000000 in
theorem mX14_meanOf_L35 {E : goEv} {X : goX} {G : goG} {Q : State → Prop} {M : goMI} {L : goML} {R : goMR} {v3 : Int32} {w1 : Int64} (hc : goCx E X cX14_meanOf RX14 7) (hk : goKn E) (hR : X.2.2.2.1 = goRoom 0 0 0 0) (hr : X.2.2.2.2.2.2.2.2.1.sig.returnType = (Option.some FieldType.long)) (hW : goW G R) : ∀ (n : Nat) (w4 : Int64) (v6 : Int32) (r0 : Int64), lX14_meanOf_35 v3 M R n w4 v6 = some r0 → (∀ (d6 : Option Value), goA E X G 0 0 Q 89 [some (.ref 102), some (.long w1), none, some (.int v3), some (.long r0), none, d6] [] M L R) → goA E X G 0 0 Q 35 [some (.ref 102), some (.long w1), none, some (.int v3), some (.long w4), none, some (.int v6)] [] M L R := by
  intro n
  induction n with
  | zero => intro w4 v6 r0 h; exact nomatch h
  | succ n ih =>
    intro w4 v6 r0 h kx
    rw [lX14_meanOf_35] at h
    refine go_iload6 hc dX14_meanOf_35 ?_
    refine go_aload0 hc dX14_meanOf_37 ?_
    replace h := goBind h; obtain ⟨b22, e23, h⟩ := h
    refine go_getR hc lk_RX14_442 dX14_meanOf_38 (sh_102 hW) e23 ?_
    refine go_getI hc lk_RX14_419 dX14_meanOf_41 (shM_0 (goW_M3 hW e23)) ?_
    refine go_icmp_ge hc 89 dX14_meanOf_44 rfl (fun c24 => ?_) (fun c24 => ?_)
    · replace h := goIfF h c24
      cases h
      exact kx _
    · replace h := goIfT h c24
      refine go_lload4 hc dX14_meanOf_47 ?_
      refine go_iload6 hc dX14_meanOf_49 ?_
      refine go_iload3 hc dX14_meanOf_51 ?_
      replace h := goBind h; obtain ⟨x25, e26, h⟩ := h
      have k27 : ∀ (d4 d5 : Option Value), goA E X G 0 0 Q 80 [some (.ref 102), some (.long w1), none, some (.int v3), d4, d5, some (.int v6)] [.long x25, .long w4] M L R := by
        intro d4 d5
        refine go_lmul hc dX14_meanOf_80 ?_
        replace h := goNm_x h; obtain ⟨x35, e36, h⟩ := h
        refine go_nmJ e36 ?_
        refine go_lstore4 hc dX14_meanOf_81 ?_
        refine go_iinc6 (v := (v6 + 1)) hc dX14_meanOf_83 rfl ?_
        refine go_goto hc 35 dX14_meanOf_86 rfl ?_
        exact ih _ _ _ h kx
      refine go_icmp_ge hc 77 dX14_meanOf_52 rfl (fun c28 => ?_) (fun c28 => ?_)
      · replace e26 := goIfF e26 c28
        refine go_ldc2 hc dX14_meanOf_77 wcJ_RX14_591 ?_
        cases e26
        exact k27 _ _
      · replace e26 := goIfT e26 c28
        refine go_bipush (v := 10) hc dX14_meanOf_55 rfl ?_
        refine go_aload0 hc dX14_meanOf_57 ?_
        replace e26 := goBind e26; obtain ⟨b29, e30, e26⟩ := e26
        refine go_getR hc lk_RX14_442 dX14_meanOf_58 (sh_102 hW) e30 ?_
        refine go_getR hc lk_RX14_428 dX14_meanOf_61 (shM_0 (goW_M3 hW e30)) (rfM_36 (goW_M3 hW e30)) ?_
        refine go_aload0 hc dX14_meanOf_64 ?_
        refine go_getR hc lk_RX14_60 dX14_meanOf_65 (sh_102 hW) (rf_102_37 hW) ?_
        refine go_iload6 hc dX14_meanOf_68 ?_
        replace e26 := goBind e26; obtain ⟨x31, e32, e26⟩ := e26
        refine go_iald hc dX14_meanOf_70 (sh_118 hW) e32 ?_
        replace e26 := goBind e26; obtain ⟨x33, e34, e26⟩ := e26
        refine go_iald hc dX14_meanOf_71 (shM_21 (goW_M3 hW e30)) e34 ?_
        refine go_isub hc dX14_meanOf_72 ?_
        refine go_i2l hc dX14_meanOf_73 ?_
        refine go_goto hc 80 dX14_meanOf_74 rfl ?_
        cases e26
        exact k27 _ _
set_option maxRecDepth 100000 in
set_option maxHeartbeats 4000000 in
theorem mX14_meanOf_L4 {E : goEv} {X : goX} {G : goG} {Q : State → Prop} {M : goMI} {L : goML} {R : goMR} {N : Nat} (hc : goCx E X cX14_meanOf RX14 7) (hk : goKn E) (hR : X.2.2.2.1 = goRoom 0 0 0 0) (hr : X.2.2.2.2.2.2.2.2.1.sig.returnType = (Option.some FieldType.long)) (hW : goW G R) : ∀ (n : Nat) (w1 : Int64) (v3 : Int32) (r0 : Int64), lX14_meanOf_4 N M R n w1 v3 = some r0 → (∀ (d0 d3 d4 d5 d6 : Option Value), goA E X G 0 0 Q 100 [d0, some (.long r0), none, d3, d4, d5, d6] [] M L R) → ∀ (d4 d5 d6 : Option Value), goA E X G 0 0 Q 4 [some (.ref 102), some (.long w1), none, some (.int v3), d4, d5, d6] [] M L R := by
  intro n
  induction n with
  | zero => intro w1 v3 r0 h; exact nomatch h
  | succ n ih =>
    intro w1 v3 r0 h kx d4 d5 d6
    rw [lX14_meanOf_4] at h
    refine go_iload3 hc dX14_meanOf_4 ?_
    refine go_aload0 hc dX14_meanOf_5 ?_
    replace h := goBind h; obtain ⟨b11, e12, h⟩ := h
    refine go_getR hc lk_RX14_442 dX14_meanOf_6 (sh_102 hW) e12 ?_
    refine go_getI hc lk_RX14_419 dX14_meanOf_9 (shM_0 (goW_M3 hW e12)) ?_
    refine go_icmp_ge hc 100 dX14_meanOf_12 rfl (fun c13 => ?_) (fun c13 => ?_)
    · replace h := goIfF h c13
      cases h
      exact kx _ _ _ _ _
    · replace h := goIfT h c13
      refine go_aload0 hc dX14_meanOf_15 ?_
      replace h := goBind h; obtain ⟨b14, e15, h⟩ := h
      refine go_getR hc lk_RX14_442 dX14_meanOf_16 (sh_102 hW) e15 ?_
      refine go_getR hc lk_RX14_426 dX14_meanOf_19 (shM_0 (goW_M3 hW e15)) (rfM_35 (goW_M3 hW e15)) ?_
      refine go_aload0 hc dX14_meanOf_22 ?_
      refine go_getR hc lk_RX14_60 dX14_meanOf_23 (sh_102 hW) (rf_102_37 hW) ?_
      refine go_iload3 hc dX14_meanOf_26 ?_
      replace h := goBind h; obtain ⟨x16, e17, h⟩ := h
      refine go_iald hc dX14_meanOf_27 (sh_118 hW) e17 ?_
      replace h := goBind h; obtain ⟨x18, e19, h⟩ := h
      refine go_iald hc dX14_meanOf_28 (shM_20 (goW_M3 hW e15)) e19 ?_
      refine go_i2l hc dX14_meanOf_29 ?_
      replace h := goNm_x h; obtain ⟨x20, e21, h⟩ := h
      refine go_nmJ e21 ?_
      refine go_lstore4 hc dX14_meanOf_30 ?_
      refine go_iconst (v := 0) hc dX14_meanOf_32 rfl ?_
      refine go_istore6 hc dX14_meanOf_33 ?_
      replace h := goBind h; obtain ⟨x38, e37, h⟩ := h
      refine mX14_meanOf_L35 hc hk hR hr hW _ _ _ _ e37 (fun d6 => ?_)
      refine go_lload1 hc dX14_meanOf_89 ?_
      refine go_lload4 hc dX14_meanOf_90 ?_
      refine go_ladd hc dX14_meanOf_92 ?_
      replace h := goNm_x h; obtain ⟨x39, e40, h⟩ := h
      refine go_nmJ e40 ?_
      refine go_lstore1 hc dX14_meanOf_93 ?_
      refine go_iinc3 (v := (v3 + 1)) hc dX14_meanOf_94 rfl ?_
      refine go_goto hc 4 dX14_meanOf_97 rfl ?_
      exact ih _ _ _ h kx _ _ _
set_option maxRecDepth 100000 in
set_option maxHeartbeats 4000000 in
theorem mX14_meanOf {E : goEv} {l : Launch} {G : goG} {N : Nat} {M : goMI} {L : goML} {R : goMR} {r0 : Int64} (hk : goKn E) (hW : goW G R) (h : fX14_meanOf N M R = some r0) : Met l yX14_meanOf (goCd yX14_meanOf cX14_meanOf 7 (Option.some FieldType.long)) (goRoom 0 0 0 0) (goPre E [.ref 102] G M L R) (goQl E r0 G M L R) 0 0 (goSet E) := by
  refine goMet pl_RX14 hk (lv := [some (.ref 102), none, none, none, none, none, none]) rfl (Nat.le_of_ble_eq_true rfl) ?_
  intro X hc hl hR hr hnm
  subst hl
  unfold fX14_meanOf at h
  refine go_lconst (v := 0) hc dX14_meanOf_0 rfl ?_
  refine go_lstore1 hc dX14_meanOf_1 ?_
  refine go_iconst (v := 0) hc dX14_meanOf_2 rfl ?_
  refine go_istore3 hc dX14_meanOf_3 ?_
  replace h := goBind h; obtain ⟨x42, e41, h⟩ := h
  refine mX14_meanOf_L4 hc hk hR hr hW _ _ _ _ e41 (fun d0 d3 d4 d5 d6 => ?_) _ _ _
  refine go_lload1 hc dX14_meanOf_100 ?_
  cases h
  exact go_lret hc dX14_meanOf_101 hr
theorem dX14_swaps_0 : decode cX14_swaps 0 = .ok (.aload_n 0, 1) := by decide +kernel
theorem dX14_swaps_1 : decode cX14_swaps 1 = .ok (.getfield 60, 3) := by decide +kernel
theorem dX14_swaps_4 : decode cX14_swaps 4 = .ok (.iload_n 1, 1) := by decide +kernel
theorem dX14_swaps_5 : decode cX14_swaps 5 = .ok (.iaload, 1) := by decide +kernel
theorem dX14_swaps_6 : decode cX14_swaps 6 = .ok (.istore_n 3, 1) := by decide +kernel
theorem dX14_swaps_7 : decode cX14_swaps 7 = .ok (.aload_n 0, 1) := by decide +kernel
theorem dX14_swaps_8 : decode cX14_swaps 8 = .ok (.getfield 60, 3) := by decide +kernel
theorem dX14_swaps_11 : decode cX14_swaps 11 = .ok (.iload_n 1, 1) := by decide +kernel
theorem dX14_swaps_12 : decode cX14_swaps 12 = .ok (.aload_n 0, 1) := by decide +kernel
theorem dX14_swaps_13 : decode cX14_swaps 13 = .ok (.getfield 60, 3) := by decide +kernel
theorem dX14_swaps_16 : decode cX14_swaps 16 = .ok (.iload_n 2, 1) := by decide +kernel
theorem dX14_swaps_17 : decode cX14_swaps 17 = .ok (.iaload, 1) := by decide +kernel
theorem dX14_swaps_18 : decode cX14_swaps 18 = .ok (.iastore, 1) := by decide +kernel
theorem dX14_swaps_19 : decode cX14_swaps 19 = .ok (.aload_n 0, 1) := by decide +kernel
theorem dX14_swaps_20 : decode cX14_swaps 20 = .ok (.getfield 60, 3) := by decide +kernel
theorem dX14_swaps_23 : decode cX14_swaps 23 = .ok (.iload_n 2, 1) := by decide +kernel
theorem dX14_swaps_24 : decode cX14_swaps 24 = .ok (.iload_n 3, 1) := by decide +kernel
theorem dX14_swaps_25 : decode cX14_swaps 25 = .ok (.iastore, 1) := by decide +kernel
theorem dX14_swaps_26 : decode cX14_swaps 26 = .ok (.return_, 1) := by decide +kernel
set_option maxRecDepth 100000 in
set_option maxHeartbeats 4000000 in
theorem mX14_swaps {E : goEv} {l : Launch} {G : goG} {M : goMI} {L : goML} {R : goMR} {v1 : Int32} {v2 : Int32} {r0 : goMI} (hk : goKn E) (hW : goW G R) (h : fX14_swaps M v1 v2 = some r0) : Met l yX14_swaps (goCd yX14_swaps cX14_swaps 4 none) (goRoom 0 0 0 0) (goPre E [.ref 102, .int v1, .int v2] G M L R) (goQv E G r0 L R) 0 0 (goSet E) := by
  refine goMet pl_RX14 hk (lv := [some (.ref 102), some (.int v1), some (.int v2), none]) rfl (Nat.le_of_ble_eq_true rfl) ?_
  intro X hc hl hR hr hnm
  subst hl
  unfold fX14_swaps at h
  refine go_aload0 hc dX14_swaps_0 ?_
  refine go_getR hc lk_RX14_60 dX14_swaps_1 (sh_102 hW) (rf_102_37 hW) ?_
  refine go_iload1 hc dX14_swaps_4 ?_
  replace h := goBind h; obtain ⟨x11, e12, h⟩ := h
  refine go_iald hc dX14_swaps_5 (sh_118 hW) e12 ?_
  refine go_istore3 hc dX14_swaps_6 ?_
  refine go_aload0 hc dX14_swaps_7 ?_
  refine go_getR hc lk_RX14_60 dX14_swaps_8 (sh_102 hW) (rf_102_37 hW) ?_
  refine go_iload1 hc dX14_swaps_11 ?_
  refine go_aload0 hc dX14_swaps_12 ?_
  refine go_getR hc lk_RX14_60 dX14_swaps_13 (sh_102 hW) (rf_102_37 hW) ?_
  refine go_iload2 hc dX14_swaps_16 ?_
  replace h := goBind h; obtain ⟨x13, e14, h⟩ := h
  refine go_iald hc dX14_swaps_17 (sh_118 hW) e14 ?_
  replace h := goBind h; obtain ⟨M15, e16, h⟩ := h
  refine go_iast hc dX14_swaps_18 (sh_118 hW) e16 ?_
  refine go_aload0 hc dX14_swaps_19 ?_
  refine go_getR hc lk_RX14_60 dX14_swaps_20 (sh_102 hW) (rf_102_37 hW) ?_
  refine go_iload2 hc dX14_swaps_23 ?_
  refine go_iload3 hc dX14_swaps_24 ?_
  replace h := goBind h; obtain ⟨M17, e18, h⟩ := h
  refine go_iast hc dX14_swaps_25 (sh_118 hW) e18 ?_
  cases h
  exact go_vret hc dX14_swaps_26 hr
theorem dX14_turns_0 : decode cX14_turns 0 = .ok (.iload_n 1, 1) := by decide +kernel
theorem dX14_turns_1 : decode cX14_turns 1 = .ok (.iconst 2, 1) := by decide +kernel
theorem dX14_turns_2 : decode cX14_turns 2 = .ok (.isub, 1) := by decide +kernel
theorem dX14_turns_3 : decode cX14_turns 3 = .ok (.istore_n 2, 1) := by decide +kernel
theorem dX14_turns_4 : decode cX14_turns 4 = .ok (.iload_n 2, 1) := by decide +kernel
theorem dX14_turns_5 : decode cX14_turns 5 = .ok (.ifCond .lt 26, 3) := by decide +kernel
theorem dX14_turns_8 : decode cX14_turns 8 = .ok (.aload_n 0, 1) := by decide +kernel
theorem dX14_turns_9 : decode cX14_turns 9 = .ok (.getfield 60, 3) := by decide +kernel
theorem dX14_turns_12 : decode cX14_turns 12 = .ok (.iload_n 2, 1) := by decide +kernel
theorem dX14_turns_13 : decode cX14_turns 13 = .ok (.iaload, 1) := by decide +kernel
theorem dX14_turns_14 : decode cX14_turns 14 = .ok (.aload_n 0, 1) := by decide +kernel
theorem dX14_turns_15 : decode cX14_turns 15 = .ok (.getfield 60, 3) := by decide +kernel
theorem dX14_turns_18 : decode cX14_turns 18 = .ok (.iload_n 2, 1) := by decide +kernel
theorem dX14_turns_19 : decode cX14_turns 19 = .ok (.iconst 1, 1) := by decide +kernel
theorem dX14_turns_20 : decode cX14_turns 20 = .ok (.iadd, 1) := by decide +kernel
theorem dX14_turns_21 : decode cX14_turns 21 = .ok (.iaload, 1) := by decide +kernel
theorem dX14_turns_22 : decode cX14_turns 22 = .ok (.if_icmp .le 9, 3) := by decide +kernel
theorem dX14_turns_25 : decode cX14_turns 25 = .ok (.iinc 2 (-1), 3) := by decide +kernel
theorem dX14_turns_28 : decode cX14_turns 28 = .ok (.goto (-24), 3) := by decide +kernel
theorem dX14_turns_31 : decode cX14_turns 31 = .ok (.iload_n 2, 1) := by decide +kernel
theorem dX14_turns_32 : decode cX14_turns 32 = .ok (.ifCond .ge 5, 3) := by decide +kernel
theorem dX14_turns_35 : decode cX14_turns 35 = .ok (.iconst 0, 1) := by decide +kernel
theorem dX14_turns_36 : decode cX14_turns 36 = .ok (.ireturn, 1) := by decide +kernel
theorem dX14_turns_37 : decode cX14_turns 37 = .ok (.iload_n 1, 1) := by decide +kernel
theorem dX14_turns_38 : decode cX14_turns 38 = .ok (.iconst 1, 1) := by decide +kernel
theorem dX14_turns_39 : decode cX14_turns 39 = .ok (.isub, 1) := by decide +kernel
theorem dX14_turns_40 : decode cX14_turns 40 = .ok (.istore_n 3, 1) := by decide +kernel
theorem dX14_turns_41 : decode cX14_turns 41 = .ok (.aload_n 0, 1) := by decide +kernel
theorem dX14_turns_42 : decode cX14_turns 42 = .ok (.getfield 60, 3) := by decide +kernel
theorem dX14_turns_45 : decode cX14_turns 45 = .ok (.iload_n 3, 1) := by decide +kernel
theorem dX14_turns_46 : decode cX14_turns 46 = .ok (.iaload, 1) := by decide +kernel
theorem dX14_turns_47 : decode cX14_turns 47 = .ok (.aload_n 0, 1) := by decide +kernel
theorem dX14_turns_48 : decode cX14_turns 48 = .ok (.getfield 60, 3) := by decide +kernel
theorem dX14_turns_51 : decode cX14_turns 51 = .ok (.iload_n 2, 1) := by decide +kernel
theorem dX14_turns_52 : decode cX14_turns 52 = .ok (.iaload, 1) := by decide +kernel
theorem dX14_turns_53 : decode cX14_turns 53 = .ok (.if_icmp .ge 9, 3) := by decide +kernel
theorem dX14_turns_56 : decode cX14_turns 56 = .ok (.iinc 3 (-1), 3) := by decide +kernel
theorem dX14_turns_59 : decode cX14_turns 59 = .ok (.goto (-18), 3) := by decide +kernel
theorem dX14_turns_62 : decode cX14_turns 62 = .ok (.aload_n 0, 1) := by decide +kernel
theorem dX14_turns_63 : decode cX14_turns 63 = .ok (.iload_n 2, 1) := by decide +kernel
theorem dX14_turns_64 : decode cX14_turns 64 = .ok (.iload_n 3, 1) := by decide +kernel
theorem dX14_turns_65 : decode cX14_turns 65 = .ok (.invokevirtual 593, 3) := by decide +kernel
theorem dX14_turns_68 : decode cX14_turns 68 = .ok (.iload_n 2, 1) := by decide +kernel
theorem dX14_turns_69 : decode cX14_turns 69 = .ok (.iconst 1, 1) := by decide +kernel
theorem dX14_turns_70 : decode cX14_turns 70 = .ok (.iadd, 1) := by decide +kernel
theorem dX14_turns_71 : decode cX14_turns 71 = .ok (.istore 4, 2) := by decide +kernel
theorem dX14_turns_73 : decode cX14_turns 73 = .ok (.iload_n 1, 1) := by decide +kernel
theorem dX14_turns_74 : decode cX14_turns 74 = .ok (.iconst 1, 1) := by decide +kernel
theorem dX14_turns_75 : decode cX14_turns 75 = .ok (.isub, 1) := by decide +kernel
theorem dX14_turns_76 : decode cX14_turns 76 = .ok (.istore 5, 2) := by decide +kernel
theorem dX14_turns_78 : decode cX14_turns 78 = .ok (.iload 4, 2) := by decide +kernel
theorem dX14_turns_80 : decode cX14_turns 80 = .ok (.iload 5, 2) := by decide +kernel
theorem dX14_turns_82 : decode cX14_turns 82 = .ok (.if_icmp .ge 20, 3) := by decide +kernel
theorem dX14_turns_85 : decode cX14_turns 85 = .ok (.aload_n 0, 1) := by decide +kernel
theorem dX14_turns_86 : decode cX14_turns 86 = .ok (.iload 4, 2) := by decide +kernel
theorem dX14_turns_88 : decode cX14_turns 88 = .ok (.iload 5, 2) := by decide +kernel
theorem dX14_turns_90 : decode cX14_turns 90 = .ok (.invokevirtual 593, 3) := by decide +kernel
theorem dX14_turns_93 : decode cX14_turns 93 = .ok (.iinc 4 1, 3) := by decide +kernel
theorem dX14_turns_96 : decode cX14_turns 96 = .ok (.iinc 5 (-1), 3) := by decide +kernel
theorem dX14_turns_99 : decode cX14_turns 99 = .ok (.goto (-21), 3) := by decide +kernel
theorem dX14_turns_102 : decode cX14_turns 102 = .ok (.iconst 1, 1) := by decide +kernel
theorem dX14_turns_103 : decode cX14_turns 103 = .ok (.ireturn, 1) := by decide +kernel
set_option maxRecDepth 100000 in
set_option maxHeartbeats 4000000 in
theorem mX14_turns_L4 {E : goEv} {X : goX} {G : goG} {Q : State → Prop} {M : goMI} {L : goML} {R : goMR} {v1 : Int32} (hc : goCx E X cX14_turns RX14 6) (hk : goKn E) (hR : X.2.2.2.1 = goRoom 1 23 0 0) (hr : X.2.2.2.2.2.2.2.2.1.sig.returnType = (Option.some FieldType.boolean)) (hW : goW G R) : ∀ (n : Nat) (v2 : Int32) (r0 : Int32), lX14_turns_4 M n v2 = some r0 → (∀ (d3 d4 d5 : Option Value), goA E X G 0 0 Q 31 [some (.ref 102), some (.int v1), some (.int r0), d3, d4, d5] [] M L R) → ∀ (d3 d4 d5 : Option Value), goA E X G 0 0 Q 4 [some (.ref 102), some (.int v1), some (.int v2), d3, d4, d5] [] M L R := by
  intro n
  induction n with
  | zero => intro v2 r0 h; exact nomatch h
  | succ n ih =>
    intro v2 r0 h kx d3 d4 d5
    rw [lX14_turns_4] at h
    refine go_iload2 hc dX14_turns_4 ?_
    refine go_if_lt hc 31 dX14_turns_5 rfl (fun c13 => ?_) (fun c13 => ?_)
    · replace h := goIfF h c13
      cases h
      exact kx _ _ _
    · replace h := goIfT h c13
      refine go_aload0 hc dX14_turns_8 ?_
      refine go_getR hc lk_RX14_60 dX14_turns_9 (sh_102 hW) (rf_102_37 hW) ?_
      refine go_iload2 hc dX14_turns_12 ?_
      replace h := goBind h; obtain ⟨x14, e15, h⟩ := h
      refine go_iald hc dX14_turns_13 (sh_118 hW) e15 ?_
      refine go_aload0 hc dX14_turns_14 ?_
      refine go_getR hc lk_RX14_60 dX14_turns_15 (sh_102 hW) (rf_102_37 hW) ?_
      refine go_iload2 hc dX14_turns_18 ?_
      refine go_iconst (v := 1) hc dX14_turns_19 rfl ?_
      refine go_iadd hc dX14_turns_20 ?_
      replace h := goBind h; obtain ⟨x16, e17, h⟩ := h
      refine go_iald hc dX14_turns_21 (sh_118 hW) e17 ?_
      refine go_icmp_le hc 31 dX14_turns_22 rfl (fun c18 => ?_) (fun c18 => ?_)
      · replace h := goIfF h c18
        cases h
        exact kx _ _ _
      · replace h := goIfT h c18
        refine go_iinc2 (v := (v2 + (-1))) hc dX14_turns_25 rfl ?_
        refine go_goto hc 4 dX14_turns_28 rfl ?_
        exact ih _ _ h kx _ _ _
set_option maxRecDepth 100000 in
set_option maxHeartbeats 4000000 in
theorem mX14_turns_L41 {E : goEv} {X : goX} {G : goG} {Q : State → Prop} {M : goMI} {L : goML} {R : goMR} {v2 : Int32} {v1 : Int32} (hc : goCx E X cX14_turns RX14 6) (hk : goKn E) (hR : X.2.2.2.1 = goRoom 1 23 0 0) (hr : X.2.2.2.2.2.2.2.2.1.sig.returnType = (Option.some FieldType.boolean)) (hW : goW G R) : ∀ (n : Nat) (v3 : Int32) (r0 : Int32), lX14_turns_41 v2 M n v3 = some r0 → (∀ (d4 d5 : Option Value), goA E X G 0 0 Q 62 [some (.ref 102), some (.int v1), some (.int v2), some (.int r0), d4, d5] [] M L R) → ∀ (d4 d5 : Option Value), goA E X G 0 0 Q 41 [some (.ref 102), some (.int v1), some (.int v2), some (.int v3), d4, d5] [] M L R := by
  intro n
  induction n with
  | zero => intro v3 r0 h; exact nomatch h
  | succ n ih =>
    intro v3 r0 h kx d4 d5
    rw [lX14_turns_41] at h
    refine go_aload0 hc dX14_turns_41 ?_
    refine go_getR hc lk_RX14_60 dX14_turns_42 (sh_102 hW) (rf_102_37 hW) ?_
    refine go_iload3 hc dX14_turns_45 ?_
    replace h := goBind h; obtain ⟨x24, e25, h⟩ := h
    refine go_iald hc dX14_turns_46 (sh_118 hW) e25 ?_
    refine go_aload0 hc dX14_turns_47 ?_
    refine go_getR hc lk_RX14_60 dX14_turns_48 (sh_102 hW) (rf_102_37 hW) ?_
    refine go_iload2 hc dX14_turns_51 ?_
    replace h := goBind h; obtain ⟨x26, e27, h⟩ := h
    refine go_iald hc dX14_turns_52 (sh_118 hW) e27 ?_
    refine go_icmp_ge hc 62 dX14_turns_53 rfl (fun c28 => ?_) (fun c28 => ?_)
    · replace h := goIfF h c28
      cases h
      exact kx _ _
    · replace h := goIfT h c28
      refine go_iinc3 (v := (v3 + (-1))) hc dX14_turns_56 rfl ?_
      refine go_goto hc 41 dX14_turns_59 rfl ?_
      exact ih _ _ h kx _ _
set_option maxRecDepth 100000 in
set_option maxHeartbeats 4000000 in
theorem mX14_turns_L78 {E : goEv} {X : goX} {G : goG} {Q : State → Prop} {L : goML} {R : goMR} (hc : goCx E X cX14_turns RX14 6) (hk : goKn E) (hR : X.2.2.2.1 = goRoom 1 23 0 0) (hr : X.2.2.2.2.2.2.2.2.1.sig.returnType = (Option.some FieldType.boolean)) (hW : goW G R) : ∀ (n : Nat) (v4 : Int32) (v5 : Int32) (M : goMI) (r0 : goMI), lX14_turns_78 n v4 v5 M = some r0 → (∀ (d0 d1 d2 d3 d4 d5 : Option Value), goA E X G 0 0 Q 102 [d0, d1, d2, d3, d4, d5] [] r0 L R) → ∀ (d1 d2 d3 : Option Value), goA E X G 0 0 Q 78 [some (.ref 102), d1, d2, d3, some (.int v4), some (.int v5)] [] M L R := by
  intro n
  induction n with
  | zero => intro v4 v5 M r0 h; exact nomatch h
  | succ n ih =>
    intro v4 v5 M r0 h kx d1 d2 d3
    rw [lX14_turns_78] at h
    refine go_iload4 hc dX14_turns_78 ?_
    refine go_iload5 hc dX14_turns_80 ?_
    refine go_icmp_ge hc 102 dX14_turns_82 rfl (fun c37 => ?_) (fun c37 => ?_)
    · replace h := goIfF h c37
      cases h
      exact kx _ _ _ _ _ _
    · replace h := goIfT h c37
      refine go_aload0 hc dX14_turns_85 ?_
      refine go_iload4 hc dX14_turns_86 ?_
      refine go_iload5 hc dX14_turns_88 ?_
      replace h := goBind h; obtain ⟨M38, e39, h⟩ := h
      refine go_callVv hc dX14_turns_90 (mX14_swaps hk hW e39) ml_RX14_593 yk_X14_swaps ⟨wim_X14_swaps, wse_X14_swaps⟩ hR rfl (sh_102 hW) rfl rfl rfl (Nat.le_of_ble_eq_true rfl) rfl ?_
      refine go_iinc4 (v := (v4 + 1)) hc dX14_turns_93 rfl ?_
      refine go_iinc5 (v := (v5 + (-1))) hc dX14_turns_96 rfl ?_
      refine go_goto hc 78 dX14_turns_99 rfl ?_
      exact ih _ _ _ _ h kx _ _ _
set_option maxRecDepth 100000 in
set_option maxHeartbeats 4000000 in
theorem mX14_turns {E : goEv} {l : Launch} {G : goG} {N : Nat} {M : goMI} {L : goML} {R : goMR} {v1 : Int32} {r0 : Int32} {r1 : goMI} (hk : goKn E) (hW : goW G R) (h : fX14_turns N M v1 = some (r0, r1)) : Met l yX14_turns (goCd yX14_turns cX14_turns 6 (Option.some FieldType.boolean)) (goRoom 1 23 0 0) (goPre E [.ref 102, .int v1] G M L R) (goQi E r0 G r1 L R) 0 0 (goSet E) := by
  refine goMet pl_RX14 hk (lv := [some (.ref 102), some (.int v1), none, none, none, none]) rfl (Nat.le_of_ble_eq_true rfl) ?_
  intro X hc hl hR hr hnm
  subst hl
  unfold fX14_turns at h
  refine go_iload1 hc dX14_turns_0 ?_
  refine go_iconst (v := 2) hc dX14_turns_1 rfl ?_
  refine go_isub hc dX14_turns_2 ?_
  replace h := goNm_x h; obtain ⟨x11, e12, h⟩ := h
  refine go_nmI e12 ?_
  refine go_istore2 hc dX14_turns_3 ?_
  replace h := goBind h; obtain ⟨x20, e19, h⟩ := h
  refine mX14_turns_L4 hc hk hR hr hW _ _ _ e19 (fun d3 d4 d5 => ?_) _ _ _
  refine go_iload2 hc dX14_turns_31 ?_
  refine go_if_ge hc 37 dX14_turns_32 rfl (fun c21 => ?_) (fun c21 => ?_)
  · replace h := goIfF h c21
    refine go_iload1 hc dX14_turns_37 ?_
    refine go_iconst (v := 1) hc dX14_turns_38 rfl ?_
    refine go_isub hc dX14_turns_39 ?_
    replace h := goNm_x h; obtain ⟨x22, e23, h⟩ := h
    refine go_nmI e23 ?_
    refine go_istore3 hc dX14_turns_40 ?_
    replace h := goBind h; obtain ⟨x30, e29, h⟩ := h
    refine mX14_turns_L41 hc hk hR hr hW _ _ _ e29 (fun d4 d5 => ?_) _ _
    refine go_aload0 hc dX14_turns_62 ?_
    refine go_iload2 hc dX14_turns_63 ?_
    refine go_iload3 hc dX14_turns_64 ?_
    replace h := goBind h; obtain ⟨M31, e32, h⟩ := h
    refine go_callVv hc dX14_turns_65 (mX14_swaps hk hW e32) ml_RX14_593 yk_X14_swaps ⟨wim_X14_swaps, wse_X14_swaps⟩ hR rfl (sh_102 hW) rfl rfl rfl (Nat.le_of_ble_eq_true rfl) rfl ?_
    refine go_iload2 hc dX14_turns_68 ?_
    refine go_iconst (v := 1) hc dX14_turns_69 rfl ?_
    refine go_iadd hc dX14_turns_70 ?_
    replace h := goNm_x h; obtain ⟨x33, e34, h⟩ := h
    refine go_nmI e34 ?_
    refine go_istore4 hc dX14_turns_71 ?_
    refine go_iload1 hc dX14_turns_73 ?_
    refine go_iconst (v := 1) hc dX14_turns_74 rfl ?_
    refine go_isub hc dX14_turns_75 ?_
    replace h := goNm_x h; obtain ⟨x35, e36, h⟩ := h
    refine go_nmI e36 ?_
    refine go_istore5 hc dX14_turns_76 ?_
    replace h := goBind h; obtain ⟨M41, e40, h⟩ := h
    refine mX14_turns_L78 hc hk hR hr hW _ _ _ _ _ e40 (fun d0 d1 d2 d3 d4 d5 => ?_) _ _ _
    refine go_iconst (v := 1) hc dX14_turns_102 rfl ?_
    cases h
    exact go_zret hc dX14_turns_103 hr rfl
  · replace h := goIfT h c21
    refine go_iconst (v := 0) hc dX14_turns_35 rfl ?_
    cases h
    exact go_zret hc dX14_turns_36 hr rfl
theorem dX14_leastMean_0 : decode cX14_leastMean 0 = .ok (.iconst 0, 1) := by decide +kernel
theorem dX14_leastMean_1 : decode cX14_leastMean 1 = .ok (.istore_n 1, 1) := by decide +kernel
theorem dX14_leastMean_2 : decode cX14_leastMean 2 = .ok (.iload_n 1, 1) := by decide +kernel
theorem dX14_leastMean_3 : decode cX14_leastMean 3 = .ok (.bipush 6, 2) := by decide +kernel
theorem dX14_leastMean_5 : decode cX14_leastMean 5 = .ok (.if_icmp .ge 16, 3) := by decide +kernel
theorem dX14_leastMean_8 : decode cX14_leastMean 8 = .ok (.aload_n 0, 1) := by decide +kernel
theorem dX14_leastMean_9 : decode cX14_leastMean 9 = .ok (.getfield 60, 3) := by decide +kernel
theorem dX14_leastMean_12 : decode cX14_leastMean 12 = .ok (.iload_n 1, 1) := by decide +kernel
theorem dX14_leastMean_13 : decode cX14_leastMean 13 = .ok (.iload_n 1, 1) := by decide +kernel
theorem dX14_leastMean_14 : decode cX14_leastMean 14 = .ok (.iastore, 1) := by decide +kernel
theorem dX14_leastMean_15 : decode cX14_leastMean 15 = .ok (.iinc 1 1, 3) := by decide +kernel
theorem dX14_leastMean_18 : decode cX14_leastMean 18 = .ok (.goto (-16), 3) := by decide +kernel
theorem dX14_leastMean_21 : decode cX14_leastMean 21 = .ok (.ldc2_w 596, 3) := by decide +kernel
theorem dX14_leastMean_24 : decode cX14_leastMean 24 = .ok (.lstore_n 1, 1) := by decide +kernel
theorem dX14_leastMean_25 : decode cX14_leastMean 25 = .ok (.iconst 1, 1) := by decide +kernel
theorem dX14_leastMean_26 : decode cX14_leastMean 26 = .ok (.istore_n 3, 1) := by decide +kernel
theorem dX14_leastMean_27 : decode cX14_leastMean 27 = .ok (.iload_n 3, 1) := by decide +kernel
theorem dX14_leastMean_28 : decode cX14_leastMean 28 = .ok (.ifCond .eq 70, 3) := by decide +kernel
theorem dX14_leastMean_31 : decode cX14_leastMean 31 = .ok (.aload_n 0, 1) := by decide +kernel
theorem dX14_leastMean_32 : decode cX14_leastMean 32 = .ok (.invokevirtual 598, 3) := by decide +kernel
theorem dX14_leastMean_35 : decode cX14_leastMean 35 = .ok (.lstore 4, 2) := by decide +kernel
theorem dX14_leastMean_37 : decode cX14_leastMean 37 = .ok (.lload_n 1, 1) := by decide +kernel
theorem dX14_leastMean_38 : decode cX14_leastMean 38 = .ok (.lconst 0, 1) := by decide +kernel
theorem dX14_leastMean_39 : decode cX14_leastMean 39 = .ok (.lcmp, 1) := by decide +kernel
theorem dX14_leastMean_40 : decode cX14_leastMean 40 = .ok (.ifCond .lt 10, 3) := by decide +kernel
theorem dX14_leastMean_43 : decode cX14_leastMean 43 = .ok (.lload 4, 2) := by decide +kernel
theorem dX14_leastMean_45 : decode cX14_leastMean 45 = .ok (.lload_n 1, 1) := by decide +kernel
theorem dX14_leastMean_46 : decode cX14_leastMean 46 = .ok (.lcmp, 1) := by decide +kernel
theorem dX14_leastMean_47 : decode cX14_leastMean 47 = .ok (.ifCond .ge 36, 3) := by decide +kernel
theorem dX14_leastMean_50 : decode cX14_leastMean 50 = .ok (.lload 4, 2) := by decide +kernel
theorem dX14_leastMean_52 : decode cX14_leastMean 52 = .ok (.lstore_n 1, 1) := by decide +kernel
theorem dX14_leastMean_53 : decode cX14_leastMean 53 = .ok (.iconst 0, 1) := by decide +kernel
theorem dX14_leastMean_54 : decode cX14_leastMean 54 = .ok (.istore 6, 2) := by decide +kernel
theorem dX14_leastMean_56 : decode cX14_leastMean 56 = .ok (.iload 6, 2) := by decide +kernel
theorem dX14_leastMean_58 : decode cX14_leastMean 58 = .ok (.bipush 6, 2) := by decide +kernel
theorem dX14_leastMean_60 : decode cX14_leastMean 60 = .ok (.if_icmp .ge 23, 3) := by decide +kernel
theorem dX14_leastMean_63 : decode cX14_leastMean 63 = .ok (.aload_n 0, 1) := by decide +kernel
theorem dX14_leastMean_64 : decode cX14_leastMean 64 = .ok (.getfield 63, 3) := by decide +kernel
theorem dX14_leastMean_67 : decode cX14_leastMean 67 = .ok (.iload 6, 2) := by decide +kernel
theorem dX14_leastMean_69 : decode cX14_leastMean 69 = .ok (.aload_n 0, 1) := by decide +kernel
theorem dX14_leastMean_70 : decode cX14_leastMean 70 = .ok (.getfield 60, 3) := by decide +kernel
theorem dX14_leastMean_73 : decode cX14_leastMean 73 = .ok (.iload 6, 2) := by decide +kernel
theorem dX14_leastMean_75 : decode cX14_leastMean 75 = .ok (.iaload, 1) := by decide +kernel
theorem dX14_leastMean_76 : decode cX14_leastMean 76 = .ok (.iastore, 1) := by decide +kernel
theorem dX14_leastMean_77 : decode cX14_leastMean 77 = .ok (.iinc 6 1, 3) := by decide +kernel
theorem dX14_leastMean_80 : decode cX14_leastMean 80 = .ok (.goto (-24), 3) := by decide +kernel
theorem dX14_leastMean_83 : decode cX14_leastMean 83 = .ok (.aload_n 0, 1) := by decide +kernel
theorem dX14_leastMean_84 : decode cX14_leastMean 84 = .ok (.aload_n 0, 1) := by decide +kernel
theorem dX14_leastMean_85 : decode cX14_leastMean 85 = .ok (.getfield 442, 3) := by decide +kernel
theorem dX14_leastMean_88 : decode cX14_leastMean 88 = .ok (.getfield 419, 3) := by decide +kernel
theorem dX14_leastMean_91 : decode cX14_leastMean 91 = .ok (.invokevirtual 601, 3) := by decide +kernel
theorem dX14_leastMean_94 : decode cX14_leastMean 94 = .ok (.istore_n 3, 1) := by decide +kernel
theorem dX14_leastMean_95 : decode cX14_leastMean 95 = .ok (.goto (-68), 3) := by decide +kernel
theorem dX14_leastMean_98 : decode cX14_leastMean 98 = .ok (.lload_n 1, 1) := by decide +kernel
theorem dX14_leastMean_99 : decode cX14_leastMean 99 = .ok (.lreturn, 1) := by decide +kernel
set_option maxRecDepth 100000 in
set_option maxHeartbeats 4000000 in
theorem mX14_leastMean_L2 {E : goEv} {X : goX} {G : goG} {Q : State → Prop} {L : goML} {R : goMR} (hc : goCx E X cX14_leastMean RX14 7) (hk : goKn E) (hR : X.2.2.2.1 = goRoom 2 48 0 0) (hr : X.2.2.2.2.2.2.2.2.1.sig.returnType = (Option.some FieldType.long)) (hW : goW G R) : ∀ (n : Nat) (v1 : Int32) (M : goMI) (r0 : goMI), lX14_leastMean_2 n v1 M = some r0 → (∀ (d1 d2 d3 d4 d5 d6 : Option Value), goA E X G 0 0 Q 21 [some (.ref 102), d1, d2, d3, d4, d5, d6] [] r0 L R) → ∀ (d2 d3 d4 d5 d6 : Option Value), goA E X G 0 0 Q 2 [some (.ref 102), some (.int v1), d2, d3, d4, d5, d6] [] M L R := by
  intro n
  induction n with
  | zero => intro v1 M r0 h; exact nomatch h
  | succ n ih =>
    intro v1 M r0 h kx d2 d3 d4 d5 d6
    rw [lX14_leastMean_2] at h
    refine go_iload1 hc dX14_leastMean_2 ?_
    refine go_bipush (v := 6) hc dX14_leastMean_3 rfl ?_
    refine go_icmp_ge hc 21 dX14_leastMean_5 rfl (fun c11 => ?_) (fun c11 => ?_)
    · replace h := goIfF h c11
      cases h
      exact kx _ _ _ _ _ _
    · replace h := goIfT h c11
      refine go_aload0 hc dX14_leastMean_8 ?_
      refine go_getR hc lk_RX14_60 dX14_leastMean_9 (sh_102 hW) (rf_102_37 hW) ?_
      refine go_iload1 hc dX14_leastMean_12 ?_
      refine go_iload1 hc dX14_leastMean_13 ?_
      replace h := goBind h; obtain ⟨M12, e13, h⟩ := h
      refine go_iast hc dX14_leastMean_14 (sh_118 hW) e13 ?_
      refine go_iinc1 (v := (v1 + 1)) hc dX14_leastMean_15 rfl ?_
      refine go_goto hc 2 dX14_leastMean_18 rfl ?_
      exact ih _ _ _ h kx _ _ _ _ _
set_option maxRecDepth 100000 in
set_option maxHeartbeats 4000000 in
theorem mX14_leastMean_L56 {E : goEv} {X : goX} {G : goG} {Q : State → Prop} {L : goML} {R : goMR} {w1 : Int64} (hc : goCx E X cX14_leastMean RX14 7) (hk : goKn E) (hR : X.2.2.2.1 = goRoom 2 48 0 0) (hr : X.2.2.2.2.2.2.2.2.1.sig.returnType = (Option.some FieldType.long)) (hW : goW G R) : ∀ (n : Nat) (v6 : Int32) (M : goMI) (r0 : goMI), lX14_leastMean_56 n v6 M = some r0 → (∀ (d3 d4 d5 d6 : Option Value), goA E X G 0 0 Q 83 [some (.ref 102), some (.long w1), none, d3, d4, d5, d6] [] r0 L R) → ∀ (d3 d4 d5 : Option Value), goA E X G 0 0 Q 56 [some (.ref 102), some (.long w1), none, d3, d4, d5, some (.int v6)] [] M L R := by
  intro n
  induction n with
  | zero => intro v6 M r0 h; exact nomatch h
  | succ n ih =>
    intro v6 M r0 h kx d3 d4 d5
    rw [lX14_leastMean_56] at h
    refine go_iload6 hc dX14_leastMean_56 ?_
    refine go_bipush (v := 6) hc dX14_leastMean_58 rfl ?_
    refine go_icmp_ge hc 83 dX14_leastMean_60 rfl (fun c24 => ?_) (fun c24 => ?_)
    · replace h := goIfF h c24
      cases h
      exact kx _ _ _ _
    · replace h := goIfT h c24
      refine go_aload0 hc dX14_leastMean_63 ?_
      refine go_getR hc lk_RX14_63 dX14_leastMean_64 (sh_102 hW) (rf_102_38 hW) ?_
      refine go_iload6 hc dX14_leastMean_67 ?_
      refine go_aload0 hc dX14_leastMean_69 ?_
      refine go_getR hc lk_RX14_60 dX14_leastMean_70 (sh_102 hW) (rf_102_37 hW) ?_
      refine go_iload6 hc dX14_leastMean_73 ?_
      replace h := goBind h; obtain ⟨x25, e26, h⟩ := h
      refine go_iald hc dX14_leastMean_75 (sh_118 hW) e26 ?_
      replace h := goBind h; obtain ⟨M27, e28, h⟩ := h
      refine go_iast hc dX14_leastMean_76 (sh_119 hW) e28 ?_
      refine go_iinc6 (v := (v6 + 1)) hc dX14_leastMean_77 rfl ?_
      refine go_goto hc 56 dX14_leastMean_80 rfl ?_
      exact ih _ _ _ h kx _ _ _
set_option maxRecDepth 100000 in
set_option maxHeartbeats 4000000 in
theorem mX14_leastMean_L27 {E : goEv} {X : goX} {G : goG} {Q : State → Prop} {L : goML} {R : goMR} {N : Nat} (hc : goCx E X cX14_leastMean RX14 7) (hk : goKn E) (hR : X.2.2.2.1 = goRoom 2 48 0 0) (hr : X.2.2.2.2.2.2.2.2.1.sig.returnType = (Option.some FieldType.long)) (hW : goW G R) : ∀ (n : Nat) (w1 : Int64) (v3 : Int32) (M : goMI) (r0 : Int64) (r1 : goMI), lX14_leastMean_27 N R n w1 v3 M = some (r0, r1) → (∀ (d0 d3 d4 d5 d6 : Option Value), goA E X G 0 0 Q 98 [d0, some (.long r0), none, d3, d4, d5, d6] [] r1 L R) → ∀ (d4 d5 d6 : Option Value), goA E X G 0 0 Q 27 [some (.ref 102), some (.long w1), none, some (.int v3), d4, d5, d6] [] M L R := by
  intro n
  induction n with
  | zero => intro w1 v3 M r0 r1 h; exact nomatch h
  | succ n ih =>
    intro w1 v3 M r0 r1 h kx d4 d5 d6
    rw [lX14_leastMean_27] at h
    refine go_iload3 hc dX14_leastMean_27 ?_
    refine go_if_eq hc 98 dX14_leastMean_28 rfl (fun c16 => ?_) (fun c16 => ?_)
    · replace h := goIfT h c16
      cases h
      exact kx _ _ _ _ _
    · replace h := goIfF h c16
      refine go_aload0 hc dX14_leastMean_31 ?_
      replace h := goBind h; obtain ⟨x17, e18, h⟩ := h
      refine go_callVl hc dX14_leastMean_32 (mX14_meanOf hk hW e18) ml_RX14_598 yk_X14_meanOf ⟨wim_X14_meanOf, wse_X14_meanOf⟩ hR rfl (sh_102 hW) rfl rfl rfl (Nat.le_of_ble_eq_true rfl) rfl ?_
      refine go_lstore4 hc dX14_leastMean_35 ?_
      refine go_lload1 hc dX14_leastMean_37 ?_
      refine go_lconst (v := 0) hc dX14_leastMean_38 rfl ?_
      refine go_lcmp hc dX14_leastMean_39 ?_
      replace h := goB2_h h; obtain ⟨x19, M20, e21, h⟩ := h
      have k22 : ∀ (d3 d4 d5 d6 : Option Value), goA E X G 0 0 Q 83 [some (.ref 102), some (.long x19), none, d3, d4, d5, d6] [] M20 L R := by
        intro d3 d4 d5 d6
        refine go_aload0 hc dX14_leastMean_83 ?_
        refine go_aload0 hc dX14_leastMean_84 ?_
        replace h := goBind h; obtain ⟨b39, e40, h⟩ := h
        refine go_getR hc lk_RX14_442 dX14_leastMean_85 (sh_102 hW) e40 ?_
        refine go_getI hc lk_RX14_419 dX14_leastMean_88 (shM_0 (goW_M3 hW e40)) ?_
        replace h := goB2_h h; obtain ⟨x41, M42, e43, h⟩ := h
        refine go_callVi hc dX14_leastMean_91 (mX14_turns hk hW e43) ml_RX14_601 yk_X14_turns ⟨wim_X14_turns, wse_X14_turns⟩ hR rfl (sh_102 hW) rfl rfl rfl (Nat.le_of_ble_eq_true rfl) rfl ?_
        refine go_istore3 hc dX14_leastMean_94 ?_
        refine go_goto hc 27 dX14_leastMean_95 rfl ?_
        exact ih _ _ _ _ _ h kx _ _ _
      refine go_if_lt hc 50 dX14_leastMean_40 rfl (fun c23 => ?_) (fun c23 => ?_)
      · replace e21 := goIfF e21 c23
        refine go_lload4 hc dX14_leastMean_50 ?_
        refine go_lstore1 hc dX14_leastMean_52 ?_
        refine go_iconst (v := 0) hc dX14_leastMean_53 rfl ?_
        refine go_istore6 hc dX14_leastMean_54 ?_
        replace e21 := goBind e21; obtain ⟨M30, e29, e21⟩ := e21
        refine mX14_leastMean_L56 hc hk hR hr hW _ _ _ _ e29 (fun d3 d4 d5 d6 => ?_) _ _ _
        cases e21
        exact k22 _ _ _ _
      · replace e21 := goIfT e21 c23
        refine go_lload4 hc dX14_leastMean_43 ?_
        refine go_lload1 hc dX14_leastMean_45 ?_
        refine go_lcmp hc dX14_leastMean_46 ?_
        refine go_if_ge hc 83 dX14_leastMean_47 rfl (fun c31 => ?_) (fun c31 => ?_)
        · replace e21 := goIfF e21 c31
          cases e21
          exact k22 _ _ _ _
        · replace e21 := goIfT e21 c31
          refine go_lload4 hc dX14_leastMean_50 ?_
          refine go_lstore1 hc dX14_leastMean_52 ?_
          refine go_iconst (v := 0) hc dX14_leastMean_53 rfl ?_
          refine go_istore6 hc dX14_leastMean_54 ?_
          replace e21 := goBind e21; obtain ⟨M38, e37, e21⟩ := e21
          refine mX14_leastMean_L56 hc hk hR hr hW _ _ _ _ e37 (fun d3 d4 d5 d6 => ?_) _ _ _
          cases e21
          exact k22 _ _ _ _
set_option maxRecDepth 100000 in
set_option maxHeartbeats 4000000 in
theorem mX14_leastMean {E : goEv} {l : Launch} {G : goG} {N : Nat} {M : goMI} {L : goML} {R : goMR} {r0 : Int64} {r1 : goMI} (hk : goKn E) (hW : goW G R) (h : fX14_leastMean N M R = some (r0, r1)) : Met l yX14_leastMean (goCd yX14_leastMean cX14_leastMean 7 (Option.some FieldType.long)) (goRoom 2 48 0 0) (goPre E [.ref 102] G M L R) (goQl E r0 G r1 L R) 0 0 (goSet E) := by
  refine goMet pl_RX14 hk (lv := [some (.ref 102), none, none, none, none, none, none]) rfl (Nat.le_of_ble_eq_true rfl) ?_
  intro X hc hl hR hr hnm
  subst hl
  unfold fX14_leastMean at h
  refine go_iconst (v := 0) hc dX14_leastMean_0 rfl ?_
  refine go_istore1 hc dX14_leastMean_1 ?_
  replace h := goBind h; obtain ⟨M15, e14, h⟩ := h
  refine mX14_leastMean_L2 hc hk hR hr hW _ _ _ _ e14 (fun d1 d2 d3 d4 d5 d6 => ?_) _ _ _ _ _
  refine go_ldc2 hc dX14_leastMean_21 wcJ_RX14_596 ?_
  refine go_lstore1 hc dX14_leastMean_24 ?_
  refine go_iconst (v := 1) hc dX14_leastMean_25 rfl ?_
  refine go_istore3 hc dX14_leastMean_26 ?_
  replace h := goB2_h h; obtain ⟨x45, M46, e44, h⟩ := h
  refine mX14_leastMean_L27 hc hk hR hr hW _ _ _ _ _ _ e44 (fun d0 d3 d4 d5 d6 => ?_) _ _ _
  refine go_lload1 hc dX14_leastMean_98 ?_
  cases h
  exact go_lret hc dX14_leastMean_99 hr
theorem dX14_appeals_0 : decode cX14_appeals 0 = .ok (.aload_n 0, 1) := by decide +kernel
theorem dX14_appeals_1 : decode cX14_appeals 1 = .ok (.iconst 0, 1) := by decide +kernel
theorem dX14_appeals_2 : decode cX14_appeals 2 = .ok (.putfield 66, 3) := by decide +kernel
theorem dX14_appeals_5 : decode cX14_appeals 5 = .ok (.aload_n 0, 1) := by decide +kernel
theorem dX14_appeals_6 : decode cX14_appeals 6 = .ok (.getfield 442, 3) := by decide +kernel
theorem dX14_appeals_9 : decode cX14_appeals 9 = .ok (.ifnonnull 10, 3) := by decide +kernel
theorem dX14_appeals_12 : decode cX14_appeals 12 = .ok (.aload_n 0, 1) := by decide +kernel
theorem dX14_appeals_13 : decode cX14_appeals 13 = .ok (.iconst 1, 1) := by decide +kernel
theorem dX14_appeals_14 : decode cX14_appeals 14 = .ok (.invokevirtual 72, 3) := by decide +kernel
theorem dX14_appeals_17 : decode cX14_appeals 17 = .ok (.i2l, 1) := by decide +kernel
theorem dX14_appeals_18 : decode cX14_appeals 18 = .ok (.lreturn, 1) := by decide +kernel
theorem dX14_appeals_19 : decode cX14_appeals 19 = .ok (.aload_n 0, 1) := by decide +kernel
theorem dX14_appeals_20 : decode cX14_appeals 20 = .ok (.iconst 0, 1) := by decide +kernel
theorem dX14_appeals_21 : decode cX14_appeals 21 = .ok (.invokevirtual 76, 3) := by decide +kernel
theorem dX14_appeals_24 : decode cX14_appeals 24 = .ok (.pop, 1) := by decide +kernel
theorem dX14_appeals_25 : decode cX14_appeals 25 = .ok (.aload_n 0, 1) := by decide +kernel
theorem dX14_appeals_26 : decode cX14_appeals 26 = .ok (.invokevirtual 604, 3) := by decide +kernel
theorem dX14_appeals_29 : decode cX14_appeals 29 = .ok (.lreturn, 1) := by decide +kernel
set_option maxRecDepth 100000 in
set_option maxHeartbeats 4000000 in
theorem mX14_appeals {E : goEv} {l : Launch} {G : goG} {N : Nat} {M : goMI} {L : goML} {R : goMR} {r0 : Int64} {r1 : goMI} (hk : goKn E) (hW : goW G R) (h : fX14_appeals N M R = some (r0, r1)) : Met l yX14_appeals (goCd yX14_appeals cX14_appeals 1 (Option.some FieldType.long)) (goRoom 3 74 0 0) (goPre E [.ref 102] G M L R) (goQl E r0 G r1 L R) 0 0 (goSet E) := by
  refine goMet pl_RX14 hk (lv := [some (.ref 102)]) rfl (Nat.le_of_ble_eq_true rfl) ?_
  intro X hc hl hR hr hnm
  subst hl
  unfold fX14_appeals at h
  refine go_aload0 hc dX14_appeals_0 ?_
  refine go_iconst (v := 0) hc dX14_appeals_1 rfl ?_
  replace h := goNm_x h; obtain ⟨M11, e12, h⟩ := h
  refine go_ptI hc lk_RX14_66 dX14_appeals_2 (sh_102 hW) e12 ?_
  refine go_aload0 hc dX14_appeals_5 ?_
  refine go_getQ hc lk_RX14_442 dX14_appeals_6 (sh_102 hW) ?_
  refine go_ifnonnull hc 19 dX14_appeals_9 rfl (fun _ c13 => ?_) (fun c13 => ?_)
  · replace h := goIfF h (goNn c13)
    refine go_aload0 hc dX14_appeals_19 ?_
    refine go_iconst (v := 0) hc dX14_appeals_20 rfl ?_
    replace h := goB2_h h; obtain ⟨x14, M15, e16, h⟩ := h
    refine go_callVi hc dX14_appeals_21 (mX14_good hk hW e16) ml_RX14_76 yk_X14_good ⟨wim_X14_good, wse_X14_good⟩ hR rfl (sh_102 hW) rfl rfl rfl (Nat.le_of_ble_eq_true rfl) rfl ?_
    refine go_popi hc dX14_appeals_24 ?_
    refine go_aload0 hc dX14_appeals_25 ?_
    replace h := goB2_h h; obtain ⟨x17, M18, e19, h⟩ := h
    refine go_callVl hc dX14_appeals_26 (mX14_leastMean hk hW e19) ml_RX14_604 yk_X14_leastMean ⟨wim_X14_leastMean, wse_X14_leastMean⟩ hR rfl (sh_102 hW) rfl rfl rfl (Nat.le_of_ble_eq_true rfl) rfl ?_
    cases h
    exact go_lret hc dX14_appeals_29 hr
  · replace h := goIfT h c13
    refine go_aload0 hc dX14_appeals_12 ?_
    refine go_iconst (v := 1) hc dX14_appeals_13 rfl ?_
    replace h := goB2_h h; obtain ⟨x20, M21, e22, h⟩ := h
    refine go_callVi hc dX14_appeals_14 (mX14_refused hk hW e22) ml_RX14_72 yk_X14_refused ⟨wim_X14_refused, wse_X14_refused⟩ hR rfl (sh_102 hW) rfl rfl rfl (Nat.le_of_ble_eq_true rfl) rfl ?_
    refine go_i2l hc dX14_appeals_17 ?_
    cases h
    exact go_lret hc dX14_appeals_18 hr
