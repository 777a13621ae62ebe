theorem dX14_appealAt_0 : decode cX14_appealAt 0 = .ok (.aload_n 0, 1) := by decide +kernel
theorem dX14_appealAt_1 : decode cX14_appealAt 1 = .ok (.iconst 0, 1) := by decide +kernel
theorem dX14_appealAt_2 : decode cX14_appealAt 2 = .ok (.putfield 66, 3) := by decide +kernel
theorem dX14_appealAt_5 : decode cX14_appealAt 5 = .ok (.aload_n 0, 1) := by decide +kernel
theorem dX14_appealAt_6 : decode cX14_appealAt 6 = .ok (.getfield 442, 3) := by decide +kernel
theorem dX14_appealAt_9 : decode cX14_appealAt 9 = .ok (.ifnull 18, 3) := by decide +kernel
theorem dX14_appealAt_12 : decode cX14_appealAt 12 = .ok (.iload_n 1, 1) := by decide +kernel
theorem dX14_appealAt_13 : decode cX14_appealAt 13 = .ok (.ifCond .lt 14, 3) := by decide +kernel
theorem dX14_appealAt_16 : decode cX14_appealAt 16 = .ok (.iload_n 1, 1) := by decide +kernel
theorem dX14_appealAt_17 : decode cX14_appealAt 17 = .ok (.aload_n 0, 1) := by decide +kernel
theorem dX14_appealAt_18 : decode cX14_appealAt 18 = .ok (.getfield 442, 3) := by decide +kernel
theorem dX14_appealAt_21 : decode cX14_appealAt 21 = .ok (.getfield 419, 3) := by decide +kernel
theorem dX14_appealAt_24 : decode cX14_appealAt 24 = .ok (.if_icmp .lt 9, 3) := by decide +kernel
theorem dX14_appealAt_27 : decode cX14_appealAt 27 = .ok (.aload_n 0, 1) := by decide +kernel
theorem dX14_appealAt_28 : decode cX14_appealAt 28 = .ok (.iconst 1, 1) := by decide +kernel
theorem dX14_appealAt_29 : decode cX14_appealAt 29 = .ok (.invokevirtual 72, 3) := by decide +kernel
theorem dX14_appealAt_32 : decode cX14_appealAt 32 = .ok (.ireturn, 1) := by decide +kernel
theorem dX14_appealAt_33 : decode cX14_appealAt 33 = .ok (.aload_n 0, 1) := by decide +kernel
theorem dX14_appealAt_34 : decode cX14_appealAt 34 = .ok (.invokevirtual 604, 3) := by decide +kernel
theorem dX14_appealAt_37 : decode cX14_appealAt 37 = .ok (.pop2, 1) := by decide +kernel
theorem dX14_appealAt_38 : decode cX14_appealAt 38 = .ok (.aload_n 0, 1) := by decide +kernel
theorem dX14_appealAt_39 : decode cX14_appealAt 39 = .ok (.aload_n 0, 1) := by decide +kernel
theorem dX14_appealAt_40 : decode cX14_appealAt 40 = .ok (.getfield 63, 3) := by decide +kernel
theorem dX14_appealAt_43 : decode cX14_appealAt 43 = .ok (.iload_n 1, 1) := by decide +kernel
theorem dX14_appealAt_44 : decode cX14_appealAt 44 = .ok (.iaload, 1) := by decide +kernel
theorem dX14_appealAt_45 : decode cX14_appealAt 45 = .ok (.invokevirtual 76, 3) := by decide +kernel
theorem dX14_appealAt_48 : decode cX14_appealAt 48 = .ok (.ireturn, 1) := by decide +kernel
set_option maxRecDepth 100000 in
set_option maxHeartbeats 4000000 in
theorem mX14_appealAt {E : goEv} {l : Launch} {G : goG} {N : Nat} {M : goMI} {L : goML} {R : goMR} {v1 : Int32} {r0 : Int32} {r1 : goMI} (hk : goKn E) (hW : goW G R) (h : fX14_appealAt N M R v1 = some (r0, r1)) : Met l yX14_appealAt (goCd yX14_appealAt cX14_appealAt 2 (Option.some FieldType.int)) (goRoom 3 74 0 0) (goPre E [.ref 102, .int v1] G M L R) (goQi E r0 G r1 L R) 0 0 (goSet E) := by
  refine goMet pl_RX14 hk (lv := [some (.ref 102), some (.int v1)]) rfl (Nat.le_of_ble_eq_true rfl) ?_
  intro X hc hl hR hr hnm
  subst hl
  unfold fX14_appealAt at h
  refine go_aload0 hc dX14_appealAt_0 ?_
  refine go_iconst (v := 0) hc dX14_appealAt_1 rfl ?_
  replace h := goNm_x h; obtain ⟨M11, e12, h⟩ := h
  refine go_ptI hc lk_RX14_66 dX14_appealAt_2 (sh_102 hW) e12 ?_
  refine go_aload0 hc dX14_appealAt_5 ?_
  refine go_getQ hc lk_RX14_442 dX14_appealAt_6 (sh_102 hW) ?_
  refine go_ifnull hc 27 dX14_appealAt_9 rfl (fun c13 => ?_) (fun _ c13 => ?_)
  · replace h := goIfT h c13
    refine go_aload0 hc dX14_appealAt_27 ?_
    refine go_iconst (v := 1) hc dX14_appealAt_28 rfl ?_
    replace h := goB2_h h; obtain ⟨x14, M15, e16, h⟩ := h
    refine go_callVi hc dX14_appealAt_29 (mX14_refused hk hW e16) ml_RX14_72 yk_X14_refused ⟨wim_X14_refused, wse_X14_refused⟩ hR rfl (sh_102 hW) rfl rfl rfl (Nat.le_of_ble_eq_true rfl) rfl ?_
    cases h
    exact go_iret hc dX14_appealAt_32 hr
  · replace h := goIfF h (goNn c13)
    refine go_iload1 hc dX14_appealAt_12 ?_
    refine go_if_lt hc 27 dX14_appealAt_13 rfl (fun c17 => ?_) (fun c17 => ?_)
    · replace h := goIfF h c17
      refine go_aload0 hc dX14_appealAt_27 ?_
      refine go_iconst (v := 1) hc dX14_appealAt_28 rfl ?_
      replace h := goB2_h h; obtain ⟨x18, M19, e20, h⟩ := h
      refine go_callVi hc dX14_appealAt_29 (mX14_refused hk hW e20) ml_RX14_72 yk_X14_refused ⟨wim_X14_refused, wse_X14_refused⟩ hR rfl (sh_102 hW) rfl rfl rfl (Nat.le_of_ble_eq_true rfl) rfl ?_
      cases h
      exact go_iret hc dX14_appealAt_32 hr
    · replace h := goIfT h c17
      refine go_iload1 hc dX14_appealAt_16 ?_
      refine go_aload0 hc dX14_appealAt_17 ?_
      replace h := goBind h; obtain ⟨b21, e22, h⟩ := h
      refine go_getR hc lk_RX14_442 dX14_appealAt_18 (sh_102 hW) e22 ?_
      refine go_getI hc lk_RX14_419 dX14_appealAt_21 (shM_0 (goW_M3 hW e22)) ?_
      refine go_icmp_lt hc 33 dX14_appealAt_24 rfl (fun c23 => ?_) (fun c23 => ?_)
      · replace h := goIfF h c23
        refine go_aload0 hc dX14_appealAt_33 ?_
        replace h := goB2_h h; obtain ⟨x24, M25, e26, h⟩ := h
        refine go_callVl hc dX14_appealAt_34 (mX14_leastMean hk hW e26) ml_RX14_604 yk_X14_leastMean ⟨wim_X14_leastMean, wse_X14_leastMean⟩ hR rfl (sh_102 hW) rfl rfl rfl (Nat.le_of_ble_eq_true rfl) rfl ?_
        refine go_pop2l hc dX14_appealAt_37 ?_
        refine go_aload0 hc dX14_appealAt_38 ?_
        refine go_aload0 hc dX14_appealAt_39 ?_
        refine go_getR hc lk_RX14_63 dX14_appealAt_40 (sh_102 hW) (rf_102_38 hW) ?_
        refine go_iload1 hc dX14_appealAt_43 ?_
        replace h := goBind h; obtain ⟨x27, e28, h⟩ := h
        refine go_iald hc dX14_appealAt_44 (sh_119 hW) e28 ?_
        replace h := goB2_h h; obtain ⟨x29, M30, e31, h⟩ := h
        refine go_callVi hc dX14_appealAt_45 (mX14_good hk hW e31) ml_RX14_76 yk_X14_good ⟨wim_X14_good, wse_X14_good⟩ hR rfl (sh_102 hW) rfl rfl rfl (Nat.le_of_ble_eq_true rfl) rfl ?_
        cases h
        exact go_iret hc dX14_appealAt_48 hr
      · replace h := goIfT h c23
        refine go_aload0 hc dX14_appealAt_27 ?_
        refine go_iconst (v := 1) hc dX14_appealAt_28 rfl ?_
        replace h := goB2_h h; obtain ⟨x32, M33, e34, h⟩ := h
        refine go_callVi hc dX14_appealAt_29 (mX14_refused hk hW e34) ml_RX14_72 yk_X14_refused ⟨wim_X14_refused, wse_X14_refused⟩ hR rfl (sh_102 hW) rfl rfl rfl (Nat.le_of_ble_eq_true rfl) rfl ?_
        cases h
        exact go_iret hc dX14_appealAt_32 hr
theorem dX14_keeps_0 : decode cX14_keeps 0 = .ok (.aload_n 0, 1) := by decide +kernel
theorem dX14_keeps_1 : decode cX14_keeps 1 = .ok (.getfield 444, 3) := by decide +kernel
theorem dX14_keeps_4 : decode cX14_keeps 4 = .ok (.bipush 16, 2) := by decide +kernel
theorem dX14_keeps_6 : decode cX14_keeps 6 = .ok (.if_icmp .ne 43, 3) := by decide +kernel
theorem dX14_keeps_9 : decode cX14_keeps 9 = .ok (.iconst 0, 1) := by decide +kernel
theorem dX14_keeps_10 : decode cX14_keeps 10 = .ok (.istore_n 1, 1) := by decide +kernel
theorem dX14_keeps_11 : decode cX14_keeps 11 = .ok (.iload_n 1, 1) := by decide +kernel
theorem dX14_keeps_12 : decode cX14_keeps 12 = .ok (.sipush 270, 3) := by decide +kernel
theorem dX14_keeps_15 : decode cX14_keeps 15 = .ok (.if_icmp .ge 24, 3) := by decide +kernel
theorem dX14_keeps_18 : decode cX14_keeps 18 = .ok (.aload_n 0, 1) := by decide +kernel
theorem dX14_keeps_19 : decode cX14_keeps 19 = .ok (.getfield 24, 3) := by decide +kernel
theorem dX14_keeps_22 : decode cX14_keeps 22 = .ok (.iload_n 1, 1) := by decide +kernel
theorem dX14_keeps_23 : decode cX14_keeps 23 = .ok (.aload_n 0, 1) := by decide +kernel
theorem dX14_keeps_24 : decode cX14_keeps 24 = .ok (.getfield 24, 3) := by decide +kernel
theorem dX14_keeps_27 : decode cX14_keeps 27 = .ok (.iload_n 1, 1) := by decide +kernel
theorem dX14_keeps_28 : decode cX14_keeps 28 = .ok (.bipush 18, 2) := by decide +kernel
theorem dX14_keeps_30 : decode cX14_keeps 30 = .ok (.iadd, 1) := by decide +kernel
theorem dX14_keeps_31 : decode cX14_keeps 31 = .ok (.iaload, 1) := by decide +kernel
theorem dX14_keeps_32 : decode cX14_keeps 32 = .ok (.iastore, 1) := by decide +kernel
theorem dX14_keeps_33 : decode cX14_keeps 33 = .ok (.iinc 1 1, 3) := by decide +kernel
theorem dX14_keeps_36 : decode cX14_keeps 36 = .ok (.goto (-25), 3) := by decide +kernel
theorem dX14_keeps_39 : decode cX14_keeps 39 = .ok (.aload_n 0, 1) := by decide +kernel
theorem dX14_keeps_40 : decode cX14_keeps 40 = .ok (.dup, 1) := by decide +kernel
theorem dX14_keeps_41 : decode cX14_keeps 41 = .ok (.getfield 444, 3) := by decide +kernel
theorem dX14_keeps_44 : decode cX14_keeps 44 = .ok (.iconst 1, 1) := by decide +kernel
theorem dX14_keeps_45 : decode cX14_keeps 45 = .ok (.isub, 1) := by decide +kernel
theorem dX14_keeps_46 : decode cX14_keeps 46 = .ok (.putfield 444, 3) := by decide +kernel
theorem dX14_keeps_49 : decode cX14_keeps 49 = .ok (.iconst 0, 1) := by decide +kernel
theorem dX14_keeps_50 : decode cX14_keeps 50 = .ok (.istore_n 1, 1) := by decide +kernel
theorem dX14_keeps_51 : decode cX14_keeps 51 = .ok (.iload_n 1, 1) := by decide +kernel
theorem dX14_keeps_52 : decode cX14_keeps 52 = .ok (.bipush 18, 2) := by decide +kernel
theorem dX14_keeps_54 : decode cX14_keeps 54 = .ok (.if_icmp .ge 29, 3) := by decide +kernel
theorem dX14_keeps_57 : decode cX14_keeps 57 = .ok (.aload_n 0, 1) := by decide +kernel
theorem dX14_keeps_58 : decode cX14_keeps 58 = .ok (.getfield 24, 3) := by decide +kernel
theorem dX14_keeps_61 : decode cX14_keeps 61 = .ok (.bipush 18, 2) := by decide +kernel
theorem dX14_keeps_63 : decode cX14_keeps 63 = .ok (.aload_n 0, 1) := by decide +kernel
theorem dX14_keeps_64 : decode cX14_keeps 64 = .ok (.getfield 444, 3) := by decide +kernel
theorem dX14_keeps_67 : decode cX14_keeps 67 = .ok (.imul, 1) := by decide +kernel
theorem dX14_keeps_68 : decode cX14_keeps 68 = .ok (.iload_n 1, 1) := by decide +kernel
theorem dX14_keeps_69 : decode cX14_keeps 69 = .ok (.iadd, 1) := by decide +kernel
theorem dX14_keeps_70 : decode cX14_keeps 70 = .ok (.aload_n 0, 1) := by decide +kernel
theorem dX14_keeps_71 : decode cX14_keeps 71 = .ok (.getfield 21, 3) := by decide +kernel
theorem dX14_keeps_74 : decode cX14_keeps 74 = .ok (.iload_n 1, 1) := by decide +kernel
theorem dX14_keeps_75 : decode cX14_keeps 75 = .ok (.iaload, 1) := by decide +kernel
theorem dX14_keeps_76 : decode cX14_keeps 76 = .ok (.iastore, 1) := by decide +kernel
theorem dX14_keeps_77 : decode cX14_keeps 77 = .ok (.iinc 1 1, 3) := by decide +kernel
theorem dX14_keeps_80 : decode cX14_keeps 80 = .ok (.goto (-29), 3) := by decide +kernel
theorem dX14_keeps_83 : decode cX14_keeps 83 = .ok (.aload_n 0, 1) := by decide +kernel
theorem dX14_keeps_84 : decode cX14_keeps 84 = .ok (.dup, 1) := by decide +kernel
theorem dX14_keeps_85 : decode cX14_keeps 85 = .ok (.getfield 444, 3) := by decide +kernel
theorem dX14_keeps_88 : decode cX14_keeps 88 = .ok (.iconst 1, 1) := by decide +kernel
theorem dX14_keeps_89 : decode cX14_keeps 89 = .ok (.iadd, 1) := by decide +kernel
theorem dX14_keeps_90 : decode cX14_keeps 90 = .ok (.putfield 444, 3) := by decide +kernel
theorem dX14_keeps_93 : decode cX14_keeps 93 = .ok (.return_, 1) := by decide +kernel
set_option maxRecDepth 100000 in
set_option maxHeartbeats 4000000 in
theorem mX14_keeps_L11 {E : goEv} {X : goX} {G : goG} {Q : State → Prop} {L : goML} {R : goMR} (hc : goCx E X cX14_keeps RX14 2) (hk : goKn E) (hR : X.2.2.2.1 = goRoom 0 0 0 0) (hr : X.2.2.2.2.2.2.2.2.1.sig.returnType = none) (hW : goW G R) : ∀ (n : Nat) (v1 : Int32) (M : goMI) (r0 : goMI), lX14_keeps_11 n v1 M = some r0 → (∀ (d1 : Option Value), goA E X G 0 0 Q 39 [some (.ref 102), d1] [] r0 L R) → goA E X G 0 0 Q 11 [some (.ref 102), some (.int v1)] [] M L R := by
  intro n
  induction n with
  | zero => intro v1 M r0 h; exact nomatch h
  | succ n ih =>
    intro v1 M r0 h kx
    rw [lX14_keeps_11] at h
    refine go_iload1 hc dX14_keeps_11 ?_
    refine go_sipush (v := 270) hc dX14_keeps_12 rfl ?_
    refine go_icmp_ge hc 39 dX14_keeps_15 rfl (fun c15 => ?_) (fun c15 => ?_)
    · replace h := goIfF h c15
      cases h
      exact kx _
    · replace h := goIfT h c15
      refine go_aload0 hc dX14_keeps_18 ?_
      refine go_getR hc lk_RX14_24 dX14_keeps_19 (sh_102 hW) (rf_102_19 hW) ?_
      refine go_iload1 hc dX14_keeps_22 ?_
      refine go_aload0 hc dX14_keeps_23 ?_
      refine go_getR hc lk_RX14_24 dX14_keeps_24 (sh_102 hW) (rf_102_19 hW) ?_
      refine go_iload1 hc dX14_keeps_27 ?_
      refine go_bipush (v := 18) hc dX14_keeps_28 rfl ?_
      refine go_iadd hc dX14_keeps_30 ?_
      replace h := goBind h; obtain ⟨x16, e17, h⟩ := h
      refine go_iald hc dX14_keeps_31 (sh_106 hW) e17 ?_
      replace h := goBind h; obtain ⟨M18, e19, h⟩ := h
      refine go_iast hc dX14_keeps_32 (sh_106 hW) e19 ?_
      refine go_iinc1 (v := (v1 + 1)) hc dX14_keeps_33 rfl ?_
      refine go_goto hc 11 dX14_keeps_36 rfl ?_
      exact ih _ _ _ h kx
set_option maxRecDepth 100000 in
set_option maxHeartbeats 4000000 in
theorem mX14_keeps_L51 {E : goEv} {X : goX} {G : goG} {Q : State → Prop} {L : goML} {R : goMR} (hc : goCx E X cX14_keeps RX14 2) (hk : goKn E) (hR : X.2.2.2.1 = goRoom 0 0 0 0) (hr : X.2.2.2.2.2.2.2.2.1.sig.returnType = none) (hW : goW G R) : ∀ (n : Nat) (v1 : Int32) (M : goMI) (r0 : goMI), lX14_keeps_51 n v1 M = some r0 → (∀ (d1 : Option Value), goA E X G 0 0 Q 83 [some (.ref 102), d1] [] r0 L R) → goA E X G 0 0 Q 51 [some (.ref 102), some (.int v1)] [] M L R := by
  intro n
  induction n with
  | zero => intro v1 M r0 h; exact nomatch h
  | succ n ih =>
    intro v1 M r0 h kx
    rw [lX14_keeps_51] at h
    refine go_iload1 hc dX14_keeps_51 ?_
    refine go_bipush (v := 18) hc dX14_keeps_52 rfl ?_
    refine go_icmp_ge hc 83 dX14_keeps_54 rfl (fun c24 => ?_) (fun c24 => ?_)
    · replace h := goIfF h c24
      cases h
      exact kx _
    · replace h := goIfT h c24
      refine go_aload0 hc dX14_keeps_57 ?_
      refine go_getR hc lk_RX14_24 dX14_keeps_58 (sh_102 hW) (rf_102_19 hW) ?_
      refine go_bipush (v := 18) hc dX14_keeps_61 rfl ?_
      refine go_aload0 hc dX14_keeps_63 ?_
      refine go_getI hc lk_RX14_444 dX14_keeps_64 (sh_102 hW) ?_
      refine go_imul hc dX14_keeps_67 ?_
      refine go_iload1 hc dX14_keeps_68 ?_
      refine go_iadd hc dX14_keeps_69 ?_
      refine go_aload0 hc dX14_keeps_70 ?_
      refine go_getR hc lk_RX14_21 dX14_keeps_71 (sh_102 hW) (rf_102_18 hW) ?_
      refine go_iload1 hc dX14_keeps_74 ?_
      replace h := goBind h; obtain ⟨x25, e26, h⟩ := h
      refine go_iald hc dX14_keeps_75 (sh_105 hW) e26 ?_
      replace h := goBind h; obtain ⟨M27, e28, h⟩ := h
      refine go_iast hc dX14_keeps_76 (sh_106 hW) e28 ?_
      refine go_iinc1 (v := (v1 + 1)) hc dX14_keeps_77 rfl ?_
      refine go_goto hc 51 dX14_keeps_80 rfl ?_
      exact ih _ _ _ h kx
set_option maxRecDepth 100000 in
set_option maxHeartbeats 4000000 in
theorem mX14_keeps {E : goEv} {l : Launch} {G : goG} {N : Nat} {M : goMI} {L : goML} {R : goMR} {r0 : goMI} (hk : goKn E) (hW : goW G R) (h : fX14_keeps N M = some r0) : Met l yX14_keeps (goCd yX14_keeps cX14_keeps 2 none) (goRoom 0 0 0 0) (goPre E [.ref 102] G M L R) (goQv E G r0 L R) 0 0 (goSet E) := by
  refine goMet pl_RX14 hk (lv := [some (.ref 102), none]) rfl (Nat.le_of_ble_eq_true rfl) ?_
  intro X hc hl hR hr hnm
  subst hl
  unfold fX14_keeps at h
  refine go_aload0 hc dX14_keeps_0 ?_
  refine go_getI hc lk_RX14_444 dX14_keeps_1 (sh_102 hW) ?_
  refine go_bipush (v := 16) hc dX14_keeps_4 rfl ?_
  replace h := goBind h; obtain ⟨M11, e12, h⟩ := h
  have k13 : ∀ (d1 : Option Value), goA E X G 0 0 (goMQ X E (goQv E G r0 L R) 0 0) 49 [some (.ref 102), d1] [] M11 L R := by
    intro d1
    refine go_iconst (v := 0) hc dX14_keeps_49 rfl ?_
    refine go_istore1 hc dX14_keeps_50 ?_
    replace h := goBind h; obtain ⟨M30, e29, h⟩ := h
    refine mX14_keeps_L51 hc hk hR hr hW _ _ _ _ e29 (fun d1 => ?_)
    refine go_aload0 hc dX14_keeps_83 ?_
    refine go_dupr hc dX14_keeps_84 ?_
    refine go_getI hc lk_RX14_444 dX14_keeps_85 (sh_102 hW) ?_
    refine go_iconst (v := 1) hc dX14_keeps_88 rfl ?_
    refine go_iadd hc dX14_keeps_89 ?_
    replace h := goNm_x h; obtain ⟨M31, e32, h⟩ := h
    refine go_ptI hc lk_RX14_444 dX14_keeps_90 (sh_102 hW) e32 ?_
    cases h
    exact go_vret hc dX14_keeps_93 hr
  refine go_icmp_ne hc 49 dX14_keeps_6 rfl (fun c14 => ?_) (fun c14 => ?_)
  · replace e12 := goIfF e12 c14
    cases e12
    exact k13 _
  · replace e12 := goIfT e12 c14
    refine go_iconst (v := 0) hc dX14_keeps_9 rfl ?_
    refine go_istore1 hc dX14_keeps_10 ?_
    replace e12 := goBind e12; obtain ⟨M21, e20, e12⟩ := e12
    refine mX14_keeps_L11 hc hk hR hr hW _ _ _ _ e20 (fun d1 => ?_)
    refine go_aload0 hc dX14_keeps_39 ?_
    refine go_dupr hc dX14_keeps_40 ?_
    refine go_getI hc lk_RX14_444 dX14_keeps_41 (sh_102 hW) ?_
    refine go_iconst (v := 1) hc dX14_keeps_44 rfl ?_
    refine go_isub hc dX14_keeps_45 ?_
    replace e12 := goNm_x e12; obtain ⟨M22, e23, e12⟩ := e12
    refine go_ptI hc lk_RX14_444 dX14_keeps_46 (sh_102 hW) e23 ?_
    cases e12
    exact k13 _
theorem dX14_spots_0 : decode cX14_spots 0 = .ok (.iconst 0, 1) := by decide +kernel
theorem dX14_spots_1 : decode cX14_spots 1 = .ok (.istore_n 2, 1) := by decide +kernel
theorem dX14_spots_2 : decode cX14_spots 2 = .ok (.iconst 0, 1) := by decide +kernel
theorem dX14_spots_3 : decode cX14_spots 3 = .ok (.istore_n 3, 1) := by decide +kernel
theorem dX14_spots_4 : decode cX14_spots 4 = .ok (.iload_n 3, 1) := by decide +kernel
theorem dX14_spots_5 : decode cX14_spots 5 = .ok (.bipush 8, 2) := by decide +kernel
theorem dX14_spots_7 : decode cX14_spots 7 = .ok (.if_icmp .ge 23, 3) := by decide +kernel
theorem dX14_spots_10 : decode cX14_spots 10 = .ok (.iload_n 2, 1) := by decide +kernel
theorem dX14_spots_11 : decode cX14_spots 11 = .ok (.aload_n 0, 1) := by decide +kernel
theorem dX14_spots_12 : decode cX14_spots 12 = .ok (.getfield 21, 3) := by decide +kernel
theorem dX14_spots_15 : decode cX14_spots 15 = .ok (.iload_n 1, 1) := by decide +kernel
theorem dX14_spots_16 : decode cX14_spots 16 = .ok (.iload_n 3, 1) := by decide +kernel
theorem dX14_spots_17 : decode cX14_spots 17 = .ok (.iadd, 1) := by decide +kernel
theorem dX14_spots_18 : decode cX14_spots 18 = .ok (.iaload, 1) := by decide +kernel
theorem dX14_spots_19 : decode cX14_spots 19 = .ok (.invokestatic 396, 3) := by decide +kernel
theorem dX14_spots_22 : decode cX14_spots 22 = .ok (.iadd, 1) := by decide +kernel
theorem dX14_spots_23 : decode cX14_spots 23 = .ok (.istore_n 2, 1) := by decide +kernel
theorem dX14_spots_24 : decode cX14_spots 24 = .ok (.iinc 3 1, 3) := by decide +kernel
theorem dX14_spots_27 : decode cX14_spots 27 = .ok (.goto (-23), 3) := by decide +kernel
theorem dX14_spots_30 : decode cX14_spots 30 = .ok (.iload_n 2, 1) := by decide +kernel
theorem dX14_spots_31 : decode cX14_spots 31 = .ok (.ireturn, 1) := by decide +kernel
set_option maxRecDepth 100000 in
set_option maxHeartbeats 4000000 in
theorem mX14_spots_L4 {E : goEv} {X : goX} {G : goG} {Q : State → Prop} {M : goMI} {L : goML} {R : goMR} {N : Nat} {v1 : Int32} (hc : goCx E X cX14_spots RX14 4) (hk : goKn E) (hR : X.2.2.2.1 = goRoom 1 22 0 0) (hr : X.2.2.2.2.2.2.2.2.1.sig.returnType = (Option.some FieldType.int)) (hW : goW G R) : ∀ (n : Nat) (v2 : Int32) (v3 : Int32) (r0 : Int32), lX14_spots_4 N v1 M n v2 v3 = some r0 → (∀ (d0 d1 d3 : Option Value), goA E X G 0 0 Q 30 [d0, d1, some (.int r0), d3] [] M L R) → goA E X G 0 0 Q 4 [some (.ref 102), some (.int v1), some (.int v2), some (.int v3)] [] M L R := by
  intro n
  induction n with
  | zero => intro v2 v3 r0 h; exact nomatch h
  | succ n ih =>
    intro v2 v3 r0 h kx
    rw [lX14_spots_4] at h
    refine go_iload3 hc dX14_spots_4 ?_
    refine go_bipush (v := 8) hc dX14_spots_5 rfl ?_
    refine go_icmp_ge hc 30 dX14_spots_7 rfl (fun c11 => ?_) (fun c11 => ?_)
    · replace h := goIfF h c11
      cases h
      exact kx _ _ _
    · replace h := goIfT h c11
      refine go_iload2 hc dX14_spots_10 ?_
      refine go_aload0 hc dX14_spots_11 ?_
      refine go_getR hc lk_RX14_21 dX14_spots_12 (sh_102 hW) (rf_102_18 hW) ?_
      refine go_iload1 hc dX14_spots_15 ?_
      refine go_iload3 hc dX14_spots_16 ?_
      refine go_iadd hc dX14_spots_17 ?_
      replace h := goBind h; obtain ⟨x12, e13, h⟩ := h
      refine go_iald hc dX14_spots_18 (sh_105 hW) e13 ?_
      replace h := goBind h; obtain ⟨x14, e15, h⟩ := h
      refine go_callSi hc dX14_spots_19 (mX14_bits hk hW e15) ml_RX14_396 yk_X14_bits wst_X14_bits hR rfl rfl rfl (Nat.le_of_ble_eq_true rfl) rfl ?_
      refine go_iadd hc dX14_spots_22 ?_
      replace h := goNm_x h; obtain ⟨x16, e17, h⟩ := h
      refine go_nmI e17 ?_
      refine go_istore2 hc dX14_spots_23 ?_
      refine go_iinc3 (v := (v3 + 1)) hc dX14_spots_24 rfl ?_
      refine go_goto hc 4 dX14_spots_27 rfl ?_
      exact ih _ _ _ h kx
set_option maxRecDepth 100000 in
set_option maxHeartbeats 4000000 in
theorem mX14_spots {E : goEv} {l : Launch} {G : goG} {N : Nat} {M : goMI} {L : goML} {R : goMR} {v1 : Int32} {r0 : Int32} (hk : goKn E) (hW : goW G R) (h : fX14_spots N M v1 = some r0) : Met l yX14_spots (goCd yX14_spots cX14_spots 4 (Option.some FieldType.int)) (goRoom 1 22 0 0) (goPre E [.ref 102, .int v1] G M L R) (goQi E r0 G M L R) 0 0 (goSet E) := by
  refine goMet pl_RX14 hk (lv := [some (.ref 102), some (.int v1), none, none]) rfl (Nat.le_of_ble_eq_true rfl) ?_
  intro X hc hl hR hr hnm
  subst hl
  unfold fX14_spots at h
  refine go_iconst (v := 0) hc dX14_spots_0 rfl ?_
  refine go_istore2 hc dX14_spots_1 ?_
  refine go_iconst (v := 0) hc dX14_spots_2 rfl ?_
  refine go_istore3 hc dX14_spots_3 ?_
  replace h := goBind h; obtain ⟨x19, e18, h⟩ := h
  refine mX14_spots_L4 hc hk hR hr hW _ _ _ _ e18 (fun d0 d1 d3 => ?_)
  refine go_iload2 hc dX14_spots_30 ?_
  cases h
  exact go_iret hc dX14_spots_31 hr
theorem dX14_puts_0 : decode cX14_puts 0 = .ok (.aload_n 0, 1) := by decide +kernel
theorem dX14_puts_1 : decode cX14_puts 1 = .ok (.iload_n 2, 1) := by decide +kernel
theorem dX14_puts_2 : decode cX14_puts 2 = .ok (.invokevirtual 491, 3) := by decide +kernel
theorem dX14_puts_5 : decode cX14_puts 5 = .ok (.ifCond .ne 9, 3) := by decide +kernel
theorem dX14_puts_8 : decode cX14_puts 8 = .ok (.aload_n 0, 1) := by decide +kernel
theorem dX14_puts_9 : decode cX14_puts 9 = .ok (.iconst 1, 1) := by decide +kernel
theorem dX14_puts_10 : decode cX14_puts 10 = .ok (.invokevirtual 607, 3) := by decide +kernel
theorem dX14_puts_13 : decode cX14_puts 13 = .ok (.ireturn, 1) := by decide +kernel
theorem dX14_puts_14 : decode cX14_puts 14 = .ok (.aload_n 0, 1) := by decide +kernel
theorem dX14_puts_15 : decode cX14_puts 15 = .ok (.iload_n 3, 1) := by decide +kernel
theorem dX14_puts_16 : decode cX14_puts 16 = .ok (.invokevirtual 509, 3) := by decide +kernel
theorem dX14_puts_19 : decode cX14_puts 19 = .ok (.ifCond .ne 9, 3) := by decide +kernel
theorem dX14_puts_22 : decode cX14_puts 22 = .ok (.aload_n 0, 1) := by decide +kernel
theorem dX14_puts_23 : decode cX14_puts 23 = .ok (.iconst 2, 1) := by decide +kernel
theorem dX14_puts_24 : decode cX14_puts 24 = .ok (.invokevirtual 607, 3) := by decide +kernel
theorem dX14_puts_27 : decode cX14_puts 27 = .ok (.ireturn, 1) := by decide +kernel
theorem dX14_puts_28 : decode cX14_puts 28 = .ok (.aload_n 0, 1) := by decide +kernel
theorem dX14_puts_29 : decode cX14_puts 29 = .ok (.getfield 21, 3) := by decide +kernel
theorem dX14_puts_32 : decode cX14_puts 32 = .ok (.iload_n 1, 1) := by decide +kernel
theorem dX14_puts_33 : decode cX14_puts 33 = .ok (.iload_n 2, 1) := by decide +kernel
theorem dX14_puts_34 : decode cX14_puts 34 = .ok (.iadd, 1) := by decide +kernel
theorem dX14_puts_35 : decode cX14_puts 35 = .ok (.iaload, 1) := by decide +kernel
theorem dX14_puts_36 : decode cX14_puts 36 = .ok (.iload_n 3, 1) := by decide +kernel
theorem dX14_puts_37 : decode cX14_puts 37 = .ok (.invokestatic 366, 3) := by decide +kernel
theorem dX14_puts_40 : decode cX14_puts 40 = .ok (.iload 4, 2) := by decide +kernel
theorem dX14_puts_42 : decode cX14_puts 42 = .ok (.if_icmp .ne 9, 3) := by decide +kernel
theorem dX14_puts_45 : decode cX14_puts 45 = .ok (.aload_n 0, 1) := by decide +kernel
theorem dX14_puts_46 : decode cX14_puts 46 = .ok (.iconst 5, 1) := by decide +kernel
theorem dX14_puts_47 : decode cX14_puts 47 = .ok (.invokevirtual 607, 3) := by decide +kernel
theorem dX14_puts_50 : decode cX14_puts 50 = .ok (.ireturn, 1) := by decide +kernel
theorem dX14_puts_51 : decode cX14_puts 51 = .ok (.iload 4, 2) := by decide +kernel
theorem dX14_puts_53 : decode cX14_puts 53 = .ok (.ifCond .eq 18, 3) := by decide +kernel
theorem dX14_puts_56 : decode cX14_puts 56 = .ok (.aload_n 0, 1) := by decide +kernel
theorem dX14_puts_57 : decode cX14_puts 57 = .ok (.iload_n 1, 1) := by decide +kernel
theorem dX14_puts_58 : decode cX14_puts 58 = .ok (.invokevirtual 610, 3) := by decide +kernel
theorem dX14_puts_61 : decode cX14_puts 61 = .ok (.iconst 4, 1) := by decide +kernel
theorem dX14_puts_62 : decode cX14_puts 62 = .ok (.if_icmp .ne 9, 3) := by decide +kernel
theorem dX14_puts_65 : decode cX14_puts 65 = .ok (.aload_n 0, 1) := by decide +kernel
theorem dX14_puts_66 : decode cX14_puts 66 = .ok (.iconst 3, 1) := by decide +kernel
theorem dX14_puts_67 : decode cX14_puts 67 = .ok (.invokevirtual 607, 3) := by decide +kernel
theorem dX14_puts_70 : decode cX14_puts 70 = .ok (.ireturn, 1) := by decide +kernel
theorem dX14_puts_71 : decode cX14_puts 71 = .ok (.aload_n 0, 1) := by decide +kernel
theorem dX14_puts_72 : decode cX14_puts 72 = .ok (.invokevirtual 613, 3) := by decide +kernel
theorem dX14_puts_75 : decode cX14_puts 75 = .ok (.aload_n 0, 1) := by decide +kernel
theorem dX14_puts_76 : decode cX14_puts 76 = .ok (.getfield 21, 3) := by decide +kernel
theorem dX14_puts_79 : decode cX14_puts 79 = .ok (.iload_n 1, 1) := by decide +kernel
theorem dX14_puts_80 : decode cX14_puts 80 = .ok (.iload_n 2, 1) := by decide +kernel
theorem dX14_puts_81 : decode cX14_puts 81 = .ok (.iadd, 1) := by decide +kernel
theorem dX14_puts_82 : decode cX14_puts 82 = .ok (.dup2, 1) := by decide +kernel
theorem dX14_puts_83 : decode cX14_puts 83 = .ok (.iaload, 1) := by decide +kernel
theorem dX14_puts_84 : decode cX14_puts 84 = .ok (.iconst 1, 1) := by decide +kernel
theorem dX14_puts_85 : decode cX14_puts 85 = .ok (.iload_n 3, 1) := by decide +kernel
theorem dX14_puts_86 : decode cX14_puts 86 = .ok (.ishl, 1) := by decide +kernel
theorem dX14_puts_87 : decode cX14_puts 87 = .ok (.ixor, 1) := by decide +kernel
theorem dX14_puts_88 : decode cX14_puts 88 = .ok (.iastore, 1) := by decide +kernel
theorem dX14_puts_89 : decode cX14_puts 89 = .ok (.aload_n 0, 1) := by decide +kernel
theorem dX14_puts_90 : decode cX14_puts 90 = .ok (.invokevirtual 616, 3) := by decide +kernel
theorem dX14_puts_93 : decode cX14_puts 93 = .ok (.ireturn, 1) := by decide +kernel
set_option maxRecDepth 100000 in
set_option maxHeartbeats 4000000 in
theorem mX14_puts {E : goEv} {l : Launch} {G : goG} {N : Nat} {M : goMI} {L : goML} {R : goMR} {v1 : Int32} {v2 : Int32} {v3 : Int32} {v4 : Int32} {r0 : Int32} {r1 : goMI} (hk : goKn E) (hW : goW G R) (h : fX14_puts N M R v1 v2 v3 v4 = some (r0, r1)) : Met l yX14_puts (goCd yX14_puts cX14_puts 5 (Option.some FieldType.boolean)) (goRoom 2 45 0 0) (goPre E [.ref 102, .int v1, .int v2, .int v3, .int v4] G M L R) (goQi E r0 G r1 L R) 0 0 (goSet E) := by
  refine goMet pl_RX14 hk (lv := [some (.ref 102), some (.int v1), some (.int v2), some (.int v3), some (.int v4)]) rfl (Nat.le_of_ble_eq_true rfl) ?_
  intro X hc hl hR hr hnm
  subst hl
  unfold fX14_puts at h
  refine go_aload0 hc dX14_puts_0 ?_
  refine go_iload2 hc dX14_puts_1 ?_
  replace h := goBind h; obtain ⟨x11, e12, h⟩ := h
  refine go_callVi hc dX14_puts_2 (mX14_isPlace hk hW e12) ml_RX14_491 yk_X14_isPlace ⟨wim_X14_isPlace, wse_X14_isPlace⟩ hR rfl (sh_102 hW) rfl rfl rfl (Nat.le_of_ble_eq_true rfl) rfl ?_
  refine go_if_ne hc 14 dX14_puts_5 rfl (fun c13 => ?_) (fun c13 => ?_)
  · replace h := goIfF h c13
    refine go_aload0 hc dX14_puts_14 ?_
    refine go_iload3 hc dX14_puts_15 ?_
    replace h := goBind h; obtain ⟨x14, e15, h⟩ := h
    refine go_callVi hc dX14_puts_16 (mX14_isHour hk hW e15) ml_RX14_509 yk_X14_isHour ⟨wim_X14_isHour, wse_X14_isHour⟩ hR rfl (sh_102 hW) rfl rfl rfl (Nat.le_of_ble_eq_true rfl) rfl ?_
    refine go_if_ne hc 28 dX14_puts_19 rfl (fun c16 => ?_) (fun c16 => ?_)
    · replace h := goIfF h c16
      refine go_aload0 hc dX14_puts_28 ?_
      refine go_getR hc lk_RX14_21 dX14_puts_29 (sh_102 hW) (rf_102_18 hW) ?_
      refine go_iload1 hc dX14_puts_32 ?_
      refine go_iload2 hc dX14_puts_33 ?_
      refine go_iadd hc dX14_puts_34 ?_
      replace h := goBind h; obtain ⟨x17, e18, h⟩ := h
      refine go_iald hc dX14_puts_35 (sh_105 hW) e18 ?_
      refine go_iload3 hc dX14_puts_36 ?_
      refine go_callSi hc dX14_puts_37 (mX14_bit hk hW rfl) ml_RX14_366 yk_X14_bit wst_X14_bit hR rfl rfl rfl (Nat.le_of_ble_eq_true rfl) rfl ?_
      refine go_iload4 hc dX14_puts_40 ?_
      refine go_icmp_ne hc 51 dX14_puts_42 rfl (fun c19 => ?_) (fun c19 => ?_)
      · replace h := goIfF h c19
        refine go_iload4 hc dX14_puts_51 ?_
        refine go_if_eq hc 71 dX14_puts_53 rfl (fun c20 => ?_) (fun c20 => ?_)
        · replace h := goIfT h c20
          refine go_aload0 hc dX14_puts_71 ?_
          replace h := goBind h; obtain ⟨M21, e22, h⟩ := h
          refine go_callVv hc dX14_puts_72 (mX14_keeps hk hW e22) ml_RX14_613 yk_X14_keeps ⟨wim_X14_keeps, wse_X14_keeps⟩ hR rfl (sh_102 hW) rfl rfl rfl (Nat.le_of_ble_eq_true rfl) rfl ?_
          refine go_aload0 hc dX14_puts_75 ?_
          refine go_getR hc lk_RX14_21 dX14_puts_76 (sh_102 hW) (rf_102_18 hW) ?_
          refine go_iload1 hc dX14_puts_79 ?_
          refine go_iload2 hc dX14_puts_80 ?_
          refine go_iadd hc dX14_puts_81 ?_
          refine go_dup2 hc dX14_puts_82 ?_
          replace h := goBind h; obtain ⟨x23, e24, h⟩ := h
          refine go_iald hc dX14_puts_83 (sh_105 hW) e24 ?_
          refine go_iconst (v := 1) hc dX14_puts_84 rfl ?_
          refine go_iload3 hc dX14_puts_85 ?_
          refine go_ishl hc dX14_puts_86 ?_
          refine go_ixor hc dX14_puts_87 ?_
          replace h := goBind h; obtain ⟨M25, e26, h⟩ := h
          refine go_iast hc dX14_puts_88 (sh_105 hW) e26 ?_
          refine go_aload0 hc dX14_puts_89 ?_
          replace h := goB2_h h; obtain ⟨x27, M28, e29, h⟩ := h
          refine go_callVi hc dX14_puts_90 (mX14_granted hk hW e29) ml_RX14_616 yk_X14_granted ⟨wim_X14_granted, wse_X14_granted⟩ hR rfl (sh_102 hW) rfl rfl rfl (Nat.le_of_ble_eq_true rfl) rfl ?_
          replace h := goBind h; obtain ⟨x30, e31, h⟩ := h
          obtain ⟨ze31, rfl⟩ := goZr_h e31
          cases h
          exact go_zret hc dX14_puts_93 hr (goZ_n ze31)
        · replace h := goIfF h c20
          refine go_aload0 hc dX14_puts_56 ?_
          refine go_iload1 hc dX14_puts_57 ?_
          replace h := goBind h; obtain ⟨x32, e33, h⟩ := h
          refine go_callVi hc dX14_puts_58 (mX14_spots hk hW e33) ml_RX14_610 yk_X14_spots ⟨wim_X14_spots, wse_X14_spots⟩ hR rfl (sh_102 hW) rfl rfl rfl (Nat.le_of_ble_eq_true rfl) rfl ?_
          refine go_iconst (v := 4) hc dX14_puts_61 rfl ?_
          refine go_icmp_ne hc 71 dX14_puts_62 rfl (fun c34 => ?_) (fun c34 => ?_)
          · replace h := goIfF h c34
            refine go_aload0 hc dX14_puts_71 ?_
            replace h := goBind h; obtain ⟨M35, e36, h⟩ := h
            refine go_callVv hc dX14_puts_72 (mX14_keeps hk hW e36) ml_RX14_613 yk_X14_keeps ⟨wim_X14_keeps, wse_X14_keeps⟩ hR rfl (sh_102 hW) rfl rfl rfl (Nat.le_of_ble_eq_true rfl) rfl ?_
            refine go_aload0 hc dX14_puts_75 ?_
            refine go_getR hc lk_RX14_21 dX14_puts_76 (sh_102 hW) (rf_102_18 hW) ?_
            refine go_iload1 hc dX14_puts_79 ?_
            refine go_iload2 hc dX14_puts_80 ?_
            refine go_iadd hc dX14_puts_81 ?_
            refine go_dup2 hc dX14_puts_82 ?_
            replace h := goBind h; obtain ⟨x37, e38, h⟩ := h
            refine go_iald hc dX14_puts_83 (sh_105 hW) e38 ?_
            refine go_iconst (v := 1) hc dX14_puts_84 rfl ?_
            refine go_iload3 hc dX14_puts_85 ?_
            refine go_ishl hc dX14_puts_86 ?_
            refine go_ixor hc dX14_puts_87 ?_
            replace h := goBind h; obtain ⟨M39, e40, h⟩ := h
            refine go_iast hc dX14_puts_88 (sh_105 hW) e40 ?_
            refine go_aload0 hc dX14_puts_89 ?_
            replace h := goB2_h h; obtain ⟨x41, M42, e43, h⟩ := h
            refine go_callVi hc dX14_puts_90 (mX14_granted hk hW e43) ml_RX14_616 yk_X14_granted ⟨wim_X14_granted, wse_X14_granted⟩ hR rfl (sh_102 hW) rfl rfl rfl (Nat.le_of_ble_eq_true rfl) rfl ?_
            replace h := goBind h; obtain ⟨x44, e45, h⟩ := h
            obtain ⟨ze45, rfl⟩ := goZr_h e45
            cases h
            exact go_zret hc dX14_puts_93 hr (goZ_n ze45)
          · replace h := goIfT h c34
            refine go_aload0 hc dX14_puts_65 ?_
            refine go_iconst (v := 3) hc dX14_puts_66 rfl ?_
            replace h := goB2_h h; obtain ⟨x46, M47, e48, h⟩ := h
            refine go_callVi hc dX14_puts_67 (mX14_denied hk hW e48) ml_RX14_607 yk_X14_denied ⟨wim_X14_denied, wse_X14_denied⟩ hR rfl (sh_102 hW) rfl rfl rfl (Nat.le_of_ble_eq_true rfl) rfl ?_
            replace h := goBind h; obtain ⟨x49, e50, h⟩ := h
            obtain ⟨ze50, rfl⟩ := goZr_h e50
            cases h
            exact go_zret hc dX14_puts_70 hr (goZ_n ze50)
      · replace h := goIfT h c19
        refine go_aload0 hc dX14_puts_45 ?_
        refine go_iconst (v := 5) hc dX14_puts_46 rfl ?_
        replace h := goB2_h h; obtain ⟨x51, M52, e53, h⟩ := h
        refine go_callVi hc dX14_puts_47 (mX14_denied hk hW e53) ml_RX14_607 yk_X14_denied ⟨wim_X14_denied, wse_X14_denied⟩ hR rfl (sh_102 hW) rfl rfl rfl (Nat.le_of_ble_eq_true rfl) rfl ?_
        replace h := goBind h; obtain ⟨x54, e55, h⟩ := h
        obtain ⟨ze55, rfl⟩ := goZr_h e55
        cases h
        exact go_zret hc dX14_puts_50 hr (goZ_n ze55)
    · replace h := goIfT h c16
      refine go_aload0 hc dX14_puts_22 ?_
      refine go_iconst (v := 2) hc dX14_puts_23 rfl ?_
      replace h := goB2_h h; obtain ⟨x56, M57, e58, h⟩ := h
      refine go_callVi hc dX14_puts_24 (mX14_denied hk hW e58) ml_RX14_607 yk_X14_denied ⟨wim_X14_denied, wse_X14_denied⟩ hR rfl (sh_102 hW) rfl rfl rfl (Nat.le_of_ble_eq_true rfl) rfl ?_
      replace h := goBind h; obtain ⟨x59, e60, h⟩ := h
      obtain ⟨ze60, rfl⟩ := goZr_h e60
      cases h
      exact go_zret hc dX14_puts_27 hr (goZ_n ze60)
  · replace h := goIfT h c13
    refine go_aload0 hc dX14_puts_8 ?_
    refine go_iconst (v := 1) hc dX14_puts_9 rfl ?_
    replace h := goB2_h h; obtain ⟨x61, M62, e63, h⟩ := h
    refine go_callVi hc dX14_puts_10 (mX14_denied hk hW e63) ml_RX14_607 yk_X14_denied ⟨wim_X14_denied, wse_X14_denied⟩ hR rfl (sh_102 hW) rfl rfl rfl (Nat.le_of_ble_eq_true rfl) rfl ?_
    replace h := goBind h; obtain ⟨x64, e65, h⟩ := h
    obtain ⟨ze65, rfl⟩ := goZr_h e65
    cases h
    exact go_zret hc dX14_puts_13 hr (goZ_n ze65)
theorem dX14_salt_0 : decode cX14_salt 0 = .ok (.aload_n 0, 1) := by decide +kernel
theorem dX14_salt_1 : decode cX14_salt 1 = .ok (.iconst 0, 1) := by decide +kernel
theorem dX14_salt_2 : decode cX14_salt 2 = .ok (.putfield 66, 3) := by decide +kernel
theorem dX14_salt_5 : decode cX14_salt 5 = .ok (.aload_n 0, 1) := by decide +kernel
theorem dX14_salt_6 : decode cX14_salt 6 = .ok (.iconst 0, 1) := by decide +kernel
theorem dX14_salt_7 : decode cX14_salt 7 = .ok (.iload_n 1, 1) := by decide +kernel
theorem dX14_salt_8 : decode cX14_salt 8 = .ok (.iload_n 2, 1) := by decide +kernel
theorem dX14_salt_9 : decode cX14_salt 9 = .ok (.iload_n 3, 1) := by decide +kernel
theorem dX14_salt_10 : decode cX14_salt 10 = .ok (.invokevirtual 619, 3) := by decide +kernel
theorem dX14_salt_13 : decode cX14_salt 13 = .ok (.ireturn, 1) := by decide +kernel
set_option maxRecDepth 100000 in
set_option maxHeartbeats 4000000 in
theorem mX14_salt {E : goEv} {l : Launch} {G : goG} {N : Nat} {M : goMI} {L : goML} {R : goMR} {v1 : Int32} {v2 : Int32} {v3 : Int32} {r0 : Int32} {r1 : goMI} (hk : goKn E) (hW : goW G R) (h : fX14_salt N M R v1 v2 v3 = some (r0, r1)) : Met l yX14_salt (goCd yX14_salt cX14_salt 4 (Option.some FieldType.boolean)) (goRoom 3 69 0 0) (goPre E [.ref 102, .int v1, .int v2, .int v3] G M L R) (goQi E r0 G r1 L R) 0 0 (goSet E) := by
  refine goMet pl_RX14 hk (lv := [some (.ref 102), some (.int v1), some (.int v2), some (.int v3)]) rfl (Nat.le_of_ble_eq_true rfl) ?_
  intro X hc hl hR hr hnm
  subst hl
  unfold fX14_salt at h
  refine go_aload0 hc dX14_salt_0 ?_
  refine go_iconst (v := 0) hc dX14_salt_1 rfl ?_
  replace h := goNm_x h; obtain ⟨M11, e12, h⟩ := h
  refine go_ptI hc lk_RX14_66 dX14_salt_2 (sh_102 hW) e12 ?_
  refine go_aload0 hc dX14_salt_5 ?_
  refine go_iconst (v := 0) hc dX14_salt_6 rfl ?_
  refine go_iload1 hc dX14_salt_7 ?_
  refine go_iload2 hc dX14_salt_8 ?_
  refine go_iload3 hc dX14_salt_9 ?_
  replace h := goB2_h h; obtain ⟨x13, M14, e15, h⟩ := h
  refine go_callVi hc dX14_salt_10 (mX14_puts hk hW e15) ml_RX14_619 yk_X14_puts ⟨wim_X14_puts, wse_X14_puts⟩ hR rfl (sh_102 hW) rfl rfl rfl (Nat.le_of_ble_eq_true rfl) rfl ?_
  replace h := goBind h; obtain ⟨x16, e17, h⟩ := h
  obtain ⟨ze17, rfl⟩ := goZr_h e17
  cases h
  exact go_zret hc dX14_salt_13 hr (goZ_n ze17)
theorem dX14_dog_0 : decode cX14_dog 0 = .ok (.aload_n 0, 1) := by decide +kernel
theorem dX14_dog_1 : decode cX14_dog 1 = .ok (.iconst 0, 1) := by decide +kernel
theorem dX14_dog_2 : decode cX14_dog 2 = .ok (.putfield 66, 3) := by decide +kernel
theorem dX14_dog_5 : decode cX14_dog 5 = .ok (.aload_n 0, 1) := by decide +kernel
theorem dX14_dog_6 : decode cX14_dog 6 = .ok (.bipush 8, 2) := by decide +kernel
theorem dX14_dog_8 : decode cX14_dog 8 = .ok (.iload_n 1, 1) := by decide +kernel
theorem dX14_dog_9 : decode cX14_dog 9 = .ok (.iload_n 2, 1) := by decide +kernel
theorem dX14_dog_10 : decode cX14_dog 10 = .ok (.iload_n 3, 1) := by decide +kernel
theorem dX14_dog_11 : decode cX14_dog 11 = .ok (.invokevirtual 619, 3) := by decide +kernel
theorem dX14_dog_14 : decode cX14_dog 14 = .ok (.ireturn, 1) := by decide +kernel
set_option maxRecDepth 100000 in
set_option maxHeartbeats 4000000 in
theorem mX14_dog {E : goEv} {l : Launch} {G : goG} {N : Nat} {M : goMI} {L : goML} {R : goMR} {v1 : Int32} {v2 : Int32} {v3 : Int32} {r0 : Int32} {r1 : goMI} (hk : goKn E) (hW : goW G R) (h : fX14_dog N M R v1 v2 v3 = some (r0, r1)) : Met l yX14_dog (goCd yX14_dog cX14_dog 4 (Option.some FieldType.boolean)) (goRoom 3 69 0 0) (goPre E [.ref 102, .int v1, .int v2, .int v3] G M L R) (goQi E r0 G r1 L R) 0 0 (goSet E) := by
  refine goMet pl_RX14 hk (lv := [some (.ref 102), some (.int v1), some (.int v2), some (.int v3)]) rfl (Nat.le_of_ble_eq_true rfl) ?_
  intro X hc hl hR hr hnm
  subst hl
  unfold fX14_dog at h
  refine go_aload0 hc dX14_dog_0 ?_
  refine go_iconst (v := 0) hc dX14_dog_1 rfl ?_
  replace h := goNm_x h; obtain ⟨M11, e12, h⟩ := h
  refine go_ptI hc lk_RX14_66 dX14_dog_2 (sh_102 hW) e12 ?_
  refine go_aload0 hc dX14_dog_5 ?_
  refine go_bipush (v := 8) hc dX14_dog_6 rfl ?_
  refine go_iload1 hc dX14_dog_8 ?_
  refine go_iload2 hc dX14_dog_9 ?_
  refine go_iload3 hc dX14_dog_10 ?_
  replace h := goB2_h h; obtain ⟨x13, M14, e15, h⟩ := h
  refine go_callVi hc dX14_dog_11 (mX14_puts hk hW e15) ml_RX14_619 yk_X14_puts ⟨wim_X14_puts, wse_X14_puts⟩ hR rfl (sh_102 hW) rfl rfl rfl (Nat.le_of_ble_eq_true rfl) rfl ?_
  replace h := goBind h; obtain ⟨x16, e17, h⟩ := h
  obtain ⟨ze17, rfl⟩ := goZr_h e17
  cases h
  exact go_zret hc dX14_dog_14 hr (goZ_n ze17)
theorem dX14_hedge_0 : decode cX14_hedge 0 = .ok (.aload_n 0, 1) := by decide +kernel
theorem dX14_hedge_1 : decode cX14_hedge 1 = .ok (.iconst 0, 1) := by decide +kernel
theorem dX14_hedge_2 : decode cX14_hedge 2 = .ok (.putfield 66, 3) := by decide +kernel
theorem dX14_hedge_5 : decode cX14_hedge 5 = .ok (.aload_n 0, 1) := by decide +kernel
theorem dX14_hedge_6 : decode cX14_hedge 6 = .ok (.getfield 442, 3) := by decide +kernel
theorem dX14_hedge_9 : decode cX14_hedge 9 = .ok (.ifnull 18, 3) := by decide +kernel
theorem dX14_hedge_12 : decode cX14_hedge 12 = .ok (.iload_n 1, 1) := by decide +kernel
theorem dX14_hedge_13 : decode cX14_hedge 13 = .ok (.ifCond .lt 14, 3) := by decide +kernel
theorem dX14_hedge_16 : decode cX14_hedge 16 = .ok (.iload_n 1, 1) := by decide +kernel
theorem dX14_hedge_17 : decode cX14_hedge 17 = .ok (.aload_n 0, 1) := by decide +kernel
theorem dX14_hedge_18 : decode cX14_hedge 18 = .ok (.getfield 442, 3) := by decide +kernel
theorem dX14_hedge_21 : decode cX14_hedge 21 = .ok (.getfield 306, 3) := by decide +kernel
theorem dX14_hedge_24 : decode cX14_hedge 24 = .ok (.if_icmp .lt 9, 3) := by decide +kernel
theorem dX14_hedge_27 : decode cX14_hedge 27 = .ok (.aload_n 0, 1) := by decide +kernel
theorem dX14_hedge_28 : decode cX14_hedge 28 = .ok (.iconst 1, 1) := by decide +kernel
theorem dX14_hedge_29 : decode cX14_hedge 29 = .ok (.invokevirtual 607, 3) := by decide +kernel
theorem dX14_hedge_32 : decode cX14_hedge 32 = .ok (.ireturn, 1) := by decide +kernel
theorem dX14_hedge_33 : decode cX14_hedge 33 = .ok (.aload_n 0, 1) := by decide +kernel
theorem dX14_hedge_34 : decode cX14_hedge 34 = .ok (.getfield 21, 3) := by decide +kernel
theorem dX14_hedge_37 : decode cX14_hedge 37 = .ok (.bipush 16, 2) := by decide +kernel
theorem dX14_hedge_39 : decode cX14_hedge 39 = .ok (.iaload, 1) := by decide +kernel
theorem dX14_hedge_40 : decode cX14_hedge 40 = .ok (.iload_n 1, 1) := by decide +kernel
theorem dX14_hedge_41 : decode cX14_hedge 41 = .ok (.invokestatic 366, 3) := by decide +kernel
theorem dX14_hedge_44 : decode cX14_hedge 44 = .ok (.iload_n 2, 1) := by decide +kernel
theorem dX14_hedge_45 : decode cX14_hedge 45 = .ok (.if_icmp .ne 9, 3) := by decide +kernel
theorem dX14_hedge_48 : decode cX14_hedge 48 = .ok (.aload_n 0, 1) := by decide +kernel
theorem dX14_hedge_49 : decode cX14_hedge 49 = .ok (.iconst 5, 1) := by decide +kernel
theorem dX14_hedge_50 : decode cX14_hedge 50 = .ok (.invokevirtual 607, 3) := by decide +kernel
theorem dX14_hedge_53 : decode cX14_hedge 53 = .ok (.ireturn, 1) := by decide +kernel
theorem dX14_hedge_54 : decode cX14_hedge 54 = .ok (.aload_n 0, 1) := by decide +kernel
theorem dX14_hedge_55 : decode cX14_hedge 55 = .ok (.invokevirtual 613, 3) := by decide +kernel
theorem dX14_hedge_58 : decode cX14_hedge 58 = .ok (.aload_n 0, 1) := by decide +kernel
theorem dX14_hedge_59 : decode cX14_hedge 59 = .ok (.getfield 21, 3) := by decide +kernel
theorem dX14_hedge_62 : decode cX14_hedge 62 = .ok (.bipush 16, 2) := by decide +kernel
theorem dX14_hedge_64 : decode cX14_hedge 64 = .ok (.dup2, 1) := by decide +kernel
theorem dX14_hedge_65 : decode cX14_hedge 65 = .ok (.iaload, 1) := by decide +kernel
theorem dX14_hedge_66 : decode cX14_hedge 66 = .ok (.iconst 1, 1) := by decide +kernel
theorem dX14_hedge_67 : decode cX14_hedge 67 = .ok (.iload_n 1, 1) := by decide +kernel
theorem dX14_hedge_68 : decode cX14_hedge 68 = .ok (.ishl, 1) := by decide +kernel
theorem dX14_hedge_69 : decode cX14_hedge 69 = .ok (.ixor, 1) := by decide +kernel
theorem dX14_hedge_70 : decode cX14_hedge 70 = .ok (.iastore, 1) := by decide +kernel
theorem dX14_hedge_71 : decode cX14_hedge 71 = .ok (.aload_n 0, 1) := by decide +kernel
theorem dX14_hedge_72 : decode cX14_hedge 72 = .ok (.invokevirtual 616, 3) := by decide +kernel
theorem dX14_hedge_75 : decode cX14_hedge 75 = .ok (.ireturn, 1) := by decide +kernel
set_option maxRecDepth 100000 in
set_option maxHeartbeats 4000000 in
theorem mX14_hedge {E : goEv} {l : Launch} {G : goG} {N : Nat} {M : goMI} {L : goML} {R : goMR} {v1 : Int32} {v2 : Int32} {r0 : Int32} {r1 : goMI} (hk : goKn E) (hW : goW G R) (h : fX14_hedge N M R v1 v2 = some (r0, r1)) : Met l yX14_hedge (goCd yX14_hedge cX14_hedge 3 (Option.some FieldType.boolean)) (goRoom 2 42 0 0) (goPre E [.ref 102, .int v1, .int v2] G M L R) (goQi E r0 G r1 L R) 0 0 (goSet E) := by
  refine goMet pl_RX14 hk (lv := [some (.ref 102), some (.int v1), some (.int v2)]) rfl (Nat.le_of_ble_eq_true rfl) ?_
  intro X hc hl hR hr hnm
  subst hl
  unfold fX14_hedge at h
  refine go_aload0 hc dX14_hedge_0 ?_
  refine go_iconst (v := 0) hc dX14_hedge_1 rfl ?_
  replace h := goNm_x h; obtain ⟨M11, e12, h⟩ := h
  refine go_ptI hc lk_RX14_66 dX14_hedge_2 (sh_102 hW) e12 ?_
  refine go_aload0 hc dX14_hedge_5 ?_
  refine go_getQ hc lk_RX14_442 dX14_hedge_6 (sh_102 hW) ?_
  refine go_ifnull hc 27 dX14_hedge_9 rfl (fun c13 => ?_) (fun _ c13 => ?_)
  · replace h := goIfT h c13
    refine go_aload0 hc dX14_hedge_27 ?_
    refine go_iconst (v := 1) hc dX14_hedge_28 rfl ?_
    replace h := goB2_h h; obtain ⟨x14, M15, e16, h⟩ := h
    refine go_callVi hc dX14_hedge_29 (mX14_denied hk hW e16) ml_RX14_607 yk_X14_denied ⟨wim_X14_denied, wse_X14_denied⟩ hR rfl (sh_102 hW) rfl rfl rfl (Nat.le_of_ble_eq_true rfl) rfl ?_
    replace h := goBind h; obtain ⟨x17, e18, h⟩ := h
    obtain ⟨ze18, rfl⟩ := goZr_h e18
    cases h
    exact go_zret hc dX14_hedge_32 hr (goZ_n ze18)
  · replace h := goIfF h (goNn c13)
    refine go_iload1 hc dX14_hedge_12 ?_
    refine go_if_lt hc 27 dX14_hedge_13 rfl (fun c19 => ?_) (fun c19 => ?_)
    · replace h := goIfF h c19
      refine go_aload0 hc dX14_hedge_27 ?_
      refine go_iconst (v := 1) hc dX14_hedge_28 rfl ?_
      replace h := goB2_h h; obtain ⟨x20, M21, e22, h⟩ := h
      refine go_callVi hc dX14_hedge_29 (mX14_denied hk hW e22) ml_RX14_607 yk_X14_denied ⟨wim_X14_denied, wse_X14_denied⟩ hR rfl (sh_102 hW) rfl rfl rfl (Nat.le_of_ble_eq_true rfl) rfl ?_
      replace h := goBind h; obtain ⟨x23, e24, h⟩ := h
      obtain ⟨ze24, rfl⟩ := goZr_h e24
      cases h
      exact go_zret hc dX14_hedge_32 hr (goZ_n ze24)
    · replace h := goIfT h c19
      refine go_iload1 hc dX14_hedge_16 ?_
      refine go_aload0 hc dX14_hedge_17 ?_
      replace h := goBind h; obtain ⟨b25, e26, h⟩ := h
      refine go_getR hc lk_RX14_442 dX14_hedge_18 (sh_102 hW) e26 ?_
      refine go_getI hc lk_RX14_306 dX14_hedge_21 (shM_0 (goW_M3 hW e26)) ?_
      refine go_icmp_lt hc 33 dX14_hedge_24 rfl (fun c27 => ?_) (fun c27 => ?_)
      · replace h := goIfF h c27
        refine go_aload0 hc dX14_hedge_33 ?_
        refine go_getR hc lk_RX14_21 dX14_hedge_34 (sh_102 hW) (rf_102_18 hW) ?_
        refine go_bipush (v := 16) hc dX14_hedge_37 rfl ?_
        replace h := goBind h; obtain ⟨x28, e29, h⟩ := h
        refine go_iald hc dX14_hedge_39 (sh_105 hW) e29 ?_
        refine go_iload1 hc dX14_hedge_40 ?_
        refine go_callSi hc dX14_hedge_41 (mX14_bit hk hW rfl) ml_RX14_366 yk_X14_bit wst_X14_bit hR rfl rfl rfl (Nat.le_of_ble_eq_true rfl) rfl ?_
        refine go_iload2 hc dX14_hedge_44 ?_
        refine go_icmp_ne hc 54 dX14_hedge_45 rfl (fun c30 => ?_) (fun c30 => ?_)
        · replace h := goIfF h c30
          refine go_aload0 hc dX14_hedge_54 ?_
          replace h := goBind h; obtain ⟨M31, e32, h⟩ := h
          refine go_callVv hc dX14_hedge_55 (mX14_keeps hk hW e32) ml_RX14_613 yk_X14_keeps ⟨wim_X14_keeps, wse_X14_keeps⟩ hR rfl (sh_102 hW) rfl rfl rfl (Nat.le_of_ble_eq_true rfl) rfl ?_
          refine go_aload0 hc dX14_hedge_58 ?_
          refine go_getR hc lk_RX14_21 dX14_hedge_59 (sh_102 hW) (rf_102_18 hW) ?_
          refine go_bipush (v := 16) hc dX14_hedge_62 rfl ?_
          refine go_dup2 hc dX14_hedge_64 ?_
          replace h := goBind h; obtain ⟨x33, e34, h⟩ := h
          refine go_iald hc dX14_hedge_65 (sh_105 hW) e34 ?_
          refine go_iconst (v := 1) hc dX14_hedge_66 rfl ?_
          refine go_iload1 hc dX14_hedge_67 ?_
          refine go_ishl hc dX14_hedge_68 ?_
          refine go_ixor hc dX14_hedge_69 ?_
          replace h := goBind h; obtain ⟨M35, e36, h⟩ := h
          refine go_iast hc dX14_hedge_70 (sh_105 hW) e36 ?_
          refine go_aload0 hc dX14_hedge_71 ?_
          replace h := goB2_h h; obtain ⟨x37, M38, e39, h⟩ := h
          refine go_callVi hc dX14_hedge_72 (mX14_granted hk hW e39) ml_RX14_616 yk_X14_granted ⟨wim_X14_granted, wse_X14_granted⟩ hR rfl (sh_102 hW) rfl rfl rfl (Nat.le_of_ble_eq_true rfl) rfl ?_
          replace h := goBind h; obtain ⟨x40, e41, h⟩ := h
          obtain ⟨ze41, rfl⟩ := goZr_h e41
          cases h
          exact go_zret hc dX14_hedge_75 hr (goZ_n ze41)
        · replace h := goIfT h c30
          refine go_aload0 hc dX14_hedge_48 ?_
          refine go_iconst (v := 5) hc dX14_hedge_49 rfl ?_
          replace h := goB2_h h; obtain ⟨x42, M43, e44, h⟩ := h
          refine go_callVi hc dX14_hedge_50 (mX14_denied hk hW e44) ml_RX14_607 yk_X14_denied ⟨wim_X14_denied, wse_X14_denied⟩ hR rfl (sh_102 hW) rfl rfl rfl (Nat.le_of_ble_eq_true rfl) rfl ?_
          replace h := goBind h; obtain ⟨x45, e46, h⟩ := h
          obtain ⟨ze46, rfl⟩ := goZr_h e46
          cases h
          exact go_zret hc dX14_hedge_53 hr (goZ_n ze46)
      · replace h := goIfT h c27
        refine go_aload0 hc dX14_hedge_27 ?_
        refine go_iconst (v := 1) hc dX14_hedge_28 rfl ?_
        replace h := goB2_h h; obtain ⟨x47, M48, e49, h⟩ := h
        refine go_callVi hc dX14_hedge_29 (mX14_denied hk hW e49) ml_RX14_607 yk_X14_denied ⟨wim_X14_denied, wse_X14_denied⟩ hR rfl (sh_102 hW) rfl rfl rfl (Nat.le_of_ble_eq_true rfl) rfl ?_
        replace h := goBind h; obtain ⟨x50, e51, h⟩ := h
        obtain ⟨ze51, rfl⟩ := goZr_h e51
        cases h
        exact go_zret hc dX14_hedge_32 hr (goZ_n ze51)
theorem dX14_hear_0 : decode cX14_hear 0 = .ok (.aload_n 0, 1) := by decide +kernel
theorem dX14_hear_1 : decode cX14_hear 1 = .ok (.iconst 0, 1) := by decide +kernel
theorem dX14_hear_2 : decode cX14_hear 2 = .ok (.putfield 66, 3) := by decide +kernel
theorem dX14_hear_5 : decode cX14_hear 5 = .ok (.aload_n 0, 1) := by decide +kernel
theorem dX14_hear_6 : decode cX14_hear 6 = .ok (.iload_n 1, 1) := by decide +kernel
theorem dX14_hear_7 : decode cX14_hear 7 = .ok (.invokevirtual 497, 3) := by decide +kernel
theorem dX14_hear_10 : decode cX14_hear 10 = .ok (.ifCond .ne 9, 3) := by decide +kernel
theorem dX14_hear_13 : decode cX14_hear 13 = .ok (.aload_n 0, 1) := by decide +kernel
theorem dX14_hear_14 : decode cX14_hear 14 = .ok (.iconst 1, 1) := by decide +kernel
theorem dX14_hear_15 : decode cX14_hear 15 = .ok (.invokevirtual 607, 3) := by decide +kernel
theorem dX14_hear_18 : decode cX14_hear 18 = .ok (.ireturn, 1) := by decide +kernel
theorem dX14_hear_19 : decode cX14_hear 19 = .ok (.aload_n 0, 1) := by decide +kernel
theorem dX14_hear_20 : decode cX14_hear 20 = .ok (.iload_n 1, 1) := by decide +kernel
theorem dX14_hear_21 : decode cX14_hear 21 = .ok (.invokevirtual 500, 3) := by decide +kernel
theorem dX14_hear_24 : decode cX14_hear 24 = .ok (.iload_n 2, 1) := by decide +kernel
theorem dX14_hear_25 : decode cX14_hear 25 = .ok (.if_icmp .ne 9, 3) := by decide +kernel
theorem dX14_hear_28 : decode cX14_hear 28 = .ok (.aload_n 0, 1) := by decide +kernel
theorem dX14_hear_29 : decode cX14_hear 29 = .ok (.iconst 5, 1) := by decide +kernel
theorem dX14_hear_30 : decode cX14_hear 30 = .ok (.invokevirtual 607, 3) := by decide +kernel
theorem dX14_hear_33 : decode cX14_hear 33 = .ok (.ireturn, 1) := by decide +kernel
theorem dX14_hear_34 : decode cX14_hear 34 = .ok (.aload_n 0, 1) := by decide +kernel
theorem dX14_hear_35 : decode cX14_hear 35 = .ok (.invokevirtual 613, 3) := by decide +kernel
theorem dX14_hear_38 : decode cX14_hear 38 = .ok (.aload_n 0, 1) := by decide +kernel
theorem dX14_hear_39 : decode cX14_hear 39 = .ok (.getfield 21, 3) := by decide +kernel
theorem dX14_hear_42 : decode cX14_hear 42 = .ok (.bipush 17, 2) := by decide +kernel
theorem dX14_hear_44 : decode cX14_hear 44 = .ok (.dup2, 1) := by decide +kernel
theorem dX14_hear_45 : decode cX14_hear 45 = .ok (.iaload, 1) := by decide +kernel
theorem dX14_hear_46 : decode cX14_hear 46 = .ok (.iconst 1, 1) := by decide +kernel
theorem dX14_hear_47 : decode cX14_hear 47 = .ok (.iload_n 1, 1) := by decide +kernel
theorem dX14_hear_48 : decode cX14_hear 48 = .ok (.ishl, 1) := by decide +kernel
theorem dX14_hear_49 : decode cX14_hear 49 = .ok (.ixor, 1) := by decide +kernel
theorem dX14_hear_50 : decode cX14_hear 50 = .ok (.iastore, 1) := by decide +kernel
theorem dX14_hear_51 : decode cX14_hear 51 = .ok (.aload_n 0, 1) := by decide +kernel
theorem dX14_hear_52 : decode cX14_hear 52 = .ok (.invokevirtual 616, 3) := by decide +kernel
theorem dX14_hear_55 : decode cX14_hear 55 = .ok (.ireturn, 1) := by decide +kernel
set_option maxRecDepth 100000 in
set_option maxHeartbeats 4000000 in
theorem mX14_hear {E : goEv} {l : Launch} {G : goG} {N : Nat} {M : goMI} {L : goML} {R : goMR} {v1 : Int32} {v2 : Int32} {r0 : Int32} {r1 : goMI} (hk : goKn E) (hW : goW G R) (h : fX14_hear N M R v1 v2 = some (r0, r1)) : Met l yX14_hear (goCd yX14_hear cX14_hear 3 (Option.some FieldType.boolean)) (goRoom 2 42 0 0) (goPre E [.ref 102, .int v1, .int v2] G M L R) (goQi E r0 G r1 L R) 0 0 (goSet E) := by
  refine goMet pl_RX14 hk (lv := [some (.ref 102), some (.int v1), some (.int v2)]) rfl (Nat.le_of_ble_eq_true rfl) ?_
  intro X hc hl hR hr hnm
  subst hl
  unfold fX14_hear at h
  refine go_aload0 hc dX14_hear_0 ?_
  refine go_iconst (v := 0) hc dX14_hear_1 rfl ?_
  replace h := goNm_x h; obtain ⟨M11, e12, h⟩ := h
  refine go_ptI hc lk_RX14_66 dX14_hear_2 (sh_102 hW) e12 ?_
  refine go_aload0 hc dX14_hear_5 ?_
  refine go_iload1 hc dX14_hear_6 ?_
  replace h := goBind h; obtain ⟨x13, e14, h⟩ := h
  refine go_callVi hc dX14_hear_7 (mX14_isGoat hk hW e14) ml_RX14_497 yk_X14_isGoat ⟨wim_X14_isGoat, wse_X14_isGoat⟩ hR rfl (sh_102 hW) rfl rfl rfl (Nat.le_of_ble_eq_true rfl) rfl ?_
  refine go_if_ne hc 19 dX14_hear_10 rfl (fun c15 => ?_) (fun c15 => ?_)
  · replace h := goIfF h c15
    refine go_aload0 hc dX14_hear_19 ?_
    refine go_iload1 hc dX14_hear_20 ?_
    replace h := goBind h; obtain ⟨x16, e17, h⟩ := h
    refine go_callVi hc dX14_hear_21 (mX14_isHeard hk hW e17) ml_RX14_500 yk_X14_isHeard ⟨wim_X14_isHeard, wse_X14_isHeard⟩ hR rfl (sh_102 hW) rfl rfl rfl (Nat.le_of_ble_eq_true rfl) rfl ?_
    refine go_iload2 hc dX14_hear_24 ?_
    refine go_icmp_ne hc 34 dX14_hear_25 rfl (fun c18 => ?_) (fun c18 => ?_)
    · replace h := goIfF h c18
      refine go_aload0 hc dX14_hear_34 ?_
      replace h := goBind h; obtain ⟨M19, e20, h⟩ := h
      refine go_callVv hc dX14_hear_35 (mX14_keeps hk hW e20) ml_RX14_613 yk_X14_keeps ⟨wim_X14_keeps, wse_X14_keeps⟩ hR rfl (sh_102 hW) rfl rfl rfl (Nat.le_of_ble_eq_true rfl) rfl ?_
      refine go_aload0 hc dX14_hear_38 ?_
      refine go_getR hc lk_RX14_21 dX14_hear_39 (sh_102 hW) (rf_102_18 hW) ?_
      refine go_bipush (v := 17) hc dX14_hear_42 rfl ?_
      refine go_dup2 hc dX14_hear_44 ?_
      replace h := goBind h; obtain ⟨x21, e22, h⟩ := h
      refine go_iald hc dX14_hear_45 (sh_105 hW) e22 ?_
      refine go_iconst (v := 1) hc dX14_hear_46 rfl ?_
      refine go_iload1 hc dX14_hear_47 ?_
      refine go_ishl hc dX14_hear_48 ?_
      refine go_ixor hc dX14_hear_49 ?_
      replace h := goBind h; obtain ⟨M23, e24, h⟩ := h
      refine go_iast hc dX14_hear_50 (sh_105 hW) e24 ?_
      refine go_aload0 hc dX14_hear_51 ?_
      replace h := goB2_h h; obtain ⟨x25, M26, e27, h⟩ := h
      refine go_callVi hc dX14_hear_52 (mX14_granted hk hW e27) ml_RX14_616 yk_X14_granted ⟨wim_X14_granted, wse_X14_granted⟩ hR rfl (sh_102 hW) rfl rfl rfl (Nat.le_of_ble_eq_true rfl) rfl ?_
      replace h := goBind h; obtain ⟨x28, e29, h⟩ := h
      obtain ⟨ze29, rfl⟩ := goZr_h e29
      cases h
      exact go_zret hc dX14_hear_55 hr (goZ_n ze29)
    · replace h := goIfT h c18
      refine go_aload0 hc dX14_hear_28 ?_
      refine go_iconst (v := 5) hc dX14_hear_29 rfl ?_
      replace h := goB2_h h; obtain ⟨x30, M31, e32, h⟩ := h
      refine go_callVi hc dX14_hear_30 (mX14_denied hk hW e32) ml_RX14_607 yk_X14_denied ⟨wim_X14_denied, wse_X14_denied⟩ hR rfl (sh_102 hW) rfl rfl rfl (Nat.le_of_ble_eq_true rfl) rfl ?_
      replace h := goBind h; obtain ⟨x33, e34, h⟩ := h
      obtain ⟨ze34, rfl⟩ := goZr_h e34
      cases h
      exact go_zret hc dX14_hear_33 hr (goZ_n ze34)
  · replace h := goIfT h c15
    refine go_aload0 hc dX14_hear_13 ?_
    refine go_iconst (v := 1) hc dX14_hear_14 rfl ?_
    replace h := goB2_h h; obtain ⟨x35, M36, e37, h⟩ := h
    refine go_callVi hc dX14_hear_15 (mX14_denied hk hW e37) ml_RX14_607 yk_X14_denied ⟨wim_X14_denied, wse_X14_denied⟩ hR rfl (sh_102 hW) rfl rfl rfl (Nat.le_of_ble_eq_true rfl) rfl ?_
    replace h := goBind h; obtain ⟨x38, e39, h⟩ := h
    obtain ⟨ze39, rfl⟩ := goZr_h e39
    cases h
    exact go_zret hc dX14_hear_18 hr (goZ_n ze39)
theorem dX14_undo_0 : decode cX14_undo 0 = .ok (.aload_n 0, 1) := by decide +kernel
theorem dX14_undo_1 : decode cX14_undo 1 = .ok (.iconst 0, 1) := by decide +kernel
theorem dX14_undo_2 : decode cX14_undo 2 = .ok (.putfield 66, 3) := by decide +kernel
theorem dX14_undo_5 : decode cX14_undo 5 = .ok (.aload_n 0, 1) := by decide +kernel
theorem dX14_undo_6 : decode cX14_undo 6 = .ok (.getfield 442, 3) := by decide +kernel
theorem dX14_undo_9 : decode cX14_undo 9 = .ok (.ifnull 10, 3) := by decide +kernel
theorem dX14_undo_12 : decode cX14_undo 12 = .ok (.aload_n 0, 1) := by decide +kernel
theorem dX14_undo_13 : decode cX14_undo 13 = .ok (.getfield 444, 3) := by decide +kernel
theorem dX14_undo_16 : decode cX14_undo 16 = .ok (.ifCond .ne 10, 3) := by decide +kernel
theorem dX14_undo_19 : decode cX14_undo 19 = .ok (.aload_n 0, 1) := by decide +kernel
theorem dX14_undo_20 : decode cX14_undo 20 = .ok (.bipush 6, 2) := by decide +kernel
theorem dX14_undo_22 : decode cX14_undo 22 = .ok (.invokevirtual 607, 3) := by decide +kernel
theorem dX14_undo_25 : decode cX14_undo 25 = .ok (.ireturn, 1) := by decide +kernel
theorem dX14_undo_26 : decode cX14_undo 26 = .ok (.aload_n 0, 1) := by decide +kernel
theorem dX14_undo_27 : decode cX14_undo 27 = .ok (.dup, 1) := by decide +kernel
theorem dX14_undo_28 : decode cX14_undo 28 = .ok (.getfield 444, 3) := by decide +kernel
theorem dX14_undo_31 : decode cX14_undo 31 = .ok (.iconst 1, 1) := by decide +kernel
theorem dX14_undo_32 : decode cX14_undo 32 = .ok (.isub, 1) := by decide +kernel
theorem dX14_undo_33 : decode cX14_undo 33 = .ok (.putfield 444, 3) := by decide +kernel
theorem dX14_undo_36 : decode cX14_undo 36 = .ok (.iconst 0, 1) := by decide +kernel
theorem dX14_undo_37 : decode cX14_undo 37 = .ok (.istore_n 1, 1) := by decide +kernel
theorem dX14_undo_38 : decode cX14_undo 38 = .ok (.iload_n 1, 1) := by decide +kernel
theorem dX14_undo_39 : decode cX14_undo 39 = .ok (.bipush 18, 2) := by decide +kernel
theorem dX14_undo_41 : decode cX14_undo 41 = .ok (.if_icmp .ge 29, 3) := by decide +kernel
theorem dX14_undo_44 : decode cX14_undo 44 = .ok (.aload_n 0, 1) := by decide +kernel
theorem dX14_undo_45 : decode cX14_undo 45 = .ok (.getfield 21, 3) := by decide +kernel
theorem dX14_undo_48 : decode cX14_undo 48 = .ok (.iload_n 1, 1) := by decide +kernel
theorem dX14_undo_49 : decode cX14_undo 49 = .ok (.aload_n 0, 1) := by decide +kernel
theorem dX14_undo_50 : decode cX14_undo 50 = .ok (.getfield 24, 3) := by decide +kernel
theorem dX14_undo_53 : decode cX14_undo 53 = .ok (.bipush 18, 2) := by decide +kernel
theorem dX14_undo_55 : decode cX14_undo 55 = .ok (.aload_n 0, 1) := by decide +kernel
theorem dX14_undo_56 : decode cX14_undo 56 = .ok (.getfield 444, 3) := by decide +kernel
theorem dX14_undo_59 : decode cX14_undo 59 = .ok (.imul, 1) := by decide +kernel
theorem dX14_undo_60 : decode cX14_undo 60 = .ok (.iload_n 1, 1) := by decide +kernel
theorem dX14_undo_61 : decode cX14_undo 61 = .ok (.iadd, 1) := by decide +kernel
theorem dX14_undo_62 : decode cX14_undo 62 = .ok (.iaload, 1) := by decide +kernel
theorem dX14_undo_63 : decode cX14_undo 63 = .ok (.iastore, 1) := by decide +kernel
theorem dX14_undo_64 : decode cX14_undo 64 = .ok (.iinc 1 1, 3) := by decide +kernel
theorem dX14_undo_67 : decode cX14_undo 67 = .ok (.goto (-29), 3) := by decide +kernel
theorem dX14_undo_70 : decode cX14_undo 70 = .ok (.aload_n 0, 1) := by decide +kernel
theorem dX14_undo_71 : decode cX14_undo 71 = .ok (.invokevirtual 616, 3) := by decide +kernel
theorem dX14_undo_74 : decode cX14_undo 74 = .ok (.ireturn, 1) := by decide +kernel
set_option maxRecDepth 100000 in
set_option maxHeartbeats 4000000 in
theorem mX14_undo_L38 {E : goEv} {X : goX} {G : goG} {Q : State → Prop} {L : goML} {R : goMR} (hc : goCx E X cX14_undo RX14 2) (hk : goKn E) (hR : X.2.2.2.1 = goRoom 2 42 0 0) (hr : X.2.2.2.2.2.2.2.2.1.sig.returnType = (Option.some FieldType.boolean)) (hW : goW G R) : ∀ (n : Nat) (v1 : Int32) (M : goMI) (r0 : goMI), lX14_undo_38 n v1 M = some r0 → (∀ (d1 : Option Value), goA E X G 0 0 Q 70 [some (.ref 102), d1] [] r0 L R) → goA E X G 0 0 Q 38 [some (.ref 102), some (.int v1)] [] M L R := by
  intro n
  induction n with
  | zero => intro v1 M r0 h; exact nomatch h
  | succ n ih =>
    intro v1 M r0 h kx
    rw [lX14_undo_38] at h
    refine go_iload1 hc dX14_undo_38 ?_
    refine go_bipush (v := 18) hc dX14_undo_39 rfl ?_
    refine go_icmp_ge hc 70 dX14_undo_41 rfl (fun c22 => ?_) (fun c22 => ?_)
    · replace h := goIfF h c22
      cases h
      exact kx _
    · replace h := goIfT h c22
      refine go_aload0 hc dX14_undo_44 ?_
      refine go_getR hc lk_RX14_21 dX14_undo_45 (sh_102 hW) (rf_102_18 hW) ?_
      refine go_iload1 hc dX14_undo_48 ?_
      refine go_aload0 hc dX14_undo_49 ?_
      refine go_getR hc lk_RX14_24 dX14_undo_50 (sh_102 hW) (rf_102_19 hW) ?_
      refine go_bipush (v := 18) hc dX14_undo_53 rfl ?_
      refine go_aload0 hc dX14_undo_55 ?_
      refine go_getI hc lk_RX14_444 dX14_undo_56 (sh_102 hW) ?_
      refine go_imul hc dX14_undo_59 ?_
      refine go_iload1 hc dX14_undo_60 ?_
      refine go_iadd hc dX14_undo_61 ?_
      replace h := goBind h; obtain ⟨x23, e24, h⟩ := h
      refine go_iald hc dX14_undo_62 (sh_106 hW) e24 ?_
      replace h := goBind h; obtain ⟨M25, e26, h⟩ := h
      refine go_iast hc dX14_undo_63 (sh_105 hW) e26 ?_
      refine go_iinc1 (v := (v1 + 1)) hc dX14_undo_64 rfl ?_
      refine go_goto hc 38 dX14_undo_67 rfl ?_
      exact ih _ _ _ h kx
set_option maxRecDepth 100000 in
set_option maxHeartbeats 4000000 in
theorem mX14_undo {E : goEv} {l : Launch} {G : goG} {N : Nat} {M : goMI} {L : goML} {R : goMR} {r0 : Int32} {r1 : goMI} (hk : goKn E) (hW : goW G R) (h : fX14_undo N M R = some (r0, r1)) : Met l yX14_undo (goCd yX14_undo cX14_undo 2 (Option.some FieldType.boolean)) (goRoom 2 42 0 0) (goPre E [.ref 102] G M L R) (goQi E r0 G r1 L R) 0 0 (goSet E) := by
  refine goMet pl_RX14 hk (lv := [some (.ref 102), none]) rfl (Nat.le_of_ble_eq_true rfl) ?_
  intro X hc hl hR hr hnm
  subst hl
  unfold fX14_undo at h
  refine go_aload0 hc dX14_undo_0 ?_
  refine go_iconst (v := 0) hc dX14_undo_1 rfl ?_
  replace h := goNm_x h; obtain ⟨M11, e12, h⟩ := h
  refine go_ptI hc lk_RX14_66 dX14_undo_2 (sh_102 hW) e12 ?_
  refine go_aload0 hc dX14_undo_5 ?_
  refine go_getQ hc lk_RX14_442 dX14_undo_6 (sh_102 hW) ?_
  refine go_ifnull hc 19 dX14_undo_9 rfl (fun c13 => ?_) (fun _ c13 => ?_)
  · replace h := goIfT h c13
    refine go_aload0 hc dX14_undo_19 ?_
    refine go_bipush (v := 6) hc dX14_undo_20 rfl ?_
    replace h := goB2_h h; obtain ⟨x14, M15, e16, h⟩ := h
    refine go_callVi hc dX14_undo_22 (mX14_denied hk hW e16) ml_RX14_607 yk_X14_denied ⟨wim_X14_denied, wse_X14_denied⟩ hR rfl (sh_102 hW) rfl rfl rfl (Nat.le_of_ble_eq_true rfl) rfl ?_
    replace h := goBind h; obtain ⟨x17, e18, h⟩ := h
    obtain ⟨ze18, rfl⟩ := goZr_h e18
    cases h
    exact go_zret hc dX14_undo_25 hr (goZ_n ze18)
  · replace h := goIfF h (goNn c13)
    refine go_aload0 hc dX14_undo_12 ?_
    refine go_getI hc lk_RX14_444 dX14_undo_13 (sh_102 hW) ?_
    refine go_if_ne hc 26 dX14_undo_16 rfl (fun c19 => ?_) (fun c19 => ?_)
    · replace h := goIfF h c19
      refine go_aload0 hc dX14_undo_26 ?_
      refine go_dupr hc dX14_undo_27 ?_
      refine go_getI hc lk_RX14_444 dX14_undo_28 (sh_102 hW) ?_
      refine go_iconst (v := 1) hc dX14_undo_31 rfl ?_
      refine go_isub hc dX14_undo_32 ?_
      replace h := goNm_x h; obtain ⟨M20, e21, h⟩ := h
      refine go_ptI hc lk_RX14_444 dX14_undo_33 (sh_102 hW) e21 ?_
      refine go_iconst (v := 0) hc dX14_undo_36 rfl ?_
      refine go_istore1 hc dX14_undo_37 ?_
      replace h := goBind h; obtain ⟨M28, e27, h⟩ := h
      refine mX14_undo_L38 hc hk hR hr hW _ _ _ _ e27 (fun d1 => ?_)
      refine go_aload0 hc dX14_undo_70 ?_
      replace h := goB2_h h; obtain ⟨x29, M30, e31, h⟩ := h
      refine go_callVi hc dX14_undo_71 (mX14_granted hk hW e31) ml_RX14_616 yk_X14_granted ⟨wim_X14_granted, wse_X14_granted⟩ hR rfl (sh_102 hW) rfl rfl rfl (Nat.le_of_ble_eq_true rfl) rfl ?_
      replace h := goBind h; obtain ⟨x32, e33, h⟩ := h
      obtain ⟨ze33, rfl⟩ := goZr_h e33
      cases h
      exact go_zret hc dX14_undo_74 hr (goZ_n ze33)
    · replace h := goIfT h c19
      refine go_aload0 hc dX14_undo_19 ?_
      refine go_bipush (v := 6) hc dX14_undo_20 rfl ?_
      replace h := goB2_h h; obtain ⟨x34, M35, e36, h⟩ := h
      refine go_callVi hc dX14_undo_22 (mX14_denied hk hW e36) ml_RX14_607 yk_X14_denied ⟨wim_X14_denied, wse_X14_denied⟩ hR rfl (sh_102 hW) rfl rfl rfl (Nat.le_of_ble_eq_true rfl) rfl ?_
      replace h := goBind h; obtain ⟨x37, e38, h⟩ := h
      obtain ⟨ze38, rfl⟩ := goZr_h e38
      cases h
      exact go_zret hc dX14_undo_25 hr (goZ_n ze38)
theorem dX14_mark_0 : decode cX14_mark 0 = .ok (.aload_n 0, 1) := by decide +kernel
theorem dX14_mark_1 : decode cX14_mark 1 = .ok (.iconst 0, 1) := by decide +kernel
theorem dX14_mark_2 : decode cX14_mark 2 = .ok (.putfield 66, 3) := by decide +kernel
theorem dX14_mark_5 : decode cX14_mark 5 = .ok (.aload_n 0, 1) := by decide +kernel
theorem dX14_mark_6 : decode cX14_mark 6 = .ok (.getfield 442, 3) := by decide +kernel
theorem dX14_mark_9 : decode cX14_mark 9 = .ok (.ifnonnull 9, 3) := by decide +kernel
theorem dX14_mark_12 : decode cX14_mark 12 = .ok (.aload_n 0, 1) := by decide +kernel
theorem dX14_mark_13 : decode cX14_mark 13 = .ok (.iconst 1, 1) := by decide +kernel
theorem dX14_mark_14 : decode cX14_mark 14 = .ok (.invokevirtual 72, 3) := by decide +kernel
theorem dX14_mark_17 : decode cX14_mark 17 = .ok (.ireturn, 1) := by decide +kernel
theorem dX14_mark_18 : decode cX14_mark 18 = .ok (.aload_n 0, 1) := by decide +kernel
theorem dX14_mark_19 : decode cX14_mark 19 = .ok (.getfield 447, 3) := by decide +kernel
theorem dX14_mark_22 : decode cX14_mark 22 = .ok (.iconst 3, 1) := by decide +kernel
theorem dX14_mark_23 : decode cX14_mark 23 = .ok (.if_icmp .ne 9, 3) := by decide +kernel
theorem dX14_mark_26 : decode cX14_mark 26 = .ok (.aload_n 0, 1) := by decide +kernel
theorem dX14_mark_27 : decode cX14_mark 27 = .ok (.iconst 3, 1) := by decide +kernel
theorem dX14_mark_28 : decode cX14_mark 28 = .ok (.invokevirtual 72, 3) := by decide +kernel
theorem dX14_mark_31 : decode cX14_mark 31 = .ok (.ireturn, 1) := by decide +kernel
theorem dX14_mark_32 : decode cX14_mark 32 = .ok (.iconst 0, 1) := by decide +kernel
theorem dX14_mark_33 : decode cX14_mark 33 = .ok (.istore_n 1, 1) := by decide +kernel
theorem dX14_mark_34 : decode cX14_mark 34 = .ok (.iload_n 1, 1) := by decide +kernel
theorem dX14_mark_35 : decode cX14_mark 35 = .ok (.bipush 18, 2) := by decide +kernel
theorem dX14_mark_37 : decode cX14_mark 37 = .ok (.if_icmp .ge 29, 3) := by decide +kernel
theorem dX14_mark_40 : decode cX14_mark 40 = .ok (.aload_n 0, 1) := by decide +kernel
theorem dX14_mark_41 : decode cX14_mark 41 = .ok (.getfield 27, 3) := by decide +kernel
theorem dX14_mark_44 : decode cX14_mark 44 = .ok (.bipush 18, 2) := by decide +kernel
theorem dX14_mark_46 : decode cX14_mark 46 = .ok (.aload_n 0, 1) := by decide +kernel
theorem dX14_mark_47 : decode cX14_mark 47 = .ok (.getfield 447, 3) := by decide +kernel
theorem dX14_mark_50 : decode cX14_mark 50 = .ok (.imul, 1) := by decide +kernel
theorem dX14_mark_51 : decode cX14_mark 51 = .ok (.iload_n 1, 1) := by decide +kernel
theorem dX14_mark_52 : decode cX14_mark 52 = .ok (.iadd, 1) := by decide +kernel
theorem dX14_mark_53 : decode cX14_mark 53 = .ok (.aload_n 0, 1) := by decide +kernel
theorem dX14_mark_54 : decode cX14_mark 54 = .ok (.getfield 21, 3) := by decide +kernel
theorem dX14_mark_57 : decode cX14_mark 57 = .ok (.iload_n 1, 1) := by decide +kernel
theorem dX14_mark_58 : decode cX14_mark 58 = .ok (.iaload, 1) := by decide +kernel
theorem dX14_mark_59 : decode cX14_mark 59 = .ok (.iastore, 1) := by decide +kernel
theorem dX14_mark_60 : decode cX14_mark 60 = .ok (.iinc 1 1, 3) := by decide +kernel
theorem dX14_mark_63 : decode cX14_mark 63 = .ok (.goto (-29), 3) := by decide +kernel
theorem dX14_mark_66 : decode cX14_mark 66 = .ok (.aload_n 0, 1) := by decide +kernel
theorem dX14_mark_67 : decode cX14_mark 67 = .ok (.dup, 1) := by decide +kernel
theorem dX14_mark_68 : decode cX14_mark 68 = .ok (.getfield 447, 3) := by decide +kernel
theorem dX14_mark_71 : decode cX14_mark 71 = .ok (.iconst 1, 1) := by decide +kernel
theorem dX14_mark_72 : decode cX14_mark 72 = .ok (.iadd, 1) := by decide +kernel
theorem dX14_mark_73 : decode cX14_mark 73 = .ok (.putfield 447, 3) := by decide +kernel
theorem dX14_mark_76 : decode cX14_mark 76 = .ok (.aload_n 0, 1) := by decide +kernel
theorem dX14_mark_77 : decode cX14_mark 77 = .ok (.aload_n 0, 1) := by decide +kernel
theorem dX14_mark_78 : decode cX14_mark 78 = .ok (.getfield 447, 3) := by decide +kernel
theorem dX14_mark_81 : decode cX14_mark 81 = .ok (.iconst 1, 1) := by decide +kernel
theorem dX14_mark_82 : decode cX14_mark 82 = .ok (.isub, 1) := by decide +kernel
theorem dX14_mark_83 : decode cX14_mark 83 = .ok (.invokevirtual 76, 3) := by decide +kernel
theorem dX14_mark_86 : decode cX14_mark 86 = .ok (.ireturn, 1) := by decide +kernel
set_option maxRecDepth 100000 in
set_option maxHeartbeats 4000000 in
theorem mX14_mark_L34 {E : goEv} {X : goX} {G : goG} {Q : State → Prop} {L : goML} {R : goMR} (hc : goCx E X cX14_mark RX14 2) (hk : goKn E) (hR : X.2.2.2.1 = goRoom 1 21 0 0) (hr : X.2.2.2.2.2.2.2.2.1.sig.returnType = (Option.some FieldType.int)) (hW : goW G R) : ∀ (n : Nat) (v1 : Int32) (M : goMI) (r0 : goMI), lX14_mark_34 n v1 M = some r0 → (∀ (d1 : Option Value), goA E X G 0 0 Q 66 [some (.ref 102), d1] [] r0 L R) → goA E X G 0 0 Q 34 [some (.ref 102), some (.int v1)] [] M L R := by
  intro n
  induction n with
  | zero => intro v1 M r0 h; exact nomatch h
  | succ n ih =>
    intro v1 M r0 h kx
    rw [lX14_mark_34] at h
    refine go_iload1 hc dX14_mark_34 ?_
    refine go_bipush (v := 18) hc dX14_mark_35 rfl ?_
    refine go_icmp_ge hc 66 dX14_mark_37 rfl (fun c15 => ?_) (fun c15 => ?_)
    · replace h := goIfF h c15
      cases h
      exact kx _
    · replace h := goIfT h c15
      refine go_aload0 hc dX14_mark_40 ?_
      refine go_getR hc lk_RX14_27 dX14_mark_41 (sh_102 hW) (rf_102_20 hW) ?_
      refine go_bipush (v := 18) hc dX14_mark_44 rfl ?_
      refine go_aload0 hc dX14_mark_46 ?_
      refine go_getI hc lk_RX14_447 dX14_mark_47 (sh_102 hW) ?_
      refine go_imul hc dX14_mark_50 ?_
      refine go_iload1 hc dX14_mark_51 ?_
      refine go_iadd hc dX14_mark_52 ?_
      refine go_aload0 hc dX14_mark_53 ?_
      refine go_getR hc lk_RX14_21 dX14_mark_54 (sh_102 hW) (rf_102_18 hW) ?_
      refine go_iload1 hc dX14_mark_57 ?_
      replace h := goBind h; obtain ⟨x16, e17, h⟩ := h
      refine go_iald hc dX14_mark_58 (sh_105 hW) e17 ?_
      replace h := goBind h; obtain ⟨M18, e19, h⟩ := h
      refine go_iast hc dX14_mark_59 (sh_107 hW) e19 ?_
      refine go_iinc1 (v := (v1 + 1)) hc dX14_mark_60 rfl ?_
      refine go_goto hc 34 dX14_mark_63 rfl ?_
      exact ih _ _ _ h kx
set_option maxRecDepth 100000 in
set_option maxHeartbeats 4000000 in
theorem mX14_mark {E : goEv} {l : Launch} {G : goG} {N : Nat} {M : goMI} {L : goML} {R : goMR} {r0 : Int32} {r1 : goMI} (hk : goKn E) (hW : goW G R) (h : fX14_mark N M R = some (r0, r1)) : Met l yX14_mark (goCd yX14_mark cX14_mark 2 (Option.some FieldType.int)) (goRoom 1 21 0 0) (goPre E [.ref 102] G M L R) (goQi E r0 G r1 L R) 0 0 (goSet E) := by
  refine goMet pl_RX14 hk (lv := [some (.ref 102), none]) rfl (Nat.le_of_ble_eq_true rfl) ?_
  intro X hc hl hR hr hnm
  subst hl
  unfold fX14_mark at h
  refine go_aload0 hc dX14_mark_0 ?_
  refine go_iconst (v := 0) hc dX14_mark_1 rfl ?_
  replace h := goNm_x h; obtain ⟨M11, e12, h⟩ := h
  refine go_ptI hc lk_RX14_66 dX14_mark_2 (sh_102 hW) e12 ?_
  refine go_aload0 hc dX14_mark_5 ?_
  refine go_getQ hc lk_RX14_442 dX14_mark_6 (sh_102 hW) ?_
  refine go_ifnonnull hc 18 dX14_mark_9 rfl (fun _ c13 => ?_) (fun c13 => ?_)
  · replace h := goIfF h (goNn c13)
    refine go_aload0 hc dX14_mark_18 ?_
    refine go_getI hc lk_RX14_447 dX14_mark_19 (sh_102 hW) ?_
    refine go_iconst (v := 3) hc dX14_mark_22 rfl ?_
    refine go_icmp_ne hc 32 dX14_mark_23 rfl (fun c14 => ?_) (fun c14 => ?_)
    · replace h := goIfF h c14
      refine go_iconst (v := 0) hc dX14_mark_32 rfl ?_
      refine go_istore1 hc dX14_mark_33 ?_
      replace h := goBind h; obtain ⟨M21, e20, h⟩ := h
      refine mX14_mark_L34 hc hk hR hr hW _ _ _ _ e20 (fun d1 => ?_)
      refine go_aload0 hc dX14_mark_66 ?_
      refine go_dupr hc dX14_mark_67 ?_
      refine go_getI hc lk_RX14_447 dX14_mark_68 (sh_102 hW) ?_
      refine go_iconst (v := 1) hc dX14_mark_71 rfl ?_
      refine go_iadd hc dX14_mark_72 ?_
      replace h := goNm_x h; obtain ⟨M22, e23, h⟩ := h
      refine go_ptI hc lk_RX14_447 dX14_mark_73 (sh_102 hW) e23 ?_
      refine go_aload0 hc dX14_mark_76 ?_
      refine go_aload0 hc dX14_mark_77 ?_
      refine go_getI hc lk_RX14_447 dX14_mark_78 (sh_102 hW) ?_
      refine go_iconst (v := 1) hc dX14_mark_81 rfl ?_
      refine go_isub hc dX14_mark_82 ?_
      replace h := goB2_h h; obtain ⟨x24, M25, e26, h⟩ := h
      refine go_callVi hc dX14_mark_83 (mX14_good hk hW e26) ml_RX14_76 yk_X14_good ⟨wim_X14_good, wse_X14_good⟩ hR rfl (sh_102 hW) rfl rfl rfl (Nat.le_of_ble_eq_true rfl) rfl ?_
      cases h
      exact go_iret hc dX14_mark_86 hr
    · replace h := goIfT h c14
      refine go_aload0 hc dX14_mark_26 ?_
      refine go_iconst (v := 3) hc dX14_mark_27 rfl ?_
      replace h := goB2_h h; obtain ⟨x27, M28, e29, h⟩ := h
      refine go_callVi hc dX14_mark_28 (mX14_refused hk hW e29) ml_RX14_72 yk_X14_refused ⟨wim_X14_refused, wse_X14_refused⟩ hR rfl (sh_102 hW) rfl rfl rfl (Nat.le_of_ble_eq_true rfl) rfl ?_
      cases h
      exact go_iret hc dX14_mark_31 hr
  · replace h := goIfT h c13
    refine go_aload0 hc dX14_mark_12 ?_
    refine go_iconst (v := 1) hc dX14_mark_13 rfl ?_
    replace h := goB2_h h; obtain ⟨x30, M31, e32, h⟩ := h
    refine go_callVi hc dX14_mark_14 (mX14_refused hk hW e32) ml_RX14_72 yk_X14_refused ⟨wim_X14_refused, wse_X14_refused⟩ hR rfl (sh_102 hW) rfl rfl rfl (Nat.le_of_ble_eq_true rfl) rfl ?_
    cases h
    exact go_iret hc dX14_mark_17 hr
theorem dX14_back_0 : decode cX14_back 0 = .ok (.aload_n 0, 1) := by decide +kernel
theorem dX14_back_1 : decode cX14_back 1 = .ok (.iconst 0, 1) := by decide +kernel
theorem dX14_back_2 : decode cX14_back 2 = .ok (.putfield 66, 3) := by decide +kernel
theorem dX14_back_5 : decode cX14_back 5 = .ok (.aload_n 0, 1) := by decide +kernel
theorem dX14_back_6 : decode cX14_back 6 = .ok (.getfield 442, 3) := by decide +kernel
theorem dX14_back_9 : decode cX14_back 9 = .ok (.ifnull 15, 3) := by decide +kernel
theorem dX14_back_12 : decode cX14_back 12 = .ok (.iload_n 1, 1) := by decide +kernel
theorem dX14_back_13 : decode cX14_back 13 = .ok (.ifCond .lt 11, 3) := by decide +kernel
theorem dX14_back_16 : decode cX14_back 16 = .ok (.iload_n 1, 1) := by decide +kernel
theorem dX14_back_17 : decode cX14_back 17 = .ok (.aload_n 0, 1) := by decide +kernel
theorem dX14_back_18 : decode cX14_back 18 = .ok (.getfield 447, 3) := by decide +kernel
theorem dX14_back_21 : decode cX14_back 21 = .ok (.if_icmp .lt 9, 3) := by decide +kernel
theorem dX14_back_24 : decode cX14_back 24 = .ok (.aload_n 0, 1) := by decide +kernel
theorem dX14_back_25 : decode cX14_back 25 = .ok (.iconst 1, 1) := by decide +kernel
theorem dX14_back_26 : decode cX14_back 26 = .ok (.invokevirtual 607, 3) := by decide +kernel
theorem dX14_back_29 : decode cX14_back 29 = .ok (.ireturn, 1) := by decide +kernel
theorem dX14_back_30 : decode cX14_back 30 = .ok (.iconst 0, 1) := by decide +kernel
theorem dX14_back_31 : decode cX14_back 31 = .ok (.istore_n 2, 1) := by decide +kernel
theorem dX14_back_32 : decode cX14_back 32 = .ok (.iload_n 2, 1) := by decide +kernel
theorem dX14_back_33 : decode cX14_back 33 = .ok (.bipush 18, 2) := by decide +kernel
theorem dX14_back_35 : decode cX14_back 35 = .ok (.if_icmp .ge 26, 3) := by decide +kernel
theorem dX14_back_38 : decode cX14_back 38 = .ok (.aload_n 0, 1) := by decide +kernel
theorem dX14_back_39 : decode cX14_back 39 = .ok (.getfield 21, 3) := by decide +kernel
theorem dX14_back_42 : decode cX14_back 42 = .ok (.iload_n 2, 1) := by decide +kernel
theorem dX14_back_43 : decode cX14_back 43 = .ok (.aload_n 0, 1) := by decide +kernel
theorem dX14_back_44 : decode cX14_back 44 = .ok (.getfield 27, 3) := by decide +kernel
theorem dX14_back_47 : decode cX14_back 47 = .ok (.bipush 18, 2) := by decide +kernel
theorem dX14_back_49 : decode cX14_back 49 = .ok (.iload_n 1, 1) := by decide +kernel
theorem dX14_back_50 : decode cX14_back 50 = .ok (.imul, 1) := by decide +kernel
theorem dX14_back_51 : decode cX14_back 51 = .ok (.iload_n 2, 1) := by decide +kernel
theorem dX14_back_52 : decode cX14_back 52 = .ok (.iadd, 1) := by decide +kernel
theorem dX14_back_53 : decode cX14_back 53 = .ok (.iaload, 1) := by decide +kernel
theorem dX14_back_54 : decode cX14_back 54 = .ok (.iastore, 1) := by decide +kernel
theorem dX14_back_55 : decode cX14_back 55 = .ok (.iinc 2 1, 3) := by decide +kernel
theorem dX14_back_58 : decode cX14_back 58 = .ok (.goto (-26), 3) := by decide +kernel
theorem dX14_back_61 : decode cX14_back 61 = .ok (.aload_n 0, 1) := by decide +kernel
theorem dX14_back_62 : decode cX14_back 62 = .ok (.iconst 0, 1) := by decide +kernel
theorem dX14_back_63 : decode cX14_back 63 = .ok (.putfield 444, 3) := by decide +kernel
theorem dX14_back_66 : decode cX14_back 66 = .ok (.aload_n 0, 1) := by decide +kernel
theorem dX14_back_67 : decode cX14_back 67 = .ok (.invokevirtual 616, 3) := by decide +kernel
theorem dX14_back_70 : decode cX14_back 70 = .ok (.ireturn, 1) := by decide +kernel
set_option maxRecDepth 100000 in
set_option maxHeartbeats 4000000 in
theorem mX14_back_L32 {E : goEv} {X : goX} {G : goG} {Q : State → Prop} {L : goML} {R : goMR} {v1 : Int32} (hc : goCx E X cX14_back RX14 3) (hk : goKn E) (hR : X.2.2.2.1 = goRoom 2 42 0 0) (hr : X.2.2.2.2.2.2.2.2.1.sig.returnType = (Option.some FieldType.boolean)) (hW : goW G R) : ∀ (n : Nat) (v2 : Int32) (M : goMI) (r0 : goMI), lX14_back_32 v1 n v2 M = some r0 → (∀ (d1 d2 : Option Value), goA E X G 0 0 Q 61 [some (.ref 102), d1, d2] [] r0 L R) → goA E X G 0 0 Q 32 [some (.ref 102), some (.int v1), some (.int v2)] [] M L R := by
  intro n
  induction n with
  | zero => intro v2 M r0 h; exact nomatch h
  | succ n ih =>
    intro v2 M r0 h kx
    rw [lX14_back_32] at h
    refine go_iload2 hc dX14_back_32 ?_
    refine go_bipush (v := 18) hc dX14_back_33 rfl ?_
    refine go_icmp_ge hc 61 dX14_back_35 rfl (fun c26 => ?_) (fun c26 => ?_)
    · replace h := goIfF h c26
      cases h
      exact kx _ _
    · replace h := goIfT h c26
      refine go_aload0 hc dX14_back_38 ?_
      refine go_getR hc lk_RX14_21 dX14_back_39 (sh_102 hW) (rf_102_18 hW) ?_
      refine go_iload2 hc dX14_back_42 ?_
      refine go_aload0 hc dX14_back_43 ?_
      refine go_getR hc lk_RX14_27 dX14_back_44 (sh_102 hW) (rf_102_20 hW) ?_
      refine go_bipush (v := 18) hc dX14_back_47 rfl ?_
      refine go_iload1 hc dX14_back_49 ?_
      refine go_imul hc dX14_back_50 ?_
      refine go_iload2 hc dX14_back_51 ?_
      refine go_iadd hc dX14_back_52 ?_
      replace h := goBind h; obtain ⟨x27, e28, h⟩ := h
      refine go_iald hc dX14_back_53 (sh_107 hW) e28 ?_
      replace h := goBind h; obtain ⟨M29, e30, h⟩ := h
      refine go_iast hc dX14_back_54 (sh_105 hW) e30 ?_
      refine go_iinc2 (v := (v2 + 1)) hc dX14_back_55 rfl ?_
      refine go_goto hc 32 dX14_back_58 rfl ?_
      exact ih _ _ _ h kx
set_option maxRecDepth 100000 in
set_option maxHeartbeats 4000000 in
theorem mX14_back {E : goEv} {l : Launch} {G : goG} {N : Nat} {M : goMI} {L : goML} {R : goMR} {v1 : Int32} {r0 : Int32} {r1 : goMI} (hk : goKn E) (hW : goW G R) (h : fX14_back N M R v1 = some (r0, r1)) : Met l yX14_back (goCd yX14_back cX14_back 3 (Option.some FieldType.boolean)) (goRoom 2 42 0 0) (goPre E [.ref 102, .int v1] G M L R) (goQi E r0 G r1 L R) 0 0 (goSet E) := by
  refine goMet pl_RX14 hk (lv := [some (.ref 102), some (.int v1), none]) rfl (Nat.le_of_ble_eq_true rfl) ?_
  intro X hc hl hR hr hnm
  subst hl
  unfold fX14_back at h
  refine go_aload0 hc dX14_back_0 ?_
  refine go_iconst (v := 0) hc dX14_back_1 rfl ?_
  replace h := goNm_x h; obtain ⟨M11, e12, h⟩ := h
  refine go_ptI hc lk_RX14_66 dX14_back_2 (sh_102 hW) e12 ?_
  refine go_aload0 hc dX14_back_5 ?_
  refine go_getQ hc lk_RX14_442 dX14_back_6 (sh_102 hW) ?_
  refine go_ifnull hc 24 dX14_back_9 rfl (fun c13 => ?_) (fun _ c13 => ?_)
  · replace h := goIfT h c13
    refine go_aload0 hc dX14_back_24 ?_
    refine go_iconst (v := 1) hc dX14_back_25 rfl ?_
    replace h := goB2_h h; obtain ⟨x14, M15, e16, h⟩ := h
    refine go_callVi hc dX14_back_26 (mX14_denied hk hW e16) ml_RX14_607 yk_X14_denied ⟨wim_X14_denied, wse_X14_denied⟩ hR rfl (sh_102 hW) rfl rfl rfl (Nat.le_of_ble_eq_true rfl) rfl ?_
    replace h := goBind h; obtain ⟨x17, e18, h⟩ := h
    obtain ⟨ze18, rfl⟩ := goZr_h e18
    cases h
    exact go_zret hc dX14_back_29 hr (goZ_n ze18)
  · replace h := goIfF h (goNn c13)
    refine go_iload1 hc dX14_back_12 ?_
    refine go_if_lt hc 24 dX14_back_13 rfl (fun c19 => ?_) (fun c19 => ?_)
    · replace h := goIfF h c19
      refine go_aload0 hc dX14_back_24 ?_
      refine go_iconst (v := 1) hc dX14_back_25 rfl ?_
      replace h := goB2_h h; obtain ⟨x20, M21, e22, h⟩ := h
      refine go_callVi hc dX14_back_26 (mX14_denied hk hW e22) ml_RX14_607 yk_X14_denied ⟨wim_X14_denied, wse_X14_denied⟩ hR rfl (sh_102 hW) rfl rfl rfl (Nat.le_of_ble_eq_true rfl) rfl ?_
      replace h := goBind h; obtain ⟨x23, e24, h⟩ := h
      obtain ⟨ze24, rfl⟩ := goZr_h e24
      cases h
      exact go_zret hc dX14_back_29 hr (goZ_n ze24)
    · replace h := goIfT h c19
      refine go_iload1 hc dX14_back_16 ?_
      refine go_aload0 hc dX14_back_17 ?_
      refine go_getI hc lk_RX14_447 dX14_back_18 (sh_102 hW) ?_
      refine go_icmp_lt hc 30 dX14_back_21 rfl (fun c25 => ?_) (fun c25 => ?_)
      · replace h := goIfF h c25
        refine go_iconst (v := 0) hc dX14_back_30 rfl ?_
        refine go_istore2 hc dX14_back_31 ?_
        replace h := goBind h; obtain ⟨M32, e31, h⟩ := h
        refine mX14_back_L32 hc hk hR hr hW _ _ _ _ e31 (fun d1 d2 => ?_)
        refine go_aload0 hc dX14_back_61 ?_
        refine go_iconst (v := 0) hc dX14_back_62 rfl ?_
        replace h := goNm_x h; obtain ⟨M33, e34, h⟩ := h
        refine go_ptI hc lk_RX14_444 dX14_back_63 (sh_102 hW) e34 ?_
        refine go_aload0 hc dX14_back_66 ?_
        replace h := goB2_h h; obtain ⟨x35, M36, e37, h⟩ := h
        refine go_callVi hc dX14_back_67 (mX14_granted hk hW e37) ml_RX14_616 yk_X14_granted ⟨wim_X14_granted, wse_X14_granted⟩ hR rfl (sh_102 hW) rfl rfl rfl (Nat.le_of_ble_eq_true rfl) rfl ?_
        replace h := goBind h; obtain ⟨x38, e39, h⟩ := h
        obtain ⟨ze39, rfl⟩ := goZr_h e39
        cases h
        exact go_zret hc dX14_back_70 hr (goZ_n ze39)
      · replace h := goIfT h c25
        refine go_aload0 hc dX14_back_24 ?_
        refine go_iconst (v := 1) hc dX14_back_25 rfl ?_
        replace h := goB2_h h; obtain ⟨x40, M41, e42, h⟩ := h
        refine go_callVi hc dX14_back_26 (mX14_denied hk hW e42) ml_RX14_607 yk_X14_denied ⟨wim_X14_denied, wse_X14_denied⟩ hR rfl (sh_102 hW) rfl rfl rfl (Nat.le_of_ble_eq_true rfl) rfl ?_
        replace h := goBind h; obtain ⟨x43, e44, h⟩ := h
        obtain ⟨ze44, rfl⟩ := goZr_h e44
        cases h
        exact go_zret hc dX14_back_29 hr (goZ_n ze44)
theorem dX14_put_0 : decode cX14_put 0 = .ok (.aload_n 0, 1) := by decide +kernel
theorem dX14_put_1 : decode cX14_put 1 = .ok (.iconst 0, 1) := by decide +kernel
theorem dX14_put_2 : decode cX14_put 2 = .ok (.putfield 66, 3) := by decide +kernel
theorem dX14_put_5 : decode cX14_put 5 = .ok (.iconst 0, 1) := by decide +kernel
theorem dX14_put_6 : decode cX14_put 6 = .ok (.istore_n 3, 1) := by decide +kernel
theorem dX14_put_7 : decode cX14_put 7 = .ok (.iconst 0, 1) := by decide +kernel
theorem dX14_put_8 : decode cX14_put 8 = .ok (.istore 4, 2) := by decide +kernel
theorem dX14_put_10 : decode cX14_put 10 = .ok (.aload_n 0, 1) := by decide +kernel
theorem dX14_put_11 : decode cX14_put 11 = .ok (.getfield 442, 3) := by decide +kernel
theorem dX14_put_14 : decode cX14_put 14 = .ok (.ifnull 74, 3) := by decide +kernel
theorem dX14_put_17 : decode cX14_put 17 = .ok (.iload 4, 2) := by decide +kernel
theorem dX14_put_19 : decode cX14_put 19 = .ok (.bipush 96, 2) := by decide +kernel
theorem dX14_put_21 : decode cX14_put 21 = .ok (.if_icmp .ge 67, 3) := by decide +kernel
theorem dX14_put_24 : decode cX14_put 24 = .ok (.aload_n 0, 1) := by decide +kernel
theorem dX14_put_25 : decode cX14_put 25 = .ok (.getfield 21, 3) := by decide +kernel
theorem dX14_put_28 : decode cX14_put 28 = .ok (.iload_n 2, 1) := by decide +kernel
theorem dX14_put_29 : decode cX14_put 29 = .ok (.ifCond .eq 8, 3) := by decide +kernel
theorem dX14_put_32 : decode cX14_put 32 = .ok (.bipush 8, 2) := by decide +kernel
theorem dX14_put_34 : decode cX14_put 34 = .ok (.goto 4, 3) := by decide +kernel
theorem dX14_put_37 : decode cX14_put 37 = .ok (.iconst 0, 1) := by decide +kernel
theorem dX14_put_38 : decode cX14_put 38 = .ok (.iload 4, 2) := by decide +kernel
theorem dX14_put_40 : decode cX14_put 40 = .ok (.bipush 12, 2) := by decide +kernel
theorem dX14_put_42 : decode cX14_put 42 = .ok (.idiv, 1) := by decide +kernel
theorem dX14_put_43 : decode cX14_put 43 = .ok (.iadd, 1) := by decide +kernel
theorem dX14_put_44 : decode cX14_put 44 = .ok (.iaload, 1) := by decide +kernel
theorem dX14_put_45 : decode cX14_put 45 = .ok (.iload 4, 2) := by decide +kernel
theorem dX14_put_47 : decode cX14_put 47 = .ok (.bipush 12, 2) := by decide +kernel
theorem dX14_put_49 : decode cX14_put 49 = .ok (.irem, 1) := by decide +kernel
theorem dX14_put_50 : decode cX14_put 50 = .ok (.invokestatic 366, 3) := by decide +kernel
theorem dX14_put_53 : decode cX14_put 53 = .ok (.ifCond .ne 6, 3) := by decide +kernel
theorem dX14_put_56 : decode cX14_put 56 = .ok (.goto 26, 3) := by decide +kernel
theorem dX14_put_59 : decode cX14_put 59 = .ok (.iload_n 3, 1) := by decide +kernel
theorem dX14_put_60 : decode cX14_put 60 = .ok (.iload_n 1, 1) := by decide +kernel
theorem dX14_put_61 : decode cX14_put 61 = .ok (.if_icmp .ne 18, 3) := by decide +kernel
theorem dX14_put_64 : decode cX14_put 64 = .ok (.bipush 100, 2) := by decide +kernel
theorem dX14_put_66 : decode cX14_put 66 = .ok (.iload 4, 2) := by decide +kernel
theorem dX14_put_68 : decode cX14_put 68 = .ok (.bipush 12, 2) := by decide +kernel
theorem dX14_put_70 : decode cX14_put 70 = .ok (.idiv, 1) := by decide +kernel
theorem dX14_put_71 : decode cX14_put 71 = .ok (.imul, 1) := by decide +kernel
theorem dX14_put_72 : decode cX14_put 72 = .ok (.iload 4, 2) := by decide +kernel
theorem dX14_put_74 : decode cX14_put 74 = .ok (.bipush 12, 2) := by decide +kernel
theorem dX14_put_76 : decode cX14_put 76 = .ok (.irem, 1) := by decide +kernel
theorem dX14_put_77 : decode cX14_put 77 = .ok (.iadd, 1) := by decide +kernel
theorem dX14_put_78 : decode cX14_put 78 = .ok (.ireturn, 1) := by decide +kernel
theorem dX14_put_79 : decode cX14_put 79 = .ok (.iinc 3 1, 3) := by decide +kernel
theorem dX14_put_82 : decode cX14_put 82 = .ok (.iinc 4 1, 3) := by decide +kernel
theorem dX14_put_85 : decode cX14_put 85 = .ok (.goto (-75), 3) := by decide +kernel
theorem dX14_put_88 : decode cX14_put 88 = .ok (.aload_n 0, 1) := by decide +kernel
theorem dX14_put_89 : decode cX14_put 89 = .ok (.iconst 1, 1) := by decide +kernel
theorem dX14_put_90 : decode cX14_put 90 = .ok (.putfield 66, 3) := by decide +kernel
theorem dX14_put_93 : decode cX14_put 93 = .ok (.iconst 0, 1) := by decide +kernel
theorem dX14_put_94 : decode cX14_put 94 = .ok (.ireturn, 1) := by decide +kernel
set_option maxRecDepth 100000 in
set_option maxHeartbeats 4000000 in
theorem mX14_put_L10 {E : goEv} {X : goX} {G : goG} {M : goMI} {L : goML} {R : goMR} {v1 : Int32} {v2 : Int32} {r0 : Int32} {r1 : goMI} (hc : goCx E X cX14_put RX14 5) (hk : goKn E) (hR : X.2.2.2.1 = goRoom 1 21 0 0) (hr : X.2.2.2.2.2.2.2.2.1.sig.returnType = (Option.some FieldType.int)) (hW : goW G R) : ∀ (n : Nat) (v3 : Int32) (v4 : Int32), lX14_put_10 v1 v2 M R n v3 v4 = some (r0, r1) → goA E X G 0 0 (goMQ X E (goQi E r0 G r1 L R) 0 0) 10 [some (.ref 102), some (.int v1), some (.int v2), some (.int v3), some (.int v4)] [] M L R := by
  intro n
  induction n with
  | zero => intro v3 v4 h; exact nomatch h
  | succ n ih =>
    intro v3 v4 h
    rw [lX14_put_10] at h
    refine go_aload0 hc dX14_put_10 ?_
    refine go_getQ hc lk_RX14_442 dX14_put_11 (sh_102 hW) ?_
    refine go_ifnull hc 88 dX14_put_14 rfl (fun c13 => ?_) (fun _ c13 => ?_)
    · replace h := goIfT h c13
      refine go_aload0 hc dX14_put_88 ?_
      refine go_iconst (v := 1) hc dX14_put_89 rfl ?_
      replace h := goNm_x h; obtain ⟨M14, e15, h⟩ := h
      refine go_ptI hc lk_RX14_66 dX14_put_90 (sh_102 hW) e15 ?_
      refine go_iconst (v := 0) hc dX14_put_93 rfl ?_
      cases h
      exact go_iret hc dX14_put_94 hr
    · replace h := goIfF h (goNn c13)
      refine go_iload4 hc dX14_put_17 ?_
      refine go_bipush (v := 96) hc dX14_put_19 rfl ?_
      refine go_icmp_ge hc 88 dX14_put_21 rfl (fun c16 => ?_) (fun c16 => ?_)
      · replace h := goIfF h c16
        refine go_aload0 hc dX14_put_88 ?_
        refine go_iconst (v := 1) hc dX14_put_89 rfl ?_
        replace h := goNm_x h; obtain ⟨M17, e18, h⟩ := h
        refine go_ptI hc lk_RX14_66 dX14_put_90 (sh_102 hW) e18 ?_
        refine go_iconst (v := 0) hc dX14_put_93 rfl ?_
        cases h
        exact go_iret hc dX14_put_94 hr
      · replace h := goIfT h c16
        refine go_aload0 hc dX14_put_24 ?_
        refine go_getR hc lk_RX14_21 dX14_put_25 (sh_102 hW) (rf_102_18 hW) ?_
        refine go_iload2 hc dX14_put_28 ?_
        replace h := goNm_y h; obtain ⟨x19, e20, h⟩ := h
        have k21 : goA E X G 0 0 (goMQ X E (goQi E r0 G r1 L R) 0 0) 38 [some (.ref 102), some (.int v1), some (.int v2), some (.int v3), some (.int v4)] [.int x19, .ref 105] M L R := by
          refine go_iload4 hc dX14_put_38 ?_
          refine go_bipush (v := 12) hc dX14_put_40 rfl ?_
          refine go_idiv hc dX14_put_42 (by decide) ?_
          refine go_iadd hc dX14_put_43 ?_
          replace h := goBind h; obtain ⟨x23, e24, h⟩ := h
          refine go_iald hc dX14_put_44 (sh_105 hW) e24 ?_
          refine go_iload4 hc dX14_put_45 ?_
          refine go_bipush (v := 12) hc dX14_put_47 rfl ?_
          refine go_irem hc dX14_put_49 (by decide) ?_
          refine go_callSi hc dX14_put_50 (mX14_bit hk hW rfl) ml_RX14_366 yk_X14_bit wst_X14_bit hR rfl rfl rfl (Nat.le_of_ble_eq_true rfl) rfl ?_
          refine go_if_ne hc 59 dX14_put_53 rfl (fun c25 => ?_) (fun c25 => ?_)
          · replace h := goIfF h c25
            refine go_iload3 hc dX14_put_59 ?_
            refine go_iload1 hc dX14_put_60 ?_
            refine go_icmp_ne hc 79 dX14_put_61 rfl (fun c26 => ?_) (fun c26 => ?_)
            · replace h := goIfF h c26
              refine go_iinc3 (v := (v3 + 1)) hc dX14_put_79 rfl ?_
              refine go_iinc4 (v := (v4 + 1)) hc dX14_put_82 rfl ?_
              refine go_goto hc 10 dX14_put_85 rfl ?_
              exact ih _ _ h
            · replace h := goIfT h c26
              refine go_bipush (v := 100) hc dX14_put_64 rfl ?_
              refine go_iload4 hc dX14_put_66 ?_
              refine go_bipush (v := 12) hc dX14_put_68 rfl ?_
              refine go_idiv hc dX14_put_70 (by decide) ?_
              refine go_imul hc dX14_put_71 ?_
              refine go_iload4 hc dX14_put_72 ?_
              refine go_bipush (v := 12) hc dX14_put_74 rfl ?_
              refine go_irem hc dX14_put_76 (by decide) ?_
              refine go_iadd hc dX14_put_77 ?_
              cases h
              exact go_iret hc dX14_put_78 hr
          · replace h := goIfT h c25
            refine go_goto hc 82 dX14_put_56 rfl ?_
            refine go_iinc4 (v := (v4 + 1)) hc dX14_put_82 rfl ?_
            refine go_goto hc 10 dX14_put_85 rfl ?_
            exact ih _ _ h
        refine go_if_eq hc 37 dX14_put_29 rfl (fun c22 => ?_) (fun c22 => ?_)
        · replace e20 := goIfT e20 c22
          refine go_iconst (v := 0) hc dX14_put_37 rfl ?_
          subst e20
          exact k21
        · replace e20 := goIfF e20 c22
          refine go_bipush (v := 8) hc dX14_put_32 rfl ?_
          refine go_goto hc 38 dX14_put_34 rfl ?_
          subst e20
          exact k21
set_option maxRecDepth 100000 in
set_option maxHeartbeats 4000000 in
theorem mX14_put {E : goEv} {l : Launch} {G : goG} {N : Nat} {M : goMI} {L : goML} {R : goMR} {v1 : Int32} {v2 : Int32} {r0 : Int32} {r1 : goMI} (hk : goKn E) (hW : goW G R) (h : fX14_put N M R v1 v2 = some (r0, r1)) : Met l yX14_put (goCd yX14_put cX14_put 5 (Option.some FieldType.int)) (goRoom 1 21 0 0) (goPre E [.ref 102, .int v1, .int v2] G M L R) (goQi E r0 G r1 L R) 0 0 (goSet E) := by
  refine goMet pl_RX14 hk (lv := [some (.ref 102), some (.int v1), some (.int v2), none, none]) rfl (Nat.le_of_ble_eq_true rfl) ?_
  intro X hc hl hR hr hnm
  subst hl
  unfold fX14_put at h
  refine go_aload0 hc dX14_put_0 ?_
  refine go_iconst (v := 0) hc dX14_put_1 rfl ?_
  replace h := goNm_x h; obtain ⟨M11, e12, h⟩ := h
  refine go_ptI hc lk_RX14_66 dX14_put_2 (sh_102 hW) e12 ?_
  refine go_iconst (v := 0) hc dX14_put_5 rfl ?_
  refine go_istore3 hc dX14_put_6 ?_
  refine go_iconst (v := 0) hc dX14_put_7 rfl ?_
  refine go_istore4 hc dX14_put_8 ?_
  exact mX14_put_L10 hc hk hR hr hW _ _ _ h
theorem dX14_size_0 : decode cX14_size 0 = .ok (.aload_n 0, 1) := by decide +kernel
theorem dX14_size_1 : decode cX14_size 1 = .ok (.iconst 0, 1) := by decide +kernel
theorem dX14_size_2 : decode cX14_size 2 = .ok (.putfield 66, 3) := by decide +kernel
theorem dX14_size_5 : decode cX14_size 5 = .ok (.iload_n 1, 1) := by decide +kernel
theorem dX14_size_6 : decode cX14_size 6 = .ok (.bipush 14, 2) := by decide +kernel
theorem dX14_size_8 : decode cX14_size 8 = .ok (.if_icmp .ne 8, 3) := by decide +kernel
theorem dX14_size_11 : decode cX14_size 11 = .ok (.aload_n 0, 1) := by decide +kernel
theorem dX14_size_12 : decode cX14_size 12 = .ok (.getfield 435, 3) := by decide +kernel
theorem dX14_size_15 : decode cX14_size 15 = .ok (.ireturn, 1) := by decide +kernel
theorem dX14_size_16 : decode cX14_size 16 = .ok (.iload_n 1, 1) := by decide +kernel
theorem dX14_size_17 : decode cX14_size 17 = .ok (.iconst 0, 1) := by decide +kernel
theorem dX14_size_18 : decode cX14_size 18 = .ok (.bipush 13, 2) := by decide +kernel
theorem dX14_size_20 : decode cX14_size 20 = .ok (.invokestatic 147, 3) := by decide +kernel
theorem dX14_size_23 : decode cX14_size 23 = .ok (.ifCond .ne 5, 3) := by decide +kernel
theorem dX14_size_26 : decode cX14_size 26 = .ok (.iconst (-1), 1) := by decide +kernel
theorem dX14_size_27 : decode cX14_size 27 = .ok (.ireturn, 1) := by decide +kernel
theorem dX14_size_28 : decode cX14_size 28 = .ok (.aload_n 0, 1) := by decide +kernel
theorem dX14_size_29 : decode cX14_size 29 = .ok (.getfield 442, 3) := by decide +kernel
theorem dX14_size_32 : decode cX14_size 32 = .ok (.ifnonnull 5, 3) := by decide +kernel
theorem dX14_size_35 : decode cX14_size 35 = .ok (.iconst 0, 1) := by decide +kernel
theorem dX14_size_36 : decode cX14_size 36 = .ok (.ireturn, 1) := by decide +kernel
theorem dX14_size_37 : decode cX14_size 37 = .ok (.iload_n 1, 1) := by decide +kernel
theorem dX14_size_38 : decode cX14_size 38 = .ok (.tableswitch 167 0 12 #[66, 74, 82, 90, 98, 106, 114, 122, 130, 138, 146, 154, 162], 66) := by decide +kernel
theorem dX14_size_104 : decode cX14_size 104 = .ok (.aload_n 0, 1) := by decide +kernel
theorem dX14_size_105 : decode cX14_size 105 = .ok (.getfield 442, 3) := by decide +kernel
theorem dX14_size_108 : decode cX14_size 108 = .ok (.getfield 196, 3) := by decide +kernel
theorem dX14_size_111 : decode cX14_size 111 = .ok (.ireturn, 1) := by decide +kernel
theorem dX14_size_112 : decode cX14_size 112 = .ok (.aload_n 0, 1) := by decide +kernel
theorem dX14_size_113 : decode cX14_size 113 = .ok (.getfield 442, 3) := by decide +kernel
theorem dX14_size_116 : decode cX14_size 116 = .ok (.getfield 229, 3) := by decide +kernel
theorem dX14_size_119 : decode cX14_size 119 = .ok (.ireturn, 1) := by decide +kernel
theorem dX14_size_120 : decode cX14_size 120 = .ok (.aload_n 0, 1) := by decide +kernel
theorem dX14_size_121 : decode cX14_size 121 = .ok (.getfield 442, 3) := by decide +kernel
theorem dX14_size_124 : decode cX14_size 124 = .ok (.getfield 241, 3) := by decide +kernel
theorem dX14_size_127 : decode cX14_size 127 = .ok (.ireturn, 1) := by decide +kernel
theorem dX14_size_128 : decode cX14_size 128 = .ok (.aload_n 0, 1) := by decide +kernel
theorem dX14_size_129 : decode cX14_size 129 = .ok (.getfield 442, 3) := by decide +kernel
theorem dX14_size_132 : decode cX14_size 132 = .ok (.getfield 306, 3) := by decide +kernel
theorem dX14_size_135 : decode cX14_size 135 = .ok (.ireturn, 1) := by decide +kernel
theorem dX14_size_136 : decode cX14_size 136 = .ok (.aload_n 0, 1) := by decide +kernel
theorem dX14_size_137 : decode cX14_size 137 = .ok (.getfield 442, 3) := by decide +kernel
theorem dX14_size_140 : decode cX14_size 140 = .ok (.getfield 320, 3) := by decide +kernel
theorem dX14_size_143 : decode cX14_size 143 = .ok (.ireturn, 1) := by decide +kernel
theorem dX14_size_144 : decode cX14_size 144 = .ok (.aload_n 0, 1) := by decide +kernel
theorem dX14_size_145 : decode cX14_size 145 = .ok (.getfield 442, 3) := by decide +kernel
theorem dX14_size_148 : decode cX14_size 148 = .ok (.getfield 328, 3) := by decide +kernel
theorem dX14_size_151 : decode cX14_size 151 = .ok (.ireturn, 1) := by decide +kernel
theorem dX14_size_152 : decode cX14_size 152 = .ok (.aload_n 0, 1) := by decide +kernel
theorem dX14_size_153 : decode cX14_size 153 = .ok (.getfield 442, 3) := by decide +kernel
theorem dX14_size_156 : decode cX14_size 156 = .ok (.getfield 370, 3) := by decide +kernel
theorem dX14_size_159 : decode cX14_size 159 = .ok (.ireturn, 1) := by decide +kernel
theorem dX14_size_160 : decode cX14_size 160 = .ok (.aload_n 0, 1) := by decide +kernel
theorem dX14_size_161 : decode cX14_size 161 = .ok (.getfield 442, 3) := by decide +kernel
theorem dX14_size_164 : decode cX14_size 164 = .ok (.getfield 388, 3) := by decide +kernel
theorem dX14_size_167 : decode cX14_size 167 = .ok (.ireturn, 1) := by decide +kernel
theorem dX14_size_168 : decode cX14_size 168 = .ok (.aload_n 0, 1) := by decide +kernel
theorem dX14_size_169 : decode cX14_size 169 = .ok (.getfield 442, 3) := by decide +kernel
theorem dX14_size_172 : decode cX14_size 172 = .ok (.getfield 393, 3) := by decide +kernel
theorem dX14_size_175 : decode cX14_size 175 = .ok (.ireturn, 1) := by decide +kernel
theorem dX14_size_176 : decode cX14_size 176 = .ok (.aload_n 0, 1) := by decide +kernel
theorem dX14_size_177 : decode cX14_size 177 = .ok (.getfield 442, 3) := by decide +kernel
theorem dX14_size_180 : decode cX14_size 180 = .ok (.getfield 413, 3) := by decide +kernel
theorem dX14_size_183 : decode cX14_size 183 = .ok (.ireturn, 1) := by decide +kernel
theorem dX14_size_184 : decode cX14_size 184 = .ok (.aload_n 0, 1) := by decide +kernel
theorem dX14_size_185 : decode cX14_size 185 = .ok (.getfield 442, 3) := by decide +kernel
theorem dX14_size_188 : decode cX14_size 188 = .ok (.getfield 419, 3) := by decide +kernel
theorem dX14_size_191 : decode cX14_size 191 = .ok (.ireturn, 1) := by decide +kernel
theorem dX14_size_192 : decode cX14_size 192 = .ok (.aload_n 0, 1) := by decide +kernel
theorem dX14_size_193 : decode cX14_size 193 = .ok (.getfield 442, 3) := by decide +kernel
theorem dX14_size_196 : decode cX14_size 196 = .ok (.invokevirtual 450, 3) := by decide +kernel
theorem dX14_size_199 : decode cX14_size 199 = .ok (.ireturn, 1) := by decide +kernel
theorem dX14_size_200 : decode cX14_size 200 = .ok (.aload_n 0, 1) := by decide +kernel
theorem dX14_size_201 : decode cX14_size 201 = .ok (.getfield 444, 3) := by decide +kernel
theorem dX14_size_204 : decode cX14_size 204 = .ok (.ireturn, 1) := by decide +kernel
theorem dX14_size_205 : decode cX14_size 205 = .ok (.aload_n 0, 1) := by decide +kernel
theorem dX14_size_206 : decode cX14_size 206 = .ok (.getfield 447, 3) := by decide +kernel
theorem dX14_size_209 : decode cX14_size 209 = .ok (.ireturn, 1) := by decide +kernel
set_option maxRecDepth 100000 in
set_option maxHeartbeats 4000000 in
theorem mX14_size {E : goEv} {l : Launch} {G : goG} {N : Nat} {M : goMI} {L : goML} {R : goMR} {v1 : Int32} {r0 : Int32} {r1 : goMI} (hk : goKn E) (hW : goW G R) (h : fX14_size N M R v1 = some (r0, r1)) : Met l yX14_size (goCd yX14_size cX14_size 2 (Option.some FieldType.int)) (goRoom 1 22 0 0) (goPre E [.ref 102, .int v1] G M L R) (goQi E r0 G r1 L R) 0 0 (goSet E) := by
  refine goMet pl_RX14 hk (lv := [some (.ref 102), some (.int v1)]) rfl (Nat.le_of_ble_eq_true rfl) ?_
  intro X hc hl hR hr hnm
  subst hl
  unfold fX14_size at h
  refine go_aload0 hc dX14_size_0 ?_
  refine go_iconst (v := 0) hc dX14_size_1 rfl ?_
  replace h := goNm_x h; obtain ⟨M11, e12, h⟩ := h
  refine go_ptI hc lk_RX14_66 dX14_size_2 (sh_102 hW) e12 ?_
  refine go_iload1 hc dX14_size_5 ?_
  refine go_bipush (v := 14) hc dX14_size_6 rfl ?_
  refine go_icmp_ne hc 16 dX14_size_8 rfl (fun c13 => ?_) (fun c13 => ?_)
  · replace h := goIfF h c13
    refine go_iload1 hc dX14_size_16 ?_
    refine go_iconst (v := 0) hc dX14_size_17 rfl ?_
    refine go_bipush (v := 13) hc dX14_size_18 rfl ?_
    refine go_callSi hc dX14_size_20 (mX14_within hk hW rfl) ml_RX14_147 yk_X14_within wst_X14_within hR rfl rfl rfl (Nat.le_of_ble_eq_true rfl) rfl ?_
    refine go_if_ne hc 28 dX14_size_23 rfl (fun c14 => ?_) (fun c14 => ?_)
    · replace h := goIfF h c14
      refine go_aload0 hc dX14_size_28 ?_
      refine go_getQ hc lk_RX14_442 dX14_size_29 (sh_102 hW) ?_
      refine go_ifnonnull hc 37 dX14_size_32 rfl (fun _ c15 => ?_) (fun c15 => ?_)
      · replace h := goIfF h (goNn c15)
        refine go_iload1 hc dX14_size_37 ?_
        by_cases c17 : v1 = 0
        · replace h := goIfT h c17
          refine go_tabIn hc 104 dX14_size_38 (v := 0) c17 (by decide) (by decide) rfl rfl ?_
          refine go_aload0 hc dX14_size_104 ?_
          replace h := goBind h; obtain ⟨b18, e19, h⟩ := h
          refine go_getR hc lk_RX14_442 dX14_size_105 (sh_102 hW) e19 ?_
          refine go_getI hc lk_RX14_196 dX14_size_108 (shM_0 (goW_M3 hW e19)) ?_
          cases h
          exact go_iret hc dX14_size_111 hr
        · replace h := goIfF h c17
          by_cases c20 : v1 = 1
          · replace h := goIfT h c20
            refine go_tabIn hc 112 dX14_size_38 (v := 1) c20 (by decide) (by decide) rfl rfl ?_
            refine go_aload0 hc dX14_size_112 ?_
            replace h := goBind h; obtain ⟨b21, e22, h⟩ := h
            refine go_getR hc lk_RX14_442 dX14_size_113 (sh_102 hW) e22 ?_
            refine go_getI hc lk_RX14_229 dX14_size_116 (shM_0 (goW_M3 hW e22)) ?_
            cases h
            exact go_iret hc dX14_size_119 hr
          · replace h := goIfF h c20
            by_cases c23 : v1 = 2
            · replace h := goIfT h c23
              refine go_tabIn hc 120 dX14_size_38 (v := 2) c23 (by decide) (by decide) rfl rfl ?_
              refine go_aload0 hc dX14_size_120 ?_
              replace h := goBind h; obtain ⟨b24, e25, h⟩ := h
              refine go_getR hc lk_RX14_442 dX14_size_121 (sh_102 hW) e25 ?_
              refine go_getI hc lk_RX14_241 dX14_size_124 (shM_0 (goW_M3 hW e25)) ?_
              cases h
              exact go_iret hc dX14_size_127 hr
            · replace h := goIfF h c23
              by_cases c26 : v1 = 3
              · replace h := goIfT h c26
                refine go_tabIn hc 128 dX14_size_38 (v := 3) c26 (by decide) (by decide) rfl rfl ?_
                refine go_aload0 hc dX14_size_128 ?_
                replace h := goBind h; obtain ⟨b27, e28, h⟩ := h
                refine go_getR hc lk_RX14_442 dX14_size_129 (sh_102 hW) e28 ?_
                refine go_getI hc lk_RX14_306 dX14_size_132 (shM_0 (goW_M3 hW e28)) ?_
                cases h
                exact go_iret hc dX14_size_135 hr
              · replace h := goIfF h c26
                by_cases c29 : v1 = 4
                · replace h := goIfT h c29
                  refine go_tabIn hc 136 dX14_size_38 (v := 4) c29 (by decide) (by decide) rfl rfl ?_
                  refine go_aload0 hc dX14_size_136 ?_
                  replace h := goBind h; obtain ⟨b30, e31, h⟩ := h
                  refine go_getR hc lk_RX14_442 dX14_size_137 (sh_102 hW) e31 ?_
                  refine go_getI hc lk_RX14_320 dX14_size_140 (shM_0 (goW_M3 hW e31)) ?_
                  cases h
                  exact go_iret hc dX14_size_143 hr
                · replace h := goIfF h c29
                  by_cases c32 : v1 = 5
                  · replace h := goIfT h c32
                    refine go_tabIn hc 144 dX14_size_38 (v := 5) c32 (by decide) (by decide) rfl rfl ?_
                    refine go_aload0 hc dX14_size_144 ?_
                    replace h := goBind h; obtain ⟨b33, e34, h⟩ := h
                    refine go_getR hc lk_RX14_442 dX14_size_145 (sh_102 hW) e34 ?_
                    refine go_getI hc lk_RX14_328 dX14_size_148 (shM_0 (goW_M3 hW e34)) ?_
                    cases h
                    exact go_iret hc dX14_size_151 hr
                  · replace h := goIfF h c32
                    by_cases c35 : v1 = 6
                    · replace h := goIfT h c35
                      refine go_tabIn hc 152 dX14_size_38 (v := 6) c35 (by decide) (by decide) rfl rfl ?_
                      refine go_aload0 hc dX14_size_152 ?_
                      replace h := goBind h; obtain ⟨b36, e37, h⟩ := h
                      refine go_getR hc lk_RX14_442 dX14_size_153 (sh_102 hW) e37 ?_
                      refine go_getI hc lk_RX14_370 dX14_size_156 (shM_0 (goW_M3 hW e37)) ?_
                      cases h
                      exact go_iret hc dX14_size_159 hr
                    · replace h := goIfF h c35
                      by_cases c38 : v1 = 7
                      · replace h := goIfT h c38
                        refine go_tabIn hc 160 dX14_size_38 (v := 7) c38 (by decide) (by decide) rfl rfl ?_
                        refine go_aload0 hc dX14_size_160 ?_
                        replace h := goBind h; obtain ⟨b39, e40, h⟩ := h
                        refine go_getR hc lk_RX14_442 dX14_size_161 (sh_102 hW) e40 ?_
                        refine go_getI hc lk_RX14_388 dX14_size_164 (shM_0 (goW_M3 hW e40)) ?_
                        cases h
                        exact go_iret hc dX14_size_167 hr
                      · replace h := goIfF h c38
                        by_cases c41 : v1 = 8
                        · replace h := goIfT h c41
                          refine go_tabIn hc 168 dX14_size_38 (v := 8) c41 (by decide) (by decide) rfl rfl ?_
                          refine go_aload0 hc dX14_size_168 ?_
                          replace h := goBind h; obtain ⟨b42, e43, h⟩ := h
                          refine go_getR hc lk_RX14_442 dX14_size_169 (sh_102 hW) e43 ?_
                          refine go_getI hc lk_RX14_393 dX14_size_172 (shM_0 (goW_M3 hW e43)) ?_
                          cases h
                          exact go_iret hc dX14_size_175 hr
                        · replace h := goIfF h c41
                          by_cases c44 : v1 = 9
                          · replace h := goIfT h c44
                            refine go_tabIn hc 176 dX14_size_38 (v := 9) c44 (by decide) (by decide) rfl rfl ?_
                            refine go_aload0 hc dX14_size_176 ?_
                            replace h := goBind h; obtain ⟨b45, e46, h⟩ := h
                            refine go_getR hc lk_RX14_442 dX14_size_177 (sh_102 hW) e46 ?_
                            refine go_getI hc lk_RX14_413 dX14_size_180 (shM_0 (goW_M3 hW e46)) ?_
                            cases h
                            exact go_iret hc dX14_size_183 hr
                          · replace h := goIfF h c44
                            by_cases c47 : v1 = 10
                            · replace h := goIfT h c47
                              refine go_tabIn hc 184 dX14_size_38 (v := 10) c47 (by decide) (by decide) rfl rfl ?_
                              refine go_aload0 hc dX14_size_184 ?_
                              replace h := goBind h; obtain ⟨b48, e49, h⟩ := h
                              refine go_getR hc lk_RX14_442 dX14_size_185 (sh_102 hW) e49 ?_
                              refine go_getI hc lk_RX14_419 dX14_size_188 (shM_0 (goW_M3 hW e49)) ?_
                              cases h
                              exact go_iret hc dX14_size_191 hr
                            · replace h := goIfF h c47
                              by_cases c50 : v1 = 11
                              · replace h := goIfT h c50
                                refine go_tabIn hc 192 dX14_size_38 (v := 11) c50 (by decide) (by decide) rfl rfl ?_
                                refine go_aload0 hc dX14_size_192 ?_
                                replace h := goBind h; obtain ⟨b51, e52, h⟩ := h
                                refine go_getR hc lk_RX14_442 dX14_size_193 (sh_102 hW) e52 ?_
                                replace h := goBind h; obtain ⟨x53, e54, h⟩ := h
                                refine go_callVi hc dX14_size_196 (mX13_cases hk hW (goW_M3 hW e52) e54) ml_RX14_450 yk_X13_cases ⟨wim_X13_cases, wse_X13_cases⟩ hR rfl (shM_0 (goW_M3 hW e52)) rfl rfl rfl (Nat.le_of_ble_eq_true rfl) rfl ?_
                                cases h
                                exact go_iret hc dX14_size_199 hr
                              · replace h := goIfF h c50
                                by_cases c55 : v1 = 12
                                · replace h := goIfT h c55
                                  refine go_tabIn hc 200 dX14_size_38 (v := 12) c55 (by decide) (by decide) rfl rfl ?_
                                  refine go_aload0 hc dX14_size_200 ?_
                                  refine go_getI hc lk_RX14_444 dX14_size_201 (sh_102 hW) ?_
                                  cases h
                                  exact go_iret hc dX14_size_204 hr
                                · replace h := goIfF h c55
                                  refine go_tabOut hc 205 dX14_size_38 (goTo13 c17 c20 c23 c26 c29 c32 c35 c38 c41 c44 c47 c50 c55) rfl ?_
                                  refine go_aload0 hc dX14_size_205 ?_
                                  refine go_getI hc lk_RX14_447 dX14_size_206 (sh_102 hW) ?_
                                  cases h
                                  exact go_iret hc dX14_size_209 hr
      · replace h := goIfT h c15
        refine go_iconst (v := 0) hc dX14_size_35 rfl ?_
        cases h
        exact go_iret hc dX14_size_36 hr
    · replace h := goIfT h c14
      refine go_iconst (v := (-1)) hc dX14_size_26 rfl ?_
      cases h
      exact go_iret hc dX14_size_27 hr
  · replace h := goIfT h c13
    refine go_aload0 hc dX14_size_11 ?_
    refine go_getI hc lk_RX14_435 dX14_size_12 (sh_102 hW) ?_
    cases h
    exact go_iret hc dX14_size_15 hr
theorem dX14_trouble_0 : decode cX14_trouble 0 = .ok (.aload_n 0, 1) := by decide +kernel
theorem dX14_trouble_1 : decode cX14_trouble 1 = .ok (.iconst 0, 1) := by decide +kernel
theorem dX14_trouble_2 : decode cX14_trouble 2 = .ok (.putfield 66, 3) := by decide +kernel
theorem dX14_trouble_5 : decode cX14_trouble 5 = .ok (.aload_n 0, 1) := by decide +kernel
theorem dX14_trouble_6 : decode cX14_trouble 6 = .ok (.getfield 69, 3) := by decide +kernel
theorem dX14_trouble_9 : decode cX14_trouble 9 = .ok (.ireturn, 1) := by decide +kernel
set_option maxRecDepth 100000 in
set_option maxHeartbeats 4000000 in
theorem mX14_trouble {E : goEv} {l : Launch} {G : goG} {M : goMI} {L : goML} {R : goMR} {r0 : Int32} {r1 : goMI} (hk : goKn E) (hW : goW G R) (h : fX14_trouble M = some (r0, r1)) : Met l yX14_trouble (goCd yX14_trouble cX14_trouble 1 (Option.some FieldType.int)) (goRoom 0 0 0 0) (goPre E [.ref 102] G M L R) (goQi E r0 G r1 L R) 0 0 (goSet E) := by
  refine goMet pl_RX14 hk (lv := [some (.ref 102)]) rfl (Nat.le_of_ble_eq_true rfl) ?_
  intro X hc hl hR hr hnm
  subst hl
  unfold fX14_trouble at h
  refine go_aload0 hc dX14_trouble_0 ?_
  refine go_iconst (v := 0) hc dX14_trouble_1 rfl ?_
  replace h := goNm_x h; obtain ⟨M11, e12, h⟩ := h
  refine go_ptI hc lk_RX14_66 dX14_trouble_2 (sh_102 hW) e12 ?_
  refine go_aload0 hc dX14_trouble_5 ?_
  refine go_getI hc lk_RX14_69 dX14_trouble_6 (sh_102 hW) ?_
  cases h
  exact go_iret hc dX14_trouble_9 hr
