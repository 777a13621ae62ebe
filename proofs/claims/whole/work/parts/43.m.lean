theorem dX14_lies_0 : decode cX14_lies 0 = .ok (.aload_n 0, 1) := by decide +kernel
theorem dX14_lies_1 : decode cX14_lies 1 = .ok (.iconst 0, 1) := by decide +kernel
theorem dX14_lies_2 : decode cX14_lies 2 = .ok (.putfield 66, 3) := by decide +kernel
theorem dX14_lies_5 : decode cX14_lies 5 = .ok (.aload_n 0, 1) := by decide +kernel
theorem dX14_lies_6 : decode cX14_lies 6 = .ok (.iload_n 1, 1) := by decide +kernel
theorem dX14_lies_7 : decode cX14_lies 7 = .ok (.invokevirtual 506, 3) := by decide +kernel
theorem dX14_lies_10 : decode cX14_lies 10 = .ok (.ifCond .ne 9, 3) := by decide +kernel
theorem dX14_lies_13 : decode cX14_lies 13 = .ok (.aload_n 0, 1) := by decide +kernel
theorem dX14_lies_14 : decode cX14_lies 14 = .ok (.iconst 1, 1) := by decide +kernel
theorem dX14_lies_15 : decode cX14_lies 15 = .ok (.invokevirtual 72, 3) := by decide +kernel
theorem dX14_lies_18 : decode cX14_lies 18 = .ok (.ireturn, 1) := by decide +kernel
theorem dX14_lies_19 : decode cX14_lies 19 = .ok (.aload_n 0, 1) := by decide +kernel
theorem dX14_lies_20 : decode cX14_lies 20 = .ok (.invokevirtual 523, 3) := by decide +kernel
theorem dX14_lies_23 : decode cX14_lies 23 = .ok (.iconst 1, 1) := by decide +kernel
theorem dX14_lies_24 : decode cX14_lies 24 = .ok (.aload_n 0, 1) := by decide +kernel
theorem dX14_lies_25 : decode cX14_lies 25 = .ok (.getfield 442, 3) := by decide +kernel
theorem dX14_lies_28 : decode cX14_lies 28 = .ok (.getfield 323, 3) := by decide +kernel
theorem dX14_lies_31 : decode cX14_lies 31 = .ok (.iload_n 1, 1) := by decide +kernel
theorem dX14_lies_32 : decode cX14_lies 32 = .ok (.iaload, 1) := by decide +kernel
theorem dX14_lies_33 : decode cX14_lies 33 = .ok (.ishl, 1) := by decide +kernel
theorem dX14_lies_34 : decode cX14_lies 34 = .ok (.iconst 1, 1) := by decide +kernel
theorem dX14_lies_35 : decode cX14_lies 35 = .ok (.isub, 1) := by decide +kernel
theorem dX14_lies_36 : decode cX14_lies 36 = .ok (.istore_n 2, 1) := by decide +kernel
theorem dX14_lies_37 : decode cX14_lies 37 = .ok (.iconst 0, 1) := by decide +kernel
theorem dX14_lies_38 : decode cX14_lies 38 = .ok (.istore_n 3, 1) := by decide +kernel
theorem dX14_lies_39 : decode cX14_lies 39 = .ok (.iload_n 3, 1) := by decide +kernel
theorem dX14_lies_40 : decode cX14_lies 40 = .ok (.aload_n 0, 1) := by decide +kernel
theorem dX14_lies_41 : decode cX14_lies 41 = .ok (.getfield 442, 3) := by decide +kernel
theorem dX14_lies_44 : decode cX14_lies 44 = .ok (.invokevirtual 450, 3) := by decide +kernel
theorem dX14_lies_47 : decode cX14_lies 47 = .ok (.if_icmp .ge 49, 3) := by decide +kernel
theorem dX14_lies_50 : decode cX14_lies 50 = .ok (.aload_n 0, 1) := by decide +kernel
theorem dX14_lies_51 : decode cX14_lies 51 = .ok (.getfield 442, 3) := by decide +kernel
theorem dX14_lies_54 : decode cX14_lies 54 = .ok (.getfield 323, 3) := by decide +kernel
theorem dX14_lies_57 : decode cX14_lies 57 = .ok (.iload_n 1, 1) := by decide +kernel
theorem dX14_lies_58 : decode cX14_lies 58 = .ok (.iaload, 1) := by decide +kernel
theorem dX14_lies_59 : decode cX14_lies 59 = .ok (.ifCond .le 31, 3) := by decide +kernel
theorem dX14_lies_62 : decode cX14_lies 62 = .ok (.aload_n 0, 1) := by decide +kernel
theorem dX14_lies_63 : decode cX14_lies 63 = .ok (.iload_n 3, 1) := by decide +kernel
theorem dX14_lies_64 : decode cX14_lies 64 = .ok (.aload_n 0, 1) := by decide +kernel
theorem dX14_lies_65 : decode cX14_lies 65 = .ok (.invokevirtual 526, 3) := by decide +kernel
theorem dX14_lies_68 : decode cX14_lies 68 = .ok (.invokevirtual 529, 3) := by decide +kernel
theorem dX14_lies_71 : decode cX14_lies 71 = .ok (.ifCond .eq 19, 3) := by decide +kernel
theorem dX14_lies_74 : decode cX14_lies 74 = .ok (.iload_n 2, 1) := by decide +kernel
theorem dX14_lies_75 : decode cX14_lies 75 = .ok (.iconst 1, 1) := by decide +kernel
theorem dX14_lies_76 : decode cX14_lies 76 = .ok (.aload_n 0, 1) := by decide +kernel
theorem dX14_lies_77 : decode cX14_lies 77 = .ok (.getfield 442, 3) := by decide +kernel
theorem dX14_lies_80 : decode cX14_lies 80 = .ok (.iload_n 3, 1) := by decide +kernel
theorem dX14_lies_81 : decode cX14_lies 81 = .ok (.iload_n 1, 1) := by decide +kernel
theorem dX14_lies_82 : decode cX14_lies 82 = .ok (.invokevirtual 517, 3) := by decide +kernel
theorem dX14_lies_85 : decode cX14_lies 85 = .ok (.ishl, 1) := by decide +kernel
theorem dX14_lies_86 : decode cX14_lies 86 = .ok (.iconst (-1), 1) := by decide +kernel
theorem dX14_lies_87 : decode cX14_lies 87 = .ok (.ixor, 1) := by decide +kernel
theorem dX14_lies_88 : decode cX14_lies 88 = .ok (.iand, 1) := by decide +kernel
theorem dX14_lies_89 : decode cX14_lies 89 = .ok (.istore_n 2, 1) := by decide +kernel
theorem dX14_lies_90 : decode cX14_lies 90 = .ok (.iinc 3 1, 3) := by decide +kernel
theorem dX14_lies_93 : decode cX14_lies 93 = .ok (.goto (-54), 3) := by decide +kernel
theorem dX14_lies_96 : decode cX14_lies 96 = .ok (.aload_n 0, 1) := by decide +kernel
theorem dX14_lies_97 : decode cX14_lies 97 = .ok (.iload_n 2, 1) := by decide +kernel
theorem dX14_lies_98 : decode cX14_lies 98 = .ok (.invokevirtual 76, 3) := by decide +kernel
theorem dX14_lies_101 : decode cX14_lies 101 = .ok (.ireturn, 1) := by decide +kernel
set_option maxRecDepth 100000 in
set_option maxHeartbeats 4000000 in
theorem mX14_lies_L39 {E : goEv} {X : goX} {G : goG} {Q : State → Prop} {M : goMI} {L : goML} {R : goMR} {N : Nat} {v1 : Int32} (hc : goCx E X cX14_lies RX14 4) (hk : goKn E) (hR : X.2.2.2.1 = goRoom 7 168 0 0) (hr : X.2.2.2.2.2.2.2.2.1.sig.returnType = (Option.some FieldType.int)) (hW : goW G R) : ∀ (n : Nat) (v2 : Int32) (v3 : Int32) (r0 : Int32), lX14_lies_39 N v1 M R n v2 v3 = some r0 → (∀ (d1 d3 : Option Value), goA E X G 0 0 Q 96 [some (.ref 102), d1, some (.int r0), d3] [] M L R) → goA E X G 0 0 Q 39 [some (.ref 102), some (.int v1), some (.int v2), some (.int v3)] [] M L R := by
  intro n
  induction n with
  | zero => intro v2 v3 r0 h; exact nomatch h
  | succ n ih =>
    intro v2 v3 r0 h kx
    rw [lX14_lies_39] at h
    refine go_iload3 hc dX14_lies_39 ?_
    refine go_aload0 hc dX14_lies_40 ?_
    replace h := goBind h; obtain ⟨b24, e25, h⟩ := h
    refine go_getR hc lk_RX14_442 dX14_lies_41 (sh_102 hW) e25 ?_
    replace h := goBind h; obtain ⟨x26, e27, h⟩ := h
    refine go_callVi hc dX14_lies_44 (mX13_cases hk hW (goW_M3 hW e25) e27) ml_RX14_450 yk_X13_cases ⟨wim_X13_cases, wse_X13_cases⟩ hR rfl (shM_0 (goW_M3 hW e25)) rfl rfl rfl (Nat.le_of_ble_eq_true rfl) rfl ?_
    refine go_icmp_ge hc 96 dX14_lies_47 rfl (fun c28 => ?_) (fun c28 => ?_)
    · replace h := goIfF h c28
      cases h
      exact kx _ _
    · replace h := goIfT h c28
      refine go_aload0 hc dX14_lies_50 ?_
      replace h := goBind h; obtain ⟨b29, e30, h⟩ := h
      refine go_getR hc lk_RX14_442 dX14_lies_51 (sh_102 hW) e30 ?_
      refine go_getR hc lk_RX14_323 dX14_lies_54 (shM_0 (goW_M3 hW e30)) (rfM_19 (goW_M3 hW e30)) ?_
      refine go_iload1 hc dX14_lies_57 ?_
      replace h := goBind h; obtain ⟨x31, e32, h⟩ := h
      refine go_iald hc dX14_lies_58 (shM_4 (goW_M3 hW e30)) e32 ?_
      replace h := goBind h; obtain ⟨x33, e34, h⟩ := h
      have k35 : goA E X G 0 0 Q 90 [some (.ref 102), some (.int v1), some (.int x33), some (.int v3)] [] M L R := by
        refine go_iinc3 (v := (v3 + 1)) hc dX14_lies_90 rfl ?_
        refine go_goto hc 39 dX14_lies_93 rfl ?_
        exact ih _ _ _ h kx
      refine go_if_le hc 90 dX14_lies_59 rfl (fun c36 => ?_) (fun c36 => ?_)
      · replace e34 := goIfF e34 c36
        cases e34
        exact k35
      · replace e34 := goIfT e34 c36
        refine go_aload0 hc dX14_lies_62 ?_
        refine go_iload3 hc dX14_lies_63 ?_
        refine go_aload0 hc dX14_lies_64 ?_
        replace e34 := goBind e34; obtain ⟨x37, e38, e34⟩ := e34
        refine go_callVi hc dX14_lies_65 (mX14_heard hk hW e38) ml_RX14_526 yk_X14_heard ⟨wim_X14_heard, wse_X14_heard⟩ hR rfl (sh_102 hW) rfl rfl rfl (Nat.le_of_ble_eq_true rfl) rfl ?_
        replace e34 := goBind e34; obtain ⟨x39, e40, e34⟩ := e34
        refine go_callVi hc dX14_lies_68 (mX14_areTrue hk hW e40) ml_RX14_529 yk_X14_areTrue ⟨wim_X14_areTrue, wse_X14_areTrue⟩ hR rfl (sh_102 hW) rfl rfl rfl (Nat.le_of_ble_eq_true rfl) rfl ?_
        refine go_if_eq hc 90 dX14_lies_71 rfl (fun c41 => ?_) (fun c41 => ?_)
        · replace e34 := goIfT e34 c41
          cases e34
          exact k35
        · replace e34 := goIfF e34 c41
          refine go_iload2 hc dX14_lies_74 ?_
          refine go_iconst (v := 1) hc dX14_lies_75 rfl ?_
          refine go_aload0 hc dX14_lies_76 ?_
          replace e34 := goBind e34; obtain ⟨b42, e43, e34⟩ := e34
          refine go_getR hc lk_RX14_442 dX14_lies_77 (sh_102 hW) e43 ?_
          refine go_iload3 hc dX14_lies_80 ?_
          refine go_iload1 hc dX14_lies_81 ?_
          replace e34 := goBind e34; obtain ⟨x44, e45, e34⟩ := e34
          refine go_callVi hc dX14_lies_82 (mX13_storyOf hk hW (goW_M3 hW e43) e45) ml_RX14_517 yk_X13_storyOf ⟨wim_X13_storyOf, wse_X13_storyOf⟩ hR rfl (shM_0 (goW_M3 hW e43)) rfl rfl rfl (Nat.le_of_ble_eq_true rfl) rfl ?_
          refine go_ishl hc dX14_lies_85 ?_
          refine go_iconst (v := (-1)) hc dX14_lies_86 rfl ?_
          refine go_ixor hc dX14_lies_87 ?_
          refine go_iand hc dX14_lies_88 ?_
          replace e34 := goNm_x e34; obtain ⟨x46, e47, e34⟩ := e34
          refine go_nmI e47 ?_
          refine go_istore2 hc dX14_lies_89 ?_
          cases e34
          exact k35
set_option maxRecDepth 100000 in
set_option maxHeartbeats 4000000 in
theorem mX14_lies {E : goEv} {l : Launch} {G : goG} {N : Nat} {M : goMI} {L : goML} {R : goMR} {v1 : Int32} {r0 : Int32} {r1 : goMI} (hk : goKn E) (hW : goW G R) (h : fX14_lies N M R v1 = some (r0, r1)) : Met l yX14_lies (goCd yX14_lies cX14_lies 4 (Option.some FieldType.int)) (goRoom 7 168 0 0) (goPre E [.ref 102, .int v1] G M L R) (goQi E r0 G r1 L R) 0 0 (goSet E) := by
  refine goMet pl_RX14 hk (lv := [some (.ref 102), some (.int v1), none, none]) rfl (Nat.le_of_ble_eq_true rfl) ?_
  intro X hc hl hR hr hnm
  subst hl
  unfold fX14_lies at h
  refine go_aload0 hc dX14_lies_0 ?_
  refine go_iconst (v := 0) hc dX14_lies_1 rfl ?_
  replace h := goNm_x h; obtain ⟨M11, e12, h⟩ := h
  refine go_ptI hc lk_RX14_66 dX14_lies_2 (sh_102 hW) e12 ?_
  refine go_aload0 hc dX14_lies_5 ?_
  refine go_iload1 hc dX14_lies_6 ?_
  replace h := goBind h; obtain ⟨x13, e14, h⟩ := h
  refine go_callVi hc dX14_lies_7 (mX14_isPerson hk hW e14) ml_RX14_506 yk_X14_isPerson ⟨wim_X14_isPerson, wse_X14_isPerson⟩ hR rfl (sh_102 hW) rfl rfl rfl (Nat.le_of_ble_eq_true rfl) rfl ?_
  refine go_if_ne hc 19 dX14_lies_10 rfl (fun c15 => ?_) (fun c15 => ?_)
  · replace h := goIfF h c15
    refine go_aload0 hc dX14_lies_19 ?_
    replace h := goBind h; obtain ⟨M16, e17, h⟩ := h
    refine go_callVv hc dX14_lies_20 (mX14_laysHonest hk hW e17) ml_RX14_523 yk_X14_laysHonest ⟨wim_X14_laysHonest, wse_X14_laysHonest⟩ hR rfl (sh_102 hW) rfl rfl rfl (Nat.le_of_ble_eq_true rfl) rfl ?_
    refine go_iconst (v := 1) hc dX14_lies_23 rfl ?_
    refine go_aload0 hc dX14_lies_24 ?_
    replace h := goBind h; obtain ⟨b18, e19, h⟩ := h
    refine go_getR hc lk_RX14_442 dX14_lies_25 (sh_102 hW) e19 ?_
    refine go_getR hc lk_RX14_323 dX14_lies_28 (shM_0 (goW_M3 hW e19)) (rfM_19 (goW_M3 hW e19)) ?_
    refine go_iload1 hc dX14_lies_31 ?_
    replace h := goBind h; obtain ⟨x20, e21, h⟩ := h
    refine go_iald hc dX14_lies_32 (shM_4 (goW_M3 hW e19)) e21 ?_
    refine go_ishl hc dX14_lies_33 ?_
    refine go_iconst (v := 1) hc dX14_lies_34 rfl ?_
    refine go_isub hc dX14_lies_35 ?_
    replace h := goNm_x h; obtain ⟨x22, e23, h⟩ := h
    refine go_nmI e23 ?_
    refine go_istore2 hc dX14_lies_36 ?_
    refine go_iconst (v := 0) hc dX14_lies_37 rfl ?_
    refine go_istore3 hc dX14_lies_38 ?_
    replace h := goBind h; obtain ⟨x49, e48, h⟩ := h
    refine mX14_lies_L39 hc hk hR hr hW _ _ _ _ e48 (fun d1 d3 => ?_)
    refine go_aload0 hc dX14_lies_96 ?_
    refine go_iload2 hc dX14_lies_97 ?_
    replace h := goB2_h h; obtain ⟨x50, M51, e52, h⟩ := h
    refine go_callVi hc dX14_lies_98 (mX14_good hk hW e52) ml_RX14_76 yk_X14_good ⟨wim_X14_good, wse_X14_good⟩ hR rfl (sh_102 hW) rfl rfl rfl (Nat.le_of_ble_eq_true rfl) rfl ?_
    cases h
    exact go_iret hc dX14_lies_101 hr
  · replace h := goIfT h c15
    refine go_aload0 hc dX14_lies_13 ?_
    refine go_iconst (v := 1) hc dX14_lies_14 rfl ?_
    replace h := goB2_h h; obtain ⟨x53, M54, e55, h⟩ := h
    refine go_callVi hc dX14_lies_15 (mX14_refused hk hW e55) ml_RX14_72 yk_X14_refused ⟨wim_X14_refused, wse_X14_refused⟩ hR rfl (sh_102 hW) rfl rfl rfl (Nat.le_of_ble_eq_true rfl) rfl ?_
    cases h
    exact go_iret hc dX14_lies_18 hr
theorem dX14_anyFits_0 : decode cX14_anyFits 0 = .ok (.iconst 0, 1) := by decide +kernel
theorem dX14_anyFits_1 : decode cX14_anyFits 1 = .ok (.istore_n 2, 1) := by decide +kernel
theorem dX14_anyFits_2 : decode cX14_anyFits 2 = .ok (.iload_n 2, 1) := by decide +kernel
theorem dX14_anyFits_3 : decode cX14_anyFits 3 = .ok (.aload_n 0, 1) := by decide +kernel
theorem dX14_anyFits_4 : decode cX14_anyFits 4 = .ok (.getfield 442, 3) := by decide +kernel
theorem dX14_anyFits_7 : decode cX14_anyFits 7 = .ok (.invokevirtual 450, 3) := by decide +kernel
theorem dX14_anyFits_10 : decode cX14_anyFits 10 = .ok (.if_icmp .ge 20, 3) := by decide +kernel
theorem dX14_anyFits_13 : decode cX14_anyFits 13 = .ok (.aload_n 0, 1) := by decide +kernel
theorem dX14_anyFits_14 : decode cX14_anyFits 14 = .ok (.iload_n 2, 1) := by decide +kernel
theorem dX14_anyFits_15 : decode cX14_anyFits 15 = .ok (.iload_n 1, 1) := by decide +kernel
theorem dX14_anyFits_16 : decode cX14_anyFits 16 = .ok (.invokevirtual 529, 3) := by decide +kernel
theorem dX14_anyFits_19 : decode cX14_anyFits 19 = .ok (.ifCond .eq 5, 3) := by decide +kernel
theorem dX14_anyFits_22 : decode cX14_anyFits 22 = .ok (.iconst 1, 1) := by decide +kernel
theorem dX14_anyFits_23 : decode cX14_anyFits 23 = .ok (.ireturn, 1) := by decide +kernel
theorem dX14_anyFits_24 : decode cX14_anyFits 24 = .ok (.iinc 2 1, 3) := by decide +kernel
theorem dX14_anyFits_27 : decode cX14_anyFits 27 = .ok (.goto (-25), 3) := by decide +kernel
theorem dX14_anyFits_30 : decode cX14_anyFits 30 = .ok (.iconst 0, 1) := by decide +kernel
theorem dX14_anyFits_31 : decode cX14_anyFits 31 = .ok (.ireturn, 1) := by decide +kernel
set_option maxRecDepth 100000 in
set_option maxHeartbeats 4000000 in
theorem mX14_anyFits_L2 {E : goEv} {X : goX} {G : goG} {M : goMI} {L : goML} {R : goMR} {N : Nat} {v1 : Int32} {r0 : Int32} (hc : goCx E X cX14_anyFits RX14 3) (hk : goKn E) (hR : X.2.2.2.1 = goRoom 1 22 0 0) (hr : X.2.2.2.2.2.2.2.2.1.sig.returnType = (Option.some FieldType.boolean)) (hW : goW G R) : ∀ (n : Nat) (v2 : Int32), lX14_anyFits_2 N v1 M R n v2 = some r0 → goA E X G 0 0 (goMQ X E (goQi E r0 G M L R) 0 0) 2 [some (.ref 102), some (.int v1), some (.int v2)] [] M L R := by
  intro n
  induction n with
  | zero => intro v2 h; exact nomatch h
  | succ n ih =>
    intro v2 h
    rw [lX14_anyFits_2] at h
    refine go_iload2 hc dX14_anyFits_2 ?_
    refine go_aload0 hc dX14_anyFits_3 ?_
    replace h := goBind h; obtain ⟨b11, e12, h⟩ := h
    refine go_getR hc lk_RX14_442 dX14_anyFits_4 (sh_102 hW) e12 ?_
    replace h := goBind h; obtain ⟨x13, e14, h⟩ := h
    refine go_callVi hc dX14_anyFits_7 (mX13_cases hk hW (goW_M3 hW e12) e14) ml_RX14_450 yk_X13_cases ⟨wim_X13_cases, wse_X13_cases⟩ hR rfl (shM_0 (goW_M3 hW e12)) rfl rfl rfl (Nat.le_of_ble_eq_true rfl) rfl ?_
    refine go_icmp_ge hc 30 dX14_anyFits_10 rfl (fun c15 => ?_) (fun c15 => ?_)
    · replace h := goIfF h c15
      refine go_iconst (v := 0) hc dX14_anyFits_30 rfl ?_
      cases h
      exact go_zret hc dX14_anyFits_31 hr rfl
    · replace h := goIfT h c15
      refine go_aload0 hc dX14_anyFits_13 ?_
      refine go_iload2 hc dX14_anyFits_14 ?_
      refine go_iload1 hc dX14_anyFits_15 ?_
      replace h := goBind h; obtain ⟨x16, e17, h⟩ := h
      refine go_callVi hc dX14_anyFits_16 (mX14_areTrue hk hW e17) ml_RX14_529 yk_X14_areTrue ⟨wim_X14_areTrue, wse_X14_areTrue⟩ hR rfl (sh_102 hW) rfl rfl rfl (Nat.le_of_ble_eq_true rfl) rfl ?_
      refine go_if_eq hc 24 dX14_anyFits_19 rfl (fun c18 => ?_) (fun c18 => ?_)
      · replace h := goIfT h c18
        refine go_iinc2 (v := (v2 + 1)) hc dX14_anyFits_24 rfl ?_
        refine go_goto hc 2 dX14_anyFits_27 rfl ?_
        exact ih _ h
      · replace h := goIfF h c18
        refine go_iconst (v := 1) hc dX14_anyFits_22 rfl ?_
        cases h
        exact go_zret hc dX14_anyFits_23 hr rfl
set_option maxRecDepth 100000 in
set_option maxHeartbeats 4000000 in
theorem mX14_anyFits {E : goEv} {l : Launch} {G : goG} {N : Nat} {M : goMI} {L : goML} {R : goMR} {v1 : Int32} {r0 : Int32} (hk : goKn E) (hW : goW G R) (h : fX14_anyFits N M R v1 = some r0) : Met l yX14_anyFits (goCd yX14_anyFits cX14_anyFits 3 (Option.some FieldType.boolean)) (goRoom 1 22 0 0) (goPre E [.ref 102, .int v1] G M L R) (goQi E r0 G M L R) 0 0 (goSet E) := by
  refine goMet pl_RX14 hk (lv := [some (.ref 102), some (.int v1), none]) rfl (Nat.le_of_ble_eq_true rfl) ?_
  intro X hc hl hR hr hnm
  subst hl
  unfold fX14_anyFits at h
  refine go_iconst (v := 0) hc dX14_anyFits_0 rfl ?_
  refine go_istore2 hc dX14_anyFits_1 ?_
  exact mX14_anyFits_L2 hc hk hR hr hW _ _ h
theorem dX14_falseOnes_0 : decode cX14_falseOnes 0 = .ok (.aload_n 0, 1) := by decide +kernel
theorem dX14_falseOnes_1 : decode cX14_falseOnes 1 = .ok (.iconst 0, 1) := by decide +kernel
theorem dX14_falseOnes_2 : decode cX14_falseOnes 2 = .ok (.putfield 66, 3) := by decide +kernel
theorem dX14_falseOnes_5 : decode cX14_falseOnes 5 = .ok (.aload_n 0, 1) := by decide +kernel
theorem dX14_falseOnes_6 : decode cX14_falseOnes 6 = .ok (.getfield 442, 3) := by decide +kernel
theorem dX14_falseOnes_9 : decode cX14_falseOnes 9 = .ok (.ifnonnull 9, 3) := by decide +kernel
theorem dX14_falseOnes_12 : decode cX14_falseOnes 12 = .ok (.aload_n 0, 1) := by decide +kernel
theorem dX14_falseOnes_13 : decode cX14_falseOnes 13 = .ok (.iconst 1, 1) := by decide +kernel
theorem dX14_falseOnes_14 : decode cX14_falseOnes 14 = .ok (.invokevirtual 72, 3) := by decide +kernel
theorem dX14_falseOnes_17 : decode cX14_falseOnes 17 = .ok (.ireturn, 1) := by decide +kernel
theorem dX14_falseOnes_18 : decode cX14_falseOnes 18 = .ok (.aload_n 0, 1) := by decide +kernel
theorem dX14_falseOnes_19 : decode cX14_falseOnes 19 = .ok (.invokevirtual 523, 3) := by decide +kernel
theorem dX14_falseOnes_22 : decode cX14_falseOnes 22 = .ok (.bipush (-2), 2) := by decide +kernel
theorem dX14_falseOnes_24 : decode cX14_falseOnes 24 = .ok (.istore_n 1, 1) := by decide +kernel
theorem dX14_falseOnes_25 : decode cX14_falseOnes 25 = .ok (.iconst 0, 1) := by decide +kernel
theorem dX14_falseOnes_26 : decode cX14_falseOnes 26 = .ok (.istore_n 2, 1) := by decide +kernel
theorem dX14_falseOnes_27 : decode cX14_falseOnes 27 = .ok (.iload_n 2, 1) := by decide +kernel
theorem dX14_falseOnes_28 : decode cX14_falseOnes 28 = .ok (.aload_n 0, 1) := by decide +kernel
theorem dX14_falseOnes_29 : decode cX14_falseOnes 29 = .ok (.invokevirtual 488, 3) := by decide +kernel
theorem dX14_falseOnes_32 : decode cX14_falseOnes 32 = .ok (.if_icmp .gt 54, 3) := by decide +kernel
theorem dX14_falseOnes_35 : decode cX14_falseOnes 35 = .ok (.iload_n 2, 1) := by decide +kernel
theorem dX14_falseOnes_36 : decode cX14_falseOnes 36 = .ok (.aload_n 0, 1) := by decide +kernel
theorem dX14_falseOnes_37 : decode cX14_falseOnes 37 = .ok (.invokevirtual 526, 3) := by decide +kernel
theorem dX14_falseOnes_40 : decode cX14_falseOnes 40 = .ok (.iconst (-1), 1) := by decide +kernel
theorem dX14_falseOnes_41 : decode cX14_falseOnes 41 = .ok (.ixor, 1) := by decide +kernel
theorem dX14_falseOnes_42 : decode cX14_falseOnes 42 = .ok (.iand, 1) := by decide +kernel
theorem dX14_falseOnes_43 : decode cX14_falseOnes 43 = .ok (.ifCond .ne 37, 3) := by decide +kernel
theorem dX14_falseOnes_46 : decode cX14_falseOnes 46 = .ok (.iload_n 1, 1) := by decide +kernel
theorem dX14_falseOnes_47 : decode cX14_falseOnes 47 = .ok (.bipush (-2), 2) := by decide +kernel
theorem dX14_falseOnes_49 : decode cX14_falseOnes 49 = .ok (.if_icmp .eq 14, 3) := by decide +kernel
theorem dX14_falseOnes_52 : decode cX14_falseOnes 52 = .ok (.iload_n 2, 1) := by decide +kernel
theorem dX14_falseOnes_53 : decode cX14_falseOnes 53 = .ok (.invokestatic 396, 3) := by decide +kernel
theorem dX14_falseOnes_56 : decode cX14_falseOnes 56 = .ok (.iload_n 1, 1) := by decide +kernel
theorem dX14_falseOnes_57 : decode cX14_falseOnes 57 = .ok (.invokestatic 396, 3) := by decide +kernel
theorem dX14_falseOnes_60 : decode cX14_falseOnes 60 = .ok (.if_icmp .ge 20, 3) := by decide +kernel
theorem dX14_falseOnes_63 : decode cX14_falseOnes 63 = .ok (.aload_n 0, 1) := by decide +kernel
theorem dX14_falseOnes_64 : decode cX14_falseOnes 64 = .ok (.aload_n 0, 1) := by decide +kernel
theorem dX14_falseOnes_65 : decode cX14_falseOnes 65 = .ok (.invokevirtual 526, 3) := by decide +kernel
theorem dX14_falseOnes_68 : decode cX14_falseOnes 68 = .ok (.iload_n 2, 1) := by decide +kernel
theorem dX14_falseOnes_69 : decode cX14_falseOnes 69 = .ok (.iconst (-1), 1) := by decide +kernel
theorem dX14_falseOnes_70 : decode cX14_falseOnes 70 = .ok (.ixor, 1) := by decide +kernel
theorem dX14_falseOnes_71 : decode cX14_falseOnes 71 = .ok (.iand, 1) := by decide +kernel
theorem dX14_falseOnes_72 : decode cX14_falseOnes 72 = .ok (.invokevirtual 538, 3) := by decide +kernel
theorem dX14_falseOnes_75 : decode cX14_falseOnes 75 = .ok (.ifCond .eq 5, 3) := by decide +kernel
theorem dX14_falseOnes_78 : decode cX14_falseOnes 78 = .ok (.iload_n 2, 1) := by decide +kernel
theorem dX14_falseOnes_79 : decode cX14_falseOnes 79 = .ok (.istore_n 1, 1) := by decide +kernel
theorem dX14_falseOnes_80 : decode cX14_falseOnes 80 = .ok (.iinc 2 1, 3) := by decide +kernel
theorem dX14_falseOnes_83 : decode cX14_falseOnes 83 = .ok (.goto (-56), 3) := by decide +kernel
theorem dX14_falseOnes_86 : decode cX14_falseOnes 86 = .ok (.aload_n 0, 1) := by decide +kernel
theorem dX14_falseOnes_87 : decode cX14_falseOnes 87 = .ok (.iload_n 1, 1) := by decide +kernel
theorem dX14_falseOnes_88 : decode cX14_falseOnes 88 = .ok (.invokevirtual 76, 3) := by decide +kernel
theorem dX14_falseOnes_91 : decode cX14_falseOnes 91 = .ok (.ireturn, 1) := by decide +kernel
set_option maxRecDepth 100000 in
set_option maxHeartbeats 4000000 in
theorem mX14_falseOnes_L27 {E : goEv} {X : goX} {G : goG} {Q : State → Prop} {M : goMI} {L : goML} {R : goMR} {N : Nat} (hc : goCx E X cX14_falseOnes RX14 3) (hk : goKn E) (hR : X.2.2.2.1 = goRoom 7 168 0 0) (hr : X.2.2.2.2.2.2.2.2.1.sig.returnType = (Option.some FieldType.int)) (hW : goW G R) : ∀ (n : Nat) (v1 : Int32) (v2 : Int32) (r0 : Int32), lX14_falseOnes_27 N M R n v1 v2 = some r0 → (∀ (d2 : Option Value), goA E X G 0 0 Q 86 [some (.ref 102), some (.int r0), d2] [] M L R) → goA E X G 0 0 Q 27 [some (.ref 102), some (.int v1), some (.int v2)] [] M L R := by
  intro n
  induction n with
  | zero => intro v1 v2 r0 h; exact nomatch h
  | succ n ih =>
    intro v1 v2 r0 h kx
    rw [lX14_falseOnes_27] at h
    refine go_iload2 hc dX14_falseOnes_27 ?_
    refine go_aload0 hc dX14_falseOnes_28 ?_
    replace h := goBind h; obtain ⟨x16, e17, h⟩ := h
    refine go_callVi hc dX14_falseOnes_29 (mX14_allGoats hk hW e17) ml_RX14_488 yk_X14_allGoats ⟨wim_X14_allGoats, wse_X14_allGoats⟩ hR rfl (sh_102 hW) rfl rfl rfl (Nat.le_of_ble_eq_true rfl) rfl ?_
    refine go_icmp_gt hc 86 dX14_falseOnes_32 rfl (fun c18 => ?_) (fun c18 => ?_)
    · replace h := goIfF h c18
      cases h
      exact kx _
    · replace h := goIfT h c18
      refine go_iload2 hc dX14_falseOnes_35 ?_
      refine go_aload0 hc dX14_falseOnes_36 ?_
      replace h := goBind h; obtain ⟨x19, e20, h⟩ := h
      refine go_callVi hc dX14_falseOnes_37 (mX14_heard hk hW e20) ml_RX14_526 yk_X14_heard ⟨wim_X14_heard, wse_X14_heard⟩ hR rfl (sh_102 hW) rfl rfl rfl (Nat.le_of_ble_eq_true rfl) rfl ?_
      refine go_iconst (v := (-1)) hc dX14_falseOnes_40 rfl ?_
      refine go_ixor hc dX14_falseOnes_41 ?_
      refine go_iand hc dX14_falseOnes_42 ?_
      replace h := goBind h; obtain ⟨x21, e22, h⟩ := h
      have k23 : goA E X G 0 0 Q 80 [some (.ref 102), some (.int x21), some (.int v2)] [] M L R := by
        refine go_iinc2 (v := (v2 + 1)) hc dX14_falseOnes_80 rfl ?_
        refine go_goto hc 27 dX14_falseOnes_83 rfl ?_
        exact ih _ _ _ h kx
      refine go_if_ne hc 80 dX14_falseOnes_43 rfl (fun c24 => ?_) (fun c24 => ?_)
      · replace e22 := goIfF e22 c24
        cases e22
        exact k23
      · replace e22 := goIfT e22 c24
        refine go_iload1 hc dX14_falseOnes_46 ?_
        refine go_bipush (v := (-2)) hc dX14_falseOnes_47 rfl ?_
        refine go_icmp_eq hc 63 dX14_falseOnes_49 rfl (fun c25 => ?_) (fun c25 => ?_)
        · replace e22 := goIfT e22 c25
          refine go_aload0 hc dX14_falseOnes_63 ?_
          refine go_aload0 hc dX14_falseOnes_64 ?_
          replace e22 := goBind e22; obtain ⟨x26, e27, e22⟩ := e22
          refine go_callVi hc dX14_falseOnes_65 (mX14_heard hk hW e27) ml_RX14_526 yk_X14_heard ⟨wim_X14_heard, wse_X14_heard⟩ hR rfl (sh_102 hW) rfl rfl rfl (Nat.le_of_ble_eq_true rfl) rfl ?_
          refine go_iload2 hc dX14_falseOnes_68 ?_
          refine go_iconst (v := (-1)) hc dX14_falseOnes_69 rfl ?_
          refine go_ixor hc dX14_falseOnes_70 ?_
          refine go_iand hc dX14_falseOnes_71 ?_
          replace e22 := goBind e22; obtain ⟨x28, e29, e22⟩ := e22
          refine go_callVi hc dX14_falseOnes_72 (mX14_anyFits hk hW e29) ml_RX14_538 yk_X14_anyFits ⟨wim_X14_anyFits, wse_X14_anyFits⟩ hR rfl (sh_102 hW) rfl rfl rfl (Nat.le_of_ble_eq_true rfl) rfl ?_
          refine go_if_eq hc 80 dX14_falseOnes_75 rfl (fun c30 => ?_) (fun c30 => ?_)
          · replace e22 := goIfT e22 c30
            cases e22
            exact k23
          · replace e22 := goIfF e22 c30
            refine go_iload2 hc dX14_falseOnes_78 ?_
            refine go_istore1 hc dX14_falseOnes_79 ?_
            cases e22
            exact k23
        · replace e22 := goIfF e22 c25
          refine go_iload2 hc dX14_falseOnes_52 ?_
          replace e22 := goBind e22; obtain ⟨x31, e32, e22⟩ := e22
          refine go_callSi hc dX14_falseOnes_53 (mX14_bits hk hW e32) ml_RX14_396 yk_X14_bits wst_X14_bits hR rfl rfl rfl (Nat.le_of_ble_eq_true rfl) rfl ?_
          refine go_iload1 hc dX14_falseOnes_56 ?_
          replace e22 := goBind e22; obtain ⟨x33, e34, e22⟩ := e22
          refine go_callSi hc dX14_falseOnes_57 (mX14_bits hk hW e34) ml_RX14_396 yk_X14_bits wst_X14_bits hR rfl rfl rfl (Nat.le_of_ble_eq_true rfl) rfl ?_
          refine go_icmp_ge hc 80 dX14_falseOnes_60 rfl (fun c35 => ?_) (fun c35 => ?_)
          · replace e22 := goIfF e22 c35
            cases e22
            exact k23
          · replace e22 := goIfT e22 c35
            refine go_aload0 hc dX14_falseOnes_63 ?_
            refine go_aload0 hc dX14_falseOnes_64 ?_
            replace e22 := goBind e22; obtain ⟨x36, e37, e22⟩ := e22
            refine go_callVi hc dX14_falseOnes_65 (mX14_heard hk hW e37) ml_RX14_526 yk_X14_heard ⟨wim_X14_heard, wse_X14_heard⟩ hR rfl (sh_102 hW) rfl rfl rfl (Nat.le_of_ble_eq_true rfl) rfl ?_
            refine go_iload2 hc dX14_falseOnes_68 ?_
            refine go_iconst (v := (-1)) hc dX14_falseOnes_69 rfl ?_
            refine go_ixor hc dX14_falseOnes_70 ?_
            refine go_iand hc dX14_falseOnes_71 ?_
            replace e22 := goBind e22; obtain ⟨x38, e39, e22⟩ := e22
            refine go_callVi hc dX14_falseOnes_72 (mX14_anyFits hk hW e39) ml_RX14_538 yk_X14_anyFits ⟨wim_X14_anyFits, wse_X14_anyFits⟩ hR rfl (sh_102 hW) rfl rfl rfl (Nat.le_of_ble_eq_true rfl) rfl ?_
            refine go_if_eq hc 80 dX14_falseOnes_75 rfl (fun c40 => ?_) (fun c40 => ?_)
            · replace e22 := goIfT e22 c40
              cases e22
              exact k23
            · replace e22 := goIfF e22 c40
              refine go_iload2 hc dX14_falseOnes_78 ?_
              refine go_istore1 hc dX14_falseOnes_79 ?_
              cases e22
              exact k23
set_option maxRecDepth 100000 in
set_option maxHeartbeats 4000000 in
theorem mX14_falseOnes {E : goEv} {l : Launch} {G : goG} {N : Nat} {M : goMI} {L : goML} {R : goMR} {r0 : Int32} {r1 : goMI} (hk : goKn E) (hW : goW G R) (h : fX14_falseOnes N M R = some (r0, r1)) : Met l yX14_falseOnes (goCd yX14_falseOnes cX14_falseOnes 3 (Option.some FieldType.int)) (goRoom 7 168 0 0) (goPre E [.ref 102] G M L R) (goQi E r0 G r1 L R) 0 0 (goSet E) := by
  refine goMet pl_RX14 hk (lv := [some (.ref 102), none, none]) rfl (Nat.le_of_ble_eq_true rfl) ?_
  intro X hc hl hR hr hnm
  subst hl
  unfold fX14_falseOnes at h
  refine go_aload0 hc dX14_falseOnes_0 ?_
  refine go_iconst (v := 0) hc dX14_falseOnes_1 rfl ?_
  replace h := goNm_x h; obtain ⟨M11, e12, h⟩ := h
  refine go_ptI hc lk_RX14_66 dX14_falseOnes_2 (sh_102 hW) e12 ?_
  refine go_aload0 hc dX14_falseOnes_5 ?_
  refine go_getQ hc lk_RX14_442 dX14_falseOnes_6 (sh_102 hW) ?_
  refine go_ifnonnull hc 18 dX14_falseOnes_9 rfl (fun _ c13 => ?_) (fun c13 => ?_)
  · replace h := goIfF h (goNn c13)
    refine go_aload0 hc dX14_falseOnes_18 ?_
    replace h := goBind h; obtain ⟨M14, e15, h⟩ := h
    refine go_callVv hc dX14_falseOnes_19 (mX14_laysHonest hk hW e15) ml_RX14_523 yk_X14_laysHonest ⟨wim_X14_laysHonest, wse_X14_laysHonest⟩ hR rfl (sh_102 hW) rfl rfl rfl (Nat.le_of_ble_eq_true rfl) rfl ?_
    refine go_bipush (v := (-2)) hc dX14_falseOnes_22 rfl ?_
    refine go_istore1 hc dX14_falseOnes_24 ?_
    refine go_iconst (v := 0) hc dX14_falseOnes_25 rfl ?_
    refine go_istore2 hc dX14_falseOnes_26 ?_
    replace h := goBind h; obtain ⟨x42, e41, h⟩ := h
    refine mX14_falseOnes_L27 hc hk hR hr hW _ _ _ _ e41 (fun d2 => ?_)
    refine go_aload0 hc dX14_falseOnes_86 ?_
    refine go_iload1 hc dX14_falseOnes_87 ?_
    replace h := goB2_h h; obtain ⟨x43, M44, e45, h⟩ := h
    refine go_callVi hc dX14_falseOnes_88 (mX14_good hk hW e45) ml_RX14_76 yk_X14_good ⟨wim_X14_good, wse_X14_good⟩ hR rfl (sh_102 hW) rfl rfl rfl (Nat.le_of_ble_eq_true rfl) rfl ?_
    cases h
    exact go_iret hc dX14_falseOnes_91 hr
  · replace h := goIfT h c13
    refine go_aload0 hc dX14_falseOnes_12 ?_
    refine go_iconst (v := 1) hc dX14_falseOnes_13 rfl ?_
    replace h := goB2_h h; obtain ⟨x46, M47, e48, h⟩ := h
    refine go_callVi hc dX14_falseOnes_14 (mX14_refused hk hW e48) ml_RX14_72 yk_X14_refused ⟨wim_X14_refused, wse_X14_refused⟩ hR rfl (sh_102 hW) rfl rfl rfl (Nat.le_of_ble_eq_true rfl) rfl ?_
    cases h
    exact go_iret hc dX14_falseOnes_17 hr
theorem dX14_oddsOf_0 : decode cX14_oddsOf 0 = .ok (.iconst 1, 1) := by decide +kernel
theorem dX14_oddsOf_1 : decode cX14_oddsOf 1 = .ok (.istore_n 2, 1) := by decide +kernel
theorem dX14_oddsOf_2 : decode cX14_oddsOf 2 = .ok (.iconst 0, 1) := by decide +kernel
theorem dX14_oddsOf_3 : decode cX14_oddsOf 3 = .ok (.istore_n 3, 1) := by decide +kernel
theorem dX14_oddsOf_4 : decode cX14_oddsOf 4 = .ok (.iload_n 3, 1) := by decide +kernel
theorem dX14_oddsOf_5 : decode cX14_oddsOf 5 = .ok (.aload_n 0, 1) := by decide +kernel
theorem dX14_oddsOf_6 : decode cX14_oddsOf 6 = .ok (.getfield 442, 3) := by decide +kernel
theorem dX14_oddsOf_9 : decode cX14_oddsOf 9 = .ok (.getfield 328, 3) := by decide +kernel
theorem dX14_oddsOf_12 : decode cX14_oddsOf 12 = .ok (.if_icmp .ge 112, 3) := by decide +kernel
theorem dX14_oddsOf_15 : decode cX14_oddsOf 15 = .ok (.iconst 0, 1) := by decide +kernel
theorem dX14_oddsOf_16 : decode cX14_oddsOf 16 = .ok (.istore 4, 2) := by decide +kernel
theorem dX14_oddsOf_18 : decode cX14_oddsOf 18 = .ok (.iconst 0, 1) := by decide +kernel
theorem dX14_oddsOf_19 : decode cX14_oddsOf 19 = .ok (.istore 5, 2) := by decide +kernel
theorem dX14_oddsOf_21 : decode cX14_oddsOf 21 = .ok (.iload 5, 2) := by decide +kernel
theorem dX14_oddsOf_23 : decode cX14_oddsOf 23 = .ok (.aload_n 0, 1) := by decide +kernel
theorem dX14_oddsOf_24 : decode cX14_oddsOf 24 = .ok (.getfield 442, 3) := by decide +kernel
theorem dX14_oddsOf_27 : decode cX14_oddsOf 27 = .ok (.getfield 370, 3) := by decide +kernel
theorem dX14_oddsOf_30 : decode cX14_oddsOf 30 = .ok (.if_icmp .ge 35, 3) := by decide +kernel
theorem dX14_oddsOf_33 : decode cX14_oddsOf 33 = .ok (.iload 4, 2) := by decide +kernel
theorem dX14_oddsOf_35 : decode cX14_oddsOf 35 = .ok (.ifCond .ne 17, 3) := by decide +kernel
theorem dX14_oddsOf_38 : decode cX14_oddsOf 38 = .ok (.aload_n 0, 1) := by decide +kernel
theorem dX14_oddsOf_39 : decode cX14_oddsOf 39 = .ok (.getfield 442, 3) := by decide +kernel
theorem dX14_oddsOf_42 : decode cX14_oddsOf 42 = .ok (.getfield 379, 3) := by decide +kernel
theorem dX14_oddsOf_45 : decode cX14_oddsOf 45 = .ok (.iload 5, 2) := by decide +kernel
theorem dX14_oddsOf_47 : decode cX14_oddsOf 47 = .ok (.iaload, 1) := by decide +kernel
theorem dX14_oddsOf_48 : decode cX14_oddsOf 48 = .ok (.iload_n 3, 1) := by decide +kernel
theorem dX14_oddsOf_49 : decode cX14_oddsOf 49 = .ok (.if_icmp .ne 7, 3) := by decide +kernel
theorem dX14_oddsOf_52 : decode cX14_oddsOf 52 = .ok (.iconst 1, 1) := by decide +kernel
theorem dX14_oddsOf_53 : decode cX14_oddsOf 53 = .ok (.goto 4, 3) := by decide +kernel
theorem dX14_oddsOf_56 : decode cX14_oddsOf 56 = .ok (.iconst 0, 1) := by decide +kernel
theorem dX14_oddsOf_57 : decode cX14_oddsOf 57 = .ok (.istore 4, 2) := by decide +kernel
theorem dX14_oddsOf_59 : decode cX14_oddsOf 59 = .ok (.iinc 5 1, 3) := by decide +kernel
theorem dX14_oddsOf_62 : decode cX14_oddsOf 62 = .ok (.goto (-41), 3) := by decide +kernel
theorem dX14_oddsOf_65 : decode cX14_oddsOf 65 = .ok (.iload 4, 2) := by decide +kernel
theorem dX14_oddsOf_67 : decode cX14_oddsOf 67 = .ok (.ifCond .eq 51, 3) := by decide +kernel
theorem dX14_oddsOf_70 : decode cX14_oddsOf 70 = .ok (.aload_n 0, 1) := by decide +kernel
theorem dX14_oddsOf_71 : decode cX14_oddsOf 71 = .ok (.iload_n 3, 1) := by decide +kernel
theorem dX14_oddsOf_72 : decode cX14_oddsOf 72 = .ok (.invokevirtual 500, 3) := by decide +kernel
theorem dX14_oddsOf_75 : decode cX14_oddsOf 75 = .ok (.ifCond .eq 43, 3) := by decide +kernel
theorem dX14_oddsOf_78 : decode cX14_oddsOf 78 = .ok (.iload_n 2, 1) := by decide +kernel
theorem dX14_oddsOf_79 : decode cX14_oddsOf 79 = .ok (.aload_n 0, 1) := by decide +kernel
theorem dX14_oddsOf_80 : decode cX14_oddsOf 80 = .ok (.getfield 48, 3) := by decide +kernel
theorem dX14_oddsOf_83 : decode cX14_oddsOf 83 = .ok (.iload_n 1, 1) := by decide +kernel
theorem dX14_oddsOf_84 : decode cX14_oddsOf 84 = .ok (.iaload, 1) := by decide +kernel
theorem dX14_oddsOf_85 : decode cX14_oddsOf 85 = .ok (.iload_n 3, 1) := by decide +kernel
theorem dX14_oddsOf_86 : decode cX14_oddsOf 86 = .ok (.invokestatic 366, 3) := by decide +kernel
theorem dX14_oddsOf_89 : decode cX14_oddsOf 89 = .ok (.ifCond .eq 15, 3) := by decide +kernel
theorem dX14_oddsOf_92 : decode cX14_oddsOf 92 = .ok (.aload_n 0, 1) := by decide +kernel
theorem dX14_oddsOf_93 : decode cX14_oddsOf 93 = .ok (.getfield 442, 3) := by decide +kernel
theorem dX14_oddsOf_96 : decode cX14_oddsOf 96 = .ok (.getfield 359, 3) := by decide +kernel
theorem dX14_oddsOf_99 : decode cX14_oddsOf 99 = .ok (.iload_n 3, 1) := by decide +kernel
theorem dX14_oddsOf_100 : decode cX14_oddsOf 100 = .ok (.iaload, 1) := by decide +kernel
theorem dX14_oddsOf_101 : decode cX14_oddsOf 101 = .ok (.goto 15, 3) := by decide +kernel
theorem dX14_oddsOf_104 : decode cX14_oddsOf 104 = .ok (.bipush 10, 2) := by decide +kernel
theorem dX14_oddsOf_106 : decode cX14_oddsOf 106 = .ok (.aload_n 0, 1) := by decide +kernel
theorem dX14_oddsOf_107 : decode cX14_oddsOf 107 = .ok (.getfield 442, 3) := by decide +kernel
theorem dX14_oddsOf_110 : decode cX14_oddsOf 110 = .ok (.getfield 359, 3) := by decide +kernel
theorem dX14_oddsOf_113 : decode cX14_oddsOf 113 = .ok (.iload_n 3, 1) := by decide +kernel
theorem dX14_oddsOf_114 : decode cX14_oddsOf 114 = .ok (.iaload, 1) := by decide +kernel
theorem dX14_oddsOf_115 : decode cX14_oddsOf 115 = .ok (.isub, 1) := by decide +kernel
theorem dX14_oddsOf_116 : decode cX14_oddsOf 116 = .ok (.imul, 1) := by decide +kernel
theorem dX14_oddsOf_117 : decode cX14_oddsOf 117 = .ok (.istore_n 2, 1) := by decide +kernel
theorem dX14_oddsOf_118 : decode cX14_oddsOf 118 = .ok (.iinc 3 1, 3) := by decide +kernel
theorem dX14_oddsOf_121 : decode cX14_oddsOf 121 = .ok (.goto (-117), 3) := by decide +kernel
theorem dX14_oddsOf_124 : decode cX14_oddsOf 124 = .ok (.iload_n 2, 1) := by decide +kernel
theorem dX14_oddsOf_125 : decode cX14_oddsOf 125 = .ok (.ireturn, 1) := by decide +kernel
set_option maxRecDepth 100000 in
set_option maxHeartbeats 4000000 in
theorem mX14_oddsOf_L21 {E : goEv} {X : goX} {G : goG} {Q : State → Prop} {M : goMI} {L : goML} {R : goMR} {v3 : Int32} {v1 : Int32} {v2 : Int32} (hc : goCx E X cX14_oddsOf RX14 6) (hk : goKn E) (hR : X.2.2.2.1 = goRoom 2 42 0 0) (hr : X.2.2.2.2.2.2.2.2.1.sig.returnType = (Option.some FieldType.int)) (hW : goW G R) : ∀ (n : Nat) (v4 : Int32) (v5 : Int32) (r0 : Int32), lX14_oddsOf_21 v3 M R n v4 v5 = some r0 → (∀ (d5 : Option Value), goA E X G 0 0 Q 65 [some (.ref 102), some (.int v1), some (.int v2), some (.int v3), some (.int r0), d5] [] M L R) → goA E X G 0 0 Q 21 [some (.ref 102), some (.int v1), some (.int v2), some (.int v3), some (.int v4), some (.int v5)] [] M L R := by
  intro n
  induction n with
  | zero => intro v4 v5 r0 h; exact nomatch h
  | succ n ih =>
    intro v4 v5 r0 h kx
    rw [lX14_oddsOf_21] at h
    refine go_iload5 hc dX14_oddsOf_21 ?_
    refine go_aload0 hc dX14_oddsOf_23 ?_
    replace h := goBind h; obtain ⟨b14, e15, h⟩ := h
    refine go_getR hc lk_RX14_442 dX14_oddsOf_24 (sh_102 hW) e15 ?_
    refine go_getI hc lk_RX14_370 dX14_oddsOf_27 (shM_0 (goW_M3 hW e15)) ?_
    refine go_icmp_ge hc 65 dX14_oddsOf_30 rfl (fun c16 => ?_) (fun c16 => ?_)
    · replace h := goIfF h c16
      cases h
      exact kx _
    · replace h := goIfT h c16
      refine go_iload4 hc dX14_oddsOf_33 ?_
      replace h := goBind h; obtain ⟨x17, e18, h⟩ := h
      have k19 : ∀ (d4 : Option Value), goA E X G 0 0 Q 57 [some (.ref 102), some (.int v1), some (.int v2), some (.int v3), d4, some (.int v5)] [.int x17] M L R := by
        intro d4
        refine go_istore4 hc dX14_oddsOf_57 ?_
        refine go_iinc5 (v := (v5 + 1)) hc dX14_oddsOf_59 rfl ?_
        refine go_goto hc 21 dX14_oddsOf_62 rfl ?_
        exact ih _ _ _ h kx
      refine go_if_ne hc 52 dX14_oddsOf_35 rfl (fun c20 => ?_) (fun c20 => ?_)
      · replace e18 := goIfF e18 c20
        refine go_iconst (v := 1) hc dX14_oddsOf_52 rfl ?_
        refine go_goto hc 57 dX14_oddsOf_53 rfl ?_
        cases e18
        exact k19 _
      · replace e18 := goIfT e18 c20
        refine go_aload0 hc dX14_oddsOf_38 ?_
        replace e18 := goBind e18; obtain ⟨b21, e22, e18⟩ := e18
        refine go_getR hc lk_RX14_442 dX14_oddsOf_39 (sh_102 hW) e22 ?_
        refine go_getR hc lk_RX14_379 dX14_oddsOf_42 (shM_0 (goW_M3 hW e22)) (rfM_29 (goW_M3 hW e22)) ?_
        refine go_iload5 hc dX14_oddsOf_45 ?_
        replace e18 := goBind e18; obtain ⟨x23, e24, e18⟩ := e18
        refine go_iald hc dX14_oddsOf_47 (shM_14 (goW_M3 hW e22)) e24 ?_
        refine go_iload3 hc dX14_oddsOf_48 ?_
        refine go_icmp_ne hc 56 dX14_oddsOf_49 rfl (fun c25 => ?_) (fun c25 => ?_)
        · replace e18 := goIfF e18 c25
          refine go_iconst (v := 0) hc dX14_oddsOf_56 rfl ?_
          cases e18
          exact k19 _
        · replace e18 := goIfT e18 c25
          refine go_iconst (v := 1) hc dX14_oddsOf_52 rfl ?_
          refine go_goto hc 57 dX14_oddsOf_53 rfl ?_
          cases e18
          exact k19 _
set_option maxRecDepth 100000 in
set_option maxHeartbeats 4000000 in
theorem mX14_oddsOf_L4 {E : goEv} {X : goX} {G : goG} {Q : State → Prop} {M : goMI} {L : goML} {R : goMR} {N : Nat} {v1 : Int32} (hc : goCx E X cX14_oddsOf RX14 6) (hk : goKn E) (hR : X.2.2.2.1 = goRoom 2 42 0 0) (hr : X.2.2.2.2.2.2.2.2.1.sig.returnType = (Option.some FieldType.int)) (hW : goW G R) : ∀ (n : Nat) (v2 : Int32) (v3 : Int32) (r0 : Int32), lX14_oddsOf_4 N v1 M R n v2 v3 = some r0 → (∀ (d0 d1 d3 d4 d5 : Option Value), goA E X G 0 0 Q 124 [d0, d1, some (.int r0), d3, d4, d5] [] M L R) → ∀ (d4 d5 : Option Value), goA E X G 0 0 Q 4 [some (.ref 102), some (.int v1), some (.int v2), some (.int v3), d4, d5] [] M L R := by
  intro n
  induction n with
  | zero => intro v2 v3 r0 h; exact nomatch h
  | succ n ih =>
    intro v2 v3 r0 h kx d4 d5
    rw [lX14_oddsOf_4] at h
    refine go_iload3 hc dX14_oddsOf_4 ?_
    refine go_aload0 hc dX14_oddsOf_5 ?_
    replace h := goBind h; obtain ⟨b11, e12, h⟩ := h
    refine go_getR hc lk_RX14_442 dX14_oddsOf_6 (sh_102 hW) e12 ?_
    refine go_getI hc lk_RX14_328 dX14_oddsOf_9 (shM_0 (goW_M3 hW e12)) ?_
    refine go_icmp_ge hc 124 dX14_oddsOf_12 rfl (fun c13 => ?_) (fun c13 => ?_)
    · replace h := goIfF h c13
      cases h
      exact kx _ _ _ _ _
    · replace h := goIfT h c13
      refine go_iconst (v := 0) hc dX14_oddsOf_15 rfl ?_
      refine go_istore4 hc dX14_oddsOf_16 ?_
      refine go_iconst (v := 0) hc dX14_oddsOf_18 rfl ?_
      refine go_istore5 hc dX14_oddsOf_19 ?_
      replace h := goBind h; obtain ⟨x27, e26, h⟩ := h
      refine mX14_oddsOf_L21 hc hk hR hr hW _ _ _ _ e26 (fun d5 => ?_)
      refine go_iload4 hc dX14_oddsOf_65 ?_
      replace h := goBind h; obtain ⟨x28, e29, h⟩ := h
      have k30 : ∀ (d4 d5 : Option Value), goA E X G 0 0 Q 118 [some (.ref 102), some (.int v1), some (.int x28), some (.int v3), d4, d5] [] M L R := by
        intro d4 d5
        refine go_iinc3 (v := (v3 + 1)) hc dX14_oddsOf_118 rfl ?_
        refine go_goto hc 4 dX14_oddsOf_121 rfl ?_
        exact ih _ _ _ h kx _ _
      refine go_if_eq hc 118 dX14_oddsOf_67 rfl (fun c31 => ?_) (fun c31 => ?_)
      · replace e29 := goIfT e29 c31
        cases e29
        exact k30 _ _
      · replace e29 := goIfF e29 c31
        refine go_aload0 hc dX14_oddsOf_70 ?_
        refine go_iload3 hc dX14_oddsOf_71 ?_
        replace e29 := goBind e29; obtain ⟨x32, e33, e29⟩ := e29
        refine go_callVi hc dX14_oddsOf_72 (mX14_isHeard hk hW e33) ml_RX14_500 yk_X14_isHeard ⟨wim_X14_isHeard, wse_X14_isHeard⟩ hR rfl (sh_102 hW) rfl rfl rfl (Nat.le_of_ble_eq_true rfl) rfl ?_
        refine go_if_eq hc 118 dX14_oddsOf_75 rfl (fun c34 => ?_) (fun c34 => ?_)
        · replace e29 := goIfT e29 c34
          cases e29
          exact k30 _ _
        · replace e29 := goIfF e29 c34
          refine go_iload2 hc dX14_oddsOf_78 ?_
          refine go_aload0 hc dX14_oddsOf_79 ?_
          refine go_getR hc lk_RX14_48 dX14_oddsOf_80 (sh_102 hW) (rf_102_29 hW) ?_
          refine go_iload1 hc dX14_oddsOf_83 ?_
          replace e29 := goBind e29; obtain ⟨x35, e36, e29⟩ := e29
          refine go_iald hc dX14_oddsOf_84 (sh_114 hW) e36 ?_
          refine go_iload3 hc dX14_oddsOf_85 ?_
          refine go_callSi hc dX14_oddsOf_86 (mX14_bit hk hW rfl) ml_RX14_366 yk_X14_bit wst_X14_bit hR rfl rfl rfl (Nat.le_of_ble_eq_true rfl) rfl ?_
          replace e29 := goBind e29; obtain ⟨x37, e38, e29⟩ := e29
          have k39 : ∀ (d2 d4 d5 : Option Value), goA E X G 0 0 Q 116 [some (.ref 102), some (.int v1), d2, some (.int v3), d4, d5] [.int x37, .int v2] M L R := by
            intro d2 d4 d5
            refine go_imul hc dX14_oddsOf_116 ?_
            replace e29 := goNm_x e29; obtain ⟨x49, e50, e29⟩ := e29
            refine go_nmI e50 ?_
            refine go_istore2 hc dX14_oddsOf_117 ?_
            cases e29
            exact k30 _ _
          refine go_if_eq hc 104 dX14_oddsOf_89 rfl (fun c40 => ?_) (fun c40 => ?_)
          · replace e38 := goIfT e38 c40
            refine go_bipush (v := 10) hc dX14_oddsOf_104 rfl ?_
            refine go_aload0 hc dX14_oddsOf_106 ?_
            replace e38 := goBind e38; obtain ⟨b41, e42, e38⟩ := e38
            refine go_getR hc lk_RX14_442 dX14_oddsOf_107 (sh_102 hW) e42 ?_
            refine go_getR hc lk_RX14_359 dX14_oddsOf_110 (shM_0 (goW_M3 hW e42)) (rfM_26 (goW_M3 hW e42)) ?_
            refine go_iload3 hc dX14_oddsOf_113 ?_
            replace e38 := goBind e38; obtain ⟨x43, e44, e38⟩ := e38
            refine go_iald hc dX14_oddsOf_114 (shM_11 (goW_M3 hW e42)) e44 ?_
            refine go_isub hc dX14_oddsOf_115 ?_
            cases e38
            exact k39 _ _ _
          · replace e38 := goIfF e38 c40
            refine go_aload0 hc dX14_oddsOf_92 ?_
            replace e38 := goBind e38; obtain ⟨b45, e46, e38⟩ := e38
            refine go_getR hc lk_RX14_442 dX14_oddsOf_93 (sh_102 hW) e46 ?_
            refine go_getR hc lk_RX14_359 dX14_oddsOf_96 (shM_0 (goW_M3 hW e46)) (rfM_26 (goW_M3 hW e46)) ?_
            refine go_iload3 hc dX14_oddsOf_99 ?_
            replace e38 := goBind e38; obtain ⟨x47, e48, e38⟩ := e38
            refine go_iald hc dX14_oddsOf_100 (shM_11 (goW_M3 hW e46)) e48 ?_
            refine go_goto hc 116 dX14_oddsOf_101 rfl ?_
            cases e38
            exact k39 _ _ _
set_option maxRecDepth 100000 in
set_option maxHeartbeats 4000000 in
theorem mX14_oddsOf {E : goEv} {l : Launch} {G : goG} {N : Nat} {M : goMI} {L : goML} {R : goMR} {v1 : Int32} {r0 : Int32} (hk : goKn E) (hW : goW G R) (h : fX14_oddsOf N M R v1 = some r0) : Met l yX14_oddsOf (goCd yX14_oddsOf cX14_oddsOf 6 (Option.some FieldType.int)) (goRoom 2 42 0 0) (goPre E [.ref 102, .int v1] G M L R) (goQi E r0 G M L R) 0 0 (goSet E) := by
  refine goMet pl_RX14 hk (lv := [some (.ref 102), some (.int v1), none, none, none, none]) rfl (Nat.le_of_ble_eq_true rfl) ?_
  intro X hc hl hR hr hnm
  subst hl
  unfold fX14_oddsOf at h
  refine go_iconst (v := 1) hc dX14_oddsOf_0 rfl ?_
  refine go_istore2 hc dX14_oddsOf_1 ?_
  refine go_iconst (v := 0) hc dX14_oddsOf_2 rfl ?_
  refine go_istore3 hc dX14_oddsOf_3 ?_
  replace h := goBind h; obtain ⟨x52, e51, h⟩ := h
  refine mX14_oddsOf_L4 hc hk hR hr hW _ _ _ _ e51 (fun d0 d1 d3 d4 d5 => ?_) _ _
  refine go_iload2 hc dX14_oddsOf_124 ?_
  cases h
  exact go_iret hc dX14_oddsOf_125 hr
theorem dX14_odds_0 : decode cX14_odds 0 = .ok (.aload_n 0, 1) := by decide +kernel
theorem dX14_odds_1 : decode cX14_odds 1 = .ok (.iconst 0, 1) := by decide +kernel
theorem dX14_odds_2 : decode cX14_odds 2 = .ok (.putfield 66, 3) := by decide +kernel
theorem dX14_odds_5 : decode cX14_odds 5 = .ok (.aload_n 0, 1) := by decide +kernel
theorem dX14_odds_6 : decode cX14_odds 6 = .ok (.iload_n 1, 1) := by decide +kernel
theorem dX14_odds_7 : decode cX14_odds 7 = .ok (.invokevirtual 514, 3) := by decide +kernel
theorem dX14_odds_10 : decode cX14_odds 10 = .ok (.ifCond .ne 9, 3) := by decide +kernel
theorem dX14_odds_13 : decode cX14_odds 13 = .ok (.aload_n 0, 1) := by decide +kernel
theorem dX14_odds_14 : decode cX14_odds 14 = .ok (.iconst 1, 1) := by decide +kernel
theorem dX14_odds_15 : decode cX14_odds 15 = .ok (.invokevirtual 72, 3) := by decide +kernel
theorem dX14_odds_18 : decode cX14_odds 18 = .ok (.ireturn, 1) := by decide +kernel
theorem dX14_odds_19 : decode cX14_odds 19 = .ok (.aload_n 0, 1) := by decide +kernel
theorem dX14_odds_20 : decode cX14_odds 20 = .ok (.invokevirtual 523, 3) := by decide +kernel
theorem dX14_odds_23 : decode cX14_odds 23 = .ok (.aload_n 0, 1) := by decide +kernel
theorem dX14_odds_24 : decode cX14_odds 24 = .ok (.aload_n 0, 1) := by decide +kernel
theorem dX14_odds_25 : decode cX14_odds 25 = .ok (.iload_n 1, 1) := by decide +kernel
theorem dX14_odds_26 : decode cX14_odds 26 = .ok (.invokevirtual 541, 3) := by decide +kernel
theorem dX14_odds_29 : decode cX14_odds 29 = .ok (.invokevirtual 76, 3) := by decide +kernel
theorem dX14_odds_32 : decode cX14_odds 32 = .ok (.ireturn, 1) := by decide +kernel
set_option maxRecDepth 100000 in
set_option maxHeartbeats 4000000 in
theorem mX14_odds {E : goEv} {l : Launch} {G : goG} {N : Nat} {M : goMI} {L : goML} {R : goMR} {v1 : Int32} {r0 : Int32} {r1 : goMI} (hk : goKn E) (hW : goW G R) (h : fX14_odds N M R v1 = some (r0, r1)) : Met l yX14_odds (goCd yX14_odds cX14_odds 2 (Option.some FieldType.int)) (goRoom 7 168 0 0) (goPre E [.ref 102, .int v1] G M L R) (goQi E r0 G r1 L R) 0 0 (goSet E) := by
  refine goMet pl_RX14 hk (lv := [some (.ref 102), some (.int v1)]) rfl (Nat.le_of_ble_eq_true rfl) ?_
  intro X hc hl hR hr hnm
  subst hl
  unfold fX14_odds at h
  refine go_aload0 hc dX14_odds_0 ?_
  refine go_iconst (v := 0) hc dX14_odds_1 rfl ?_
  replace h := goNm_x h; obtain ⟨M11, e12, h⟩ := h
  refine go_ptI hc lk_RX14_66 dX14_odds_2 (sh_102 hW) e12 ?_
  refine go_aload0 hc dX14_odds_5 ?_
  refine go_iload1 hc dX14_odds_6 ?_
  replace h := goBind h; obtain ⟨x13, e14, h⟩ := h
  refine go_callVi hc dX14_odds_7 (mX14_isCase hk hW e14) ml_RX14_514 yk_X14_isCase ⟨wim_X14_isCase, wse_X14_isCase⟩ hR rfl (sh_102 hW) rfl rfl rfl (Nat.le_of_ble_eq_true rfl) rfl ?_
  refine go_if_ne hc 19 dX14_odds_10 rfl (fun c15 => ?_) (fun c15 => ?_)
  · replace h := goIfF h c15
    refine go_aload0 hc dX14_odds_19 ?_
    replace h := goBind h; obtain ⟨M16, e17, h⟩ := h
    refine go_callVv hc dX14_odds_20 (mX14_laysHonest hk hW e17) ml_RX14_523 yk_X14_laysHonest ⟨wim_X14_laysHonest, wse_X14_laysHonest⟩ hR rfl (sh_102 hW) rfl rfl rfl (Nat.le_of_ble_eq_true rfl) rfl ?_
    refine go_aload0 hc dX14_odds_23 ?_
    refine go_aload0 hc dX14_odds_24 ?_
    refine go_iload1 hc dX14_odds_25 ?_
    replace h := goBind h; obtain ⟨x18, e19, h⟩ := h
    refine go_callVi hc dX14_odds_26 (mX14_oddsOf hk hW e19) ml_RX14_541 yk_X14_oddsOf ⟨wim_X14_oddsOf, wse_X14_oddsOf⟩ hR rfl (sh_102 hW) rfl rfl rfl (Nat.le_of_ble_eq_true rfl) rfl ?_
    replace h := goB2_h h; obtain ⟨x20, M21, e22, h⟩ := h
    refine go_callVi hc dX14_odds_29 (mX14_good hk hW e22) ml_RX14_76 yk_X14_good ⟨wim_X14_good, wse_X14_good⟩ hR rfl (sh_102 hW) rfl rfl rfl (Nat.le_of_ble_eq_true rfl) rfl ?_
    cases h
    exact go_iret hc dX14_odds_32 hr
  · replace h := goIfT h c15
    refine go_aload0 hc dX14_odds_13 ?_
    refine go_iconst (v := 1) hc dX14_odds_14 rfl ?_
    replace h := goB2_h h; obtain ⟨x23, M24, e25, h⟩ := h
    refine go_callVi hc dX14_odds_15 (mX14_refused hk hW e25) ml_RX14_72 yk_X14_refused ⟨wim_X14_refused, wse_X14_refused⟩ hR rfl (sh_102 hW) rfl rfl rfl (Nat.le_of_ble_eq_true rfl) rfl ?_
    cases h
    exact go_iret hc dX14_odds_18 hr
theorem dX14_likeliest_0 : decode cX14_likeliest 0 = .ok (.aload_n 0, 1) := by decide +kernel
theorem dX14_likeliest_1 : decode cX14_likeliest 1 = .ok (.iconst 0, 1) := by decide +kernel
theorem dX14_likeliest_2 : decode cX14_likeliest 2 = .ok (.putfield 66, 3) := by decide +kernel
theorem dX14_likeliest_5 : decode cX14_likeliest 5 = .ok (.aload_n 0, 1) := by decide +kernel
theorem dX14_likeliest_6 : decode cX14_likeliest 6 = .ok (.getfield 442, 3) := by decide +kernel
theorem dX14_likeliest_9 : decode cX14_likeliest 9 = .ok (.ifnonnull 9, 3) := by decide +kernel
theorem dX14_likeliest_12 : decode cX14_likeliest 12 = .ok (.aload_n 0, 1) := by decide +kernel
theorem dX14_likeliest_13 : decode cX14_likeliest 13 = .ok (.iconst 1, 1) := by decide +kernel
theorem dX14_likeliest_14 : decode cX14_likeliest 14 = .ok (.invokevirtual 72, 3) := by decide +kernel
theorem dX14_likeliest_17 : decode cX14_likeliest 17 = .ok (.ireturn, 1) := by decide +kernel
theorem dX14_likeliest_18 : decode cX14_likeliest 18 = .ok (.aload_n 0, 1) := by decide +kernel
theorem dX14_likeliest_19 : decode cX14_likeliest 19 = .ok (.invokevirtual 523, 3) := by decide +kernel
theorem dX14_likeliest_22 : decode cX14_likeliest 22 = .ok (.iconst 0, 1) := by decide +kernel
theorem dX14_likeliest_23 : decode cX14_likeliest 23 = .ok (.istore_n 1, 1) := by decide +kernel
theorem dX14_likeliest_24 : decode cX14_likeliest 24 = .ok (.iconst 1, 1) := by decide +kernel
theorem dX14_likeliest_25 : decode cX14_likeliest 25 = .ok (.istore_n 2, 1) := by decide +kernel
theorem dX14_likeliest_26 : decode cX14_likeliest 26 = .ok (.iload_n 2, 1) := by decide +kernel
theorem dX14_likeliest_27 : decode cX14_likeliest 27 = .ok (.aload_n 0, 1) := by decide +kernel
theorem dX14_likeliest_28 : decode cX14_likeliest 28 = .ok (.getfield 442, 3) := by decide +kernel
theorem dX14_likeliest_31 : decode cX14_likeliest 31 = .ok (.invokevirtual 450, 3) := by decide +kernel
theorem dX14_likeliest_34 : decode cX14_likeliest 34 = .ok (.if_icmp .ge 24, 3) := by decide +kernel
theorem dX14_likeliest_37 : decode cX14_likeliest 37 = .ok (.aload_n 0, 1) := by decide +kernel
theorem dX14_likeliest_38 : decode cX14_likeliest 38 = .ok (.iload_n 2, 1) := by decide +kernel
theorem dX14_likeliest_39 : decode cX14_likeliest 39 = .ok (.invokevirtual 541, 3) := by decide +kernel
theorem dX14_likeliest_42 : decode cX14_likeliest 42 = .ok (.aload_n 0, 1) := by decide +kernel
theorem dX14_likeliest_43 : decode cX14_likeliest 43 = .ok (.iload_n 1, 1) := by decide +kernel
theorem dX14_likeliest_44 : decode cX14_likeliest 44 = .ok (.invokevirtual 541, 3) := by decide +kernel
theorem dX14_likeliest_47 : decode cX14_likeliest 47 = .ok (.if_icmp .le 5, 3) := by decide +kernel
theorem dX14_likeliest_50 : decode cX14_likeliest 50 = .ok (.iload_n 2, 1) := by decide +kernel
theorem dX14_likeliest_51 : decode cX14_likeliest 51 = .ok (.istore_n 1, 1) := by decide +kernel
theorem dX14_likeliest_52 : decode cX14_likeliest 52 = .ok (.iinc 2 1, 3) := by decide +kernel
theorem dX14_likeliest_55 : decode cX14_likeliest 55 = .ok (.goto (-29), 3) := by decide +kernel
theorem dX14_likeliest_58 : decode cX14_likeliest 58 = .ok (.aload_n 0, 1) := by decide +kernel
theorem dX14_likeliest_59 : decode cX14_likeliest 59 = .ok (.iload_n 1, 1) := by decide +kernel
theorem dX14_likeliest_60 : decode cX14_likeliest 60 = .ok (.invokevirtual 76, 3) := by decide +kernel
theorem dX14_likeliest_63 : decode cX14_likeliest 63 = .ok (.ireturn, 1) := by decide +kernel
set_option maxRecDepth 100000 in
set_option maxHeartbeats 4000000 in
theorem mX14_likeliest_L26 {E : goEv} {X : goX} {G : goG} {Q : State → Prop} {M : goMI} {L : goML} {R : goMR} {N : Nat} (hc : goCx E X cX14_likeliest RX14 3) (hk : goKn E) (hR : X.2.2.2.1 = goRoom 7 168 0 0) (hr : X.2.2.2.2.2.2.2.2.1.sig.returnType = (Option.some FieldType.int)) (hW : goW G R) : ∀ (n : Nat) (v1 : Int32) (v2 : Int32) (r0 : Int32), lX14_likeliest_26 N M R n v1 v2 = some r0 → (∀ (d2 : Option Value), goA E X G 0 0 Q 58 [some (.ref 102), some (.int r0), d2] [] M L R) → goA E X G 0 0 Q 26 [some (.ref 102), some (.int v1), some (.int v2)] [] M L R := by
  intro n
  induction n with
  | zero => intro v1 v2 r0 h; exact nomatch h
  | succ n ih =>
    intro v1 v2 r0 h kx
    rw [lX14_likeliest_26] at h
    refine go_iload2 hc dX14_likeliest_26 ?_
    refine go_aload0 hc dX14_likeliest_27 ?_
    replace h := goBind h; obtain ⟨b16, e17, h⟩ := h
    refine go_getR hc lk_RX14_442 dX14_likeliest_28 (sh_102 hW) e17 ?_
    replace h := goBind h; obtain ⟨x18, e19, h⟩ := h
    refine go_callVi hc dX14_likeliest_31 (mX13_cases hk hW (goW_M3 hW e17) e19) ml_RX14_450 yk_X13_cases ⟨wim_X13_cases, wse_X13_cases⟩ hR rfl (shM_0 (goW_M3 hW e17)) rfl rfl rfl (Nat.le_of_ble_eq_true rfl) rfl ?_
    refine go_icmp_ge hc 58 dX14_likeliest_34 rfl (fun c20 => ?_) (fun c20 => ?_)
    · replace h := goIfF h c20
      cases h
      exact kx _
    · replace h := goIfT h c20
      refine go_aload0 hc dX14_likeliest_37 ?_
      refine go_iload2 hc dX14_likeliest_38 ?_
      replace h := goBind h; obtain ⟨x21, e22, h⟩ := h
      refine go_callVi hc dX14_likeliest_39 (mX14_oddsOf hk hW e22) ml_RX14_541 yk_X14_oddsOf ⟨wim_X14_oddsOf, wse_X14_oddsOf⟩ hR rfl (sh_102 hW) rfl rfl rfl (Nat.le_of_ble_eq_true rfl) rfl ?_
      refine go_aload0 hc dX14_likeliest_42 ?_
      refine go_iload1 hc dX14_likeliest_43 ?_
      replace h := goBind h; obtain ⟨x23, e24, h⟩ := h
      refine go_callVi hc dX14_likeliest_44 (mX14_oddsOf hk hW e24) ml_RX14_541 yk_X14_oddsOf ⟨wim_X14_oddsOf, wse_X14_oddsOf⟩ hR rfl (sh_102 hW) rfl rfl rfl (Nat.le_of_ble_eq_true rfl) rfl ?_
      replace h := goBind h; obtain ⟨x25, e26, h⟩ := h
      have k27 : goA E X G 0 0 Q 52 [some (.ref 102), some (.int x25), some (.int v2)] [] M L R := by
        refine go_iinc2 (v := (v2 + 1)) hc dX14_likeliest_52 rfl ?_
        refine go_goto hc 26 dX14_likeliest_55 rfl ?_
        exact ih _ _ _ h kx
      refine go_icmp_le hc 52 dX14_likeliest_47 rfl (fun c28 => ?_) (fun c28 => ?_)
      · replace e26 := goIfF e26 c28
        cases e26
        exact k27
      · replace e26 := goIfT e26 c28
        refine go_iload2 hc dX14_likeliest_50 ?_
        refine go_istore1 hc dX14_likeliest_51 ?_
        cases e26
        exact k27
set_option maxRecDepth 100000 in
set_option maxHeartbeats 4000000 in
theorem mX14_likeliest {E : goEv} {l : Launch} {G : goG} {N : Nat} {M : goMI} {L : goML} {R : goMR} {r0 : Int32} {r1 : goMI} (hk : goKn E) (hW : goW G R) (h : fX14_likeliest N M R = some (r0, r1)) : Met l yX14_likeliest (goCd yX14_likeliest cX14_likeliest 3 (Option.some FieldType.int)) (goRoom 7 168 0 0) (goPre E [.ref 102] G M L R) (goQi E r0 G r1 L R) 0 0 (goSet E) := by
  refine goMet pl_RX14 hk (lv := [some (.ref 102), none, none]) rfl (Nat.le_of_ble_eq_true rfl) ?_
  intro X hc hl hR hr hnm
  subst hl
  unfold fX14_likeliest at h
  refine go_aload0 hc dX14_likeliest_0 ?_
  refine go_iconst (v := 0) hc dX14_likeliest_1 rfl ?_
  replace h := goNm_x h; obtain ⟨M11, e12, h⟩ := h
  refine go_ptI hc lk_RX14_66 dX14_likeliest_2 (sh_102 hW) e12 ?_
  refine go_aload0 hc dX14_likeliest_5 ?_
  refine go_getQ hc lk_RX14_442 dX14_likeliest_6 (sh_102 hW) ?_
  refine go_ifnonnull hc 18 dX14_likeliest_9 rfl (fun _ c13 => ?_) (fun c13 => ?_)
  · replace h := goIfF h (goNn c13)
    refine go_aload0 hc dX14_likeliest_18 ?_
    replace h := goBind h; obtain ⟨M14, e15, h⟩ := h
    refine go_callVv hc dX14_likeliest_19 (mX14_laysHonest hk hW e15) ml_RX14_523 yk_X14_laysHonest ⟨wim_X14_laysHonest, wse_X14_laysHonest⟩ hR rfl (sh_102 hW) rfl rfl rfl (Nat.le_of_ble_eq_true rfl) rfl ?_
    refine go_iconst (v := 0) hc dX14_likeliest_22 rfl ?_
    refine go_istore1 hc dX14_likeliest_23 ?_
    refine go_iconst (v := 1) hc dX14_likeliest_24 rfl ?_
    refine go_istore2 hc dX14_likeliest_25 ?_
    replace h := goBind h; obtain ⟨x30, e29, h⟩ := h
    refine mX14_likeliest_L26 hc hk hR hr hW _ _ _ _ e29 (fun d2 => ?_)
    refine go_aload0 hc dX14_likeliest_58 ?_
    refine go_iload1 hc dX14_likeliest_59 ?_
    replace h := goB2_h h; obtain ⟨x31, M32, e33, h⟩ := h
    refine go_callVi hc dX14_likeliest_60 (mX14_good hk hW e33) ml_RX14_76 yk_X14_good ⟨wim_X14_good, wse_X14_good⟩ hR rfl (sh_102 hW) rfl rfl rfl (Nat.le_of_ble_eq_true rfl) rfl ?_
    cases h
    exact go_iret hc dX14_likeliest_63 hr
  · replace h := goIfT h c13
    refine go_aload0 hc dX14_likeliest_12 ?_
    refine go_iconst (v := 1) hc dX14_likeliest_13 rfl ?_
    replace h := goB2_h h; obtain ⟨x34, M35, e36, h⟩ := h
    refine go_callVi hc dX14_likeliest_14 (mX14_refused hk hW e36) ml_RX14_72 yk_X14_refused ⟨wim_X14_refused, wse_X14_refused⟩ hR rfl (sh_102 hW) rfl rfl rfl (Nat.le_of_ble_eq_true rfl) rfl ?_
    cases h
    exact go_iret hc dX14_likeliest_17 hr
theorem dX14_proved_0 : decode cX14_proved 0 = .ok (.aload_n 0, 1) := by decide +kernel
theorem dX14_proved_1 : decode cX14_proved 1 = .ok (.iconst 0, 1) := by decide +kernel
theorem dX14_proved_2 : decode cX14_proved 2 = .ok (.putfield 66, 3) := by decide +kernel
theorem dX14_proved_5 : decode cX14_proved 5 = .ok (.aload_n 0, 1) := by decide +kernel
theorem dX14_proved_6 : decode cX14_proved 6 = .ok (.iload_n 2, 1) := by decide +kernel
theorem dX14_proved_7 : decode cX14_proved 7 = .ok (.invokevirtual 491, 3) := by decide +kernel
theorem dX14_proved_10 : decode cX14_proved 10 = .ok (.ifCond .ne 9, 3) := by decide +kernel
theorem dX14_proved_13 : decode cX14_proved 13 = .ok (.aload_n 0, 1) := by decide +kernel
theorem dX14_proved_14 : decode cX14_proved 14 = .ok (.iconst 1, 1) := by decide +kernel
theorem dX14_proved_15 : decode cX14_proved 15 = .ok (.invokevirtual 72, 3) := by decide +kernel
theorem dX14_proved_18 : decode cX14_proved 18 = .ok (.ireturn, 1) := by decide +kernel
theorem dX14_proved_19 : decode cX14_proved 19 = .ok (.aload_n 0, 1) := by decide +kernel
theorem dX14_proved_20 : decode cX14_proved 20 = .ok (.iload_n 1, 1) := by decide +kernel
theorem dX14_proved_21 : decode cX14_proved 21 = .ok (.iload_n 3, 1) := by decide +kernel
theorem dX14_proved_22 : decode cX14_proved 22 = .ok (.invokevirtual 532, 3) := by decide +kernel
theorem dX14_proved_25 : decode cX14_proved 25 = .ok (.istore 4, 2) := by decide +kernel
theorem dX14_proved_27 : decode cX14_proved 27 = .ok (.iload 4, 2) := by decide +kernel
theorem dX14_proved_29 : decode cX14_proved 29 = .ok (.ifCond .le 10, 3) := by decide +kernel
theorem dX14_proved_32 : decode cX14_proved 32 = .ok (.aload_n 0, 1) := by decide +kernel
theorem dX14_proved_33 : decode cX14_proved 33 = .ok (.iload 4, 2) := by decide +kernel
theorem dX14_proved_35 : decode cX14_proved 35 = .ok (.invokevirtual 72, 3) := by decide +kernel
theorem dX14_proved_38 : decode cX14_proved 38 = .ok (.ireturn, 1) := by decide +kernel
theorem dX14_proved_39 : decode cX14_proved 39 = .ok (.aload_n 0, 1) := by decide +kernel
theorem dX14_proved_40 : decode cX14_proved 40 = .ok (.invokevirtual 523, 3) := by decide +kernel
theorem dX14_proved_43 : decode cX14_proved 43 = .ok (.bipush (-2), 2) := by decide +kernel
theorem dX14_proved_45 : decode cX14_proved 45 = .ok (.istore 5, 2) := by decide +kernel
theorem dX14_proved_47 : decode cX14_proved 47 = .ok (.iconst 0, 1) := by decide +kernel
theorem dX14_proved_48 : decode cX14_proved 48 = .ok (.istore 6, 2) := by decide +kernel
theorem dX14_proved_50 : decode cX14_proved 50 = .ok (.iload 6, 2) := by decide +kernel
theorem dX14_proved_52 : decode cX14_proved 52 = .ok (.aload_n 0, 1) := by decide +kernel
theorem dX14_proved_53 : decode cX14_proved 53 = .ok (.invokevirtual 488, 3) := by decide +kernel
theorem dX14_proved_56 : decode cX14_proved 56 = .ok (.if_icmp .gt 47, 3) := by decide +kernel
theorem dX14_proved_59 : decode cX14_proved 59 = .ok (.iload 5, 2) := by decide +kernel
theorem dX14_proved_61 : decode cX14_proved 61 = .ok (.bipush (-2), 2) := by decide +kernel
theorem dX14_proved_63 : decode cX14_proved 63 = .ok (.if_icmp .eq 16, 3) := by decide +kernel
theorem dX14_proved_66 : decode cX14_proved 66 = .ok (.iload 6, 2) := by decide +kernel
theorem dX14_proved_68 : decode cX14_proved 68 = .ok (.invokestatic 396, 3) := by decide +kernel
theorem dX14_proved_71 : decode cX14_proved 71 = .ok (.iload 5, 2) := by decide +kernel
theorem dX14_proved_73 : decode cX14_proved 73 = .ok (.invokestatic 396, 3) := by decide +kernel
theorem dX14_proved_76 : decode cX14_proved 76 = .ok (.if_icmp .ge 21, 3) := by decide +kernel
theorem dX14_proved_79 : decode cX14_proved 79 = .ok (.aload_n 0, 1) := by decide +kernel
theorem dX14_proved_80 : decode cX14_proved 80 = .ok (.iload_n 1, 1) := by decide +kernel
theorem dX14_proved_81 : decode cX14_proved 81 = .ok (.iload_n 3, 1) := by decide +kernel
theorem dX14_proved_82 : decode cX14_proved 82 = .ok (.iload 6, 2) := by decide +kernel
theorem dX14_proved_84 : decode cX14_proved 84 = .ok (.invokevirtual 535, 3) := by decide +kernel
theorem dX14_proved_87 : decode cX14_proved 87 = .ok (.iconst 1, 1) := by decide +kernel
theorem dX14_proved_88 : decode cX14_proved 88 = .ok (.iload_n 2, 1) := by decide +kernel
theorem dX14_proved_89 : decode cX14_proved 89 = .ok (.ishl, 1) := by decide +kernel
theorem dX14_proved_90 : decode cX14_proved 90 = .ok (.if_icmp .ne 7, 3) := by decide +kernel
theorem dX14_proved_93 : decode cX14_proved 93 = .ok (.iload 6, 2) := by decide +kernel
theorem dX14_proved_95 : decode cX14_proved 95 = .ok (.istore 5, 2) := by decide +kernel
theorem dX14_proved_97 : decode cX14_proved 97 = .ok (.iinc 6 1, 3) := by decide +kernel
theorem dX14_proved_100 : decode cX14_proved 100 = .ok (.goto (-50), 3) := by decide +kernel
theorem dX14_proved_103 : decode cX14_proved 103 = .ok (.aload_n 0, 1) := by decide +kernel
theorem dX14_proved_104 : decode cX14_proved 104 = .ok (.iload 5, 2) := by decide +kernel
theorem dX14_proved_106 : decode cX14_proved 106 = .ok (.invokevirtual 76, 3) := by decide +kernel
theorem dX14_proved_109 : decode cX14_proved 109 = .ok (.ireturn, 1) := by decide +kernel
set_option maxRecDepth 100000 in
set_option maxHeartbeats 4000000 in
theorem mX14_proved_L50 {E : goEv} {X : goX} {G : goG} {Q : State → Prop} {M : goMI} {L : goML} {R : goMR} {N : Nat} {v1 : Int32} {v2 : Int32} {v3 : Int32} (hc : goCx E X cX14_proved RX14 7) (hk : goKn E) (hR : X.2.2.2.1 = goRoom 7 168 0 0) (hr : X.2.2.2.2.2.2.2.2.1.sig.returnType = (Option.some FieldType.int)) (hW : goW G R) : ∀ (n : Nat) (v5 : Int32) (v6 : Int32) (r0 : Int32), lX14_proved_50 N v1 v2 v3 M R n v5 v6 = some r0 → (∀ (d1 d2 d3 d4 d6 : Option Value), goA E X G 0 0 Q 103 [some (.ref 102), d1, d2, d3, d4, some (.int r0), d6] [] M L R) → ∀ (d4 : Option Value), goA E X G 0 0 Q 50 [some (.ref 102), some (.int v1), some (.int v2), some (.int v3), d4, some (.int v5), some (.int v6)] [] M L R := by
  intro n
  induction n with
  | zero => intro v5 v6 r0 h; exact nomatch h
  | succ n ih =>
    intro v5 v6 r0 h kx d4
    rw [lX14_proved_50] at h
    refine go_iload6 hc dX14_proved_50 ?_
    refine go_aload0 hc dX14_proved_52 ?_
    replace h := goBind h; obtain ⟨x21, e22, h⟩ := h
    refine go_callVi hc dX14_proved_53 (mX14_allGoats hk hW e22) ml_RX14_488 yk_X14_allGoats ⟨wim_X14_allGoats, wse_X14_allGoats⟩ hR rfl (sh_102 hW) rfl rfl rfl (Nat.le_of_ble_eq_true rfl) rfl ?_
    refine go_icmp_gt hc 103 dX14_proved_56 rfl (fun c23 => ?_) (fun c23 => ?_)
    · replace h := goIfF h c23
      cases h
      exact kx _ _ _ _ _
    · replace h := goIfT h c23
      refine go_iload5 hc dX14_proved_59 ?_
      refine go_bipush (v := (-2)) hc dX14_proved_61 rfl ?_
      replace h := goBind h; obtain ⟨x24, e25, h⟩ := h
      have k26 : ∀ (d4 : Option Value), goA E X G 0 0 Q 97 [some (.ref 102), some (.int v1), some (.int v2), some (.int v3), d4, some (.int x24), some (.int v6)] [] M L R := by
        intro d4
        refine go_iinc6 (v := (v6 + 1)) hc dX14_proved_97 rfl ?_
        refine go_goto hc 50 dX14_proved_100 rfl ?_
        exact ih _ _ _ h kx _
      refine go_icmp_eq hc 79 dX14_proved_63 rfl (fun c27 => ?_) (fun c27 => ?_)
      · replace e25 := goIfT e25 c27
        refine go_aload0 hc dX14_proved_79 ?_
        refine go_iload1 hc dX14_proved_80 ?_
        refine go_iload3 hc dX14_proved_81 ?_
        refine go_iload6 hc dX14_proved_82 ?_
        replace e25 := goBind e25; obtain ⟨x28, e29, e25⟩ := e25
        refine go_callVi hc dX14_proved_84 (mX14_couldBe hk hW e29) ml_RX14_535 yk_X14_couldBe ⟨wim_X14_couldBe, wse_X14_couldBe⟩ hR rfl (sh_102 hW) rfl rfl rfl (Nat.le_of_ble_eq_true rfl) rfl ?_
        refine go_iconst (v := 1) hc dX14_proved_87 rfl ?_
        refine go_iload2 hc dX14_proved_88 ?_
        refine go_ishl hc dX14_proved_89 ?_
        refine go_icmp_ne hc 97 dX14_proved_90 rfl (fun c30 => ?_) (fun c30 => ?_)
        · replace e25 := goIfF e25 c30
          cases e25
          exact k26 _
        · replace e25 := goIfT e25 c30
          refine go_iload6 hc dX14_proved_93 ?_
          refine go_istore5 hc dX14_proved_95 ?_
          cases e25
          exact k26 _
      · replace e25 := goIfF e25 c27
        refine go_iload6 hc dX14_proved_66 ?_
        replace e25 := goBind e25; obtain ⟨x31, e32, e25⟩ := e25
        refine go_callSi hc dX14_proved_68 (mX14_bits hk hW e32) ml_RX14_396 yk_X14_bits wst_X14_bits hR rfl rfl rfl (Nat.le_of_ble_eq_true rfl) rfl ?_
        refine go_iload5 hc dX14_proved_71 ?_
        replace e25 := goBind e25; obtain ⟨x33, e34, e25⟩ := e25
        refine go_callSi hc dX14_proved_73 (mX14_bits hk hW e34) ml_RX14_396 yk_X14_bits wst_X14_bits hR rfl rfl rfl (Nat.le_of_ble_eq_true rfl) rfl ?_
        refine go_icmp_ge hc 97 dX14_proved_76 rfl (fun c35 => ?_) (fun c35 => ?_)
        · replace e25 := goIfF e25 c35
          cases e25
          exact k26 _
        · replace e25 := goIfT e25 c35
          refine go_aload0 hc dX14_proved_79 ?_
          refine go_iload1 hc dX14_proved_80 ?_
          refine go_iload3 hc dX14_proved_81 ?_
          refine go_iload6 hc dX14_proved_82 ?_
          replace e25 := goBind e25; obtain ⟨x36, e37, e25⟩ := e25
          refine go_callVi hc dX14_proved_84 (mX14_couldBe hk hW e37) ml_RX14_535 yk_X14_couldBe ⟨wim_X14_couldBe, wse_X14_couldBe⟩ hR rfl (sh_102 hW) rfl rfl rfl (Nat.le_of_ble_eq_true rfl) rfl ?_
          refine go_iconst (v := 1) hc dX14_proved_87 rfl ?_
          refine go_iload2 hc dX14_proved_88 ?_
          refine go_ishl hc dX14_proved_89 ?_
          refine go_icmp_ne hc 97 dX14_proved_90 rfl (fun c38 => ?_) (fun c38 => ?_)
          · replace e25 := goIfF e25 c38
            cases e25
            exact k26 _
          · replace e25 := goIfT e25 c38
            refine go_iload6 hc dX14_proved_93 ?_
            refine go_istore5 hc dX14_proved_95 ?_
            cases e25
            exact k26 _
set_option maxRecDepth 100000 in
set_option maxHeartbeats 4000000 in
theorem mX14_proved {E : goEv} {l : Launch} {G : goG} {N : Nat} {M : goMI} {L : goML} {R : goMR} {v1 : Int32} {v2 : Int32} {v3 : Int32} {r0 : Int32} {r1 : goMI} (hk : goKn E) (hW : goW G R) (h : fX14_proved N M R v1 v2 v3 = some (r0, r1)) : Met l yX14_proved (goCd yX14_proved cX14_proved 7 (Option.some FieldType.int)) (goRoom 7 168 0 0) (goPre E [.ref 102, .int v1, .int v2, .int v3] G M L R) (goQi E r0 G r1 L R) 0 0 (goSet E) := by
  refine goMet pl_RX14 hk (lv := [some (.ref 102), some (.int v1), some (.int v2), some (.int v3), none, none, none]) rfl (Nat.le_of_ble_eq_true rfl) ?_
  intro X hc hl hR hr hnm
  subst hl
  unfold fX14_proved at h
  refine go_aload0 hc dX14_proved_0 ?_
  refine go_iconst (v := 0) hc dX14_proved_1 rfl ?_
  replace h := goNm_x h; obtain ⟨M11, e12, h⟩ := h
  refine go_ptI hc lk_RX14_66 dX14_proved_2 (sh_102 hW) e12 ?_
  refine go_aload0 hc dX14_proved_5 ?_
  refine go_iload2 hc dX14_proved_6 ?_
  replace h := goBind h; obtain ⟨x13, e14, h⟩ := h
  refine go_callVi hc dX14_proved_7 (mX14_isPlace hk hW e14) ml_RX14_491 yk_X14_isPlace ⟨wim_X14_isPlace, wse_X14_isPlace⟩ hR rfl (sh_102 hW) rfl rfl rfl (Nat.le_of_ble_eq_true rfl) rfl ?_
  refine go_if_ne hc 19 dX14_proved_10 rfl (fun c15 => ?_) (fun c15 => ?_)
  · replace h := goIfF h c15
    refine go_aload0 hc dX14_proved_19 ?_
    refine go_iload1 hc dX14_proved_20 ?_
    refine go_iload3 hc dX14_proved_21 ?_
    replace h := goBind h; obtain ⟨x16, e17, h⟩ := h
    refine go_callVi hc dX14_proved_22 (mX14_refusesPerson hk hW e17) ml_RX14_532 yk_X14_refusesPerson ⟨wim_X14_refusesPerson, wse_X14_refusesPerson⟩ hR rfl (sh_102 hW) rfl rfl rfl (Nat.le_of_ble_eq_true rfl) rfl ?_
    refine go_istore4 hc dX14_proved_25 ?_
    refine go_iload4 hc dX14_proved_27 ?_
    refine go_if_le hc 39 dX14_proved_29 rfl (fun c18 => ?_) (fun c18 => ?_)
    · replace h := goIfF h c18
      refine go_aload0 hc dX14_proved_39 ?_
      replace h := goBind h; obtain ⟨M19, e20, h⟩ := h
      refine go_callVv hc dX14_proved_40 (mX14_laysHonest hk hW e20) ml_RX14_523 yk_X14_laysHonest ⟨wim_X14_laysHonest, wse_X14_laysHonest⟩ hR rfl (sh_102 hW) rfl rfl rfl (Nat.le_of_ble_eq_true rfl) rfl ?_
      refine go_bipush (v := (-2)) hc dX14_proved_43 rfl ?_
      refine go_istore5 hc dX14_proved_45 ?_
      refine go_iconst (v := 0) hc dX14_proved_47 rfl ?_
      refine go_istore6 hc dX14_proved_48 ?_
      replace h := goBind h; obtain ⟨x40, e39, h⟩ := h
      refine mX14_proved_L50 hc hk hR hr hW _ _ _ _ e39 (fun d1 d2 d3 d4 d6 => ?_) _
      refine go_aload0 hc dX14_proved_103 ?_
      refine go_iload5 hc dX14_proved_104 ?_
      replace h := goB2_h h; obtain ⟨x41, M42, e43, h⟩ := h
      refine go_callVi hc dX14_proved_106 (mX14_good hk hW e43) ml_RX14_76 yk_X14_good ⟨wim_X14_good, wse_X14_good⟩ hR rfl (sh_102 hW) rfl rfl rfl (Nat.le_of_ble_eq_true rfl) rfl ?_
      cases h
      exact go_iret hc dX14_proved_109 hr
    · replace h := goIfT h c18
      refine go_aload0 hc dX14_proved_32 ?_
      refine go_iload4 hc dX14_proved_33 ?_
      replace h := goB2_h h; obtain ⟨x44, M45, e46, h⟩ := h
      refine go_callVi hc dX14_proved_35 (mX14_refused hk hW e46) ml_RX14_72 yk_X14_refused ⟨wim_X14_refused, wse_X14_refused⟩ hR rfl (sh_102 hW) rfl rfl rfl (Nat.le_of_ble_eq_true rfl) rfl ?_
      cases h
      exact go_iret hc dX14_proved_38 hr
  · replace h := goIfT h c15
    refine go_aload0 hc dX14_proved_13 ?_
    refine go_iconst (v := 1) hc dX14_proved_14 rfl ?_
    replace h := goB2_h h; obtain ⟨x47, M48, e49, h⟩ := h
    refine go_callVi hc dX14_proved_15 (mX14_refused hk hW e49) ml_RX14_72 yk_X14_refused ⟨wim_X14_refused, wse_X14_refused⟩ hR rfl (sh_102 hW) rfl rfl rfl (Nat.le_of_ble_eq_true rfl) rfl ?_
    cases h
    exact go_iret hc dX14_proved_18 hr
theorem dX14_asks_0 : decode cX14_asks 0 = .ok (.aload_n 0, 1) := by decide +kernel
theorem dX14_asks_1 : decode cX14_asks 1 = .ok (.getfield 442, 3) := by decide +kernel
theorem dX14_asks_4 : decode cX14_asks 4 = .ok (.ifnonnull 5, 3) := by decide +kernel
theorem dX14_asks_7 : decode cX14_asks 7 = .ok (.iconst 1, 1) := by decide +kernel
theorem dX14_asks_8 : decode cX14_asks 8 = .ok (.ireturn, 1) := by decide +kernel
theorem dX14_asks_9 : decode cX14_asks 9 = .ok (.aload_n 0, 1) := by decide +kernel
theorem dX14_asks_10 : decode cX14_asks 10 = .ok (.invokevirtual 523, 3) := by decide +kernel
theorem dX14_asks_13 : decode cX14_asks 13 = .ok (.iconst 0, 1) := by decide +kernel
theorem dX14_asks_14 : decode cX14_asks 14 = .ok (.istore_n 1, 1) := by decide +kernel
theorem dX14_asks_15 : decode cX14_asks 15 = .ok (.iconst 0, 1) := by decide +kernel
theorem dX14_asks_16 : decode cX14_asks 16 = .ok (.istore_n 2, 1) := by decide +kernel
theorem dX14_asks_17 : decode cX14_asks 17 = .ok (.iload_n 2, 1) := by decide +kernel
theorem dX14_asks_18 : decode cX14_asks 18 = .ok (.aload_n 0, 1) := by decide +kernel
theorem dX14_asks_19 : decode cX14_asks 19 = .ok (.getfield 442, 3) := by decide +kernel
theorem dX14_asks_22 : decode cX14_asks 22 = .ok (.invokevirtual 450, 3) := by decide +kernel
theorem dX14_asks_25 : decode cX14_asks 25 = .ok (.if_icmp .ge 66, 3) := by decide +kernel
theorem dX14_asks_28 : decode cX14_asks 28 = .ok (.aload_n 0, 1) := by decide +kernel
theorem dX14_asks_29 : decode cX14_asks 29 = .ok (.iload_n 2, 1) := by decide +kernel
theorem dX14_asks_30 : decode cX14_asks 30 = .ok (.aload_n 0, 1) := by decide +kernel
theorem dX14_asks_31 : decode cX14_asks 31 = .ok (.invokevirtual 526, 3) := by decide +kernel
theorem dX14_asks_34 : decode cX14_asks 34 = .ok (.invokevirtual 529, 3) := by decide +kernel
theorem dX14_asks_37 : decode cX14_asks 37 = .ok (.ifCond .ne 6, 3) := by decide +kernel
theorem dX14_asks_40 : decode cX14_asks 40 = .ok (.goto 45, 3) := by decide +kernel
theorem dX14_asks_43 : decode cX14_asks 43 = .ok (.aload_n 0, 1) := by decide +kernel
theorem dX14_asks_44 : decode cX14_asks 44 = .ok (.iload_n 2, 1) := by decide +kernel
theorem dX14_asks_45 : decode cX14_asks 45 = .ok (.invokevirtual 482, 3) := by decide +kernel
theorem dX14_asks_48 : decode cX14_asks 48 = .ok (.iconst 0, 1) := by decide +kernel
theorem dX14_asks_49 : decode cX14_asks 49 = .ok (.istore_n 3, 1) := by decide +kernel
theorem dX14_asks_50 : decode cX14_asks 50 = .ok (.iload_n 3, 1) := by decide +kernel
theorem dX14_asks_51 : decode cX14_asks 51 = .ok (.bipush 72, 2) := by decide +kernel
theorem dX14_asks_53 : decode cX14_asks 53 = .ok (.if_icmp .ge 29, 3) := by decide +kernel
theorem dX14_asks_56 : decode cX14_asks 56 = .ok (.aload_n 0, 1) := by decide +kernel
theorem dX14_asks_57 : decode cX14_asks 57 = .ok (.getfield 54, 3) := by decide +kernel
theorem dX14_asks_60 : decode cX14_asks 60 = .ok (.iload_n 1, 1) := by decide +kernel
theorem dX14_asks_61 : decode cX14_asks 61 = .ok (.bipush 6, 2) := by decide +kernel
theorem dX14_asks_63 : decode cX14_asks 63 = .ok (.imul, 1) := by decide +kernel
theorem dX14_asks_64 : decode cX14_asks 64 = .ok (.bipush 12, 2) := by decide +kernel
theorem dX14_asks_66 : decode cX14_asks 66 = .ok (.imul, 1) := by decide +kernel
theorem dX14_asks_67 : decode cX14_asks 67 = .ok (.iload_n 3, 1) := by decide +kernel
theorem dX14_asks_68 : decode cX14_asks 68 = .ok (.iadd, 1) := by decide +kernel
theorem dX14_asks_69 : decode cX14_asks 69 = .ok (.aload_n 0, 1) := by decide +kernel
theorem dX14_asks_70 : decode cX14_asks 70 = .ok (.getfield 30, 3) := by decide +kernel
theorem dX14_asks_73 : decode cX14_asks 73 = .ok (.iload_n 3, 1) := by decide +kernel
theorem dX14_asks_74 : decode cX14_asks 74 = .ok (.iaload, 1) := by decide +kernel
theorem dX14_asks_75 : decode cX14_asks 75 = .ok (.iastore, 1) := by decide +kernel
theorem dX14_asks_76 : decode cX14_asks 76 = .ok (.iinc 3 1, 3) := by decide +kernel
theorem dX14_asks_79 : decode cX14_asks 79 = .ok (.goto (-29), 3) := by decide +kernel
theorem dX14_asks_82 : decode cX14_asks 82 = .ok (.iinc 1 1, 3) := by decide +kernel
theorem dX14_asks_85 : decode cX14_asks 85 = .ok (.iinc 2 1, 3) := by decide +kernel
theorem dX14_asks_88 : decode cX14_asks 88 = .ok (.goto (-71), 3) := by decide +kernel
theorem dX14_asks_91 : decode cX14_asks 91 = .ok (.iload_n 1, 1) := by decide +kernel
theorem dX14_asks_92 : decode cX14_asks 92 = .ok (.iconst 2, 1) := by decide +kernel
theorem dX14_asks_93 : decode cX14_asks 93 = .ok (.if_icmp .lt 13, 3) := by decide +kernel
theorem dX14_asks_96 : decode cX14_asks 96 = .ok (.aload_n 0, 1) := by decide +kernel
theorem dX14_asks_97 : decode cX14_asks 97 = .ok (.getfield 442, 3) := by decide +kernel
theorem dX14_asks_100 : decode cX14_asks 100 = .ok (.getfield 328, 3) := by decide +kernel
theorem dX14_asks_103 : decode cX14_asks 103 = .ok (.ifCond .ne 6, 3) := by decide +kernel
theorem dX14_asks_106 : decode cX14_asks 106 = .ok (.bipush 6, 2) := by decide +kernel
theorem dX14_asks_108 : decode cX14_asks 108 = .ok (.ireturn, 1) := by decide +kernel
theorem dX14_asks_109 : decode cX14_asks 109 = .ok (.aload_n 0, 1) := by decide +kernel
theorem dX14_asks_110 : decode cX14_asks 110 = .ok (.bipush 82, 2) := by decide +kernel
theorem dX14_asks_112 : decode cX14_asks 112 = .ok (.putfield 544, 3) := by decide +kernel
theorem dX14_asks_115 : decode cX14_asks 115 = .ok (.iconst 0, 1) := by decide +kernel
theorem dX14_asks_116 : decode cX14_asks 116 = .ok (.istore_n 2, 1) := by decide +kernel
theorem dX14_asks_117 : decode cX14_asks 117 = .ok (.iload_n 2, 1) := by decide +kernel
theorem dX14_asks_118 : decode cX14_asks 118 = .ok (.aload_n 0, 1) := by decide +kernel
theorem dX14_asks_119 : decode cX14_asks 119 = .ok (.getfield 442, 3) := by decide +kernel
theorem dX14_asks_122 : decode cX14_asks 122 = .ok (.getfield 328, 3) := by decide +kernel
theorem dX14_asks_125 : decode cX14_asks 125 = .ok (.if_icmp .ge 157, 3) := by decide +kernel
theorem dX14_asks_128 : decode cX14_asks 128 = .ok (.iconst 0, 1) := by decide +kernel
theorem dX14_asks_129 : decode cX14_asks 129 = .ok (.istore_n 3, 1) := by decide +kernel
theorem dX14_asks_130 : decode cX14_asks 130 = .ok (.iload_n 3, 1) := by decide +kernel
theorem dX14_asks_131 : decode cX14_asks 131 = .ok (.aload_n 0, 1) := by decide +kernel
theorem dX14_asks_132 : decode cX14_asks 132 = .ok (.getfield 442, 3) := by decide +kernel
theorem dX14_asks_135 : decode cX14_asks 135 = .ok (.getfield 196, 3) := by decide +kernel
theorem dX14_asks_138 : decode cX14_asks 138 = .ok (.if_icmp .ge 138, 3) := by decide +kernel
theorem dX14_asks_141 : decode cX14_asks 141 = .ok (.iconst 0, 1) := by decide +kernel
theorem dX14_asks_142 : decode cX14_asks 142 = .ok (.istore 4, 2) := by decide +kernel
theorem dX14_asks_144 : decode cX14_asks 144 = .ok (.iconst 0, 1) := by decide +kernel
theorem dX14_asks_145 : decode cX14_asks 145 = .ok (.istore 5, 2) := by decide +kernel
theorem dX14_asks_147 : decode cX14_asks 147 = .ok (.iload 5, 2) := by decide +kernel
theorem dX14_asks_149 : decode cX14_asks 149 = .ok (.bipush 8, 2) := by decide +kernel
theorem dX14_asks_151 : decode cX14_asks 151 = .ok (.if_icmp .ge 17, 3) := by decide +kernel
theorem dX14_asks_154 : decode cX14_asks 154 = .ok (.aload_n 0, 1) := by decide +kernel
theorem dX14_asks_155 : decode cX14_asks 155 = .ok (.getfield 57, 3) := by decide +kernel
theorem dX14_asks_158 : decode cX14_asks 158 = .ok (.iload 5, 2) := by decide +kernel
theorem dX14_asks_160 : decode cX14_asks 160 = .ok (.iconst 0, 1) := by decide +kernel
theorem dX14_asks_161 : decode cX14_asks 161 = .ok (.iastore, 1) := by decide +kernel
theorem dX14_asks_162 : decode cX14_asks 162 = .ok (.iinc 5 1, 3) := by decide +kernel
theorem dX14_asks_165 : decode cX14_asks 165 = .ok (.goto (-18), 3) := by decide +kernel
theorem dX14_asks_168 : decode cX14_asks 168 = .ok (.iconst 0, 1) := by decide +kernel
theorem dX14_asks_169 : decode cX14_asks 169 = .ok (.istore 5, 2) := by decide +kernel
theorem dX14_asks_171 : decode cX14_asks 171 = .ok (.iload 5, 2) := by decide +kernel
theorem dX14_asks_173 : decode cX14_asks 173 = .ok (.iload_n 1, 1) := by decide +kernel
theorem dX14_asks_174 : decode cX14_asks 174 = .ok (.if_icmp .ge 68, 3) := by decide +kernel
theorem dX14_asks_177 : decode cX14_asks 177 = .ok (.aload_n 0, 1) := by decide +kernel
theorem dX14_asks_178 : decode cX14_asks 178 = .ok (.getfield 54, 3) := by decide +kernel
theorem dX14_asks_181 : decode cX14_asks 181 = .ok (.iload 5, 2) := by decide +kernel
theorem dX14_asks_183 : decode cX14_asks 183 = .ok (.bipush 6, 2) := by decide +kernel
theorem dX14_asks_185 : decode cX14_asks 185 = .ok (.imul, 1) := by decide +kernel
theorem dX14_asks_186 : decode cX14_asks 186 = .ok (.bipush 12, 2) := by decide +kernel
theorem dX14_asks_188 : decode cX14_asks 188 = .ok (.imul, 1) := by decide +kernel
theorem dX14_asks_189 : decode cX14_asks 189 = .ok (.bipush 12, 2) := by decide +kernel
theorem dX14_asks_191 : decode cX14_asks 191 = .ok (.iload_n 2, 1) := by decide +kernel
theorem dX14_asks_192 : decode cX14_asks 192 = .ok (.imul, 1) := by decide +kernel
theorem dX14_asks_193 : decode cX14_asks 193 = .ok (.iadd, 1) := by decide +kernel
theorem dX14_asks_194 : decode cX14_asks 194 = .ok (.iload_n 3, 1) := by decide +kernel
theorem dX14_asks_195 : decode cX14_asks 195 = .ok (.iadd, 1) := by decide +kernel
theorem dX14_asks_196 : decode cX14_asks 196 = .ok (.iaload, 1) := by decide +kernel
theorem dX14_asks_197 : decode cX14_asks 197 = .ok (.istore 6, 2) := by decide +kernel
theorem dX14_asks_199 : decode cX14_asks 199 = .ok (.aload_n 0, 1) := by decide +kernel
theorem dX14_asks_200 : decode cX14_asks 200 = .ok (.getfield 57, 3) := by decide +kernel
theorem dX14_asks_203 : decode cX14_asks 203 = .ok (.iload 6, 2) := by decide +kernel
theorem dX14_asks_205 : decode cX14_asks 205 = .ok (.dup2, 1) := by decide +kernel
theorem dX14_asks_206 : decode cX14_asks 206 = .ok (.iaload, 1) := by decide +kernel
theorem dX14_asks_207 : decode cX14_asks 207 = .ok (.iconst 1, 1) := by decide +kernel
theorem dX14_asks_208 : decode cX14_asks 208 = .ok (.iadd, 1) := by decide +kernel
theorem dX14_asks_209 : decode cX14_asks 209 = .ok (.iastore, 1) := by decide +kernel
theorem dX14_asks_210 : decode cX14_asks 210 = .ok (.aload_n 0, 1) := by decide +kernel
theorem dX14_asks_211 : decode cX14_asks 211 = .ok (.getfield 57, 3) := by decide +kernel
theorem dX14_asks_214 : decode cX14_asks 214 = .ok (.iload 6, 2) := by decide +kernel
theorem dX14_asks_216 : decode cX14_asks 216 = .ok (.iaload, 1) := by decide +kernel
theorem dX14_asks_217 : decode cX14_asks 217 = .ok (.iload 4, 2) := by decide +kernel
theorem dX14_asks_219 : decode cX14_asks 219 = .ok (.if_icmp .le 13, 3) := by decide +kernel
theorem dX14_asks_222 : decode cX14_asks 222 = .ok (.aload_n 0, 1) := by decide +kernel
theorem dX14_asks_223 : decode cX14_asks 223 = .ok (.getfield 57, 3) := by decide +kernel
theorem dX14_asks_226 : decode cX14_asks 226 = .ok (.iload 6, 2) := by decide +kernel
theorem dX14_asks_228 : decode cX14_asks 228 = .ok (.iaload, 1) := by decide +kernel
theorem dX14_asks_229 : decode cX14_asks 229 = .ok (.goto 5, 3) := by decide +kernel
theorem dX14_asks_232 : decode cX14_asks 232 = .ok (.iload 4, 2) := by decide +kernel
theorem dX14_asks_234 : decode cX14_asks 234 = .ok (.istore 4, 2) := by decide +kernel
theorem dX14_asks_236 : decode cX14_asks 236 = .ok (.iinc 5 1, 3) := by decide +kernel
theorem dX14_asks_239 : decode cX14_asks 239 = .ok (.goto (-68), 3) := by decide +kernel
theorem dX14_asks_242 : decode cX14_asks 242 = .ok (.iload 4, 2) := by decide +kernel
theorem dX14_asks_244 : decode cX14_asks 244 = .ok (.aload_n 0, 1) := by decide +kernel
theorem dX14_asks_245 : decode cX14_asks 245 = .ok (.getfield 544, 3) := by decide +kernel
theorem dX14_asks_248 : decode cX14_asks 248 = .ok (.if_icmp .lt 6, 3) := by decide +kernel
theorem dX14_asks_251 : decode cX14_asks 251 = .ok (.goto 19, 3) := by decide +kernel
theorem dX14_asks_254 : decode cX14_asks 254 = .ok (.aload_n 0, 1) := by decide +kernel
theorem dX14_asks_255 : decode cX14_asks 255 = .ok (.iload 4, 2) := by decide +kernel
theorem dX14_asks_257 : decode cX14_asks 257 = .ok (.putfield 544, 3) := by decide +kernel
theorem dX14_asks_260 : decode cX14_asks 260 = .ok (.aload_n 0, 1) := by decide +kernel
theorem dX14_asks_261 : decode cX14_asks 261 = .ok (.bipush 100, 2) := by decide +kernel
theorem dX14_asks_263 : decode cX14_asks 263 = .ok (.iload_n 2, 1) := by decide +kernel
theorem dX14_asks_264 : decode cX14_asks 264 = .ok (.imul, 1) := by decide +kernel
theorem dX14_asks_265 : decode cX14_asks 265 = .ok (.iload_n 3, 1) := by decide +kernel
theorem dX14_asks_266 : decode cX14_asks 266 = .ok (.iadd, 1) := by decide +kernel
theorem dX14_asks_267 : decode cX14_asks 267 = .ok (.putfield 547, 3) := by decide +kernel
theorem dX14_asks_270 : decode cX14_asks 270 = .ok (.iinc 3 1, 3) := by decide +kernel
theorem dX14_asks_273 : decode cX14_asks 273 = .ok (.goto (-143), 3) := by decide +kernel
theorem dX14_asks_276 : decode cX14_asks 276 = .ok (.iinc 2 1, 3) := by decide +kernel
theorem dX14_asks_279 : decode cX14_asks 279 = .ok (.goto (-162), 3) := by decide +kernel
theorem dX14_asks_282 : decode cX14_asks 282 = .ok (.iconst 0, 1) := by decide +kernel
theorem dX14_asks_283 : decode cX14_asks 283 = .ok (.ireturn, 1) := by decide +kernel
set_option maxRecDepth 100000 in
set_option maxHeartbeats 4000000 in
theorem mX14_asks_L50 {E : goEv} {X : goX} {G : goG} {Q : State → Prop} {L : goML} {R : goMR} {v1 : Int32} {v2 : Int32} (hc : goCx E X cX14_asks RX14 7) (hk : goKn E) (hR : X.2.2.2.1 = goRoom 7 168 0 0) (hr : X.2.2.2.2.2.2.2.2.1.sig.returnType = (Option.some FieldType.int)) (hW : goW G R) : ∀ (n : Nat) (v3 : Int32) (M : goMI) (r0 : goMI), lX14_asks_50 v1 n v3 M = some r0 → (∀ (d3 d4 d5 d6 : Option Value), goA E X G 0 0 Q 82 [some (.ref 102), some (.int v1), some (.int v2), d3, d4, d5, d6] [] r0 L R) → ∀ (d4 d5 d6 : Option Value), goA E X G 0 0 Q 50 [some (.ref 102), some (.int v1), some (.int v2), some (.int v3), d4, d5, d6] [] M L R := by
  intro n
  induction n with
  | zero => intro v3 M r0 h; exact nomatch h
  | succ n ih =>
    intro v3 M r0 h kx d4 d5 d6
    rw [lX14_asks_50] at h
    refine go_iload3 hc dX14_asks_50 ?_
    refine go_bipush (v := 72) hc dX14_asks_51 rfl ?_
    refine go_icmp_ge hc 82 dX14_asks_53 rfl (fun c30 => ?_) (fun c30 => ?_)
    · replace h := goIfF h c30
      cases h
      exact kx _ _ _ _
    · replace h := goIfT h c30
      refine go_aload0 hc dX14_asks_56 ?_
      refine go_getR hc lk_RX14_54 dX14_asks_57 (sh_102 hW) (rf_102_33 hW) ?_
      refine go_iload1 hc dX14_asks_60 ?_
      refine go_bipush (v := 6) hc dX14_asks_61 rfl ?_
      refine go_imul hc dX14_asks_63 ?_
      refine go_bipush (v := 12) hc dX14_asks_64 rfl ?_
      refine go_imul hc dX14_asks_66 ?_
      refine go_iload3 hc dX14_asks_67 ?_
      refine go_iadd hc dX14_asks_68 ?_
      refine go_aload0 hc dX14_asks_69 ?_
      refine go_getR hc lk_RX14_30 dX14_asks_70 (sh_102 hW) (rf_102_23 hW) ?_
      refine go_iload3 hc dX14_asks_73 ?_
      replace h := goBind h; obtain ⟨x31, e32, h⟩ := h
      refine go_iald hc dX14_asks_74 (sh_108 hW) e32 ?_
      replace h := goBind h; obtain ⟨M33, e34, h⟩ := h
      refine go_iast hc dX14_asks_75 (sh_116 hW) e34 ?_
      refine go_iinc3 (v := (v3 + 1)) hc dX14_asks_76 rfl ?_
      refine go_goto hc 50 dX14_asks_79 rfl ?_
      exact ih _ _ _ h kx _ _ _
set_option maxRecDepth 100000 in
set_option maxHeartbeats 4000000 in
theorem mX14_asks_L17 {E : goEv} {X : goX} {G : goG} {Q : State → Prop} {L : goML} {R : goMR} {N : Nat} (hc : goCx E X cX14_asks RX14 7) (hk : goKn E) (hR : X.2.2.2.1 = goRoom 7 168 0 0) (hr : X.2.2.2.2.2.2.2.2.1.sig.returnType = (Option.some FieldType.int)) (hW : goW G R) : ∀ (n : Nat) (v1 : Int32) (v2 : Int32) (M : goMI) (r0 : Int32) (r1 : goMI), lX14_asks_17 N R n v1 v2 M = some (r0, r1) → (∀ (d2 d3 d4 d5 d6 : Option Value), goA E X G 0 0 Q 91 [some (.ref 102), some (.int r0), d2, d3, d4, d5, d6] [] r1 L R) → ∀ (d3 d4 d5 d6 : Option Value), goA E X G 0 0 Q 17 [some (.ref 102), some (.int v1), some (.int v2), d3, d4, d5, d6] [] M L R := by
  intro n
  induction n with
  | zero => intro v1 v2 M r0 r1 h; exact nomatch h
  | succ n ih =>
    intro v1 v2 M r0 r1 h kx d3 d4 d5 d6
    rw [lX14_asks_17] at h
    refine go_iload2 hc dX14_asks_17 ?_
    refine go_aload0 hc dX14_asks_18 ?_
    replace h := goBind h; obtain ⟨b14, e15, h⟩ := h
    refine go_getR hc lk_RX14_442 dX14_asks_19 (sh_102 hW) e15 ?_
    replace h := goBind h; obtain ⟨x16, e17, h⟩ := h
    refine go_callVi hc dX14_asks_22 (mX13_cases hk hW (goW_M3 hW e15) e17) ml_RX14_450 yk_X13_cases ⟨wim_X13_cases, wse_X13_cases⟩ hR rfl (shM_0 (goW_M3 hW e15)) rfl rfl rfl (Nat.le_of_ble_eq_true rfl) rfl ?_
    refine go_icmp_ge hc 91 dX14_asks_25 rfl (fun c18 => ?_) (fun c18 => ?_)
    · replace h := goIfF h c18
      cases h
      exact kx _ _ _ _ _
    · replace h := goIfT h c18
      refine go_aload0 hc dX14_asks_28 ?_
      refine go_iload2 hc dX14_asks_29 ?_
      refine go_aload0 hc dX14_asks_30 ?_
      replace h := goBind h; obtain ⟨x19, e20, h⟩ := h
      refine go_callVi hc dX14_asks_31 (mX14_heard hk hW e20) ml_RX14_526 yk_X14_heard ⟨wim_X14_heard, wse_X14_heard⟩ hR rfl (sh_102 hW) rfl rfl rfl (Nat.le_of_ble_eq_true rfl) rfl ?_
      replace h := goBind h; obtain ⟨x21, e22, h⟩ := h
      refine go_callVi hc dX14_asks_34 (mX14_areTrue hk hW e22) ml_RX14_529 yk_X14_areTrue ⟨wim_X14_areTrue, wse_X14_areTrue⟩ hR rfl (sh_102 hW) rfl rfl rfl (Nat.le_of_ble_eq_true rfl) rfl ?_
      replace h := goB2_h h; obtain ⟨x23, M24, e25, h⟩ := h
      have k26 : ∀ (d3 d4 d5 d6 : Option Value), goA E X G 0 0 Q 85 [some (.ref 102), some (.int x23), some (.int v2), d3, d4, d5, d6] [] M24 L R := by
        intro d3 d4 d5 d6
        refine go_iinc2 (v := (v2 + 1)) hc dX14_asks_85 rfl ?_
        refine go_goto hc 17 dX14_asks_88 rfl ?_
        exact ih _ _ _ _ _ h kx _ _ _ _
      refine go_if_ne hc 43 dX14_asks_37 rfl (fun c27 => ?_) (fun c27 => ?_)
      · replace e25 := goIfF e25 c27
        refine go_aload0 hc dX14_asks_43 ?_
        refine go_iload2 hc dX14_asks_44 ?_
        replace e25 := goBind e25; obtain ⟨M28, e29, e25⟩ := e25
        refine go_callVv hc dX14_asks_45 (mX14_day hk hW e29) ml_RX14_482 yk_X14_day ⟨wim_X14_day, wse_X14_day⟩ hR rfl (sh_102 hW) rfl rfl rfl (Nat.le_of_ble_eq_true rfl) rfl ?_
        refine go_iconst (v := 0) hc dX14_asks_48 rfl ?_
        refine go_istore3 hc dX14_asks_49 ?_
        replace e25 := goBind e25; obtain ⟨M36, e35, e25⟩ := e25
        refine mX14_asks_L50 hc hk hR hr hW _ _ _ _ e35 (fun d3 d4 d5 d6 => ?_) _ _ _
        refine go_iinc1 (v := (v1 + 1)) hc dX14_asks_82 rfl ?_
        cases e25
        exact k26 _ _ _ _
      · replace e25 := goIfT e25 c27
        refine go_goto hc 85 dX14_asks_40 rfl ?_
        cases e25
        exact k26 _ _ _ _
set_option maxRecDepth 100000 in
set_option maxHeartbeats 4000000 in
theorem mX14_asks_L147 {E : goEv} {X : goX} {G : goG} {Q : State → Prop} {L : goML} {R : goMR} {v1 : Int32} {v2 : Int32} {v3 : Int32} {v4 : Int32} (hc : goCx E X cX14_asks RX14 7) (hk : goKn E) (hR : X.2.2.2.1 = goRoom 7 168 0 0) (hr : X.2.2.2.2.2.2.2.2.1.sig.returnType = (Option.some FieldType.int)) (hW : goW G R) : ∀ (n : Nat) (v5 : Int32) (M : goMI) (r0 : goMI), lX14_asks_147 n v5 M = some r0 → (∀ (d5 d6 : Option Value), goA E X G 0 0 Q 168 [some (.ref 102), some (.int v1), some (.int v2), some (.int v3), some (.int v4), d5, d6] [] r0 L R) → ∀ (d6 : Option Value), goA E X G 0 0 Q 147 [some (.ref 102), some (.int v1), some (.int v2), some (.int v3), some (.int v4), some (.int v5), d6] [] M L R := by
  intro n
  induction n with
  | zero => intro v5 M r0 h; exact nomatch h
  | succ n ih =>
    intro v5 M r0 h kx d6
    rw [lX14_asks_147] at h
    refine go_iload5 hc dX14_asks_147 ?_
    refine go_bipush (v := 8) hc dX14_asks_149 rfl ?_
    refine go_icmp_ge hc 168 dX14_asks_151 rfl (fun c52 => ?_) (fun c52 => ?_)
    · replace h := goIfF h c52
      cases h
      exact kx _ _
    · replace h := goIfT h c52
      refine go_aload0 hc dX14_asks_154 ?_
      refine go_getR hc lk_RX14_57 dX14_asks_155 (sh_102 hW) (rf_102_34 hW) ?_
      refine go_iload5 hc dX14_asks_158 ?_
      refine go_iconst (v := 0) hc dX14_asks_160 rfl ?_
      replace h := goBind h; obtain ⟨M53, e54, h⟩ := h
      refine go_iast hc dX14_asks_161 (sh_117 hW) e54 ?_
      refine go_iinc5 (v := (v5 + 1)) hc dX14_asks_162 rfl ?_
      refine go_goto hc 147 dX14_asks_165 rfl ?_
      exact ih _ _ _ h kx _
set_option maxRecDepth 100000 in
set_option maxHeartbeats 4000000 in
theorem mX14_asks_L171 {E : goEv} {X : goX} {G : goG} {Q : State → Prop} {L : goML} {R : goMR} {v1 : Int32} {v2 : Int32} {v3 : Int32} (hc : goCx E X cX14_asks RX14 7) (hk : goKn E) (hR : X.2.2.2.1 = goRoom 7 168 0 0) (hr : X.2.2.2.2.2.2.2.2.1.sig.returnType = (Option.some FieldType.int)) (hW : goW G R) : ∀ (n : Nat) (v4 : Int32) (v5 : Int32) (M : goMI) (r0 : Int32) (r1 : goMI), lX14_asks_171 v1 v2 v3 n v4 v5 M = some (r0, r1) → (∀ (d5 d6 : Option Value), goA E X G 0 0 Q 242 [some (.ref 102), some (.int v1), some (.int v2), some (.int v3), some (.int r0), d5, d6] [] r1 L R) → ∀ (d6 : Option Value), goA E X G 0 0 Q 171 [some (.ref 102), some (.int v1), some (.int v2), some (.int v3), some (.int v4), some (.int v5), d6] [] M L R := by
  intro n
  induction n with
  | zero => intro v4 v5 M r0 r1 h; exact nomatch h
  | succ n ih =>
    intro v4 v5 M r0 r1 h kx d6
    rw [lX14_asks_171] at h
    refine go_iload5 hc dX14_asks_171 ?_
    refine go_iload1 hc dX14_asks_173 ?_
    refine go_icmp_ge hc 242 dX14_asks_174 rfl (fun c57 => ?_) (fun c57 => ?_)
    · replace h := goIfF h c57
      cases h
      exact kx _ _
    · replace h := goIfT h c57
      refine go_aload0 hc dX14_asks_177 ?_
      refine go_getR hc lk_RX14_54 dX14_asks_178 (sh_102 hW) (rf_102_33 hW) ?_
      refine go_iload5 hc dX14_asks_181 ?_
      refine go_bipush (v := 6) hc dX14_asks_183 rfl ?_
      refine go_imul hc dX14_asks_185 ?_
      refine go_bipush (v := 12) hc dX14_asks_186 rfl ?_
      refine go_imul hc dX14_asks_188 ?_
      refine go_bipush (v := 12) hc dX14_asks_189 rfl ?_
      refine go_iload2 hc dX14_asks_191 ?_
      refine go_imul hc dX14_asks_192 ?_
      refine go_iadd hc dX14_asks_193 ?_
      refine go_iload3 hc dX14_asks_194 ?_
      refine go_iadd hc dX14_asks_195 ?_
      replace h := goBind h; obtain ⟨x58, e59, h⟩ := h
      refine go_iald hc dX14_asks_196 (sh_116 hW) e59 ?_
      refine go_istore6 hc dX14_asks_197 ?_
      refine go_aload0 hc dX14_asks_199 ?_
      refine go_getR hc lk_RX14_57 dX14_asks_200 (sh_102 hW) (rf_102_34 hW) ?_
      refine go_iload6 hc dX14_asks_203 ?_
      refine go_dup2 hc dX14_asks_205 ?_
      replace h := goBind h; obtain ⟨x60, e61, h⟩ := h
      refine go_iald hc dX14_asks_206 (sh_117 hW) e61 ?_
      refine go_iconst (v := 1) hc dX14_asks_207 rfl ?_
      refine go_iadd hc dX14_asks_208 ?_
      replace h := goBind h; obtain ⟨M62, e63, h⟩ := h
      refine go_iast hc dX14_asks_209 (sh_117 hW) e63 ?_
      refine go_aload0 hc dX14_asks_210 ?_
      refine go_getR hc lk_RX14_57 dX14_asks_211 (sh_102 hW) (rf_102_34 hW) ?_
      refine go_iload6 hc dX14_asks_214 ?_
      replace h := goBind h; obtain ⟨x64, e65, h⟩ := h
      refine go_iald hc dX14_asks_216 (sh_117 hW) e65 ?_
      refine go_iload4 hc dX14_asks_217 ?_
      replace h := goBind h; obtain ⟨x66, e67, h⟩ := h
      have k68 : ∀ (d4 d6 : Option Value), goA E X G 0 0 Q 234 [some (.ref 102), some (.int v1), some (.int v2), some (.int v3), d4, some (.int v5), d6] [.int x66] M62 L R := by
        intro d4 d6
        refine go_istore4 hc dX14_asks_234 ?_
        refine go_iinc5 (v := (v5 + 1)) hc dX14_asks_236 rfl ?_
        refine go_goto hc 171 dX14_asks_239 rfl ?_
        exact ih _ _ _ _ _ h kx _
      refine go_icmp_le hc 232 dX14_asks_219 rfl (fun c69 => ?_) (fun c69 => ?_)
      · replace e67 := goIfF e67 c69
        refine go_iload4 hc dX14_asks_232 ?_
        cases e67
        exact k68 _ _
      · replace e67 := goIfT e67 c69
        refine go_aload0 hc dX14_asks_222 ?_
        refine go_getR hc lk_RX14_57 dX14_asks_223 (sh_102 hW) (rf_102_34 hW) ?_
        refine go_iload6 hc dX14_asks_226 ?_
        replace e67 := goBind e67; obtain ⟨x70, e71, e67⟩ := e67
        refine go_iald hc dX14_asks_228 (sh_117 hW) e71 ?_
        refine go_goto hc 234 dX14_asks_229 rfl ?_
        cases e67
        exact k68 _ _
set_option maxRecDepth 100000 in
set_option maxHeartbeats 4000000 in
theorem mX14_asks_L130 {E : goEv} {X : goX} {G : goG} {Q : State → Prop} {L : goML} {R : goMR} {N : Nat} {v1 : Int32} {v2 : Int32} (hc : goCx E X cX14_asks RX14 7) (hk : goKn E) (hR : X.2.2.2.1 = goRoom 7 168 0 0) (hr : X.2.2.2.2.2.2.2.2.1.sig.returnType = (Option.some FieldType.int)) (hW : goW G R) : ∀ (n : Nat) (v3 : Int32) (M : goMI) (r0 : goMI), lX14_asks_130 N v1 v2 R n v3 M = some r0 → (∀ (d3 d4 d5 d6 : Option Value), goA E X G 0 0 Q 276 [some (.ref 102), some (.int v1), some (.int v2), d3, d4, d5, d6] [] r0 L R) → ∀ (d4 d5 d6 : Option Value), goA E X G 0 0 Q 130 [some (.ref 102), some (.int v1), some (.int v2), some (.int v3), d4, d5, d6] [] M L R := by
  intro n
  induction n with
  | zero => intro v3 M r0 h; exact nomatch h
  | succ n ih =>
    intro v3 M r0 h kx d4 d5 d6
    rw [lX14_asks_130] at h
    refine go_iload3 hc dX14_asks_130 ?_
    refine go_aload0 hc dX14_asks_131 ?_
    replace h := goBind h; obtain ⟨b49, e50, h⟩ := h
    refine go_getR hc lk_RX14_442 dX14_asks_132 (sh_102 hW) e50 ?_
    refine go_getI hc lk_RX14_196 dX14_asks_135 (shM_0 (goW_M3 hW e50)) ?_
    refine go_icmp_ge hc 276 dX14_asks_138 rfl (fun c51 => ?_) (fun c51 => ?_)
    · replace h := goIfF h c51
      cases h
      exact kx _ _ _ _
    · replace h := goIfT h c51
      refine go_iconst (v := 0) hc dX14_asks_141 rfl ?_
      refine go_istore4 hc dX14_asks_142 ?_
      refine go_iconst (v := 0) hc dX14_asks_144 rfl ?_
      refine go_istore5 hc dX14_asks_145 ?_
      replace h := goBind h; obtain ⟨M56, e55, h⟩ := h
      refine mX14_asks_L147 hc hk hR hr hW _ _ _ _ e55 (fun d5 d6 => ?_) _
      refine go_iconst (v := 0) hc dX14_asks_168 rfl ?_
      refine go_istore5 hc dX14_asks_169 ?_
      replace h := goB2_h h; obtain ⟨x73, M74, e72, h⟩ := h
      refine mX14_asks_L171 hc hk hR hr hW _ _ _ _ _ _ e72 (fun d5 d6 => ?_) _
      refine go_iload4 hc dX14_asks_242 ?_
      refine go_aload0 hc dX14_asks_244 ?_
      refine go_getI hc lk_RX14_544 dX14_asks_245 (sh_102 hW) ?_
      replace h := goBind h; obtain ⟨M75, e76, h⟩ := h
      have k77 : ∀ (d4 d5 d6 : Option Value), goA E X G 0 0 Q 270 [some (.ref 102), some (.int v1), some (.int v2), some (.int v3), d4, d5, d6] [] M75 L R := by
        intro d4 d5 d6
        refine go_iinc3 (v := (v3 + 1)) hc dX14_asks_270 rfl ?_
        refine go_goto hc 130 dX14_asks_273 rfl ?_
        exact ih _ _ _ h kx _ _ _
      refine go_icmp_lt hc 254 dX14_asks_248 rfl (fun c78 => ?_) (fun c78 => ?_)
      · replace e76 := goIfF e76 c78
        refine go_aload0 hc dX14_asks_254 ?_
        refine go_iload4 hc dX14_asks_255 ?_
        replace e76 := goNm_x e76; obtain ⟨M79, e80, e76⟩ := e76
        refine go_ptI hc lk_RX14_544 dX14_asks_257 (sh_102 hW) e80 ?_
        refine go_aload0 hc dX14_asks_260 ?_
        refine go_bipush (v := 100) hc dX14_asks_261 rfl ?_
        refine go_iload2 hc dX14_asks_263 ?_
        refine go_imul hc dX14_asks_264 ?_
        refine go_iload3 hc dX14_asks_265 ?_
        refine go_iadd hc dX14_asks_266 ?_
        replace e76 := goNm_x e76; obtain ⟨M81, e82, e76⟩ := e76
        refine go_ptI hc lk_RX14_547 dX14_asks_267 (sh_102 hW) e82 ?_
        cases e76
        exact k77 _ _ _
      · replace e76 := goIfT e76 c78
        refine go_goto hc 270 dX14_asks_251 rfl ?_
        cases e76
        exact k77 _ _ _
set_option maxRecDepth 100000 in
set_option maxHeartbeats 4000000 in
theorem mX14_asks_L117 {E : goEv} {X : goX} {G : goG} {Q : State → Prop} {L : goML} {R : goMR} {N : Nat} {v1 : Int32} (hc : goCx E X cX14_asks RX14 7) (hk : goKn E) (hR : X.2.2.2.1 = goRoom 7 168 0 0) (hr : X.2.2.2.2.2.2.2.2.1.sig.returnType = (Option.some FieldType.int)) (hW : goW G R) : ∀ (n : Nat) (v2 : Int32) (M : goMI) (r0 : goMI), lX14_asks_117 N v1 R n v2 M = some r0 → (∀ (d0 d1 d2 d3 d4 d5 d6 : Option Value), goA E X G 0 0 Q 282 [d0, d1, d2, d3, d4, d5, d6] [] r0 L R) → ∀ (d3 d4 d5 d6 : Option Value), goA E X G 0 0 Q 117 [some (.ref 102), some (.int v1), some (.int v2), d3, d4, d5, d6] [] M L R := by
  intro n
  induction n with
  | zero => intro v2 M r0 h; exact nomatch h
  | succ n ih =>
    intro v2 M r0 h kx d3 d4 d5 d6
    rw [lX14_asks_117] at h
    refine go_iload2 hc dX14_asks_117 ?_
    refine go_aload0 hc dX14_asks_118 ?_
    replace h := goBind h; obtain ⟨b46, e47, h⟩ := h
    refine go_getR hc lk_RX14_442 dX14_asks_119 (sh_102 hW) e47 ?_
    refine go_getI hc lk_RX14_328 dX14_asks_122 (shM_0 (goW_M3 hW e47)) ?_
    refine go_icmp_ge hc 282 dX14_asks_125 rfl (fun c48 => ?_) (fun c48 => ?_)
    · replace h := goIfF h c48
      cases h
      exact kx _ _ _ _ _ _ _
    · replace h := goIfT h c48
      refine go_iconst (v := 0) hc dX14_asks_128 rfl ?_
      refine go_istore3 hc dX14_asks_129 ?_
      replace h := goBind h; obtain ⟨M84, e83, h⟩ := h
      refine mX14_asks_L130 hc hk hR hr hW _ _ _ _ e83 (fun d3 d4 d5 d6 => ?_) _ _ _
      refine go_iinc2 (v := (v2 + 1)) hc dX14_asks_276 rfl ?_
      refine go_goto hc 117 dX14_asks_279 rfl ?_
      exact ih _ _ _ h kx _ _ _ _
set_option maxRecDepth 100000 in
set_option maxHeartbeats 4000000 in
theorem mX14_asks {E : goEv} {l : Launch} {G : goG} {N : Nat} {M : goMI} {L : goML} {R : goMR} {r0 : Int32} {r1 : goMI} (hk : goKn E) (hW : goW G R) (h : fX14_asks N M R = some (r0, r1)) : Met l yX14_asks (goCd yX14_asks cX14_asks 7 (Option.some FieldType.int)) (goRoom 7 168 0 0) (goPre E [.ref 102] G M L R) (goQi E r0 G r1 L R) 0 0 (goSet E) := by
  refine goMet pl_RX14 hk (lv := [some (.ref 102), none, none, none, none, none, none]) rfl (Nat.le_of_ble_eq_true rfl) ?_
  intro X hc hl hR hr hnm
  subst hl
  unfold fX14_asks at h
  refine go_aload0 hc dX14_asks_0 ?_
  refine go_getQ hc lk_RX14_442 dX14_asks_1 (sh_102 hW) ?_
  refine go_ifnonnull hc 9 dX14_asks_4 rfl (fun _ c11 => ?_) (fun c11 => ?_)
  · replace h := goIfF h (goNn c11)
    refine go_aload0 hc dX14_asks_9 ?_
    replace h := goBind h; obtain ⟨M12, e13, h⟩ := h
    refine go_callVv hc dX14_asks_10 (mX14_laysHonest hk hW e13) ml_RX14_523 yk_X14_laysHonest ⟨wim_X14_laysHonest, wse_X14_laysHonest⟩ hR rfl (sh_102 hW) rfl rfl rfl (Nat.le_of_ble_eq_true rfl) rfl ?_
    refine go_iconst (v := 0) hc dX14_asks_13 rfl ?_
    refine go_istore1 hc dX14_asks_14 ?_
    refine go_iconst (v := 0) hc dX14_asks_15 rfl ?_
    refine go_istore2 hc dX14_asks_16 ?_
    replace h := goB2_h h; obtain ⟨x38, M39, e37, h⟩ := h
    refine mX14_asks_L17 hc hk hR hr hW _ _ _ _ _ _ e37 (fun d2 d3 d4 d5 d6 => ?_) _ _ _ _
    refine go_iload1 hc dX14_asks_91 ?_
    refine go_iconst (v := 2) hc dX14_asks_92 rfl ?_
    refine go_icmp_lt hc 106 dX14_asks_93 rfl (fun c40 => ?_) (fun c40 => ?_)
    · replace h := goIfF h c40
      refine go_bipush (v := 6) hc dX14_asks_106 rfl ?_
      cases h
      exact go_iret hc dX14_asks_108 hr
    · replace h := goIfT h c40
      refine go_aload0 hc dX14_asks_96 ?_
      replace h := goBind h; obtain ⟨b41, e42, h⟩ := h
      refine go_getR hc lk_RX14_442 dX14_asks_97 (sh_102 hW) e42 ?_
      refine go_getI hc lk_RX14_328 dX14_asks_100 (shM_0 (goW_M3 hW e42)) ?_
      refine go_if_ne hc 109 dX14_asks_103 rfl (fun c43 => ?_) (fun c43 => ?_)
      · replace h := goIfF h c43
        refine go_aload0 hc dX14_asks_109 ?_
        refine go_bipush (v := 82) hc dX14_asks_110 rfl ?_
        replace h := goNm_x h; obtain ⟨M44, e45, h⟩ := h
        refine go_ptI hc lk_RX14_544 dX14_asks_112 (sh_102 hW) e45 ?_
        refine go_iconst (v := 0) hc dX14_asks_115 rfl ?_
        refine go_istore2 hc dX14_asks_116 ?_
        replace h := goBind h; obtain ⟨M86, e85, h⟩ := h
        refine mX14_asks_L117 hc hk hR hr hW _ _ _ _ e85 (fun d0 d1 d2 d3 d4 d5 d6 => ?_) _ _ _ _
        refine go_iconst (v := 0) hc dX14_asks_282 rfl ?_
        cases h
        exact go_iret hc dX14_asks_283 hr
      · replace h := goIfT h c43
        refine go_bipush (v := 6) hc dX14_asks_106 rfl ?_
        cases h
        exact go_iret hc dX14_asks_108 hr
  · replace h := goIfT h c11
    refine go_iconst (v := 1) hc dX14_asks_7 rfl ?_
    cases h
    exact go_iret hc dX14_asks_8 hr
theorem dX14_ask_0 : decode cX14_ask 0 = .ok (.aload_n 0, 1) := by decide +kernel
theorem dX14_ask_1 : decode cX14_ask 1 = .ok (.iconst 0, 1) := by decide +kernel
theorem dX14_ask_2 : decode cX14_ask 2 = .ok (.putfield 66, 3) := by decide +kernel
theorem dX14_ask_5 : decode cX14_ask 5 = .ok (.aload_n 0, 1) := by decide +kernel
theorem dX14_ask_6 : decode cX14_ask 6 = .ok (.invokevirtual 550, 3) := by decide +kernel
theorem dX14_ask_9 : decode cX14_ask 9 = .ok (.istore_n 1, 1) := by decide +kernel
theorem dX14_ask_10 : decode cX14_ask 10 = .ok (.iload_n 1, 1) := by decide +kernel
theorem dX14_ask_11 : decode cX14_ask 11 = .ok (.ifCond .le 11, 3) := by decide +kernel
theorem dX14_ask_14 : decode cX14_ask 14 = .ok (.aload_n 0, 1) := by decide +kernel
theorem dX14_ask_15 : decode cX14_ask 15 = .ok (.iload_n 1, 1) := by decide +kernel
theorem dX14_ask_16 : decode cX14_ask 16 = .ok (.invokevirtual 72, 3) := by decide +kernel
theorem dX14_ask_19 : decode cX14_ask 19 = .ok (.goto 11, 3) := by decide +kernel
theorem dX14_ask_22 : decode cX14_ask 22 = .ok (.aload_n 0, 1) := by decide +kernel
theorem dX14_ask_23 : decode cX14_ask 23 = .ok (.aload_n 0, 1) := by decide +kernel
theorem dX14_ask_24 : decode cX14_ask 24 = .ok (.getfield 547, 3) := by decide +kernel
theorem dX14_ask_27 : decode cX14_ask 27 = .ok (.invokevirtual 76, 3) := by decide +kernel
theorem dX14_ask_30 : decode cX14_ask 30 = .ok (.ireturn, 1) := by decide +kernel
set_option maxRecDepth 100000 in
set_option maxHeartbeats 4000000 in
theorem mX14_ask {E : goEv} {l : Launch} {G : goG} {N : Nat} {M : goMI} {L : goML} {R : goMR} {r0 : Int32} {r1 : goMI} (hk : goKn E) (hW : goW G R) (h : fX14_ask N M R = some (r0, r1)) : Met l yX14_ask (goCd yX14_ask cX14_ask 2 (Option.some FieldType.int)) (goRoom 8 194 0 0) (goPre E [.ref 102] G M L R) (goQi E r0 G r1 L R) 0 0 (goSet E) := by
  refine goMet pl_RX14 hk (lv := [some (.ref 102), none]) rfl (Nat.le_of_ble_eq_true rfl) ?_
  intro X hc hl hR hr hnm
  subst hl
  unfold fX14_ask at h
  refine go_aload0 hc dX14_ask_0 ?_
  refine go_iconst (v := 0) hc dX14_ask_1 rfl ?_
  replace h := goNm_x h; obtain ⟨M11, e12, h⟩ := h
  refine go_ptI hc lk_RX14_66 dX14_ask_2 (sh_102 hW) e12 ?_
  refine go_aload0 hc dX14_ask_5 ?_
  replace h := goB2_h h; obtain ⟨x13, M14, e15, h⟩ := h
  refine go_callVi hc dX14_ask_6 (mX14_asks hk hW e15) ml_RX14_550 yk_X14_asks ⟨wim_X14_asks, wse_X14_asks⟩ hR rfl (sh_102 hW) rfl rfl rfl (Nat.le_of_ble_eq_true rfl) rfl ?_
  refine go_istore1 hc dX14_ask_9 ?_
  refine go_iload1 hc dX14_ask_10 ?_
  refine go_if_le hc 22 dX14_ask_11 rfl (fun c16 => ?_) (fun c16 => ?_)
  · replace h := goIfF h c16
    refine go_aload0 hc dX14_ask_22 ?_
    refine go_aload0 hc dX14_ask_23 ?_
    refine go_getI hc lk_RX14_547 dX14_ask_24 (sh_102 hW) ?_
    replace h := goB2_h h; obtain ⟨x17, M18, e19, h⟩ := h
    refine go_callVi hc dX14_ask_27 (mX14_good hk hW e19) ml_RX14_76 yk_X14_good ⟨wim_X14_good, wse_X14_good⟩ hR rfl (sh_102 hW) rfl rfl rfl (Nat.le_of_ble_eq_true rfl) rfl ?_
    cases h
    exact go_iret hc dX14_ask_30 hr
  · replace h := goIfT h c16
    refine go_aload0 hc dX14_ask_14 ?_
    refine go_iload1 hc dX14_ask_15 ?_
    replace h := goB2_h h; obtain ⟨x20, M21, e22, h⟩ := h
    refine go_callVi hc dX14_ask_16 (mX14_refused hk hW e22) ml_RX14_72 yk_X14_refused ⟨wim_X14_refused, wse_X14_refused⟩ hR rfl (sh_102 hW) rfl rfl rfl (Nat.le_of_ble_eq_true rfl) rfl ?_
    refine go_goto hc 30 dX14_ask_19 rfl ?_
    cases h
    exact go_iret hc dX14_ask_30 hr
theorem dX14_askMost_0 : decode cX14_askMost 0 = .ok (.aload_n 0, 1) := by decide +kernel
theorem dX14_askMost_1 : decode cX14_askMost 1 = .ok (.iconst 0, 1) := by decide +kernel
theorem dX14_askMost_2 : decode cX14_askMost 2 = .ok (.putfield 66, 3) := by decide +kernel
theorem dX14_askMost_5 : decode cX14_askMost 5 = .ok (.aload_n 0, 1) := by decide +kernel
theorem dX14_askMost_6 : decode cX14_askMost 6 = .ok (.invokevirtual 550, 3) := by decide +kernel
theorem dX14_askMost_9 : decode cX14_askMost 9 = .ok (.istore_n 1, 1) := by decide +kernel
theorem dX14_askMost_10 : decode cX14_askMost 10 = .ok (.iload_n 1, 1) := by decide +kernel
theorem dX14_askMost_11 : decode cX14_askMost 11 = .ok (.ifCond .le 11, 3) := by decide +kernel
theorem dX14_askMost_14 : decode cX14_askMost 14 = .ok (.aload_n 0, 1) := by decide +kernel
theorem dX14_askMost_15 : decode cX14_askMost 15 = .ok (.iload_n 1, 1) := by decide +kernel
theorem dX14_askMost_16 : decode cX14_askMost 16 = .ok (.invokevirtual 72, 3) := by decide +kernel
theorem dX14_askMost_19 : decode cX14_askMost 19 = .ok (.goto 11, 3) := by decide +kernel
theorem dX14_askMost_22 : decode cX14_askMost 22 = .ok (.aload_n 0, 1) := by decide +kernel
theorem dX14_askMost_23 : decode cX14_askMost 23 = .ok (.aload_n 0, 1) := by decide +kernel
theorem dX14_askMost_24 : decode cX14_askMost 24 = .ok (.getfield 544, 3) := by decide +kernel
theorem dX14_askMost_27 : decode cX14_askMost 27 = .ok (.invokevirtual 76, 3) := by decide +kernel
theorem dX14_askMost_30 : decode cX14_askMost 30 = .ok (.ireturn, 1) := by decide +kernel
set_option maxRecDepth 100000 in
set_option maxHeartbeats 4000000 in
theorem mX14_askMost {E : goEv} {l : Launch} {G : goG} {N : Nat} {M : goMI} {L : goML} {R : goMR} {r0 : Int32} {r1 : goMI} (hk : goKn E) (hW : goW G R) (h : fX14_askMost N M R = some (r0, r1)) : Met l yX14_askMost (goCd yX14_askMost cX14_askMost 2 (Option.some FieldType.int)) (goRoom 8 194 0 0) (goPre E [.ref 102] G M L R) (goQi E r0 G r1 L R) 0 0 (goSet E) := by
  refine goMet pl_RX14 hk (lv := [some (.ref 102), none]) rfl (Nat.le_of_ble_eq_true rfl) ?_
  intro X hc hl hR hr hnm
  subst hl
  unfold fX14_askMost at h
  refine go_aload0 hc dX14_askMost_0 ?_
  refine go_iconst (v := 0) hc dX14_askMost_1 rfl ?_
  replace h := goNm_x h; obtain ⟨M11, e12, h⟩ := h
  refine go_ptI hc lk_RX14_66 dX14_askMost_2 (sh_102 hW) e12 ?_
  refine go_aload0 hc dX14_askMost_5 ?_
  replace h := goB2_h h; obtain ⟨x13, M14, e15, h⟩ := h
  refine go_callVi hc dX14_askMost_6 (mX14_asks hk hW e15) ml_RX14_550 yk_X14_asks ⟨wim_X14_asks, wse_X14_asks⟩ hR rfl (sh_102 hW) rfl rfl rfl (Nat.le_of_ble_eq_true rfl) rfl ?_
  refine go_istore1 hc dX14_askMost_9 ?_
  refine go_iload1 hc dX14_askMost_10 ?_
  refine go_if_le hc 22 dX14_askMost_11 rfl (fun c16 => ?_) (fun c16 => ?_)
  · replace h := goIfF h c16
    refine go_aload0 hc dX14_askMost_22 ?_
    refine go_aload0 hc dX14_askMost_23 ?_
    refine go_getI hc lk_RX14_544 dX14_askMost_24 (sh_102 hW) ?_
    replace h := goB2_h h; obtain ⟨x17, M18, e19, h⟩ := h
    refine go_callVi hc dX14_askMost_27 (mX14_good hk hW e19) ml_RX14_76 yk_X14_good ⟨wim_X14_good, wse_X14_good⟩ hR rfl (sh_102 hW) rfl rfl rfl (Nat.le_of_ble_eq_true rfl) rfl ?_
    cases h
    exact go_iret hc dX14_askMost_30 hr
  · replace h := goIfT h c16
    refine go_aload0 hc dX14_askMost_14 ?_
    refine go_iload1 hc dX14_askMost_15 ?_
    replace h := goB2_h h; obtain ⟨x20, M21, e22, h⟩ := h
    refine go_callVi hc dX14_askMost_16 (mX14_refused hk hW e22) ml_RX14_72 yk_X14_refused ⟨wim_X14_refused, wse_X14_refused⟩ hR rfl (sh_102 hW) rfl rfl rfl (Nat.le_of_ble_eq_true rfl) rfl ?_
    refine go_goto hc 30 dX14_askMost_19 rfl ?_
    cases h
    exact go_iret hc dX14_askMost_30 hr
theorem dX14_turn_0 : decode cX14_turn 0 = .ok (.aload_n 0, 1) := by decide +kernel
theorem dX14_turn_1 : decode cX14_turn 1 = .ok (.getfield 21, 3) := by decide +kernel
theorem dX14_turn_4 : decode cX14_turn 4 = .ok (.iload_n 1, 1) := by decide +kernel
theorem dX14_turn_5 : decode cX14_turn 5 = .ok (.iload_n 2, 1) := by decide +kernel
theorem dX14_turn_6 : decode cX14_turn 6 = .ok (.bipush 12, 2) := by decide +kernel
theorem dX14_turn_8 : decode cX14_turn 8 = .ok (.idiv, 1) := by decide +kernel
theorem dX14_turn_9 : decode cX14_turn 9 = .ok (.iadd, 1) := by decide +kernel
theorem dX14_turn_10 : decode cX14_turn 10 = .ok (.dup2, 1) := by decide +kernel
theorem dX14_turn_11 : decode cX14_turn 11 = .ok (.iaload, 1) := by decide +kernel
theorem dX14_turn_12 : decode cX14_turn 12 = .ok (.iconst 1, 1) := by decide +kernel
theorem dX14_turn_13 : decode cX14_turn 13 = .ok (.iload_n 2, 1) := by decide +kernel
theorem dX14_turn_14 : decode cX14_turn 14 = .ok (.bipush 12, 2) := by decide +kernel
theorem dX14_turn_16 : decode cX14_turn 16 = .ok (.irem, 1) := by decide +kernel
theorem dX14_turn_17 : decode cX14_turn 17 = .ok (.ishl, 1) := by decide +kernel
theorem dX14_turn_18 : decode cX14_turn 18 = .ok (.ixor, 1) := by decide +kernel
theorem dX14_turn_19 : decode cX14_turn 19 = .ok (.iastore, 1) := by decide +kernel
theorem dX14_turn_20 : decode cX14_turn 20 = .ok (.return_, 1) := by decide +kernel
set_option maxRecDepth 100000 in
set_option maxHeartbeats 4000000 in
theorem mX14_turn {E : goEv} {l : Launch} {G : goG} {M : goMI} {L : goML} {R : goMR} {v1 : Int32} {v2 : Int32} {r0 : goMI} (hk : goKn E) (hW : goW G R) (h : fX14_turn M v1 v2 = some r0) : Met l yX14_turn (goCd yX14_turn cX14_turn 3 none) (goRoom 0 0 0 0) (goPre E [.ref 102, .int v1, .int v2] G M L R) (goQv E G r0 L R) 0 0 (goSet E) := by
  refine goMet pl_RX14 hk (lv := [some (.ref 102), some (.int v1), some (.int v2)]) rfl (Nat.le_of_ble_eq_true rfl) ?_
  intro X hc hl hR hr hnm
  subst hl
  unfold fX14_turn at h
  refine go_aload0 hc dX14_turn_0 ?_
  refine go_getR hc lk_RX14_21 dX14_turn_1 (sh_102 hW) (rf_102_18 hW) ?_
  refine go_iload1 hc dX14_turn_4 ?_
  refine go_iload2 hc dX14_turn_5 ?_
  refine go_bipush (v := 12) hc dX14_turn_6 rfl ?_
  refine go_idiv hc dX14_turn_8 (by decide) ?_
  refine go_iadd hc dX14_turn_9 ?_
  refine go_dup2 hc dX14_turn_10 ?_
  replace h := goBind h; obtain ⟨x11, e12, h⟩ := h
  refine go_iald hc dX14_turn_11 (sh_105 hW) e12 ?_
  refine go_iconst (v := 1) hc dX14_turn_12 rfl ?_
  refine go_iload2 hc dX14_turn_13 ?_
  refine go_bipush (v := 12) hc dX14_turn_14 rfl ?_
  refine go_irem hc dX14_turn_16 (by decide) ?_
  refine go_ishl hc dX14_turn_17 ?_
  refine go_ixor hc dX14_turn_18 ?_
  replace h := goBind h; obtain ⟨M13, e14, h⟩ := h
  refine go_iast hc dX14_turn_19 (sh_105 hW) e14 ?_
  cases h
  exact go_vret hc dX14_turn_20 hr
theorem dX14_isThere_0 : decode cX14_isThere 0 = .ok (.aload_n 0, 1) := by decide +kernel
theorem dX14_isThere_1 : decode cX14_isThere 1 = .ok (.iload_n 1, 1) := by decide +kernel
theorem dX14_isThere_2 : decode cX14_isThere 2 = .ok (.invokevirtual 482, 3) := by decide +kernel
theorem dX14_isThere_5 : decode cX14_isThere 5 = .ok (.aload_n 0, 1) := by decide +kernel
theorem dX14_isThere_6 : decode cX14_isThere 6 = .ok (.getfield 30, 3) := by decide +kernel
theorem dX14_isThere_9 : decode cX14_isThere 9 = .ok (.bipush 12, 2) := by decide +kernel
theorem dX14_isThere_11 : decode cX14_isThere 11 = .ok (.iload_n 2, 1) := by decide +kernel
theorem dX14_isThere_12 : decode cX14_isThere 12 = .ok (.imul, 1) := by decide +kernel
theorem dX14_isThere_13 : decode cX14_isThere 13 = .ok (.iload 4, 2) := by decide +kernel
theorem dX14_isThere_15 : decode cX14_isThere 15 = .ok (.iadd, 1) := by decide +kernel
theorem dX14_isThere_16 : decode cX14_isThere 16 = .ok (.iaload, 1) := by decide +kernel
theorem dX14_isThere_17 : decode cX14_isThere 17 = .ok (.iload_n 3, 1) := by decide +kernel
theorem dX14_isThere_18 : decode cX14_isThere 18 = .ok (.if_icmp .ne 7, 3) := by decide +kernel
theorem dX14_isThere_21 : decode cX14_isThere 21 = .ok (.iconst 1, 1) := by decide +kernel
theorem dX14_isThere_22 : decode cX14_isThere 22 = .ok (.goto 4, 3) := by decide +kernel
theorem dX14_isThere_25 : decode cX14_isThere 25 = .ok (.iconst 0, 1) := by decide +kernel
theorem dX14_isThere_26 : decode cX14_isThere 26 = .ok (.ireturn, 1) := by decide +kernel
set_option maxRecDepth 100000 in
set_option maxHeartbeats 4000000 in
theorem mX14_isThere {E : goEv} {l : Launch} {G : goG} {N : Nat} {M : goMI} {L : goML} {R : goMR} {v1 : Int32} {v2 : Int32} {v3 : Int32} {v4 : Int32} {r0 : Int32} {r1 : goMI} (hk : goKn E) (hW : goW G R) (h : fX14_isThere N M R v1 v2 v3 v4 = some (r0, r1)) : Met l yX14_isThere (goCd yX14_isThere cX14_isThere 5 (Option.some FieldType.boolean)) (goRoom 6 146 0 0) (goPre E [.ref 102, .int v1, .int v2, .int v3, .int v4] G M L R) (goQi E r0 G r1 L R) 0 0 (goSet E) := by
  refine goMet pl_RX14 hk (lv := [some (.ref 102), some (.int v1), some (.int v2), some (.int v3), some (.int v4)]) rfl (Nat.le_of_ble_eq_true rfl) ?_
  intro X hc hl hR hr hnm
  subst hl
  unfold fX14_isThere at h
  refine go_aload0 hc dX14_isThere_0 ?_
  refine go_iload1 hc dX14_isThere_1 ?_
  replace h := goBind h; obtain ⟨M11, e12, h⟩ := h
  refine go_callVv hc dX14_isThere_2 (mX14_day hk hW e12) ml_RX14_482 yk_X14_day ⟨wim_X14_day, wse_X14_day⟩ hR rfl (sh_102 hW) rfl rfl rfl (Nat.le_of_ble_eq_true rfl) rfl ?_
  refine go_aload0 hc dX14_isThere_5 ?_
  refine go_getR hc lk_RX14_30 dX14_isThere_6 (sh_102 hW) (rf_102_23 hW) ?_
  refine go_bipush (v := 12) hc dX14_isThere_9 rfl ?_
  refine go_iload2 hc dX14_isThere_11 ?_
  refine go_imul hc dX14_isThere_12 ?_
  refine go_iload4 hc dX14_isThere_13 ?_
  refine go_iadd hc dX14_isThere_15 ?_
  replace h := goBind h; obtain ⟨x13, e14, h⟩ := h
  refine go_iald hc dX14_isThere_16 (sh_108 hW) e14 ?_
  refine go_iload3 hc dX14_isThere_17 ?_
  refine go_icmp_ne hc 25 dX14_isThere_18 rfl (fun c15 => ?_) (fun c15 => ?_)
  · replace h := goIfF h c15
    refine go_iconst (v := 0) hc dX14_isThere_25 rfl ?_
    cases h
    exact go_zret hc dX14_isThere_26 hr rfl
  · replace h := goIfT h c15
    refine go_iconst (v := 1) hc dX14_isThere_21 rfl ?_
    refine go_goto hc 26 dX14_isThere_22 rfl ?_
    cases h
    exact go_zret hc dX14_isThere_26 hr rfl
theorem dX14_isSpot_0 : decode cX14_isSpot 0 = .ok (.iload_n 2, 1) := by decide +kernel
theorem dX14_isSpot_1 : decode cX14_isSpot 1 = .ok (.bipush 12, 2) := by decide +kernel
theorem dX14_isSpot_3 : decode cX14_isSpot 3 = .ok (.irem, 1) := by decide +kernel
theorem dX14_isSpot_4 : decode cX14_isSpot 4 = .ok (.aload_n 0, 1) := by decide +kernel
theorem dX14_isSpot_5 : decode cX14_isSpot 5 = .ok (.getfield 442, 3) := by decide +kernel
theorem dX14_isSpot_8 : decode cX14_isSpot 8 = .ok (.getfield 196, 3) := by decide +kernel
theorem dX14_isSpot_11 : decode cX14_isSpot 11 = .ok (.if_icmp .ge 42, 3) := by decide +kernel
theorem dX14_isSpot_14 : decode cX14_isSpot 14 = .ok (.iload_n 2, 1) := by decide +kernel
theorem dX14_isSpot_15 : decode cX14_isSpot 15 = .ok (.bipush 12, 2) := by decide +kernel
theorem dX14_isSpot_17 : decode cX14_isSpot 17 = .ok (.idiv, 1) := by decide +kernel
theorem dX14_isSpot_18 : decode cX14_isSpot 18 = .ok (.aload_n 0, 1) := by decide +kernel
theorem dX14_isSpot_19 : decode cX14_isSpot 19 = .ok (.getfield 442, 3) := by decide +kernel
theorem dX14_isSpot_22 : decode cX14_isSpot 22 = .ok (.getfield 241, 3) := by decide +kernel
theorem dX14_isSpot_25 : decode cX14_isSpot 25 = .ok (.if_icmp .ge 28, 3) := by decide +kernel
theorem dX14_isSpot_28 : decode cX14_isSpot 28 = .ok (.aload_n 0, 1) := by decide +kernel
theorem dX14_isSpot_29 : decode cX14_isSpot 29 = .ok (.getfield 21, 3) := by decide +kernel
theorem dX14_isSpot_32 : decode cX14_isSpot 32 = .ok (.iload_n 1, 1) := by decide +kernel
theorem dX14_isSpot_33 : decode cX14_isSpot 33 = .ok (.iload_n 2, 1) := by decide +kernel
theorem dX14_isSpot_34 : decode cX14_isSpot 34 = .ok (.bipush 12, 2) := by decide +kernel
theorem dX14_isSpot_36 : decode cX14_isSpot 36 = .ok (.idiv, 1) := by decide +kernel
theorem dX14_isSpot_37 : decode cX14_isSpot 37 = .ok (.iadd, 1) := by decide +kernel
theorem dX14_isSpot_38 : decode cX14_isSpot 38 = .ok (.iaload, 1) := by decide +kernel
theorem dX14_isSpot_39 : decode cX14_isSpot 39 = .ok (.iload_n 2, 1) := by decide +kernel
theorem dX14_isSpot_40 : decode cX14_isSpot 40 = .ok (.bipush 12, 2) := by decide +kernel
theorem dX14_isSpot_42 : decode cX14_isSpot 42 = .ok (.irem, 1) := by decide +kernel
theorem dX14_isSpot_43 : decode cX14_isSpot 43 = .ok (.invokestatic 366, 3) := by decide +kernel
theorem dX14_isSpot_46 : decode cX14_isSpot 46 = .ok (.ifCond .ne 7, 3) := by decide +kernel
theorem dX14_isSpot_49 : decode cX14_isSpot 49 = .ok (.iconst 1, 1) := by decide +kernel
theorem dX14_isSpot_50 : decode cX14_isSpot 50 = .ok (.goto 4, 3) := by decide +kernel
theorem dX14_isSpot_53 : decode cX14_isSpot 53 = .ok (.iconst 0, 1) := by decide +kernel
theorem dX14_isSpot_54 : decode cX14_isSpot 54 = .ok (.ireturn, 1) := by decide +kernel
set_option maxRecDepth 100000 in
set_option maxHeartbeats 4000000 in
theorem mX14_isSpot {E : goEv} {l : Launch} {G : goG} {M : goMI} {L : goML} {R : goMR} {v1 : Int32} {v2 : Int32} {r0 : Int32} (hk : goKn E) (hW : goW G R) (h : fX14_isSpot M R v1 v2 = some r0) : Met l yX14_isSpot (goCd yX14_isSpot cX14_isSpot 3 (Option.some FieldType.boolean)) (goRoom 1 21 0 0) (goPre E [.ref 102, .int v1, .int v2] G M L R) (goQi E r0 G M L R) 0 0 (goSet E) := by
  refine goMet pl_RX14 hk (lv := [some (.ref 102), some (.int v1), some (.int v2)]) rfl (Nat.le_of_ble_eq_true rfl) ?_
  intro X hc hl hR hr hnm
  subst hl
  unfold fX14_isSpot at h
  refine go_iload2 hc dX14_isSpot_0 ?_
  refine go_bipush (v := 12) hc dX14_isSpot_1 rfl ?_
  refine go_irem hc dX14_isSpot_3 (by decide) ?_
  refine go_aload0 hc dX14_isSpot_4 ?_
  replace h := goBind h; obtain ⟨b11, e12, h⟩ := h
  refine go_getR hc lk_RX14_442 dX14_isSpot_5 (sh_102 hW) e12 ?_
  refine go_getI hc lk_RX14_196 dX14_isSpot_8 (shM_0 (goW_M3 hW e12)) ?_
  refine go_icmp_ge hc 53 dX14_isSpot_11 rfl (fun c13 => ?_) (fun c13 => ?_)
  · replace h := goIfF h c13
    refine go_iconst (v := 0) hc dX14_isSpot_53 rfl ?_
    cases h
    exact go_zret hc dX14_isSpot_54 hr rfl
  · replace h := goIfT h c13
    refine go_iload2 hc dX14_isSpot_14 ?_
    refine go_bipush (v := 12) hc dX14_isSpot_15 rfl ?_
    refine go_idiv hc dX14_isSpot_17 (by decide) ?_
    refine go_aload0 hc dX14_isSpot_18 ?_
    replace h := goBind h; obtain ⟨b14, e15, h⟩ := h
    refine go_getR hc lk_RX14_442 dX14_isSpot_19 (sh_102 hW) e15 ?_
    refine go_getI hc lk_RX14_241 dX14_isSpot_22 (shM_0 (goW_M3 hW e15)) ?_
    refine go_icmp_ge hc 53 dX14_isSpot_25 rfl (fun c16 => ?_) (fun c16 => ?_)
    · replace h := goIfF h c16
      refine go_iconst (v := 0) hc dX14_isSpot_53 rfl ?_
      cases h
      exact go_zret hc dX14_isSpot_54 hr rfl
    · replace h := goIfT h c16
      refine go_aload0 hc dX14_isSpot_28 ?_
      refine go_getR hc lk_RX14_21 dX14_isSpot_29 (sh_102 hW) (rf_102_18 hW) ?_
      refine go_iload1 hc dX14_isSpot_32 ?_
      refine go_iload2 hc dX14_isSpot_33 ?_
      refine go_bipush (v := 12) hc dX14_isSpot_34 rfl ?_
      refine go_idiv hc dX14_isSpot_36 (by decide) ?_
      refine go_iadd hc dX14_isSpot_37 ?_
      replace h := goBind h; obtain ⟨x17, e18, h⟩ := h
      refine go_iald hc dX14_isSpot_38 (sh_105 hW) e18 ?_
      refine go_iload2 hc dX14_isSpot_39 ?_
      refine go_bipush (v := 12) hc dX14_isSpot_40 rfl ?_
      refine go_irem hc dX14_isSpot_42 (by decide) ?_
      refine go_callSi hc dX14_isSpot_43 (mX14_bit hk hW rfl) ml_RX14_366 yk_X14_bit wst_X14_bit hR rfl rfl rfl (Nat.le_of_ble_eq_true rfl) rfl ?_
      refine go_if_ne hc 53 dX14_isSpot_46 rfl (fun c19 => ?_) (fun c19 => ?_)
      · replace h := goIfF h c19
        refine go_iconst (v := 0) hc dX14_isSpot_53 rfl ?_
        cases h
        exact go_zret hc dX14_isSpot_54 hr rfl
      · replace h := goIfT h c19
        refine go_iconst (v := 1) hc dX14_isSpot_49 rfl ?_
        refine go_goto hc 54 dX14_isSpot_50 rfl ?_
        cases h
        exact go_zret hc dX14_isSpot_54 hr rfl
theorem dX14_fewest_0 : decode cX14_fewest 0 = .ok (.aload_n 0, 1) := by decide +kernel
theorem dX14_fewest_1 : decode cX14_fewest 1 = .ok (.iload_n 2, 1) := by decide +kernel
theorem dX14_fewest_2 : decode cX14_fewest 2 = .ok (.iload_n 3, 1) := by decide +kernel
theorem dX14_fewest_3 : decode cX14_fewest 3 = .ok (.iload 4, 2) := by decide +kernel
theorem dX14_fewest_5 : decode cX14_fewest 5 = .ok (.iload 5, 2) := by decide +kernel
theorem dX14_fewest_7 : decode cX14_fewest 7 = .ok (.invokevirtual 553, 3) := by decide +kernel
theorem dX14_fewest_10 : decode cX14_fewest 10 = .ok (.ifCond .eq 5, 3) := by decide +kernel
theorem dX14_fewest_13 : decode cX14_fewest 13 = .ok (.iconst 0, 1) := by decide +kernel
theorem dX14_fewest_14 : decode cX14_fewest 14 = .ok (.ireturn, 1) := by decide +kernel
theorem dX14_fewest_15 : decode cX14_fewest 15 = .ok (.iconst 0, 1) := by decide +kernel
theorem dX14_fewest_16 : decode cX14_fewest 16 = .ok (.istore 6, 2) := by decide +kernel
theorem dX14_fewest_18 : decode cX14_fewest 18 = .ok (.iload 6, 2) := by decide +kernel
theorem dX14_fewest_20 : decode cX14_fewest 20 = .ok (.bipush 96, 2) := by decide +kernel
theorem dX14_fewest_22 : decode cX14_fewest 22 = .ok (.if_icmp .ge 61, 3) := by decide +kernel
theorem dX14_fewest_25 : decode cX14_fewest 25 = .ok (.aload_n 0, 1) := by decide +kernel
theorem dX14_fewest_26 : decode cX14_fewest 26 = .ok (.iload_n 1, 1) := by decide +kernel
theorem dX14_fewest_27 : decode cX14_fewest 27 = .ok (.iload 6, 2) := by decide +kernel
theorem dX14_fewest_29 : decode cX14_fewest 29 = .ok (.invokevirtual 556, 3) := by decide +kernel
theorem dX14_fewest_32 : decode cX14_fewest 32 = .ok (.ifCond .ne 6, 3) := by decide +kernel
theorem dX14_fewest_35 : decode cX14_fewest 35 = .ok (.goto 42, 3) := by decide +kernel
theorem dX14_fewest_38 : decode cX14_fewest 38 = .ok (.aload_n 0, 1) := by decide +kernel
theorem dX14_fewest_39 : decode cX14_fewest 39 = .ok (.iload_n 1, 1) := by decide +kernel
theorem dX14_fewest_40 : decode cX14_fewest 40 = .ok (.iload 6, 2) := by decide +kernel
theorem dX14_fewest_42 : decode cX14_fewest 42 = .ok (.invokevirtual 559, 3) := by decide +kernel
theorem dX14_fewest_45 : decode cX14_fewest 45 = .ok (.aload_n 0, 1) := by decide +kernel
theorem dX14_fewest_46 : decode cX14_fewest 46 = .ok (.iload_n 2, 1) := by decide +kernel
theorem dX14_fewest_47 : decode cX14_fewest 47 = .ok (.iload_n 3, 1) := by decide +kernel
theorem dX14_fewest_48 : decode cX14_fewest 48 = .ok (.iload 4, 2) := by decide +kernel
theorem dX14_fewest_50 : decode cX14_fewest 50 = .ok (.iload 5, 2) := by decide +kernel
theorem dX14_fewest_52 : decode cX14_fewest 52 = .ok (.invokevirtual 553, 3) := by decide +kernel
theorem dX14_fewest_55 : decode cX14_fewest 55 = .ok (.istore 7, 2) := by decide +kernel
theorem dX14_fewest_57 : decode cX14_fewest 57 = .ok (.aload_n 0, 1) := by decide +kernel
theorem dX14_fewest_58 : decode cX14_fewest 58 = .ok (.iload_n 1, 1) := by decide +kernel
theorem dX14_fewest_59 : decode cX14_fewest 59 = .ok (.iload 6, 2) := by decide +kernel
theorem dX14_fewest_61 : decode cX14_fewest 61 = .ok (.invokevirtual 559, 3) := by decide +kernel
theorem dX14_fewest_64 : decode cX14_fewest 64 = .ok (.aload_n 0, 1) := by decide +kernel
theorem dX14_fewest_65 : decode cX14_fewest 65 = .ok (.iload 6, 2) := by decide +kernel
theorem dX14_fewest_67 : decode cX14_fewest 67 = .ok (.putfield 562, 3) := by decide +kernel
theorem dX14_fewest_70 : decode cX14_fewest 70 = .ok (.iload 7, 2) := by decide +kernel
theorem dX14_fewest_72 : decode cX14_fewest 72 = .ok (.ifCond .eq 5, 3) := by decide +kernel
theorem dX14_fewest_75 : decode cX14_fewest 75 = .ok (.iconst 1, 1) := by decide +kernel
theorem dX14_fewest_76 : decode cX14_fewest 76 = .ok (.ireturn, 1) := by decide +kernel
theorem dX14_fewest_77 : decode cX14_fewest 77 = .ok (.iinc 6 1, 3) := by decide +kernel
theorem dX14_fewest_80 : decode cX14_fewest 80 = .ok (.goto (-62), 3) := by decide +kernel
theorem dX14_fewest_83 : decode cX14_fewest 83 = .ok (.iconst 0, 1) := by decide +kernel
theorem dX14_fewest_84 : decode cX14_fewest 84 = .ok (.istore 6, 2) := by decide +kernel
theorem dX14_fewest_86 : decode cX14_fewest 86 = .ok (.iload 6, 2) := by decide +kernel
theorem dX14_fewest_88 : decode cX14_fewest 88 = .ok (.bipush 96, 2) := by decide +kernel
theorem dX14_fewest_90 : decode cX14_fewest 90 = .ok (.if_icmp .ge 110, 3) := by decide +kernel
theorem dX14_fewest_93 : decode cX14_fewest 93 = .ok (.iload 6, 2) := by decide +kernel
theorem dX14_fewest_95 : decode cX14_fewest 95 = .ok (.iconst 1, 1) := by decide +kernel
theorem dX14_fewest_96 : decode cX14_fewest 96 = .ok (.iadd, 1) := by decide +kernel
theorem dX14_fewest_97 : decode cX14_fewest 97 = .ok (.istore 7, 2) := by decide +kernel
theorem dX14_fewest_99 : decode cX14_fewest 99 = .ok (.iload 7, 2) := by decide +kernel
theorem dX14_fewest_101 : decode cX14_fewest 101 = .ok (.bipush 96, 2) := by decide +kernel
theorem dX14_fewest_103 : decode cX14_fewest 103 = .ok (.if_icmp .ge 91, 3) := by decide +kernel
theorem dX14_fewest_106 : decode cX14_fewest 106 = .ok (.aload_n 0, 1) := by decide +kernel
theorem dX14_fewest_107 : decode cX14_fewest 107 = .ok (.iload_n 1, 1) := by decide +kernel
theorem dX14_fewest_108 : decode cX14_fewest 108 = .ok (.iload 6, 2) := by decide +kernel
theorem dX14_fewest_110 : decode cX14_fewest 110 = .ok (.invokevirtual 556, 3) := by decide +kernel
theorem dX14_fewest_113 : decode cX14_fewest 113 = .ok (.ifCond .eq 75, 3) := by decide +kernel
theorem dX14_fewest_116 : decode cX14_fewest 116 = .ok (.aload_n 0, 1) := by decide +kernel
theorem dX14_fewest_117 : decode cX14_fewest 117 = .ok (.iload_n 1, 1) := by decide +kernel
theorem dX14_fewest_118 : decode cX14_fewest 118 = .ok (.iload 7, 2) := by decide +kernel
theorem dX14_fewest_120 : decode cX14_fewest 120 = .ok (.invokevirtual 556, 3) := by decide +kernel
theorem dX14_fewest_123 : decode cX14_fewest 123 = .ok (.ifCond .ne 6, 3) := by decide +kernel
theorem dX14_fewest_126 : decode cX14_fewest 126 = .ok (.goto 62, 3) := by decide +kernel
theorem dX14_fewest_129 : decode cX14_fewest 129 = .ok (.aload_n 0, 1) := by decide +kernel
theorem dX14_fewest_130 : decode cX14_fewest 130 = .ok (.iload_n 1, 1) := by decide +kernel
theorem dX14_fewest_131 : decode cX14_fewest 131 = .ok (.iload 6, 2) := by decide +kernel
theorem dX14_fewest_133 : decode cX14_fewest 133 = .ok (.invokevirtual 559, 3) := by decide +kernel
theorem dX14_fewest_136 : decode cX14_fewest 136 = .ok (.aload_n 0, 1) := by decide +kernel
theorem dX14_fewest_137 : decode cX14_fewest 137 = .ok (.iload_n 1, 1) := by decide +kernel
theorem dX14_fewest_138 : decode cX14_fewest 138 = .ok (.iload 7, 2) := by decide +kernel
theorem dX14_fewest_140 : decode cX14_fewest 140 = .ok (.invokevirtual 559, 3) := by decide +kernel
theorem dX14_fewest_143 : decode cX14_fewest 143 = .ok (.aload_n 0, 1) := by decide +kernel
theorem dX14_fewest_144 : decode cX14_fewest 144 = .ok (.iload_n 2, 1) := by decide +kernel
theorem dX14_fewest_145 : decode cX14_fewest 145 = .ok (.iload_n 3, 1) := by decide +kernel
theorem dX14_fewest_146 : decode cX14_fewest 146 = .ok (.iload 4, 2) := by decide +kernel
theorem dX14_fewest_148 : decode cX14_fewest 148 = .ok (.iload 5, 2) := by decide +kernel
theorem dX14_fewest_150 : decode cX14_fewest 150 = .ok (.invokevirtual 553, 3) := by decide +kernel
theorem dX14_fewest_153 : decode cX14_fewest 153 = .ok (.istore 8, 2) := by decide +kernel
theorem dX14_fewest_155 : decode cX14_fewest 155 = .ok (.aload_n 0, 1) := by decide +kernel
theorem dX14_fewest_156 : decode cX14_fewest 156 = .ok (.iload_n 1, 1) := by decide +kernel
theorem dX14_fewest_157 : decode cX14_fewest 157 = .ok (.iload 7, 2) := by decide +kernel
theorem dX14_fewest_159 : decode cX14_fewest 159 = .ok (.invokevirtual 559, 3) := by decide +kernel
theorem dX14_fewest_162 : decode cX14_fewest 162 = .ok (.aload_n 0, 1) := by decide +kernel
theorem dX14_fewest_163 : decode cX14_fewest 163 = .ok (.iload_n 1, 1) := by decide +kernel
theorem dX14_fewest_164 : decode cX14_fewest 164 = .ok (.iload 6, 2) := by decide +kernel
theorem dX14_fewest_166 : decode cX14_fewest 166 = .ok (.invokevirtual 559, 3) := by decide +kernel
theorem dX14_fewest_169 : decode cX14_fewest 169 = .ok (.aload_n 0, 1) := by decide +kernel
theorem dX14_fewest_170 : decode cX14_fewest 170 = .ok (.iload 6, 2) := by decide +kernel
theorem dX14_fewest_172 : decode cX14_fewest 172 = .ok (.putfield 562, 3) := by decide +kernel
theorem dX14_fewest_175 : decode cX14_fewest 175 = .ok (.aload_n 0, 1) := by decide +kernel
theorem dX14_fewest_176 : decode cX14_fewest 176 = .ok (.iload 7, 2) := by decide +kernel
theorem dX14_fewest_178 : decode cX14_fewest 178 = .ok (.putfield 565, 3) := by decide +kernel
theorem dX14_fewest_181 : decode cX14_fewest 181 = .ok (.iload 8, 2) := by decide +kernel
theorem dX14_fewest_183 : decode cX14_fewest 183 = .ok (.ifCond .eq 5, 3) := by decide +kernel
theorem dX14_fewest_186 : decode cX14_fewest 186 = .ok (.iconst 2, 1) := by decide +kernel
theorem dX14_fewest_187 : decode cX14_fewest 187 = .ok (.ireturn, 1) := by decide +kernel
theorem dX14_fewest_188 : decode cX14_fewest 188 = .ok (.iinc 7 1, 3) := by decide +kernel
theorem dX14_fewest_191 : decode cX14_fewest 191 = .ok (.goto (-92), 3) := by decide +kernel
theorem dX14_fewest_194 : decode cX14_fewest 194 = .ok (.iinc 6 1, 3) := by decide +kernel
theorem dX14_fewest_197 : decode cX14_fewest 197 = .ok (.goto (-111), 3) := by decide +kernel
theorem dX14_fewest_200 : decode cX14_fewest 200 = .ok (.bipush (-2), 2) := by decide +kernel
theorem dX14_fewest_202 : decode cX14_fewest 202 = .ok (.ireturn, 1) := by decide +kernel
set_option maxRecDepth 100000 in
set_option maxHeartbeats 4000000 in
theorem mX14_fewest_L99 {E : goEv} {X : goX} {G : goG} {L : goML} {R : goMR} {N : Nat} {v1 : Int32} {v2 : Int32} {v3 : Int32} {v4 : Int32} {v5 : Int32} {v6 : Int32} {r0 : Int32} {r1 : goMI} {k : goMI → Option (Int32 × goMI)} (hc : goCx E X cX14_fewest RX14 9) (hk : goKn E) (hR : X.2.2.2.1 = goRoom 7 170 0 0) (hr : X.2.2.2.2.2.2.2.2.1.sig.returnType = (Option.some FieldType.int)) (hW : goW G R) : ∀ (n : Nat) (v7 : Int32) (M : goMI), lX14_fewest_99 k N v1 v2 v3 v4 v5 v6 R n v7 M = some (r0, r1) → (∀ (q0 : goMI), k q0 = some (r0, r1) → ∀ (d7 d8 : Option Value), goA E X G 0 0 (goMQ X E (goQi E r0 G r1 L R) 0 0) 194 [some (.ref 102), some (.int v1), some (.int v2), some (.int v3), some (.int v4), some (.int v5), some (.int v6), d7, d8] [] q0 L R) → ∀ (d8 : Option Value), goA E X G 0 0 (goMQ X E (goQi E r0 G r1 L R) 0 0) 99 [some (.ref 102), some (.int v1), some (.int v2), some (.int v3), some (.int v4), some (.int v5), some (.int v6), some (.int v7), d8] [] M L R := by
  intro n
  induction n with
  | zero => intro v7 M h; exact nomatch h
  | succ n ih =>
    intro v7 M h kx d8
    rw [lX14_fewest_99] at h
    refine go_iload7 hc dX14_fewest_99 ?_
    refine go_bipush (v := 96) hc dX14_fewest_101 rfl ?_
    refine go_icmp_ge hc 194 dX14_fewest_103 rfl (fun c19 => ?_) (fun c19 => ?_)
    · replace h := goIfF h c19
      exact kx _ h _ _
    · replace h := goIfT h c19
      refine go_aload0 hc dX14_fewest_106 ?_
      refine go_iload1 hc dX14_fewest_107 ?_
      refine go_iload6 hc dX14_fewest_108 ?_
      replace h := goBind h; obtain ⟨x20, e21, h⟩ := h
      refine go_callVi hc dX14_fewest_110 (mX14_isSpot hk hW e21) ml_RX14_556 yk_X14_isSpot ⟨wim_X14_isSpot, wse_X14_isSpot⟩ hR rfl (sh_102 hW) rfl rfl rfl (Nat.le_of_ble_eq_true rfl) rfl ?_
      refine go_if_eq hc 188 dX14_fewest_113 rfl (fun c22 => ?_) (fun c22 => ?_)
      · replace h := goIfT h c22
        refine go_iinc7 (v := (v7 + 1)) hc dX14_fewest_188 rfl ?_
        refine go_goto hc 99 dX14_fewest_191 rfl ?_
        exact ih _ _ h kx _
      · replace h := goIfF h c22
        refine go_aload0 hc dX14_fewest_116 ?_
        refine go_iload1 hc dX14_fewest_117 ?_
        refine go_iload7 hc dX14_fewest_118 ?_
        replace h := goBind h; obtain ⟨x23, e24, h⟩ := h
        refine go_callVi hc dX14_fewest_120 (mX14_isSpot hk hW e24) ml_RX14_556 yk_X14_isSpot ⟨wim_X14_isSpot, wse_X14_isSpot⟩ hR rfl (sh_102 hW) rfl rfl rfl (Nat.le_of_ble_eq_true rfl) rfl ?_
        refine go_if_ne hc 129 dX14_fewest_123 rfl (fun c25 => ?_) (fun c25 => ?_)
        · replace h := goIfF h c25
          refine go_aload0 hc dX14_fewest_129 ?_
          refine go_iload1 hc dX14_fewest_130 ?_
          refine go_iload6 hc dX14_fewest_131 ?_
          replace h := goBind h; obtain ⟨M26, e27, h⟩ := h
          refine go_callVv hc dX14_fewest_133 (mX14_turn hk hW e27) ml_RX14_559 yk_X14_turn ⟨wim_X14_turn, wse_X14_turn⟩ hR rfl (sh_102 hW) rfl rfl rfl (Nat.le_of_ble_eq_true rfl) rfl ?_
          refine go_aload0 hc dX14_fewest_136 ?_
          refine go_iload1 hc dX14_fewest_137 ?_
          refine go_iload7 hc dX14_fewest_138 ?_
          replace h := goBind h; obtain ⟨M28, e29, h⟩ := h
          refine go_callVv hc dX14_fewest_140 (mX14_turn hk hW e29) ml_RX14_559 yk_X14_turn ⟨wim_X14_turn, wse_X14_turn⟩ hR rfl (sh_102 hW) rfl rfl rfl (Nat.le_of_ble_eq_true rfl) rfl ?_
          refine go_aload0 hc dX14_fewest_143 ?_
          refine go_iload2 hc dX14_fewest_144 ?_
          refine go_iload3 hc dX14_fewest_145 ?_
          refine go_iload4 hc dX14_fewest_146 ?_
          refine go_iload5 hc dX14_fewest_148 ?_
          replace h := goB2_h h; obtain ⟨x30, M31, e32, h⟩ := h
          refine go_callVi hc dX14_fewest_150 (mX14_isThere hk hW e32) ml_RX14_553 yk_X14_isThere ⟨wim_X14_isThere, wse_X14_isThere⟩ hR rfl (sh_102 hW) rfl rfl rfl (Nat.le_of_ble_eq_true rfl) rfl ?_
          refine go_istore8 hc dX14_fewest_153 ?_
          refine go_aload0 hc dX14_fewest_155 ?_
          refine go_iload1 hc dX14_fewest_156 ?_
          refine go_iload7 hc dX14_fewest_157 ?_
          replace h := goBind h; obtain ⟨M33, e34, h⟩ := h
          refine go_callVv hc dX14_fewest_159 (mX14_turn hk hW e34) ml_RX14_559 yk_X14_turn ⟨wim_X14_turn, wse_X14_turn⟩ hR rfl (sh_102 hW) rfl rfl rfl (Nat.le_of_ble_eq_true rfl) rfl ?_
          refine go_aload0 hc dX14_fewest_162 ?_
          refine go_iload1 hc dX14_fewest_163 ?_
          refine go_iload6 hc dX14_fewest_164 ?_
          replace h := goBind h; obtain ⟨M35, e36, h⟩ := h
          refine go_callVv hc dX14_fewest_166 (mX14_turn hk hW e36) ml_RX14_559 yk_X14_turn ⟨wim_X14_turn, wse_X14_turn⟩ hR rfl (sh_102 hW) rfl rfl rfl (Nat.le_of_ble_eq_true rfl) rfl ?_
          refine go_aload0 hc dX14_fewest_169 ?_
          refine go_iload6 hc dX14_fewest_170 ?_
          replace h := goNm_x h; obtain ⟨M37, e38, h⟩ := h
          refine go_ptI hc lk_RX14_562 dX14_fewest_172 (sh_102 hW) e38 ?_
          refine go_aload0 hc dX14_fewest_175 ?_
          refine go_iload7 hc dX14_fewest_176 ?_
          replace h := goNm_x h; obtain ⟨M39, e40, h⟩ := h
          refine go_ptI hc lk_RX14_565 dX14_fewest_178 (sh_102 hW) e40 ?_
          refine go_iload8 hc dX14_fewest_181 ?_
          refine go_if_eq hc 188 dX14_fewest_183 rfl (fun c41 => ?_) (fun c41 => ?_)
          · replace h := goIfT h c41
            refine go_iinc7 (v := (v7 + 1)) hc dX14_fewest_188 rfl ?_
            refine go_goto hc 99 dX14_fewest_191 rfl ?_
            exact ih _ _ h kx _
          · replace h := goIfF h c41
            refine go_iconst (v := 2) hc dX14_fewest_186 rfl ?_
            cases h
            exact go_iret hc dX14_fewest_187 hr
        · replace h := goIfT h c25
          refine go_goto hc 188 dX14_fewest_126 rfl ?_
          refine go_iinc7 (v := (v7 + 1)) hc dX14_fewest_188 rfl ?_
          refine go_goto hc 99 dX14_fewest_191 rfl ?_
          exact ih _ _ h kx _
set_option maxRecDepth 100000 in
set_option maxHeartbeats 4000000 in
theorem mX14_fewest_L86 {E : goEv} {X : goX} {G : goG} {L : goML} {R : goMR} {N : Nat} {v1 : Int32} {v2 : Int32} {v3 : Int32} {v4 : Int32} {v5 : Int32} {r0 : Int32} {r1 : goMI} (hc : goCx E X cX14_fewest RX14 9) (hk : goKn E) (hR : X.2.2.2.1 = goRoom 7 170 0 0) (hr : X.2.2.2.2.2.2.2.2.1.sig.returnType = (Option.some FieldType.int)) (hW : goW G R) : ∀ (n : Nat) (v6 : Int32) (M : goMI), lX14_fewest_86 N v1 v2 v3 v4 v5 R n v6 M = some (r0, r1) → ∀ (d7 d8 : Option Value), goA E X G 0 0 (goMQ X E (goQi E r0 G r1 L R) 0 0) 86 [some (.ref 102), some (.int v1), some (.int v2), some (.int v3), some (.int v4), some (.int v5), some (.int v6), d7, d8] [] M L R := by
  intro n
  induction n with
  | zero => intro v6 M h; exact nomatch h
  | succ n ih =>
    intro v6 M h d7 d8
    rw [lX14_fewest_86] at h
    refine go_iload6 hc dX14_fewest_86 ?_
    refine go_bipush (v := 96) hc dX14_fewest_88 rfl ?_
    refine go_icmp_ge hc 200 dX14_fewest_90 rfl (fun c16 => ?_) (fun c16 => ?_)
    · replace h := goIfF h c16
      refine go_bipush (v := (-2)) hc dX14_fewest_200 rfl ?_
      cases h
      exact go_iret hc dX14_fewest_202 hr
    · replace h := goIfT h c16
      refine go_iload6 hc dX14_fewest_93 ?_
      refine go_iconst (v := 1) hc dX14_fewest_95 rfl ?_
      refine go_iadd hc dX14_fewest_96 ?_
      replace h := goNm_x h; obtain ⟨x17, e18, h⟩ := h
      refine go_nmI e18 ?_
      refine go_istore7 hc dX14_fewest_97 ?_
      refine mX14_fewest_L99 hc hk hR hr hW _ _ _ h (fun M43 h d7 d8 => ?_) _
      refine go_iinc6 (v := (v6 + 1)) hc dX14_fewest_194 rfl ?_
      refine go_goto hc 86 dX14_fewest_197 rfl ?_
      exact ih _ _ h _ _
set_option maxRecDepth 100000 in
set_option maxHeartbeats 4000000 in
theorem mX14_fewest_L18 {E : goEv} {X : goX} {G : goG} {L : goML} {R : goMR} {N : Nat} {v1 : Int32} {v2 : Int32} {v3 : Int32} {v4 : Int32} {v5 : Int32} {r0 : Int32} {r1 : goMI} (hc : goCx E X cX14_fewest RX14 9) (hk : goKn E) (hR : X.2.2.2.1 = goRoom 7 170 0 0) (hr : X.2.2.2.2.2.2.2.2.1.sig.returnType = (Option.some FieldType.int)) (hW : goW G R) : ∀ (n : Nat) (v6 : Int32) (M : goMI), lX14_fewest_18 N v1 v2 v3 v4 v5 R n v6 M = some (r0, r1) → ∀ (d7 d8 : Option Value), goA E X G 0 0 (goMQ X E (goQi E r0 G r1 L R) 0 0) 18 [some (.ref 102), some (.int v1), some (.int v2), some (.int v3), some (.int v4), some (.int v5), some (.int v6), d7, d8] [] M L R := by
  intro n
  induction n with
  | zero => intro v6 M h; exact nomatch h
  | succ n ih =>
    intro v6 M h d7 d8
    rw [lX14_fewest_18] at h
    refine go_iload6 hc dX14_fewest_18 ?_
    refine go_bipush (v := 96) hc dX14_fewest_20 rfl ?_
    refine go_icmp_ge hc 83 dX14_fewest_22 rfl (fun c15 => ?_) (fun c15 => ?_)
    · replace h := goIfF h c15
      refine go_iconst (v := 0) hc dX14_fewest_83 rfl ?_
      refine go_istore6 hc dX14_fewest_84 ?_
      exact mX14_fewest_L86 hc hk hR hr hW _ _ _ h _ _
    · replace h := goIfT h c15
      refine go_aload0 hc dX14_fewest_25 ?_
      refine go_iload1 hc dX14_fewest_26 ?_
      refine go_iload6 hc dX14_fewest_27 ?_
      replace h := goBind h; obtain ⟨x44, e45, h⟩ := h
      refine go_callVi hc dX14_fewest_29 (mX14_isSpot hk hW e45) ml_RX14_556 yk_X14_isSpot ⟨wim_X14_isSpot, wse_X14_isSpot⟩ hR rfl (sh_102 hW) rfl rfl rfl (Nat.le_of_ble_eq_true rfl) rfl ?_
      refine go_if_ne hc 38 dX14_fewest_32 rfl (fun c46 => ?_) (fun c46 => ?_)
      · replace h := goIfF h c46
        refine go_aload0 hc dX14_fewest_38 ?_
        refine go_iload1 hc dX14_fewest_39 ?_
        refine go_iload6 hc dX14_fewest_40 ?_
        replace h := goBind h; obtain ⟨M47, e48, h⟩ := h
        refine go_callVv hc dX14_fewest_42 (mX14_turn hk hW e48) ml_RX14_559 yk_X14_turn ⟨wim_X14_turn, wse_X14_turn⟩ hR rfl (sh_102 hW) rfl rfl rfl (Nat.le_of_ble_eq_true rfl) rfl ?_
        refine go_aload0 hc dX14_fewest_45 ?_
        refine go_iload2 hc dX14_fewest_46 ?_
        refine go_iload3 hc dX14_fewest_47 ?_
        refine go_iload4 hc dX14_fewest_48 ?_
        refine go_iload5 hc dX14_fewest_50 ?_
        replace h := goB2_h h; obtain ⟨x49, M50, e51, h⟩ := h
        refine go_callVi hc dX14_fewest_52 (mX14_isThere hk hW e51) ml_RX14_553 yk_X14_isThere ⟨wim_X14_isThere, wse_X14_isThere⟩ hR rfl (sh_102 hW) rfl rfl rfl (Nat.le_of_ble_eq_true rfl) rfl ?_
        refine go_istore7 hc dX14_fewest_55 ?_
        refine go_aload0 hc dX14_fewest_57 ?_
        refine go_iload1 hc dX14_fewest_58 ?_
        refine go_iload6 hc dX14_fewest_59 ?_
        replace h := goBind h; obtain ⟨M52, e53, h⟩ := h
        refine go_callVv hc dX14_fewest_61 (mX14_turn hk hW e53) ml_RX14_559 yk_X14_turn ⟨wim_X14_turn, wse_X14_turn⟩ hR rfl (sh_102 hW) rfl rfl rfl (Nat.le_of_ble_eq_true rfl) rfl ?_
        refine go_aload0 hc dX14_fewest_64 ?_
        refine go_iload6 hc dX14_fewest_65 ?_
        replace h := goNm_x h; obtain ⟨M54, e55, h⟩ := h
        refine go_ptI hc lk_RX14_562 dX14_fewest_67 (sh_102 hW) e55 ?_
        refine go_iload7 hc dX14_fewest_70 ?_
        refine go_if_eq hc 77 dX14_fewest_72 rfl (fun c56 => ?_) (fun c56 => ?_)
        · replace h := goIfT h c56
          refine go_iinc6 (v := (v6 + 1)) hc dX14_fewest_77 rfl ?_
          refine go_goto hc 18 dX14_fewest_80 rfl ?_
          exact ih _ _ h _ _
        · replace h := goIfF h c56
          refine go_iconst (v := 1) hc dX14_fewest_75 rfl ?_
          cases h
          exact go_iret hc dX14_fewest_76 hr
      · replace h := goIfT h c46
        refine go_goto hc 77 dX14_fewest_35 rfl ?_
        refine go_iinc6 (v := (v6 + 1)) hc dX14_fewest_77 rfl ?_
        refine go_goto hc 18 dX14_fewest_80 rfl ?_
        exact ih _ _ h _ _
set_option maxRecDepth 100000 in
set_option maxHeartbeats 4000000 in
theorem mX14_fewest {E : goEv} {l : Launch} {G : goG} {N : Nat} {M : goMI} {L : goML} {R : goMR} {v1 : Int32} {v2 : Int32} {v3 : Int32} {v4 : Int32} {v5 : Int32} {r0 : Int32} {r1 : goMI} (hk : goKn E) (hW : goW G R) (h : fX14_fewest N M R v1 v2 v3 v4 v5 = some (r0, r1)) : Met l yX14_fewest (goCd yX14_fewest cX14_fewest 9 (Option.some FieldType.int)) (goRoom 7 170 0 0) (goPre E [.ref 102, .int v1, .int v2, .int v3, .int v4, .int v5] G M L R) (goQi E r0 G r1 L R) 0 0 (goSet E) := by
  refine goMet pl_RX14 hk (lv := [some (.ref 102), some (.int v1), some (.int v2), some (.int v3), some (.int v4), some (.int v5), none, none, none]) rfl (Nat.le_of_ble_eq_true rfl) ?_
  intro X hc hl hR hr hnm
  subst hl
  unfold fX14_fewest at h
  refine go_aload0 hc dX14_fewest_0 ?_
  refine go_iload2 hc dX14_fewest_1 ?_
  refine go_iload3 hc dX14_fewest_2 ?_
  refine go_iload4 hc dX14_fewest_3 ?_
  refine go_iload5 hc dX14_fewest_5 ?_
  replace h := goB2_h h; obtain ⟨x11, M12, e13, h⟩ := h
  refine go_callVi hc dX14_fewest_7 (mX14_isThere hk hW e13) ml_RX14_553 yk_X14_isThere ⟨wim_X14_isThere, wse_X14_isThere⟩ hR rfl (sh_102 hW) rfl rfl rfl (Nat.le_of_ble_eq_true rfl) rfl ?_
  refine go_if_eq hc 15 dX14_fewest_10 rfl (fun c14 => ?_) (fun c14 => ?_)
  · replace h := goIfT h c14
    refine go_iconst (v := 0) hc dX14_fewest_15 rfl ?_
    refine go_istore6 hc dX14_fewest_16 ?_
    exact mX14_fewest_L18 hc hk hR hr hW _ _ _ h _ _
  · replace h := goIfF h c14
    refine go_iconst (v := 0) hc dX14_fewest_13 rfl ?_
    cases h
    exact go_iret hc dX14_fewest_14 hr
theorem dX14_refusesLed_0 : decode cX14_refusesLed 0 = .ok (.aload_n 0, 1) := by decide +kernel
theorem dX14_refusesLed_1 : decode cX14_refusesLed 1 = .ok (.iload_n 1, 1) := by decide +kernel
theorem dX14_refusesLed_2 : decode cX14_refusesLed 2 = .ok (.invokevirtual 514, 3) := by decide +kernel
theorem dX14_refusesLed_5 : decode cX14_refusesLed 5 = .ok (.ifCond .eq 19, 3) := by decide +kernel
theorem dX14_refusesLed_8 : decode cX14_refusesLed 8 = .ok (.aload_n 0, 1) := by decide +kernel
theorem dX14_refusesLed_9 : decode cX14_refusesLed 9 = .ok (.iload_n 2, 1) := by decide +kernel
theorem dX14_refusesLed_10 : decode cX14_refusesLed 10 = .ok (.invokevirtual 497, 3) := by decide +kernel
theorem dX14_refusesLed_13 : decode cX14_refusesLed 13 = .ok (.ifCond .eq 11, 3) := by decide +kernel
theorem dX14_refusesLed_16 : decode cX14_refusesLed 16 = .ok (.aload_n 0, 1) := by decide +kernel
theorem dX14_refusesLed_17 : decode cX14_refusesLed 17 = .ok (.iload_n 3, 1) := by decide +kernel
theorem dX14_refusesLed_18 : decode cX14_refusesLed 18 = .ok (.invokevirtual 491, 3) := by decide +kernel
theorem dX14_refusesLed_21 : decode cX14_refusesLed 21 = .ok (.ifCond .ne 7, 3) := by decide +kernel
theorem dX14_refusesLed_24 : decode cX14_refusesLed 24 = .ok (.iconst 1, 1) := by decide +kernel
theorem dX14_refusesLed_25 : decode cX14_refusesLed 25 = .ok (.goto 17, 3) := by decide +kernel
theorem dX14_refusesLed_28 : decode cX14_refusesLed 28 = .ok (.aload_n 0, 1) := by decide +kernel
theorem dX14_refusesLed_29 : decode cX14_refusesLed 29 = .ok (.iload 4, 2) := by decide +kernel
theorem dX14_refusesLed_31 : decode cX14_refusesLed 31 = .ok (.invokevirtual 509, 3) := by decide +kernel
theorem dX14_refusesLed_34 : decode cX14_refusesLed 34 = .ok (.ifCond .eq 7, 3) := by decide +kernel
theorem dX14_refusesLed_37 : decode cX14_refusesLed 37 = .ok (.iconst 0, 1) := by decide +kernel
theorem dX14_refusesLed_38 : decode cX14_refusesLed 38 = .ok (.goto 4, 3) := by decide +kernel
theorem dX14_refusesLed_41 : decode cX14_refusesLed 41 = .ok (.iconst 2, 1) := by decide +kernel
theorem dX14_refusesLed_42 : decode cX14_refusesLed 42 = .ok (.ireturn, 1) := by decide +kernel
set_option maxRecDepth 100000 in
set_option maxHeartbeats 4000000 in
theorem mX14_refusesLed {E : goEv} {l : Launch} {G : goG} {N : Nat} {M : goMI} {L : goML} {R : goMR} {v1 : Int32} {v2 : Int32} {v3 : Int32} {v4 : Int32} {r0 : Int32} (hk : goKn E) (hW : goW G R) (h : fX14_refusesLed N M R v1 v2 v3 v4 = some r0) : Met l yX14_refusesLed (goCd yX14_refusesLed cX14_refusesLed 5 (Option.some FieldType.int)) (goRoom 2 43 0 0) (goPre E [.ref 102, .int v1, .int v2, .int v3, .int v4] G M L R) (goQi E r0 G M L R) 0 0 (goSet E) := by
  refine goMet pl_RX14 hk (lv := [some (.ref 102), some (.int v1), some (.int v2), some (.int v3), some (.int v4)]) rfl (Nat.le_of_ble_eq_true rfl) ?_
  intro X hc hl hR hr hnm
  subst hl
  unfold fX14_refusesLed at h
  refine go_aload0 hc dX14_refusesLed_0 ?_
  refine go_iload1 hc dX14_refusesLed_1 ?_
  replace h := goBind h; obtain ⟨x11, e12, h⟩ := h
  refine go_callVi hc dX14_refusesLed_2 (mX14_isCase hk hW e12) ml_RX14_514 yk_X14_isCase ⟨wim_X14_isCase, wse_X14_isCase⟩ hR rfl (sh_102 hW) rfl rfl rfl (Nat.le_of_ble_eq_true rfl) rfl ?_
  refine go_if_eq hc 24 dX14_refusesLed_5 rfl (fun c13 => ?_) (fun c13 => ?_)
  · replace h := goIfT h c13
    refine go_iconst (v := 1) hc dX14_refusesLed_24 rfl ?_
    refine go_goto hc 42 dX14_refusesLed_25 rfl ?_
    cases h
    exact go_iret hc dX14_refusesLed_42 hr
  · replace h := goIfF h c13
    refine go_aload0 hc dX14_refusesLed_8 ?_
    refine go_iload2 hc dX14_refusesLed_9 ?_
    replace h := goBind h; obtain ⟨x14, e15, h⟩ := h
    refine go_callVi hc dX14_refusesLed_10 (mX14_isGoat hk hW e15) ml_RX14_497 yk_X14_isGoat ⟨wim_X14_isGoat, wse_X14_isGoat⟩ hR rfl (sh_102 hW) rfl rfl rfl (Nat.le_of_ble_eq_true rfl) rfl ?_
    refine go_if_eq hc 24 dX14_refusesLed_13 rfl (fun c16 => ?_) (fun c16 => ?_)
    · replace h := goIfT h c16
      refine go_iconst (v := 1) hc dX14_refusesLed_24 rfl ?_
      refine go_goto hc 42 dX14_refusesLed_25 rfl ?_
      cases h
      exact go_iret hc dX14_refusesLed_42 hr
    · replace h := goIfF h c16
      refine go_aload0 hc dX14_refusesLed_16 ?_
      refine go_iload3 hc dX14_refusesLed_17 ?_
      replace h := goBind h; obtain ⟨x17, e18, h⟩ := h
      refine go_callVi hc dX14_refusesLed_18 (mX14_isPlace hk hW e18) ml_RX14_491 yk_X14_isPlace ⟨wim_X14_isPlace, wse_X14_isPlace⟩ hR rfl (sh_102 hW) rfl rfl rfl (Nat.le_of_ble_eq_true rfl) rfl ?_
      refine go_if_ne hc 28 dX14_refusesLed_21 rfl (fun c19 => ?_) (fun c19 => ?_)
      · replace h := goIfF h c19
        refine go_aload0 hc dX14_refusesLed_28 ?_
        refine go_iload4 hc dX14_refusesLed_29 ?_
        replace h := goBind h; obtain ⟨x20, e21, h⟩ := h
        refine go_callVi hc dX14_refusesLed_31 (mX14_isHour hk hW e21) ml_RX14_509 yk_X14_isHour ⟨wim_X14_isHour, wse_X14_isHour⟩ hR rfl (sh_102 hW) rfl rfl rfl (Nat.le_of_ble_eq_true rfl) rfl ?_
        refine go_if_eq hc 41 dX14_refusesLed_34 rfl (fun c22 => ?_) (fun c22 => ?_)
        · replace h := goIfT h c22
          refine go_iconst (v := 2) hc dX14_refusesLed_41 rfl ?_
          cases h
          exact go_iret hc dX14_refusesLed_42 hr
        · replace h := goIfF h c22
          refine go_iconst (v := 0) hc dX14_refusesLed_37 rfl ?_
          refine go_goto hc 42 dX14_refusesLed_38 rfl ?_
          cases h
          exact go_iret hc dX14_refusesLed_42 hr
      · replace h := goIfT h c19
        refine go_iconst (v := 1) hc dX14_refusesLed_24 rfl ?_
        refine go_goto hc 42 dX14_refusesLed_25 rfl ?_
        cases h
        exact go_iret hc dX14_refusesLed_42 hr
theorem dX14_led_0 : decode cX14_led 0 = .ok (.aload_n 0, 1) := by decide +kernel
theorem dX14_led_1 : decode cX14_led 1 = .ok (.iconst 0, 1) := by decide +kernel
theorem dX14_led_2 : decode cX14_led 2 = .ok (.putfield 66, 3) := by decide +kernel
theorem dX14_led_5 : decode cX14_led 5 = .ok (.aload_n 0, 1) := by decide +kernel
theorem dX14_led_6 : decode cX14_led 6 = .ok (.iload_n 1, 1) := by decide +kernel
theorem dX14_led_7 : decode cX14_led 7 = .ok (.iload_n 2, 1) := by decide +kernel
theorem dX14_led_8 : decode cX14_led 8 = .ok (.iload_n 3, 1) := by decide +kernel
theorem dX14_led_9 : decode cX14_led 9 = .ok (.iload 4, 2) := by decide +kernel
theorem dX14_led_11 : decode cX14_led 11 = .ok (.invokevirtual 568, 3) := by decide +kernel
theorem dX14_led_14 : decode cX14_led 14 = .ok (.istore 5, 2) := by decide +kernel
theorem dX14_led_16 : decode cX14_led 16 = .ok (.iload 5, 2) := by decide +kernel
theorem dX14_led_18 : decode cX14_led 18 = .ok (.ifCond .le 12, 3) := by decide +kernel
theorem dX14_led_21 : decode cX14_led 21 = .ok (.aload_n 0, 1) := by decide +kernel
theorem dX14_led_22 : decode cX14_led 22 = .ok (.iload 5, 2) := by decide +kernel
theorem dX14_led_24 : decode cX14_led 24 = .ok (.invokevirtual 72, 3) := by decide +kernel
theorem dX14_led_27 : decode cX14_led 27 = .ok (.goto 17, 3) := by decide +kernel
theorem dX14_led_30 : decode cX14_led 30 = .ok (.aload_n 0, 1) := by decide +kernel
theorem dX14_led_31 : decode cX14_led 31 = .ok (.aload_n 0, 1) := by decide +kernel
theorem dX14_led_32 : decode cX14_led 32 = .ok (.iconst 0, 1) := by decide +kernel
theorem dX14_led_33 : decode cX14_led 33 = .ok (.iload_n 1, 1) := by decide +kernel
theorem dX14_led_34 : decode cX14_led 34 = .ok (.iload_n 2, 1) := by decide +kernel
theorem dX14_led_35 : decode cX14_led 35 = .ok (.iload_n 3, 1) := by decide +kernel
theorem dX14_led_36 : decode cX14_led 36 = .ok (.iload 4, 2) := by decide +kernel
theorem dX14_led_38 : decode cX14_led 38 = .ok (.invokevirtual 572, 3) := by decide +kernel
theorem dX14_led_41 : decode cX14_led 41 = .ok (.invokevirtual 76, 3) := by decide +kernel
theorem dX14_led_44 : decode cX14_led 44 = .ok (.ireturn, 1) := by decide +kernel
set_option maxRecDepth 100000 in
set_option maxHeartbeats 4000000 in
theorem mX14_led {E : goEv} {l : Launch} {G : goG} {N : Nat} {M : goMI} {L : goML} {R : goMR} {v1 : Int32} {v2 : Int32} {v3 : Int32} {v4 : Int32} {r0 : Int32} {r1 : goMI} (hk : goKn E) (hW : goW G R) (h : fX14_led N M R v1 v2 v3 v4 = some (r0, r1)) : Met l yX14_led (goCd yX14_led cX14_led 6 (Option.some FieldType.int)) (goRoom 8 198 0 0) (goPre E [.ref 102, .int v1, .int v2, .int v3, .int v4] G M L R) (goQi E r0 G r1 L R) 0 0 (goSet E) := by
  refine goMet pl_RX14 hk (lv := [some (.ref 102), some (.int v1), some (.int v2), some (.int v3), some (.int v4), none]) rfl (Nat.le_of_ble_eq_true rfl) ?_
  intro X hc hl hR hr hnm
  subst hl
  unfold fX14_led at h
  refine go_aload0 hc dX14_led_0 ?_
  refine go_iconst (v := 0) hc dX14_led_1 rfl ?_
  replace h := goNm_x h; obtain ⟨M11, e12, h⟩ := h
  refine go_ptI hc lk_RX14_66 dX14_led_2 (sh_102 hW) e12 ?_
  refine go_aload0 hc dX14_led_5 ?_
  refine go_iload1 hc dX14_led_6 ?_
  refine go_iload2 hc dX14_led_7 ?_
  refine go_iload3 hc dX14_led_8 ?_
  refine go_iload4 hc dX14_led_9 ?_
  replace h := goBind h; obtain ⟨x13, e14, h⟩ := h
  refine go_callVi hc dX14_led_11 (mX14_refusesLed hk hW e14) ml_RX14_568 yk_X14_refusesLed ⟨wim_X14_refusesLed, wse_X14_refusesLed⟩ hR rfl (sh_102 hW) rfl rfl rfl (Nat.le_of_ble_eq_true rfl) rfl ?_
  refine go_istore5 hc dX14_led_14 ?_
  refine go_iload5 hc dX14_led_16 ?_
  refine go_if_le hc 30 dX14_led_18 rfl (fun c15 => ?_) (fun c15 => ?_)
  · replace h := goIfF h c15
    refine go_aload0 hc dX14_led_30 ?_
    refine go_aload0 hc dX14_led_31 ?_
    refine go_iconst (v := 0) hc dX14_led_32 rfl ?_
    refine go_iload1 hc dX14_led_33 ?_
    refine go_iload2 hc dX14_led_34 ?_
    refine go_iload3 hc dX14_led_35 ?_
    refine go_iload4 hc dX14_led_36 ?_
    replace h := goB2_h h; obtain ⟨x16, M17, e18, h⟩ := h
    refine go_callVi hc dX14_led_38 (mX14_fewest hk hW e18) ml_RX14_572 yk_X14_fewest ⟨wim_X14_fewest, wse_X14_fewest⟩ hR rfl (sh_102 hW) rfl rfl rfl (Nat.le_of_ble_eq_true rfl) rfl ?_
    replace h := goB2_h h; obtain ⟨x19, M20, e21, h⟩ := h
    refine go_callVi hc dX14_led_41 (mX14_good hk hW e21) ml_RX14_76 yk_X14_good ⟨wim_X14_good, wse_X14_good⟩ hR rfl (sh_102 hW) rfl rfl rfl (Nat.le_of_ble_eq_true rfl) rfl ?_
    cases h
    exact go_iret hc dX14_led_44 hr
  · replace h := goIfT h c15
    refine go_aload0 hc dX14_led_21 ?_
    refine go_iload5 hc dX14_led_22 ?_
    replace h := goB2_h h; obtain ⟨x22, M23, e24, h⟩ := h
    refine go_callVi hc dX14_led_24 (mX14_refused hk hW e24) ml_RX14_72 yk_X14_refused ⟨wim_X14_refused, wse_X14_refused⟩ hR rfl (sh_102 hW) rfl rfl rfl (Nat.le_of_ble_eq_true rfl) rfl ?_
    refine go_goto hc 44 dX14_led_27 rfl ?_
    cases h
    exact go_iret hc dX14_led_44 hr
