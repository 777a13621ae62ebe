theorem dX12_isTrue_0 : decode cX12_isTrue 0 = .ok (.aload_n 0, 1) := by decide +kernel
theorem dX12_isTrue_1 : decode cX12_isTrue 1 = .ok (.iload_n 1, 1) := by decide +kernel
theorem dX12_isTrue_2 : decode cX12_isTrue 2 = .ok (.invokevirtual 191, 3) := by decide +kernel
theorem dX12_isTrue_5 : decode cX12_isTrue 5 = .ok (.ifCond .eq 20, 3) := by decide +kernel
theorem dX12_isTrue_8 : decode cX12_isTrue 8 = .ok (.iload_n 2, 1) := by decide +kernel
theorem dX12_isTrue_9 : decode cX12_isTrue 9 = .ok (.aload_n 0, 1) := by decide +kernel
theorem dX12_isTrue_10 : decode cX12_isTrue 10 = .ok (.getfield 26, 3) := by decide +kernel
theorem dX12_isTrue_13 : decode cX12_isTrue 13 = .ok (.getfield 118, 3) := by decide +kernel
theorem dX12_isTrue_16 : decode cX12_isTrue 16 = .ok (.getfield 163, 3) := by decide +kernel
theorem dX12_isTrue_19 : decode cX12_isTrue 19 = .ok (.invokestatic 156, 3) := by decide +kernel
theorem dX12_isTrue_22 : decode cX12_isTrue 22 = .ok (.ifCond .ne 9, 3) := by decide +kernel
theorem dX12_isTrue_25 : decode cX12_isTrue 25 = .ok (.aload_n 0, 1) := by decide +kernel
theorem dX12_isTrue_26 : decode cX12_isTrue 26 = .ok (.iconst 1, 1) := by decide +kernel
theorem dX12_isTrue_27 : decode cX12_isTrue 27 = .ok (.invokevirtual 66, 3) := by decide +kernel
theorem dX12_isTrue_30 : decode cX12_isTrue 30 = .ok (.ireturn, 1) := by decide +kernel
theorem dX12_isTrue_31 : decode cX12_isTrue 31 = .ok (.aload_n 0, 1) := by decide +kernel
theorem dX12_isTrue_32 : decode cX12_isTrue 32 = .ok (.aload_n 0, 1) := by decide +kernel
theorem dX12_isTrue_33 : decode cX12_isTrue 33 = .ok (.getfield 47, 3) := by decide +kernel
theorem dX12_isTrue_36 : decode cX12_isTrue 36 = .ok (.iload_n 1, 1) := by decide +kernel
theorem dX12_isTrue_37 : decode cX12_isTrue 37 = .ok (.invokevirtual 197, 3) := by decide +kernel
theorem dX12_isTrue_40 : decode cX12_isTrue 40 = .ok (.iload_n 2, 1) := by decide +kernel
theorem dX12_isTrue_41 : decode cX12_isTrue 41 = .ok (.invokevirtual 224, 3) := by decide +kernel
theorem dX12_isTrue_44 : decode cX12_isTrue 44 = .ok (.ifCond .eq 7, 3) := by decide +kernel
theorem dX12_isTrue_47 : decode cX12_isTrue 47 = .ok (.iconst 1, 1) := by decide +kernel
theorem dX12_isTrue_48 : decode cX12_isTrue 48 = .ok (.goto 4, 3) := by decide +kernel
theorem dX12_isTrue_51 : decode cX12_isTrue 51 = .ok (.iconst 0, 1) := by decide +kernel
theorem dX12_isTrue_52 : decode cX12_isTrue 52 = .ok (.invokevirtual 88, 3) := by decide +kernel
theorem dX12_isTrue_55 : decode cX12_isTrue 55 = .ok (.ireturn, 1) := by decide +kernel
set_option maxRecDepth 100000 in
set_option maxHeartbeats 4000000 in
theorem mX12_isTrue {E : goEv} {l : Launch} {G : goG} {N : Nat} {M : goMI} {L : goML} {R : goMR} {v1 : Int32} {v2 : Int32} {r0 : Int32} {r1 : goMI} (hk : goKn E) (hW : goW G R) (h : fX12_isTrue N M R v1 v2 = some (r0, r1)) : Met l yX12_isTrue (goCd yX12_isTrue cX12_isTrue 3 (Option.some FieldType.int)) (goRoom 5 126 0 0) (goPre E [.ref 0, .int v1, .int v2] G M L R) (goQi E r0 G r1 L R) 0 0 (goSet E) := by
  refine goMet pl_RX12 hk (lv := [some (.ref 0), some (.int v1), some (.int v2)]) rfl (Nat.le_of_ble_eq_true rfl) ?_
  intro X hc hl hR hr hnm
  subst hl
  unfold fX12_isTrue at h
  refine go_aload0 hc dX12_isTrue_0 ?_
  refine go_iload1 hc dX12_isTrue_1 ?_
  refine go_callVi hc dX12_isTrue_2 (mX12_isCase hk hW rfl) ml_RX12_191 yk_X12_isCase ⟨wim_X12_isCase, wse_X12_isCase⟩ hR rfl (sh_0 hW) rfl rfl rfl (Nat.le_of_ble_eq_true rfl) rfl ?_
  refine go_if_eq hc 25 dX12_isTrue_5 rfl (fun c11 => ?_) (fun c11 => ?_)
  · replace h := goIfT h c11
    refine go_aload0 hc dX12_isTrue_25 ?_
    refine go_iconst (v := 1) hc dX12_isTrue_26 rfl ?_
    replace h := goB2_h h; obtain ⟨x12, M13, e14, h⟩ := h
    refine go_callVi hc dX12_isTrue_27 (mX12_refuse hk hW e14) ml_RX12_66 yk_X12_refuse ⟨wim_X12_refuse, wse_X12_refuse⟩ hR rfl (sh_0 hW) rfl rfl rfl (Nat.le_of_ble_eq_true rfl) rfl ?_
    cases h
    exact go_iret hc dX12_isTrue_30 hr
  · replace h := goIfF h c11
    refine go_iload2 hc dX12_isTrue_8 ?_
    refine go_aload0 hc dX12_isTrue_9 ?_
    refine go_getR hc lk_RX12_26 dX12_isTrue_10 (sh_0 hW) (rm_0_5 hW) ?_
    refine go_getR hc lk_RX12_118 dX12_isTrue_13 (shHill_0 hW (mm_0_5 hW)) (rfHill_15 hW (mm_0_5 hW)) ?_
    refine go_getI hc lk_RX12_163 dX12_isTrue_16 (shHerd_0 hW (subHerd (mm_0_5 hW))) ?_
    refine go_callSi hc dX12_isTrue_19 (mX12_within hk hW rfl) ml_RX12_156 yk_X12_within wst_X12_within hR rfl rfl rfl (Nat.le_of_ble_eq_true rfl) rfl ?_
    refine go_if_ne hc 31 dX12_isTrue_22 rfl (fun c15 => ?_) (fun c15 => ?_)
    · replace h := goIfF h c15
      refine go_aload0 hc dX12_isTrue_31 ?_
      refine go_aload0 hc dX12_isTrue_32 ?_
      refine go_getR hc lk_RX12_47 dX12_isTrue_33 (sh_0 hW) (rf_0_3 hW) ?_
      refine go_iload1 hc dX12_isTrue_36 ?_
      replace h := goBind h; obtain ⟨M16, e17, h⟩ := h
      refine go_callVr hc dX12_isTrue_37 (mX4_dayOf hk hW e17) ml_RX12_197 yk_X4_dayOf ⟨wim_X4_dayOf, wse_X4_dayOf⟩ hR rfl (sh_74 hW) rfl rfl rfl (Nat.le_of_ble_eq_true rfl) rfl ?_
      refine go_iload2 hc dX12_isTrue_40 ?_
      replace h := goBind h; obtain ⟨x18, e19, h⟩ := h
      refine go_callVi hc dX12_isTrue_41 (mX3_shows hk hW mb_78 e19) ml_RX12_224 yk_X3_shows ⟨wim_X3_shows, wse_X3_shows⟩ hR rfl (shDay_0 hW mb_78) rfl rfl rfl (Nat.le_of_ble_eq_true rfl) rfl ?_
      replace h := goNm_y h; obtain ⟨x20, e21, h⟩ := h
      have k22 : ∀ (d0 d1 d2 : Option Value), goA E X G 0 0 (goMQ X E (goQi E r0 G r1 L R) 0 0) 52 [d0, d1, d2] [.int x20, .ref 0] M16 L R := by
        intro d0 d1 d2
        replace h := goB2_h h; obtain ⟨x24, M25, e26, h⟩ := h
        refine go_callVi hc dX12_isTrue_52 (mX12_answer hk hW e26) ml_RX12_88 yk_X12_answer ⟨wim_X12_answer, wse_X12_answer⟩ hR rfl (sh_0 hW) rfl rfl rfl (Nat.le_of_ble_eq_true rfl) rfl ?_
        cases h
        exact go_iret hc dX12_isTrue_55 hr
      refine go_if_eq hc 51 dX12_isTrue_44 rfl (fun c23 => ?_) (fun c23 => ?_)
      · replace e21 := goIfT e21 c23
        refine go_iconst (v := 0) hc dX12_isTrue_51 rfl ?_
        subst e21
        exact k22 _ _ _
      · replace e21 := goIfF e21 c23
        refine go_iconst (v := 1) hc dX12_isTrue_47 rfl ?_
        refine go_goto hc 52 dX12_isTrue_48 rfl ?_
        subst e21
        exact k22 _ _ _
    · replace h := goIfT h c15
      refine go_aload0 hc dX12_isTrue_25 ?_
      refine go_iconst (v := 1) hc dX12_isTrue_26 rfl ?_
      replace h := goB2_h h; obtain ⟨x27, M28, e29, h⟩ := h
      refine go_callVi hc dX12_isTrue_27 (mX12_refuse hk hW e29) ml_RX12_66 yk_X12_refuse ⟨wim_X12_refuse, wse_X12_refuse⟩ hR rfl (sh_0 hW) rfl rfl rfl (Nat.le_of_ble_eq_true rfl) rfl ?_
      cases h
      exact go_iret hc dX12_isTrue_30 hr
theorem dX12_isHill_0 : decode cX12_isHill 0 = .ok (.aload_n 0, 1) := by decide +kernel
theorem dX12_isHill_1 : decode cX12_isHill 1 = .ok (.getfield 26, 3) := by decide +kernel
theorem dX12_isHill_4 : decode cX12_isHill 4 = .ok (.getfield 85, 3) := by decide +kernel
theorem dX12_isHill_7 : decode cX12_isHill 7 = .ok (.ifCond .le 7, 3) := by decide +kernel
theorem dX12_isHill_10 : decode cX12_isHill 10 = .ok (.iconst 1, 1) := by decide +kernel
theorem dX12_isHill_11 : decode cX12_isHill 11 = .ok (.goto 4, 3) := by decide +kernel
theorem dX12_isHill_14 : decode cX12_isHill 14 = .ok (.iconst 0, 1) := by decide +kernel
theorem dX12_isHill_15 : decode cX12_isHill 15 = .ok (.ireturn, 1) := by decide +kernel
theorem zX12_isHill {M : goMI} {R : goMR} : fX12_isHill M R = 0 ∨ fX12_isHill M R = 1 := by
  unfold fX12_isHill
  first | exact rfl | ((repeat' split) <;> simp; done) | (simp only [goNm]; (repeat' split) <;> simp)
set_option maxRecDepth 100000 in
set_option maxHeartbeats 4000000 in
theorem mX12_isHill {E : goEv} {l : Launch} {G : goG} {M : goMI} {L : goML} {R : goMR} {r0 : Int32} (hk : goKn E) (hW : goW G R) (h : fX12_isHill M R = r0) : Met l yX12_isHill (goCd yX12_isHill cX12_isHill 1 (Option.some FieldType.boolean)) (goRoom 0 0 0 0) (goPre E [.ref 0] G M L R) (goQi E r0 G M L R) 0 0 (goSet E) := by
  refine goMet pl_RX12 hk (lv := [some (.ref 0)]) rfl (Nat.le_of_ble_eq_true rfl) ?_
  intro X hc hl hR hr hnm
  subst hl
  unfold fX12_isHill at h
  refine go_aload0 hc dX12_isHill_0 ?_
  refine go_getR hc lk_RX12_26 dX12_isHill_1 (sh_0 hW) (rm_0_5 hW) ?_
  refine go_getI hc lk_RX12_85 dX12_isHill_4 (shHill_0 hW (mm_0_5 hW)) ?_
  refine go_if_le hc 14 dX12_isHill_7 rfl (fun c11 => ?_) (fun c11 => ?_)
  · replace h := goIfF h c11
    refine go_iconst (v := 0) hc dX12_isHill_14 rfl ?_
    subst h
    exact go_zret hc dX12_isHill_15 hr rfl
  · replace h := goIfT h c11
    refine go_iconst (v := 1) hc dX12_isHill_10 rfl ?_
    refine go_goto hc 15 dX12_isHill_11 rfl ?_
    subst h
    exact go_zret hc dX12_isHill_15 hr rfl
theorem dX12_fits_0 : decode cX12_fits 0 = .ok (.aload_n 0, 1) := by decide +kernel
theorem dX12_fits_1 : decode cX12_fits 1 = .ok (.invokevirtual 227, 3) := by decide +kernel
theorem dX12_fits_4 : decode cX12_fits 4 = .ok (.ifCond .eq 20, 3) := by decide +kernel
theorem dX12_fits_7 : decode cX12_fits 7 = .ok (.aload_n 0, 1) := by decide +kernel
theorem dX12_fits_8 : decode cX12_fits 8 = .ok (.aload_n 0, 1) := by decide +kernel
theorem dX12_fits_9 : decode cX12_fits 9 = .ok (.getfield 47, 3) := by decide +kernel
theorem dX12_fits_12 : decode cX12_fits 12 = .ok (.invokevirtual 231, 3) := by decide +kernel
theorem dX12_fits_15 : decode cX12_fits 15 = .ok (.invokevirtual 235, 3) := by decide +kernel
theorem dX12_fits_18 : decode cX12_fits 18 = .ok (.invokevirtual 88, 3) := by decide +kernel
theorem dX12_fits_21 : decode cX12_fits 21 = .ok (.goto 8, 3) := by decide +kernel
theorem dX12_fits_24 : decode cX12_fits 24 = .ok (.aload_n 0, 1) := by decide +kernel
theorem dX12_fits_25 : decode cX12_fits 25 = .ok (.iconst 1, 1) := by decide +kernel
theorem dX12_fits_26 : decode cX12_fits 26 = .ok (.invokevirtual 66, 3) := by decide +kernel
theorem dX12_fits_29 : decode cX12_fits 29 = .ok (.ireturn, 1) := by decide +kernel
set_option maxRecDepth 100000 in
set_option maxHeartbeats 4000000 in
theorem mX12_fits {E : goEv} {l : Launch} {G : goG} {N : Nat} {M : goMI} {L : goML} {R : goMR} {r0 : Int32} {r1 : goMI} (hk : goKn E) (hW : goW G R) (h : fX12_fits N M R = some (r0, r1)) : Met l yX12_fits (goCd yX12_fits cX12_fits 1 (Option.some FieldType.int)) (goRoom 6 148 0 0) (goPre E [.ref 0] G M L R) (goQi E r0 G r1 L R) 0 0 (goSet E) := by
  refine goMet pl_RX12 hk (lv := [some (.ref 0)]) rfl (Nat.le_of_ble_eq_true rfl) ?_
  intro X hc hl hR hr hnm
  subst hl
  unfold fX12_fits at h
  refine go_aload0 hc dX12_fits_0 ?_
  refine go_callVi hc dX12_fits_1 (mX12_isHill hk hW rfl) ml_RX12_227 yk_X12_isHill ⟨wim_X12_isHill, wse_X12_isHill⟩ hR rfl (sh_0 hW) rfl rfl rfl (Nat.le_of_ble_eq_true rfl) rfl ?_
  refine go_if_eq hc 24 dX12_fits_4 rfl (fun c11 => ?_) (fun c11 => ?_)
  · replace h := goIfT h c11
    refine go_aload0 hc dX12_fits_24 ?_
    refine go_iconst (v := 1) hc dX12_fits_25 rfl ?_
    replace h := goB2_h h; obtain ⟨x12, M13, e14, h⟩ := h
    refine go_callVi hc dX12_fits_26 (mX12_refuse hk hW e14) ml_RX12_66 yk_X12_refuse ⟨wim_X12_refuse, wse_X12_refuse⟩ hR rfl (sh_0 hW) rfl rfl rfl (Nat.le_of_ble_eq_true rfl) rfl ?_
    cases h
    exact go_iret hc dX12_fits_29 hr
  · replace h := goIfF h c11
    refine go_aload0 hc dX12_fits_7 ?_
    refine go_aload0 hc dX12_fits_8 ?_
    refine go_getR hc lk_RX12_47 dX12_fits_9 (sh_0 hW) (rf_0_3 hW) ?_
    replace h := goBind h; obtain ⟨M15, e16, h⟩ := h
    refine go_callVr hc dX12_fits_12 (mX4_freshened hk hW e16) ml_RX12_231 yk_X4_freshened ⟨wim_X4_freshened, wse_X4_freshened⟩ hR rfl (sh_74 hW) rfl rfl rfl (Nat.le_of_ble_eq_true rfl) rfl ?_
    replace h := goBind h; obtain ⟨x17, e18, h⟩ := h
    refine go_callVi hc dX12_fits_15 (mX4_howManyFit hk hW e18) ml_RX12_235 yk_X4_howManyFit ⟨wim_X4_howManyFit, wse_X4_howManyFit⟩ hR rfl (sh_74 hW) rfl rfl rfl (Nat.le_of_ble_eq_true rfl) rfl ?_
    replace h := goB2_h h; obtain ⟨x19, M20, e21, h⟩ := h
    refine go_callVi hc dX12_fits_18 (mX12_answer hk hW e21) ml_RX12_88 yk_X12_answer ⟨wim_X12_answer, wse_X12_answer⟩ hR rfl (sh_0 hW) rfl rfl rfl (Nat.le_of_ble_eq_true rfl) rfl ?_
    refine go_goto hc 29 dX12_fits_21 rfl ?_
    cases h
    exact go_iret hc dX12_fits_29 hr
theorem dX12_fit_0 : decode cX12_fit 0 = .ok (.aload_n 0, 1) := by decide +kernel
theorem dX12_fit_1 : decode cX12_fit 1 = .ok (.getfield 47, 3) := by decide +kernel
theorem dX12_fit_4 : decode cX12_fit 4 = .ok (.invokevirtual 231, 3) := by decide +kernel
theorem dX12_fit_7 : decode cX12_fit 7 = .ok (.iload_n 1, 1) := by decide +kernel
theorem dX12_fit_8 : decode cX12_fit 8 = .ok (.invokevirtual 239, 3) := by decide +kernel
theorem dX12_fit_11 : decode cX12_fit 11 = .ok (.istore_n 2, 1) := by decide +kernel
theorem dX12_fit_12 : decode cX12_fit 12 = .ok (.iload_n 2, 1) := by decide +kernel
theorem dX12_fit_13 : decode cX12_fit 13 = .ok (.ifCond .lt 11, 3) := by decide +kernel
theorem dX12_fit_16 : decode cX12_fit 16 = .ok (.aload_n 0, 1) := by decide +kernel
theorem dX12_fit_17 : decode cX12_fit 17 = .ok (.iload_n 2, 1) := by decide +kernel
theorem dX12_fit_18 : decode cX12_fit 18 = .ok (.invokevirtual 88, 3) := by decide +kernel
theorem dX12_fit_21 : decode cX12_fit 21 = .ok (.goto 8, 3) := by decide +kernel
theorem dX12_fit_24 : decode cX12_fit 24 = .ok (.aload_n 0, 1) := by decide +kernel
theorem dX12_fit_25 : decode cX12_fit 25 = .ok (.iconst 1, 1) := by decide +kernel
theorem dX12_fit_26 : decode cX12_fit 26 = .ok (.invokevirtual 66, 3) := by decide +kernel
theorem dX12_fit_29 : decode cX12_fit 29 = .ok (.ireturn, 1) := by decide +kernel
set_option maxRecDepth 100000 in
set_option maxHeartbeats 4000000 in
theorem mX12_fit {E : goEv} {l : Launch} {G : goG} {N : Nat} {M : goMI} {L : goML} {R : goMR} {v1 : Int32} {r0 : Int32} {r1 : goMI} (hk : goKn E) (hW : goW G R) (h : fX12_fit N M R v1 = some (r0, r1)) : Met l yX12_fit (goCd yX12_fit cX12_fit 3 (Option.some FieldType.int)) (goRoom 6 148 0 0) (goPre E [.ref 0, .int v1] G M L R) (goQi E r0 G r1 L R) 0 0 (goSet E) := by
  refine goMet pl_RX12 hk (lv := [some (.ref 0), some (.int v1), none]) rfl (Nat.le_of_ble_eq_true rfl) ?_
  intro X hc hl hR hr hnm
  subst hl
  unfold fX12_fit at h
  refine go_aload0 hc dX12_fit_0 ?_
  refine go_getR hc lk_RX12_47 dX12_fit_1 (sh_0 hW) (rf_0_3 hW) ?_
  replace h := goBind h; obtain ⟨M11, e12, h⟩ := h
  refine go_callVr hc dX12_fit_4 (mX4_freshened hk hW e12) ml_RX12_231 yk_X4_freshened ⟨wim_X4_freshened, wse_X4_freshened⟩ hR rfl (sh_74 hW) rfl rfl rfl (Nat.le_of_ble_eq_true rfl) rfl ?_
  refine go_iload1 hc dX12_fit_7 ?_
  replace h := goBind h; obtain ⟨x13, e14, h⟩ := h
  refine go_callVi hc dX12_fit_8 (mX4_fitting hk hW e14) ml_RX12_239 yk_X4_fitting ⟨wim_X4_fitting, wse_X4_fitting⟩ hR rfl (sh_74 hW) rfl rfl rfl (Nat.le_of_ble_eq_true rfl) rfl ?_
  refine go_istore2 hc dX12_fit_11 ?_
  refine go_iload2 hc dX12_fit_12 ?_
  refine go_if_lt hc 24 dX12_fit_13 rfl (fun c15 => ?_) (fun c15 => ?_)
  · replace h := goIfF h c15
    refine go_aload0 hc dX12_fit_24 ?_
    refine go_iconst (v := 1) hc dX12_fit_25 rfl ?_
    replace h := goB2_h h; obtain ⟨x16, M17, e18, h⟩ := h
    refine go_callVi hc dX12_fit_26 (mX12_refuse hk hW e18) ml_RX12_66 yk_X12_refuse ⟨wim_X12_refuse, wse_X12_refuse⟩ hR rfl (sh_0 hW) rfl rfl rfl (Nat.le_of_ble_eq_true rfl) rfl ?_
    cases h
    exact go_iret hc dX12_fit_29 hr
  · replace h := goIfT h c15
    refine go_aload0 hc dX12_fit_16 ?_
    refine go_iload2 hc dX12_fit_17 ?_
    replace h := goB2_h h; obtain ⟨x19, M20, e21, h⟩ := h
    refine go_callVi hc dX12_fit_18 (mX12_answer hk hW e21) ml_RX12_88 yk_X12_answer ⟨wim_X12_answer, wse_X12_answer⟩ hR rfl (sh_0 hW) rfl rfl rfl (Nat.le_of_ble_eq_true rfl) rfl ?_
    refine go_goto hc 29 dX12_fit_21 rfl ?_
    cases h
    exact go_iret hc dX12_fit_29 hr
theorem dX12_could_0 : decode cX12_could 0 = .ok (.aload_n 0, 1) := by decide +kernel
theorem dX12_could_1 : decode cX12_could 1 = .ok (.iload_n 1, 1) := by decide +kernel
theorem dX12_could_2 : decode cX12_could 2 = .ok (.invokevirtual 178, 3) := by decide +kernel
theorem dX12_could_5 : decode cX12_could 5 = .ok (.ifCond .ne 9, 3) := by decide +kernel
theorem dX12_could_8 : decode cX12_could 8 = .ok (.aload_n 0, 1) := by decide +kernel
theorem dX12_could_9 : decode cX12_could 9 = .ok (.iconst 1, 1) := by decide +kernel
theorem dX12_could_10 : decode cX12_could 10 = .ok (.invokevirtual 66, 3) := by decide +kernel
theorem dX12_could_13 : decode cX12_could 13 = .ok (.ireturn, 1) := by decide +kernel
theorem dX12_could_14 : decode cX12_could 14 = .ok (.aload_n 0, 1) := by decide +kernel
theorem dX12_could_15 : decode cX12_could 15 = .ok (.iload_n 2, 1) := by decide +kernel
theorem dX12_could_16 : decode cX12_could 16 = .ok (.invokevirtual 184, 3) := by decide +kernel
theorem dX12_could_19 : decode cX12_could 19 = .ok (.ifCond .eq 22, 3) := by decide +kernel
theorem dX12_could_22 : decode cX12_could 22 = .ok (.aload_n 0, 1) := by decide +kernel
theorem dX12_could_23 : decode cX12_could 23 = .ok (.aload_n 0, 1) := by decide +kernel
theorem dX12_could_24 : decode cX12_could 24 = .ok (.getfield 47, 3) := by decide +kernel
theorem dX12_could_27 : decode cX12_could 27 = .ok (.invokevirtual 231, 3) := by decide +kernel
theorem dX12_could_30 : decode cX12_could 30 = .ok (.iload_n 1, 1) := by decide +kernel
theorem dX12_could_31 : decode cX12_could 31 = .ok (.iload_n 2, 1) := by decide +kernel
theorem dX12_could_32 : decode cX12_could 32 = .ok (.invokevirtual 242, 3) := by decide +kernel
theorem dX12_could_35 : decode cX12_could 35 = .ok (.invokevirtual 88, 3) := by decide +kernel
theorem dX12_could_38 : decode cX12_could 38 = .ok (.goto 8, 3) := by decide +kernel
theorem dX12_could_41 : decode cX12_could 41 = .ok (.aload_n 0, 1) := by decide +kernel
theorem dX12_could_42 : decode cX12_could 42 = .ok (.iconst 2, 1) := by decide +kernel
theorem dX12_could_43 : decode cX12_could 43 = .ok (.invokevirtual 66, 3) := by decide +kernel
theorem dX12_could_46 : decode cX12_could 46 = .ok (.ireturn, 1) := by decide +kernel
set_option maxRecDepth 100000 in
set_option maxHeartbeats 4000000 in
theorem mX12_could {E : goEv} {l : Launch} {G : goG} {N : Nat} {M : goMI} {L : goML} {R : goMR} {v1 : Int32} {v2 : Int32} {r0 : Int32} {r1 : goMI} (hk : goKn E) (hW : goW G R) (h : fX12_could N M R v1 v2 = some (r0, r1)) : Met l yX12_could (goCd yX12_could cX12_could 3 (Option.some FieldType.int)) (goRoom 6 148 0 0) (goPre E [.ref 0, .int v1, .int v2] G M L R) (goQi E r0 G r1 L R) 0 0 (goSet E) := by
  refine goMet pl_RX12 hk (lv := [some (.ref 0), some (.int v1), some (.int v2)]) rfl (Nat.le_of_ble_eq_true rfl) ?_
  intro X hc hl hR hr hnm
  subst hl
  unfold fX12_could at h
  refine go_aload0 hc dX12_could_0 ?_
  refine go_iload1 hc dX12_could_1 ?_
  refine go_callVi hc dX12_could_2 (mX12_isPerson hk hW rfl) ml_RX12_178 yk_X12_isPerson ⟨wim_X12_isPerson, wse_X12_isPerson⟩ hR rfl (sh_0 hW) rfl rfl rfl (Nat.le_of_ble_eq_true rfl) rfl ?_
  refine go_if_ne hc 14 dX12_could_5 rfl (fun c11 => ?_) (fun c11 => ?_)
  · replace h := goIfF h c11
    refine go_aload0 hc dX12_could_14 ?_
    refine go_iload2 hc dX12_could_15 ?_
    refine go_callVi hc dX12_could_16 (mX12_isHour hk hW rfl) ml_RX12_184 yk_X12_isHour ⟨wim_X12_isHour, wse_X12_isHour⟩ hR rfl (sh_0 hW) rfl rfl rfl (Nat.le_of_ble_eq_true rfl) rfl ?_
    refine go_if_eq hc 41 dX12_could_19 rfl (fun c12 => ?_) (fun c12 => ?_)
    · replace h := goIfT h c12
      refine go_aload0 hc dX12_could_41 ?_
      refine go_iconst (v := 2) hc dX12_could_42 rfl ?_
      replace h := goB2_h h; obtain ⟨x13, M14, e15, h⟩ := h
      refine go_callVi hc dX12_could_43 (mX12_refuse hk hW e15) ml_RX12_66 yk_X12_refuse ⟨wim_X12_refuse, wse_X12_refuse⟩ hR rfl (sh_0 hW) rfl rfl rfl (Nat.le_of_ble_eq_true rfl) rfl ?_
      cases h
      exact go_iret hc dX12_could_46 hr
    · replace h := goIfF h c12
      refine go_aload0 hc dX12_could_22 ?_
      refine go_aload0 hc dX12_could_23 ?_
      refine go_getR hc lk_RX12_47 dX12_could_24 (sh_0 hW) (rf_0_3 hW) ?_
      replace h := goBind h; obtain ⟨M16, e17, h⟩ := h
      refine go_callVr hc dX12_could_27 (mX4_freshened hk hW e17) ml_RX12_231 yk_X4_freshened ⟨wim_X4_freshened, wse_X4_freshened⟩ hR rfl (sh_74 hW) rfl rfl rfl (Nat.le_of_ble_eq_true rfl) rfl ?_
      refine go_iload1 hc dX12_could_30 ?_
      refine go_iload2 hc dX12_could_31 ?_
      replace h := goBind h; obtain ⟨x18, e19, h⟩ := h
      refine go_callVi hc dX12_could_32 (mX4_somewhere hk hW e19) ml_RX12_242 yk_X4_somewhere ⟨wim_X4_somewhere, wse_X4_somewhere⟩ hR rfl (sh_74 hW) rfl rfl rfl (Nat.le_of_ble_eq_true rfl) rfl ?_
      replace h := goB2_h h; obtain ⟨x20, M21, e22, h⟩ := h
      refine go_callVi hc dX12_could_35 (mX12_answer hk hW e22) ml_RX12_88 yk_X12_answer ⟨wim_X12_answer, wse_X12_answer⟩ hR rfl (sh_0 hW) rfl rfl rfl (Nat.le_of_ble_eq_true rfl) rfl ?_
      refine go_goto hc 46 dX12_could_38 rfl ?_
      cases h
      exact go_iret hc dX12_could_46 hr
  · replace h := goIfT h c11
    refine go_aload0 hc dX12_could_8 ?_
    refine go_iconst (v := 1) hc dX12_could_9 rfl ?_
    replace h := goB2_h h; obtain ⟨x23, M24, e25, h⟩ := h
    refine go_callVi hc dX12_could_10 (mX12_refuse hk hW e25) ml_RX12_66 yk_X12_refuse ⟨wim_X12_refuse, wse_X12_refuse⟩ hR rfl (sh_0 hW) rfl rfl rfl (Nat.le_of_ble_eq_true rfl) rfl ?_
    cases h
    exact go_iret hc dX12_could_13 hr
theorem dX12_surely_0 : decode cX12_surely 0 = .ok (.aload_n 0, 1) := by decide +kernel
theorem dX12_surely_1 : decode cX12_surely 1 = .ok (.iload_n 1, 1) := by decide +kernel
theorem dX12_surely_2 : decode cX12_surely 2 = .ok (.invokevirtual 178, 3) := by decide +kernel
theorem dX12_surely_5 : decode cX12_surely 5 = .ok (.ifCond .ne 9, 3) := by decide +kernel
theorem dX12_surely_8 : decode cX12_surely 8 = .ok (.aload_n 0, 1) := by decide +kernel
theorem dX12_surely_9 : decode cX12_surely 9 = .ok (.iconst 1, 1) := by decide +kernel
theorem dX12_surely_10 : decode cX12_surely 10 = .ok (.invokevirtual 66, 3) := by decide +kernel
theorem dX12_surely_13 : decode cX12_surely 13 = .ok (.ireturn, 1) := by decide +kernel
theorem dX12_surely_14 : decode cX12_surely 14 = .ok (.aload_n 0, 1) := by decide +kernel
theorem dX12_surely_15 : decode cX12_surely 15 = .ok (.iload_n 2, 1) := by decide +kernel
theorem dX12_surely_16 : decode cX12_surely 16 = .ok (.invokevirtual 184, 3) := by decide +kernel
theorem dX12_surely_19 : decode cX12_surely 19 = .ok (.ifCond .eq 22, 3) := by decide +kernel
theorem dX12_surely_22 : decode cX12_surely 22 = .ok (.aload_n 0, 1) := by decide +kernel
theorem dX12_surely_23 : decode cX12_surely 23 = .ok (.aload_n 0, 1) := by decide +kernel
theorem dX12_surely_24 : decode cX12_surely 24 = .ok (.getfield 47, 3) := by decide +kernel
theorem dX12_surely_27 : decode cX12_surely 27 = .ok (.invokevirtual 231, 3) := by decide +kernel
theorem dX12_surely_30 : decode cX12_surely 30 = .ok (.iload_n 1, 1) := by decide +kernel
theorem dX12_surely_31 : decode cX12_surely 31 = .ok (.iload_n 2, 1) := by decide +kernel
theorem dX12_surely_32 : decode cX12_surely 32 = .ok (.invokevirtual 245, 3) := by decide +kernel
theorem dX12_surely_35 : decode cX12_surely 35 = .ok (.invokevirtual 88, 3) := by decide +kernel
theorem dX12_surely_38 : decode cX12_surely 38 = .ok (.goto 8, 3) := by decide +kernel
theorem dX12_surely_41 : decode cX12_surely 41 = .ok (.aload_n 0, 1) := by decide +kernel
theorem dX12_surely_42 : decode cX12_surely 42 = .ok (.iconst 2, 1) := by decide +kernel
theorem dX12_surely_43 : decode cX12_surely 43 = .ok (.invokevirtual 66, 3) := by decide +kernel
theorem dX12_surely_46 : decode cX12_surely 46 = .ok (.ireturn, 1) := by decide +kernel
set_option maxRecDepth 100000 in
set_option maxHeartbeats 4000000 in
theorem mX12_surely {E : goEv} {l : Launch} {G : goG} {N : Nat} {M : goMI} {L : goML} {R : goMR} {v1 : Int32} {v2 : Int32} {r0 : Int32} {r1 : goMI} (hk : goKn E) (hW : goW G R) (h : fX12_surely N M R v1 v2 = some (r0, r1)) : Met l yX12_surely (goCd yX12_surely cX12_surely 3 (Option.some FieldType.int)) (goRoom 6 148 0 0) (goPre E [.ref 0, .int v1, .int v2] G M L R) (goQi E r0 G r1 L R) 0 0 (goSet E) := by
  refine goMet pl_RX12 hk (lv := [some (.ref 0), some (.int v1), some (.int v2)]) rfl (Nat.le_of_ble_eq_true rfl) ?_
  intro X hc hl hR hr hnm
  subst hl
  unfold fX12_surely at h
  refine go_aload0 hc dX12_surely_0 ?_
  refine go_iload1 hc dX12_surely_1 ?_
  refine go_callVi hc dX12_surely_2 (mX12_isPerson hk hW rfl) ml_RX12_178 yk_X12_isPerson ⟨wim_X12_isPerson, wse_X12_isPerson⟩ hR rfl (sh_0 hW) rfl rfl rfl (Nat.le_of_ble_eq_true rfl) rfl ?_
  refine go_if_ne hc 14 dX12_surely_5 rfl (fun c11 => ?_) (fun c11 => ?_)
  · replace h := goIfF h c11
    refine go_aload0 hc dX12_surely_14 ?_
    refine go_iload2 hc dX12_surely_15 ?_
    refine go_callVi hc dX12_surely_16 (mX12_isHour hk hW rfl) ml_RX12_184 yk_X12_isHour ⟨wim_X12_isHour, wse_X12_isHour⟩ hR rfl (sh_0 hW) rfl rfl rfl (Nat.le_of_ble_eq_true rfl) rfl ?_
    refine go_if_eq hc 41 dX12_surely_19 rfl (fun c12 => ?_) (fun c12 => ?_)
    · replace h := goIfT h c12
      refine go_aload0 hc dX12_surely_41 ?_
      refine go_iconst (v := 2) hc dX12_surely_42 rfl ?_
      replace h := goB2_h h; obtain ⟨x13, M14, e15, h⟩ := h
      refine go_callVi hc dX12_surely_43 (mX12_refuse hk hW e15) ml_RX12_66 yk_X12_refuse ⟨wim_X12_refuse, wse_X12_refuse⟩ hR rfl (sh_0 hW) rfl rfl rfl (Nat.le_of_ble_eq_true rfl) rfl ?_
      cases h
      exact go_iret hc dX12_surely_46 hr
    · replace h := goIfF h c12
      refine go_aload0 hc dX12_surely_22 ?_
      refine go_aload0 hc dX12_surely_23 ?_
      refine go_getR hc lk_RX12_47 dX12_surely_24 (sh_0 hW) (rf_0_3 hW) ?_
      replace h := goBind h; obtain ⟨M16, e17, h⟩ := h
      refine go_callVr hc dX12_surely_27 (mX4_freshened hk hW e17) ml_RX12_231 yk_X4_freshened ⟨wim_X4_freshened, wse_X4_freshened⟩ hR rfl (sh_74 hW) rfl rfl rfl (Nat.le_of_ble_eq_true rfl) rfl ?_
      refine go_iload1 hc dX12_surely_30 ?_
      refine go_iload2 hc dX12_surely_31 ?_
      replace h := goBind h; obtain ⟨x18, e19, h⟩ := h
      refine go_callVi hc dX12_surely_32 (mX4_everywhere hk hW e19) ml_RX12_245 yk_X4_everywhere ⟨wim_X4_everywhere, wse_X4_everywhere⟩ hR rfl (sh_74 hW) rfl rfl rfl (Nat.le_of_ble_eq_true rfl) rfl ?_
      replace h := goB2_h h; obtain ⟨x20, M21, e22, h⟩ := h
      refine go_callVi hc dX12_surely_35 (mX12_answer hk hW e22) ml_RX12_88 yk_X12_answer ⟨wim_X12_answer, wse_X12_answer⟩ hR rfl (sh_0 hW) rfl rfl rfl (Nat.le_of_ble_eq_true rfl) rfl ?_
      refine go_goto hc 46 dX12_surely_38 rfl ?_
      cases h
      exact go_iret hc dX12_surely_46 hr
  · replace h := goIfT h c11
    refine go_aload0 hc dX12_surely_8 ?_
    refine go_iconst (v := 1) hc dX12_surely_9 rfl ?_
    replace h := goB2_h h; obtain ⟨x23, M24, e25, h⟩ := h
    refine go_callVi hc dX12_surely_10 (mX12_refuse hk hW e25) ml_RX12_66 yk_X12_refuse ⟨wim_X12_refuse, wse_X12_refuse⟩ hR rfl (sh_0 hW) rfl rfl rfl (Nat.le_of_ble_eq_true rfl) rfl ?_
    cases h
    exact go_iret hc dX12_surely_13 hr
theorem dX12_lies_0 : decode cX12_lies 0 = .ok (.aload_n 0, 1) := by decide +kernel
theorem dX12_lies_1 : decode cX12_lies 1 = .ok (.iload_n 1, 1) := by decide +kernel
theorem dX12_lies_2 : decode cX12_lies 2 = .ok (.invokevirtual 178, 3) := by decide +kernel
theorem dX12_lies_5 : decode cX12_lies 5 = .ok (.ifCond .eq 21, 3) := by decide +kernel
theorem dX12_lies_8 : decode cX12_lies 8 = .ok (.aload_n 0, 1) := by decide +kernel
theorem dX12_lies_9 : decode cX12_lies 9 = .ok (.aload_n 0, 1) := by decide +kernel
theorem dX12_lies_10 : decode cX12_lies 10 = .ok (.getfield 47, 3) := by decide +kernel
theorem dX12_lies_13 : decode cX12_lies 13 = .ok (.invokevirtual 231, 3) := by decide +kernel
theorem dX12_lies_16 : decode cX12_lies 16 = .ok (.iload_n 1, 1) := by decide +kernel
theorem dX12_lies_17 : decode cX12_lies 17 = .ok (.invokevirtual 248, 3) := by decide +kernel
theorem dX12_lies_20 : decode cX12_lies 20 = .ok (.invokevirtual 88, 3) := by decide +kernel
theorem dX12_lies_23 : decode cX12_lies 23 = .ok (.goto 8, 3) := by decide +kernel
theorem dX12_lies_26 : decode cX12_lies 26 = .ok (.aload_n 0, 1) := by decide +kernel
theorem dX12_lies_27 : decode cX12_lies 27 = .ok (.iconst 1, 1) := by decide +kernel
theorem dX12_lies_28 : decode cX12_lies 28 = .ok (.invokevirtual 66, 3) := by decide +kernel
theorem dX12_lies_31 : decode cX12_lies 31 = .ok (.ireturn, 1) := by decide +kernel
set_option maxRecDepth 100000 in
set_option maxHeartbeats 4000000 in
theorem mX12_lies {E : goEv} {l : Launch} {G : goG} {N : Nat} {M : goMI} {L : goML} {R : goMR} {v1 : Int32} {r0 : Int32} {r1 : goMI} (hk : goKn E) (hW : goW G R) (h : fX12_lies N M R v1 = some (r0, r1)) : Met l yX12_lies (goCd yX12_lies cX12_lies 2 (Option.some FieldType.int)) (goRoom 6 148 0 0) (goPre E [.ref 0, .int v1] G M L R) (goQi E r0 G r1 L R) 0 0 (goSet E) := by
  refine goMet pl_RX12 hk (lv := [some (.ref 0), some (.int v1)]) rfl (Nat.le_of_ble_eq_true rfl) ?_
  intro X hc hl hR hr hnm
  subst hl
  unfold fX12_lies at h
  refine go_aload0 hc dX12_lies_0 ?_
  refine go_iload1 hc dX12_lies_1 ?_
  refine go_callVi hc dX12_lies_2 (mX12_isPerson hk hW rfl) ml_RX12_178 yk_X12_isPerson ⟨wim_X12_isPerson, wse_X12_isPerson⟩ hR rfl (sh_0 hW) rfl rfl rfl (Nat.le_of_ble_eq_true rfl) rfl ?_
  refine go_if_eq hc 26 dX12_lies_5 rfl (fun c11 => ?_) (fun c11 => ?_)
  · replace h := goIfT h c11
    refine go_aload0 hc dX12_lies_26 ?_
    refine go_iconst (v := 1) hc dX12_lies_27 rfl ?_
    replace h := goB2_h h; obtain ⟨x12, M13, e14, h⟩ := h
    refine go_callVi hc dX12_lies_28 (mX12_refuse hk hW e14) ml_RX12_66 yk_X12_refuse ⟨wim_X12_refuse, wse_X12_refuse⟩ hR rfl (sh_0 hW) rfl rfl rfl (Nat.le_of_ble_eq_true rfl) rfl ?_
    cases h
    exact go_iret hc dX12_lies_31 hr
  · replace h := goIfF h c11
    refine go_aload0 hc dX12_lies_8 ?_
    refine go_aload0 hc dX12_lies_9 ?_
    refine go_getR hc lk_RX12_47 dX12_lies_10 (sh_0 hW) (rf_0_3 hW) ?_
    replace h := goBind h; obtain ⟨M15, e16, h⟩ := h
    refine go_callVr hc dX12_lies_13 (mX4_freshened hk hW e16) ml_RX12_231 yk_X4_freshened ⟨wim_X4_freshened, wse_X4_freshened⟩ hR rfl (sh_74 hW) rfl rfl rfl (Nat.le_of_ble_eq_true rfl) rfl ?_
    refine go_iload1 hc dX12_lies_16 ?_
    replace h := goBind h; obtain ⟨x17, e18, h⟩ := h
    refine go_callVi hc dX12_lies_17 (mX4_untold hk hW e18) ml_RX12_248 yk_X4_untold ⟨wim_X4_untold, wse_X4_untold⟩ hR rfl (sh_74 hW) rfl rfl rfl (Nat.le_of_ble_eq_true rfl) rfl ?_
    replace h := goB2_h h; obtain ⟨x19, M20, e21, h⟩ := h
    refine go_callVi hc dX12_lies_20 (mX12_answer hk hW e21) ml_RX12_88 yk_X12_answer ⟨wim_X12_answer, wse_X12_answer⟩ hR rfl (sh_0 hW) rfl rfl rfl (Nat.le_of_ble_eq_true rfl) rfl ?_
    refine go_goto hc 31 dX12_lies_23 rfl ?_
    cases h
    exact go_iret hc dX12_lies_31 hr
theorem dX12_falseOnes_0 : decode cX12_falseOnes 0 = .ok (.aload_n 0, 1) := by decide +kernel
theorem dX12_falseOnes_1 : decode cX12_falseOnes 1 = .ok (.invokevirtual 227, 3) := by decide +kernel
theorem dX12_falseOnes_4 : decode cX12_falseOnes 4 = .ok (.ifCond .eq 20, 3) := by decide +kernel
theorem dX12_falseOnes_7 : decode cX12_falseOnes 7 = .ok (.aload_n 0, 1) := by decide +kernel
theorem dX12_falseOnes_8 : decode cX12_falseOnes 8 = .ok (.aload_n 0, 1) := by decide +kernel
theorem dX12_falseOnes_9 : decode cX12_falseOnes 9 = .ok (.getfield 47, 3) := by decide +kernel
theorem dX12_falseOnes_12 : decode cX12_falseOnes 12 = .ok (.invokevirtual 231, 3) := by decide +kernel
theorem dX12_falseOnes_15 : decode cX12_falseOnes 15 = .ok (.invokevirtual 251, 3) := by decide +kernel
theorem dX12_falseOnes_18 : decode cX12_falseOnes 18 = .ok (.invokevirtual 88, 3) := by decide +kernel
theorem dX12_falseOnes_21 : decode cX12_falseOnes 21 = .ok (.goto 8, 3) := by decide +kernel
theorem dX12_falseOnes_24 : decode cX12_falseOnes 24 = .ok (.aload_n 0, 1) := by decide +kernel
theorem dX12_falseOnes_25 : decode cX12_falseOnes 25 = .ok (.iconst 1, 1) := by decide +kernel
theorem dX12_falseOnes_26 : decode cX12_falseOnes 26 = .ok (.invokevirtual 66, 3) := by decide +kernel
theorem dX12_falseOnes_29 : decode cX12_falseOnes 29 = .ok (.ireturn, 1) := by decide +kernel
set_option maxRecDepth 100000 in
set_option maxHeartbeats 4000000 in
theorem mX12_falseOnes {E : goEv} {l : Launch} {G : goG} {N : Nat} {M : goMI} {L : goML} {R : goMR} {r0 : Int32} {r1 : goMI} (hk : goKn E) (hW : goW G R) (h : fX12_falseOnes N M R = some (r0, r1)) : Met l yX12_falseOnes (goCd yX12_falseOnes cX12_falseOnes 1 (Option.some FieldType.int)) (goRoom 6 148 0 0) (goPre E [.ref 0] G M L R) (goQi E r0 G r1 L R) 0 0 (goSet E) := by
  refine goMet pl_RX12 hk (lv := [some (.ref 0)]) rfl (Nat.le_of_ble_eq_true rfl) ?_
  intro X hc hl hR hr hnm
  subst hl
  unfold fX12_falseOnes at h
  refine go_aload0 hc dX12_falseOnes_0 ?_
  refine go_callVi hc dX12_falseOnes_1 (mX12_isHill hk hW rfl) ml_RX12_227 yk_X12_isHill ⟨wim_X12_isHill, wse_X12_isHill⟩ hR rfl (sh_0 hW) rfl rfl rfl (Nat.le_of_ble_eq_true rfl) rfl ?_
  refine go_if_eq hc 24 dX12_falseOnes_4 rfl (fun c11 => ?_) (fun c11 => ?_)
  · replace h := goIfT h c11
    refine go_aload0 hc dX12_falseOnes_24 ?_
    refine go_iconst (v := 1) hc dX12_falseOnes_25 rfl ?_
    replace h := goB2_h h; obtain ⟨x12, M13, e14, h⟩ := h
    refine go_callVi hc dX12_falseOnes_26 (mX12_refuse hk hW e14) ml_RX12_66 yk_X12_refuse ⟨wim_X12_refuse, wse_X12_refuse⟩ hR rfl (sh_0 hW) rfl rfl rfl (Nat.le_of_ble_eq_true rfl) rfl ?_
    cases h
    exact go_iret hc dX12_falseOnes_29 hr
  · replace h := goIfF h c11
    refine go_aload0 hc dX12_falseOnes_7 ?_
    refine go_aload0 hc dX12_falseOnes_8 ?_
    refine go_getR hc lk_RX12_47 dX12_falseOnes_9 (sh_0 hW) (rf_0_3 hW) ?_
    replace h := goBind h; obtain ⟨M15, e16, h⟩ := h
    refine go_callVr hc dX12_falseOnes_12 (mX4_freshened hk hW e16) ml_RX12_231 yk_X4_freshened ⟨wim_X4_freshened, wse_X4_freshened⟩ hR rfl (sh_74 hW) rfl rfl rfl (Nat.le_of_ble_eq_true rfl) rfl ?_
    replace h := goBind h; obtain ⟨x17, e18, h⟩ := h
    refine go_callVi hc dX12_falseOnes_15 (mX4_fewestFalse hk hW e18) ml_RX12_251 yk_X4_fewestFalse ⟨wim_X4_fewestFalse, wse_X4_fewestFalse⟩ hR rfl (sh_74 hW) rfl rfl rfl (Nat.le_of_ble_eq_true rfl) rfl ?_
    replace h := goB2_h h; obtain ⟨x19, M20, e21, h⟩ := h
    refine go_callVi hc dX12_falseOnes_18 (mX12_answer hk hW e21) ml_RX12_88 yk_X12_answer ⟨wim_X12_answer, wse_X12_answer⟩ hR rfl (sh_0 hW) rfl rfl rfl (Nat.le_of_ble_eq_true rfl) rfl ?_
    refine go_goto hc 29 dX12_falseOnes_21 rfl ?_
    cases h
    exact go_iret hc dX12_falseOnes_29 hr
theorem dX12_odds_0 : decode cX12_odds 0 = .ok (.aload_n 0, 1) := by decide +kernel
theorem dX12_odds_1 : decode cX12_odds 1 = .ok (.iload_n 1, 1) := by decide +kernel
theorem dX12_odds_2 : decode cX12_odds 2 = .ok (.invokevirtual 191, 3) := by decide +kernel
theorem dX12_odds_5 : decode cX12_odds 5 = .ok (.ifCond .eq 21, 3) := by decide +kernel
theorem dX12_odds_8 : decode cX12_odds 8 = .ok (.aload_n 0, 1) := by decide +kernel
theorem dX12_odds_9 : decode cX12_odds 9 = .ok (.aload_n 0, 1) := by decide +kernel
theorem dX12_odds_10 : decode cX12_odds 10 = .ok (.getfield 47, 3) := by decide +kernel
theorem dX12_odds_13 : decode cX12_odds 13 = .ok (.invokevirtual 231, 3) := by decide +kernel
theorem dX12_odds_16 : decode cX12_odds 16 = .ok (.iload_n 1, 1) := by decide +kernel
theorem dX12_odds_17 : decode cX12_odds 17 = .ok (.invokevirtual 254, 3) := by decide +kernel
theorem dX12_odds_20 : decode cX12_odds 20 = .ok (.invokevirtual 88, 3) := by decide +kernel
theorem dX12_odds_23 : decode cX12_odds 23 = .ok (.goto 8, 3) := by decide +kernel
theorem dX12_odds_26 : decode cX12_odds 26 = .ok (.aload_n 0, 1) := by decide +kernel
theorem dX12_odds_27 : decode cX12_odds 27 = .ok (.iconst 1, 1) := by decide +kernel
theorem dX12_odds_28 : decode cX12_odds 28 = .ok (.invokevirtual 66, 3) := by decide +kernel
theorem dX12_odds_31 : decode cX12_odds 31 = .ok (.ireturn, 1) := by decide +kernel
set_option maxRecDepth 100000 in
set_option maxHeartbeats 4000000 in
theorem mX12_odds {E : goEv} {l : Launch} {G : goG} {N : Nat} {M : goMI} {L : goML} {R : goMR} {v1 : Int32} {r0 : Int32} {r1 : goMI} (hk : goKn E) (hW : goW G R) (h : fX12_odds N M R v1 = some (r0, r1)) : Met l yX12_odds (goCd yX12_odds cX12_odds 2 (Option.some FieldType.int)) (goRoom 6 148 0 0) (goPre E [.ref 0, .int v1] G M L R) (goQi E r0 G r1 L R) 0 0 (goSet E) := by
  refine goMet pl_RX12 hk (lv := [some (.ref 0), some (.int v1)]) rfl (Nat.le_of_ble_eq_true rfl) ?_
  intro X hc hl hR hr hnm
  subst hl
  unfold fX12_odds at h
  refine go_aload0 hc dX12_odds_0 ?_
  refine go_iload1 hc dX12_odds_1 ?_
  refine go_callVi hc dX12_odds_2 (mX12_isCase hk hW rfl) ml_RX12_191 yk_X12_isCase ⟨wim_X12_isCase, wse_X12_isCase⟩ hR rfl (sh_0 hW) rfl rfl rfl (Nat.le_of_ble_eq_true rfl) rfl ?_
  refine go_if_eq hc 26 dX12_odds_5 rfl (fun c11 => ?_) (fun c11 => ?_)
  · replace h := goIfT h c11
    refine go_aload0 hc dX12_odds_26 ?_
    refine go_iconst (v := 1) hc dX12_odds_27 rfl ?_
    replace h := goB2_h h; obtain ⟨x12, M13, e14, h⟩ := h
    refine go_callVi hc dX12_odds_28 (mX12_refuse hk hW e14) ml_RX12_66 yk_X12_refuse ⟨wim_X12_refuse, wse_X12_refuse⟩ hR rfl (sh_0 hW) rfl rfl rfl (Nat.le_of_ble_eq_true rfl) rfl ?_
    cases h
    exact go_iret hc dX12_odds_31 hr
  · replace h := goIfF h c11
    refine go_aload0 hc dX12_odds_8 ?_
    refine go_aload0 hc dX12_odds_9 ?_
    refine go_getR hc lk_RX12_47 dX12_odds_10 (sh_0 hW) (rf_0_3 hW) ?_
    replace h := goBind h; obtain ⟨M15, e16, h⟩ := h
    refine go_callVr hc dX12_odds_13 (mX4_freshened hk hW e16) ml_RX12_231 yk_X4_freshened ⟨wim_X4_freshened, wse_X4_freshened⟩ hR rfl (sh_74 hW) rfl rfl rfl (Nat.le_of_ble_eq_true rfl) rfl ?_
    refine go_iload1 hc dX12_odds_16 ?_
    replace h := goBind h; obtain ⟨x17, e18, h⟩ := h
    refine go_callVi hc dX12_odds_17 (mX4_oddsOf hk hW e18) ml_RX12_254 yk_X4_oddsOf ⟨wim_X4_oddsOf, wse_X4_oddsOf⟩ hR rfl (sh_74 hW) rfl rfl rfl (Nat.le_of_ble_eq_true rfl) rfl ?_
    replace h := goB2_h h; obtain ⟨x19, M20, e21, h⟩ := h
    refine go_callVi hc dX12_odds_20 (mX12_answer hk hW e21) ml_RX12_88 yk_X12_answer ⟨wim_X12_answer, wse_X12_answer⟩ hR rfl (sh_0 hW) rfl rfl rfl (Nat.le_of_ble_eq_true rfl) rfl ?_
    refine go_goto hc 31 dX12_odds_23 rfl ?_
    cases h
    exact go_iret hc dX12_odds_31 hr
theorem dX12_likeliest_0 : decode cX12_likeliest 0 = .ok (.aload_n 0, 1) := by decide +kernel
theorem dX12_likeliest_1 : decode cX12_likeliest 1 = .ok (.invokevirtual 227, 3) := by decide +kernel
theorem dX12_likeliest_4 : decode cX12_likeliest 4 = .ok (.ifCond .eq 20, 3) := by decide +kernel
theorem dX12_likeliest_7 : decode cX12_likeliest 7 = .ok (.aload_n 0, 1) := by decide +kernel
theorem dX12_likeliest_8 : decode cX12_likeliest 8 = .ok (.aload_n 0, 1) := by decide +kernel
theorem dX12_likeliest_9 : decode cX12_likeliest 9 = .ok (.getfield 47, 3) := by decide +kernel
theorem dX12_likeliest_12 : decode cX12_likeliest 12 = .ok (.invokevirtual 231, 3) := by decide +kernel
theorem dX12_likeliest_15 : decode cX12_likeliest 15 = .ok (.invokevirtual 257, 3) := by decide +kernel
theorem dX12_likeliest_18 : decode cX12_likeliest 18 = .ok (.invokevirtual 88, 3) := by decide +kernel
theorem dX12_likeliest_21 : decode cX12_likeliest 21 = .ok (.goto 8, 3) := by decide +kernel
theorem dX12_likeliest_24 : decode cX12_likeliest 24 = .ok (.aload_n 0, 1) := by decide +kernel
theorem dX12_likeliest_25 : decode cX12_likeliest 25 = .ok (.iconst 1, 1) := by decide +kernel
theorem dX12_likeliest_26 : decode cX12_likeliest 26 = .ok (.invokevirtual 66, 3) := by decide +kernel
theorem dX12_likeliest_29 : decode cX12_likeliest 29 = .ok (.ireturn, 1) := by decide +kernel
set_option maxRecDepth 100000 in
set_option maxHeartbeats 4000000 in
theorem mX12_likeliest {E : goEv} {l : Launch} {G : goG} {N : Nat} {M : goMI} {L : goML} {R : goMR} {r0 : Int32} {r1 : goMI} (hk : goKn E) (hW : goW G R) (h : fX12_likeliest N M R = some (r0, r1)) : Met l yX12_likeliest (goCd yX12_likeliest cX12_likeliest 1 (Option.some FieldType.int)) (goRoom 6 148 0 0) (goPre E [.ref 0] G M L R) (goQi E r0 G r1 L R) 0 0 (goSet E) := by
  refine goMet pl_RX12 hk (lv := [some (.ref 0)]) rfl (Nat.le_of_ble_eq_true rfl) ?_
  intro X hc hl hR hr hnm
  subst hl
  unfold fX12_likeliest at h
  refine go_aload0 hc dX12_likeliest_0 ?_
  refine go_callVi hc dX12_likeliest_1 (mX12_isHill hk hW rfl) ml_RX12_227 yk_X12_isHill ⟨wim_X12_isHill, wse_X12_isHill⟩ hR rfl (sh_0 hW) rfl rfl rfl (Nat.le_of_ble_eq_true rfl) rfl ?_
  refine go_if_eq hc 24 dX12_likeliest_4 rfl (fun c11 => ?_) (fun c11 => ?_)
  · replace h := goIfT h c11
    refine go_aload0 hc dX12_likeliest_24 ?_
    refine go_iconst (v := 1) hc dX12_likeliest_25 rfl ?_
    replace h := goB2_h h; obtain ⟨x12, M13, e14, h⟩ := h
    refine go_callVi hc dX12_likeliest_26 (mX12_refuse hk hW e14) ml_RX12_66 yk_X12_refuse ⟨wim_X12_refuse, wse_X12_refuse⟩ hR rfl (sh_0 hW) rfl rfl rfl (Nat.le_of_ble_eq_true rfl) rfl ?_
    cases h
    exact go_iret hc dX12_likeliest_29 hr
  · replace h := goIfF h c11
    refine go_aload0 hc dX12_likeliest_7 ?_
    refine go_aload0 hc dX12_likeliest_8 ?_
    refine go_getR hc lk_RX12_47 dX12_likeliest_9 (sh_0 hW) (rf_0_3 hW) ?_
    replace h := goBind h; obtain ⟨M15, e16, h⟩ := h
    refine go_callVr hc dX12_likeliest_12 (mX4_freshened hk hW e16) ml_RX12_231 yk_X4_freshened ⟨wim_X4_freshened, wse_X4_freshened⟩ hR rfl (sh_74 hW) rfl rfl rfl (Nat.le_of_ble_eq_true rfl) rfl ?_
    replace h := goBind h; obtain ⟨x17, e18, h⟩ := h
    refine go_callVi hc dX12_likeliest_15 (mX4_greatestOdds hk hW e18) ml_RX12_257 yk_X4_greatestOdds ⟨wim_X4_greatestOdds, wse_X4_greatestOdds⟩ hR rfl (sh_74 hW) rfl rfl rfl (Nat.le_of_ble_eq_true rfl) rfl ?_
    replace h := goB2_h h; obtain ⟨x19, M20, e21, h⟩ := h
    refine go_callVi hc dX12_likeliest_18 (mX12_answer hk hW e21) ml_RX12_88 yk_X12_answer ⟨wim_X12_answer, wse_X12_answer⟩ hR rfl (sh_0 hW) rfl rfl rfl (Nat.le_of_ble_eq_true rfl) rfl ?_
    refine go_goto hc 29 dX12_likeliest_21 rfl ?_
    cases h
    exact go_iret hc dX12_likeliest_29 hr
theorem dX12_proved_0 : decode cX12_proved 0 = .ok (.aload_n 0, 1) := by decide +kernel
theorem dX12_proved_1 : decode cX12_proved 1 = .ok (.iload_n 1, 1) := by decide +kernel
theorem dX12_proved_2 : decode cX12_proved 2 = .ok (.invokevirtual 178, 3) := by decide +kernel
theorem dX12_proved_5 : decode cX12_proved 5 = .ok (.ifCond .eq 11, 3) := by decide +kernel
theorem dX12_proved_8 : decode cX12_proved 8 = .ok (.aload_n 0, 1) := by decide +kernel
theorem dX12_proved_9 : decode cX12_proved 9 = .ok (.iload_n 2, 1) := by decide +kernel
theorem dX12_proved_10 : decode cX12_proved 10 = .ok (.invokevirtual 97, 3) := by decide +kernel
theorem dX12_proved_13 : decode cX12_proved 13 = .ok (.ifCond .ne 9, 3) := by decide +kernel
theorem dX12_proved_16 : decode cX12_proved 16 = .ok (.aload_n 0, 1) := by decide +kernel
theorem dX12_proved_17 : decode cX12_proved 17 = .ok (.iconst 1, 1) := by decide +kernel
theorem dX12_proved_18 : decode cX12_proved 18 = .ok (.invokevirtual 66, 3) := by decide +kernel
theorem dX12_proved_21 : decode cX12_proved 21 = .ok (.ireturn, 1) := by decide +kernel
theorem dX12_proved_22 : decode cX12_proved 22 = .ok (.aload_n 0, 1) := by decide +kernel
theorem dX12_proved_23 : decode cX12_proved 23 = .ok (.iload_n 3, 1) := by decide +kernel
theorem dX12_proved_24 : decode cX12_proved 24 = .ok (.invokevirtual 184, 3) := by decide +kernel
theorem dX12_proved_27 : decode cX12_proved 27 = .ok (.ifCond .eq 23, 3) := by decide +kernel
theorem dX12_proved_30 : decode cX12_proved 30 = .ok (.aload_n 0, 1) := by decide +kernel
theorem dX12_proved_31 : decode cX12_proved 31 = .ok (.aload_n 0, 1) := by decide +kernel
theorem dX12_proved_32 : decode cX12_proved 32 = .ok (.getfield 47, 3) := by decide +kernel
theorem dX12_proved_35 : decode cX12_proved 35 = .ok (.invokevirtual 231, 3) := by decide +kernel
theorem dX12_proved_38 : decode cX12_proved 38 = .ok (.iload_n 1, 1) := by decide +kernel
theorem dX12_proved_39 : decode cX12_proved 39 = .ok (.iload_n 2, 1) := by decide +kernel
theorem dX12_proved_40 : decode cX12_proved 40 = .ok (.iload_n 3, 1) := by decide +kernel
theorem dX12_proved_41 : decode cX12_proved 41 = .ok (.invokevirtual 260, 3) := by decide +kernel
theorem dX12_proved_44 : decode cX12_proved 44 = .ok (.invokevirtual 88, 3) := by decide +kernel
theorem dX12_proved_47 : decode cX12_proved 47 = .ok (.goto 8, 3) := by decide +kernel
theorem dX12_proved_50 : decode cX12_proved 50 = .ok (.aload_n 0, 1) := by decide +kernel
theorem dX12_proved_51 : decode cX12_proved 51 = .ok (.iconst 2, 1) := by decide +kernel
theorem dX12_proved_52 : decode cX12_proved 52 = .ok (.invokevirtual 66, 3) := by decide +kernel
theorem dX12_proved_55 : decode cX12_proved 55 = .ok (.ireturn, 1) := by decide +kernel
set_option maxRecDepth 100000 in
set_option maxHeartbeats 4000000 in
theorem mX12_proved {E : goEv} {l : Launch} {G : goG} {N : Nat} {M : goMI} {L : goML} {R : goMR} {v1 : Int32} {v2 : Int32} {v3 : Int32} {r0 : Int32} {r1 : goMI} (hk : goKn E) (hW : goW G R) (h : fX12_proved N M R v1 v2 v3 = some (r0, r1)) : Met l yX12_proved (goCd yX12_proved cX12_proved 4 (Option.some FieldType.int)) (goRoom 6 148 0 0) (goPre E [.ref 0, .int v1, .int v2, .int v3] G M L R) (goQi E r0 G r1 L R) 0 0 (goSet E) := by
  refine goMet pl_RX12 hk (lv := [some (.ref 0), some (.int v1), some (.int v2), some (.int v3)]) rfl (Nat.le_of_ble_eq_true rfl) ?_
  intro X hc hl hR hr hnm
  subst hl
  unfold fX12_proved at h
  refine go_aload0 hc dX12_proved_0 ?_
  refine go_iload1 hc dX12_proved_1 ?_
  refine go_callVi hc dX12_proved_2 (mX12_isPerson hk hW rfl) ml_RX12_178 yk_X12_isPerson ⟨wim_X12_isPerson, wse_X12_isPerson⟩ hR rfl (sh_0 hW) rfl rfl rfl (Nat.le_of_ble_eq_true rfl) rfl ?_
  refine go_if_eq hc 16 dX12_proved_5 rfl (fun c11 => ?_) (fun c11 => ?_)
  · replace h := goIfT h c11
    refine go_aload0 hc dX12_proved_16 ?_
    refine go_iconst (v := 1) hc dX12_proved_17 rfl ?_
    replace h := goB2_h h; obtain ⟨x12, M13, e14, h⟩ := h
    refine go_callVi hc dX12_proved_18 (mX12_refuse hk hW e14) ml_RX12_66 yk_X12_refuse ⟨wim_X12_refuse, wse_X12_refuse⟩ hR rfl (sh_0 hW) rfl rfl rfl (Nat.le_of_ble_eq_true rfl) rfl ?_
    cases h
    exact go_iret hc dX12_proved_21 hr
  · replace h := goIfF h c11
    refine go_aload0 hc dX12_proved_8 ?_
    refine go_iload2 hc dX12_proved_9 ?_
    refine go_callVi hc dX12_proved_10 (mX12_isPlace hk hW rfl) ml_RX12_97 yk_X12_isPlace ⟨wim_X12_isPlace, wse_X12_isPlace⟩ hR rfl (sh_0 hW) rfl rfl rfl (Nat.le_of_ble_eq_true rfl) rfl ?_
    refine go_if_ne hc 22 dX12_proved_13 rfl (fun c15 => ?_) (fun c15 => ?_)
    · replace h := goIfF h c15
      refine go_aload0 hc dX12_proved_22 ?_
      refine go_iload3 hc dX12_proved_23 ?_
      refine go_callVi hc dX12_proved_24 (mX12_isHour hk hW rfl) ml_RX12_184 yk_X12_isHour ⟨wim_X12_isHour, wse_X12_isHour⟩ hR rfl (sh_0 hW) rfl rfl rfl (Nat.le_of_ble_eq_true rfl) rfl ?_
      refine go_if_eq hc 50 dX12_proved_27 rfl (fun c16 => ?_) (fun c16 => ?_)
      · replace h := goIfT h c16
        refine go_aload0 hc dX12_proved_50 ?_
        refine go_iconst (v := 2) hc dX12_proved_51 rfl ?_
        replace h := goB2_h h; obtain ⟨x17, M18, e19, h⟩ := h
        refine go_callVi hc dX12_proved_52 (mX12_refuse hk hW e19) ml_RX12_66 yk_X12_refuse ⟨wim_X12_refuse, wse_X12_refuse⟩ hR rfl (sh_0 hW) rfl rfl rfl (Nat.le_of_ble_eq_true rfl) rfl ?_
        cases h
        exact go_iret hc dX12_proved_55 hr
      · replace h := goIfF h c16
        refine go_aload0 hc dX12_proved_30 ?_
        refine go_aload0 hc dX12_proved_31 ?_
        refine go_getR hc lk_RX12_47 dX12_proved_32 (sh_0 hW) (rf_0_3 hW) ?_
        replace h := goBind h; obtain ⟨M20, e21, h⟩ := h
        refine go_callVr hc dX12_proved_35 (mX4_freshened hk hW e21) ml_RX12_231 yk_X4_freshened ⟨wim_X4_freshened, wse_X4_freshened⟩ hR rfl (sh_74 hW) rfl rfl rfl (Nat.le_of_ble_eq_true rfl) rfl ?_
        refine go_iload1 hc dX12_proved_38 ?_
        refine go_iload2 hc dX12_proved_39 ?_
        refine go_iload3 hc dX12_proved_40 ?_
        replace h := goBind h; obtain ⟨x22, e23, h⟩ := h
        refine go_callVi hc dX12_proved_41 (mX4_fewestProving hk hW e23) ml_RX12_260 yk_X4_fewestProving ⟨wim_X4_fewestProving, wse_X4_fewestProving⟩ hR rfl (sh_74 hW) rfl rfl rfl (Nat.le_of_ble_eq_true rfl) rfl ?_
        replace h := goB2_h h; obtain ⟨x24, M25, e26, h⟩ := h
        refine go_callVi hc dX12_proved_44 (mX12_answer hk hW e26) ml_RX12_88 yk_X12_answer ⟨wim_X12_answer, wse_X12_answer⟩ hR rfl (sh_0 hW) rfl rfl rfl (Nat.le_of_ble_eq_true rfl) rfl ?_
        refine go_goto hc 55 dX12_proved_47 rfl ?_
        cases h
        exact go_iret hc dX12_proved_55 hr
    · replace h := goIfT h c15
      refine go_aload0 hc dX12_proved_16 ?_
      refine go_iconst (v := 1) hc dX12_proved_17 rfl ?_
      replace h := goB2_h h; obtain ⟨x27, M28, e29, h⟩ := h
      refine go_callVi hc dX12_proved_18 (mX12_refuse hk hW e29) ml_RX12_66 yk_X12_refuse ⟨wim_X12_refuse, wse_X12_refuse⟩ hR rfl (sh_0 hW) rfl rfl rfl (Nat.le_of_ble_eq_true rfl) rfl ?_
      cases h
      exact go_iret hc dX12_proved_21 hr
theorem dX12_ask_0 : decode cX12_ask 0 = .ok (.aload_n 0, 1) := by decide +kernel
theorem dX12_ask_1 : decode cX12_ask 1 = .ok (.invokevirtual 227, 3) := by decide +kernel
theorem dX12_ask_4 : decode cX12_ask 4 = .ok (.ifCond .ne 9, 3) := by decide +kernel
theorem dX12_ask_7 : decode cX12_ask 7 = .ok (.aload_n 0, 1) := by decide +kernel
theorem dX12_ask_8 : decode cX12_ask 8 = .ok (.iconst 1, 1) := by decide +kernel
theorem dX12_ask_9 : decode cX12_ask 9 = .ok (.invokevirtual 66, 3) := by decide +kernel
theorem dX12_ask_12 : decode cX12_ask 12 = .ok (.ireturn, 1) := by decide +kernel
theorem dX12_ask_13 : decode cX12_ask 13 = .ok (.aload_n 0, 1) := by decide +kernel
theorem dX12_ask_14 : decode cX12_ask 14 = .ok (.getfield 47, 3) := by decide +kernel
theorem dX12_ask_17 : decode cX12_ask 17 = .ok (.invokevirtual 231, 3) := by decide +kernel
theorem dX12_ask_20 : decode cX12_ask 20 = .ok (.invokevirtual 263, 3) := by decide +kernel
theorem dX12_ask_23 : decode cX12_ask 23 = .ok (.ifCond .eq 28, 3) := by decide +kernel
theorem dX12_ask_26 : decode cX12_ask 26 = .ok (.aload_n 0, 1) := by decide +kernel
theorem dX12_ask_27 : decode cX12_ask 27 = .ok (.aload_n 0, 1) := by decide +kernel
theorem dX12_ask_28 : decode cX12_ask 28 = .ok (.getfield 47, 3) := by decide +kernel
theorem dX12_ask_31 : decode cX12_ask 31 = .ok (.getfield 266, 3) := by decide +kernel
theorem dX12_ask_34 : decode cX12_ask 34 = .ok (.bipush 100, 2) := by decide +kernel
theorem dX12_ask_36 : decode cX12_ask 36 = .ok (.imul, 1) := by decide +kernel
theorem dX12_ask_37 : decode cX12_ask 37 = .ok (.aload_n 0, 1) := by decide +kernel
theorem dX12_ask_38 : decode cX12_ask 38 = .ok (.getfield 47, 3) := by decide +kernel
theorem dX12_ask_41 : decode cX12_ask 41 = .ok (.getfield 269, 3) := by decide +kernel
theorem dX12_ask_44 : decode cX12_ask 44 = .ok (.iadd, 1) := by decide +kernel
theorem dX12_ask_45 : decode cX12_ask 45 = .ok (.invokevirtual 88, 3) := by decide +kernel
theorem dX12_ask_48 : decode cX12_ask 48 = .ok (.goto 9, 3) := by decide +kernel
theorem dX12_ask_51 : decode cX12_ask 51 = .ok (.aload_n 0, 1) := by decide +kernel
theorem dX12_ask_52 : decode cX12_ask 52 = .ok (.bipush 6, 2) := by decide +kernel
theorem dX12_ask_54 : decode cX12_ask 54 = .ok (.invokevirtual 66, 3) := by decide +kernel
theorem dX12_ask_57 : decode cX12_ask 57 = .ok (.ireturn, 1) := by decide +kernel
set_option maxRecDepth 100000 in
set_option maxHeartbeats 4000000 in
theorem mX12_ask {E : goEv} {l : Launch} {G : goG} {N : Nat} {M : goMI} {L : goML} {R : goMR} {r0 : Int32} {r1 : goMI} (hk : goKn E) (hW : goW G R) (h : fX12_ask N M R = some (r0, r1)) : Met l yX12_ask (goCd yX12_ask cX12_ask 1 (Option.some FieldType.int)) (goRoom 6 148 0 0) (goPre E [.ref 0] G M L R) (goQi E r0 G r1 L R) 0 0 (goSet E) := by
  refine goMet pl_RX12 hk (lv := [some (.ref 0)]) rfl (Nat.le_of_ble_eq_true rfl) ?_
  intro X hc hl hR hr hnm
  subst hl
  unfold fX12_ask at h
  refine go_aload0 hc dX12_ask_0 ?_
  refine go_callVi hc dX12_ask_1 (mX12_isHill hk hW rfl) ml_RX12_227 yk_X12_isHill ⟨wim_X12_isHill, wse_X12_isHill⟩ hR rfl (sh_0 hW) rfl rfl rfl (Nat.le_of_ble_eq_true rfl) rfl ?_
  refine go_if_ne hc 13 dX12_ask_4 rfl (fun c11 => ?_) (fun c11 => ?_)
  · replace h := goIfF h c11
    refine go_aload0 hc dX12_ask_13 ?_
    refine go_getR hc lk_RX12_47 dX12_ask_14 (sh_0 hW) (rf_0_3 hW) ?_
    replace h := goBind h; obtain ⟨M12, e13, h⟩ := h
    refine go_callVr hc dX12_ask_17 (mX4_freshened hk hW e13) ml_RX12_231 yk_X4_freshened ⟨wim_X4_freshened, wse_X4_freshened⟩ hR rfl (sh_74 hW) rfl rfl rfl (Nat.le_of_ble_eq_true rfl) rfl ?_
    replace h := goB2_h h; obtain ⟨x14, M15, e16, h⟩ := h
    refine go_callVi hc dX12_ask_20 (mX4_question hk hW e16) ml_RX12_263 yk_X4_question ⟨wim_X4_question, wse_X4_question⟩ hR rfl (sh_74 hW) rfl rfl rfl (Nat.le_of_ble_eq_true rfl) rfl ?_
    refine go_if_eq hc 51 dX12_ask_23 rfl (fun c17 => ?_) (fun c17 => ?_)
    · replace h := goIfT h c17
      refine go_aload0 hc dX12_ask_51 ?_
      refine go_bipush (v := 6) hc dX12_ask_52 rfl ?_
      replace h := goB2_h h; obtain ⟨x18, M19, e20, h⟩ := h
      refine go_callVi hc dX12_ask_54 (mX12_refuse hk hW e20) ml_RX12_66 yk_X12_refuse ⟨wim_X12_refuse, wse_X12_refuse⟩ hR rfl (sh_0 hW) rfl rfl rfl (Nat.le_of_ble_eq_true rfl) rfl ?_
      cases h
      exact go_iret hc dX12_ask_57 hr
    · replace h := goIfF h c17
      refine go_aload0 hc dX12_ask_26 ?_
      refine go_aload0 hc dX12_ask_27 ?_
      refine go_getR hc lk_RX12_47 dX12_ask_28 (sh_0 hW) (rf_0_3 hW) ?_
      refine go_getI hc lk_RX12_266 dX12_ask_31 (sh_74 hW) ?_
      refine go_bipush (v := 100) hc dX12_ask_34 rfl ?_
      refine go_imul hc dX12_ask_36 ?_
      refine go_aload0 hc dX12_ask_37 ?_
      refine go_getR hc lk_RX12_47 dX12_ask_38 (sh_0 hW) (rf_0_3 hW) ?_
      refine go_getI hc lk_RX12_269 dX12_ask_41 (sh_74 hW) ?_
      refine go_iadd hc dX12_ask_44 ?_
      replace h := goB2_h h; obtain ⟨x21, M22, e23, h⟩ := h
      refine go_callVi hc dX12_ask_45 (mX12_answer hk hW e23) ml_RX12_88 yk_X12_answer ⟨wim_X12_answer, wse_X12_answer⟩ hR rfl (sh_0 hW) rfl rfl rfl (Nat.le_of_ble_eq_true rfl) rfl ?_
      refine go_goto hc 57 dX12_ask_48 rfl ?_
      cases h
      exact go_iret hc dX12_ask_57 hr
  · replace h := goIfT h c11
    refine go_aload0 hc dX12_ask_7 ?_
    refine go_iconst (v := 1) hc dX12_ask_8 rfl ?_
    replace h := goB2_h h; obtain ⟨x24, M25, e26, h⟩ := h
    refine go_callVi hc dX12_ask_9 (mX12_refuse hk hW e26) ml_RX12_66 yk_X12_refuse ⟨wim_X12_refuse, wse_X12_refuse⟩ hR rfl (sh_0 hW) rfl rfl rfl (Nat.le_of_ble_eq_true rfl) rfl ?_
    cases h
    exact go_iret hc dX12_ask_12 hr
theorem dX12_askMost_0 : decode cX12_askMost 0 = .ok (.aload_n 0, 1) := by decide +kernel
theorem dX12_askMost_1 : decode cX12_askMost 1 = .ok (.invokevirtual 227, 3) := by decide +kernel
theorem dX12_askMost_4 : decode cX12_askMost 4 = .ok (.ifCond .ne 9, 3) := by decide +kernel
theorem dX12_askMost_7 : decode cX12_askMost 7 = .ok (.aload_n 0, 1) := by decide +kernel
theorem dX12_askMost_8 : decode cX12_askMost 8 = .ok (.iconst 1, 1) := by decide +kernel
theorem dX12_askMost_9 : decode cX12_askMost 9 = .ok (.invokevirtual 66, 3) := by decide +kernel
theorem dX12_askMost_12 : decode cX12_askMost 12 = .ok (.ireturn, 1) := by decide +kernel
theorem dX12_askMost_13 : decode cX12_askMost 13 = .ok (.aload_n 0, 1) := by decide +kernel
theorem dX12_askMost_14 : decode cX12_askMost 14 = .ok (.getfield 47, 3) := by decide +kernel
theorem dX12_askMost_17 : decode cX12_askMost 17 = .ok (.invokevirtual 231, 3) := by decide +kernel
theorem dX12_askMost_20 : decode cX12_askMost 20 = .ok (.invokevirtual 263, 3) := by decide +kernel
theorem dX12_askMost_23 : decode cX12_askMost 23 = .ok (.ifCond .eq 17, 3) := by decide +kernel
theorem dX12_askMost_26 : decode cX12_askMost 26 = .ok (.aload_n 0, 1) := by decide +kernel
theorem dX12_askMost_27 : decode cX12_askMost 27 = .ok (.aload_n 0, 1) := by decide +kernel
theorem dX12_askMost_28 : decode cX12_askMost 28 = .ok (.getfield 47, 3) := by decide +kernel
theorem dX12_askMost_31 : decode cX12_askMost 31 = .ok (.getfield 272, 3) := by decide +kernel
theorem dX12_askMost_34 : decode cX12_askMost 34 = .ok (.invokevirtual 88, 3) := by decide +kernel
theorem dX12_askMost_37 : decode cX12_askMost 37 = .ok (.goto 9, 3) := by decide +kernel
theorem dX12_askMost_40 : decode cX12_askMost 40 = .ok (.aload_n 0, 1) := by decide +kernel
theorem dX12_askMost_41 : decode cX12_askMost 41 = .ok (.bipush 6, 2) := by decide +kernel
theorem dX12_askMost_43 : decode cX12_askMost 43 = .ok (.invokevirtual 66, 3) := by decide +kernel
theorem dX12_askMost_46 : decode cX12_askMost 46 = .ok (.ireturn, 1) := by decide +kernel
set_option maxRecDepth 100000 in
set_option maxHeartbeats 4000000 in
theorem mX12_askMost {E : goEv} {l : Launch} {G : goG} {N : Nat} {M : goMI} {L : goML} {R : goMR} {r0 : Int32} {r1 : goMI} (hk : goKn E) (hW : goW G R) (h : fX12_askMost N M R = some (r0, r1)) : Met l yX12_askMost (goCd yX12_askMost cX12_askMost 1 (Option.some FieldType.int)) (goRoom 6 148 0 0) (goPre E [.ref 0] G M L R) (goQi E r0 G r1 L R) 0 0 (goSet E) := by
  refine goMet pl_RX12 hk (lv := [some (.ref 0)]) rfl (Nat.le_of_ble_eq_true rfl) ?_
  intro X hc hl hR hr hnm
  subst hl
  unfold fX12_askMost at h
  refine go_aload0 hc dX12_askMost_0 ?_
  refine go_callVi hc dX12_askMost_1 (mX12_isHill hk hW rfl) ml_RX12_227 yk_X12_isHill ⟨wim_X12_isHill, wse_X12_isHill⟩ hR rfl (sh_0 hW) rfl rfl rfl (Nat.le_of_ble_eq_true rfl) rfl ?_
  refine go_if_ne hc 13 dX12_askMost_4 rfl (fun c11 => ?_) (fun c11 => ?_)
  · replace h := goIfF h c11
    refine go_aload0 hc dX12_askMost_13 ?_
    refine go_getR hc lk_RX12_47 dX12_askMost_14 (sh_0 hW) (rf_0_3 hW) ?_
    replace h := goBind h; obtain ⟨M12, e13, h⟩ := h
    refine go_callVr hc dX12_askMost_17 (mX4_freshened hk hW e13) ml_RX12_231 yk_X4_freshened ⟨wim_X4_freshened, wse_X4_freshened⟩ hR rfl (sh_74 hW) rfl rfl rfl (Nat.le_of_ble_eq_true rfl) rfl ?_
    replace h := goB2_h h; obtain ⟨x14, M15, e16, h⟩ := h
    refine go_callVi hc dX12_askMost_20 (mX4_question hk hW e16) ml_RX12_263 yk_X4_question ⟨wim_X4_question, wse_X4_question⟩ hR rfl (sh_74 hW) rfl rfl rfl (Nat.le_of_ble_eq_true rfl) rfl ?_
    refine go_if_eq hc 40 dX12_askMost_23 rfl (fun c17 => ?_) (fun c17 => ?_)
    · replace h := goIfT h c17
      refine go_aload0 hc dX12_askMost_40 ?_
      refine go_bipush (v := 6) hc dX12_askMost_41 rfl ?_
      replace h := goB2_h h; obtain ⟨x18, M19, e20, h⟩ := h
      refine go_callVi hc dX12_askMost_43 (mX12_refuse hk hW e20) ml_RX12_66 yk_X12_refuse ⟨wim_X12_refuse, wse_X12_refuse⟩ hR rfl (sh_0 hW) rfl rfl rfl (Nat.le_of_ble_eq_true rfl) rfl ?_
      cases h
      exact go_iret hc dX12_askMost_46 hr
    · replace h := goIfF h c17
      refine go_aload0 hc dX12_askMost_26 ?_
      refine go_aload0 hc dX12_askMost_27 ?_
      refine go_getR hc lk_RX12_47 dX12_askMost_28 (sh_0 hW) (rf_0_3 hW) ?_
      refine go_getI hc lk_RX12_272 dX12_askMost_31 (sh_74 hW) ?_
      replace h := goB2_h h; obtain ⟨x21, M22, e23, h⟩ := h
      refine go_callVi hc dX12_askMost_34 (mX12_answer hk hW e23) ml_RX12_88 yk_X12_answer ⟨wim_X12_answer, wse_X12_answer⟩ hR rfl (sh_0 hW) rfl rfl rfl (Nat.le_of_ble_eq_true rfl) rfl ?_
      refine go_goto hc 46 dX12_askMost_37 rfl ?_
      cases h
      exact go_iret hc dX12_askMost_46 hr
  · replace h := goIfT h c11
    refine go_aload0 hc dX12_askMost_7 ?_
    refine go_iconst (v := 1) hc dX12_askMost_8 rfl ?_
    replace h := goB2_h h; obtain ⟨x24, M25, e26, h⟩ := h
    refine go_callVi hc dX12_askMost_9 (mX12_refuse hk hW e26) ml_RX12_66 yk_X12_refuse ⟨wim_X12_refuse, wse_X12_refuse⟩ hR rfl (sh_0 hW) rfl rfl rfl (Nat.le_of_ble_eq_true rfl) rfl ?_
    cases h
    exact go_iret hc dX12_askMost_12 hr
theorem dX12_whyNoQuest_0 : decode cX12_whyNoQuest 0 = .ok (.aload_n 0, 1) := by decide +kernel
theorem dX12_whyNoQuest_1 : decode cX12_whyNoQuest 1 = .ok (.iload_n 1, 1) := by decide +kernel
theorem dX12_whyNoQuest_2 : decode cX12_whyNoQuest 2 = .ok (.invokevirtual 191, 3) := by decide +kernel
theorem dX12_whyNoQuest_5 : decode cX12_whyNoQuest 5 = .ok (.ifCond .eq 19, 3) := by decide +kernel
theorem dX12_whyNoQuest_8 : decode cX12_whyNoQuest 8 = .ok (.aload_n 0, 1) := by decide +kernel
theorem dX12_whyNoQuest_9 : decode cX12_whyNoQuest 9 = .ok (.iload_n 2, 1) := by decide +kernel
theorem dX12_whyNoQuest_10 : decode cX12_whyNoQuest 10 = .ok (.invokevirtual 115, 3) := by decide +kernel
theorem dX12_whyNoQuest_13 : decode cX12_whyNoQuest 13 = .ok (.ifCond .eq 11, 3) := by decide +kernel
theorem dX12_whyNoQuest_16 : decode cX12_whyNoQuest 16 = .ok (.aload_n 0, 1) := by decide +kernel
theorem dX12_whyNoQuest_17 : decode cX12_whyNoQuest 17 = .ok (.iload_n 3, 1) := by decide +kernel
theorem dX12_whyNoQuest_18 : decode cX12_whyNoQuest 18 = .ok (.invokevirtual 97, 3) := by decide +kernel
theorem dX12_whyNoQuest_21 : decode cX12_whyNoQuest 21 = .ok (.ifCond .ne 5, 3) := by decide +kernel
theorem dX12_whyNoQuest_24 : decode cX12_whyNoQuest 24 = .ok (.iconst 1, 1) := by decide +kernel
theorem dX12_whyNoQuest_25 : decode cX12_whyNoQuest 25 = .ok (.ireturn, 1) := by decide +kernel
theorem dX12_whyNoQuest_26 : decode cX12_whyNoQuest 26 = .ok (.aload_n 0, 1) := by decide +kernel
theorem dX12_whyNoQuest_27 : decode cX12_whyNoQuest 27 = .ok (.iload 4, 2) := by decide +kernel
theorem dX12_whyNoQuest_29 : decode cX12_whyNoQuest 29 = .ok (.invokevirtual 184, 3) := by decide +kernel
theorem dX12_whyNoQuest_32 : decode cX12_whyNoQuest 32 = .ok (.ifCond .eq 7, 3) := by decide +kernel
theorem dX12_whyNoQuest_35 : decode cX12_whyNoQuest 35 = .ok (.iconst 0, 1) := by decide +kernel
theorem dX12_whyNoQuest_36 : decode cX12_whyNoQuest 36 = .ok (.goto 4, 3) := by decide +kernel
theorem dX12_whyNoQuest_39 : decode cX12_whyNoQuest 39 = .ok (.iconst 2, 1) := by decide +kernel
theorem dX12_whyNoQuest_40 : decode cX12_whyNoQuest 40 = .ok (.ireturn, 1) := by decide +kernel
set_option maxRecDepth 100000 in
set_option maxHeartbeats 4000000 in
theorem mX12_whyNoQuest {E : goEv} {l : Launch} {G : goG} {M : goMI} {L : goML} {R : goMR} {v1 : Int32} {v2 : Int32} {v3 : Int32} {v4 : Int32} {r0 : Int32} (hk : goKn E) (hW : goW G R) (h : fX12_whyNoQuest M R v1 v2 v3 v4 = r0) : Met l yX12_whyNoQuest (goCd yX12_whyNoQuest cX12_whyNoQuest 5 (Option.some FieldType.int)) (goRoom 2 42 0 0) (goPre E [.ref 0, .int v1, .int v2, .int v3, .int v4] G M L R) (goQi E r0 G M L R) 0 0 (goSet E) := by
  refine goMet pl_RX12 hk (lv := [some (.ref 0), some (.int v1), some (.int v2), some (.int v3), some (.int v4)]) rfl (Nat.le_of_ble_eq_true rfl) ?_
  intro X hc hl hR hr hnm
  subst hl
  unfold fX12_whyNoQuest at h
  refine go_aload0 hc dX12_whyNoQuest_0 ?_
  refine go_iload1 hc dX12_whyNoQuest_1 ?_
  refine go_callVi hc dX12_whyNoQuest_2 (mX12_isCase hk hW rfl) ml_RX12_191 yk_X12_isCase ⟨wim_X12_isCase, wse_X12_isCase⟩ hR rfl (sh_0 hW) rfl rfl rfl (Nat.le_of_ble_eq_true rfl) rfl ?_
  refine go_if_eq hc 24 dX12_whyNoQuest_5 rfl (fun c11 => ?_) (fun c11 => ?_)
  · replace h := goIfT h c11
    refine go_iconst (v := 1) hc dX12_whyNoQuest_24 rfl ?_
    subst h
    exact go_iret hc dX12_whyNoQuest_25 hr
  · replace h := goIfF h c11
    refine go_aload0 hc dX12_whyNoQuest_8 ?_
    refine go_iload2 hc dX12_whyNoQuest_9 ?_
    refine go_callVi hc dX12_whyNoQuest_10 (mX12_isGoat hk hW rfl) ml_RX12_115 yk_X12_isGoat ⟨wim_X12_isGoat, wse_X12_isGoat⟩ hR rfl (sh_0 hW) rfl rfl rfl (Nat.le_of_ble_eq_true rfl) rfl ?_
    refine go_if_eq hc 24 dX12_whyNoQuest_13 rfl (fun c12 => ?_) (fun c12 => ?_)
    · replace h := goIfT h c12
      refine go_iconst (v := 1) hc dX12_whyNoQuest_24 rfl ?_
      subst h
      exact go_iret hc dX12_whyNoQuest_25 hr
    · replace h := goIfF h c12
      refine go_aload0 hc dX12_whyNoQuest_16 ?_
      refine go_iload3 hc dX12_whyNoQuest_17 ?_
      refine go_callVi hc dX12_whyNoQuest_18 (mX12_isPlace hk hW rfl) ml_RX12_97 yk_X12_isPlace ⟨wim_X12_isPlace, wse_X12_isPlace⟩ hR rfl (sh_0 hW) rfl rfl rfl (Nat.le_of_ble_eq_true rfl) rfl ?_
      refine go_if_ne hc 26 dX12_whyNoQuest_21 rfl (fun c13 => ?_) (fun c13 => ?_)
      · replace h := goIfF h c13
        refine go_aload0 hc dX12_whyNoQuest_26 ?_
        refine go_iload4 hc dX12_whyNoQuest_27 ?_
        refine go_callVi hc dX12_whyNoQuest_29 (mX12_isHour hk hW rfl) ml_RX12_184 yk_X12_isHour ⟨wim_X12_isHour, wse_X12_isHour⟩ hR rfl (sh_0 hW) rfl rfl rfl (Nat.le_of_ble_eq_true rfl) rfl ?_
        refine go_if_eq hc 39 dX12_whyNoQuest_32 rfl (fun c14 => ?_) (fun c14 => ?_)
        · replace h := goIfT h c14
          refine go_iconst (v := 2) hc dX12_whyNoQuest_39 rfl ?_
          subst h
          exact go_iret hc dX12_whyNoQuest_40 hr
        · replace h := goIfF h c14
          refine go_iconst (v := 0) hc dX12_whyNoQuest_35 rfl ?_
          refine go_goto hc 40 dX12_whyNoQuest_36 rfl ?_
          subst h
          exact go_iret hc dX12_whyNoQuest_40 hr
      · replace h := goIfT h c13
        refine go_iconst (v := 1) hc dX12_whyNoQuest_24 rfl ?_
        subst h
        exact go_iret hc dX12_whyNoQuest_25 hr
theorem dX12_led_0 : decode cX12_led 0 = .ok (.aload_n 0, 1) := by decide +kernel
theorem dX12_led_1 : decode cX12_led 1 = .ok (.iload_n 1, 1) := by decide +kernel
theorem dX12_led_2 : decode cX12_led 2 = .ok (.iload_n 2, 1) := by decide +kernel
theorem dX12_led_3 : decode cX12_led 3 = .ok (.iload_n 3, 1) := by decide +kernel
theorem dX12_led_4 : decode cX12_led 4 = .ok (.iload 4, 2) := by decide +kernel
theorem dX12_led_6 : decode cX12_led 6 = .ok (.invokevirtual 275, 3) := by decide +kernel
theorem dX12_led_9 : decode cX12_led 9 = .ok (.istore 5, 2) := by decide +kernel
theorem dX12_led_11 : decode cX12_led 11 = .ok (.iload 5, 2) := by decide +kernel
theorem dX12_led_13 : decode cX12_led 13 = .ok (.ifCond .ne 23, 3) := by decide +kernel
theorem dX12_led_16 : decode cX12_led 16 = .ok (.aload_n 0, 1) := by decide +kernel
theorem dX12_led_17 : decode cX12_led 17 = .ok (.aload_n 0, 1) := by decide +kernel
theorem dX12_led_18 : decode cX12_led 18 = .ok (.getfield 54, 3) := by decide +kernel
theorem dX12_led_21 : decode cX12_led 21 = .ok (.iload_n 1, 1) := by decide +kernel
theorem dX12_led_22 : decode cX12_led 22 = .ok (.iload_n 2, 1) := by decide +kernel
theorem dX12_led_23 : decode cX12_led 23 = .ok (.iload_n 3, 1) := by decide +kernel
theorem dX12_led_24 : decode cX12_led 24 = .ok (.iload 4, 2) := by decide +kernel
theorem dX12_led_26 : decode cX12_led 26 = .ok (.iconst 0, 1) := by decide +kernel
theorem dX12_led_27 : decode cX12_led 27 = .ok (.invokevirtual 279, 3) := by decide +kernel
theorem dX12_led_30 : decode cX12_led 30 = .ok (.invokevirtual 88, 3) := by decide +kernel
theorem dX12_led_33 : decode cX12_led 33 = .ok (.goto 9, 3) := by decide +kernel
theorem dX12_led_36 : decode cX12_led 36 = .ok (.aload_n 0, 1) := by decide +kernel
theorem dX12_led_37 : decode cX12_led 37 = .ok (.iload 5, 2) := by decide +kernel
theorem dX12_led_39 : decode cX12_led 39 = .ok (.invokevirtual 66, 3) := by decide +kernel
theorem dX12_led_42 : decode cX12_led 42 = .ok (.ireturn, 1) := by decide +kernel
set_option maxRecDepth 100000 in
set_option maxHeartbeats 4000000 in
theorem mX12_led {E : goEv} {l : Launch} {G : goG} {N : Nat} {M : goMI} {L : goML} {R : goMR} {v1 : Int32} {v2 : Int32} {v3 : Int32} {v4 : Int32} {r0 : Int32} {r1 : goMI} (hk : goKn E) (hW : goW G R) (h : fX12_led N M R v1 v2 v3 v4 = some (r0, r1)) : Met l yX12_led (goCd yX12_led cX12_led 6 (Option.some FieldType.int)) (goRoom 7 181 0 0) (goPre E [.ref 0, .int v1, .int v2, .int v3, .int v4] G M L R) (goQi E r0 G r1 L R) 0 0 (goSet E) := by
  refine goMet pl_RX12 hk (lv := [some (.ref 0), some (.int v1), some (.int v2), some (.int v3), some (.int v4), none]) rfl (Nat.le_of_ble_eq_true rfl) ?_
  intro X hc hl hR hr hnm
  subst hl
  unfold fX12_led at h
  refine go_aload0 hc dX12_led_0 ?_
  refine go_iload1 hc dX12_led_1 ?_
  refine go_iload2 hc dX12_led_2 ?_
  refine go_iload3 hc dX12_led_3 ?_
  refine go_iload4 hc dX12_led_4 ?_
  refine go_callVi hc dX12_led_6 (mX12_whyNoQuest hk hW rfl) ml_RX12_275 yk_X12_whyNoQuest ⟨wim_X12_whyNoQuest, wse_X12_whyNoQuest⟩ hR rfl (sh_0 hW) rfl rfl rfl (Nat.le_of_ble_eq_true rfl) rfl ?_
  replace h := goNm_x h; obtain ⟨x11, e12, h⟩ := h
  refine go_nmI e12 ?_
  refine go_istore5 hc dX12_led_9 ?_
  refine go_iload5 hc dX12_led_11 ?_
  refine go_if_ne hc 36 dX12_led_13 rfl (fun c13 => ?_) (fun c13 => ?_)
  · replace h := goIfF h c13
    refine go_aload0 hc dX12_led_36 ?_
    refine go_iload5 hc dX12_led_37 ?_
    replace h := goB2_h h; obtain ⟨x14, M15, e16, h⟩ := h
    refine go_callVi hc dX12_led_39 (mX12_refuse hk hW e16) ml_RX12_66 yk_X12_refuse ⟨wim_X12_refuse, wse_X12_refuse⟩ hR rfl (sh_0 hW) rfl rfl rfl (Nat.le_of_ble_eq_true rfl) rfl ?_
    cases h
    exact go_iret hc dX12_led_42 hr
  · replace h := goIfT h c13
    refine go_aload0 hc dX12_led_16 ?_
    refine go_aload0 hc dX12_led_17 ?_
    refine go_getR hc lk_RX12_54 dX12_led_18 (sh_0 hW) (rf_0_4 hW) ?_
    refine go_iload1 hc dX12_led_21 ?_
    refine go_iload2 hc dX12_led_22 ?_
    refine go_iload3 hc dX12_led_23 ?_
    refine go_iload4 hc dX12_led_24 ?_
    refine go_iconst (v := 0) hc dX12_led_26 rfl ?_
    replace h := goB2_h h; obtain ⟨x17, M18, e19, h⟩ := h
    refine go_callVi hc dX12_led_27 (mX8_fewest hk hW e19) ml_RX12_279 yk_X8_fewest ⟨wim_X8_fewest, wse_X8_fewest⟩ hR rfl (sh_88 hW) rfl rfl rfl (Nat.le_of_ble_eq_true rfl) rfl ?_
    replace h := goB2_h h; obtain ⟨x20, M21, e22, h⟩ := h
    refine go_callVi hc dX12_led_30 (mX12_answer hk hW e22) ml_RX12_88 yk_X12_answer ⟨wim_X12_answer, wse_X12_answer⟩ hR rfl (sh_0 hW) rfl rfl rfl (Nat.le_of_ble_eq_true rfl) rfl ?_
    refine go_goto hc 42 dX12_led_33 rfl ?_
    cases h
    exact go_iret hc dX12_led_42 hr
theorem dX12_spotCode_0 : decode cX12_spotCode 0 = .ok (.iload_n 0, 1) := by decide +kernel
theorem dX12_spotCode_1 : decode cX12_spotCode 1 = .ok (.bipush 12, 2) := by decide +kernel
theorem dX12_spotCode_3 : decode cX12_spotCode 3 = .ok (.idiv, 1) := by decide +kernel
theorem dX12_spotCode_4 : decode cX12_spotCode 4 = .ok (.bipush 100, 2) := by decide +kernel
theorem dX12_spotCode_6 : decode cX12_spotCode 6 = .ok (.imul, 1) := by decide +kernel
theorem dX12_spotCode_7 : decode cX12_spotCode 7 = .ok (.iload_n 0, 1) := by decide +kernel
theorem dX12_spotCode_8 : decode cX12_spotCode 8 = .ok (.bipush 12, 2) := by decide +kernel
theorem dX12_spotCode_10 : decode cX12_spotCode 10 = .ok (.irem, 1) := by decide +kernel
theorem dX12_spotCode_11 : decode cX12_spotCode 11 = .ok (.iadd, 1) := by decide +kernel
theorem dX12_spotCode_12 : decode cX12_spotCode 12 = .ok (.ireturn, 1) := by decide +kernel
set_option maxRecDepth 100000 in
set_option maxHeartbeats 4000000 in
theorem mX12_spotCode {E : goEv} {l : Launch} {G : goG} {M : goMI} {L : goML} {R : goMR} {v0 : Int32} {r0 : Int32} (hk : goKn E) (hW : goW G R) (h : fX12_spotCode v0 = r0) : Met l yX12_spotCode (goCd yX12_spotCode cX12_spotCode 1 (Option.some FieldType.int)) (goRoom 0 0 0 0) (goPre E [.int v0] G M L R) (goQi E r0 G M L R) 0 0 (goSet E) := by
  refine goMet pl_RX12 hk (lv := [some (.int v0)]) rfl (Nat.le_of_ble_eq_true rfl) ?_
  intro X hc hl hR hr hnm
  subst hl
  unfold fX12_spotCode at h
  refine go_iload0 hc dX12_spotCode_0 ?_
  refine go_bipush (v := 12) hc dX12_spotCode_1 rfl ?_
  refine go_idiv hc dX12_spotCode_3 (by decide) ?_
  refine go_bipush (v := 100) hc dX12_spotCode_4 rfl ?_
  refine go_imul hc dX12_spotCode_6 ?_
  refine go_iload0 hc dX12_spotCode_7 ?_
  refine go_bipush (v := 12) hc dX12_spotCode_8 rfl ?_
  refine go_irem hc dX12_spotCode_10 (by decide) ?_
  refine go_iadd hc dX12_spotCode_11 ?_
  subst h
  exact go_iret hc dX12_spotCode_12 hr
theorem dX12_ledAt_0 : decode cX12_ledAt 0 = .ok (.aload_n 0, 1) := by decide +kernel
theorem dX12_ledAt_1 : decode cX12_ledAt 1 = .ok (.iload_n 1, 1) := by decide +kernel
theorem dX12_ledAt_2 : decode cX12_ledAt 2 = .ok (.iload_n 2, 1) := by decide +kernel
theorem dX12_ledAt_3 : decode cX12_ledAt 3 = .ok (.iload_n 3, 1) := by decide +kernel
theorem dX12_ledAt_4 : decode cX12_ledAt 4 = .ok (.iload 4, 2) := by decide +kernel
theorem dX12_ledAt_6 : decode cX12_ledAt 6 = .ok (.invokevirtual 275, 3) := by decide +kernel
theorem dX12_ledAt_9 : decode cX12_ledAt 9 = .ok (.istore 6, 2) := by decide +kernel
theorem dX12_ledAt_11 : decode cX12_ledAt 11 = .ok (.iload 6, 2) := by decide +kernel
theorem dX12_ledAt_13 : decode cX12_ledAt 13 = .ok (.ifCond .eq 10, 3) := by decide +kernel
theorem dX12_ledAt_16 : decode cX12_ledAt 16 = .ok (.aload_n 0, 1) := by decide +kernel
theorem dX12_ledAt_17 : decode cX12_ledAt 17 = .ok (.iload 6, 2) := by decide +kernel
theorem dX12_ledAt_19 : decode cX12_ledAt 19 = .ok (.invokevirtual 66, 3) := by decide +kernel
theorem dX12_ledAt_22 : decode cX12_ledAt 22 = .ok (.ireturn, 1) := by decide +kernel
theorem dX12_ledAt_23 : decode cX12_ledAt 23 = .ok (.aload_n 0, 1) := by decide +kernel
theorem dX12_ledAt_24 : decode cX12_ledAt 24 = .ok (.getfield 54, 3) := by decide +kernel
theorem dX12_ledAt_27 : decode cX12_ledAt 27 = .ok (.iload_n 1, 1) := by decide +kernel
theorem dX12_ledAt_28 : decode cX12_ledAt 28 = .ok (.iload_n 2, 1) := by decide +kernel
theorem dX12_ledAt_29 : decode cX12_ledAt 29 = .ok (.iload_n 3, 1) := by decide +kernel
theorem dX12_ledAt_30 : decode cX12_ledAt 30 = .ok (.iload 4, 2) := by decide +kernel
theorem dX12_ledAt_32 : decode cX12_ledAt 32 = .ok (.iconst 0, 1) := by decide +kernel
theorem dX12_ledAt_33 : decode cX12_ledAt 33 = .ok (.invokevirtual 279, 3) := by decide +kernel
theorem dX12_ledAt_36 : decode cX12_ledAt 36 = .ok (.istore 7, 2) := by decide +kernel
theorem dX12_ledAt_38 : decode cX12_ledAt 38 = .ok (.iload 5, 2) := by decide +kernel
theorem dX12_ledAt_40 : decode cX12_ledAt 40 = .ok (.iload 7, 2) := by decide +kernel
theorem dX12_ledAt_42 : decode cX12_ledAt 42 = .ok (.invokestatic 156, 3) := by decide +kernel
theorem dX12_ledAt_45 : decode cX12_ledAt 45 = .ok (.ifCond .ne 9, 3) := by decide +kernel
theorem dX12_ledAt_48 : decode cX12_ledAt 48 = .ok (.aload_n 0, 1) := by decide +kernel
theorem dX12_ledAt_49 : decode cX12_ledAt 49 = .ok (.iconst 1, 1) := by decide +kernel
theorem dX12_ledAt_50 : decode cX12_ledAt 50 = .ok (.invokevirtual 66, 3) := by decide +kernel
theorem dX12_ledAt_53 : decode cX12_ledAt 53 = .ok (.ireturn, 1) := by decide +kernel
theorem dX12_ledAt_54 : decode cX12_ledAt 54 = .ok (.aload_n 0, 1) := by decide +kernel
theorem dX12_ledAt_55 : decode cX12_ledAt 55 = .ok (.iload 5, 2) := by decide +kernel
theorem dX12_ledAt_57 : decode cX12_ledAt 57 = .ok (.ifCond .ne 13, 3) := by decide +kernel
theorem dX12_ledAt_60 : decode cX12_ledAt 60 = .ok (.aload_n 0, 1) := by decide +kernel
theorem dX12_ledAt_61 : decode cX12_ledAt 61 = .ok (.getfield 54, 3) := by decide +kernel
theorem dX12_ledAt_64 : decode cX12_ledAt 64 = .ok (.getfield 283, 3) := by decide +kernel
theorem dX12_ledAt_67 : decode cX12_ledAt 67 = .ok (.goto 10, 3) := by decide +kernel
theorem dX12_ledAt_70 : decode cX12_ledAt 70 = .ok (.aload_n 0, 1) := by decide +kernel
theorem dX12_ledAt_71 : decode cX12_ledAt 71 = .ok (.getfield 54, 3) := by decide +kernel
theorem dX12_ledAt_74 : decode cX12_ledAt 74 = .ok (.getfield 286, 3) := by decide +kernel
theorem dX12_ledAt_77 : decode cX12_ledAt 77 = .ok (.invokestatic 289, 3) := by decide +kernel
theorem dX12_ledAt_80 : decode cX12_ledAt 80 = .ok (.invokevirtual 88, 3) := by decide +kernel
theorem dX12_ledAt_83 : decode cX12_ledAt 83 = .ok (.ireturn, 1) := by decide +kernel
set_option maxRecDepth 100000 in
set_option maxHeartbeats 4000000 in
theorem mX12_ledAt {E : goEv} {l : Launch} {G : goG} {N : Nat} {M : goMI} {L : goML} {R : goMR} {v1 : Int32} {v2 : Int32} {v3 : Int32} {v4 : Int32} {v5 : Int32} {r0 : Int32} {r1 : goMI} (hk : goKn E) (hW : goW G R) (h : fX12_ledAt N M R v1 v2 v3 v4 v5 = some (r0, r1)) : Met l yX12_ledAt (goCd yX12_ledAt cX12_ledAt 8 (Option.some FieldType.int)) (goRoom 7 181 0 0) (goPre E [.ref 0, .int v1, .int v2, .int v3, .int v4, .int v5] G M L R) (goQi E r0 G r1 L R) 0 0 (goSet E) := by
  refine goMet pl_RX12 hk (lv := [some (.ref 0), some (.int v1), some (.int v2), some (.int v3), some (.int v4), some (.int v5), none, none]) rfl (Nat.le_of_ble_eq_true rfl) ?_
  intro X hc hl hR hr hnm
  subst hl
  unfold fX12_ledAt at h
  refine go_aload0 hc dX12_ledAt_0 ?_
  refine go_iload1 hc dX12_ledAt_1 ?_
  refine go_iload2 hc dX12_ledAt_2 ?_
  refine go_iload3 hc dX12_ledAt_3 ?_
  refine go_iload4 hc dX12_ledAt_4 ?_
  refine go_callVi hc dX12_ledAt_6 (mX12_whyNoQuest hk hW rfl) ml_RX12_275 yk_X12_whyNoQuest ⟨wim_X12_whyNoQuest, wse_X12_whyNoQuest⟩ hR rfl (sh_0 hW) rfl rfl rfl (Nat.le_of_ble_eq_true rfl) rfl ?_
  replace h := goNm_x h; obtain ⟨x11, e12, h⟩ := h
  refine go_nmI e12 ?_
  refine go_istore6 hc dX12_ledAt_9 ?_
  refine go_iload6 hc dX12_ledAt_11 ?_
  refine go_if_eq hc 23 dX12_ledAt_13 rfl (fun c13 => ?_) (fun c13 => ?_)
  · replace h := goIfT h c13
    refine go_aload0 hc dX12_ledAt_23 ?_
    refine go_getR hc lk_RX12_54 dX12_ledAt_24 (sh_0 hW) (rf_0_4 hW) ?_
    refine go_iload1 hc dX12_ledAt_27 ?_
    refine go_iload2 hc dX12_ledAt_28 ?_
    refine go_iload3 hc dX12_ledAt_29 ?_
    refine go_iload4 hc dX12_ledAt_30 ?_
    refine go_iconst (v := 0) hc dX12_ledAt_32 rfl ?_
    replace h := goB2_h h; obtain ⟨x14, M15, e16, h⟩ := h
    refine go_callVi hc dX12_ledAt_33 (mX8_fewest hk hW e16) ml_RX12_279 yk_X8_fewest ⟨wim_X8_fewest, wse_X8_fewest⟩ hR rfl (sh_88 hW) rfl rfl rfl (Nat.le_of_ble_eq_true rfl) rfl ?_
    refine go_istore7 hc dX12_ledAt_36 ?_
    refine go_iload5 hc dX12_ledAt_38 ?_
    refine go_iload7 hc dX12_ledAt_40 ?_
    refine go_callSi hc dX12_ledAt_42 (mX12_within hk hW rfl) ml_RX12_156 yk_X12_within wst_X12_within hR rfl rfl rfl (Nat.le_of_ble_eq_true rfl) rfl ?_
    refine go_if_ne hc 54 dX12_ledAt_45 rfl (fun c17 => ?_) (fun c17 => ?_)
    · replace h := goIfF h c17
      refine go_aload0 hc dX12_ledAt_54 ?_
      refine go_iload5 hc dX12_ledAt_55 ?_
      replace h := goNm_y h; obtain ⟨x18, e19, h⟩ := h
      have k20 : ∀ (d0 d1 d2 d3 d4 d5 d6 d7 : Option Value), goA E X G 0 0 (goMQ X E (goQi E r0 G r1 L R) 0 0) 77 [d0, d1, d2, d3, d4, d5, d6, d7] [.int x18, .ref 0] M15 L R := by
        intro d0 d1 d2 d3 d4 d5 d6 d7
        refine go_callSi hc dX12_ledAt_77 (mX12_spotCode hk hW rfl) ml_RX12_289 yk_X12_spotCode wst_X12_spotCode hR rfl rfl rfl (Nat.le_of_ble_eq_true rfl) rfl ?_
        replace h := goB2_h h; obtain ⟨x22, M23, e24, h⟩ := h
        refine go_callVi hc dX12_ledAt_80 (mX12_answer hk hW e24) ml_RX12_88 yk_X12_answer ⟨wim_X12_answer, wse_X12_answer⟩ hR rfl (sh_0 hW) rfl rfl rfl (Nat.le_of_ble_eq_true rfl) rfl ?_
        cases h
        exact go_iret hc dX12_ledAt_83 hr
      refine go_if_ne hc 70 dX12_ledAt_57 rfl (fun c21 => ?_) (fun c21 => ?_)
      · replace e19 := goIfF e19 c21
        refine go_aload0 hc dX12_ledAt_70 ?_
        refine go_getR hc lk_RX12_54 dX12_ledAt_71 (sh_0 hW) (rf_0_4 hW) ?_
        refine go_getI hc lk_RX12_286 dX12_ledAt_74 (sh_88 hW) ?_
        subst e19
        exact k20 _ _ _ _ _ _ _ _
      · replace e19 := goIfT e19 c21
        refine go_aload0 hc dX12_ledAt_60 ?_
        refine go_getR hc lk_RX12_54 dX12_ledAt_61 (sh_0 hW) (rf_0_4 hW) ?_
        refine go_getI hc lk_RX12_283 dX12_ledAt_64 (sh_88 hW) ?_
        refine go_goto hc 77 dX12_ledAt_67 rfl ?_
        subst e19
        exact k20 _ _ _ _ _ _ _ _
    · replace h := goIfT h c17
      refine go_aload0 hc dX12_ledAt_48 ?_
      refine go_iconst (v := 1) hc dX12_ledAt_49 rfl ?_
      replace h := goB2_h h; obtain ⟨x25, M26, e27, h⟩ := h
      refine go_callVi hc dX12_ledAt_50 (mX12_refuse hk hW e27) ml_RX12_66 yk_X12_refuse ⟨wim_X12_refuse, wse_X12_refuse⟩ hR rfl (sh_0 hW) rfl rfl rfl (Nat.le_of_ble_eq_true rfl) rfl ?_
      cases h
      exact go_iret hc dX12_ledAt_53 hr
  · replace h := goIfF h c13
    refine go_aload0 hc dX12_ledAt_16 ?_
    refine go_iload6 hc dX12_ledAt_17 ?_
    replace h := goB2_h h; obtain ⟨x28, M29, e30, h⟩ := h
    refine go_callVi hc dX12_ledAt_19 (mX12_refuse hk hW e30) ml_RX12_66 yk_X12_refuse ⟨wim_X12_refuse, wse_X12_refuse⟩ hR rfl (sh_0 hW) rfl rfl rfl (Nat.le_of_ble_eq_true rfl) rfl ?_
    cases h
    exact go_iret hc dX12_ledAt_22 hr
theorem dX12_scared_0 : decode cX12_scared 0 = .ok (.aload_n 0, 1) := by decide +kernel
theorem dX12_scared_1 : decode cX12_scared 1 = .ok (.iload_n 1, 1) := by decide +kernel
theorem dX12_scared_2 : decode cX12_scared 2 = .ok (.iload_n 2, 1) := by decide +kernel
theorem dX12_scared_3 : decode cX12_scared 3 = .ok (.iload_n 3, 1) := by decide +kernel
theorem dX12_scared_4 : decode cX12_scared 4 = .ok (.iload 4, 2) := by decide +kernel
theorem dX12_scared_6 : decode cX12_scared 6 = .ok (.invokevirtual 275, 3) := by decide +kernel
theorem dX12_scared_9 : decode cX12_scared 9 = .ok (.istore 5, 2) := by decide +kernel
theorem dX12_scared_11 : decode cX12_scared 11 = .ok (.iload 5, 2) := by decide +kernel
theorem dX12_scared_13 : decode cX12_scared 13 = .ok (.ifCond .ne 24, 3) := by decide +kernel
theorem dX12_scared_16 : decode cX12_scared 16 = .ok (.aload_n 0, 1) := by decide +kernel
theorem dX12_scared_17 : decode cX12_scared 17 = .ok (.aload_n 0, 1) := by decide +kernel
theorem dX12_scared_18 : decode cX12_scared 18 = .ok (.getfield 54, 3) := by decide +kernel
theorem dX12_scared_21 : decode cX12_scared 21 = .ok (.iload_n 1, 1) := by decide +kernel
theorem dX12_scared_22 : decode cX12_scared 22 = .ok (.iload_n 2, 1) := by decide +kernel
theorem dX12_scared_23 : decode cX12_scared 23 = .ok (.iload_n 3, 1) := by decide +kernel
theorem dX12_scared_24 : decode cX12_scared 24 = .ok (.iload 4, 2) := by decide +kernel
theorem dX12_scared_26 : decode cX12_scared 26 = .ok (.bipush 12, 2) := by decide +kernel
theorem dX12_scared_28 : decode cX12_scared 28 = .ok (.invokevirtual 279, 3) := by decide +kernel
theorem dX12_scared_31 : decode cX12_scared 31 = .ok (.invokevirtual 88, 3) := by decide +kernel
theorem dX12_scared_34 : decode cX12_scared 34 = .ok (.goto 9, 3) := by decide +kernel
theorem dX12_scared_37 : decode cX12_scared 37 = .ok (.aload_n 0, 1) := by decide +kernel
theorem dX12_scared_38 : decode cX12_scared 38 = .ok (.iload 5, 2) := by decide +kernel
theorem dX12_scared_40 : decode cX12_scared 40 = .ok (.invokevirtual 66, 3) := by decide +kernel
theorem dX12_scared_43 : decode cX12_scared 43 = .ok (.ireturn, 1) := by decide +kernel
set_option maxRecDepth 100000 in
set_option maxHeartbeats 4000000 in
theorem mX12_scared {E : goEv} {l : Launch} {G : goG} {N : Nat} {M : goMI} {L : goML} {R : goMR} {v1 : Int32} {v2 : Int32} {v3 : Int32} {v4 : Int32} {r0 : Int32} {r1 : goMI} (hk : goKn E) (hW : goW G R) (h : fX12_scared N M R v1 v2 v3 v4 = some (r0, r1)) : Met l yX12_scared (goCd yX12_scared cX12_scared 6 (Option.some FieldType.int)) (goRoom 7 181 0 0) (goPre E [.ref 0, .int v1, .int v2, .int v3, .int v4] G M L R) (goQi E r0 G r1 L R) 0 0 (goSet E) := by
  refine goMet pl_RX12 hk (lv := [some (.ref 0), some (.int v1), some (.int v2), some (.int v3), some (.int v4), none]) rfl (Nat.le_of_ble_eq_true rfl) ?_
  intro X hc hl hR hr hnm
  subst hl
  unfold fX12_scared at h
  refine go_aload0 hc dX12_scared_0 ?_
  refine go_iload1 hc dX12_scared_1 ?_
  refine go_iload2 hc dX12_scared_2 ?_
  refine go_iload3 hc dX12_scared_3 ?_
  refine go_iload4 hc dX12_scared_4 ?_
  refine go_callVi hc dX12_scared_6 (mX12_whyNoQuest hk hW rfl) ml_RX12_275 yk_X12_whyNoQuest ⟨wim_X12_whyNoQuest, wse_X12_whyNoQuest⟩ hR rfl (sh_0 hW) rfl rfl rfl (Nat.le_of_ble_eq_true rfl) rfl ?_
  replace h := goNm_x h; obtain ⟨x11, e12, h⟩ := h
  refine go_nmI e12 ?_
  refine go_istore5 hc dX12_scared_9 ?_
  refine go_iload5 hc dX12_scared_11 ?_
  refine go_if_ne hc 37 dX12_scared_13 rfl (fun c13 => ?_) (fun c13 => ?_)
  · replace h := goIfF h c13
    refine go_aload0 hc dX12_scared_37 ?_
    refine go_iload5 hc dX12_scared_38 ?_
    replace h := goB2_h h; obtain ⟨x14, M15, e16, h⟩ := h
    refine go_callVi hc dX12_scared_40 (mX12_refuse hk hW e16) ml_RX12_66 yk_X12_refuse ⟨wim_X12_refuse, wse_X12_refuse⟩ hR rfl (sh_0 hW) rfl rfl rfl (Nat.le_of_ble_eq_true rfl) rfl ?_
    cases h
    exact go_iret hc dX12_scared_43 hr
  · replace h := goIfT h c13
    refine go_aload0 hc dX12_scared_16 ?_
    refine go_aload0 hc dX12_scared_17 ?_
    refine go_getR hc lk_RX12_54 dX12_scared_18 (sh_0 hW) (rf_0_4 hW) ?_
    refine go_iload1 hc dX12_scared_21 ?_
    refine go_iload2 hc dX12_scared_22 ?_
    refine go_iload3 hc dX12_scared_23 ?_
    refine go_iload4 hc dX12_scared_24 ?_
    refine go_bipush (v := 12) hc dX12_scared_26 rfl ?_
    replace h := goB2_h h; obtain ⟨x17, M18, e19, h⟩ := h
    refine go_callVi hc dX12_scared_28 (mX8_fewest hk hW e19) ml_RX12_279 yk_X8_fewest ⟨wim_X8_fewest, wse_X8_fewest⟩ hR rfl (sh_88 hW) rfl rfl rfl (Nat.le_of_ble_eq_true rfl) rfl ?_
    replace h := goB2_h h; obtain ⟨x20, M21, e22, h⟩ := h
    refine go_callVi hc dX12_scared_31 (mX12_answer hk hW e22) ml_RX12_88 yk_X12_answer ⟨wim_X12_answer, wse_X12_answer⟩ hR rfl (sh_0 hW) rfl rfl rfl (Nat.le_of_ble_eq_true rfl) rfl ?_
    refine go_goto hc 43 dX12_scared_34 rfl ?_
    cases h
    exact go_iret hc dX12_scared_43 hr
theorem dX12_isFact_0 : decode cX12_isFact 0 = .ok (.iload_n 1, 1) := by decide +kernel
theorem dX12_isFact_1 : decode cX12_isFact 1 = .ok (.aload_n 0, 1) := by decide +kernel
theorem dX12_isFact_2 : decode cX12_isFact 2 = .ok (.getfield 26, 3) := by decide +kernel
theorem dX12_isFact_5 : decode cX12_isFact 5 = .ok (.getfield 295, 3) := by decide +kernel
theorem dX12_isFact_8 : decode cX12_isFact 8 = .ok (.getfield 382, 3) := by decide +kernel
theorem dX12_isFact_11 : decode cX12_isFact 11 = .ok (.invokestatic 156, 3) := by decide +kernel
theorem dX12_isFact_14 : decode cX12_isFact 14 = .ok (.ireturn, 1) := by decide +kernel
theorem zX12_isFact {M : goMI} {R : goMR} {v1 : Int32} : fX12_isFact M R v1 = 0 ∨ fX12_isFact M R v1 = 1 := by
  unfold fX12_isFact
  first | exact zX12_within | ((repeat' split) <;> simp; done) | (simp only [goNm]; (repeat' split) <;> simp)
set_option maxRecDepth 100000 in
set_option maxHeartbeats 4000000 in
theorem mX12_isFact {E : goEv} {l : Launch} {G : goG} {M : goMI} {L : goML} {R : goMR} {v1 : Int32} {r0 : Int32} (hk : goKn E) (hW : goW G R) (h : fX12_isFact M R v1 = r0) : Met l yX12_isFact (goCd yX12_isFact cX12_isFact 2 (Option.some FieldType.boolean)) (goRoom 1 21 0 0) (goPre E [.ref 0, .int v1] G M L R) (goQi E r0 G M L R) 0 0 (goSet E) := by
  refine goMet pl_RX12 hk (lv := [some (.ref 0), some (.int v1)]) rfl (Nat.le_of_ble_eq_true rfl) ?_
  intro X hc hl hR hr hnm
  subst hl
  unfold fX12_isFact at h
  refine go_iload1 hc dX12_isFact_0 ?_
  refine go_aload0 hc dX12_isFact_1 ?_
  refine go_getR hc lk_RX12_26 dX12_isFact_2 (sh_0 hW) (rm_0_5 hW) ?_
  refine go_getR hc lk_RX12_295 dX12_isFact_5 (shHill_0 hW (mm_0_5 hW)) (rfHill_16 hW (mm_0_5 hW)) ?_
  refine go_getI hc lk_RX12_382 dX12_isFact_8 (shLaw_0 hW (subLaw (mm_0_5 hW))) ?_
  refine go_callSi hc dX12_isFact_11 (mX12_within hk hW rfl) ml_RX12_156 yk_X12_within wst_X12_within hR rfl rfl rfl (Nat.le_of_ble_eq_true rfl) rfl ?_
  subst h
  exact go_zret hc dX12_isFact_14 hr (goZ_n zX12_within)
theorem dX12_follows_0 : decode cX12_follows 0 = .ok (.aload_n 0, 1) := by decide +kernel
theorem dX12_follows_1 : decode cX12_follows 1 = .ok (.iload_n 1, 1) := by decide +kernel
theorem dX12_follows_2 : decode cX12_follows 2 = .ok (.invokevirtual 292, 3) := by decide +kernel
theorem dX12_follows_5 : decode cX12_follows 5 = .ok (.ifCond .eq 35, 3) := by decide +kernel
theorem dX12_follows_8 : decode cX12_follows 8 = .ok (.aload_n 0, 1) := by decide +kernel
theorem dX12_follows_9 : decode cX12_follows 9 = .ok (.aload_n 0, 1) := by decide +kernel
theorem dX12_follows_10 : decode cX12_follows 10 = .ok (.getfield 26, 3) := by decide +kernel
theorem dX12_follows_13 : decode cX12_follows 13 = .ok (.getfield 295, 3) := by decide +kernel
theorem dX12_follows_16 : decode cX12_follows 16 = .ok (.aload_n 0, 1) := by decide +kernel
theorem dX12_follows_17 : decode cX12_follows 17 = .ok (.getfield 26, 3) := by decide +kernel
theorem dX12_follows_20 : decode cX12_follows 20 = .ok (.getfield 295, 3) := by decide +kernel
theorem dX12_follows_23 : decode cX12_follows 23 = .ok (.getfield 299, 3) := by decide +kernel
theorem dX12_follows_26 : decode cX12_follows 26 = .ok (.iconst (-1), 1) := by decide +kernel
theorem dX12_follows_27 : decode cX12_follows 27 = .ok (.invokevirtual 304, 3) := by decide +kernel
theorem dX12_follows_30 : decode cX12_follows 30 = .ok (.iload_n 1, 1) := by decide +kernel
theorem dX12_follows_31 : decode cX12_follows 31 = .ok (.invokestatic 150, 3) := by decide +kernel
theorem dX12_follows_34 : decode cX12_follows 34 = .ok (.invokevirtual 88, 3) := by decide +kernel
theorem dX12_follows_37 : decode cX12_follows 37 = .ok (.goto 8, 3) := by decide +kernel
theorem dX12_follows_40 : decode cX12_follows 40 = .ok (.aload_n 0, 1) := by decide +kernel
theorem dX12_follows_41 : decode cX12_follows 41 = .ok (.iconst 1, 1) := by decide +kernel
theorem dX12_follows_42 : decode cX12_follows 42 = .ok (.invokevirtual 66, 3) := by decide +kernel
theorem dX12_follows_45 : decode cX12_follows 45 = .ok (.ireturn, 1) := by decide +kernel
set_option maxRecDepth 100000 in
set_option maxHeartbeats 4000000 in
theorem mX12_follows {E : goEv} {l : Launch} {G : goG} {N : Nat} {M : goMI} {L : goML} {R : goMR} {v1 : Int32} {r0 : Int32} {r1 : goMI} (hk : goKn E) (hW : goW G R) (h : fX12_follows N M R v1 = some (r0, r1)) : Met l yX12_follows (goCd yX12_follows cX12_follows 2 (Option.some FieldType.int)) (goRoom 2 42 0 0) (goPre E [.ref 0, .int v1] G M L R) (goQi E r0 G r1 L R) 0 0 (goSet E) := by
  refine goMet pl_RX12 hk (lv := [some (.ref 0), some (.int v1)]) rfl (Nat.le_of_ble_eq_true rfl) ?_
  intro X hc hl hR hr hnm
  subst hl
  unfold fX12_follows at h
  refine go_aload0 hc dX12_follows_0 ?_
  refine go_iload1 hc dX12_follows_1 ?_
  refine go_callVi hc dX12_follows_2 (mX12_isFact hk hW rfl) ml_RX12_292 yk_X12_isFact ⟨wim_X12_isFact, wse_X12_isFact⟩ hR rfl (sh_0 hW) rfl rfl rfl (Nat.le_of_ble_eq_true rfl) rfl ?_
  refine go_if_eq hc 40 dX12_follows_5 rfl (fun c11 => ?_) (fun c11 => ?_)
  · replace h := goIfT h c11
    refine go_aload0 hc dX12_follows_40 ?_
    refine go_iconst (v := 1) hc dX12_follows_41 rfl ?_
    replace h := goB2_h h; obtain ⟨x12, M13, e14, h⟩ := h
    refine go_callVi hc dX12_follows_42 (mX12_refuse hk hW e14) ml_RX12_66 yk_X12_refuse ⟨wim_X12_refuse, wse_X12_refuse⟩ hR rfl (sh_0 hW) rfl rfl rfl (Nat.le_of_ble_eq_true rfl) rfl ?_
    cases h
    exact go_iret hc dX12_follows_45 hr
  · replace h := goIfF h c11
    refine go_aload0 hc dX12_follows_8 ?_
    refine go_aload0 hc dX12_follows_9 ?_
    refine go_getR hc lk_RX12_26 dX12_follows_10 (sh_0 hW) (rm_0_5 hW) ?_
    refine go_getR hc lk_RX12_295 dX12_follows_13 (shHill_0 hW (mm_0_5 hW)) (rfHill_16 hW (mm_0_5 hW)) ?_
    refine go_aload0 hc dX12_follows_16 ?_
    refine go_getR hc lk_RX12_26 dX12_follows_17 (sh_0 hW) (rm_0_5 hW) ?_
    refine go_getR hc lk_RX12_295 dX12_follows_20 (shHill_0 hW (mm_0_5 hW)) (rfHill_16 hW (mm_0_5 hW)) ?_
    refine go_getI hc lk_RX12_299 dX12_follows_23 (shLaw_0 hW (subLaw (mm_0_5 hW))) ?_
    refine go_iconst (v := (-1)) hc dX12_follows_26 rfl ?_
    replace h := goBind h; obtain ⟨x15, e16, h⟩ := h
    refine go_callVi hc dX12_follows_27 (mX7_known hk hW (subLaw (mm_0_5 hW)) e16) ml_RX12_304 yk_X7_known ⟨wim_X7_known, wse_X7_known⟩ hR rfl (shLaw_0 hW (subLaw (mm_0_5 hW))) rfl rfl rfl (Nat.le_of_ble_eq_true rfl) rfl ?_
    refine go_iload1 hc dX12_follows_30 ?_
    refine go_callSi hc dX12_follows_31 (mX12_bit hk hW rfl) ml_RX12_150 yk_X12_bit wst_X12_bit hR rfl rfl rfl (Nat.le_of_ble_eq_true rfl) rfl ?_
    replace h := goB2_h h; obtain ⟨x17, M18, e19, h⟩ := h
    refine go_callVi hc dX12_follows_34 (mX12_answer hk hW e19) ml_RX12_88 yk_X12_answer ⟨wim_X12_answer, wse_X12_answer⟩ hR rfl (sh_0 hW) rfl rfl rfl (Nat.le_of_ble_eq_true rfl) rfl ?_
    refine go_goto hc 45 dX12_follows_37 rfl ?_
    cases h
    exact go_iret hc dX12_follows_45 hr
theorem dX12_step_0 : decode cX12_step 0 = .ok (.aload_n 0, 1) := by decide +kernel
theorem dX12_step_1 : decode cX12_step 1 = .ok (.invokevirtual 227, 3) := by decide +kernel
theorem dX12_step_4 : decode cX12_step 4 = .ok (.ifCond .ne 9, 3) := by decide +kernel
theorem dX12_step_7 : decode cX12_step 7 = .ok (.aload_n 0, 1) := by decide +kernel
theorem dX12_step_8 : decode cX12_step 8 = .ok (.iconst 1, 1) := by decide +kernel
theorem dX12_step_9 : decode cX12_step 9 = .ok (.invokevirtual 66, 3) := by decide +kernel
theorem dX12_step_12 : decode cX12_step 12 = .ok (.ireturn, 1) := by decide +kernel
theorem dX12_step_13 : decode cX12_step 13 = .ok (.aload_n 0, 1) := by decide +kernel
theorem dX12_step_14 : decode cX12_step 14 = .ok (.getfield 26, 3) := by decide +kernel
theorem dX12_step_17 : decode cX12_step 17 = .ok (.getfield 295, 3) := by decide +kernel
theorem dX12_step_20 : decode cX12_step 20 = .ok (.getfield 307, 3) := by decide +kernel
theorem dX12_step_23 : decode cX12_step 23 = .ok (.ifCond .le 20, 3) := by decide +kernel
theorem dX12_step_26 : decode cX12_step 26 = .ok (.aload_n 0, 1) := by decide +kernel
theorem dX12_step_27 : decode cX12_step 27 = .ok (.aload_n 0, 1) := by decide +kernel
theorem dX12_step_28 : decode cX12_step 28 = .ok (.getfield 26, 3) := by decide +kernel
theorem dX12_step_31 : decode cX12_step 31 = .ok (.getfield 295, 3) := by decide +kernel
theorem dX12_step_34 : decode cX12_step 34 = .ok (.invokevirtual 310, 3) := by decide +kernel
theorem dX12_step_37 : decode cX12_step 37 = .ok (.invokevirtual 88, 3) := by decide +kernel
theorem dX12_step_40 : decode cX12_step 40 = .ok (.goto 9, 3) := by decide +kernel
theorem dX12_step_43 : decode cX12_step 43 = .ok (.aload_n 0, 1) := by decide +kernel
theorem dX12_step_44 : decode cX12_step 44 = .ok (.bipush 6, 2) := by decide +kernel
theorem dX12_step_46 : decode cX12_step 46 = .ok (.invokevirtual 66, 3) := by decide +kernel
theorem dX12_step_49 : decode cX12_step 49 = .ok (.ireturn, 1) := by decide +kernel
set_option maxRecDepth 100000 in
set_option maxHeartbeats 4000000 in
theorem mX12_step {E : goEv} {l : Launch} {G : goG} {N : Nat} {M : goMI} {L : goML} {R : goMR} {r0 : Int32} {r1 : goMI} (hk : goKn E) (hW : goW G R) (h : fX12_step N M R = some (r0, r1)) : Met l yX12_step (goCd yX12_step cX12_step 1 (Option.some FieldType.int)) (goRoom 3 66 0 0) (goPre E [.ref 0] G M L R) (goQi E r0 G r1 L R) 0 0 (goSet E) := by
  refine goMet pl_RX12 hk (lv := [some (.ref 0)]) rfl (Nat.le_of_ble_eq_true rfl) ?_
  intro X hc hl hR hr hnm
  subst hl
  unfold fX12_step at h
  refine go_aload0 hc dX12_step_0 ?_
  refine go_callVi hc dX12_step_1 (mX12_isHill hk hW rfl) ml_RX12_227 yk_X12_isHill ⟨wim_X12_isHill, wse_X12_isHill⟩ hR rfl (sh_0 hW) rfl rfl rfl (Nat.le_of_ble_eq_true rfl) rfl ?_
  refine go_if_ne hc 13 dX12_step_4 rfl (fun c11 => ?_) (fun c11 => ?_)
  · replace h := goIfF h c11
    refine go_aload0 hc dX12_step_13 ?_
    refine go_getR hc lk_RX12_26 dX12_step_14 (sh_0 hW) (rm_0_5 hW) ?_
    refine go_getR hc lk_RX12_295 dX12_step_17 (shHill_0 hW (mm_0_5 hW)) (rfHill_16 hW (mm_0_5 hW)) ?_
    refine go_getI hc lk_RX12_307 dX12_step_20 (shLaw_0 hW (subLaw (mm_0_5 hW))) ?_
    refine go_if_le hc 43 dX12_step_23 rfl (fun c12 => ?_) (fun c12 => ?_)
    · replace h := goIfF h c12
      refine go_aload0 hc dX12_step_43 ?_
      refine go_bipush (v := 6) hc dX12_step_44 rfl ?_
      replace h := goB2_h h; obtain ⟨x13, M14, e15, h⟩ := h
      refine go_callVi hc dX12_step_46 (mX12_refuse hk hW e15) ml_RX12_66 yk_X12_refuse ⟨wim_X12_refuse, wse_X12_refuse⟩ hR rfl (sh_0 hW) rfl rfl rfl (Nat.le_of_ble_eq_true rfl) rfl ?_
      cases h
      exact go_iret hc dX12_step_49 hr
    · replace h := goIfT h c12
      refine go_aload0 hc dX12_step_26 ?_
      refine go_aload0 hc dX12_step_27 ?_
      refine go_getR hc lk_RX12_26 dX12_step_28 (sh_0 hW) (rm_0_5 hW) ?_
      refine go_getR hc lk_RX12_295 dX12_step_31 (shHill_0 hW (mm_0_5 hW)) (rfHill_16 hW (mm_0_5 hW)) ?_
      replace h := goBind h; obtain ⟨x16, e17, h⟩ := h
      refine go_callVi hc dX12_step_34 (mX7_firstWrongStep hk hW (subLaw (mm_0_5 hW)) e17) ml_RX12_310 yk_X7_firstWrongStep ⟨wim_X7_firstWrongStep, wse_X7_firstWrongStep⟩ hR rfl (shLaw_0 hW (subLaw (mm_0_5 hW))) rfl rfl rfl (Nat.le_of_ble_eq_true rfl) rfl ?_
      replace h := goB2_h h; obtain ⟨x18, M19, e20, h⟩ := h
      refine go_callVi hc dX12_step_37 (mX12_answer hk hW e20) ml_RX12_88 yk_X12_answer ⟨wim_X12_answer, wse_X12_answer⟩ hR rfl (sh_0 hW) rfl rfl rfl (Nat.le_of_ble_eq_true rfl) rfl ?_
      refine go_goto hc 49 dX12_step_40 rfl ?_
      cases h
      exact go_iret hc dX12_step_49 hr
  · replace h := goIfT h c11
    refine go_aload0 hc dX12_step_7 ?_
    refine go_iconst (v := 1) hc dX12_step_8 rfl ?_
    replace h := goB2_h h; obtain ⟨x21, M22, e23, h⟩ := h
    refine go_callVi hc dX12_step_9 (mX12_refuse hk hW e23) ml_RX12_66 yk_X12_refuse ⟨wim_X12_refuse, wse_X12_refuse⟩ hR rfl (sh_0 hW) rfl rfl rfl (Nat.le_of_ble_eq_true rfl) rfl ?_
    cases h
    exact go_iret hc dX12_step_12 hr
theorem dX12_needs_0 : decode cX12_needs 0 = .ok (.aload_n 0, 1) := by decide +kernel
theorem dX12_needs_1 : decode cX12_needs 1 = .ok (.iload_n 1, 1) := by decide +kernel
theorem dX12_needs_2 : decode cX12_needs 2 = .ok (.invokevirtual 292, 3) := by decide +kernel
theorem dX12_needs_5 : decode cX12_needs 5 = .ok (.ifCond .eq 21, 3) := by decide +kernel
theorem dX12_needs_8 : decode cX12_needs 8 = .ok (.aload_n 0, 1) := by decide +kernel
theorem dX12_needs_9 : decode cX12_needs 9 = .ok (.aload_n 0, 1) := by decide +kernel
theorem dX12_needs_10 : decode cX12_needs 10 = .ok (.getfield 26, 3) := by decide +kernel
theorem dX12_needs_13 : decode cX12_needs 13 = .ok (.getfield 295, 3) := by decide +kernel
theorem dX12_needs_16 : decode cX12_needs 16 = .ok (.iload_n 1, 1) := by decide +kernel
theorem dX12_needs_17 : decode cX12_needs 17 = .ok (.invokevirtual 313, 3) := by decide +kernel
theorem dX12_needs_20 : decode cX12_needs 20 = .ok (.invokevirtual 88, 3) := by decide +kernel
theorem dX12_needs_23 : decode cX12_needs 23 = .ok (.goto 8, 3) := by decide +kernel
theorem dX12_needs_26 : decode cX12_needs 26 = .ok (.aload_n 0, 1) := by decide +kernel
theorem dX12_needs_27 : decode cX12_needs 27 = .ok (.iconst 1, 1) := by decide +kernel
theorem dX12_needs_28 : decode cX12_needs 28 = .ok (.invokevirtual 66, 3) := by decide +kernel
theorem dX12_needs_31 : decode cX12_needs 31 = .ok (.ireturn, 1) := by decide +kernel
set_option maxRecDepth 100000 in
set_option maxHeartbeats 4000000 in
theorem mX12_needs {E : goEv} {l : Launch} {G : goG} {N : Nat} {M : goMI} {L : goML} {R : goMR} {v1 : Int32} {r0 : Int32} {r1 : goMI} (hk : goKn E) (hW : goW G R) (h : fX12_needs N M R v1 = some (r0, r1)) : Met l yX12_needs (goCd yX12_needs cX12_needs 2 (Option.some FieldType.int)) (goRoom 2 48 0 0) (goPre E [.ref 0, .int v1] G M L R) (goQi E r0 G r1 L R) 0 0 (goSet E) := by
  refine goMet pl_RX12 hk (lv := [some (.ref 0), some (.int v1)]) rfl (Nat.le_of_ble_eq_true rfl) ?_
  intro X hc hl hR hr hnm
  subst hl
  unfold fX12_needs at h
  refine go_aload0 hc dX12_needs_0 ?_
  refine go_iload1 hc dX12_needs_1 ?_
  refine go_callVi hc dX12_needs_2 (mX12_isFact hk hW rfl) ml_RX12_292 yk_X12_isFact ⟨wim_X12_isFact, wse_X12_isFact⟩ hR rfl (sh_0 hW) rfl rfl rfl (Nat.le_of_ble_eq_true rfl) rfl ?_
  refine go_if_eq hc 26 dX12_needs_5 rfl (fun c11 => ?_) (fun c11 => ?_)
  · replace h := goIfT h c11
    refine go_aload0 hc dX12_needs_26 ?_
    refine go_iconst (v := 1) hc dX12_needs_27 rfl ?_
    replace h := goB2_h h; obtain ⟨x12, M13, e14, h⟩ := h
    refine go_callVi hc dX12_needs_28 (mX12_refuse hk hW e14) ml_RX12_66 yk_X12_refuse ⟨wim_X12_refuse, wse_X12_refuse⟩ hR rfl (sh_0 hW) rfl rfl rfl (Nat.le_of_ble_eq_true rfl) rfl ?_
    cases h
    exact go_iret hc dX12_needs_31 hr
  · replace h := goIfF h c11
    refine go_aload0 hc dX12_needs_8 ?_
    refine go_aload0 hc dX12_needs_9 ?_
    refine go_getR hc lk_RX12_26 dX12_needs_10 (sh_0 hW) (rm_0_5 hW) ?_
    refine go_getR hc lk_RX12_295 dX12_needs_13 (shHill_0 hW (mm_0_5 hW)) (rfHill_16 hW (mm_0_5 hW)) ?_
    refine go_iload1 hc dX12_needs_16 ?_
    replace h := goBind h; obtain ⟨x15, e16, h⟩ := h
    refine go_callVi hc dX12_needs_17 (mX7_neededRules hk hW (subLaw (mm_0_5 hW)) e16) ml_RX12_313 yk_X7_neededRules ⟨wim_X7_neededRules, wse_X7_neededRules⟩ hR rfl (shLaw_0 hW (subLaw (mm_0_5 hW))) rfl rfl rfl (Nat.le_of_ble_eq_true rfl) rfl ?_
    replace h := goB2_h h; obtain ⟨x17, M18, e19, h⟩ := h
    refine go_callVi hc dX12_needs_20 (mX12_answer hk hW e19) ml_RX12_88 yk_X12_answer ⟨wim_X12_answer, wse_X12_answer⟩ hR rfl (sh_0 hW) rfl rfl rfl (Nat.le_of_ble_eq_true rfl) rfl ?_
    refine go_goto hc 31 dX12_needs_23 rfl ?_
    cases h
    exact go_iret hc dX12_needs_31 hr
theorem dX12_enough_0 : decode cX12_enough 0 = .ok (.aload_n 0, 1) := by decide +kernel
theorem dX12_enough_1 : decode cX12_enough 1 = .ok (.iload_n 1, 1) := by decide +kernel
theorem dX12_enough_2 : decode cX12_enough 2 = .ok (.invokevirtual 292, 3) := by decide +kernel
theorem dX12_enough_5 : decode cX12_enough 5 = .ok (.ifCond .eq 21, 3) := by decide +kernel
theorem dX12_enough_8 : decode cX12_enough 8 = .ok (.aload_n 0, 1) := by decide +kernel
theorem dX12_enough_9 : decode cX12_enough 9 = .ok (.aload_n 0, 1) := by decide +kernel
theorem dX12_enough_10 : decode cX12_enough 10 = .ok (.getfield 26, 3) := by decide +kernel
theorem dX12_enough_13 : decode cX12_enough 13 = .ok (.getfield 295, 3) := by decide +kernel
theorem dX12_enough_16 : decode cX12_enough 16 = .ok (.iload_n 1, 1) := by decide +kernel
theorem dX12_enough_17 : decode cX12_enough 17 = .ok (.invokevirtual 316, 3) := by decide +kernel
theorem dX12_enough_20 : decode cX12_enough 20 = .ok (.invokevirtual 88, 3) := by decide +kernel
theorem dX12_enough_23 : decode cX12_enough 23 = .ok (.goto 8, 3) := by decide +kernel
theorem dX12_enough_26 : decode cX12_enough 26 = .ok (.aload_n 0, 1) := by decide +kernel
theorem dX12_enough_27 : decode cX12_enough 27 = .ok (.iconst 1, 1) := by decide +kernel
theorem dX12_enough_28 : decode cX12_enough 28 = .ok (.invokevirtual 66, 3) := by decide +kernel
theorem dX12_enough_31 : decode cX12_enough 31 = .ok (.ireturn, 1) := by decide +kernel
set_option maxRecDepth 100000 in
set_option maxHeartbeats 4000000 in
theorem mX12_enough {E : goEv} {l : Launch} {G : goG} {N : Nat} {M : goMI} {L : goML} {R : goMR} {v1 : Int32} {r0 : Int32} {r1 : goMI} (hk : goKn E) (hW : goW G R) (h : fX12_enough N M R v1 = some (r0, r1)) : Met l yX12_enough (goCd yX12_enough cX12_enough 2 (Option.some FieldType.int)) (goRoom 2 50 0 0) (goPre E [.ref 0, .int v1] G M L R) (goQi E r0 G r1 L R) 0 0 (goSet E) := by
  refine goMet pl_RX12 hk (lv := [some (.ref 0), some (.int v1)]) rfl (Nat.le_of_ble_eq_true rfl) ?_
  intro X hc hl hR hr hnm
  subst hl
  unfold fX12_enough at h
  refine go_aload0 hc dX12_enough_0 ?_
  refine go_iload1 hc dX12_enough_1 ?_
  refine go_callVi hc dX12_enough_2 (mX12_isFact hk hW rfl) ml_RX12_292 yk_X12_isFact ⟨wim_X12_isFact, wse_X12_isFact⟩ hR rfl (sh_0 hW) rfl rfl rfl (Nat.le_of_ble_eq_true rfl) rfl ?_
  refine go_if_eq hc 26 dX12_enough_5 rfl (fun c11 => ?_) (fun c11 => ?_)
  · replace h := goIfT h c11
    refine go_aload0 hc dX12_enough_26 ?_
    refine go_iconst (v := 1) hc dX12_enough_27 rfl ?_
    replace h := goB2_h h; obtain ⟨x12, M13, e14, h⟩ := h
    refine go_callVi hc dX12_enough_28 (mX12_refuse hk hW e14) ml_RX12_66 yk_X12_refuse ⟨wim_X12_refuse, wse_X12_refuse⟩ hR rfl (sh_0 hW) rfl rfl rfl (Nat.le_of_ble_eq_true rfl) rfl ?_
    cases h
    exact go_iret hc dX12_enough_31 hr
  · replace h := goIfF h c11
    refine go_aload0 hc dX12_enough_8 ?_
    refine go_aload0 hc dX12_enough_9 ?_
    refine go_getR hc lk_RX12_26 dX12_enough_10 (sh_0 hW) (rm_0_5 hW) ?_
    refine go_getR hc lk_RX12_295 dX12_enough_13 (shHill_0 hW (mm_0_5 hW)) (rfHill_16 hW (mm_0_5 hW)) ?_
    refine go_iload1 hc dX12_enough_16 ?_
    replace h := goBind h; obtain ⟨x15, e16, h⟩ := h
    refine go_callVi hc dX12_enough_17 (mX7_fewestFacts hk hW (subLaw (mm_0_5 hW)) e16) ml_RX12_316 yk_X7_fewestFacts ⟨wim_X7_fewestFacts, wse_X7_fewestFacts⟩ hR rfl (shLaw_0 hW (subLaw (mm_0_5 hW))) rfl rfl rfl (Nat.le_of_ble_eq_true rfl) rfl ?_
    replace h := goB2_h h; obtain ⟨x17, M18, e19, h⟩ := h
    refine go_callVi hc dX12_enough_20 (mX12_answer hk hW e19) ml_RX12_88 yk_X12_answer ⟨wim_X12_answer, wse_X12_answer⟩ hR rfl (sh_0 hW) rfl rfl rfl (Nat.le_of_ble_eq_true rfl) rfl ?_
    refine go_goto hc 31 dX12_enough_23 rfl ?_
    cases h
    exact go_iret hc dX12_enough_31 hr
theorem dX12_cheese_0 : decode cX12_cheese 0 = .ok (.aload_n 0, 1) := by decide +kernel
theorem dX12_cheese_1 : decode cX12_cheese 1 = .ok (.iload_n 1, 1) := by decide +kernel
theorem dX12_cheese_2 : decode cX12_cheese 2 = .ok (.invokevirtual 191, 3) := by decide +kernel
theorem dX12_cheese_5 : decode cX12_cheese 5 = .ok (.ifCond .ne 9, 3) := by decide +kernel
theorem dX12_cheese_8 : decode cX12_cheese 8 = .ok (.aload_n 0, 1) := by decide +kernel
theorem dX12_cheese_9 : decode cX12_cheese 9 = .ok (.iconst 1, 1) := by decide +kernel
theorem dX12_cheese_10 : decode cX12_cheese 10 = .ok (.invokevirtual 66, 3) := by decide +kernel
theorem dX12_cheese_13 : decode cX12_cheese 13 = .ok (.ireturn, 1) := by decide +kernel
theorem dX12_cheese_14 : decode cX12_cheese 14 = .ok (.aload_n 0, 1) := by decide +kernel
theorem dX12_cheese_15 : decode cX12_cheese 15 = .ok (.getfield 26, 3) := by decide +kernel
theorem dX12_cheese_18 : decode cX12_cheese 18 = .ok (.getfield 319, 3) := by decide +kernel
theorem dX12_cheese_21 : decode cX12_cheese 21 = .ok (.ifCond .eq 21, 3) := by decide +kernel
theorem dX12_cheese_24 : decode cX12_cheese 24 = .ok (.aload_n 0, 1) := by decide +kernel
theorem dX12_cheese_25 : decode cX12_cheese 25 = .ok (.aload_n 0, 1) := by decide +kernel
theorem dX12_cheese_26 : decode cX12_cheese 26 = .ok (.getfield 47, 3) := by decide +kernel
theorem dX12_cheese_29 : decode cX12_cheese 29 = .ok (.iload_n 1, 1) := by decide +kernel
theorem dX12_cheese_30 : decode cX12_cheese 30 = .ok (.invokevirtual 197, 3) := by decide +kernel
theorem dX12_cheese_33 : decode cX12_cheese 33 = .ok (.invokevirtual 323, 3) := by decide +kernel
theorem dX12_cheese_36 : decode cX12_cheese 36 = .ok (.invokevirtual 88, 3) := by decide +kernel
theorem dX12_cheese_39 : decode cX12_cheese 39 = .ok (.goto 9, 3) := by decide +kernel
theorem dX12_cheese_42 : decode cX12_cheese 42 = .ok (.aload_n 0, 1) := by decide +kernel
theorem dX12_cheese_43 : decode cX12_cheese 43 = .ok (.bipush 6, 2) := by decide +kernel
theorem dX12_cheese_45 : decode cX12_cheese 45 = .ok (.invokevirtual 66, 3) := by decide +kernel
theorem dX12_cheese_48 : decode cX12_cheese 48 = .ok (.ireturn, 1) := by decide +kernel
set_option maxRecDepth 100000 in
set_option maxHeartbeats 4000000 in
theorem mX12_cheese {E : goEv} {l : Launch} {G : goG} {N : Nat} {M : goMI} {L : goML} {R : goMR} {v1 : Int32} {r0 : Int32} {r1 : goMI} (hk : goKn E) (hW : goW G R) (h : fX12_cheese N M R v1 = some (r0, r1)) : Met l yX12_cheese (goCd yX12_cheese cX12_cheese 2 (Option.some FieldType.int)) (goRoom 5 126 0 0) (goPre E [.ref 0, .int v1] G M L R) (goQi E r0 G r1 L R) 0 0 (goSet E) := by
  refine goMet pl_RX12 hk (lv := [some (.ref 0), some (.int v1)]) rfl (Nat.le_of_ble_eq_true rfl) ?_
  intro X hc hl hR hr hnm
  subst hl
  unfold fX12_cheese at h
  refine go_aload0 hc dX12_cheese_0 ?_
  refine go_iload1 hc dX12_cheese_1 ?_
  refine go_callVi hc dX12_cheese_2 (mX12_isCase hk hW rfl) ml_RX12_191 yk_X12_isCase ⟨wim_X12_isCase, wse_X12_isCase⟩ hR rfl (sh_0 hW) rfl rfl rfl (Nat.le_of_ble_eq_true rfl) rfl ?_
  refine go_if_ne hc 14 dX12_cheese_5 rfl (fun c11 => ?_) (fun c11 => ?_)
  · replace h := goIfF h c11
    refine go_aload0 hc dX12_cheese_14 ?_
    refine go_getR hc lk_RX12_26 dX12_cheese_15 (sh_0 hW) (rm_0_5 hW) ?_
    refine go_getI hc lk_RX12_319 dX12_cheese_18 (shHill_0 hW (mm_0_5 hW)) ?_
    refine go_if_eq hc 42 dX12_cheese_21 rfl (fun c12 => ?_) (fun c12 => ?_)
    · replace h := goIfT h c12
      refine go_aload0 hc dX12_cheese_42 ?_
      refine go_bipush (v := 6) hc dX12_cheese_43 rfl ?_
      replace h := goB2_h h; obtain ⟨x13, M14, e15, h⟩ := h
      refine go_callVi hc dX12_cheese_45 (mX12_refuse hk hW e15) ml_RX12_66 yk_X12_refuse ⟨wim_X12_refuse, wse_X12_refuse⟩ hR rfl (sh_0 hW) rfl rfl rfl (Nat.le_of_ble_eq_true rfl) rfl ?_
      cases h
      exact go_iret hc dX12_cheese_48 hr
    · replace h := goIfF h c12
      refine go_aload0 hc dX12_cheese_24 ?_
      refine go_aload0 hc dX12_cheese_25 ?_
      refine go_getR hc lk_RX12_47 dX12_cheese_26 (sh_0 hW) (rf_0_3 hW) ?_
      refine go_iload1 hc dX12_cheese_29 ?_
      replace h := goBind h; obtain ⟨M16, e17, h⟩ := h
      refine go_callVr hc dX12_cheese_30 (mX4_dayOf hk hW e17) ml_RX12_197 yk_X4_dayOf ⟨wim_X4_dayOf, wse_X4_dayOf⟩ hR rfl (sh_74 hW) rfl rfl rfl (Nat.le_of_ble_eq_true rfl) rfl ?_
      replace h := goBind h; obtain ⟨x18, e19, h⟩ := h
      refine go_callVi hc dX12_cheese_33 (mX3_countMilkers hk hW mb_78 e19) ml_RX12_323 yk_X3_countMilkers ⟨wim_X3_countMilkers, wse_X3_countMilkers⟩ hR rfl (shDay_0 hW mb_78) rfl rfl rfl (Nat.le_of_ble_eq_true rfl) rfl ?_
      replace h := goB2_h h; obtain ⟨x20, M21, e22, h⟩ := h
      refine go_callVi hc dX12_cheese_36 (mX12_answer hk hW e22) ml_RX12_88 yk_X12_answer ⟨wim_X12_answer, wse_X12_answer⟩ hR rfl (sh_0 hW) rfl rfl rfl (Nat.le_of_ble_eq_true rfl) rfl ?_
      refine go_goto hc 48 dX12_cheese_39 rfl ?_
      cases h
      exact go_iret hc dX12_cheese_48 hr
  · replace h := goIfT h c11
    refine go_aload0 hc dX12_cheese_8 ?_
    refine go_iconst (v := 1) hc dX12_cheese_9 rfl ?_
    replace h := goB2_h h; obtain ⟨x23, M24, e25, h⟩ := h
    refine go_callVi hc dX12_cheese_10 (mX12_refuse hk hW e25) ml_RX12_66 yk_X12_refuse ⟨wim_X12_refuse, wse_X12_refuse⟩ hR rfl (sh_0 hW) rfl rfl rfl (Nat.le_of_ble_eq_true rfl) rfl ?_
    cases h
    exact go_iret hc dX12_cheese_13 hr
theorem dX12_cheeseOf_0 : decode cX12_cheeseOf 0 = .ok (.aload_n 0, 1) := by decide +kernel
theorem dX12_cheeseOf_1 : decode cX12_cheeseOf 1 = .ok (.iload_n 1, 1) := by decide +kernel
theorem dX12_cheeseOf_2 : decode cX12_cheeseOf 2 = .ok (.invokevirtual 191, 3) := by decide +kernel
theorem dX12_cheeseOf_5 : decode cX12_cheeseOf 5 = .ok (.ifCond .ne 9, 3) := by decide +kernel
theorem dX12_cheeseOf_8 : decode cX12_cheeseOf 8 = .ok (.aload_n 0, 1) := by decide +kernel
theorem dX12_cheeseOf_9 : decode cX12_cheeseOf 9 = .ok (.iconst 1, 1) := by decide +kernel
theorem dX12_cheeseOf_10 : decode cX12_cheeseOf 10 = .ok (.invokevirtual 66, 3) := by decide +kernel
theorem dX12_cheeseOf_13 : decode cX12_cheeseOf 13 = .ok (.ireturn, 1) := by decide +kernel
theorem dX12_cheeseOf_14 : decode cX12_cheeseOf 14 = .ok (.aload_n 0, 1) := by decide +kernel
theorem dX12_cheeseOf_15 : decode cX12_cheeseOf 15 = .ok (.getfield 26, 3) := by decide +kernel
theorem dX12_cheeseOf_18 : decode cX12_cheeseOf 18 = .ok (.getfield 319, 3) := by decide +kernel
theorem dX12_cheeseOf_21 : decode cX12_cheeseOf 21 = .ok (.ifCond .eq 21, 3) := by decide +kernel
theorem dX12_cheeseOf_24 : decode cX12_cheeseOf 24 = .ok (.aload_n 0, 1) := by decide +kernel
theorem dX12_cheeseOf_25 : decode cX12_cheeseOf 25 = .ok (.aload_n 0, 1) := by decide +kernel
theorem dX12_cheeseOf_26 : decode cX12_cheeseOf 26 = .ok (.getfield 47, 3) := by decide +kernel
theorem dX12_cheeseOf_29 : decode cX12_cheeseOf 29 = .ok (.iload_n 1, 1) := by decide +kernel
theorem dX12_cheeseOf_30 : decode cX12_cheeseOf 30 = .ok (.invokevirtual 197, 3) := by decide +kernel
theorem dX12_cheeseOf_33 : decode cX12_cheeseOf 33 = .ok (.invokevirtual 326, 3) := by decide +kernel
theorem dX12_cheeseOf_36 : decode cX12_cheeseOf 36 = .ok (.invokevirtual 88, 3) := by decide +kernel
theorem dX12_cheeseOf_39 : decode cX12_cheeseOf 39 = .ok (.goto 9, 3) := by decide +kernel
theorem dX12_cheeseOf_42 : decode cX12_cheeseOf 42 = .ok (.aload_n 0, 1) := by decide +kernel
theorem dX12_cheeseOf_43 : decode cX12_cheeseOf 43 = .ok (.bipush 6, 2) := by decide +kernel
theorem dX12_cheeseOf_45 : decode cX12_cheeseOf 45 = .ok (.invokevirtual 66, 3) := by decide +kernel
theorem dX12_cheeseOf_48 : decode cX12_cheeseOf 48 = .ok (.ireturn, 1) := by decide +kernel
set_option maxRecDepth 100000 in
set_option maxHeartbeats 4000000 in
theorem mX12_cheeseOf {E : goEv} {l : Launch} {G : goG} {N : Nat} {M : goMI} {L : goML} {R : goMR} {v1 : Int32} {r0 : Int32} {r1 : goMI} (hk : goKn E) (hW : goW G R) (h : fX12_cheeseOf N M R v1 = some (r0, r1)) : Met l yX12_cheeseOf (goCd yX12_cheeseOf cX12_cheeseOf 2 (Option.some FieldType.int)) (goRoom 5 126 0 0) (goPre E [.ref 0, .int v1] G M L R) (goQi E r0 G r1 L R) 0 0 (goSet E) := by
  refine goMet pl_RX12 hk (lv := [some (.ref 0), some (.int v1)]) rfl (Nat.le_of_ble_eq_true rfl) ?_
  intro X hc hl hR hr hnm
  subst hl
  unfold fX12_cheeseOf at h
  refine go_aload0 hc dX12_cheeseOf_0 ?_
  refine go_iload1 hc dX12_cheeseOf_1 ?_
  refine go_callVi hc dX12_cheeseOf_2 (mX12_isCase hk hW rfl) ml_RX12_191 yk_X12_isCase ⟨wim_X12_isCase, wse_X12_isCase⟩ hR rfl (sh_0 hW) rfl rfl rfl (Nat.le_of_ble_eq_true rfl) rfl ?_
  refine go_if_ne hc 14 dX12_cheeseOf_5 rfl (fun c11 => ?_) (fun c11 => ?_)
  · replace h := goIfF h c11
    refine go_aload0 hc dX12_cheeseOf_14 ?_
    refine go_getR hc lk_RX12_26 dX12_cheeseOf_15 (sh_0 hW) (rm_0_5 hW) ?_
    refine go_getI hc lk_RX12_319 dX12_cheeseOf_18 (shHill_0 hW (mm_0_5 hW)) ?_
    refine go_if_eq hc 42 dX12_cheeseOf_21 rfl (fun c12 => ?_) (fun c12 => ?_)
    · replace h := goIfT h c12
      refine go_aload0 hc dX12_cheeseOf_42 ?_
      refine go_bipush (v := 6) hc dX12_cheeseOf_43 rfl ?_
      replace h := goB2_h h; obtain ⟨x13, M14, e15, h⟩ := h
      refine go_callVi hc dX12_cheeseOf_45 (mX12_refuse hk hW e15) ml_RX12_66 yk_X12_refuse ⟨wim_X12_refuse, wse_X12_refuse⟩ hR rfl (sh_0 hW) rfl rfl rfl (Nat.le_of_ble_eq_true rfl) rfl ?_
      cases h
      exact go_iret hc dX12_cheeseOf_48 hr
    · replace h := goIfF h c12
      refine go_aload0 hc dX12_cheeseOf_24 ?_
      refine go_aload0 hc dX12_cheeseOf_25 ?_
      refine go_getR hc lk_RX12_47 dX12_cheeseOf_26 (sh_0 hW) (rf_0_3 hW) ?_
      refine go_iload1 hc dX12_cheeseOf_29 ?_
      replace h := goBind h; obtain ⟨M16, e17, h⟩ := h
      refine go_callVr hc dX12_cheeseOf_30 (mX4_dayOf hk hW e17) ml_RX12_197 yk_X4_dayOf ⟨wim_X4_dayOf, wse_X4_dayOf⟩ hR rfl (sh_74 hW) rfl rfl rfl (Nat.le_of_ble_eq_true rfl) rfl ?_
      replace h := goBind h; obtain ⟨x18, e19, h⟩ := h
      refine go_callVi hc dX12_cheeseOf_33 (mX3_leastMilkers hk hW mb_78 e19) ml_RX12_326 yk_X3_leastMilkers ⟨wim_X3_leastMilkers, wse_X3_leastMilkers⟩ hR rfl (shDay_0 hW mb_78) rfl rfl rfl (Nat.le_of_ble_eq_true rfl) rfl ?_
      replace h := goB2_h h; obtain ⟨x20, M21, e22, h⟩ := h
      refine go_callVi hc dX12_cheeseOf_36 (mX12_answer hk hW e22) ml_RX12_88 yk_X12_answer ⟨wim_X12_answer, wse_X12_answer⟩ hR rfl (sh_0 hW) rfl rfl rfl (Nat.le_of_ble_eq_true rfl) rfl ?_
      refine go_goto hc 48 dX12_cheeseOf_39 rfl ?_
      cases h
      exact go_iret hc dX12_cheeseOf_48 hr
  · replace h := goIfT h c11
    refine go_aload0 hc dX12_cheeseOf_8 ?_
    refine go_iconst (v := 1) hc dX12_cheeseOf_9 rfl ?_
    replace h := goB2_h h; obtain ⟨x23, M24, e25, h⟩ := h
    refine go_callVi hc dX12_cheeseOf_10 (mX12_refuse hk hW e25) ml_RX12_66 yk_X12_refuse ⟨wim_X12_refuse, wse_X12_refuse⟩ hR rfl (sh_0 hW) rfl rfl rfl (Nat.le_of_ble_eq_true rfl) rfl ?_
    cases h
    exact go_iret hc dX12_cheeseOf_13 hr
theorem dX12_appeals_0 : decode cX12_appeals 0 = .ok (.aload_n 0, 1) := by decide +kernel
theorem dX12_appeals_1 : decode cX12_appeals 1 = .ok (.invokevirtual 227, 3) := by decide +kernel
theorem dX12_appeals_4 : decode cX12_appeals 4 = .ok (.ifCond .ne 10, 3) := by decide +kernel
theorem dX12_appeals_7 : decode cX12_appeals 7 = .ok (.aload_n 0, 1) := by decide +kernel
theorem dX12_appeals_8 : decode cX12_appeals 8 = .ok (.iconst 1, 1) := by decide +kernel
theorem dX12_appeals_9 : decode cX12_appeals 9 = .ok (.invokevirtual 66, 3) := by decide +kernel
theorem dX12_appeals_12 : decode cX12_appeals 12 = .ok (.i2l, 1) := by decide +kernel
theorem dX12_appeals_13 : decode cX12_appeals 13 = .ok (.lreturn, 1) := by decide +kernel
theorem dX12_appeals_14 : decode cX12_appeals 14 = .ok (.aload_n 0, 1) := by decide +kernel
theorem dX12_appeals_15 : decode cX12_appeals 15 = .ok (.iconst 0, 1) := by decide +kernel
theorem dX12_appeals_16 : decode cX12_appeals 16 = .ok (.putfield 91, 3) := by decide +kernel
theorem dX12_appeals_19 : decode cX12_appeals 19 = .ok (.aload_n 0, 1) := by decide +kernel
theorem dX12_appeals_20 : decode cX12_appeals 20 = .ok (.getfield 26, 3) := by decide +kernel
theorem dX12_appeals_23 : decode cX12_appeals 23 = .ok (.getfield 329, 3) := by decide +kernel
theorem dX12_appeals_26 : decode cX12_appeals 26 = .ok (.invokevirtual 333, 3) := by decide +kernel
theorem dX12_appeals_29 : decode cX12_appeals 29 = .ok (.lreturn, 1) := by decide +kernel
set_option maxRecDepth 100000 in
set_option maxHeartbeats 4000000 in
theorem mX12_appeals {E : goEv} {l : Launch} {G : goG} {N : Nat} {M : goMI} {L : goML} {R : goMR} {r0 : Int64} {r1 : goMI} {r2 : goML} (hk : goKn E) (hW : goW G R) (h : fX12_appeals N M L R = some (r0, r1, r2)) : Met l yX12_appeals (goCd yX12_appeals cX12_appeals 1 (Option.some FieldType.long)) (goRoom 3 67 0 0) (goPre E [.ref 0] G M L R) (goQl E r0 G r1 r2 R) 0 0 (goSet E) := by
  refine goMet pl_RX12 hk (lv := [some (.ref 0)]) rfl (Nat.le_of_ble_eq_true rfl) ?_
  intro X hc hl hR hr hnm
  subst hl
  unfold fX12_appeals at h
  refine go_aload0 hc dX12_appeals_0 ?_
  refine go_callVi hc dX12_appeals_1 (mX12_isHill hk hW rfl) ml_RX12_227 yk_X12_isHill ⟨wim_X12_isHill, wse_X12_isHill⟩ hR rfl (sh_0 hW) rfl rfl rfl (Nat.le_of_ble_eq_true rfl) rfl ?_
  refine go_if_ne hc 14 dX12_appeals_4 rfl (fun c11 => ?_) (fun c11 => ?_)
  · replace h := goIfF h c11
    refine go_aload0 hc dX12_appeals_14 ?_
    refine go_iconst (v := 0) hc dX12_appeals_15 rfl ?_
    replace h := goNm_x h; obtain ⟨M12, e13, h⟩ := h
    refine go_ptI hc lk_RX12_91 dX12_appeals_16 (sh_0 hW) e13 ?_
    refine go_aload0 hc dX12_appeals_19 ?_
    refine go_getR hc lk_RX12_26 dX12_appeals_20 (sh_0 hW) (rm_0_5 hW) ?_
    refine go_getR hc lk_RX12_329 dX12_appeals_23 (shHill_0 hW (mm_0_5 hW)) (rfHill_17 hW (mm_0_5 hW)) ?_
    replace h := goB3_h h; obtain ⟨x14, M15, L16, e17, h⟩ := h
    refine go_callVl hc dX12_appeals_26 (mX2_leastCosts hk hW (subCourts (mm_0_5 hW)) e17) ml_RX12_333 yk_X2_leastCosts ⟨wim_X2_leastCosts, wse_X2_leastCosts⟩ hR rfl (shCourts_0 hW (subCourts (mm_0_5 hW))) rfl rfl rfl (Nat.le_of_ble_eq_true rfl) rfl ?_
    cases h
    exact go_lret hc dX12_appeals_29 hr
  · replace h := goIfT h c11
    refine go_aload0 hc dX12_appeals_7 ?_
    refine go_iconst (v := 1) hc dX12_appeals_8 rfl ?_
    replace h := goB2_h h; obtain ⟨x18, M19, e20, h⟩ := h
    refine go_callVi hc dX12_appeals_9 (mX12_refuse hk hW e20) ml_RX12_66 yk_X12_refuse ⟨wim_X12_refuse, wse_X12_refuse⟩ hR rfl (sh_0 hW) rfl rfl rfl (Nat.le_of_ble_eq_true rfl) rfl ?_
    refine go_i2l hc dX12_appeals_12 ?_
    cases h
    exact go_lret hc dX12_appeals_13 hr
theorem dX12_appealAt_0 : decode cX12_appealAt 0 = .ok (.iload_n 1, 1) := by decide +kernel
theorem dX12_appealAt_1 : decode cX12_appealAt 1 = .ok (.aload_n 0, 1) := by decide +kernel
theorem dX12_appealAt_2 : decode cX12_appealAt 2 = .ok (.getfield 26, 3) := by decide +kernel
theorem dX12_appealAt_5 : decode cX12_appealAt 5 = .ok (.getfield 329, 3) := by decide +kernel
theorem dX12_appealAt_8 : decode cX12_appealAt 8 = .ok (.getfield 339, 3) := by decide +kernel
theorem dX12_appealAt_11 : decode cX12_appealAt 11 = .ok (.invokestatic 156, 3) := by decide +kernel
theorem dX12_appealAt_14 : decode cX12_appealAt 14 = .ok (.ifCond .eq 21, 3) := by decide +kernel
theorem dX12_appealAt_17 : decode cX12_appealAt 17 = .ok (.aload_n 0, 1) := by decide +kernel
theorem dX12_appealAt_18 : decode cX12_appealAt 18 = .ok (.aload_n 0, 1) := by decide +kernel
theorem dX12_appealAt_19 : decode cX12_appealAt 19 = .ok (.getfield 26, 3) := by decide +kernel
theorem dX12_appealAt_22 : decode cX12_appealAt 22 = .ok (.getfield 329, 3) := by decide +kernel
theorem dX12_appealAt_25 : decode cX12_appealAt 25 = .ok (.iload_n 1, 1) := by decide +kernel
theorem dX12_appealAt_26 : decode cX12_appealAt 26 = .ok (.invokevirtual 340, 3) := by decide +kernel
theorem dX12_appealAt_29 : decode cX12_appealAt 29 = .ok (.invokevirtual 88, 3) := by decide +kernel
theorem dX12_appealAt_32 : decode cX12_appealAt 32 = .ok (.goto 8, 3) := by decide +kernel
theorem dX12_appealAt_35 : decode cX12_appealAt 35 = .ok (.aload_n 0, 1) := by decide +kernel
theorem dX12_appealAt_36 : decode cX12_appealAt 36 = .ok (.iconst 1, 1) := by decide +kernel
theorem dX12_appealAt_37 : decode cX12_appealAt 37 = .ok (.invokevirtual 66, 3) := by decide +kernel
theorem dX12_appealAt_40 : decode cX12_appealAt 40 = .ok (.ireturn, 1) := by decide +kernel
set_option maxRecDepth 100000 in
set_option maxHeartbeats 4000000 in
theorem mX12_appealAt {E : goEv} {l : Launch} {G : goG} {N : Nat} {M : goMI} {L : goML} {R : goMR} {v1 : Int32} {r0 : Int32} {r1 : goMI} {r2 : goML} (hk : goKn E) (hW : goW G R) (h : fX12_appealAt N M L R v1 = some (r0, r1, r2)) : Met l yX12_appealAt (goCd yX12_appealAt cX12_appealAt 2 (Option.some FieldType.int)) (goRoom 3 70 0 0) (goPre E [.ref 0, .int v1] G M L R) (goQi E r0 G r1 r2 R) 0 0 (goSet E) := by
  refine goMet pl_RX12 hk (lv := [some (.ref 0), some (.int v1)]) rfl (Nat.le_of_ble_eq_true rfl) ?_
  intro X hc hl hR hr hnm
  subst hl
  unfold fX12_appealAt at h
  refine go_iload1 hc dX12_appealAt_0 ?_
  refine go_aload0 hc dX12_appealAt_1 ?_
  refine go_getR hc lk_RX12_26 dX12_appealAt_2 (sh_0 hW) (rm_0_5 hW) ?_
  refine go_getR hc lk_RX12_329 dX12_appealAt_5 (shHill_0 hW (mm_0_5 hW)) (rfHill_17 hW (mm_0_5 hW)) ?_
  refine go_getI hc lk_RX12_339 dX12_appealAt_8 (shCourts_0 hW (subCourts (mm_0_5 hW))) ?_
  refine go_callSi hc dX12_appealAt_11 (mX12_within hk hW rfl) ml_RX12_156 yk_X12_within wst_X12_within hR rfl rfl rfl (Nat.le_of_ble_eq_true rfl) rfl ?_
  refine go_if_eq hc 35 dX12_appealAt_14 rfl (fun c11 => ?_) (fun c11 => ?_)
  · replace h := goIfT h c11
    refine go_aload0 hc dX12_appealAt_35 ?_
    refine go_iconst (v := 1) hc dX12_appealAt_36 rfl ?_
    replace h := goB2_h h; obtain ⟨x12, M13, e14, h⟩ := h
    refine go_callVi hc dX12_appealAt_37 (mX12_refuse hk hW e14) ml_RX12_66 yk_X12_refuse ⟨wim_X12_refuse, wse_X12_refuse⟩ hR rfl (sh_0 hW) rfl rfl rfl (Nat.le_of_ble_eq_true rfl) rfl ?_
    cases h
    exact go_iret hc dX12_appealAt_40 hr
  · replace h := goIfF h c11
    refine go_aload0 hc dX12_appealAt_17 ?_
    refine go_aload0 hc dX12_appealAt_18 ?_
    refine go_getR hc lk_RX12_26 dX12_appealAt_19 (sh_0 hW) (rm_0_5 hW) ?_
    refine go_getR hc lk_RX12_329 dX12_appealAt_22 (shHill_0 hW (mm_0_5 hW)) (rfHill_17 hW (mm_0_5 hW)) ?_
    refine go_iload1 hc dX12_appealAt_25 ?_
    replace h := goB3_h h; obtain ⟨x15, M16, L17, e18, h⟩ := h
    refine go_callVi hc dX12_appealAt_26 (mX2_inBestOrder hk hW (subCourts (mm_0_5 hW)) e18) ml_RX12_340 yk_X2_inBestOrder ⟨wim_X2_inBestOrder, wse_X2_inBestOrder⟩ hR rfl (shCourts_0 hW (subCourts (mm_0_5 hW))) rfl rfl rfl (Nat.le_of_ble_eq_true rfl) rfl ?_
    replace h := goB2_h h; obtain ⟨x19, M20, e21, h⟩ := h
    refine go_callVi hc dX12_appealAt_29 (mX12_answer hk hW e21) ml_RX12_88 yk_X12_answer ⟨wim_X12_answer, wse_X12_answer⟩ hR rfl (sh_0 hW) rfl rfl rfl (Nat.le_of_ble_eq_true rfl) rfl ?_
    refine go_goto hc 40 dX12_appealAt_32 rfl ?_
    cases h
    exact go_iret hc dX12_appealAt_40 hr
theorem dX12_putOrTake_0 : decode cX12_putOrTake 0 = .ok (.aload_n 0, 1) := by decide +kernel
theorem dX12_putOrTake_1 : decode cX12_putOrTake 1 = .ok (.iload_n 2, 1) := by decide +kernel
theorem dX12_putOrTake_2 : decode cX12_putOrTake 2 = .ok (.invokevirtual 97, 3) := by decide +kernel
theorem dX12_putOrTake_5 : decode cX12_putOrTake 5 = .ok (.ifCond .ne 5, 3) := by decide +kernel
theorem dX12_putOrTake_8 : decode cX12_putOrTake 8 = .ok (.iconst 1, 1) := by decide +kernel
theorem dX12_putOrTake_9 : decode cX12_putOrTake 9 = .ok (.ireturn, 1) := by decide +kernel
theorem dX12_putOrTake_10 : decode cX12_putOrTake 10 = .ok (.aload_n 0, 1) := by decide +kernel
theorem dX12_putOrTake_11 : decode cX12_putOrTake 11 = .ok (.iload_n 3, 1) := by decide +kernel
theorem dX12_putOrTake_12 : decode cX12_putOrTake 12 = .ok (.invokevirtual 184, 3) := by decide +kernel
theorem dX12_putOrTake_15 : decode cX12_putOrTake 15 = .ok (.ifCond .ne 5, 3) := by decide +kernel
theorem dX12_putOrTake_18 : decode cX12_putOrTake 18 = .ok (.iconst 2, 1) := by decide +kernel
theorem dX12_putOrTake_19 : decode cX12_putOrTake 19 = .ok (.ireturn, 1) := by decide +kernel
theorem dX12_putOrTake_20 : decode cX12_putOrTake 20 = .ok (.iload 4, 2) := by decide +kernel
theorem dX12_putOrTake_22 : decode cX12_putOrTake 22 = .ok (.ifCond .eq 35, 3) := by decide +kernel
theorem dX12_putOrTake_25 : decode cX12_putOrTake 25 = .ok (.aload_n 0, 1) := by decide +kernel
theorem dX12_putOrTake_26 : decode cX12_putOrTake 26 = .ok (.getfield 19, 3) := by decide +kernel
theorem dX12_putOrTake_29 : decode cX12_putOrTake 29 = .ok (.getfield 147, 3) := by decide +kernel
theorem dX12_putOrTake_32 : decode cX12_putOrTake 32 = .ok (.iload_n 1, 1) := by decide +kernel
theorem dX12_putOrTake_33 : decode cX12_putOrTake 33 = .ok (.iload_n 3, 1) := by decide +kernel
theorem dX12_putOrTake_34 : decode cX12_putOrTake 34 = .ok (.iadd, 1) := by decide +kernel
theorem dX12_putOrTake_35 : decode cX12_putOrTake 35 = .ok (.iaload, 1) := by decide +kernel
theorem dX12_putOrTake_36 : decode cX12_putOrTake 36 = .ok (.iload_n 2, 1) := by decide +kernel
theorem dX12_putOrTake_37 : decode cX12_putOrTake 37 = .ok (.invokestatic 150, 3) := by decide +kernel
theorem dX12_putOrTake_40 : decode cX12_putOrTake 40 = .ok (.ifCond .ne 17, 3) := by decide +kernel
theorem dX12_putOrTake_43 : decode cX12_putOrTake 43 = .ok (.aload_n 0, 1) := by decide +kernel
theorem dX12_putOrTake_44 : decode cX12_putOrTake 44 = .ok (.getfield 19, 3) := by decide +kernel
theorem dX12_putOrTake_47 : decode cX12_putOrTake 47 = .ok (.iload_n 1, 1) := by decide +kernel
theorem dX12_putOrTake_48 : decode cX12_putOrTake 48 = .ok (.invokevirtual 394, 3) := by decide +kernel
theorem dX12_putOrTake_51 : decode cX12_putOrTake 51 = .ok (.iconst 4, 1) := by decide +kernel
theorem dX12_putOrTake_52 : decode cX12_putOrTake 52 = .ok (.if_icmp .lt 5, 3) := by decide +kernel
theorem dX12_putOrTake_55 : decode cX12_putOrTake 55 = .ok (.iconst 3, 1) := by decide +kernel
theorem dX12_putOrTake_56 : decode cX12_putOrTake 56 = .ok (.ireturn, 1) := by decide +kernel
theorem dX12_putOrTake_57 : decode cX12_putOrTake 57 = .ok (.aload_n 0, 1) := by decide +kernel
theorem dX12_putOrTake_58 : decode cX12_putOrTake 58 = .ok (.getfield 19, 3) := by decide +kernel
theorem dX12_putOrTake_61 : decode cX12_putOrTake 61 = .ok (.iload_n 1, 1) := by decide +kernel
theorem dX12_putOrTake_62 : decode cX12_putOrTake 62 = .ok (.iload_n 3, 1) := by decide +kernel
theorem dX12_putOrTake_63 : decode cX12_putOrTake 63 = .ok (.iadd, 1) := by decide +kernel
theorem dX12_putOrTake_64 : decode cX12_putOrTake 64 = .ok (.iload_n 2, 1) := by decide +kernel
theorem dX12_putOrTake_65 : decode cX12_putOrTake 65 = .ok (.iload 4, 2) := by decide +kernel
theorem dX12_putOrTake_67 : decode cX12_putOrTake 67 = .ok (.invokevirtual 353, 3) := by decide +kernel
theorem dX12_putOrTake_70 : decode cX12_putOrTake 70 = .ok (.ireturn, 1) := by decide +kernel
set_option maxRecDepth 100000 in
set_option maxHeartbeats 4000000 in
theorem mX12_putOrTake {E : goEv} {l : Launch} {G : goG} {N : Nat} {M : goMI} {L : goML} {R : goMR} {v1 : Int32} {v2 : Int32} {v3 : Int32} {v4 : Int32} {r0 : Int32} {r1 : goMI} (hk : goKn E) (hW : goW G R) (h : fX12_putOrTake N M R v1 v2 v3 v4 = some (r0, r1)) : Met l yX12_putOrTake (goCd yX12_putOrTake cX12_putOrTake 5 (Option.some FieldType.int)) (goRoom 2 63 0 0) (goPre E [.ref 0, .int v1, .int v2, .int v3, .int v4] G M L R) (goQi E r0 G r1 L R) 0 0 (goSet E) := by
  refine goMet pl_RX12 hk (lv := [some (.ref 0), some (.int v1), some (.int v2), some (.int v3), some (.int v4)]) rfl (Nat.le_of_ble_eq_true rfl) ?_
  intro X hc hl hR hr hnm
  subst hl
  unfold fX12_putOrTake at h
  refine go_aload0 hc dX12_putOrTake_0 ?_
  refine go_iload2 hc dX12_putOrTake_1 ?_
  refine go_callVi hc dX12_putOrTake_2 (mX12_isPlace hk hW rfl) ml_RX12_97 yk_X12_isPlace ⟨wim_X12_isPlace, wse_X12_isPlace⟩ hR rfl (sh_0 hW) rfl rfl rfl (Nat.le_of_ble_eq_true rfl) rfl ?_
  refine go_if_ne hc 10 dX12_putOrTake_5 rfl (fun c11 => ?_) (fun c11 => ?_)
  · replace h := goIfF h c11
    refine go_aload0 hc dX12_putOrTake_10 ?_
    refine go_iload3 hc dX12_putOrTake_11 ?_
    refine go_callVi hc dX12_putOrTake_12 (mX12_isHour hk hW rfl) ml_RX12_184 yk_X12_isHour ⟨wim_X12_isHour, wse_X12_isHour⟩ hR rfl (sh_0 hW) rfl rfl rfl (Nat.le_of_ble_eq_true rfl) rfl ?_
    refine go_if_ne hc 20 dX12_putOrTake_15 rfl (fun c12 => ?_) (fun c12 => ?_)
    · replace h := goIfF h c12
      refine go_iload4 hc dX12_putOrTake_20 ?_
      refine go_if_eq hc 57 dX12_putOrTake_22 rfl (fun c13 => ?_) (fun c13 => ?_)
      · replace h := goIfT h c13
        refine go_aload0 hc dX12_putOrTake_57 ?_
        refine go_getR hc lk_RX12_19 dX12_putOrTake_58 (sh_0 hW) (rf_0_2 hW) ?_
        refine go_iload1 hc dX12_putOrTake_61 ?_
        refine go_iload3 hc dX12_putOrTake_62 ?_
        refine go_iadd hc dX12_putOrTake_63 ?_
        refine go_iload2 hc dX12_putOrTake_64 ?_
        refine go_iload4 hc dX12_putOrTake_65 ?_
        replace h := goB2_h h; obtain ⟨x14, M15, e16, h⟩ := h
        refine go_callVi hc dX12_putOrTake_67 (mX1_change hk hW e16) ml_RX12_353 yk_X1_change ⟨wim_X1_change, wse_X1_change⟩ hR rfl (sh_3 hW) rfl rfl rfl (Nat.le_of_ble_eq_true rfl) rfl ?_
        cases h
        exact go_iret hc dX12_putOrTake_70 hr
      · replace h := goIfF h c13
        refine go_aload0 hc dX12_putOrTake_25 ?_
        refine go_getR hc lk_RX12_19 dX12_putOrTake_26 (sh_0 hW) (rf_0_2 hW) ?_
        refine go_getR hc lk_RX12_147 dX12_putOrTake_29 (sh_3 hW) (rf_3_0 hW) ?_
        refine go_iload1 hc dX12_putOrTake_32 ?_
        refine go_iload3 hc dX12_putOrTake_33 ?_
        refine go_iadd hc dX12_putOrTake_34 ?_
        replace h := goBind h; obtain ⟨x17, e18, h⟩ := h
        refine go_iald hc dX12_putOrTake_35 (sh_4 hW) e18 ?_
        refine go_iload2 hc dX12_putOrTake_36 ?_
        refine go_callSi hc dX12_putOrTake_37 (mX12_bit hk hW rfl) ml_RX12_150 yk_X12_bit wst_X12_bit hR rfl rfl rfl (Nat.le_of_ble_eq_true rfl) rfl ?_
        refine go_if_ne hc 57 dX12_putOrTake_40 rfl (fun c19 => ?_) (fun c19 => ?_)
        · replace h := goIfF h c19
          refine go_aload0 hc dX12_putOrTake_57 ?_
          refine go_getR hc lk_RX12_19 dX12_putOrTake_58 (sh_0 hW) (rf_0_2 hW) ?_
          refine go_iload1 hc dX12_putOrTake_61 ?_
          refine go_iload3 hc dX12_putOrTake_62 ?_
          refine go_iadd hc dX12_putOrTake_63 ?_
          refine go_iload2 hc dX12_putOrTake_64 ?_
          refine go_iload4 hc dX12_putOrTake_65 ?_
          replace h := goB2_h h; obtain ⟨x20, M21, e22, h⟩ := h
          refine go_callVi hc dX12_putOrTake_67 (mX1_change hk hW e22) ml_RX12_353 yk_X1_change ⟨wim_X1_change, wse_X1_change⟩ hR rfl (sh_3 hW) rfl rfl rfl (Nat.le_of_ble_eq_true rfl) rfl ?_
          cases h
          exact go_iret hc dX12_putOrTake_70 hr
        · replace h := goIfT h c19
          refine go_aload0 hc dX12_putOrTake_43 ?_
          refine go_getR hc lk_RX12_19 dX12_putOrTake_44 (sh_0 hW) (rf_0_2 hW) ?_
          refine go_iload1 hc dX12_putOrTake_47 ?_
          replace h := goBind h; obtain ⟨x23, e24, h⟩ := h
          refine go_callVi hc dX12_putOrTake_48 (mX1_countPut hk hW e24) ml_RX12_394 yk_X1_countPut ⟨wim_X1_countPut, wse_X1_countPut⟩ hR rfl (sh_3 hW) rfl rfl rfl (Nat.le_of_ble_eq_true rfl) rfl ?_
          refine go_iconst (v := 4) hc dX12_putOrTake_51 rfl ?_
          refine go_icmp_lt hc 57 dX12_putOrTake_52 rfl (fun c25 => ?_) (fun c25 => ?_)
          · replace h := goIfF h c25
            refine go_aload0 hc dX12_putOrTake_57 ?_
            refine go_getR hc lk_RX12_19 dX12_putOrTake_58 (sh_0 hW) (rf_0_2 hW) ?_
            refine go_iload1 hc dX12_putOrTake_61 ?_
            refine go_iload3 hc dX12_putOrTake_62 ?_
            refine go_iadd hc dX12_putOrTake_63 ?_
            refine go_iload2 hc dX12_putOrTake_64 ?_
            refine go_iload4 hc dX12_putOrTake_65 ?_
            replace h := goB2_h h; obtain ⟨x26, M27, e28, h⟩ := h
            refine go_callVi hc dX12_putOrTake_67 (mX1_change hk hW e28) ml_RX12_353 yk_X1_change ⟨wim_X1_change, wse_X1_change⟩ hR rfl (sh_3 hW) rfl rfl rfl (Nat.le_of_ble_eq_true rfl) rfl ?_
            cases h
            exact go_iret hc dX12_putOrTake_70 hr
          · replace h := goIfT h c25
            refine go_iconst (v := 3) hc dX12_putOrTake_55 rfl ?_
            cases h
            exact go_iret hc dX12_putOrTake_56 hr
    · replace h := goIfT h c12
      refine go_iconst (v := 2) hc dX12_putOrTake_18 rfl ?_
      cases h
      exact go_iret hc dX12_putOrTake_19 hr
  · replace h := goIfT h c11
    refine go_iconst (v := 1) hc dX12_putOrTake_8 rfl ?_
    cases h
    exact go_iret hc dX12_putOrTake_9 hr
theorem dX12_done_0 : decode cX12_done 0 = .ok (.aload_n 0, 1) := by decide +kernel
theorem dX12_done_1 : decode cX12_done 1 = .ok (.iload_n 1, 1) := by decide +kernel
theorem dX12_done_2 : decode cX12_done 2 = .ok (.putfield 91, 3) := by decide +kernel
theorem dX12_done_5 : decode cX12_done 5 = .ok (.iload_n 1, 1) := by decide +kernel
theorem dX12_done_6 : decode cX12_done 6 = .ok (.ifCond .ne 7, 3) := by decide +kernel
theorem dX12_done_9 : decode cX12_done 9 = .ok (.iconst 1, 1) := by decide +kernel
theorem dX12_done_10 : decode cX12_done 10 = .ok (.goto 4, 3) := by decide +kernel
theorem dX12_done_13 : decode cX12_done 13 = .ok (.iconst 0, 1) := by decide +kernel
theorem dX12_done_14 : decode cX12_done 14 = .ok (.ireturn, 1) := by decide +kernel
set_option maxRecDepth 100000 in
set_option maxHeartbeats 4000000 in
theorem mX12_done {E : goEv} {l : Launch} {G : goG} {M : goMI} {L : goML} {R : goMR} {v1 : Int32} {r0 : Int32} {r1 : goMI} (hk : goKn E) (hW : goW G R) (h : fX12_done M v1 = some (r0, r1)) : Met l yX12_done (goCd yX12_done cX12_done 2 (Option.some FieldType.boolean)) (goRoom 0 0 0 0) (goPre E [.ref 0, .int v1] G M L R) (goQi E r0 G r1 L R) 0 0 (goSet E) := by
  refine goMet pl_RX12 hk (lv := [some (.ref 0), some (.int v1)]) rfl (Nat.le_of_ble_eq_true rfl) ?_
  intro X hc hl hR hr hnm
  subst hl
  unfold fX12_done at h
  refine go_aload0 hc dX12_done_0 ?_
  refine go_iload1 hc dX12_done_1 ?_
  replace h := goNm_x h; obtain ⟨M11, e12, h⟩ := h
  refine go_ptI hc lk_RX12_91 dX12_done_2 (sh_0 hW) e12 ?_
  refine go_iload1 hc dX12_done_5 ?_
  refine go_if_ne hc 13 dX12_done_6 rfl (fun c13 => ?_) (fun c13 => ?_)
  · replace h := goIfF h c13
    refine go_iconst (v := 0) hc dX12_done_13 rfl ?_
    cases h
    exact go_zret hc dX12_done_14 hr rfl
  · replace h := goIfT h c13
    refine go_iconst (v := 1) hc dX12_done_9 rfl ?_
    refine go_goto hc 14 dX12_done_10 rfl ?_
    cases h
    exact go_zret hc dX12_done_14 hr rfl
theorem dX12_salt_0 : decode cX12_salt 0 = .ok (.aload_n 0, 1) := by decide +kernel
theorem dX12_salt_1 : decode cX12_salt 1 = .ok (.aload_n 0, 1) := by decide +kernel
theorem dX12_salt_2 : decode cX12_salt 2 = .ok (.iconst 0, 1) := by decide +kernel
theorem dX12_salt_3 : decode cX12_salt 3 = .ok (.iload_n 1, 1) := by decide +kernel
theorem dX12_salt_4 : decode cX12_salt 4 = .ok (.iload_n 2, 1) := by decide +kernel
theorem dX12_salt_5 : decode cX12_salt 5 = .ok (.iload_n 3, 1) := by decide +kernel
theorem dX12_salt_6 : decode cX12_salt 6 = .ok (.invokevirtual 343, 3) := by decide +kernel
theorem dX12_salt_9 : decode cX12_salt 9 = .ok (.invokevirtual 347, 3) := by decide +kernel
theorem dX12_salt_12 : decode cX12_salt 12 = .ok (.ireturn, 1) := by decide +kernel
set_option maxRecDepth 100000 in
set_option maxHeartbeats 4000000 in
theorem mX12_salt {E : goEv} {l : Launch} {G : goG} {N : Nat} {M : goMI} {L : goML} {R : goMR} {v1 : Int32} {v2 : Int32} {v3 : Int32} {r0 : Int32} {r1 : goMI} (hk : goKn E) (hW : goW G R) (h : fX12_salt N M R v1 v2 v3 = some (r0, r1)) : Met l yX12_salt (goCd yX12_salt cX12_salt 4 (Option.some FieldType.boolean)) (goRoom 3 87 0 0) (goPre E [.ref 0, .int v1, .int v2, .int v3] G M L R) (goQi E r0 G r1 L R) 0 0 (goSet E) := by
  refine goMet pl_RX12 hk (lv := [some (.ref 0), some (.int v1), some (.int v2), some (.int v3)]) rfl (Nat.le_of_ble_eq_true rfl) ?_
  intro X hc hl hR hr hnm
  subst hl
  unfold fX12_salt at h
  refine go_aload0 hc dX12_salt_0 ?_
  refine go_aload0 hc dX12_salt_1 ?_
  refine go_iconst (v := 0) hc dX12_salt_2 rfl ?_
  refine go_iload1 hc dX12_salt_3 ?_
  refine go_iload2 hc dX12_salt_4 ?_
  refine go_iload3 hc dX12_salt_5 ?_
  replace h := goB2_h h; obtain ⟨x11, M12, e13, h⟩ := h
  refine go_callVi hc dX12_salt_6 (mX12_putOrTake hk hW e13) ml_RX12_343 yk_X12_putOrTake ⟨wim_X12_putOrTake, wse_X12_putOrTake⟩ hR rfl (sh_0 hW) rfl rfl rfl (Nat.le_of_ble_eq_true rfl) rfl ?_
  replace h := goB2_h h; obtain ⟨x14, M15, e16, h⟩ := h
  refine go_callVi hc dX12_salt_9 (mX12_done hk hW e16) ml_RX12_347 yk_X12_done ⟨wim_X12_done, wse_X12_done⟩ hR rfl (sh_0 hW) rfl rfl rfl (Nat.le_of_ble_eq_true rfl) rfl ?_
  replace h := goBind h; obtain ⟨x17, e18, h⟩ := h
  obtain ⟨ze18, rfl⟩ := goZr_h e18
  cases h
  exact go_zret hc dX12_salt_12 hr (goZ_n ze18)
theorem dX12_dog_0 : decode cX12_dog 0 = .ok (.aload_n 0, 1) := by decide +kernel
theorem dX12_dog_1 : decode cX12_dog 1 = .ok (.aload_n 0, 1) := by decide +kernel
theorem dX12_dog_2 : decode cX12_dog 2 = .ok (.bipush 12, 2) := by decide +kernel
theorem dX12_dog_4 : decode cX12_dog 4 = .ok (.iload_n 1, 1) := by decide +kernel
theorem dX12_dog_5 : decode cX12_dog 5 = .ok (.iload_n 2, 1) := by decide +kernel
theorem dX12_dog_6 : decode cX12_dog 6 = .ok (.iload_n 3, 1) := by decide +kernel
theorem dX12_dog_7 : decode cX12_dog 7 = .ok (.invokevirtual 343, 3) := by decide +kernel
theorem dX12_dog_10 : decode cX12_dog 10 = .ok (.invokevirtual 347, 3) := by decide +kernel
theorem dX12_dog_13 : decode cX12_dog 13 = .ok (.ireturn, 1) := by decide +kernel
set_option maxRecDepth 100000 in
set_option maxHeartbeats 4000000 in
theorem mX12_dog {E : goEv} {l : Launch} {G : goG} {N : Nat} {M : goMI} {L : goML} {R : goMR} {v1 : Int32} {v2 : Int32} {v3 : Int32} {r0 : Int32} {r1 : goMI} (hk : goKn E) (hW : goW G R) (h : fX12_dog N M R v1 v2 v3 = some (r0, r1)) : Met l yX12_dog (goCd yX12_dog cX12_dog 4 (Option.some FieldType.boolean)) (goRoom 3 87 0 0) (goPre E [.ref 0, .int v1, .int v2, .int v3] G M L R) (goQi E r0 G r1 L R) 0 0 (goSet E) := by
  refine goMet pl_RX12 hk (lv := [some (.ref 0), some (.int v1), some (.int v2), some (.int v3)]) rfl (Nat.le_of_ble_eq_true rfl) ?_
  intro X hc hl hR hr hnm
  subst hl
  unfold fX12_dog at h
  refine go_aload0 hc dX12_dog_0 ?_
  refine go_aload0 hc dX12_dog_1 ?_
  refine go_bipush (v := 12) hc dX12_dog_2 rfl ?_
  refine go_iload1 hc dX12_dog_4 ?_
  refine go_iload2 hc dX12_dog_5 ?_
  refine go_iload3 hc dX12_dog_6 ?_
  replace h := goB2_h h; obtain ⟨x11, M12, e13, h⟩ := h
  refine go_callVi hc dX12_dog_7 (mX12_putOrTake hk hW e13) ml_RX12_343 yk_X12_putOrTake ⟨wim_X12_putOrTake, wse_X12_putOrTake⟩ hR rfl (sh_0 hW) rfl rfl rfl (Nat.le_of_ble_eq_true rfl) rfl ?_
  replace h := goB2_h h; obtain ⟨x14, M15, e16, h⟩ := h
  refine go_callVi hc dX12_dog_10 (mX12_done hk hW e16) ml_RX12_347 yk_X12_done ⟨wim_X12_done, wse_X12_done⟩ hR rfl (sh_0 hW) rfl rfl rfl (Nat.le_of_ble_eq_true rfl) rfl ?_
  replace h := goBind h; obtain ⟨x17, e18, h⟩ := h
  obtain ⟨ze18, rfl⟩ := goZr_h e18
  cases h
  exact go_zret hc dX12_dog_13 hr (goZ_n ze18)
theorem dX12_hedge_0 : decode cX12_hedge 0 = .ok (.aload_n 0, 1) := by decide +kernel
theorem dX12_hedge_1 : decode cX12_hedge 1 = .ok (.iload_n 1, 1) := by decide +kernel
theorem dX12_hedge_2 : decode cX12_hedge 2 = .ok (.aload_n 0, 1) := by decide +kernel
theorem dX12_hedge_3 : decode cX12_hedge 3 = .ok (.getfield 26, 3) := by decide +kernel
theorem dX12_hedge_6 : decode cX12_hedge 6 = .ok (.getfield 350, 3) := by decide +kernel
theorem dX12_hedge_9 : decode cX12_hedge 9 = .ok (.invokestatic 156, 3) := by decide +kernel
theorem dX12_hedge_12 : decode cX12_hedge 12 = .ok (.ifCond .eq 17, 3) := by decide +kernel
theorem dX12_hedge_15 : decode cX12_hedge 15 = .ok (.aload_n 0, 1) := by decide +kernel
theorem dX12_hedge_16 : decode cX12_hedge 16 = .ok (.getfield 19, 3) := by decide +kernel
theorem dX12_hedge_19 : decode cX12_hedge 19 = .ok (.bipush 24, 2) := by decide +kernel
theorem dX12_hedge_21 : decode cX12_hedge 21 = .ok (.iload_n 1, 1) := by decide +kernel
theorem dX12_hedge_22 : decode cX12_hedge 22 = .ok (.iload_n 2, 1) := by decide +kernel
theorem dX12_hedge_23 : decode cX12_hedge 23 = .ok (.invokevirtual 353, 3) := by decide +kernel
theorem dX12_hedge_26 : decode cX12_hedge 26 = .ok (.goto 4, 3) := by decide +kernel
theorem dX12_hedge_29 : decode cX12_hedge 29 = .ok (.iconst 1, 1) := by decide +kernel
theorem dX12_hedge_30 : decode cX12_hedge 30 = .ok (.invokevirtual 347, 3) := by decide +kernel
theorem dX12_hedge_33 : decode cX12_hedge 33 = .ok (.ireturn, 1) := by decide +kernel
set_option maxRecDepth 100000 in
set_option maxHeartbeats 4000000 in
theorem mX12_hedge {E : goEv} {l : Launch} {G : goG} {M : goMI} {L : goML} {R : goMR} {v1 : Int32} {v2 : Int32} {r0 : Int32} {r1 : goMI} (hk : goKn E) (hW : goW G R) (h : fX12_hedge M R v1 v2 = some (r0, r1)) : Met l yX12_hedge (goCd yX12_hedge cX12_hedge 3 (Option.some FieldType.boolean)) (goRoom 2 63 0 0) (goPre E [.ref 0, .int v1, .int v2] G M L R) (goQi E r0 G r1 L R) 0 0 (goSet E) := by
  refine goMet pl_RX12 hk (lv := [some (.ref 0), some (.int v1), some (.int v2)]) rfl (Nat.le_of_ble_eq_true rfl) ?_
  intro X hc hl hR hr hnm
  subst hl
  unfold fX12_hedge at h
  refine go_aload0 hc dX12_hedge_0 ?_
  refine go_iload1 hc dX12_hedge_1 ?_
  refine go_aload0 hc dX12_hedge_2 ?_
  refine go_getR hc lk_RX12_26 dX12_hedge_3 (sh_0 hW) (rm_0_5 hW) ?_
  refine go_getI hc lk_RX12_350 dX12_hedge_6 (shHill_0 hW (mm_0_5 hW)) ?_
  refine go_callSi hc dX12_hedge_9 (mX12_within hk hW rfl) ml_RX12_156 yk_X12_within wst_X12_within hR rfl rfl rfl (Nat.le_of_ble_eq_true rfl) rfl ?_
  replace h := goB2_h h; obtain ⟨x11, M12, e13, h⟩ := h
  have k14 : ∀ (d0 d1 d2 : Option Value), goA E X G 0 0 (goMQ X E (goQi E r0 G r1 L R) 0 0) 30 [d0, d1, d2] [.int x11, .ref 0] M12 L R := by
    intro d0 d1 d2
    replace h := goB2_h h; obtain ⟨x19, M20, e21, h⟩ := h
    refine go_callVi hc dX12_hedge_30 (mX12_done hk hW e21) ml_RX12_347 yk_X12_done ⟨wim_X12_done, wse_X12_done⟩ hR rfl (sh_0 hW) rfl rfl rfl (Nat.le_of_ble_eq_true rfl) rfl ?_
    replace h := goBind h; obtain ⟨x22, e23, h⟩ := h
    obtain ⟨ze23, rfl⟩ := goZr_h e23
    cases h
    exact go_zret hc dX12_hedge_33 hr (goZ_n ze23)
  refine go_if_eq hc 29 dX12_hedge_12 rfl (fun c15 => ?_) (fun c15 => ?_)
  · replace e13 := goIfT e13 c15
    refine go_iconst (v := 1) hc dX12_hedge_29 rfl ?_
    cases e13
    exact k14 _ _ _
  · replace e13 := goIfF e13 c15
    refine go_aload0 hc dX12_hedge_15 ?_
    refine go_getR hc lk_RX12_19 dX12_hedge_16 (sh_0 hW) (rf_0_2 hW) ?_
    refine go_bipush (v := 24) hc dX12_hedge_19 rfl ?_
    refine go_iload1 hc dX12_hedge_21 ?_
    refine go_iload2 hc dX12_hedge_22 ?_
    replace e13 := goB2_h e13; obtain ⟨x16, M17, e18, e13⟩ := e13
    refine go_callVi hc dX12_hedge_23 (mX1_change hk hW e18) ml_RX12_353 yk_X1_change ⟨wim_X1_change, wse_X1_change⟩ hR rfl (sh_3 hW) rfl rfl rfl (Nat.le_of_ble_eq_true rfl) rfl ?_
    refine go_goto hc 30 dX12_hedge_26 rfl ?_
    cases e13
    exact k14 _ _ _
theorem dX12_hear_0 : decode cX12_hear 0 = .ok (.aload_n 0, 1) := by decide +kernel
theorem dX12_hear_1 : decode cX12_hear 1 = .ok (.aload_n 0, 1) := by decide +kernel
theorem dX12_hear_2 : decode cX12_hear 2 = .ok (.iload_n 1, 1) := by decide +kernel
theorem dX12_hear_3 : decode cX12_hear 3 = .ok (.invokevirtual 115, 3) := by decide +kernel
theorem dX12_hear_6 : decode cX12_hear 6 = .ok (.ifCond .eq 17, 3) := by decide +kernel
theorem dX12_hear_9 : decode cX12_hear 9 = .ok (.aload_n 0, 1) := by decide +kernel
theorem dX12_hear_10 : decode cX12_hear 10 = .ok (.getfield 19, 3) := by decide +kernel
theorem dX12_hear_13 : decode cX12_hear 13 = .ok (.bipush 25, 2) := by decide +kernel
theorem dX12_hear_15 : decode cX12_hear 15 = .ok (.iload_n 1, 1) := by decide +kernel
theorem dX12_hear_16 : decode cX12_hear 16 = .ok (.iload_n 2, 1) := by decide +kernel
theorem dX12_hear_17 : decode cX12_hear 17 = .ok (.invokevirtual 353, 3) := by decide +kernel
theorem dX12_hear_20 : decode cX12_hear 20 = .ok (.goto 4, 3) := by decide +kernel
theorem dX12_hear_23 : decode cX12_hear 23 = .ok (.iconst 1, 1) := by decide +kernel
theorem dX12_hear_24 : decode cX12_hear 24 = .ok (.invokevirtual 347, 3) := by decide +kernel
theorem dX12_hear_27 : decode cX12_hear 27 = .ok (.ireturn, 1) := by decide +kernel
set_option maxRecDepth 100000 in
set_option maxHeartbeats 4000000 in
theorem mX12_hear {E : goEv} {l : Launch} {G : goG} {M : goMI} {L : goML} {R : goMR} {v1 : Int32} {v2 : Int32} {r0 : Int32} {r1 : goMI} (hk : goKn E) (hW : goW G R) (h : fX12_hear M R v1 v2 = some (r0, r1)) : Met l yX12_hear (goCd yX12_hear cX12_hear 3 (Option.some FieldType.boolean)) (goRoom 2 63 0 0) (goPre E [.ref 0, .int v1, .int v2] G M L R) (goQi E r0 G r1 L R) 0 0 (goSet E) := by
  refine goMet pl_RX12 hk (lv := [some (.ref 0), some (.int v1), some (.int v2)]) rfl (Nat.le_of_ble_eq_true rfl) ?_
  intro X hc hl hR hr hnm
  subst hl
  unfold fX12_hear at h
  refine go_aload0 hc dX12_hear_0 ?_
  refine go_aload0 hc dX12_hear_1 ?_
  refine go_iload1 hc dX12_hear_2 ?_
  refine go_callVi hc dX12_hear_3 (mX12_isGoat hk hW rfl) ml_RX12_115 yk_X12_isGoat ⟨wim_X12_isGoat, wse_X12_isGoat⟩ hR rfl (sh_0 hW) rfl rfl rfl (Nat.le_of_ble_eq_true rfl) rfl ?_
  replace h := goB2_h h; obtain ⟨x11, M12, e13, h⟩ := h
  have k14 : ∀ (d0 d1 d2 : Option Value), goA E X G 0 0 (goMQ X E (goQi E r0 G r1 L R) 0 0) 24 [d0, d1, d2] [.int x11, .ref 0] M12 L R := by
    intro d0 d1 d2
    replace h := goB2_h h; obtain ⟨x19, M20, e21, h⟩ := h
    refine go_callVi hc dX12_hear_24 (mX12_done hk hW e21) ml_RX12_347 yk_X12_done ⟨wim_X12_done, wse_X12_done⟩ hR rfl (sh_0 hW) rfl rfl rfl (Nat.le_of_ble_eq_true rfl) rfl ?_
    replace h := goBind h; obtain ⟨x22, e23, h⟩ := h
    obtain ⟨ze23, rfl⟩ := goZr_h e23
    cases h
    exact go_zret hc dX12_hear_27 hr (goZ_n ze23)
  refine go_if_eq hc 23 dX12_hear_6 rfl (fun c15 => ?_) (fun c15 => ?_)
  · replace e13 := goIfT e13 c15
    refine go_iconst (v := 1) hc dX12_hear_23 rfl ?_
    cases e13
    exact k14 _ _ _
  · replace e13 := goIfF e13 c15
    refine go_aload0 hc dX12_hear_9 ?_
    refine go_getR hc lk_RX12_19 dX12_hear_10 (sh_0 hW) (rf_0_2 hW) ?_
    refine go_bipush (v := 25) hc dX12_hear_13 rfl ?_
    refine go_iload1 hc dX12_hear_15 ?_
    refine go_iload2 hc dX12_hear_16 ?_
    replace e13 := goB2_h e13; obtain ⟨x16, M17, e18, e13⟩ := e13
    refine go_callVi hc dX12_hear_17 (mX1_change hk hW e18) ml_RX12_353 yk_X1_change ⟨wim_X1_change, wse_X1_change⟩ hR rfl (sh_3 hW) rfl rfl rfl (Nat.le_of_ble_eq_true rfl) rfl ?_
    refine go_goto hc 24 dX12_hear_20 rfl ?_
    cases e13
    exact k14 _ _ _
theorem dX12_undo_0 : decode cX12_undo 0 = .ok (.aload_n 0, 1) := by decide +kernel
theorem dX12_undo_1 : decode cX12_undo 1 = .ok (.aload_n 0, 1) := by decide +kernel
theorem dX12_undo_2 : decode cX12_undo 2 = .ok (.getfield 19, 3) := by decide +kernel
theorem dX12_undo_5 : decode cX12_undo 5 = .ok (.invokevirtual 357, 3) := by decide +kernel
theorem dX12_undo_8 : decode cX12_undo 8 = .ok (.ifCond .eq 7, 3) := by decide +kernel
theorem dX12_undo_11 : decode cX12_undo 11 = .ok (.iconst 0, 1) := by decide +kernel
theorem dX12_undo_12 : decode cX12_undo 12 = .ok (.goto 5, 3) := by decide +kernel
theorem dX12_undo_15 : decode cX12_undo 15 = .ok (.bipush 6, 2) := by decide +kernel
theorem dX12_undo_17 : decode cX12_undo 17 = .ok (.invokevirtual 347, 3) := by decide +kernel
theorem dX12_undo_20 : decode cX12_undo 20 = .ok (.ireturn, 1) := by decide +kernel
set_option maxRecDepth 100000 in
set_option maxHeartbeats 4000000 in
theorem mX12_undo {E : goEv} {l : Launch} {G : goG} {M : goMI} {L : goML} {R : goMR} {r0 : Int32} {r1 : goMI} (hk : goKn E) (hW : goW G R) (h : fX12_undo M = some (r0, r1)) : Met l yX12_undo (goCd yX12_undo cX12_undo 1 (Option.some FieldType.boolean)) (goRoom 2 42 0 0) (goPre E [.ref 0] G M L R) (goQi E r0 G r1 L R) 0 0 (goSet E) := by
  refine goMet pl_RX12 hk (lv := [some (.ref 0)]) rfl (Nat.le_of_ble_eq_true rfl) ?_
  intro X hc hl hR hr hnm
  subst hl
  unfold fX12_undo at h
  refine go_aload0 hc dX12_undo_0 ?_
  refine go_aload0 hc dX12_undo_1 ?_
  refine go_getR hc lk_RX12_19 dX12_undo_2 (sh_0 hW) (rf_0_2 hW) ?_
  replace h := goB2_h h; obtain ⟨x11, M12, e13, h⟩ := h
  refine go_callVi hc dX12_undo_5 (mX1_takeBack hk hW e13) ml_RX12_357 yk_X1_takeBack ⟨wim_X1_takeBack, wse_X1_takeBack⟩ hR rfl (sh_3 hW) rfl rfl rfl (Nat.le_of_ble_eq_true rfl) rfl ?_
  replace h := goNm_y h; obtain ⟨x14, e15, h⟩ := h
  have k16 : ∀ (d0 : Option Value), goA E X G 0 0 (goMQ X E (goQi E r0 G r1 L R) 0 0) 17 [d0] [.int x14, .ref 0] M12 L R := by
    intro d0
    replace h := goB2_h h; obtain ⟨x18, M19, e20, h⟩ := h
    refine go_callVi hc dX12_undo_17 (mX12_done hk hW e20) ml_RX12_347 yk_X12_done ⟨wim_X12_done, wse_X12_done⟩ hR rfl (sh_0 hW) rfl rfl rfl (Nat.le_of_ble_eq_true rfl) rfl ?_
    replace h := goBind h; obtain ⟨x21, e22, h⟩ := h
    obtain ⟨ze22, rfl⟩ := goZr_h e22
    cases h
    exact go_zret hc dX12_undo_20 hr (goZ_n ze22)
  refine go_if_eq hc 15 dX12_undo_8 rfl (fun c17 => ?_) (fun c17 => ?_)
  · replace e15 := goIfT e15 c17
    refine go_bipush (v := 6) hc dX12_undo_15 rfl ?_
    subst e15
    exact k16 _
  · replace e15 := goIfF e15 c17
    refine go_iconst (v := 0) hc dX12_undo_11 rfl ?_
    refine go_goto hc 17 dX12_undo_12 rfl ?_
    subst e15
    exact k16 _
theorem dX12_mark_0 : decode cX12_mark 0 = .ok (.aload_n 0, 1) := by decide +kernel
theorem dX12_mark_1 : decode cX12_mark 1 = .ok (.invokevirtual 227, 3) := by decide +kernel
theorem dX12_mark_4 : decode cX12_mark 4 = .ok (.ifCond .ne 9, 3) := by decide +kernel
theorem dX12_mark_7 : decode cX12_mark 7 = .ok (.aload_n 0, 1) := by decide +kernel
theorem dX12_mark_8 : decode cX12_mark 8 = .ok (.iconst 1, 1) := by decide +kernel
theorem dX12_mark_9 : decode cX12_mark 9 = .ok (.invokevirtual 66, 3) := by decide +kernel
theorem dX12_mark_12 : decode cX12_mark 12 = .ok (.ireturn, 1) := by decide +kernel
theorem dX12_mark_13 : decode cX12_mark 13 = .ok (.aload_n 0, 1) := by decide +kernel
theorem dX12_mark_14 : decode cX12_mark 14 = .ok (.getfield 19, 3) := by decide +kernel
theorem dX12_mark_17 : decode cX12_mark 17 = .ok (.invokevirtual 360, 3) := by decide +kernel
theorem dX12_mark_20 : decode cX12_mark 20 = .ok (.istore_n 1, 1) := by decide +kernel
theorem dX12_mark_21 : decode cX12_mark 21 = .ok (.iload_n 1, 1) := by decide +kernel
theorem dX12_mark_22 : decode cX12_mark 22 = .ok (.ifCond .lt 11, 3) := by decide +kernel
theorem dX12_mark_25 : decode cX12_mark 25 = .ok (.aload_n 0, 1) := by decide +kernel
theorem dX12_mark_26 : decode cX12_mark 26 = .ok (.iload_n 1, 1) := by decide +kernel
theorem dX12_mark_27 : decode cX12_mark 27 = .ok (.invokevirtual 88, 3) := by decide +kernel
theorem dX12_mark_30 : decode cX12_mark 30 = .ok (.goto 8, 3) := by decide +kernel
theorem dX12_mark_33 : decode cX12_mark 33 = .ok (.aload_n 0, 1) := by decide +kernel
theorem dX12_mark_34 : decode cX12_mark 34 = .ok (.iconst 3, 1) := by decide +kernel
theorem dX12_mark_35 : decode cX12_mark 35 = .ok (.invokevirtual 66, 3) := by decide +kernel
theorem dX12_mark_38 : decode cX12_mark 38 = .ok (.ireturn, 1) := by decide +kernel
set_option maxRecDepth 100000 in
set_option maxHeartbeats 4000000 in
theorem mX12_mark {E : goEv} {l : Launch} {G : goG} {M : goMI} {L : goML} {R : goMR} {r0 : Int32} {r1 : goMI} (hk : goKn E) (hW : goW G R) (h : fX12_mark M R = some (r0, r1)) : Met l yX12_mark (goCd yX12_mark cX12_mark 2 (Option.some FieldType.int)) (goRoom 2 60 0 0) (goPre E [.ref 0] G M L R) (goQi E r0 G r1 L R) 0 0 (goSet E) := by
  refine goMet pl_RX12 hk (lv := [some (.ref 0), none]) rfl (Nat.le_of_ble_eq_true rfl) ?_
  intro X hc hl hR hr hnm
  subst hl
  unfold fX12_mark at h
  refine go_aload0 hc dX12_mark_0 ?_
  refine go_callVi hc dX12_mark_1 (mX12_isHill hk hW rfl) ml_RX12_227 yk_X12_isHill ⟨wim_X12_isHill, wse_X12_isHill⟩ hR rfl (sh_0 hW) rfl rfl rfl (Nat.le_of_ble_eq_true rfl) rfl ?_
  refine go_if_ne hc 13 dX12_mark_4 rfl (fun c11 => ?_) (fun c11 => ?_)
  · replace h := goIfF h c11
    refine go_aload0 hc dX12_mark_13 ?_
    refine go_getR hc lk_RX12_19 dX12_mark_14 (sh_0 hW) (rf_0_2 hW) ?_
    replace h := goB2_h h; obtain ⟨x12, M13, e14, h⟩ := h
    refine go_callVi hc dX12_mark_17 (mX1_keep hk hW e14) ml_RX12_360 yk_X1_keep ⟨wim_X1_keep, wse_X1_keep⟩ hR rfl (sh_3 hW) rfl rfl rfl (Nat.le_of_ble_eq_true rfl) rfl ?_
    refine go_istore1 hc dX12_mark_20 ?_
    refine go_iload1 hc dX12_mark_21 ?_
    refine go_if_lt hc 33 dX12_mark_22 rfl (fun c15 => ?_) (fun c15 => ?_)
    · replace h := goIfF h c15
      refine go_aload0 hc dX12_mark_33 ?_
      refine go_iconst (v := 3) hc dX12_mark_34 rfl ?_
      replace h := goB2_h h; obtain ⟨x16, M17, e18, h⟩ := h
      refine go_callVi hc dX12_mark_35 (mX12_refuse hk hW e18) ml_RX12_66 yk_X12_refuse ⟨wim_X12_refuse, wse_X12_refuse⟩ hR rfl (sh_0 hW) rfl rfl rfl (Nat.le_of_ble_eq_true rfl) rfl ?_
      cases h
      exact go_iret hc dX12_mark_38 hr
    · replace h := goIfT h c15
      refine go_aload0 hc dX12_mark_25 ?_
      refine go_iload1 hc dX12_mark_26 ?_
      replace h := goB2_h h; obtain ⟨x19, M20, e21, h⟩ := h
      refine go_callVi hc dX12_mark_27 (mX12_answer hk hW e21) ml_RX12_88 yk_X12_answer ⟨wim_X12_answer, wse_X12_answer⟩ hR rfl (sh_0 hW) rfl rfl rfl (Nat.le_of_ble_eq_true rfl) rfl ?_
      refine go_goto hc 38 dX12_mark_30 rfl ?_
      cases h
      exact go_iret hc dX12_mark_38 hr
  · replace h := goIfT h c11
    refine go_aload0 hc dX12_mark_7 ?_
    refine go_iconst (v := 1) hc dX12_mark_8 rfl ?_
    replace h := goB2_h h; obtain ⟨x22, M23, e24, h⟩ := h
    refine go_callVi hc dX12_mark_9 (mX12_refuse hk hW e24) ml_RX12_66 yk_X12_refuse ⟨wim_X12_refuse, wse_X12_refuse⟩ hR rfl (sh_0 hW) rfl rfl rfl (Nat.le_of_ble_eq_true rfl) rfl ?_
    cases h
    exact go_iret hc dX12_mark_12 hr
theorem dX12_back_0 : decode cX12_back 0 = .ok (.aload_n 0, 1) := by decide +kernel
theorem dX12_back_1 : decode cX12_back 1 = .ok (.aload_n 0, 1) := by decide +kernel
theorem dX12_back_2 : decode cX12_back 2 = .ok (.getfield 19, 3) := by decide +kernel
theorem dX12_back_5 : decode cX12_back 5 = .ok (.iload_n 1, 1) := by decide +kernel
theorem dX12_back_6 : decode cX12_back 6 = .ok (.invokevirtual 363, 3) := by decide +kernel
theorem dX12_back_9 : decode cX12_back 9 = .ok (.ifCond .eq 7, 3) := by decide +kernel
theorem dX12_back_12 : decode cX12_back 12 = .ok (.iconst 0, 1) := by decide +kernel
theorem dX12_back_13 : decode cX12_back 13 = .ok (.goto 4, 3) := by decide +kernel
theorem dX12_back_16 : decode cX12_back 16 = .ok (.iconst 1, 1) := by decide +kernel
theorem dX12_back_17 : decode cX12_back 17 = .ok (.invokevirtual 347, 3) := by decide +kernel
theorem dX12_back_20 : decode cX12_back 20 = .ok (.ireturn, 1) := by decide +kernel
set_option maxRecDepth 100000 in
set_option maxHeartbeats 4000000 in
theorem mX12_back {E : goEv} {l : Launch} {G : goG} {M : goMI} {L : goML} {R : goMR} {v1 : Int32} {r0 : Int32} {r1 : goMI} (hk : goKn E) (hW : goW G R) (h : fX12_back M v1 = some (r0, r1)) : Met l yX12_back (goCd yX12_back cX12_back 2 (Option.some FieldType.boolean)) (goRoom 2 61 0 0) (goPre E [.ref 0, .int v1] G M L R) (goQi E r0 G r1 L R) 0 0 (goSet E) := by
  refine goMet pl_RX12 hk (lv := [some (.ref 0), some (.int v1)]) rfl (Nat.le_of_ble_eq_true rfl) ?_
  intro X hc hl hR hr hnm
  subst hl
  unfold fX12_back at h
  refine go_aload0 hc dX12_back_0 ?_
  refine go_aload0 hc dX12_back_1 ?_
  refine go_getR hc lk_RX12_19 dX12_back_2 (sh_0 hW) (rf_0_2 hW) ?_
  refine go_iload1 hc dX12_back_5 ?_
  replace h := goB2_h h; obtain ⟨x11, M12, e13, h⟩ := h
  refine go_callVi hc dX12_back_6 (mX1_restore hk hW e13) ml_RX12_363 yk_X1_restore ⟨wim_X1_restore, wse_X1_restore⟩ hR rfl (sh_3 hW) rfl rfl rfl (Nat.le_of_ble_eq_true rfl) rfl ?_
  replace h := goNm_y h; obtain ⟨x14, e15, h⟩ := h
  have k16 : ∀ (d0 d1 : Option Value), goA E X G 0 0 (goMQ X E (goQi E r0 G r1 L R) 0 0) 17 [d0, d1] [.int x14, .ref 0] M12 L R := by
    intro d0 d1
    replace h := goB2_h h; obtain ⟨x18, M19, e20, h⟩ := h
    refine go_callVi hc dX12_back_17 (mX12_done hk hW e20) ml_RX12_347 yk_X12_done ⟨wim_X12_done, wse_X12_done⟩ hR rfl (sh_0 hW) rfl rfl rfl (Nat.le_of_ble_eq_true rfl) rfl ?_
    replace h := goBind h; obtain ⟨x21, e22, h⟩ := h
    obtain ⟨ze22, rfl⟩ := goZr_h e22
    cases h
    exact go_zret hc dX12_back_20 hr (goZ_n ze22)
  refine go_if_eq hc 16 dX12_back_9 rfl (fun c17 => ?_) (fun c17 => ?_)
  · replace e15 := goIfT e15 c17
    refine go_iconst (v := 1) hc dX12_back_16 rfl ?_
    subst e15
    exact k16 _ _
  · replace e15 := goIfF e15 c17
    refine go_iconst (v := 0) hc dX12_back_12 rfl ?_
    refine go_goto hc 17 dX12_back_13 rfl ?_
    subst e15
    exact k16 _ _
theorem dX12_size_0 : decode cX12_size 0 = .ok (.iload_n 1, 1) := by decide +kernel
theorem dX12_size_1 : decode cX12_size 1 = .ok (.tableswitch 213 0 14 #[75, 83, 91, 99, 107, 115, 126, 137, 148, 159, 170, 181, 189, 197, 205], 75) := by decide +kernel
theorem dX12_size_76 : decode cX12_size 76 = .ok (.aload_n 0, 1) := by decide +kernel
theorem dX12_size_77 : decode cX12_size 77 = .ok (.getfield 26, 3) := by decide +kernel
theorem dX12_size_80 : decode cX12_size 80 = .ok (.getfield 218, 3) := by decide +kernel
theorem dX12_size_83 : decode cX12_size 83 = .ok (.ireturn, 1) := by decide +kernel
theorem dX12_size_84 : decode cX12_size 84 = .ok (.aload_n 0, 1) := by decide +kernel
theorem dX12_size_85 : decode cX12_size 85 = .ok (.getfield 26, 3) := by decide +kernel
theorem dX12_size_88 : decode cX12_size 88 = .ok (.getfield 372, 3) := by decide +kernel
theorem dX12_size_91 : decode cX12_size 91 = .ok (.ireturn, 1) := by decide +kernel
theorem dX12_size_92 : decode cX12_size 92 = .ok (.aload_n 0, 1) := by decide +kernel
theorem dX12_size_93 : decode cX12_size 93 = .ok (.getfield 26, 3) := by decide +kernel
theorem dX12_size_96 : decode cX12_size 96 = .ok (.getfield 375, 3) := by decide +kernel
theorem dX12_size_99 : decode cX12_size 99 = .ok (.ireturn, 1) := by decide +kernel
theorem dX12_size_100 : decode cX12_size 100 = .ok (.aload_n 0, 1) := by decide +kernel
theorem dX12_size_101 : decode cX12_size 101 = .ok (.getfield 26, 3) := by decide +kernel
theorem dX12_size_104 : decode cX12_size 104 = .ok (.getfield 350, 3) := by decide +kernel
theorem dX12_size_107 : decode cX12_size 107 = .ok (.ireturn, 1) := by decide +kernel
theorem dX12_size_108 : decode cX12_size 108 = .ok (.aload_n 0, 1) := by decide +kernel
theorem dX12_size_109 : decode cX12_size 109 = .ok (.getfield 26, 3) := by decide +kernel
theorem dX12_size_112 : decode cX12_size 112 = .ok (.getfield 378, 3) := by decide +kernel
theorem dX12_size_115 : decode cX12_size 115 = .ok (.ireturn, 1) := by decide +kernel
theorem dX12_size_116 : decode cX12_size 116 = .ok (.aload_n 0, 1) := by decide +kernel
theorem dX12_size_117 : decode cX12_size 117 = .ok (.getfield 26, 3) := by decide +kernel
theorem dX12_size_120 : decode cX12_size 120 = .ok (.getfield 118, 3) := by decide +kernel
theorem dX12_size_123 : decode cX12_size 123 = .ok (.getfield 381, 3) := by decide +kernel
theorem dX12_size_126 : decode cX12_size 126 = .ok (.ireturn, 1) := by decide +kernel
theorem dX12_size_127 : decode cX12_size 127 = .ok (.aload_n 0, 1) := by decide +kernel
theorem dX12_size_128 : decode cX12_size 128 = .ok (.getfield 26, 3) := by decide +kernel
theorem dX12_size_131 : decode cX12_size 131 = .ok (.getfield 118, 3) := by decide +kernel
theorem dX12_size_134 : decode cX12_size 134 = .ok (.getfield 163, 3) := by decide +kernel
theorem dX12_size_137 : decode cX12_size 137 = .ok (.ireturn, 1) := by decide +kernel
theorem dX12_size_138 : decode cX12_size 138 = .ok (.aload_n 0, 1) := by decide +kernel
theorem dX12_size_139 : decode cX12_size 139 = .ok (.getfield 26, 3) := by decide +kernel
theorem dX12_size_142 : decode cX12_size 142 = .ok (.getfield 295, 3) := by decide +kernel
theorem dX12_size_145 : decode cX12_size 145 = .ok (.getfield 382, 3) := by decide +kernel
theorem dX12_size_148 : decode cX12_size 148 = .ok (.ireturn, 1) := by decide +kernel
theorem dX12_size_149 : decode cX12_size 149 = .ok (.aload_n 0, 1) := by decide +kernel
theorem dX12_size_150 : decode cX12_size 150 = .ok (.getfield 26, 3) := by decide +kernel
theorem dX12_size_153 : decode cX12_size 153 = .ok (.getfield 295, 3) := by decide +kernel
theorem dX12_size_156 : decode cX12_size 156 = .ok (.getfield 385, 3) := by decide +kernel
theorem dX12_size_159 : decode cX12_size 159 = .ok (.ireturn, 1) := by decide +kernel
theorem dX12_size_160 : decode cX12_size 160 = .ok (.aload_n 0, 1) := by decide +kernel
theorem dX12_size_161 : decode cX12_size 161 = .ok (.getfield 26, 3) := by decide +kernel
theorem dX12_size_164 : decode cX12_size 164 = .ok (.getfield 295, 3) := by decide +kernel
theorem dX12_size_167 : decode cX12_size 167 = .ok (.getfield 307, 3) := by decide +kernel
theorem dX12_size_170 : decode cX12_size 170 = .ok (.ireturn, 1) := by decide +kernel
theorem dX12_size_171 : decode cX12_size 171 = .ok (.aload_n 0, 1) := by decide +kernel
theorem dX12_size_172 : decode cX12_size 172 = .ok (.getfield 26, 3) := by decide +kernel
theorem dX12_size_175 : decode cX12_size 175 = .ok (.getfield 329, 3) := by decide +kernel
theorem dX12_size_178 : decode cX12_size 178 = .ok (.getfield 339, 3) := by decide +kernel
theorem dX12_size_181 : decode cX12_size 181 = .ok (.ireturn, 1) := by decide +kernel
theorem dX12_size_182 : decode cX12_size 182 = .ok (.aload_n 0, 1) := by decide +kernel
theorem dX12_size_183 : decode cX12_size 183 = .ok (.getfield 26, 3) := by decide +kernel
theorem dX12_size_186 : decode cX12_size 186 = .ok (.getfield 85, 3) := by decide +kernel
theorem dX12_size_189 : decode cX12_size 189 = .ok (.ireturn, 1) := by decide +kernel
theorem dX12_size_190 : decode cX12_size 190 = .ok (.aload_n 0, 1) := by decide +kernel
theorem dX12_size_191 : decode cX12_size 191 = .ok (.getfield 19, 3) := by decide +kernel
theorem dX12_size_194 : decode cX12_size 194 = .ok (.getfield 388, 3) := by decide +kernel
theorem dX12_size_197 : decode cX12_size 197 = .ok (.ireturn, 1) := by decide +kernel
theorem dX12_size_198 : decode cX12_size 198 = .ok (.aload_n 0, 1) := by decide +kernel
theorem dX12_size_199 : decode cX12_size 199 = .ok (.getfield 19, 3) := by decide +kernel
theorem dX12_size_202 : decode cX12_size 202 = .ok (.getfield 391, 3) := by decide +kernel
theorem dX12_size_205 : decode cX12_size 205 = .ok (.ireturn, 1) := by decide +kernel
theorem dX12_size_206 : decode cX12_size 206 = .ok (.aload_n 0, 1) := by decide +kernel
theorem dX12_size_207 : decode cX12_size 207 = .ok (.getfield 10, 3) := by decide +kernel
theorem dX12_size_210 : decode cX12_size 210 = .ok (.getfield 58, 3) := by decide +kernel
theorem dX12_size_213 : decode cX12_size 213 = .ok (.ireturn, 1) := by decide +kernel
theorem dX12_size_214 : decode cX12_size 214 = .ok (.iconst (-1), 1) := by decide +kernel
theorem dX12_size_215 : decode cX12_size 215 = .ok (.ireturn, 1) := by decide +kernel
set_option maxRecDepth 100000 in
set_option maxHeartbeats 4000000 in
theorem mX12_size {E : goEv} {l : Launch} {G : goG} {M : goMI} {L : goML} {R : goMR} {v1 : Int32} {r0 : Int32} (hk : goKn E) (hW : goW G R) (h : fX12_size M R v1 = r0) : Met l yX12_size (goCd yX12_size cX12_size 2 (Option.some FieldType.int)) (goRoom 0 0 0 0) (goPre E [.ref 0, .int v1] G M L R) (goQi E r0 G M L R) 0 0 (goSet E) := by
  refine goMet pl_RX12 hk (lv := [some (.ref 0), some (.int v1)]) rfl (Nat.le_of_ble_eq_true rfl) ?_
  intro X hc hl hR hr hnm
  subst hl
  unfold fX12_size at h
  refine go_iload1 hc dX12_size_0 ?_
  by_cases c12 : v1 = 0
  · replace h := goIfT h c12
    refine go_tabIn hc 76 dX12_size_1 (v := 0) c12 (by decide) (by decide) rfl rfl ?_
    refine go_aload0 hc dX12_size_76 ?_
    refine go_getR hc lk_RX12_26 dX12_size_77 (sh_0 hW) (rm_0_5 hW) ?_
    refine go_getI hc lk_RX12_218 dX12_size_80 (shHill_0 hW (mm_0_5 hW)) ?_
    subst h
    exact go_iret hc dX12_size_83 hr
  · replace h := goIfF h c12
    by_cases c13 : v1 = 1
    · replace h := goIfT h c13
      refine go_tabIn hc 84 dX12_size_1 (v := 1) c13 (by decide) (by decide) rfl rfl ?_
      refine go_aload0 hc dX12_size_84 ?_
      refine go_getR hc lk_RX12_26 dX12_size_85 (sh_0 hW) (rm_0_5 hW) ?_
      refine go_getI hc lk_RX12_372 dX12_size_88 (shHill_0 hW (mm_0_5 hW)) ?_
      subst h
      exact go_iret hc dX12_size_91 hr
    · replace h := goIfF h c13
      by_cases c14 : v1 = 2
      · replace h := goIfT h c14
        refine go_tabIn hc 92 dX12_size_1 (v := 2) c14 (by decide) (by decide) rfl rfl ?_
        refine go_aload0 hc dX12_size_92 ?_
        refine go_getR hc lk_RX12_26 dX12_size_93 (sh_0 hW) (rm_0_5 hW) ?_
        refine go_getI hc lk_RX12_375 dX12_size_96 (shHill_0 hW (mm_0_5 hW)) ?_
        subst h
        exact go_iret hc dX12_size_99 hr
      · replace h := goIfF h c14
        by_cases c15 : v1 = 3
        · replace h := goIfT h c15
          refine go_tabIn hc 100 dX12_size_1 (v := 3) c15 (by decide) (by decide) rfl rfl ?_
          refine go_aload0 hc dX12_size_100 ?_
          refine go_getR hc lk_RX12_26 dX12_size_101 (sh_0 hW) (rm_0_5 hW) ?_
          refine go_getI hc lk_RX12_350 dX12_size_104 (shHill_0 hW (mm_0_5 hW)) ?_
          subst h
          exact go_iret hc dX12_size_107 hr
        · replace h := goIfF h c15
          by_cases c16 : v1 = 4
          · replace h := goIfT h c16
            refine go_tabIn hc 108 dX12_size_1 (v := 4) c16 (by decide) (by decide) rfl rfl ?_
            refine go_aload0 hc dX12_size_108 ?_
            refine go_getR hc lk_RX12_26 dX12_size_109 (sh_0 hW) (rm_0_5 hW) ?_
            refine go_getI hc lk_RX12_378 dX12_size_112 (shHill_0 hW (mm_0_5 hW)) ?_
            subst h
            exact go_iret hc dX12_size_115 hr
          · replace h := goIfF h c16
            by_cases c17 : v1 = 5
            · replace h := goIfT h c17
              refine go_tabIn hc 116 dX12_size_1 (v := 5) c17 (by decide) (by decide) rfl rfl ?_
              refine go_aload0 hc dX12_size_116 ?_
              refine go_getR hc lk_RX12_26 dX12_size_117 (sh_0 hW) (rm_0_5 hW) ?_
              refine go_getR hc lk_RX12_118 dX12_size_120 (shHill_0 hW (mm_0_5 hW)) (rfHill_15 hW (mm_0_5 hW)) ?_
              refine go_getI hc lk_RX12_381 dX12_size_123 (shHerd_0 hW (subHerd (mm_0_5 hW))) ?_
              subst h
              exact go_iret hc dX12_size_126 hr
            · replace h := goIfF h c17
              by_cases c18 : v1 = 6
              · replace h := goIfT h c18
                refine go_tabIn hc 127 dX12_size_1 (v := 6) c18 (by decide) (by decide) rfl rfl ?_
                refine go_aload0 hc dX12_size_127 ?_
                refine go_getR hc lk_RX12_26 dX12_size_128 (sh_0 hW) (rm_0_5 hW) ?_
                refine go_getR hc lk_RX12_118 dX12_size_131 (shHill_0 hW (mm_0_5 hW)) (rfHill_15 hW (mm_0_5 hW)) ?_
                refine go_getI hc lk_RX12_163 dX12_size_134 (shHerd_0 hW (subHerd (mm_0_5 hW))) ?_
                subst h
                exact go_iret hc dX12_size_137 hr
              · replace h := goIfF h c18
                by_cases c19 : v1 = 7
                · replace h := goIfT h c19
                  refine go_tabIn hc 138 dX12_size_1 (v := 7) c19 (by decide) (by decide) rfl rfl ?_
                  refine go_aload0 hc dX12_size_138 ?_
                  refine go_getR hc lk_RX12_26 dX12_size_139 (sh_0 hW) (rm_0_5 hW) ?_
                  refine go_getR hc lk_RX12_295 dX12_size_142 (shHill_0 hW (mm_0_5 hW)) (rfHill_16 hW (mm_0_5 hW)) ?_
                  refine go_getI hc lk_RX12_382 dX12_size_145 (shLaw_0 hW (subLaw (mm_0_5 hW))) ?_
                  subst h
                  exact go_iret hc dX12_size_148 hr
                · replace h := goIfF h c19
                  by_cases c20 : v1 = 8
                  · replace h := goIfT h c20
                    refine go_tabIn hc 149 dX12_size_1 (v := 8) c20 (by decide) (by decide) rfl rfl ?_
                    refine go_aload0 hc dX12_size_149 ?_
                    refine go_getR hc lk_RX12_26 dX12_size_150 (sh_0 hW) (rm_0_5 hW) ?_
                    refine go_getR hc lk_RX12_295 dX12_size_153 (shHill_0 hW (mm_0_5 hW)) (rfHill_16 hW (mm_0_5 hW)) ?_
                    refine go_getI hc lk_RX12_385 dX12_size_156 (shLaw_0 hW (subLaw (mm_0_5 hW))) ?_
                    subst h
                    exact go_iret hc dX12_size_159 hr
                  · replace h := goIfF h c20
                    by_cases c21 : v1 = 9
                    · replace h := goIfT h c21
                      refine go_tabIn hc 160 dX12_size_1 (v := 9) c21 (by decide) (by decide) rfl rfl ?_
                      refine go_aload0 hc dX12_size_160 ?_
                      refine go_getR hc lk_RX12_26 dX12_size_161 (sh_0 hW) (rm_0_5 hW) ?_
                      refine go_getR hc lk_RX12_295 dX12_size_164 (shHill_0 hW (mm_0_5 hW)) (rfHill_16 hW (mm_0_5 hW)) ?_
                      refine go_getI hc lk_RX12_307 dX12_size_167 (shLaw_0 hW (subLaw (mm_0_5 hW))) ?_
                      subst h
                      exact go_iret hc dX12_size_170 hr
                    · replace h := goIfF h c21
                      by_cases c22 : v1 = 10
                      · replace h := goIfT h c22
                        refine go_tabIn hc 171 dX12_size_1 (v := 10) c22 (by decide) (by decide) rfl rfl ?_
                        refine go_aload0 hc dX12_size_171 ?_
                        refine go_getR hc lk_RX12_26 dX12_size_172 (sh_0 hW) (rm_0_5 hW) ?_
                        refine go_getR hc lk_RX12_329 dX12_size_175 (shHill_0 hW (mm_0_5 hW)) (rfHill_17 hW (mm_0_5 hW)) ?_
                        refine go_getI hc lk_RX12_339 dX12_size_178 (shCourts_0 hW (subCourts (mm_0_5 hW))) ?_
                        subst h
                        exact go_iret hc dX12_size_181 hr
                      · replace h := goIfF h c22
                        by_cases c23 : v1 = 11
                        · replace h := goIfT h c23
                          refine go_tabIn hc 182 dX12_size_1 (v := 11) c23 (by decide) (by decide) rfl rfl ?_
                          refine go_aload0 hc dX12_size_182 ?_
                          refine go_getR hc lk_RX12_26 dX12_size_183 (sh_0 hW) (rm_0_5 hW) ?_
                          refine go_getI hc lk_RX12_85 dX12_size_186 (shHill_0 hW (mm_0_5 hW)) ?_
                          subst h
                          exact go_iret hc dX12_size_189 hr
                        · replace h := goIfF h c23
                          by_cases c24 : v1 = 12
                          · replace h := goIfT h c24
                            refine go_tabIn hc 190 dX12_size_1 (v := 12) c24 (by decide) (by decide) rfl rfl ?_
                            refine go_aload0 hc dX12_size_190 ?_
                            refine go_getR hc lk_RX12_19 dX12_size_191 (sh_0 hW) (rf_0_2 hW) ?_
                            refine go_getI hc lk_RX12_388 dX12_size_194 (sh_3 hW) ?_
                            subst h
                            exact go_iret hc dX12_size_197 hr
                          · replace h := goIfF h c24
                            by_cases c25 : v1 = 13
                            · replace h := goIfT h c25
                              refine go_tabIn hc 198 dX12_size_1 (v := 13) c25 (by decide) (by decide) rfl rfl ?_
                              refine go_aload0 hc dX12_size_198 ?_
                              refine go_getR hc lk_RX12_19 dX12_size_199 (sh_0 hW) (rf_0_2 hW) ?_
                              refine go_getI hc lk_RX12_391 dX12_size_202 (sh_3 hW) ?_
                              subst h
                              exact go_iret hc dX12_size_205 hr
                            · replace h := goIfF h c25
                              by_cases c26 : v1 = 14
                              · replace h := goIfT h c26
                                refine go_tabIn hc 206 dX12_size_1 (v := 14) c26 (by decide) (by decide) rfl rfl ?_
                                refine go_aload0 hc dX12_size_206 ?_
                                refine go_getR hc lk_RX12_10 dX12_size_207 (sh_0 hW) (rf_0_0 hW) ?_
                                refine go_getI hc lk_RX12_58 dX12_size_210 (sh_1 hW) ?_
                                subst h
                                exact go_iret hc dX12_size_213 hr
                              · replace h := goIfF h c26
                                refine go_tabOut hc 214 dX12_size_1 (goTo15 c12 c13 c14 c15 c16 c17 c18 c19 c20 c21 c22 c23 c24 c25 c26) rfl ?_
                                refine go_iconst (v := (-1)) hc dX12_size_214 rfl ?_
                                subst h
                                exact go_iret hc dX12_size_215 hr
