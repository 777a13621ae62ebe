theorem dX4_bears_0 : decode cX4_bears 0 = .ok (.iload_n 2, 1) := by decide +kernel
theorem dX4_bears_1 : decode cX4_bears 1 = .ok (.aload_n 0, 1) := by decide +kernel
theorem dX4_bears_2 : decode cX4_bears 2 = .ok (.getfield 9, 3) := by decide +kernel
theorem dX4_bears_5 : decode cX4_bears 5 = .ok (.iload_n 1, 1) := by decide +kernel
theorem dX4_bears_6 : decode cX4_bears 6 = .ok (.iaload, 1) := by decide +kernel
theorem dX4_bears_7 : decode cX4_bears 7 = .ok (.iconst (-1), 1) := by decide +kernel
theorem dX4_bears_8 : decode cX4_bears 8 = .ok (.ixor, 1) := by decide +kernel
theorem dX4_bears_9 : decode cX4_bears 9 = .ok (.iand, 1) := by decide +kernel
theorem dX4_bears_10 : decode cX4_bears 10 = .ok (.ifCond .ne 7, 3) := by decide +kernel
theorem dX4_bears_13 : decode cX4_bears 13 = .ok (.iconst 1, 1) := by decide +kernel
theorem dX4_bears_14 : decode cX4_bears 14 = .ok (.goto 4, 3) := by decide +kernel
theorem dX4_bears_17 : decode cX4_bears 17 = .ok (.iconst 0, 1) := by decide +kernel
theorem dX4_bears_18 : decode cX4_bears 18 = .ok (.ireturn, 1) := by decide +kernel
set_option maxRecDepth 100000 in
set_option maxHeartbeats 4000000 in
theorem mX4_bears {E : goEv} {l : Launch} {G : goG} {M : goMI} {L : goML} {R : goMR} {v1 : Int32} {v2 : Int32} {r0 : Int32} (hk : goKn E) (hW : goW G R) (h : fX4_bears M v1 v2 = some r0) : Met l yX4_bears (goCd yX4_bears cX4_bears 3 (Option.some FieldType.boolean)) (goRoom 0 0 0 0) (goPre E [.ref 74, .int v1, .int v2] G M L R) (goQi E r0 G M L R) 0 0 (goSet E) := by
  refine goMet pl_RX4 hk (lv := [some (.ref 74), some (.int v1), some (.int v2)]) rfl (Nat.le_of_ble_eq_true rfl) ?_
  intro X hc hl hR hr hnm
  subst hl
  unfold fX4_bears at h
  refine go_iload2 hc dX4_bears_0 ?_
  refine go_aload0 hc dX4_bears_1 ?_
  refine go_getR hc lk_RX4_9 dX4_bears_2 (sh_74 hW) (rf_74_3 hW) ?_
  refine go_iload1 hc dX4_bears_5 ?_
  replace h := goBind h; obtain ⟨x11, e12, h⟩ := h
  refine go_iald hc dX4_bears_6 (sh_75 hW) e12 ?_
  refine go_iconst (v := (-1)) hc dX4_bears_7 rfl ?_
  refine go_ixor hc dX4_bears_8 ?_
  refine go_iand hc dX4_bears_9 ?_
  refine go_if_ne hc 17 dX4_bears_10 rfl (fun c13 => ?_) (fun c13 => ?_)
  · replace h := goIfF h c13
    refine go_iconst (v := 0) hc dX4_bears_17 rfl ?_
    cases h
    exact go_zret hc dX4_bears_18 hr rfl
  · replace h := goIfT h c13
    refine go_iconst (v := 1) hc dX4_bears_13 rfl ?_
    refine go_goto hc 18 dX4_bears_14 rfl ?_
    cases h
    exact go_zret hc dX4_bears_18 hr rfl
theorem dX4_howManyFit_0 : decode cX4_howManyFit 0 = .ok (.aload_n 0, 1) := by decide +kernel
theorem dX4_howManyFit_1 : decode cX4_howManyFit 1 = .ok (.invokevirtual 97, 3) := by decide +kernel
theorem dX4_howManyFit_4 : decode cX4_howManyFit 4 = .ok (.istore_n 1, 1) := by decide +kernel
theorem dX4_howManyFit_5 : decode cX4_howManyFit 5 = .ok (.iconst 0, 1) := by decide +kernel
theorem dX4_howManyFit_6 : decode cX4_howManyFit 6 = .ok (.istore_n 2, 1) := by decide +kernel
theorem dX4_howManyFit_7 : decode cX4_howManyFit 7 = .ok (.iconst 0, 1) := by decide +kernel
theorem dX4_howManyFit_8 : decode cX4_howManyFit 8 = .ok (.istore_n 3, 1) := by decide +kernel
theorem dX4_howManyFit_9 : decode cX4_howManyFit 9 = .ok (.iload_n 3, 1) := by decide +kernel
theorem dX4_howManyFit_10 : decode cX4_howManyFit 10 = .ok (.aload_n 0, 1) := by decide +kernel
theorem dX4_howManyFit_11 : decode cX4_howManyFit 11 = .ok (.getfield 26, 3) := by decide +kernel
theorem dX4_howManyFit_14 : decode cX4_howManyFit 14 = .ok (.getfield 68, 3) := by decide +kernel
theorem dX4_howManyFit_17 : decode cX4_howManyFit 17 = .ok (.if_icmp .ge 26, 3) := by decide +kernel
theorem dX4_howManyFit_20 : decode cX4_howManyFit 20 = .ok (.iload_n 2, 1) := by decide +kernel
theorem dX4_howManyFit_21 : decode cX4_howManyFit 21 = .ok (.aload_n 0, 1) := by decide +kernel
theorem dX4_howManyFit_22 : decode cX4_howManyFit 22 = .ok (.iload_n 3, 1) := by decide +kernel
theorem dX4_howManyFit_23 : decode cX4_howManyFit 23 = .ok (.iload_n 1, 1) := by decide +kernel
theorem dX4_howManyFit_24 : decode cX4_howManyFit 24 = .ok (.invokevirtual 101, 3) := by decide +kernel
theorem dX4_howManyFit_27 : decode cX4_howManyFit 27 = .ok (.ifCond .eq 7, 3) := by decide +kernel
theorem dX4_howManyFit_30 : decode cX4_howManyFit 30 = .ok (.iconst 1, 1) := by decide +kernel
theorem dX4_howManyFit_31 : decode cX4_howManyFit 31 = .ok (.goto 4, 3) := by decide +kernel
theorem dX4_howManyFit_34 : decode cX4_howManyFit 34 = .ok (.iconst 0, 1) := by decide +kernel
theorem dX4_howManyFit_35 : decode cX4_howManyFit 35 = .ok (.iadd, 1) := by decide +kernel
theorem dX4_howManyFit_36 : decode cX4_howManyFit 36 = .ok (.istore_n 2, 1) := by decide +kernel
theorem dX4_howManyFit_37 : decode cX4_howManyFit 37 = .ok (.iinc 3 1, 3) := by decide +kernel
theorem dX4_howManyFit_40 : decode cX4_howManyFit 40 = .ok (.goto (-31), 3) := by decide +kernel
theorem dX4_howManyFit_43 : decode cX4_howManyFit 43 = .ok (.iload_n 2, 1) := by decide +kernel
theorem dX4_howManyFit_44 : decode cX4_howManyFit 44 = .ok (.ireturn, 1) := by decide +kernel
set_option maxRecDepth 100000 in
set_option maxHeartbeats 4000000 in
theorem mX4_howManyFit_L9 {E : goEv} {X : goX} {G : goG} {Q : State → Prop} {M : goMI} {L : goML} {R : goMR} {v1 : Int32} (hc : goCx E X cX4_howManyFit RX4 4) (hk : goKn E) (hR : X.2.2.2.1 = goRoom 3 64 0 0) (hr : X.2.2.2.2.2.2.2.2.1.sig.returnType = (Option.some FieldType.int)) (hW : goW G R) : ∀ (n : Nat) (v2 : Int32) (v3 : Int32) (r0 : Int32), lX4_howManyFit_9 v1 M R n v2 v3 = some r0 → (∀ (d0 d1 d3 : Option Value), goA E X G 0 0 Q 43 [d0, d1, some (.int r0), d3] [] M L R) → goA E X G 0 0 Q 9 [some (.ref 74), some (.int v1), some (.int v2), some (.int v3)] [] M L R := by
  intro n
  induction n with
  | zero => intro v2 v3 r0 h; exact nomatch h
  | succ n ih =>
    intro v2 v3 r0 h kx
    rw [lX4_howManyFit_9] at h
    refine go_iload3 hc dX4_howManyFit_9 ?_
    refine go_aload0 hc dX4_howManyFit_10 ?_
    refine go_getR hc lk_RX4_26 dX4_howManyFit_11 (sh_74 hW) (rm_74_2 hW) ?_
    refine go_getI hc lk_RX4_68 dX4_howManyFit_14 (shHill_0 hW (mm_74_2 hW)) ?_
    refine go_icmp_ge hc 43 dX4_howManyFit_17 rfl (fun c13 => ?_) (fun c13 => ?_)
    · replace h := goIfF h c13
      cases h
      exact kx _ _ _
    · replace h := goIfT h c13
      refine go_iload2 hc dX4_howManyFit_20 ?_
      refine go_aload0 hc dX4_howManyFit_21 ?_
      refine go_iload3 hc dX4_howManyFit_22 ?_
      refine go_iload1 hc dX4_howManyFit_23 ?_
      replace h := goBind h; obtain ⟨x14, e15, h⟩ := h
      refine go_callVi hc dX4_howManyFit_24 (mX4_bears hk hW e15) ml_RX4_101 yk_X4_bears ⟨wim_X4_bears, wse_X4_bears⟩ hR rfl (sh_74 hW) rfl rfl rfl (Nat.le_of_ble_eq_true rfl) rfl ?_
      replace h := goNm_y h; obtain ⟨x16, e17, h⟩ := h
      have k18 : ∀ (d2 : Option Value), goA E X G 0 0 Q 35 [some (.ref 74), some (.int v1), d2, some (.int v3)] [.int x16, .int v2] M L R := by
        intro d2
        refine go_iadd hc dX4_howManyFit_35 ?_
        replace h := goNm_x h; obtain ⟨x20, e21, h⟩ := h
        refine go_nmI e21 ?_
        refine go_istore2 hc dX4_howManyFit_36 ?_
        refine go_iinc3 (v := (v3 + 1)) hc dX4_howManyFit_37 rfl ?_
        refine go_goto hc 9 dX4_howManyFit_40 rfl ?_
        exact ih _ _ _ h kx
      refine go_if_eq hc 34 dX4_howManyFit_27 rfl (fun c19 => ?_) (fun c19 => ?_)
      · replace e17 := goIfT e17 c19
        refine go_iconst (v := 0) hc dX4_howManyFit_34 rfl ?_
        subst e17
        exact k18 _
      · replace e17 := goIfF e17 c19
        refine go_iconst (v := 1) hc dX4_howManyFit_30 rfl ?_
        refine go_goto hc 35 dX4_howManyFit_31 rfl ?_
        subst e17
        exact k18 _
set_option maxRecDepth 100000 in
set_option maxHeartbeats 4000000 in
theorem mX4_howManyFit {E : goEv} {l : Launch} {G : goG} {N : Nat} {M : goMI} {L : goML} {R : goMR} {r0 : Int32} (hk : goKn E) (hW : goW G R) (h : fX4_howManyFit N M R = some r0) : Met l yX4_howManyFit (goCd yX4_howManyFit cX4_howManyFit 4 (Option.some FieldType.int)) (goRoom 3 64 0 0) (goPre E [.ref 74] G M L R) (goQi E r0 G M L R) 0 0 (goSet E) := by
  refine goMet pl_RX4 hk (lv := [some (.ref 74), none, none, none]) rfl (Nat.le_of_ble_eq_true rfl) ?_
  intro X hc hl hR hr hnm
  subst hl
  unfold fX4_howManyFit at h
  refine go_aload0 hc dX4_howManyFit_0 ?_
  replace h := goBind h; obtain ⟨x11, e12, h⟩ := h
  refine go_callVi hc dX4_howManyFit_1 (mX4_heardClues hk hW e12) ml_RX4_97 yk_X4_heardClues ⟨wim_X4_heardClues, wse_X4_heardClues⟩ hR rfl (sh_74 hW) rfl rfl rfl (Nat.le_of_ble_eq_true rfl) rfl ?_
  refine go_istore1 hc dX4_howManyFit_4 ?_
  refine go_iconst (v := 0) hc dX4_howManyFit_5 rfl ?_
  refine go_istore2 hc dX4_howManyFit_6 ?_
  refine go_iconst (v := 0) hc dX4_howManyFit_7 rfl ?_
  refine go_istore3 hc dX4_howManyFit_8 ?_
  replace h := goBind h; obtain ⟨x23, e22, h⟩ := h
  refine mX4_howManyFit_L9 hc hk hR hr hW _ _ _ _ e22 (fun d0 d1 d3 => ?_)
  refine go_iload2 hc dX4_howManyFit_43 ?_
  cases h
  exact go_iret hc dX4_howManyFit_44 hr
theorem dX4_fitting_0 : decode cX4_fitting 0 = .ok (.aload_n 0, 1) := by decide +kernel
theorem dX4_fitting_1 : decode cX4_fitting 1 = .ok (.invokevirtual 97, 3) := by decide +kernel
theorem dX4_fitting_4 : decode cX4_fitting 4 = .ok (.istore_n 2, 1) := by decide +kernel
theorem dX4_fitting_5 : decode cX4_fitting 5 = .ok (.iconst 0, 1) := by decide +kernel
theorem dX4_fitting_6 : decode cX4_fitting 6 = .ok (.istore_n 3, 1) := by decide +kernel
theorem dX4_fitting_7 : decode cX4_fitting 7 = .ok (.iconst 0, 1) := by decide +kernel
theorem dX4_fitting_8 : decode cX4_fitting 8 = .ok (.istore 4, 2) := by decide +kernel
theorem dX4_fitting_10 : decode cX4_fitting 10 = .ok (.iload 4, 2) := by decide +kernel
theorem dX4_fitting_12 : decode cX4_fitting 12 = .ok (.aload_n 0, 1) := by decide +kernel
theorem dX4_fitting_13 : decode cX4_fitting 13 = .ok (.getfield 26, 3) := by decide +kernel
theorem dX4_fitting_16 : decode cX4_fitting 16 = .ok (.getfield 68, 3) := by decide +kernel
theorem dX4_fitting_19 : decode cX4_fitting 19 = .ok (.if_icmp .ge 30, 3) := by decide +kernel
theorem dX4_fitting_22 : decode cX4_fitting 22 = .ok (.aload_n 0, 1) := by decide +kernel
theorem dX4_fitting_23 : decode cX4_fitting 23 = .ok (.iload 4, 2) := by decide +kernel
theorem dX4_fitting_25 : decode cX4_fitting 25 = .ok (.iload_n 2, 1) := by decide +kernel
theorem dX4_fitting_26 : decode cX4_fitting 26 = .ok (.invokevirtual 101, 3) := by decide +kernel
theorem dX4_fitting_29 : decode cX4_fitting 29 = .ok (.ifCond .eq 14, 3) := by decide +kernel
theorem dX4_fitting_32 : decode cX4_fitting 32 = .ok (.iload_n 3, 1) := by decide +kernel
theorem dX4_fitting_33 : decode cX4_fitting 33 = .ok (.iload_n 1, 1) := by decide +kernel
theorem dX4_fitting_34 : decode cX4_fitting 34 = .ok (.if_icmp .ne 6, 3) := by decide +kernel
theorem dX4_fitting_37 : decode cX4_fitting 37 = .ok (.iload 4, 2) := by decide +kernel
theorem dX4_fitting_39 : decode cX4_fitting 39 = .ok (.ireturn, 1) := by decide +kernel
theorem dX4_fitting_40 : decode cX4_fitting 40 = .ok (.iinc 3 1, 3) := by decide +kernel
theorem dX4_fitting_43 : decode cX4_fitting 43 = .ok (.iinc 4 1, 3) := by decide +kernel
theorem dX4_fitting_46 : decode cX4_fitting 46 = .ok (.goto (-36), 3) := by decide +kernel
theorem dX4_fitting_49 : decode cX4_fitting 49 = .ok (.iconst (-1), 1) := by decide +kernel
theorem dX4_fitting_50 : decode cX4_fitting 50 = .ok (.ireturn, 1) := by decide +kernel
set_option maxRecDepth 100000 in
set_option maxHeartbeats 4000000 in
theorem mX4_fitting_L10 {E : goEv} {X : goX} {G : goG} {M : goMI} {L : goML} {R : goMR} {v1 : Int32} {v2 : Int32} {r0 : Int32} (hc : goCx E X cX4_fitting RX4 5) (hk : goKn E) (hR : X.2.2.2.1 = goRoom 3 64 0 0) (hr : X.2.2.2.2.2.2.2.2.1.sig.returnType = (Option.some FieldType.int)) (hW : goW G R) : ∀ (n : Nat) (v3 : Int32) (v4 : Int32), lX4_fitting_10 v1 v2 M R n v3 v4 = some r0 → goA E X G 0 0 (goMQ X E (goQi E r0 G M L R) 0 0) 10 [some (.ref 74), some (.int v1), some (.int v2), some (.int v3), some (.int v4)] [] M L R := by
  intro n
  induction n with
  | zero => intro v3 v4 h; exact nomatch h
  | succ n ih =>
    intro v3 v4 h
    rw [lX4_fitting_10] at h
    refine go_iload4 hc dX4_fitting_10 ?_
    refine go_aload0 hc dX4_fitting_12 ?_
    refine go_getR hc lk_RX4_26 dX4_fitting_13 (sh_74 hW) (rm_74_2 hW) ?_
    refine go_getI hc lk_RX4_68 dX4_fitting_16 (shHill_0 hW (mm_74_2 hW)) ?_
    refine go_icmp_ge hc 49 dX4_fitting_19 rfl (fun c13 => ?_) (fun c13 => ?_)
    · replace h := goIfF h c13
      refine go_iconst (v := (-1)) hc dX4_fitting_49 rfl ?_
      cases h
      exact go_iret hc dX4_fitting_50 hr
    · replace h := goIfT h c13
      refine go_aload0 hc dX4_fitting_22 ?_
      refine go_iload4 hc dX4_fitting_23 ?_
      refine go_iload2 hc dX4_fitting_25 ?_
      replace h := goBind h; obtain ⟨x14, e15, h⟩ := h
      refine go_callVi hc dX4_fitting_26 (mX4_bears hk hW e15) ml_RX4_101 yk_X4_bears ⟨wim_X4_bears, wse_X4_bears⟩ hR rfl (sh_74 hW) rfl rfl rfl (Nat.le_of_ble_eq_true rfl) rfl ?_
      refine go_if_eq hc 43 dX4_fitting_29 rfl (fun c16 => ?_) (fun c16 => ?_)
      · replace h := goIfT h c16
        refine go_iinc4 (v := (v4 + 1)) hc dX4_fitting_43 rfl ?_
        refine go_goto hc 10 dX4_fitting_46 rfl ?_
        exact ih _ _ h
      · replace h := goIfF h c16
        refine go_iload3 hc dX4_fitting_32 ?_
        refine go_iload1 hc dX4_fitting_33 ?_
        refine go_icmp_ne hc 40 dX4_fitting_34 rfl (fun c17 => ?_) (fun c17 => ?_)
        · replace h := goIfF h c17
          refine go_iinc3 (v := (v3 + 1)) hc dX4_fitting_40 rfl ?_
          refine go_iinc4 (v := (v4 + 1)) hc dX4_fitting_43 rfl ?_
          refine go_goto hc 10 dX4_fitting_46 rfl ?_
          exact ih _ _ h
        · replace h := goIfT h c17
          refine go_iload4 hc dX4_fitting_37 ?_
          cases h
          exact go_iret hc dX4_fitting_39 hr
set_option maxRecDepth 100000 in
set_option maxHeartbeats 4000000 in
theorem mX4_fitting {E : goEv} {l : Launch} {G : goG} {N : Nat} {M : goMI} {L : goML} {R : goMR} {v1 : Int32} {r0 : Int32} (hk : goKn E) (hW : goW G R) (h : fX4_fitting N M R v1 = some r0) : Met l yX4_fitting (goCd yX4_fitting cX4_fitting 5 (Option.some FieldType.int)) (goRoom 3 64 0 0) (goPre E [.ref 74, .int v1] G M L R) (goQi E r0 G M L R) 0 0 (goSet E) := by
  refine goMet pl_RX4 hk (lv := [some (.ref 74), some (.int v1), none, none, none]) rfl (Nat.le_of_ble_eq_true rfl) ?_
  intro X hc hl hR hr hnm
  subst hl
  unfold fX4_fitting at h
  refine go_aload0 hc dX4_fitting_0 ?_
  replace h := goBind h; obtain ⟨x11, e12, h⟩ := h
  refine go_callVi hc dX4_fitting_1 (mX4_heardClues hk hW e12) ml_RX4_97 yk_X4_heardClues ⟨wim_X4_heardClues, wse_X4_heardClues⟩ hR rfl (sh_74 hW) rfl rfl rfl (Nat.le_of_ble_eq_true rfl) rfl ?_
  refine go_istore2 hc dX4_fitting_4 ?_
  refine go_iconst (v := 0) hc dX4_fitting_5 rfl ?_
  refine go_istore3 hc dX4_fitting_6 ?_
  refine go_iconst (v := 0) hc dX4_fitting_7 rfl ?_
  refine go_istore4 hc dX4_fitting_8 ?_
  exact mX4_fitting_L10 hc hk hR hr hW _ _ _ h
theorem dX6_placeIn_0 : decode cX6_placeIn 0 = .ok (.aload_n 0, 1) := by decide +kernel
theorem dX6_placeIn_1 : decode cX6_placeIn 1 = .ok (.iload_n 1, 1) := by decide +kernel
theorem dX6_placeIn_2 : decode cX6_placeIn 2 = .ok (.iload_n 2, 1) := by decide +kernel
theorem dX6_placeIn_3 : decode cX6_placeIn 3 = .ok (.invokevirtual 93, 3) := by decide +kernel
theorem dX6_placeIn_6 : decode cX6_placeIn 6 = .ok (.istore 4, 2) := by decide +kernel
theorem dX6_placeIn_8 : decode cX6_placeIn 8 = .ok (.iload 4, 2) := by decide +kernel
theorem dX6_placeIn_10 : decode cX6_placeIn 10 = .ok (.ifCond .ge 7, 3) := by decide +kernel
theorem dX6_placeIn_13 : decode cX6_placeIn 13 = .ok (.iconst (-1), 1) := by decide +kernel
theorem dX6_placeIn_14 : decode cX6_placeIn 14 = .ok (.goto 11, 3) := by decide +kernel
theorem dX6_placeIn_17 : decode cX6_placeIn 17 = .ok (.aload_n 0, 1) := by decide +kernel
theorem dX6_placeIn_18 : decode cX6_placeIn 18 = .ok (.iload_n 2, 1) := by decide +kernel
theorem dX6_placeIn_19 : decode cX6_placeIn 19 = .ok (.iload 4, 2) := by decide +kernel
theorem dX6_placeIn_21 : decode cX6_placeIn 21 = .ok (.iload_n 3, 1) := by decide +kernel
theorem dX6_placeIn_22 : decode cX6_placeIn 22 = .ok (.invokevirtual 97, 3) := by decide +kernel
theorem dX6_placeIn_25 : decode cX6_placeIn 25 = .ok (.ireturn, 1) := by decide +kernel
set_option maxRecDepth 100000 in
set_option maxHeartbeats 4000000 in
theorem mX6_placeIn {E : goEv} {l : Launch} {G : goG} {M : goMI} {L : goML} {R : goMR} {a0 : Nat} {v1 : Int32} {v2 : Int32} {v3 : Int32} {r0 : Int32} (hk : goKn E) (hW : goW G R) (m0 : a0 = 7 ∨ a0 = 37) (h : fX6_placeIn M a0 v1 v2 v3 = some r0) : Met l yX6_placeIn (goCd yX6_placeIn cX6_placeIn 5 (Option.some FieldType.int)) (goRoom 1 23 0 0) (goPre E [.ref a0, .int v1, .int v2, .int v3] G M L R) (goQi E r0 G M L R) 0 0 (goSet E) := by
  refine goMet pl_RX6 hk (lv := [some (.ref a0), some (.int v1), some (.int v2), some (.int v3), none]) rfl (Nat.le_of_ble_eq_true rfl) ?_
  intro X hc hl hR hr hnm
  subst hl
  unfold fX6_placeIn at h
  refine go_aload0 hc dX6_placeIn_0 ?_
  refine go_iload1 hc dX6_placeIn_1 ?_
  refine go_iload2 hc dX6_placeIn_2 ?_
  replace h := goBind h; obtain ⟨x11, e12, h⟩ := h
  refine go_callVi hc dX6_placeIn_3 (mX6_storyIn hk hW m0 e12) ml_RX6_93 yk_X6_storyIn ⟨wim_X6_storyIn, wse_X6_storyIn⟩ hR rfl (shHill_0 hW m0) rfl rfl rfl (Nat.le_of_ble_eq_true rfl) rfl ?_
  refine go_istore4 hc dX6_placeIn_6 ?_
  refine go_iload4 hc dX6_placeIn_8 ?_
  refine go_if_ge hc 17 dX6_placeIn_10 rfl (fun c13 => ?_) (fun c13 => ?_)
  · replace h := goIfF h c13
    refine go_aload0 hc dX6_placeIn_17 ?_
    refine go_iload2 hc dX6_placeIn_18 ?_
    refine go_iload4 hc dX6_placeIn_19 ?_
    refine go_iload3 hc dX6_placeIn_21 ?_
    replace h := goBind h; obtain ⟨x14, e15, h⟩ := h
    refine go_callVi hc dX6_placeIn_22 (mX6_toldPlace hk hW m0 e15) ml_RX6_97 yk_X6_toldPlace ⟨wim_X6_toldPlace, wse_X6_toldPlace⟩ hR rfl (shHill_0 hW m0) rfl rfl rfl (Nat.le_of_ble_eq_true rfl) rfl ?_
    cases h
    exact go_iret hc dX6_placeIn_25 hr
  · replace h := goIfT h c13
    refine go_iconst (v := (-1)) hc dX6_placeIn_13 rfl ?_
    refine go_goto hc 25 dX6_placeIn_14 rfl ?_
    cases h
    exact go_iret hc dX6_placeIn_25 hr
theorem dX4_somewhere_0 : decode cX4_somewhere 0 = .ok (.aload_n 0, 1) := by decide +kernel
theorem dX4_somewhere_1 : decode cX4_somewhere 1 = .ok (.invokevirtual 97, 3) := by decide +kernel
theorem dX4_somewhere_4 : decode cX4_somewhere 4 = .ok (.istore_n 3, 1) := by decide +kernel
theorem dX4_somewhere_5 : decode cX4_somewhere 5 = .ok (.iconst 0, 1) := by decide +kernel
theorem dX4_somewhere_6 : decode cX4_somewhere 6 = .ok (.istore 4, 2) := by decide +kernel
theorem dX4_somewhere_8 : decode cX4_somewhere 8 = .ok (.iconst 0, 1) := by decide +kernel
theorem dX4_somewhere_9 : decode cX4_somewhere 9 = .ok (.istore 5, 2) := by decide +kernel
theorem dX4_somewhere_11 : decode cX4_somewhere 11 = .ok (.iload 5, 2) := by decide +kernel
theorem dX4_somewhere_13 : decode cX4_somewhere 13 = .ok (.aload_n 0, 1) := by decide +kernel
theorem dX4_somewhere_14 : decode cX4_somewhere 14 = .ok (.getfield 26, 3) := by decide +kernel
theorem dX4_somewhere_17 : decode cX4_somewhere 17 = .ok (.getfield 68, 3) := by decide +kernel
theorem dX4_somewhere_20 : decode cX4_somewhere 20 = .ok (.if_icmp .ge 46, 3) := by decide +kernel
theorem dX4_somewhere_23 : decode cX4_somewhere 23 = .ok (.aload_n 0, 1) := by decide +kernel
theorem dX4_somewhere_24 : decode cX4_somewhere 24 = .ok (.getfield 26, 3) := by decide +kernel
theorem dX4_somewhere_27 : decode cX4_somewhere 27 = .ok (.iload 5, 2) := by decide +kernel
theorem dX4_somewhere_29 : decode cX4_somewhere 29 = .ok (.iload_n 1, 1) := by decide +kernel
theorem dX4_somewhere_30 : decode cX4_somewhere 30 = .ok (.iload_n 2, 1) := by decide +kernel
theorem dX4_somewhere_31 : decode cX4_somewhere 31 = .ok (.invokevirtual 105, 3) := by decide +kernel
theorem dX4_somewhere_34 : decode cX4_somewhere 34 = .ok (.istore 6, 2) := by decide +kernel
theorem dX4_somewhere_36 : decode cX4_somewhere 36 = .ok (.iload 6, 2) := by decide +kernel
theorem dX4_somewhere_38 : decode cX4_somewhere 38 = .ok (.ifCond .lt 22, 3) := by decide +kernel
theorem dX4_somewhere_41 : decode cX4_somewhere 41 = .ok (.aload_n 0, 1) := by decide +kernel
theorem dX4_somewhere_42 : decode cX4_somewhere 42 = .ok (.iload 5, 2) := by decide +kernel
theorem dX4_somewhere_44 : decode cX4_somewhere 44 = .ok (.iload_n 3, 1) := by decide +kernel
theorem dX4_somewhere_45 : decode cX4_somewhere 45 = .ok (.invokevirtual 101, 3) := by decide +kernel
theorem dX4_somewhere_48 : decode cX4_somewhere 48 = .ok (.ifCond .eq 12, 3) := by decide +kernel
theorem dX4_somewhere_51 : decode cX4_somewhere 51 = .ok (.iload 4, 2) := by decide +kernel
theorem dX4_somewhere_53 : decode cX4_somewhere 53 = .ok (.iconst 1, 1) := by decide +kernel
theorem dX4_somewhere_54 : decode cX4_somewhere 54 = .ok (.iload 6, 2) := by decide +kernel
theorem dX4_somewhere_56 : decode cX4_somewhere 56 = .ok (.ishl, 1) := by decide +kernel
theorem dX4_somewhere_57 : decode cX4_somewhere 57 = .ok (.ior, 1) := by decide +kernel
theorem dX4_somewhere_58 : decode cX4_somewhere 58 = .ok (.istore 4, 2) := by decide +kernel
theorem dX4_somewhere_60 : decode cX4_somewhere 60 = .ok (.iinc 5 1, 3) := by decide +kernel
theorem dX4_somewhere_63 : decode cX4_somewhere 63 = .ok (.goto (-52), 3) := by decide +kernel
theorem dX4_somewhere_66 : decode cX4_somewhere 66 = .ok (.iload 4, 2) := by decide +kernel
theorem dX4_somewhere_68 : decode cX4_somewhere 68 = .ok (.ireturn, 1) := by decide +kernel
set_option maxRecDepth 100000 in
set_option maxHeartbeats 4000000 in
theorem mX4_somewhere_L11 {E : goEv} {X : goX} {G : goG} {Q : State → Prop} {M : goMI} {L : goML} {R : goMR} {v1 : Int32} {v2 : Int32} {v3 : Int32} (hc : goCx E X cX4_somewhere RX4 7) (hk : goKn E) (hR : X.2.2.2.1 = goRoom 3 64 0 0) (hr : X.2.2.2.2.2.2.2.2.1.sig.returnType = (Option.some FieldType.int)) (hW : goW G R) : ∀ (n : Nat) (v4 : Int32) (v5 : Int32) (r0 : Int32), lX4_somewhere_11 v1 v2 v3 M R n v4 v5 = some r0 → (∀ (d0 d1 d2 d3 d5 d6 : Option Value), goA E X G 0 0 Q 66 [d0, d1, d2, d3, some (.int r0), d5, d6] [] M L R) → ∀ (d6 : Option Value), goA E X G 0 0 Q 11 [some (.ref 74), some (.int v1), some (.int v2), some (.int v3), some (.int v4), some (.int v5), d6] [] M L R := by
  intro n
  induction n with
  | zero => intro v4 v5 r0 h; exact nomatch h
  | succ n ih =>
    intro v4 v5 r0 h kx d6
    rw [lX4_somewhere_11] at h
    refine go_iload5 hc dX4_somewhere_11 ?_
    refine go_aload0 hc dX4_somewhere_13 ?_
    refine go_getR hc lk_RX4_26 dX4_somewhere_14 (sh_74 hW) (rm_74_2 hW) ?_
    refine go_getI hc lk_RX4_68 dX4_somewhere_17 (shHill_0 hW (mm_74_2 hW)) ?_
    refine go_icmp_ge hc 66 dX4_somewhere_20 rfl (fun c13 => ?_) (fun c13 => ?_)
    · replace h := goIfF h c13
      cases h
      exact kx _ _ _ _ _ _
    · replace h := goIfT h c13
      refine go_aload0 hc dX4_somewhere_23 ?_
      refine go_getR hc lk_RX4_26 dX4_somewhere_24 (sh_74 hW) (rm_74_2 hW) ?_
      refine go_iload5 hc dX4_somewhere_27 ?_
      refine go_iload1 hc dX4_somewhere_29 ?_
      refine go_iload2 hc dX4_somewhere_30 ?_
      replace h := goBind h; obtain ⟨x14, e15, h⟩ := h
      refine go_callVi hc dX4_somewhere_31 (mX6_placeIn hk hW (mm_74_2 hW) e15) ml_RX4_105 yk_X6_placeIn ⟨wim_X6_placeIn, wse_X6_placeIn⟩ hR rfl (shHill_0 hW (mm_74_2 hW)) rfl rfl rfl (Nat.le_of_ble_eq_true rfl) rfl ?_
      refine go_istore6 hc dX4_somewhere_34 ?_
      refine go_iload6 hc dX4_somewhere_36 ?_
      replace h := goBind h; obtain ⟨x16, e17, h⟩ := h
      have k18 : ∀ (d6 : Option Value), goA E X G 0 0 Q 60 [some (.ref 74), some (.int v1), some (.int v2), some (.int v3), some (.int x16), some (.int v5), d6] [] M L R := by
        intro d6
        refine go_iinc5 (v := (v5 + 1)) hc dX4_somewhere_60 rfl ?_
        refine go_goto hc 11 dX4_somewhere_63 rfl ?_
        exact ih _ _ _ h kx _
      refine go_if_lt hc 60 dX4_somewhere_38 rfl (fun c19 => ?_) (fun c19 => ?_)
      · replace e17 := goIfF e17 c19
        cases e17
        exact k18 _
      · replace e17 := goIfT e17 c19
        refine go_aload0 hc dX4_somewhere_41 ?_
        refine go_iload5 hc dX4_somewhere_42 ?_
        refine go_iload3 hc dX4_somewhere_44 ?_
        replace e17 := goBind e17; obtain ⟨x20, e21, e17⟩ := e17
        refine go_callVi hc dX4_somewhere_45 (mX4_bears hk hW e21) ml_RX4_101 yk_X4_bears ⟨wim_X4_bears, wse_X4_bears⟩ hR rfl (sh_74 hW) rfl rfl rfl (Nat.le_of_ble_eq_true rfl) rfl ?_
        refine go_if_eq hc 60 dX4_somewhere_48 rfl (fun c22 => ?_) (fun c22 => ?_)
        · replace e17 := goIfT e17 c22
          cases e17
          exact k18 _
        · replace e17 := goIfF e17 c22
          refine go_iload4 hc dX4_somewhere_51 ?_
          refine go_iconst (v := 1) hc dX4_somewhere_53 rfl ?_
          refine go_iload6 hc dX4_somewhere_54 ?_
          refine go_ishl hc dX4_somewhere_56 ?_
          refine go_ior hc dX4_somewhere_57 ?_
          replace e17 := goNm_x e17; obtain ⟨x23, e24, e17⟩ := e17
          refine go_nmI e24 ?_
          refine go_istore4 hc dX4_somewhere_58 ?_
          cases e17
          exact k18 _
set_option maxRecDepth 100000 in
set_option maxHeartbeats 4000000 in
theorem mX4_somewhere {E : goEv} {l : Launch} {G : goG} {N : Nat} {M : goMI} {L : goML} {R : goMR} {v1 : Int32} {v2 : Int32} {r0 : Int32} (hk : goKn E) (hW : goW G R) (h : fX4_somewhere N M R v1 v2 = some r0) : Met l yX4_somewhere (goCd yX4_somewhere cX4_somewhere 7 (Option.some FieldType.int)) (goRoom 3 64 0 0) (goPre E [.ref 74, .int v1, .int v2] G M L R) (goQi E r0 G M L R) 0 0 (goSet E) := by
  refine goMet pl_RX4 hk (lv := [some (.ref 74), some (.int v1), some (.int v2), none, none, none, none]) rfl (Nat.le_of_ble_eq_true rfl) ?_
  intro X hc hl hR hr hnm
  subst hl
  unfold fX4_somewhere at h
  refine go_aload0 hc dX4_somewhere_0 ?_
  replace h := goBind h; obtain ⟨x11, e12, h⟩ := h
  refine go_callVi hc dX4_somewhere_1 (mX4_heardClues hk hW e12) ml_RX4_97 yk_X4_heardClues ⟨wim_X4_heardClues, wse_X4_heardClues⟩ hR rfl (sh_74 hW) rfl rfl rfl (Nat.le_of_ble_eq_true rfl) rfl ?_
  refine go_istore3 hc dX4_somewhere_4 ?_
  refine go_iconst (v := 0) hc dX4_somewhere_5 rfl ?_
  refine go_istore4 hc dX4_somewhere_6 ?_
  refine go_iconst (v := 0) hc dX4_somewhere_8 rfl ?_
  refine go_istore5 hc dX4_somewhere_9 ?_
  replace h := goBind h; obtain ⟨x26, e25, h⟩ := h
  refine mX4_somewhere_L11 hc hk hR hr hW _ _ _ _ e25 (fun d0 d1 d2 d3 d5 d6 => ?_) _
  refine go_iload4 hc dX4_somewhere_66 ?_
  cases h
  exact go_iret hc dX4_somewhere_68 hr
theorem dX4_everywhere_0 : decode cX4_everywhere 0 = .ok (.aload_n 0, 1) := by decide +kernel
theorem dX4_everywhere_1 : decode cX4_everywhere 1 = .ok (.iload_n 1, 1) := by decide +kernel
theorem dX4_everywhere_2 : decode cX4_everywhere 2 = .ok (.iload_n 2, 1) := by decide +kernel
theorem dX4_everywhere_3 : decode cX4_everywhere 3 = .ok (.invokevirtual 109, 3) := by decide +kernel
theorem dX4_everywhere_6 : decode cX4_everywhere 6 = .ok (.istore_n 3, 1) := by decide +kernel
theorem dX4_everywhere_7 : decode cX4_everywhere 7 = .ok (.iconst 0, 1) := by decide +kernel
theorem dX4_everywhere_8 : decode cX4_everywhere 8 = .ok (.istore 4, 2) := by decide +kernel
theorem dX4_everywhere_10 : decode cX4_everywhere 10 = .ok (.iload 4, 2) := by decide +kernel
theorem dX4_everywhere_12 : decode cX4_everywhere 12 = .ok (.aload_n 0, 1) := by decide +kernel
theorem dX4_everywhere_13 : decode cX4_everywhere 13 = .ok (.getfield 26, 3) := by decide +kernel
theorem dX4_everywhere_16 : decode cX4_everywhere 16 = .ok (.getfield 113, 3) := by decide +kernel
theorem dX4_everywhere_19 : decode cX4_everywhere 19 = .ok (.if_icmp .ge 20, 3) := by decide +kernel
theorem dX4_everywhere_22 : decode cX4_everywhere 22 = .ok (.iload_n 3, 1) := by decide +kernel
theorem dX4_everywhere_23 : decode cX4_everywhere 23 = .ok (.iconst 1, 1) := by decide +kernel
theorem dX4_everywhere_24 : decode cX4_everywhere 24 = .ok (.iload 4, 2) := by decide +kernel
theorem dX4_everywhere_26 : decode cX4_everywhere 26 = .ok (.ishl, 1) := by decide +kernel
theorem dX4_everywhere_27 : decode cX4_everywhere 27 = .ok (.if_icmp .ne 6, 3) := by decide +kernel
theorem dX4_everywhere_30 : decode cX4_everywhere 30 = .ok (.iload 4, 2) := by decide +kernel
theorem dX4_everywhere_32 : decode cX4_everywhere 32 = .ok (.ireturn, 1) := by decide +kernel
theorem dX4_everywhere_33 : decode cX4_everywhere 33 = .ok (.iinc 4 1, 3) := by decide +kernel
theorem dX4_everywhere_36 : decode cX4_everywhere 36 = .ok (.goto (-26), 3) := by decide +kernel
theorem dX4_everywhere_39 : decode cX4_everywhere 39 = .ok (.bipush (-2), 2) := by decide +kernel
theorem dX4_everywhere_41 : decode cX4_everywhere 41 = .ok (.ireturn, 1) := by decide +kernel
set_option maxRecDepth 100000 in
set_option maxHeartbeats 4000000 in
theorem mX4_everywhere_L10 {E : goEv} {X : goX} {G : goG} {M : goMI} {L : goML} {R : goMR} {v3 : Int32} {r0 : Int32} (hc : goCx E X cX4_everywhere RX4 5) (hk : goKn E) (hR : X.2.2.2.1 = goRoom 4 90 0 0) (hr : X.2.2.2.2.2.2.2.2.1.sig.returnType = (Option.some FieldType.int)) (hW : goW G R) : ∀ (n : Nat) (v4 : Int32), lX4_everywhere_10 v3 M R n v4 = some r0 → ∀ (d1 d2 : Option Value), goA E X G 0 0 (goMQ X E (goQi E r0 G M L R) 0 0) 10 [some (.ref 74), d1, d2, some (.int v3), some (.int v4)] [] M L R := by
  intro n
  induction n with
  | zero => intro v4 h; exact nomatch h
  | succ n ih =>
    intro v4 h d1 d2
    rw [lX4_everywhere_10] at h
    refine go_iload4 hc dX4_everywhere_10 ?_
    refine go_aload0 hc dX4_everywhere_12 ?_
    refine go_getR hc lk_RX4_26 dX4_everywhere_13 (sh_74 hW) (rm_74_2 hW) ?_
    refine go_getI hc lk_RX4_113 dX4_everywhere_16 (shHill_0 hW (mm_74_2 hW)) ?_
    refine go_icmp_ge hc 39 dX4_everywhere_19 rfl (fun c13 => ?_) (fun c13 => ?_)
    · replace h := goIfF h c13
      refine go_bipush (v := (-2)) hc dX4_everywhere_39 rfl ?_
      cases h
      exact go_iret hc dX4_everywhere_41 hr
    · replace h := goIfT h c13
      refine go_iload3 hc dX4_everywhere_22 ?_
      refine go_iconst (v := 1) hc dX4_everywhere_23 rfl ?_
      refine go_iload4 hc dX4_everywhere_24 ?_
      refine go_ishl hc dX4_everywhere_26 ?_
      refine go_icmp_ne hc 33 dX4_everywhere_27 rfl (fun c14 => ?_) (fun c14 => ?_)
      · replace h := goIfF h c14
        refine go_iinc4 (v := (v4 + 1)) hc dX4_everywhere_33 rfl ?_
        refine go_goto hc 10 dX4_everywhere_36 rfl ?_
        exact ih _ h _ _
      · replace h := goIfT h c14
        refine go_iload4 hc dX4_everywhere_30 ?_
        cases h
        exact go_iret hc dX4_everywhere_32 hr
set_option maxRecDepth 100000 in
set_option maxHeartbeats 4000000 in
theorem mX4_everywhere {E : goEv} {l : Launch} {G : goG} {N : Nat} {M : goMI} {L : goML} {R : goMR} {v1 : Int32} {v2 : Int32} {r0 : Int32} (hk : goKn E) (hW : goW G R) (h : fX4_everywhere N M R v1 v2 = some r0) : Met l yX4_everywhere (goCd yX4_everywhere cX4_everywhere 5 (Option.some FieldType.int)) (goRoom 4 90 0 0) (goPre E [.ref 74, .int v1, .int v2] G M L R) (goQi E r0 G M L R) 0 0 (goSet E) := by
  refine goMet pl_RX4 hk (lv := [some (.ref 74), some (.int v1), some (.int v2), none, none]) rfl (Nat.le_of_ble_eq_true rfl) ?_
  intro X hc hl hR hr hnm
  subst hl
  unfold fX4_everywhere at h
  refine go_aload0 hc dX4_everywhere_0 ?_
  refine go_iload1 hc dX4_everywhere_1 ?_
  refine go_iload2 hc dX4_everywhere_2 ?_
  replace h := goBind h; obtain ⟨x11, e12, h⟩ := h
  refine go_callVi hc dX4_everywhere_3 (mX4_somewhere hk hW e12) ml_RX4_109 yk_X4_somewhere ⟨wim_X4_somewhere, wse_X4_somewhere⟩ hR rfl (sh_74 hW) rfl rfl rfl (Nat.le_of_ble_eq_true rfl) rfl ?_
  refine go_istore3 hc dX4_everywhere_6 ?_
  refine go_iconst (v := 0) hc dX4_everywhere_7 rfl ?_
  refine go_istore4 hc dX4_everywhere_8 ?_
  exact mX4_everywhere_L10 hc hk hR hr hW _ _ h _ _
theorem dX4_untold_0 : decode cX4_untold 0 = .ok (.aload_n 0, 1) := by decide +kernel
theorem dX4_untold_1 : decode cX4_untold 1 = .ok (.invokevirtual 97, 3) := by decide +kernel
theorem dX4_untold_4 : decode cX4_untold 4 = .ok (.istore_n 2, 1) := by decide +kernel
theorem dX4_untold_5 : decode cX4_untold 5 = .ok (.iconst 1, 1) := by decide +kernel
theorem dX4_untold_6 : decode cX4_untold 6 = .ok (.aload_n 0, 1) := by decide +kernel
theorem dX4_untold_7 : decode cX4_untold 7 = .ok (.getfield 26, 3) := by decide +kernel
theorem dX4_untold_10 : decode cX4_untold 10 = .ok (.getfield 116, 3) := by decide +kernel
theorem dX4_untold_13 : decode cX4_untold 13 = .ok (.iload_n 1, 1) := by decide +kernel
theorem dX4_untold_14 : decode cX4_untold 14 = .ok (.iaload, 1) := by decide +kernel
theorem dX4_untold_15 : decode cX4_untold 15 = .ok (.ishl, 1) := by decide +kernel
theorem dX4_untold_16 : decode cX4_untold 16 = .ok (.iconst 1, 1) := by decide +kernel
theorem dX4_untold_17 : decode cX4_untold 17 = .ok (.isub, 1) := by decide +kernel
theorem dX4_untold_18 : decode cX4_untold 18 = .ok (.istore_n 3, 1) := by decide +kernel
theorem dX4_untold_19 : decode cX4_untold 19 = .ok (.iconst 0, 1) := by decide +kernel
theorem dX4_untold_20 : decode cX4_untold 20 = .ok (.istore 4, 2) := by decide +kernel
theorem dX4_untold_22 : decode cX4_untold 22 = .ok (.iload 4, 2) := by decide +kernel
theorem dX4_untold_24 : decode cX4_untold 24 = .ok (.aload_n 0, 1) := by decide +kernel
theorem dX4_untold_25 : decode cX4_untold 25 = .ok (.getfield 26, 3) := by decide +kernel
theorem dX4_untold_28 : decode cX4_untold 28 = .ok (.getfield 68, 3) := by decide +kernel
theorem dX4_untold_31 : decode cX4_untold 31 = .ok (.if_icmp .ge 45, 3) := by decide +kernel
theorem dX4_untold_34 : decode cX4_untold 34 = .ok (.aload_n 0, 1) := by decide +kernel
theorem dX4_untold_35 : decode cX4_untold 35 = .ok (.getfield 26, 3) := by decide +kernel
theorem dX4_untold_38 : decode cX4_untold 38 = .ok (.iload 4, 2) := by decide +kernel
theorem dX4_untold_40 : decode cX4_untold 40 = .ok (.iload_n 1, 1) := by decide +kernel
theorem dX4_untold_41 : decode cX4_untold 41 = .ok (.invokevirtual 119, 3) := by decide +kernel
theorem dX4_untold_44 : decode cX4_untold 44 = .ok (.istore 5, 2) := by decide +kernel
theorem dX4_untold_46 : decode cX4_untold 46 = .ok (.iload 5, 2) := by decide +kernel
theorem dX4_untold_48 : decode cX4_untold 48 = .ok (.ifCond .lt 22, 3) := by decide +kernel
theorem dX4_untold_51 : decode cX4_untold 51 = .ok (.aload_n 0, 1) := by decide +kernel
theorem dX4_untold_52 : decode cX4_untold 52 = .ok (.iload 4, 2) := by decide +kernel
theorem dX4_untold_54 : decode cX4_untold 54 = .ok (.iload_n 2, 1) := by decide +kernel
theorem dX4_untold_55 : decode cX4_untold 55 = .ok (.invokevirtual 101, 3) := by decide +kernel
theorem dX4_untold_58 : decode cX4_untold 58 = .ok (.ifCond .eq 12, 3) := by decide +kernel
theorem dX4_untold_61 : decode cX4_untold 61 = .ok (.iload_n 3, 1) := by decide +kernel
theorem dX4_untold_62 : decode cX4_untold 62 = .ok (.iconst 1, 1) := by decide +kernel
theorem dX4_untold_63 : decode cX4_untold 63 = .ok (.iload 5, 2) := by decide +kernel
theorem dX4_untold_65 : decode cX4_untold 65 = .ok (.ishl, 1) := by decide +kernel
theorem dX4_untold_66 : decode cX4_untold 66 = .ok (.iconst (-1), 1) := by decide +kernel
theorem dX4_untold_67 : decode cX4_untold 67 = .ok (.ixor, 1) := by decide +kernel
theorem dX4_untold_68 : decode cX4_untold 68 = .ok (.iand, 1) := by decide +kernel
theorem dX4_untold_69 : decode cX4_untold 69 = .ok (.istore_n 3, 1) := by decide +kernel
theorem dX4_untold_70 : decode cX4_untold 70 = .ok (.iinc 4 1, 3) := by decide +kernel
theorem dX4_untold_73 : decode cX4_untold 73 = .ok (.goto (-51), 3) := by decide +kernel
theorem dX4_untold_76 : decode cX4_untold 76 = .ok (.iload_n 3, 1) := by decide +kernel
theorem dX4_untold_77 : decode cX4_untold 77 = .ok (.ireturn, 1) := by decide +kernel
set_option maxRecDepth 100000 in
set_option maxHeartbeats 4000000 in
theorem mX4_untold_L22 {E : goEv} {X : goX} {G : goG} {Q : State → Prop} {M : goMI} {L : goML} {R : goMR} {v1 : Int32} {v2 : Int32} (hc : goCx E X cX4_untold RX4 6) (hk : goKn E) (hR : X.2.2.2.1 = goRoom 3 64 0 0) (hr : X.2.2.2.2.2.2.2.2.1.sig.returnType = (Option.some FieldType.int)) (hW : goW G R) : ∀ (n : Nat) (v3 : Int32) (v4 : Int32) (r0 : Int32), lX4_untold_22 v1 v2 M R n v3 v4 = some r0 → (∀ (d0 d1 d2 d4 d5 : Option Value), goA E X G 0 0 Q 76 [d0, d1, d2, some (.int r0), d4, d5] [] M L R) → ∀ (d5 : Option Value), goA E X G 0 0 Q 22 [some (.ref 74), some (.int v1), some (.int v2), some (.int v3), some (.int v4), d5] [] M L R := by
  intro n
  induction n with
  | zero => intro v3 v4 r0 h; exact nomatch h
  | succ n ih =>
    intro v3 v4 r0 h kx d5
    rw [lX4_untold_22] at h
    refine go_iload4 hc dX4_untold_22 ?_
    refine go_aload0 hc dX4_untold_24 ?_
    refine go_getR hc lk_RX4_26 dX4_untold_25 (sh_74 hW) (rm_74_2 hW) ?_
    refine go_getI hc lk_RX4_68 dX4_untold_28 (shHill_0 hW (mm_74_2 hW)) ?_
    refine go_icmp_ge hc 76 dX4_untold_31 rfl (fun c17 => ?_) (fun c17 => ?_)
    · replace h := goIfF h c17
      cases h
      exact kx _ _ _ _ _
    · replace h := goIfT h c17
      refine go_aload0 hc dX4_untold_34 ?_
      refine go_getR hc lk_RX4_26 dX4_untold_35 (sh_74 hW) (rm_74_2 hW) ?_
      refine go_iload4 hc dX4_untold_38 ?_
      refine go_iload1 hc dX4_untold_40 ?_
      replace h := goBind h; obtain ⟨x18, e19, h⟩ := h
      refine go_callVi hc dX4_untold_41 (mX6_storyIn hk hW (mm_74_2 hW) e19) ml_RX4_119 yk_X6_storyIn ⟨wim_X6_storyIn, wse_X6_storyIn⟩ hR rfl (shHill_0 hW (mm_74_2 hW)) rfl rfl rfl (Nat.le_of_ble_eq_true rfl) rfl ?_
      refine go_istore5 hc dX4_untold_44 ?_
      refine go_iload5 hc dX4_untold_46 ?_
      replace h := goBind h; obtain ⟨x20, e21, h⟩ := h
      have k22 : ∀ (d5 : Option Value), goA E X G 0 0 Q 70 [some (.ref 74), some (.int v1), some (.int v2), some (.int x20), some (.int v4), d5] [] M L R := by
        intro d5
        refine go_iinc4 (v := (v4 + 1)) hc dX4_untold_70 rfl ?_
        refine go_goto hc 22 dX4_untold_73 rfl ?_
        exact ih _ _ _ h kx _
      refine go_if_lt hc 70 dX4_untold_48 rfl (fun c23 => ?_) (fun c23 => ?_)
      · replace e21 := goIfF e21 c23
        cases e21
        exact k22 _
      · replace e21 := goIfT e21 c23
        refine go_aload0 hc dX4_untold_51 ?_
        refine go_iload4 hc dX4_untold_52 ?_
        refine go_iload2 hc dX4_untold_54 ?_
        replace e21 := goBind e21; obtain ⟨x24, e25, e21⟩ := e21
        refine go_callVi hc dX4_untold_55 (mX4_bears hk hW e25) ml_RX4_101 yk_X4_bears ⟨wim_X4_bears, wse_X4_bears⟩ hR rfl (sh_74 hW) rfl rfl rfl (Nat.le_of_ble_eq_true rfl) rfl ?_
        refine go_if_eq hc 70 dX4_untold_58 rfl (fun c26 => ?_) (fun c26 => ?_)
        · replace e21 := goIfT e21 c26
          cases e21
          exact k22 _
        · replace e21 := goIfF e21 c26
          refine go_iload3 hc dX4_untold_61 ?_
          refine go_iconst (v := 1) hc dX4_untold_62 rfl ?_
          refine go_iload5 hc dX4_untold_63 ?_
          refine go_ishl hc dX4_untold_65 ?_
          refine go_iconst (v := (-1)) hc dX4_untold_66 rfl ?_
          refine go_ixor hc dX4_untold_67 ?_
          refine go_iand hc dX4_untold_68 ?_
          replace e21 := goNm_x e21; obtain ⟨x27, e28, e21⟩ := e21
          refine go_nmI e28 ?_
          refine go_istore3 hc dX4_untold_69 ?_
          cases e21
          exact k22 _
set_option maxRecDepth 100000 in
set_option maxHeartbeats 4000000 in
theorem mX4_untold {E : goEv} {l : Launch} {G : goG} {N : Nat} {M : goMI} {L : goML} {R : goMR} {v1 : Int32} {r0 : Int32} (hk : goKn E) (hW : goW G R) (h : fX4_untold N M R v1 = some r0) : Met l yX4_untold (goCd yX4_untold cX4_untold 6 (Option.some FieldType.int)) (goRoom 3 64 0 0) (goPre E [.ref 74, .int v1] G M L R) (goQi E r0 G M L R) 0 0 (goSet E) := by
  refine goMet pl_RX4 hk (lv := [some (.ref 74), some (.int v1), none, none, none, none]) rfl (Nat.le_of_ble_eq_true rfl) ?_
  intro X hc hl hR hr hnm
  subst hl
  unfold fX4_untold at h
  refine go_aload0 hc dX4_untold_0 ?_
  replace h := goBind h; obtain ⟨x11, e12, h⟩ := h
  refine go_callVi hc dX4_untold_1 (mX4_heardClues hk hW e12) ml_RX4_97 yk_X4_heardClues ⟨wim_X4_heardClues, wse_X4_heardClues⟩ hR rfl (sh_74 hW) rfl rfl rfl (Nat.le_of_ble_eq_true rfl) rfl ?_
  refine go_istore2 hc dX4_untold_4 ?_
  refine go_iconst (v := 1) hc dX4_untold_5 rfl ?_
  refine go_aload0 hc dX4_untold_6 ?_
  refine go_getR hc lk_RX4_26 dX4_untold_7 (sh_74 hW) (rm_74_2 hW) ?_
  refine go_getR hc lk_RX4_116 dX4_untold_10 (shHill_0 hW (mm_74_2 hW)) (rfHill_11 hW (mm_74_2 hW)) ?_
  refine go_iload1 hc dX4_untold_13 ?_
  replace h := goBind h; obtain ⟨x13, e14, h⟩ := h
  refine go_iald hc dX4_untold_14 (shHill_5 hW (mm_74_2 hW)) e14 ?_
  refine go_ishl hc dX4_untold_15 ?_
  refine go_iconst (v := 1) hc dX4_untold_16 rfl ?_
  refine go_isub hc dX4_untold_17 ?_
  replace h := goNm_x h; obtain ⟨x15, e16, h⟩ := h
  refine go_nmI e16 ?_
  refine go_istore3 hc dX4_untold_18 ?_
  refine go_iconst (v := 0) hc dX4_untold_19 rfl ?_
  refine go_istore4 hc dX4_untold_20 ?_
  replace h := goBind h; obtain ⟨x30, e29, h⟩ := h
  refine mX4_untold_L22 hc hk hR hr hW _ _ _ _ e29 (fun d0 d1 d2 d4 d5 => ?_) _
  refine go_iload3 hc dX4_untold_76 ?_
  cases h
  exact go_iret hc dX4_untold_77 hr
theorem dX4_anyBears_0 : decode cX4_anyBears 0 = .ok (.iconst 0, 1) := by decide +kernel
theorem dX4_anyBears_1 : decode cX4_anyBears 1 = .ok (.istore_n 2, 1) := by decide +kernel
theorem dX4_anyBears_2 : decode cX4_anyBears 2 = .ok (.iload_n 2, 1) := by decide +kernel
theorem dX4_anyBears_3 : decode cX4_anyBears 3 = .ok (.aload_n 0, 1) := by decide +kernel
theorem dX4_anyBears_4 : decode cX4_anyBears 4 = .ok (.getfield 26, 3) := by decide +kernel
theorem dX4_anyBears_7 : decode cX4_anyBears 7 = .ok (.getfield 68, 3) := by decide +kernel
theorem dX4_anyBears_10 : decode cX4_anyBears 10 = .ok (.if_icmp .ge 20, 3) := by decide +kernel
theorem dX4_anyBears_13 : decode cX4_anyBears 13 = .ok (.aload_n 0, 1) := by decide +kernel
theorem dX4_anyBears_14 : decode cX4_anyBears 14 = .ok (.iload_n 2, 1) := by decide +kernel
theorem dX4_anyBears_15 : decode cX4_anyBears 15 = .ok (.iload_n 1, 1) := by decide +kernel
theorem dX4_anyBears_16 : decode cX4_anyBears 16 = .ok (.invokevirtual 101, 3) := by decide +kernel
theorem dX4_anyBears_19 : decode cX4_anyBears 19 = .ok (.ifCond .eq 5, 3) := by decide +kernel
theorem dX4_anyBears_22 : decode cX4_anyBears 22 = .ok (.iconst 1, 1) := by decide +kernel
theorem dX4_anyBears_23 : decode cX4_anyBears 23 = .ok (.ireturn, 1) := by decide +kernel
theorem dX4_anyBears_24 : decode cX4_anyBears 24 = .ok (.iinc 2 1, 3) := by decide +kernel
theorem dX4_anyBears_27 : decode cX4_anyBears 27 = .ok (.goto (-25), 3) := by decide +kernel
theorem dX4_anyBears_30 : decode cX4_anyBears 30 = .ok (.iconst 0, 1) := by decide +kernel
theorem dX4_anyBears_31 : decode cX4_anyBears 31 = .ok (.ireturn, 1) := by decide +kernel
set_option maxRecDepth 100000 in
set_option maxHeartbeats 4000000 in
theorem mX4_anyBears_L2 {E : goEv} {X : goX} {G : goG} {M : goMI} {L : goML} {R : goMR} {v1 : Int32} {r0 : Int32} (hc : goCx E X cX4_anyBears RX4 3) (hk : goKn E) (hR : X.2.2.2.1 = goRoom 1 22 0 0) (hr : X.2.2.2.2.2.2.2.2.1.sig.returnType = (Option.some FieldType.boolean)) (hW : goW G R) : ∀ (n : Nat) (v2 : Int32), lX4_anyBears_2 v1 M R n v2 = some r0 → goA E X G 0 0 (goMQ X E (goQi E r0 G M L R) 0 0) 2 [some (.ref 74), some (.int v1), some (.int v2)] [] M L R := by
  intro n
  induction n with
  | zero => intro v2 h; exact nomatch h
  | succ n ih =>
    intro v2 h
    rw [lX4_anyBears_2] at h
    refine go_iload2 hc dX4_anyBears_2 ?_
    refine go_aload0 hc dX4_anyBears_3 ?_
    refine go_getR hc lk_RX4_26 dX4_anyBears_4 (sh_74 hW) (rm_74_2 hW) ?_
    refine go_getI hc lk_RX4_68 dX4_anyBears_7 (shHill_0 hW (mm_74_2 hW)) ?_
    refine go_icmp_ge hc 30 dX4_anyBears_10 rfl (fun c11 => ?_) (fun c11 => ?_)
    · replace h := goIfF h c11
      refine go_iconst (v := 0) hc dX4_anyBears_30 rfl ?_
      cases h
      exact go_zret hc dX4_anyBears_31 hr rfl
    · replace h := goIfT h c11
      refine go_aload0 hc dX4_anyBears_13 ?_
      refine go_iload2 hc dX4_anyBears_14 ?_
      refine go_iload1 hc dX4_anyBears_15 ?_
      replace h := goBind h; obtain ⟨x12, e13, h⟩ := h
      refine go_callVi hc dX4_anyBears_16 (mX4_bears hk hW e13) ml_RX4_101 yk_X4_bears ⟨wim_X4_bears, wse_X4_bears⟩ hR rfl (sh_74 hW) rfl rfl rfl (Nat.le_of_ble_eq_true rfl) rfl ?_
      refine go_if_eq hc 24 dX4_anyBears_19 rfl (fun c14 => ?_) (fun c14 => ?_)
      · replace h := goIfT h c14
        refine go_iinc2 (v := (v2 + 1)) hc dX4_anyBears_24 rfl ?_
        refine go_goto hc 2 dX4_anyBears_27 rfl ?_
        exact ih _ h
      · replace h := goIfF h c14
        refine go_iconst (v := 1) hc dX4_anyBears_22 rfl ?_
        cases h
        exact go_zret hc dX4_anyBears_23 hr rfl
set_option maxRecDepth 100000 in
set_option maxHeartbeats 4000000 in
theorem mX4_anyBears {E : goEv} {l : Launch} {G : goG} {N : Nat} {M : goMI} {L : goML} {R : goMR} {v1 : Int32} {r0 : Int32} (hk : goKn E) (hW : goW G R) (h : fX4_anyBears N M R v1 = some r0) : Met l yX4_anyBears (goCd yX4_anyBears cX4_anyBears 3 (Option.some FieldType.boolean)) (goRoom 1 22 0 0) (goPre E [.ref 74, .int v1] G M L R) (goQi E r0 G M L R) 0 0 (goSet E) := by
  refine goMet pl_RX4 hk (lv := [some (.ref 74), some (.int v1), none]) rfl (Nat.le_of_ble_eq_true rfl) ?_
  intro X hc hl hR hr hnm
  subst hl
  unfold fX4_anyBears at h
  refine go_iconst (v := 0) hc dX4_anyBears_0 rfl ?_
  refine go_istore2 hc dX4_anyBears_1 ?_
  exact mX4_anyBears_L2 hc hk hR hr hW _ _ h
theorem dX4_fewestFalse_0 : decode cX4_fewestFalse 0 = .ok (.bipush (-2), 2) := by decide +kernel
theorem dX4_fewestFalse_2 : decode cX4_fewestFalse 2 = .ok (.istore_n 1, 1) := by decide +kernel
theorem dX4_fewestFalse_3 : decode cX4_fewestFalse 3 = .ok (.bipush 7, 2) := by decide +kernel
theorem dX4_fewestFalse_5 : decode cX4_fewestFalse 5 = .ok (.istore_n 2, 1) := by decide +kernel
theorem dX4_fewestFalse_6 : decode cX4_fewestFalse 6 = .ok (.iconst 0, 1) := by decide +kernel
theorem dX4_fewestFalse_7 : decode cX4_fewestFalse 7 = .ok (.istore_n 3, 1) := by decide +kernel
theorem dX4_fewestFalse_8 : decode cX4_fewestFalse 8 = .ok (.iload_n 3, 1) := by decide +kernel
theorem dX4_fewestFalse_9 : decode cX4_fewestFalse 9 = .ok (.iconst 1, 1) := by decide +kernel
theorem dX4_fewestFalse_10 : decode cX4_fewestFalse 10 = .ok (.aload_n 0, 1) := by decide +kernel
theorem dX4_fewestFalse_11 : decode cX4_fewestFalse 11 = .ok (.getfield 26, 3) := by decide +kernel
theorem dX4_fewestFalse_14 : decode cX4_fewestFalse 14 = .ok (.getfield 75, 3) := by decide +kernel
theorem dX4_fewestFalse_17 : decode cX4_fewestFalse 17 = .ok (.getfield 122, 3) := by decide +kernel
theorem dX4_fewestFalse_20 : decode cX4_fewestFalse 20 = .ok (.ishl, 1) := by decide +kernel
theorem dX4_fewestFalse_21 : decode cX4_fewestFalse 21 = .ok (.if_icmp .ge 59, 3) := by decide +kernel
theorem dX4_fewestFalse_24 : decode cX4_fewestFalse 24 = .ok (.aload_n 0, 1) := by decide +kernel
theorem dX4_fewestFalse_25 : decode cX4_fewestFalse 25 = .ok (.getfield 26, 3) := by decide +kernel
theorem dX4_fewestFalse_28 : decode cX4_fewestFalse 28 = .ok (.getfield 75, 3) := by decide +kernel
theorem dX4_fewestFalse_31 : decode cX4_fewestFalse 31 = .ok (.aload_n 0, 1) := by decide +kernel
theorem dX4_fewestFalse_32 : decode cX4_fewestFalse 32 = .ok (.getfield 22, 3) := by decide +kernel
theorem dX4_fewestFalse_35 : decode cX4_fewestFalse 35 = .ok (.getfield 90, 3) := by decide +kernel
theorem dX4_fewestFalse_38 : decode cX4_fewestFalse 38 = .ok (.bipush 25, 2) := by decide +kernel
theorem dX4_fewestFalse_40 : decode cX4_fewestFalse 40 = .ok (.iaload, 1) := by decide +kernel
theorem dX4_fewestFalse_41 : decode cX4_fewestFalse 41 = .ok (.iload_n 3, 1) := by decide +kernel
theorem dX4_fewestFalse_42 : decode cX4_fewestFalse 42 = .ok (.iconst (-1), 1) := by decide +kernel
theorem dX4_fewestFalse_43 : decode cX4_fewestFalse 43 = .ok (.ixor, 1) := by decide +kernel
theorem dX4_fewestFalse_44 : decode cX4_fewestFalse 44 = .ok (.iand, 1) := by decide +kernel
theorem dX4_fewestFalse_45 : decode cX4_fewestFalse 45 = .ok (.invokevirtual 93, 3) := by decide +kernel
theorem dX4_fewestFalse_48 : decode cX4_fewestFalse 48 = .ok (.istore 4, 2) := by decide +kernel
theorem dX4_fewestFalse_50 : decode cX4_fewestFalse 50 = .ok (.iload_n 3, 1) := by decide +kernel
theorem dX4_fewestFalse_51 : decode cX4_fewestFalse 51 = .ok (.invokestatic 125, 3) := by decide +kernel
theorem dX4_fewestFalse_54 : decode cX4_fewestFalse 54 = .ok (.iload_n 2, 1) := by decide +kernel
theorem dX4_fewestFalse_55 : decode cX4_fewestFalse 55 = .ok (.if_icmp .ge 19, 3) := by decide +kernel
theorem dX4_fewestFalse_58 : decode cX4_fewestFalse 58 = .ok (.aload_n 0, 1) := by decide +kernel
theorem dX4_fewestFalse_59 : decode cX4_fewestFalse 59 = .ok (.iload 4, 2) := by decide +kernel
theorem dX4_fewestFalse_61 : decode cX4_fewestFalse 61 = .ok (.invokevirtual 130, 3) := by decide +kernel
theorem dX4_fewestFalse_64 : decode cX4_fewestFalse 64 = .ok (.ifCond .eq 10, 3) := by decide +kernel
theorem dX4_fewestFalse_67 : decode cX4_fewestFalse 67 = .ok (.iload_n 3, 1) := by decide +kernel
theorem dX4_fewestFalse_68 : decode cX4_fewestFalse 68 = .ok (.istore_n 1, 1) := by decide +kernel
theorem dX4_fewestFalse_69 : decode cX4_fewestFalse 69 = .ok (.iload_n 3, 1) := by decide +kernel
theorem dX4_fewestFalse_70 : decode cX4_fewestFalse 70 = .ok (.invokestatic 125, 3) := by decide +kernel
theorem dX4_fewestFalse_73 : decode cX4_fewestFalse 73 = .ok (.istore_n 2, 1) := by decide +kernel
theorem dX4_fewestFalse_74 : decode cX4_fewestFalse 74 = .ok (.iinc 3 1, 3) := by decide +kernel
theorem dX4_fewestFalse_77 : decode cX4_fewestFalse 77 = .ok (.goto (-69), 3) := by decide +kernel
theorem dX4_fewestFalse_80 : decode cX4_fewestFalse 80 = .ok (.iload_n 1, 1) := by decide +kernel
theorem dX4_fewestFalse_81 : decode cX4_fewestFalse 81 = .ok (.ireturn, 1) := by decide +kernel
set_option maxRecDepth 100000 in
set_option maxHeartbeats 4000000 in
theorem mX4_fewestFalse_L8 {E : goEv} {X : goX} {G : goG} {Q : State → Prop} {M : goMI} {L : goML} {R : goMR} {N : Nat} (hc : goCx E X cX4_fewestFalse RX4 5) (hk : goKn E) (hR : X.2.2.2.1 = goRoom 2 44 0 0) (hr : X.2.2.2.2.2.2.2.2.1.sig.returnType = (Option.some FieldType.int)) (hW : goW G R) : ∀ (n : Nat) (v1 : Int32) (v2 : Int32) (v3 : Int32) (r0 : Int32), lX4_fewestFalse_8 N M R n v1 v2 v3 = some r0 → (∀ (d0 d2 d3 d4 : Option Value), goA E X G 0 0 Q 80 [d0, some (.int r0), d2, d3, d4] [] M L R) → ∀ (d4 : Option Value), goA E X G 0 0 Q 8 [some (.ref 74), some (.int v1), some (.int v2), some (.int v3), d4] [] M L R := by
  intro n
  induction n with
  | zero => intro v1 v2 v3 r0 h; exact nomatch h
  | succ n ih =>
    intro v1 v2 v3 r0 h kx d4
    rw [lX4_fewestFalse_8] at h
    refine go_iload3 hc dX4_fewestFalse_8 ?_
    refine go_iconst (v := 1) hc dX4_fewestFalse_9 rfl ?_
    refine go_aload0 hc dX4_fewestFalse_10 ?_
    refine go_getR hc lk_RX4_26 dX4_fewestFalse_11 (sh_74 hW) (rm_74_2 hW) ?_
    refine go_getR hc lk_RX4_75 dX4_fewestFalse_14 (shHill_0 hW (mm_74_2 hW)) (rfHill_15 hW (mm_74_2 hW)) ?_
    refine go_getI hc lk_RX4_122 dX4_fewestFalse_17 (shHerd_0 hW (subHerd (mm_74_2 hW))) ?_
    refine go_ishl hc dX4_fewestFalse_20 ?_
    refine go_icmp_ge hc 80 dX4_fewestFalse_21 rfl (fun c11 => ?_) (fun c11 => ?_)
    · replace h := goIfF h c11
      cases h
      exact kx _ _ _ _
    · replace h := goIfT h c11
      refine go_aload0 hc dX4_fewestFalse_24 ?_
      refine go_getR hc lk_RX4_26 dX4_fewestFalse_25 (sh_74 hW) (rm_74_2 hW) ?_
      refine go_getR hc lk_RX4_75 dX4_fewestFalse_28 (shHill_0 hW (mm_74_2 hW)) (rfHill_15 hW (mm_74_2 hW)) ?_
      refine go_aload0 hc dX4_fewestFalse_31 ?_
      refine go_getR hc lk_RX4_22 dX4_fewestFalse_32 (sh_74 hW) (rf_74_0 hW) ?_
      refine go_getR hc lk_RX4_90 dX4_fewestFalse_35 (sh_3 hW) (rf_3_0 hW) ?_
      refine go_bipush (v := 25) hc dX4_fewestFalse_38 rfl ?_
      replace h := goBind h; obtain ⟨x12, e13, h⟩ := h
      refine go_iald hc dX4_fewestFalse_40 (sh_4 hW) e13 ?_
      refine go_iload3 hc dX4_fewestFalse_41 ?_
      refine go_iconst (v := (-1)) hc dX4_fewestFalse_42 rfl ?_
      refine go_ixor hc dX4_fewestFalse_43 ?_
      refine go_iand hc dX4_fewestFalse_44 ?_
      replace h := goBind h; obtain ⟨x14, e15, h⟩ := h
      refine go_callVi hc dX4_fewestFalse_45 (mX5_cluesOf hk hW (subHerd (mm_74_2 hW)) e15) ml_RX4_93 yk_X5_cluesOf ⟨wim_X5_cluesOf, wse_X5_cluesOf⟩ hR rfl (shHerd_0 hW (subHerd (mm_74_2 hW))) rfl rfl rfl (Nat.le_of_ble_eq_true rfl) rfl ?_
      refine go_istore4 hc dX4_fewestFalse_48 ?_
      refine go_iload3 hc dX4_fewestFalse_50 ?_
      refine go_callSi hc dX4_fewestFalse_51 (mJ6_bitCount_0f7a4 hk hW rfl) ml_RX4_125 yk_J6_bitCount_0f7a4 wst_J6_bitCount_0f7a4 hR rfl rfl rfl (Nat.le_of_ble_eq_true rfl) rfl ?_
      refine go_iload2 hc dX4_fewestFalse_54 ?_
      replace h := goB2_h h; obtain ⟨x16, x17, e18, h⟩ := h
      have k19 : ∀ (d4 : Option Value), goA E X G 0 0 Q 74 [some (.ref 74), some (.int x16), some (.int x17), some (.int v3), d4] [] M L R := by
        intro d4
        refine go_iinc3 (v := (v3 + 1)) hc dX4_fewestFalse_74 rfl ?_
        refine go_goto hc 8 dX4_fewestFalse_77 rfl ?_
        exact ih _ _ _ _ h kx _
      refine go_icmp_ge hc 74 dX4_fewestFalse_55 rfl (fun c20 => ?_) (fun c20 => ?_)
      · replace e18 := goIfF e18 c20
        cases e18
        exact k19 _
      · replace e18 := goIfT e18 c20
        refine go_aload0 hc dX4_fewestFalse_58 ?_
        refine go_iload4 hc dX4_fewestFalse_59 ?_
        replace e18 := goBind e18; obtain ⟨x21, e22, e18⟩ := e18
        refine go_callVi hc dX4_fewestFalse_61 (mX4_anyBears hk hW e22) ml_RX4_130 yk_X4_anyBears ⟨wim_X4_anyBears, wse_X4_anyBears⟩ hR rfl (sh_74 hW) rfl rfl rfl (Nat.le_of_ble_eq_true rfl) rfl ?_
        refine go_if_eq hc 74 dX4_fewestFalse_64 rfl (fun c23 => ?_) (fun c23 => ?_)
        · replace e18 := goIfT e18 c23
          cases e18
          exact k19 _
        · replace e18 := goIfF e18 c23
          refine go_iload3 hc dX4_fewestFalse_67 ?_
          refine go_istore1 hc dX4_fewestFalse_68 ?_
          refine go_iload3 hc dX4_fewestFalse_69 ?_
          refine go_callSi hc dX4_fewestFalse_70 (mJ6_bitCount_0f7a4 hk hW rfl) ml_RX4_125 yk_J6_bitCount_0f7a4 wst_J6_bitCount_0f7a4 hR rfl rfl rfl (Nat.le_of_ble_eq_true rfl) rfl ?_
          replace e18 := goNm_x e18; obtain ⟨x24, e25, e18⟩ := e18
          refine go_nmI e25 ?_
          refine go_istore2 hc dX4_fewestFalse_73 ?_
          cases e18
          exact k19 _
set_option maxRecDepth 100000 in
set_option maxHeartbeats 4000000 in
theorem mX4_fewestFalse {E : goEv} {l : Launch} {G : goG} {N : Nat} {M : goMI} {L : goML} {R : goMR} {r0 : Int32} (hk : goKn E) (hW : goW G R) (h : fX4_fewestFalse N M R = some r0) : Met l yX4_fewestFalse (goCd yX4_fewestFalse cX4_fewestFalse 5 (Option.some FieldType.int)) (goRoom 2 44 0 0) (goPre E [.ref 74] G M L R) (goQi E r0 G M L R) 0 0 (goSet E) := by
  refine goMet pl_RX4 hk (lv := [some (.ref 74), none, none, none, none]) rfl (Nat.le_of_ble_eq_true rfl) ?_
  intro X hc hl hR hr hnm
  subst hl
  unfold fX4_fewestFalse at h
  refine go_bipush (v := (-2)) hc dX4_fewestFalse_0 rfl ?_
  refine go_istore1 hc dX4_fewestFalse_2 ?_
  refine go_bipush (v := 7) hc dX4_fewestFalse_3 rfl ?_
  refine go_istore2 hc dX4_fewestFalse_5 ?_
  refine go_iconst (v := 0) hc dX4_fewestFalse_6 rfl ?_
  refine go_istore3 hc dX4_fewestFalse_7 ?_
  replace h := goBind h; obtain ⟨x27, e26, h⟩ := h
  refine mX4_fewestFalse_L8 hc hk hR hr hW _ _ _ _ _ e26 (fun d0 d2 d3 d4 => ?_) _
  refine go_iload1 hc dX4_fewestFalse_80 ?_
  cases h
  exact go_iret hc dX4_fewestFalse_81 hr
theorem dX4_oddsOf_0 : decode cX4_oddsOf 0 = .ok (.iconst 1, 1) := by decide +kernel
theorem dX4_oddsOf_1 : decode cX4_oddsOf 1 = .ok (.istore_n 2, 1) := by decide +kernel
theorem dX4_oddsOf_2 : decode cX4_oddsOf 2 = .ok (.iconst 0, 1) := by decide +kernel
theorem dX4_oddsOf_3 : decode cX4_oddsOf 3 = .ok (.istore_n 3, 1) := by decide +kernel
theorem dX4_oddsOf_4 : decode cX4_oddsOf 4 = .ok (.iload_n 3, 1) := by decide +kernel
theorem dX4_oddsOf_5 : decode cX4_oddsOf 5 = .ok (.aload_n 0, 1) := by decide +kernel
theorem dX4_oddsOf_6 : decode cX4_oddsOf 6 = .ok (.getfield 26, 3) := by decide +kernel
theorem dX4_oddsOf_9 : decode cX4_oddsOf 9 = .ok (.getfield 75, 3) := by decide +kernel
theorem dX4_oddsOf_12 : decode cX4_oddsOf 12 = .ok (.getfield 122, 3) := by decide +kernel
theorem dX4_oddsOf_15 : decode cX4_oddsOf 15 = .ok (.if_icmp .ge 83, 3) := by decide +kernel
theorem dX4_oddsOf_18 : decode cX4_oddsOf 18 = .ok (.aload_n 0, 1) := by decide +kernel
theorem dX4_oddsOf_19 : decode cX4_oddsOf 19 = .ok (.getfield 26, 3) := by decide +kernel
theorem dX4_oddsOf_22 : decode cX4_oddsOf 22 = .ok (.getfield 75, 3) := by decide +kernel
theorem dX4_oddsOf_25 : decode cX4_oddsOf 25 = .ok (.aload_n 0, 1) := by decide +kernel
theorem dX4_oddsOf_26 : decode cX4_oddsOf 26 = .ok (.getfield 22, 3) := by decide +kernel
theorem dX4_oddsOf_29 : decode cX4_oddsOf 29 = .ok (.getfield 90, 3) := by decide +kernel
theorem dX4_oddsOf_32 : decode cX4_oddsOf 32 = .ok (.bipush 25, 2) := by decide +kernel
theorem dX4_oddsOf_34 : decode cX4_oddsOf 34 = .ok (.iaload, 1) := by decide +kernel
theorem dX4_oddsOf_35 : decode cX4_oddsOf 35 = .ok (.iconst 1, 1) := by decide +kernel
theorem dX4_oddsOf_36 : decode cX4_oddsOf 36 = .ok (.iload_n 3, 1) := by decide +kernel
theorem dX4_oddsOf_37 : decode cX4_oddsOf 37 = .ok (.ishl, 1) := by decide +kernel
theorem dX4_oddsOf_38 : decode cX4_oddsOf 38 = .ok (.iand, 1) := by decide +kernel
theorem dX4_oddsOf_39 : decode cX4_oddsOf 39 = .ok (.invokevirtual 93, 3) := by decide +kernel
theorem dX4_oddsOf_42 : decode cX4_oddsOf 42 = .ok (.istore 4, 2) := by decide +kernel
theorem dX4_oddsOf_44 : decode cX4_oddsOf 44 = .ok (.iload 4, 2) := by decide +kernel
theorem dX4_oddsOf_46 : decode cX4_oddsOf 46 = .ok (.ifCond .eq 46, 3) := by decide +kernel
theorem dX4_oddsOf_49 : decode cX4_oddsOf 49 = .ok (.iload_n 2, 1) := by decide +kernel
theorem dX4_oddsOf_50 : decode cX4_oddsOf 50 = .ok (.aload_n 0, 1) := by decide +kernel
theorem dX4_oddsOf_51 : decode cX4_oddsOf 51 = .ok (.iload_n 1, 1) := by decide +kernel
theorem dX4_oddsOf_52 : decode cX4_oddsOf 52 = .ok (.iload 4, 2) := by decide +kernel
theorem dX4_oddsOf_54 : decode cX4_oddsOf 54 = .ok (.invokevirtual 101, 3) := by decide +kernel
theorem dX4_oddsOf_57 : decode cX4_oddsOf 57 = .ok (.ifCond .eq 18, 3) := by decide +kernel
theorem dX4_oddsOf_60 : decode cX4_oddsOf 60 = .ok (.aload_n 0, 1) := by decide +kernel
theorem dX4_oddsOf_61 : decode cX4_oddsOf 61 = .ok (.getfield 26, 3) := by decide +kernel
theorem dX4_oddsOf_64 : decode cX4_oddsOf 64 = .ok (.getfield 75, 3) := by decide +kernel
theorem dX4_oddsOf_67 : decode cX4_oddsOf 67 = .ok (.getfield 133, 3) := by decide +kernel
theorem dX4_oddsOf_70 : decode cX4_oddsOf 70 = .ok (.iload_n 3, 1) := by decide +kernel
theorem dX4_oddsOf_71 : decode cX4_oddsOf 71 = .ok (.iaload, 1) := by decide +kernel
theorem dX4_oddsOf_72 : decode cX4_oddsOf 72 = .ok (.goto 18, 3) := by decide +kernel
theorem dX4_oddsOf_75 : decode cX4_oddsOf 75 = .ok (.bipush 10, 2) := by decide +kernel
theorem dX4_oddsOf_77 : decode cX4_oddsOf 77 = .ok (.aload_n 0, 1) := by decide +kernel
theorem dX4_oddsOf_78 : decode cX4_oddsOf 78 = .ok (.getfield 26, 3) := by decide +kernel
theorem dX4_oddsOf_81 : decode cX4_oddsOf 81 = .ok (.getfield 75, 3) := by decide +kernel
theorem dX4_oddsOf_84 : decode cX4_oddsOf 84 = .ok (.getfield 133, 3) := by decide +kernel
theorem dX4_oddsOf_87 : decode cX4_oddsOf 87 = .ok (.iload_n 3, 1) := by decide +kernel
theorem dX4_oddsOf_88 : decode cX4_oddsOf 88 = .ok (.iaload, 1) := by decide +kernel
theorem dX4_oddsOf_89 : decode cX4_oddsOf 89 = .ok (.isub, 1) := by decide +kernel
theorem dX4_oddsOf_90 : decode cX4_oddsOf 90 = .ok (.imul, 1) := by decide +kernel
theorem dX4_oddsOf_91 : decode cX4_oddsOf 91 = .ok (.istore_n 2, 1) := by decide +kernel
theorem dX4_oddsOf_92 : decode cX4_oddsOf 92 = .ok (.iinc 3 1, 3) := by decide +kernel
theorem dX4_oddsOf_95 : decode cX4_oddsOf 95 = .ok (.goto (-91), 3) := by decide +kernel
theorem dX4_oddsOf_98 : decode cX4_oddsOf 98 = .ok (.iload_n 2, 1) := by decide +kernel
theorem dX4_oddsOf_99 : decode cX4_oddsOf 99 = .ok (.ireturn, 1) := by decide +kernel
set_option maxRecDepth 100000 in
set_option maxHeartbeats 4000000 in
theorem mX4_oddsOf_L4 {E : goEv} {X : goX} {G : goG} {Q : State → Prop} {M : goMI} {L : goML} {R : goMR} {N : Nat} {v1 : Int32} (hc : goCx E X cX4_oddsOf RX4 5) (hk : goKn E) (hR : X.2.2.2.1 = goRoom 2 44 0 0) (hr : X.2.2.2.2.2.2.2.2.1.sig.returnType = (Option.some FieldType.int)) (hW : goW G R) : ∀ (n : Nat) (v2 : Int32) (v3 : Int32) (r0 : Int32), lX4_oddsOf_4 N v1 M R n v2 v3 = some r0 → (∀ (d0 d1 d3 d4 : Option Value), goA E X G 0 0 Q 98 [d0, d1, some (.int r0), d3, d4] [] M L R) → ∀ (d4 : Option Value), goA E X G 0 0 Q 4 [some (.ref 74), some (.int v1), some (.int v2), some (.int v3), d4] [] M L R := by
  intro n
  induction n with
  | zero => intro v2 v3 r0 h; exact nomatch h
  | succ n ih =>
    intro v2 v3 r0 h kx d4
    rw [lX4_oddsOf_4] at h
    refine go_iload3 hc dX4_oddsOf_4 ?_
    refine go_aload0 hc dX4_oddsOf_5 ?_
    refine go_getR hc lk_RX4_26 dX4_oddsOf_6 (sh_74 hW) (rm_74_2 hW) ?_
    refine go_getR hc lk_RX4_75 dX4_oddsOf_9 (shHill_0 hW (mm_74_2 hW)) (rfHill_15 hW (mm_74_2 hW)) ?_
    refine go_getI hc lk_RX4_122 dX4_oddsOf_12 (shHerd_0 hW (subHerd (mm_74_2 hW))) ?_
    refine go_icmp_ge hc 98 dX4_oddsOf_15 rfl (fun c11 => ?_) (fun c11 => ?_)
    · replace h := goIfF h c11
      cases h
      exact kx _ _ _ _
    · replace h := goIfT h c11
      refine go_aload0 hc dX4_oddsOf_18 ?_
      refine go_getR hc lk_RX4_26 dX4_oddsOf_19 (sh_74 hW) (rm_74_2 hW) ?_
      refine go_getR hc lk_RX4_75 dX4_oddsOf_22 (shHill_0 hW (mm_74_2 hW)) (rfHill_15 hW (mm_74_2 hW)) ?_
      refine go_aload0 hc dX4_oddsOf_25 ?_
      refine go_getR hc lk_RX4_22 dX4_oddsOf_26 (sh_74 hW) (rf_74_0 hW) ?_
      refine go_getR hc lk_RX4_90 dX4_oddsOf_29 (sh_3 hW) (rf_3_0 hW) ?_
      refine go_bipush (v := 25) hc dX4_oddsOf_32 rfl ?_
      replace h := goBind h; obtain ⟨x12, e13, h⟩ := h
      refine go_iald hc dX4_oddsOf_34 (sh_4 hW) e13 ?_
      refine go_iconst (v := 1) hc dX4_oddsOf_35 rfl ?_
      refine go_iload3 hc dX4_oddsOf_36 ?_
      refine go_ishl hc dX4_oddsOf_37 ?_
      refine go_iand hc dX4_oddsOf_38 ?_
      replace h := goBind h; obtain ⟨x14, e15, h⟩ := h
      refine go_callVi hc dX4_oddsOf_39 (mX5_cluesOf hk hW (subHerd (mm_74_2 hW)) e15) ml_RX4_93 yk_X5_cluesOf ⟨wim_X5_cluesOf, wse_X5_cluesOf⟩ hR rfl (shHerd_0 hW (subHerd (mm_74_2 hW))) rfl rfl rfl (Nat.le_of_ble_eq_true rfl) rfl ?_
      refine go_istore4 hc dX4_oddsOf_42 ?_
      refine go_iload4 hc dX4_oddsOf_44 ?_
      replace h := goBind h; obtain ⟨x16, e17, h⟩ := h
      have k18 : ∀ (d4 : Option Value), goA E X G 0 0 Q 92 [some (.ref 74), some (.int v1), some (.int x16), some (.int v3), d4] [] M L R := by
        intro d4
        refine go_iinc3 (v := (v3 + 1)) hc dX4_oddsOf_92 rfl ?_
        refine go_goto hc 4 dX4_oddsOf_95 rfl ?_
        exact ih _ _ _ h kx _
      refine go_if_eq hc 92 dX4_oddsOf_46 rfl (fun c19 => ?_) (fun c19 => ?_)
      · replace e17 := goIfT e17 c19
        cases e17
        exact k18 _
      · replace e17 := goIfF e17 c19
        refine go_iload2 hc dX4_oddsOf_49 ?_
        refine go_aload0 hc dX4_oddsOf_50 ?_
        refine go_iload1 hc dX4_oddsOf_51 ?_
        refine go_iload4 hc dX4_oddsOf_52 ?_
        replace e17 := goBind e17; obtain ⟨x20, e21, e17⟩ := e17
        refine go_callVi hc dX4_oddsOf_54 (mX4_bears hk hW e21) ml_RX4_101 yk_X4_bears ⟨wim_X4_bears, wse_X4_bears⟩ hR rfl (sh_74 hW) rfl rfl rfl (Nat.le_of_ble_eq_true rfl) rfl ?_
        replace e17 := goBind e17; obtain ⟨x22, e23, e17⟩ := e17
        have k24 : ∀ (d2 d4 : Option Value), goA E X G 0 0 Q 90 [some (.ref 74), some (.int v1), d2, some (.int v3), d4] [.int x22, .int v2] M L R := by
          intro d2 d4
          refine go_imul hc dX4_oddsOf_90 ?_
          replace e17 := goNm_x e17; obtain ⟨x30, e31, e17⟩ := e17
          refine go_nmI e31 ?_
          refine go_istore2 hc dX4_oddsOf_91 ?_
          cases e17
          exact k18 _
        refine go_if_eq hc 75 dX4_oddsOf_57 rfl (fun c25 => ?_) (fun c25 => ?_)
        · replace e23 := goIfT e23 c25
          refine go_bipush (v := 10) hc dX4_oddsOf_75 rfl ?_
          refine go_aload0 hc dX4_oddsOf_77 ?_
          refine go_getR hc lk_RX4_26 dX4_oddsOf_78 (sh_74 hW) (rm_74_2 hW) ?_
          refine go_getR hc lk_RX4_75 dX4_oddsOf_81 (shHill_0 hW (mm_74_2 hW)) (rfHill_15 hW (mm_74_2 hW)) ?_
          refine go_getR hc lk_RX4_133 dX4_oddsOf_84 (shHerd_0 hW (subHerd (mm_74_2 hW))) (rfHerd_5 hW (subHerd (mm_74_2 hW))) ?_
          refine go_iload3 hc dX4_oddsOf_87 ?_
          replace e23 := goBind e23; obtain ⟨x26, e27, e23⟩ := e23
          refine go_iald hc dX4_oddsOf_88 (shHerd_4 hW (subHerd (mm_74_2 hW))) e27 ?_
          refine go_isub hc dX4_oddsOf_89 ?_
          cases e23
          exact k24 _ _
        · replace e23 := goIfF e23 c25
          refine go_aload0 hc dX4_oddsOf_60 ?_
          refine go_getR hc lk_RX4_26 dX4_oddsOf_61 (sh_74 hW) (rm_74_2 hW) ?_
          refine go_getR hc lk_RX4_75 dX4_oddsOf_64 (shHill_0 hW (mm_74_2 hW)) (rfHill_15 hW (mm_74_2 hW)) ?_
          refine go_getR hc lk_RX4_133 dX4_oddsOf_67 (shHerd_0 hW (subHerd (mm_74_2 hW))) (rfHerd_5 hW (subHerd (mm_74_2 hW))) ?_
          refine go_iload3 hc dX4_oddsOf_70 ?_
          replace e23 := goBind e23; obtain ⟨x28, e29, e23⟩ := e23
          refine go_iald hc dX4_oddsOf_71 (shHerd_4 hW (subHerd (mm_74_2 hW))) e29 ?_
          refine go_goto hc 90 dX4_oddsOf_72 rfl ?_
          cases e23
          exact k24 _ _
set_option maxRecDepth 100000 in
set_option maxHeartbeats 4000000 in
theorem mX4_oddsOf {E : goEv} {l : Launch} {G : goG} {N : Nat} {M : goMI} {L : goML} {R : goMR} {v1 : Int32} {r0 : Int32} (hk : goKn E) (hW : goW G R) (h : fX4_oddsOf N M R v1 = some r0) : Met l yX4_oddsOf (goCd yX4_oddsOf cX4_oddsOf 5 (Option.some FieldType.int)) (goRoom 2 44 0 0) (goPre E [.ref 74, .int v1] G M L R) (goQi E r0 G M L R) 0 0 (goSet E) := by
  refine goMet pl_RX4 hk (lv := [some (.ref 74), some (.int v1), none, none, none]) rfl (Nat.le_of_ble_eq_true rfl) ?_
  intro X hc hl hR hr hnm
  subst hl
  unfold fX4_oddsOf at h
  refine go_iconst (v := 1) hc dX4_oddsOf_0 rfl ?_
  refine go_istore2 hc dX4_oddsOf_1 ?_
  refine go_iconst (v := 0) hc dX4_oddsOf_2 rfl ?_
  refine go_istore3 hc dX4_oddsOf_3 ?_
  replace h := goBind h; obtain ⟨x33, e32, h⟩ := h
  refine mX4_oddsOf_L4 hc hk hR hr hW _ _ _ _ e32 (fun d0 d1 d3 d4 => ?_) _
  refine go_iload2 hc dX4_oddsOf_98 ?_
  cases h
  exact go_iret hc dX4_oddsOf_99 hr
theorem dX4_greatestOdds_0 : decode cX4_greatestOdds 0 = .ok (.iconst 0, 1) := by decide +kernel
theorem dX4_greatestOdds_1 : decode cX4_greatestOdds 1 = .ok (.istore_n 1, 1) := by decide +kernel
theorem dX4_greatestOdds_2 : decode cX4_greatestOdds 2 = .ok (.iconst 0, 1) := by decide +kernel
theorem dX4_greatestOdds_3 : decode cX4_greatestOdds 3 = .ok (.istore_n 2, 1) := by decide +kernel
theorem dX4_greatestOdds_4 : decode cX4_greatestOdds 4 = .ok (.iconst 0, 1) := by decide +kernel
theorem dX4_greatestOdds_5 : decode cX4_greatestOdds 5 = .ok (.istore_n 3, 1) := by decide +kernel
theorem dX4_greatestOdds_6 : decode cX4_greatestOdds 6 = .ok (.iload_n 3, 1) := by decide +kernel
theorem dX4_greatestOdds_7 : decode cX4_greatestOdds 7 = .ok (.aload_n 0, 1) := by decide +kernel
theorem dX4_greatestOdds_8 : decode cX4_greatestOdds 8 = .ok (.getfield 26, 3) := by decide +kernel
theorem dX4_greatestOdds_11 : decode cX4_greatestOdds 11 = .ok (.getfield 68, 3) := by decide +kernel
theorem dX4_greatestOdds_14 : decode cX4_greatestOdds 14 = .ok (.if_icmp .ge 27, 3) := by decide +kernel
theorem dX4_greatestOdds_17 : decode cX4_greatestOdds 17 = .ok (.aload_n 0, 1) := by decide +kernel
theorem dX4_greatestOdds_18 : decode cX4_greatestOdds 18 = .ok (.iload_n 3, 1) := by decide +kernel
theorem dX4_greatestOdds_19 : decode cX4_greatestOdds 19 = .ok (.invokevirtual 136, 3) := by decide +kernel
theorem dX4_greatestOdds_22 : decode cX4_greatestOdds 22 = .ok (.istore 4, 2) := by decide +kernel
theorem dX4_greatestOdds_24 : decode cX4_greatestOdds 24 = .ok (.iload 4, 2) := by decide +kernel
theorem dX4_greatestOdds_26 : decode cX4_greatestOdds 26 = .ok (.iload_n 2, 1) := by decide +kernel
theorem dX4_greatestOdds_27 : decode cX4_greatestOdds 27 = .ok (.if_icmp .le 8, 3) := by decide +kernel
theorem dX4_greatestOdds_30 : decode cX4_greatestOdds 30 = .ok (.iload 4, 2) := by decide +kernel
theorem dX4_greatestOdds_32 : decode cX4_greatestOdds 32 = .ok (.istore_n 2, 1) := by decide +kernel
theorem dX4_greatestOdds_33 : decode cX4_greatestOdds 33 = .ok (.iload_n 3, 1) := by decide +kernel
theorem dX4_greatestOdds_34 : decode cX4_greatestOdds 34 = .ok (.istore_n 1, 1) := by decide +kernel
theorem dX4_greatestOdds_35 : decode cX4_greatestOdds 35 = .ok (.iinc 3 1, 3) := by decide +kernel
theorem dX4_greatestOdds_38 : decode cX4_greatestOdds 38 = .ok (.goto (-32), 3) := by decide +kernel
theorem dX4_greatestOdds_41 : decode cX4_greatestOdds 41 = .ok (.iload_n 1, 1) := by decide +kernel
theorem dX4_greatestOdds_42 : decode cX4_greatestOdds 42 = .ok (.ireturn, 1) := by decide +kernel
set_option maxRecDepth 100000 in
set_option maxHeartbeats 4000000 in
theorem mX4_greatestOdds_L6 {E : goEv} {X : goX} {G : goG} {Q : State → Prop} {M : goMI} {L : goML} {R : goMR} {N : Nat} (hc : goCx E X cX4_greatestOdds RX4 5) (hk : goKn E) (hR : X.2.2.2.1 = goRoom 3 68 0 0) (hr : X.2.2.2.2.2.2.2.2.1.sig.returnType = (Option.some FieldType.int)) (hW : goW G R) : ∀ (n : Nat) (v1 : Int32) (v2 : Int32) (v3 : Int32) (r0 : Int32), lX4_greatestOdds_6 N M R n v1 v2 v3 = some r0 → (∀ (d0 d2 d3 d4 : Option Value), goA E X G 0 0 Q 41 [d0, some (.int r0), d2, d3, d4] [] M L R) → ∀ (d4 : Option Value), goA E X G 0 0 Q 6 [some (.ref 74), some (.int v1), some (.int v2), some (.int v3), d4] [] M L R := by
  intro n
  induction n with
  | zero => intro v1 v2 v3 r0 h; exact nomatch h
  | succ n ih =>
    intro v1 v2 v3 r0 h kx d4
    rw [lX4_greatestOdds_6] at h
    refine go_iload3 hc dX4_greatestOdds_6 ?_
    refine go_aload0 hc dX4_greatestOdds_7 ?_
    refine go_getR hc lk_RX4_26 dX4_greatestOdds_8 (sh_74 hW) (rm_74_2 hW) ?_
    refine go_getI hc lk_RX4_68 dX4_greatestOdds_11 (shHill_0 hW (mm_74_2 hW)) ?_
    refine go_icmp_ge hc 41 dX4_greatestOdds_14 rfl (fun c11 => ?_) (fun c11 => ?_)
    · replace h := goIfF h c11
      cases h
      exact kx _ _ _ _
    · replace h := goIfT h c11
      refine go_aload0 hc dX4_greatestOdds_17 ?_
      refine go_iload3 hc dX4_greatestOdds_18 ?_
      replace h := goBind h; obtain ⟨x12, e13, h⟩ := h
      refine go_callVi hc dX4_greatestOdds_19 (mX4_oddsOf hk hW e13) ml_RX4_136 yk_X4_oddsOf ⟨wim_X4_oddsOf, wse_X4_oddsOf⟩ hR rfl (sh_74 hW) rfl rfl rfl (Nat.le_of_ble_eq_true rfl) rfl ?_
      refine go_istore4 hc dX4_greatestOdds_22 ?_
      refine go_iload4 hc dX4_greatestOdds_24 ?_
      refine go_iload2 hc dX4_greatestOdds_26 ?_
      replace h := goB2_h h; obtain ⟨x14, x15, e16, h⟩ := h
      have k17 : ∀ (d4 : Option Value), goA E X G 0 0 Q 35 [some (.ref 74), some (.int x14), some (.int x15), some (.int v3), d4] [] M L R := by
        intro d4
        refine go_iinc3 (v := (v3 + 1)) hc dX4_greatestOdds_35 rfl ?_
        refine go_goto hc 6 dX4_greatestOdds_38 rfl ?_
        exact ih _ _ _ _ h kx _
      refine go_icmp_le hc 35 dX4_greatestOdds_27 rfl (fun c18 => ?_) (fun c18 => ?_)
      · replace e16 := goIfF e16 c18
        cases e16
        exact k17 _
      · replace e16 := goIfT e16 c18
        refine go_iload4 hc dX4_greatestOdds_30 ?_
        refine go_istore2 hc dX4_greatestOdds_32 ?_
        refine go_iload3 hc dX4_greatestOdds_33 ?_
        refine go_istore1 hc dX4_greatestOdds_34 ?_
        cases e16
        exact k17 _
set_option maxRecDepth 100000 in
set_option maxHeartbeats 4000000 in
theorem mX4_greatestOdds {E : goEv} {l : Launch} {G : goG} {N : Nat} {M : goMI} {L : goML} {R : goMR} {r0 : Int32} (hk : goKn E) (hW : goW G R) (h : fX4_greatestOdds N M R = some r0) : Met l yX4_greatestOdds (goCd yX4_greatestOdds cX4_greatestOdds 5 (Option.some FieldType.int)) (goRoom 3 68 0 0) (goPre E [.ref 74] G M L R) (goQi E r0 G M L R) 0 0 (goSet E) := by
  refine goMet pl_RX4 hk (lv := [some (.ref 74), none, none, none, none]) rfl (Nat.le_of_ble_eq_true rfl) ?_
  intro X hc hl hR hr hnm
  subst hl
  unfold fX4_greatestOdds at h
  refine go_iconst (v := 0) hc dX4_greatestOdds_0 rfl ?_
  refine go_istore1 hc dX4_greatestOdds_1 ?_
  refine go_iconst (v := 0) hc dX4_greatestOdds_2 rfl ?_
  refine go_istore2 hc dX4_greatestOdds_3 ?_
  refine go_iconst (v := 0) hc dX4_greatestOdds_4 rfl ?_
  refine go_istore3 hc dX4_greatestOdds_5 ?_
  replace h := goBind h; obtain ⟨x20, e19, h⟩ := h
  refine mX4_greatestOdds_L6 hc hk hR hr hW _ _ _ _ _ e19 (fun d0 d2 d3 d4 => ?_) _
  refine go_iload1 hc dX4_greatestOdds_41 ?_
  cases h
  exact go_iret hc dX4_greatestOdds_42 hr
theorem dX4_prove_0 : decode cX4_prove 0 = .ok (.aload_n 0, 1) := by decide +kernel
theorem dX4_prove_1 : decode cX4_prove 1 = .ok (.getfield 26, 3) := by decide +kernel
theorem dX4_prove_4 : decode cX4_prove 4 = .ok (.getfield 75, 3) := by decide +kernel
theorem dX4_prove_7 : decode cX4_prove 7 = .ok (.iload_n 1, 1) := by decide +kernel
theorem dX4_prove_8 : decode cX4_prove 8 = .ok (.invokevirtual 93, 3) := by decide +kernel
theorem dX4_prove_11 : decode cX4_prove 11 = .ok (.istore 5, 2) := by decide +kernel
theorem dX4_prove_13 : decode cX4_prove 13 = .ok (.iconst 0, 1) := by decide +kernel
theorem dX4_prove_14 : decode cX4_prove 14 = .ok (.istore 6, 2) := by decide +kernel
theorem dX4_prove_16 : decode cX4_prove 16 = .ok (.iconst 0, 1) := by decide +kernel
theorem dX4_prove_17 : decode cX4_prove 17 = .ok (.istore 7, 2) := by decide +kernel
theorem dX4_prove_19 : decode cX4_prove 19 = .ok (.iload 7, 2) := by decide +kernel
theorem dX4_prove_21 : decode cX4_prove 21 = .ok (.aload_n 0, 1) := by decide +kernel
theorem dX4_prove_22 : decode cX4_prove 22 = .ok (.getfield 26, 3) := by decide +kernel
theorem dX4_prove_25 : decode cX4_prove 25 = .ok (.getfield 68, 3) := by decide +kernel
theorem dX4_prove_28 : decode cX4_prove 28 = .ok (.if_icmp .ge 41, 3) := by decide +kernel
theorem dX4_prove_31 : decode cX4_prove 31 = .ok (.aload_n 0, 1) := by decide +kernel
theorem dX4_prove_32 : decode cX4_prove 32 = .ok (.iload 7, 2) := by decide +kernel
theorem dX4_prove_34 : decode cX4_prove 34 = .ok (.iload 5, 2) := by decide +kernel
theorem dX4_prove_36 : decode cX4_prove 36 = .ok (.invokevirtual 101, 3) := by decide +kernel
theorem dX4_prove_39 : decode cX4_prove 39 = .ok (.ifCond .eq 24, 3) := by decide +kernel
theorem dX4_prove_42 : decode cX4_prove 42 = .ok (.aload_n 0, 1) := by decide +kernel
theorem dX4_prove_43 : decode cX4_prove 43 = .ok (.getfield 26, 3) := by decide +kernel
theorem dX4_prove_46 : decode cX4_prove 46 = .ok (.iload 7, 2) := by decide +kernel
theorem dX4_prove_48 : decode cX4_prove 48 = .ok (.iload_n 2, 1) := by decide +kernel
theorem dX4_prove_49 : decode cX4_prove 49 = .ok (.iload 4, 2) := by decide +kernel
theorem dX4_prove_51 : decode cX4_prove 51 = .ok (.invokevirtual 105, 3) := by decide +kernel
theorem dX4_prove_54 : decode cX4_prove 54 = .ok (.iload_n 3, 1) := by decide +kernel
theorem dX4_prove_55 : decode cX4_prove 55 = .ok (.if_icmp .eq 5, 3) := by decide +kernel
theorem dX4_prove_58 : decode cX4_prove 58 = .ok (.iconst 0, 1) := by decide +kernel
theorem dX4_prove_59 : decode cX4_prove 59 = .ok (.ireturn, 1) := by decide +kernel
theorem dX4_prove_60 : decode cX4_prove 60 = .ok (.iconst 1, 1) := by decide +kernel
theorem dX4_prove_61 : decode cX4_prove 61 = .ok (.istore 6, 2) := by decide +kernel
theorem dX4_prove_63 : decode cX4_prove 63 = .ok (.iinc 7 1, 3) := by decide +kernel
theorem dX4_prove_66 : decode cX4_prove 66 = .ok (.goto (-47), 3) := by decide +kernel
theorem dX4_prove_69 : decode cX4_prove 69 = .ok (.iload 6, 2) := by decide +kernel
theorem dX4_prove_71 : decode cX4_prove 71 = .ok (.ireturn, 1) := by decide +kernel
set_option maxRecDepth 100000 in
set_option maxHeartbeats 4000000 in
theorem mX4_prove_L19 {E : goEv} {X : goX} {G : goG} {M : goMI} {L : goML} {R : goMR} {v2 : Int32} {v3 : Int32} {v4 : Int32} {v5 : Int32} {r0 : Int32} (hc : goCx E X cX4_prove RX4 8) (hk : goKn E) (hR : X.2.2.2.1 = goRoom 2 47 0 0) (hr : X.2.2.2.2.2.2.2.2.1.sig.returnType = (Option.some FieldType.boolean)) (hW : goW G R) : ∀ (n : Nat) (v6 : Int32) (v7 : Int32), lX4_prove_19 v2 v3 v4 v5 M R n v6 v7 = some r0 → ∀ (d1 : Option Value), goA E X G 0 0 (goMQ X E (goQi E r0 G M L R) 0 0) 19 [some (.ref 74), d1, some (.int v2), some (.int v3), some (.int v4), some (.int v5), some (.int v6), some (.int v7)] [] M L R := by
  intro n
  induction n with
  | zero => intro v6 v7 h; exact nomatch h
  | succ n ih =>
    intro v6 v7 h d1
    rw [lX4_prove_19] at h
    refine go_iload7 hc dX4_prove_19 ?_
    refine go_aload0 hc dX4_prove_21 ?_
    refine go_getR hc lk_RX4_26 dX4_prove_22 (sh_74 hW) (rm_74_2 hW) ?_
    refine go_getI hc lk_RX4_68 dX4_prove_25 (shHill_0 hW (mm_74_2 hW)) ?_
    refine go_icmp_ge hc 69 dX4_prove_28 rfl (fun c13 => ?_) (fun c13 => ?_)
    · replace h := goIfF h c13
      refine go_iload6 hc dX4_prove_69 ?_
      replace h := goBind h; obtain ⟨x14, e15, h⟩ := h
      obtain ⟨ze15, rfl⟩ := goZr_h e15
      cases h
      exact go_zret hc dX4_prove_71 hr (goZ_n ze15)
    · replace h := goIfT h c13
      refine go_aload0 hc dX4_prove_31 ?_
      refine go_iload7 hc dX4_prove_32 ?_
      refine go_iload5 hc dX4_prove_34 ?_
      replace h := goBind h; obtain ⟨x16, e17, h⟩ := h
      refine go_callVi hc dX4_prove_36 (mX4_bears hk hW e17) ml_RX4_101 yk_X4_bears ⟨wim_X4_bears, wse_X4_bears⟩ hR rfl (sh_74 hW) rfl rfl rfl (Nat.le_of_ble_eq_true rfl) rfl ?_
      refine go_if_eq hc 63 dX4_prove_39 rfl (fun c18 => ?_) (fun c18 => ?_)
      · replace h := goIfT h c18
        refine go_iinc7 (v := (v7 + 1)) hc dX4_prove_63 rfl ?_
        refine go_goto hc 19 dX4_prove_66 rfl ?_
        exact ih _ _ h _
      · replace h := goIfF h c18
        refine go_aload0 hc dX4_prove_42 ?_
        refine go_getR hc lk_RX4_26 dX4_prove_43 (sh_74 hW) (rm_74_2 hW) ?_
        refine go_iload7 hc dX4_prove_46 ?_
        refine go_iload2 hc dX4_prove_48 ?_
        refine go_iload4 hc dX4_prove_49 ?_
        replace h := goBind h; obtain ⟨x19, e20, h⟩ := h
        refine go_callVi hc dX4_prove_51 (mX6_placeIn hk hW (mm_74_2 hW) e20) ml_RX4_105 yk_X6_placeIn ⟨wim_X6_placeIn, wse_X6_placeIn⟩ hR rfl (shHill_0 hW (mm_74_2 hW)) rfl rfl rfl (Nat.le_of_ble_eq_true rfl) rfl ?_
        refine go_iload3 hc dX4_prove_54 ?_
        refine go_icmp_eq hc 60 dX4_prove_55 rfl (fun c21 => ?_) (fun c21 => ?_)
        · replace h := goIfT h c21
          refine go_iconst (v := 1) hc dX4_prove_60 rfl ?_
          refine go_istore6 hc dX4_prove_61 ?_
          refine go_iinc7 (v := (v7 + 1)) hc dX4_prove_63 rfl ?_
          refine go_goto hc 19 dX4_prove_66 rfl ?_
          exact ih _ _ h _
        · replace h := goIfF h c21
          refine go_iconst (v := 0) hc dX4_prove_58 rfl ?_
          cases h
          exact go_zret hc dX4_prove_59 hr rfl
set_option maxRecDepth 100000 in
set_option maxHeartbeats 4000000 in
theorem mX4_prove {E : goEv} {l : Launch} {G : goG} {N : Nat} {M : goMI} {L : goML} {R : goMR} {v1 : Int32} {v2 : Int32} {v3 : Int32} {v4 : Int32} {r0 : Int32} (hk : goKn E) (hW : goW G R) (h : fX4_prove N M R v1 v2 v3 v4 = some r0) : Met l yX4_prove (goCd yX4_prove cX4_prove 8 (Option.some FieldType.boolean)) (goRoom 2 47 0 0) (goPre E [.ref 74, .int v1, .int v2, .int v3, .int v4] G M L R) (goQi E r0 G M L R) 0 0 (goSet E) := by
  refine goMet pl_RX4 hk (lv := [some (.ref 74), some (.int v1), some (.int v2), some (.int v3), some (.int v4), none, none, none]) rfl (Nat.le_of_ble_eq_true rfl) ?_
  intro X hc hl hR hr hnm
  subst hl
  unfold fX4_prove at h
  refine go_aload0 hc dX4_prove_0 ?_
  refine go_getR hc lk_RX4_26 dX4_prove_1 (sh_74 hW) (rm_74_2 hW) ?_
  refine go_getR hc lk_RX4_75 dX4_prove_4 (shHill_0 hW (mm_74_2 hW)) (rfHill_15 hW (mm_74_2 hW)) ?_
  refine go_iload1 hc dX4_prove_7 ?_
  replace h := goBind h; obtain ⟨x11, e12, h⟩ := h
  refine go_callVi hc dX4_prove_8 (mX5_cluesOf hk hW (subHerd (mm_74_2 hW)) e12) ml_RX4_93 yk_X5_cluesOf ⟨wim_X5_cluesOf, wse_X5_cluesOf⟩ hR rfl (shHerd_0 hW (subHerd (mm_74_2 hW))) rfl rfl rfl (Nat.le_of_ble_eq_true rfl) rfl ?_
  refine go_istore5 hc dX4_prove_11 ?_
  refine go_iconst (v := 0) hc dX4_prove_13 rfl ?_
  refine go_istore6 hc dX4_prove_14 ?_
  refine go_iconst (v := 0) hc dX4_prove_16 rfl ?_
  refine go_istore7 hc dX4_prove_17 ?_
  exact mX4_prove_L19 hc hk hR hr hW _ _ _ h _
theorem dX4_fewestProving_0 : decode cX4_fewestProving 0 = .ok (.bipush (-2), 2) := by decide +kernel
theorem dX4_fewestProving_2 : decode cX4_fewestProving 2 = .ok (.istore 4, 2) := by decide +kernel
theorem dX4_fewestProving_4 : decode cX4_fewestProving 4 = .ok (.bipush 7, 2) := by decide +kernel
theorem dX4_fewestProving_6 : decode cX4_fewestProving 6 = .ok (.istore 5, 2) := by decide +kernel
theorem dX4_fewestProving_8 : decode cX4_fewestProving 8 = .ok (.iconst 0, 1) := by decide +kernel
theorem dX4_fewestProving_9 : decode cX4_fewestProving 9 = .ok (.istore 6, 2) := by decide +kernel
theorem dX4_fewestProving_11 : decode cX4_fewestProving 11 = .ok (.iload 6, 2) := by decide +kernel
theorem dX4_fewestProving_13 : decode cX4_fewestProving 13 = .ok (.iconst 1, 1) := by decide +kernel
theorem dX4_fewestProving_14 : decode cX4_fewestProving 14 = .ok (.aload_n 0, 1) := by decide +kernel
theorem dX4_fewestProving_15 : decode cX4_fewestProving 15 = .ok (.getfield 26, 3) := by decide +kernel
theorem dX4_fewestProving_18 : decode cX4_fewestProving 18 = .ok (.getfield 75, 3) := by decide +kernel
theorem dX4_fewestProving_21 : decode cX4_fewestProving 21 = .ok (.getfield 122, 3) := by decide +kernel
theorem dX4_fewestProving_24 : decode cX4_fewestProving 24 = .ok (.ishl, 1) := by decide +kernel
theorem dX4_fewestProving_25 : decode cX4_fewestProving 25 = .ok (.if_icmp .ge 42, 3) := by decide +kernel
theorem dX4_fewestProving_28 : decode cX4_fewestProving 28 = .ok (.iload 6, 2) := by decide +kernel
theorem dX4_fewestProving_30 : decode cX4_fewestProving 30 = .ok (.invokestatic 125, 3) := by decide +kernel
theorem dX4_fewestProving_33 : decode cX4_fewestProving 33 = .ok (.iload 5, 2) := by decide +kernel
theorem dX4_fewestProving_35 : decode cX4_fewestProving 35 = .ok (.if_icmp .ge 26, 3) := by decide +kernel
theorem dX4_fewestProving_38 : decode cX4_fewestProving 38 = .ok (.aload_n 0, 1) := by decide +kernel
theorem dX4_fewestProving_39 : decode cX4_fewestProving 39 = .ok (.iload 6, 2) := by decide +kernel
theorem dX4_fewestProving_41 : decode cX4_fewestProving 41 = .ok (.iload_n 1, 1) := by decide +kernel
theorem dX4_fewestProving_42 : decode cX4_fewestProving 42 = .ok (.iload_n 2, 1) := by decide +kernel
theorem dX4_fewestProving_43 : decode cX4_fewestProving 43 = .ok (.iload_n 3, 1) := by decide +kernel
theorem dX4_fewestProving_44 : decode cX4_fewestProving 44 = .ok (.invokevirtual 139, 3) := by decide +kernel
theorem dX4_fewestProving_47 : decode cX4_fewestProving 47 = .ok (.ifCond .eq 14, 3) := by decide +kernel
theorem dX4_fewestProving_50 : decode cX4_fewestProving 50 = .ok (.iload 6, 2) := by decide +kernel
theorem dX4_fewestProving_52 : decode cX4_fewestProving 52 = .ok (.istore 4, 2) := by decide +kernel
theorem dX4_fewestProving_54 : decode cX4_fewestProving 54 = .ok (.iload 6, 2) := by decide +kernel
theorem dX4_fewestProving_56 : decode cX4_fewestProving 56 = .ok (.invokestatic 125, 3) := by decide +kernel
theorem dX4_fewestProving_59 : decode cX4_fewestProving 59 = .ok (.istore 5, 2) := by decide +kernel
theorem dX4_fewestProving_61 : decode cX4_fewestProving 61 = .ok (.iinc 6 1, 3) := by decide +kernel
theorem dX4_fewestProving_64 : decode cX4_fewestProving 64 = .ok (.goto (-53), 3) := by decide +kernel
theorem dX4_fewestProving_67 : decode cX4_fewestProving 67 = .ok (.iload 4, 2) := by decide +kernel
theorem dX4_fewestProving_69 : decode cX4_fewestProving 69 = .ok (.ireturn, 1) := by decide +kernel
set_option maxRecDepth 100000 in
set_option maxHeartbeats 4000000 in
theorem mX4_fewestProving_L11 {E : goEv} {X : goX} {G : goG} {Q : State → Prop} {M : goMI} {L : goML} {R : goMR} {N : Nat} {v1 : Int32} {v2 : Int32} {v3 : Int32} (hc : goCx E X cX4_fewestProving RX4 7) (hk : goKn E) (hR : X.2.2.2.1 = goRoom 3 74 0 0) (hr : X.2.2.2.2.2.2.2.2.1.sig.returnType = (Option.some FieldType.int)) (hW : goW G R) : ∀ (n : Nat) (v4 : Int32) (v5 : Int32) (v6 : Int32) (r0 : Int32), lX4_fewestProving_11 N v1 v2 v3 M R n v4 v5 v6 = some r0 → (∀ (d0 d1 d2 d3 d5 d6 : Option Value), goA E X G 0 0 Q 67 [d0, d1, d2, d3, some (.int r0), d5, d6] [] M L R) → goA E X G 0 0 Q 11 [some (.ref 74), some (.int v1), some (.int v2), some (.int v3), some (.int v4), some (.int v5), some (.int v6)] [] M L R := by
  intro n
  induction n with
  | zero => intro v4 v5 v6 r0 h; exact nomatch h
  | succ n ih =>
    intro v4 v5 v6 r0 h kx
    rw [lX4_fewestProving_11] at h
    refine go_iload6 hc dX4_fewestProving_11 ?_
    refine go_iconst (v := 1) hc dX4_fewestProving_13 rfl ?_
    refine go_aload0 hc dX4_fewestProving_14 ?_
    refine go_getR hc lk_RX4_26 dX4_fewestProving_15 (sh_74 hW) (rm_74_2 hW) ?_
    refine go_getR hc lk_RX4_75 dX4_fewestProving_18 (shHill_0 hW (mm_74_2 hW)) (rfHill_15 hW (mm_74_2 hW)) ?_
    refine go_getI hc lk_RX4_122 dX4_fewestProving_21 (shHerd_0 hW (subHerd (mm_74_2 hW))) ?_
    refine go_ishl hc dX4_fewestProving_24 ?_
    refine go_icmp_ge hc 67 dX4_fewestProving_25 rfl (fun c11 => ?_) (fun c11 => ?_)
    · replace h := goIfF h c11
      cases h
      exact kx _ _ _ _ _ _
    · replace h := goIfT h c11
      refine go_iload6 hc dX4_fewestProving_28 ?_
      refine go_callSi hc dX4_fewestProving_30 (mJ6_bitCount_0f7a4 hk hW rfl) ml_RX4_125 yk_J6_bitCount_0f7a4 wst_J6_bitCount_0f7a4 hR rfl rfl rfl (Nat.le_of_ble_eq_true rfl) rfl ?_
      refine go_iload5 hc dX4_fewestProving_33 ?_
      replace h := goB2_h h; obtain ⟨x12, x13, e14, h⟩ := h
      have k15 : goA E X G 0 0 Q 61 [some (.ref 74), some (.int v1), some (.int v2), some (.int v3), some (.int x12), some (.int x13), some (.int v6)] [] M L R := by
        refine go_iinc6 (v := (v6 + 1)) hc dX4_fewestProving_61 rfl ?_
        refine go_goto hc 11 dX4_fewestProving_64 rfl ?_
        exact ih _ _ _ _ h kx
      refine go_icmp_ge hc 61 dX4_fewestProving_35 rfl (fun c16 => ?_) (fun c16 => ?_)
      · replace e14 := goIfF e14 c16
        cases e14
        exact k15
      · replace e14 := goIfT e14 c16
        refine go_aload0 hc dX4_fewestProving_38 ?_
        refine go_iload6 hc dX4_fewestProving_39 ?_
        refine go_iload1 hc dX4_fewestProving_41 ?_
        refine go_iload2 hc dX4_fewestProving_42 ?_
        refine go_iload3 hc dX4_fewestProving_43 ?_
        replace e14 := goBind e14; obtain ⟨x17, e18, e14⟩ := e14
        refine go_callVi hc dX4_fewestProving_44 (mX4_prove hk hW e18) ml_RX4_139 yk_X4_prove ⟨wim_X4_prove, wse_X4_prove⟩ hR rfl (sh_74 hW) rfl rfl rfl (Nat.le_of_ble_eq_true rfl) rfl ?_
        refine go_if_eq hc 61 dX4_fewestProving_47 rfl (fun c19 => ?_) (fun c19 => ?_)
        · replace e14 := goIfT e14 c19
          cases e14
          exact k15
        · replace e14 := goIfF e14 c19
          refine go_iload6 hc dX4_fewestProving_50 ?_
          refine go_istore4 hc dX4_fewestProving_52 ?_
          refine go_iload6 hc dX4_fewestProving_54 ?_
          refine go_callSi hc dX4_fewestProving_56 (mJ6_bitCount_0f7a4 hk hW rfl) ml_RX4_125 yk_J6_bitCount_0f7a4 wst_J6_bitCount_0f7a4 hR rfl rfl rfl (Nat.le_of_ble_eq_true rfl) rfl ?_
          replace e14 := goNm_x e14; obtain ⟨x20, e21, e14⟩ := e14
          refine go_nmI e21 ?_
          refine go_istore5 hc dX4_fewestProving_59 ?_
          cases e14
          exact k15
set_option maxRecDepth 100000 in
set_option maxHeartbeats 4000000 in
theorem mX4_fewestProving {E : goEv} {l : Launch} {G : goG} {N : Nat} {M : goMI} {L : goML} {R : goMR} {v1 : Int32} {v2 : Int32} {v3 : Int32} {r0 : Int32} (hk : goKn E) (hW : goW G R) (h : fX4_fewestProving N M R v1 v2 v3 = some r0) : Met l yX4_fewestProving (goCd yX4_fewestProving cX4_fewestProving 7 (Option.some FieldType.int)) (goRoom 3 74 0 0) (goPre E [.ref 74, .int v1, .int v2, .int v3] G M L R) (goQi E r0 G M L R) 0 0 (goSet E) := by
  refine goMet pl_RX4 hk (lv := [some (.ref 74), some (.int v1), some (.int v2), some (.int v3), none, none, none]) rfl (Nat.le_of_ble_eq_true rfl) ?_
  intro X hc hl hR hr hnm
  subst hl
  unfold fX4_fewestProving at h
  refine go_bipush (v := (-2)) hc dX4_fewestProving_0 rfl ?_
  refine go_istore4 hc dX4_fewestProving_2 ?_
  refine go_bipush (v := 7) hc dX4_fewestProving_4 rfl ?_
  refine go_istore5 hc dX4_fewestProving_6 ?_
  refine go_iconst (v := 0) hc dX4_fewestProving_8 rfl ?_
  refine go_istore6 hc dX4_fewestProving_9 ?_
  replace h := goBind h; obtain ⟨x23, e22, h⟩ := h
  refine mX4_fewestProving_L11 hc hk hR hr hW _ _ _ _ _ e22 (fun d0 d1 d2 d3 d5 d6 => ?_)
  refine go_iload4 hc dX4_fewestProving_67 ?_
  cases h
  exact go_iret hc dX4_fewestProving_69 hr
theorem dX4_mostLeft_0 : decode cX4_mostLeft 0 = .ok (.aload_n 0, 1) := by decide +kernel
theorem dX4_mostLeft_1 : decode cX4_mostLeft 1 = .ok (.invokevirtual 97, 3) := by decide +kernel
theorem dX4_mostLeft_4 : decode cX4_mostLeft 4 = .ok (.istore_n 3, 1) := by decide +kernel
theorem dX4_mostLeft_5 : decode cX4_mostLeft 5 = .ok (.iconst 0, 1) := by decide +kernel
theorem dX4_mostLeft_6 : decode cX4_mostLeft 6 = .ok (.istore 4, 2) := by decide +kernel
theorem dX4_mostLeft_8 : decode cX4_mostLeft 8 = .ok (.aload_n 0, 1) := by decide +kernel
theorem dX4_mostLeft_9 : decode cX4_mostLeft 9 = .ok (.getfield 19, 3) := by decide +kernel
theorem dX4_mostLeft_12 : decode cX4_mostLeft 12 = .ok (.iconst 0, 1) := by decide +kernel
theorem dX4_mostLeft_13 : decode cX4_mostLeft 13 = .ok (.invokestatic 158, 3) := by decide +kernel
theorem dX4_mostLeft_16 : decode cX4_mostLeft 16 = .ok (.iconst 0, 1) := by decide +kernel
theorem dX4_mostLeft_17 : decode cX4_mostLeft 17 = .ok (.istore 5, 2) := by decide +kernel
theorem dX4_mostLeft_19 : decode cX4_mostLeft 19 = .ok (.iload 5, 2) := by decide +kernel
theorem dX4_mostLeft_21 : decode cX4_mostLeft 21 = .ok (.aload_n 0, 1) := by decide +kernel
theorem dX4_mostLeft_22 : decode cX4_mostLeft 22 = .ok (.getfield 26, 3) := by decide +kernel
theorem dX4_mostLeft_25 : decode cX4_mostLeft 25 = .ok (.getfield 68, 3) := by decide +kernel
theorem dX4_mostLeft_28 : decode cX4_mostLeft 28 = .ok (.if_icmp .ge 63, 3) := by decide +kernel
theorem dX4_mostLeft_31 : decode cX4_mostLeft 31 = .ok (.aload_n 0, 1) := by decide +kernel
theorem dX4_mostLeft_32 : decode cX4_mostLeft 32 = .ok (.iload 5, 2) := by decide +kernel
theorem dX4_mostLeft_34 : decode cX4_mostLeft 34 = .ok (.iload_n 3, 1) := by decide +kernel
theorem dX4_mostLeft_35 : decode cX4_mostLeft 35 = .ok (.invokevirtual 101, 3) := by decide +kernel
theorem dX4_mostLeft_38 : decode cX4_mostLeft 38 = .ok (.ifCond .eq 47, 3) := by decide +kernel
theorem dX4_mostLeft_41 : decode cX4_mostLeft 41 = .ok (.aload_n 0, 1) := by decide +kernel
theorem dX4_mostLeft_42 : decode cX4_mostLeft 42 = .ok (.getfield 15, 3) := by decide +kernel
theorem dX4_mostLeft_45 : decode cX4_mostLeft 45 = .ok (.iload 5, 2) := by decide +kernel
theorem dX4_mostLeft_47 : decode cX4_mostLeft 47 = .ok (.bipush 72, 2) := by decide +kernel
theorem dX4_mostLeft_49 : decode cX4_mostLeft 49 = .ok (.imul, 1) := by decide +kernel
theorem dX4_mostLeft_50 : decode cX4_mostLeft 50 = .ok (.iload_n 1, 1) := by decide +kernel
theorem dX4_mostLeft_51 : decode cX4_mostLeft 51 = .ok (.bipush 12, 2) := by decide +kernel
theorem dX4_mostLeft_53 : decode cX4_mostLeft 53 = .ok (.imul, 1) := by decide +kernel
theorem dX4_mostLeft_54 : decode cX4_mostLeft 54 = .ok (.iadd, 1) := by decide +kernel
theorem dX4_mostLeft_55 : decode cX4_mostLeft 55 = .ok (.iload_n 2, 1) := by decide +kernel
theorem dX4_mostLeft_56 : decode cX4_mostLeft 56 = .ok (.iadd, 1) := by decide +kernel
theorem dX4_mostLeft_57 : decode cX4_mostLeft 57 = .ok (.baload, 1) := by decide +kernel
theorem dX4_mostLeft_58 : decode cX4_mostLeft 58 = .ok (.istore 6, 2) := by decide +kernel
theorem dX4_mostLeft_60 : decode cX4_mostLeft 60 = .ok (.aload_n 0, 1) := by decide +kernel
theorem dX4_mostLeft_61 : decode cX4_mostLeft 61 = .ok (.getfield 19, 3) := by decide +kernel
theorem dX4_mostLeft_64 : decode cX4_mostLeft 64 = .ok (.iload 6, 2) := by decide +kernel
theorem dX4_mostLeft_66 : decode cX4_mostLeft 66 = .ok (.dup2, 1) := by decide +kernel
theorem dX4_mostLeft_67 : decode cX4_mostLeft 67 = .ok (.iaload, 1) := by decide +kernel
theorem dX4_mostLeft_68 : decode cX4_mostLeft 68 = .ok (.iconst 1, 1) := by decide +kernel
theorem dX4_mostLeft_69 : decode cX4_mostLeft 69 = .ok (.iadd, 1) := by decide +kernel
theorem dX4_mostLeft_70 : decode cX4_mostLeft 70 = .ok (.iastore, 1) := by decide +kernel
theorem dX4_mostLeft_71 : decode cX4_mostLeft 71 = .ok (.iload 4, 2) := by decide +kernel
theorem dX4_mostLeft_73 : decode cX4_mostLeft 73 = .ok (.aload_n 0, 1) := by decide +kernel
theorem dX4_mostLeft_74 : decode cX4_mostLeft 74 = .ok (.getfield 19, 3) := by decide +kernel
theorem dX4_mostLeft_77 : decode cX4_mostLeft 77 = .ok (.iload 6, 2) := by decide +kernel
theorem dX4_mostLeft_79 : decode cX4_mostLeft 79 = .ok (.iaload, 1) := by decide +kernel
theorem dX4_mostLeft_80 : decode cX4_mostLeft 80 = .ok (.invokestatic 164, 3) := by decide +kernel
theorem dX4_mostLeft_83 : decode cX4_mostLeft 83 = .ok (.istore 4, 2) := by decide +kernel
theorem dX4_mostLeft_85 : decode cX4_mostLeft 85 = .ok (.iinc 5 1, 3) := by decide +kernel
theorem dX4_mostLeft_88 : decode cX4_mostLeft 88 = .ok (.goto (-69), 3) := by decide +kernel
theorem dX4_mostLeft_91 : decode cX4_mostLeft 91 = .ok (.iload 4, 2) := by decide +kernel
theorem dX4_mostLeft_93 : decode cX4_mostLeft 93 = .ok (.ireturn, 1) := by decide +kernel
set_option maxRecDepth 100000 in
set_option maxHeartbeats 4000000 in
theorem mX4_mostLeft_L19 {E : goEv} {X : goX} {G : goG} {Q : State → Prop} {L : goML} {R : goMR} {v1 : Int32} {v2 : Int32} {v3 : Int32} (hc : goCx E X cX4_mostLeft RX4 7) (hk : goKn E) (hR : X.2.2.2.1 = goRoom 3 64 0 0) (hr : X.2.2.2.2.2.2.2.2.1.sig.returnType = (Option.some FieldType.int)) (hW : goW G R) : ∀ (n : Nat) (v4 : Int32) (v5 : Int32) (M : goMI) (r0 : Int32) (r1 : goMI), lX4_mostLeft_19 v1 v2 v3 R n v4 v5 M = some (r0, r1) → (∀ (d0 d1 d2 d3 d5 d6 : Option Value), goA E X G 0 0 Q 91 [d0, d1, d2, d3, some (.int r0), d5, d6] [] r1 L R) → ∀ (d6 : Option Value), goA E X G 0 0 Q 19 [some (.ref 74), some (.int v1), some (.int v2), some (.int v3), some (.int v4), some (.int v5), d6] [] M L R := by
  intro n
  induction n with
  | zero => intro v4 v5 M r0 r1 h; exact nomatch h
  | succ n ih =>
    intro v4 v5 M r0 r1 h kx d6
    rw [lX4_mostLeft_19] at h
    refine go_iload5 hc dX4_mostLeft_19 ?_
    refine go_aload0 hc dX4_mostLeft_21 ?_
    refine go_getR hc lk_RX4_26 dX4_mostLeft_22 (sh_74 hW) (rm_74_2 hW) ?_
    refine go_getI hc lk_RX4_68 dX4_mostLeft_25 (shHill_0 hW (mm_74_2 hW)) ?_
    refine go_icmp_ge hc 91 dX4_mostLeft_28 rfl (fun c15 => ?_) (fun c15 => ?_)
    · replace h := goIfF h c15
      cases h
      exact kx _ _ _ _ _ _
    · replace h := goIfT h c15
      refine go_aload0 hc dX4_mostLeft_31 ?_
      refine go_iload5 hc dX4_mostLeft_32 ?_
      refine go_iload3 hc dX4_mostLeft_34 ?_
      replace h := goBind h; obtain ⟨x16, e17, h⟩ := h
      refine go_callVi hc dX4_mostLeft_35 (mX4_bears hk hW e17) ml_RX4_101 yk_X4_bears ⟨wim_X4_bears, wse_X4_bears⟩ hR rfl (sh_74 hW) rfl rfl rfl (Nat.le_of_ble_eq_true rfl) rfl ?_
      replace h := goB2_h h; obtain ⟨x18, M19, e20, h⟩ := h
      have k21 : ∀ (d6 : Option Value), goA E X G 0 0 Q 85 [some (.ref 74), some (.int v1), some (.int v2), some (.int v3), some (.int x18), some (.int v5), d6] [] M19 L R := by
        intro d6
        refine go_iinc5 (v := (v5 + 1)) hc dX4_mostLeft_85 rfl ?_
        refine go_goto hc 19 dX4_mostLeft_88 rfl ?_
        exact ih _ _ _ _ _ h kx _
      refine go_if_eq hc 85 dX4_mostLeft_38 rfl (fun c22 => ?_) (fun c22 => ?_)
      · replace e20 := goIfT e20 c22
        cases e20
        exact k21 _
      · replace e20 := goIfF e20 c22
        refine go_aload0 hc dX4_mostLeft_41 ?_
        refine go_getR hc lk_RX4_15 dX4_mostLeft_42 (sh_74 hW) (rf_74_4 hW) ?_
        refine go_iload5 hc dX4_mostLeft_45 ?_
        refine go_bipush (v := 72) hc dX4_mostLeft_47 rfl ?_
        refine go_imul hc dX4_mostLeft_49 ?_
        refine go_iload1 hc dX4_mostLeft_50 ?_
        refine go_bipush (v := 12) hc dX4_mostLeft_51 rfl ?_
        refine go_imul hc dX4_mostLeft_53 ?_
        refine go_iadd hc dX4_mostLeft_54 ?_
        refine go_iload2 hc dX4_mostLeft_55 ?_
        refine go_iadd hc dX4_mostLeft_56 ?_
        replace e20 := goBind e20; obtain ⟨x23, e24, e20⟩ := e20
        refine go_bald hc dX4_mostLeft_57 (sh_76 hW) e24 ?_
        refine go_istore6 hc dX4_mostLeft_58 ?_
        refine go_aload0 hc dX4_mostLeft_60 ?_
        refine go_getR hc lk_RX4_19 dX4_mostLeft_61 (sh_74 hW) (rf_74_5 hW) ?_
        refine go_iload6 hc dX4_mostLeft_64 ?_
        refine go_dup2 hc dX4_mostLeft_66 ?_
        replace e20 := goBind e20; obtain ⟨x25, e26, e20⟩ := e20
        refine go_iald hc dX4_mostLeft_67 (sh_77 hW) e26 ?_
        refine go_iconst (v := 1) hc dX4_mostLeft_68 rfl ?_
        refine go_iadd hc dX4_mostLeft_69 ?_
        replace e20 := goBind e20; obtain ⟨M27, e28, e20⟩ := e20
        refine go_iast hc dX4_mostLeft_70 (sh_77 hW) e28 ?_
        refine go_iload4 hc dX4_mostLeft_71 ?_
        refine go_aload0 hc dX4_mostLeft_73 ?_
        refine go_getR hc lk_RX4_19 dX4_mostLeft_74 (sh_74 hW) (rf_74_5 hW) ?_
        refine go_iload6 hc dX4_mostLeft_77 ?_
        replace e20 := goBind e20; obtain ⟨x29, e30, e20⟩ := e20
        refine go_iald hc dX4_mostLeft_79 (sh_77 hW) e30 ?_
        refine go_mmax hc dX4_mostLeft_80 wml_RX4_164 hR rfl rfl (Nat.le_of_ble_eq_true rfl) ?_
        replace e20 := goNm_x e20; obtain ⟨x31, e32, e20⟩ := e20
        refine go_nmI e32 ?_
        refine go_istore4 hc dX4_mostLeft_83 ?_
        cases e20
        exact k21 _
set_option maxRecDepth 100000 in
set_option maxHeartbeats 4000000 in
theorem mX4_mostLeft {E : goEv} {l : Launch} {G : goG} {N : Nat} {M : goMI} {L : goML} {R : goMR} {v1 : Int32} {v2 : Int32} {r0 : Int32} {r1 : goMI} (hk : goKn E) (hW : goW G R) (h : fX4_mostLeft N M R v1 v2 = some (r0, r1)) : Met l yX4_mostLeft (goCd yX4_mostLeft cX4_mostLeft 7 (Option.some FieldType.int)) (goRoom 3 64 0 0) (goPre E [.ref 74, .int v1, .int v2] G M L R) (goQi E r0 G r1 L R) 0 0 (goSet E) := by
  refine goMet pl_RX4 hk (lv := [some (.ref 74), some (.int v1), some (.int v2), none, none, none, none]) rfl (Nat.le_of_ble_eq_true rfl) ?_
  intro X hc hl hR hr hnm
  subst hl
  unfold fX4_mostLeft at h
  refine go_aload0 hc dX4_mostLeft_0 ?_
  replace h := goBind h; obtain ⟨x11, e12, h⟩ := h
  refine go_callVi hc dX4_mostLeft_1 (mX4_heardClues hk hW e12) ml_RX4_97 yk_X4_heardClues ⟨wim_X4_heardClues, wse_X4_heardClues⟩ hR rfl (sh_74 hW) rfl rfl rfl (Nat.le_of_ble_eq_true rfl) rfl ?_
  refine go_istore3 hc dX4_mostLeft_4 ?_
  refine go_iconst (v := 0) hc dX4_mostLeft_5 rfl ?_
  refine go_istore4 hc dX4_mostLeft_6 ?_
  refine go_aload0 hc dX4_mostLeft_8 ?_
  refine go_getR hc lk_RX4_19 dX4_mostLeft_9 (sh_74 hW) (rf_74_5 hW) ?_
  refine go_iconst (v := 0) hc dX4_mostLeft_12 rfl ?_
  replace h := goBind h; obtain ⟨M13, e14, h⟩ := h
  refine go_callSv hc dX4_mostLeft_13 (mJ7_fill_53178 hk hW (sh_77 hW) e14) ml_RX4_158 yk_J7_fill_53178 wst_J7_fill_53178 hR rfl rfl rfl (Nat.le_of_ble_eq_true rfl) rfl ?_
  refine go_iconst (v := 0) hc dX4_mostLeft_16 rfl ?_
  refine go_istore5 hc dX4_mostLeft_17 ?_
  replace h := goB2_h h; obtain ⟨x34, M35, e33, h⟩ := h
  refine mX4_mostLeft_L19 hc hk hR hr hW _ _ _ _ _ _ e33 (fun d0 d1 d2 d3 d5 d6 => ?_) _
  refine go_iload4 hc dX4_mostLeft_91 ?_
  cases h
  exact go_iret hc dX4_mostLeft_93 hr
theorem dX4_question_0 : decode cX4_question 0 = .ok (.aload_n 0, 1) := by decide +kernel
theorem dX4_question_1 : decode cX4_question 1 = .ok (.getfield 26, 3) := by decide +kernel
theorem dX4_question_4 : decode cX4_question 4 = .ok (.getfield 75, 3) := by decide +kernel
theorem dX4_question_7 : decode cX4_question 7 = .ok (.getfield 122, 3) := by decide +kernel
theorem dX4_question_10 : decode cX4_question 10 = .ok (.ifCond .eq 11, 3) := by decide +kernel
theorem dX4_question_13 : decode cX4_question 13 = .ok (.aload_n 0, 1) := by decide +kernel
theorem dX4_question_14 : decode cX4_question 14 = .ok (.invokevirtual 143, 3) := by decide +kernel
theorem dX4_question_17 : decode cX4_question 17 = .ok (.iconst 2, 1) := by decide +kernel
theorem dX4_question_18 : decode cX4_question 18 = .ok (.if_icmp .ge 5, 3) := by decide +kernel
theorem dX4_question_21 : decode cX4_question 21 = .ok (.iconst 0, 1) := by decide +kernel
theorem dX4_question_22 : decode cX4_question 22 = .ok (.ireturn, 1) := by decide +kernel
theorem dX4_question_23 : decode cX4_question 23 = .ok (.aload_n 0, 1) := by decide +kernel
theorem dX4_question_24 : decode cX4_question 24 = .ok (.bipush 82, 2) := by decide +kernel
theorem dX4_question_26 : decode cX4_question 26 = .ok (.putfield 146, 3) := by decide +kernel
theorem dX4_question_29 : decode cX4_question 29 = .ok (.iconst 0, 1) := by decide +kernel
theorem dX4_question_30 : decode cX4_question 30 = .ok (.istore_n 1, 1) := by decide +kernel
theorem dX4_question_31 : decode cX4_question 31 = .ok (.iload_n 1, 1) := by decide +kernel
theorem dX4_question_32 : decode cX4_question 32 = .ok (.aload_n 0, 1) := by decide +kernel
theorem dX4_question_33 : decode cX4_question 33 = .ok (.getfield 26, 3) := by decide +kernel
theorem dX4_question_36 : decode cX4_question 36 = .ok (.getfield 75, 3) := by decide +kernel
theorem dX4_question_39 : decode cX4_question 39 = .ok (.getfield 122, 3) := by decide +kernel
theorem dX4_question_42 : decode cX4_question 42 = .ok (.if_icmp .ge 58, 3) := by decide +kernel
theorem dX4_question_45 : decode cX4_question 45 = .ok (.iconst 0, 1) := by decide +kernel
theorem dX4_question_46 : decode cX4_question 46 = .ok (.istore_n 2, 1) := by decide +kernel
theorem dX4_question_47 : decode cX4_question 47 = .ok (.iload_n 2, 1) := by decide +kernel
theorem dX4_question_48 : decode cX4_question 48 = .ok (.aload_n 0, 1) := by decide +kernel
theorem dX4_question_49 : decode cX4_question 49 = .ok (.getfield 26, 3) := by decide +kernel
theorem dX4_question_52 : decode cX4_question 52 = .ok (.getfield 59, 3) := by decide +kernel
theorem dX4_question_55 : decode cX4_question 55 = .ok (.if_icmp .ge 39, 3) := by decide +kernel
theorem dX4_question_58 : decode cX4_question 58 = .ok (.aload_n 0, 1) := by decide +kernel
theorem dX4_question_59 : decode cX4_question 59 = .ok (.iload_n 1, 1) := by decide +kernel
theorem dX4_question_60 : decode cX4_question 60 = .ok (.iload_n 2, 1) := by decide +kernel
theorem dX4_question_61 : decode cX4_question 61 = .ok (.invokevirtual 149, 3) := by decide +kernel
theorem dX4_question_64 : decode cX4_question 64 = .ok (.istore_n 3, 1) := by decide +kernel
theorem dX4_question_65 : decode cX4_question 65 = .ok (.iload_n 3, 1) := by decide +kernel
theorem dX4_question_66 : decode cX4_question 66 = .ok (.aload_n 0, 1) := by decide +kernel
theorem dX4_question_67 : decode cX4_question 67 = .ok (.getfield 146, 3) := by decide +kernel
theorem dX4_question_70 : decode cX4_question 70 = .ok (.if_icmp .ge 18, 3) := by decide +kernel
theorem dX4_question_73 : decode cX4_question 73 = .ok (.aload_n 0, 1) := by decide +kernel
theorem dX4_question_74 : decode cX4_question 74 = .ok (.iload_n 3, 1) := by decide +kernel
theorem dX4_question_75 : decode cX4_question 75 = .ok (.putfield 146, 3) := by decide +kernel
theorem dX4_question_78 : decode cX4_question 78 = .ok (.aload_n 0, 1) := by decide +kernel
theorem dX4_question_79 : decode cX4_question 79 = .ok (.iload_n 1, 1) := by decide +kernel
theorem dX4_question_80 : decode cX4_question 80 = .ok (.putfield 152, 3) := by decide +kernel
theorem dX4_question_83 : decode cX4_question 83 = .ok (.aload_n 0, 1) := by decide +kernel
theorem dX4_question_84 : decode cX4_question 84 = .ok (.iload_n 2, 1) := by decide +kernel
theorem dX4_question_85 : decode cX4_question 85 = .ok (.putfield 155, 3) := by decide +kernel
theorem dX4_question_88 : decode cX4_question 88 = .ok (.iinc 2 1, 3) := by decide +kernel
theorem dX4_question_91 : decode cX4_question 91 = .ok (.goto (-44), 3) := by decide +kernel
theorem dX4_question_94 : decode cX4_question 94 = .ok (.iinc 1 1, 3) := by decide +kernel
theorem dX4_question_97 : decode cX4_question 97 = .ok (.goto (-66), 3) := by decide +kernel
theorem dX4_question_100 : decode cX4_question 100 = .ok (.iconst 1, 1) := by decide +kernel
theorem dX4_question_101 : decode cX4_question 101 = .ok (.ireturn, 1) := by decide +kernel
set_option maxRecDepth 100000 in
set_option maxHeartbeats 4000000 in
theorem mX4_question_L47 {E : goEv} {X : goX} {G : goG} {Q : State → Prop} {L : goML} {R : goMR} {N : Nat} {v1 : Int32} (hc : goCx E X cX4_question RX4 4) (hk : goKn E) (hR : X.2.2.2.1 = goRoom 4 90 0 0) (hr : X.2.2.2.2.2.2.2.2.1.sig.returnType = (Option.some FieldType.boolean)) (hW : goW G R) : ∀ (n : Nat) (v2 : Int32) (M : goMI) (r0 : goMI), lX4_question_47 N v1 R n v2 M = some r0 → (∀ (d2 d3 : Option Value), goA E X G 0 0 Q 94 [some (.ref 74), some (.int v1), d2, d3] [] r0 L R) → ∀ (d3 : Option Value), goA E X G 0 0 Q 47 [some (.ref 74), some (.int v1), some (.int v2), d3] [] M L R := by
  intro n
  induction n with
  | zero => intro v2 M r0 h; exact nomatch h
  | succ n ih =>
    intro v2 M r0 h kx d3
    rw [lX4_question_47] at h
    refine go_iload2 hc dX4_question_47 ?_
    refine go_aload0 hc dX4_question_48 ?_
    refine go_getR hc lk_RX4_26 dX4_question_49 (sh_74 hW) (rm_74_2 hW) ?_
    refine go_getI hc lk_RX4_59 dX4_question_52 (shHill_0 hW (mm_74_2 hW)) ?_
    refine go_icmp_ge hc 94 dX4_question_55 rfl (fun c18 => ?_) (fun c18 => ?_)
    · replace h := goIfF h c18
      cases h
      exact kx _ _
    · replace h := goIfT h c18
      refine go_aload0 hc dX4_question_58 ?_
      refine go_iload1 hc dX4_question_59 ?_
      refine go_iload2 hc dX4_question_60 ?_
      replace h := goB2_h h; obtain ⟨x19, M20, e21, h⟩ := h
      refine go_callVi hc dX4_question_61 (mX4_mostLeft hk hW e21) ml_RX4_149 yk_X4_mostLeft ⟨wim_X4_mostLeft, wse_X4_mostLeft⟩ hR rfl (sh_74 hW) rfl rfl rfl (Nat.le_of_ble_eq_true rfl) rfl ?_
      refine go_istore3 hc dX4_question_64 ?_
      refine go_iload3 hc dX4_question_65 ?_
      refine go_aload0 hc dX4_question_66 ?_
      refine go_getI hc lk_RX4_146 dX4_question_67 (sh_74 hW) ?_
      replace h := goBind h; obtain ⟨M22, e23, h⟩ := h
      have k24 : ∀ (d3 : Option Value), goA E X G 0 0 Q 88 [some (.ref 74), some (.int v1), some (.int v2), d3] [] M22 L R := by
        intro d3
        refine go_iinc2 (v := (v2 + 1)) hc dX4_question_88 rfl ?_
        refine go_goto hc 47 dX4_question_91 rfl ?_
        exact ih _ _ _ h kx _
      refine go_icmp_ge hc 88 dX4_question_70 rfl (fun c25 => ?_) (fun c25 => ?_)
      · replace e23 := goIfF e23 c25
        cases e23
        exact k24 _
      · replace e23 := goIfT e23 c25
        refine go_aload0 hc dX4_question_73 ?_
        refine go_iload3 hc dX4_question_74 ?_
        replace e23 := goNm_x e23; obtain ⟨M26, e27, e23⟩ := e23
        refine go_ptI hc lk_RX4_146 dX4_question_75 (sh_74 hW) e27 ?_
        refine go_aload0 hc dX4_question_78 ?_
        refine go_iload1 hc dX4_question_79 ?_
        replace e23 := goNm_x e23; obtain ⟨M28, e29, e23⟩ := e23
        refine go_ptI hc lk_RX4_152 dX4_question_80 (sh_74 hW) e29 ?_
        refine go_aload0 hc dX4_question_83 ?_
        refine go_iload2 hc dX4_question_84 ?_
        replace e23 := goNm_x e23; obtain ⟨M30, e31, e23⟩ := e23
        refine go_ptI hc lk_RX4_155 dX4_question_85 (sh_74 hW) e31 ?_
        cases e23
        exact k24 _
set_option maxRecDepth 100000 in
set_option maxHeartbeats 4000000 in
theorem mX4_question_L31 {E : goEv} {X : goX} {G : goG} {Q : State → Prop} {L : goML} {R : goMR} {N : Nat} (hc : goCx E X cX4_question RX4 4) (hk : goKn E) (hR : X.2.2.2.1 = goRoom 4 90 0 0) (hr : X.2.2.2.2.2.2.2.2.1.sig.returnType = (Option.some FieldType.boolean)) (hW : goW G R) : ∀ (n : Nat) (v1 : Int32) (M : goMI) (r0 : goMI), lX4_question_31 N R n v1 M = some r0 → (∀ (d0 d1 d2 d3 : Option Value), goA E X G 0 0 Q 100 [d0, d1, d2, d3] [] r0 L R) → ∀ (d2 d3 : Option Value), goA E X G 0 0 Q 31 [some (.ref 74), some (.int v1), d2, d3] [] M L R := by
  intro n
  induction n with
  | zero => intro v1 M r0 h; exact nomatch h
  | succ n ih =>
    intro v1 M r0 h kx d2 d3
    rw [lX4_question_31] at h
    refine go_iload1 hc dX4_question_31 ?_
    refine go_aload0 hc dX4_question_32 ?_
    refine go_getR hc lk_RX4_26 dX4_question_33 (sh_74 hW) (rm_74_2 hW) ?_
    refine go_getR hc lk_RX4_75 dX4_question_36 (shHill_0 hW (mm_74_2 hW)) (rfHill_15 hW (mm_74_2 hW)) ?_
    refine go_getI hc lk_RX4_122 dX4_question_39 (shHerd_0 hW (subHerd (mm_74_2 hW))) ?_
    refine go_icmp_ge hc 100 dX4_question_42 rfl (fun c17 => ?_) (fun c17 => ?_)
    · replace h := goIfF h c17
      cases h
      exact kx _ _ _ _
    · replace h := goIfT h c17
      refine go_iconst (v := 0) hc dX4_question_45 rfl ?_
      refine go_istore2 hc dX4_question_46 ?_
      replace h := goBind h; obtain ⟨M33, e32, h⟩ := h
      refine mX4_question_L47 hc hk hR hr hW _ _ _ _ e32 (fun d2 d3 => ?_) _
      refine go_iinc1 (v := (v1 + 1)) hc dX4_question_94 rfl ?_
      refine go_goto hc 31 dX4_question_97 rfl ?_
      exact ih _ _ _ h kx _ _
set_option maxRecDepth 100000 in
set_option maxHeartbeats 4000000 in
theorem mX4_question {E : goEv} {l : Launch} {G : goG} {N : Nat} {M : goMI} {L : goML} {R : goMR} {r0 : Int32} {r1 : goMI} (hk : goKn E) (hW : goW G R) (h : fX4_question N M R = some (r0, r1)) : Met l yX4_question (goCd yX4_question cX4_question 4 (Option.some FieldType.boolean)) (goRoom 4 90 0 0) (goPre E [.ref 74] G M L R) (goQi E r0 G r1 L R) 0 0 (goSet E) := by
  refine goMet pl_RX4 hk (lv := [some (.ref 74), none, none, none]) rfl (Nat.le_of_ble_eq_true rfl) ?_
  intro X hc hl hR hr hnm
  subst hl
  unfold fX4_question at h
  refine go_aload0 hc dX4_question_0 ?_
  refine go_getR hc lk_RX4_26 dX4_question_1 (sh_74 hW) (rm_74_2 hW) ?_
  refine go_getR hc lk_RX4_75 dX4_question_4 (shHill_0 hW (mm_74_2 hW)) (rfHill_15 hW (mm_74_2 hW)) ?_
  refine go_getI hc lk_RX4_122 dX4_question_7 (shHerd_0 hW (subHerd (mm_74_2 hW))) ?_
  refine go_if_eq hc 21 dX4_question_10 rfl (fun c11 => ?_) (fun c11 => ?_)
  · replace h := goIfT h c11
    refine go_iconst (v := 0) hc dX4_question_21 rfl ?_
    cases h
    exact go_zret hc dX4_question_22 hr rfl
  · replace h := goIfF h c11
    refine go_aload0 hc dX4_question_13 ?_
    replace h := goBind h; obtain ⟨x12, e13, h⟩ := h
    refine go_callVi hc dX4_question_14 (mX4_howManyFit hk hW e13) ml_RX4_143 yk_X4_howManyFit ⟨wim_X4_howManyFit, wse_X4_howManyFit⟩ hR rfl (sh_74 hW) rfl rfl rfl (Nat.le_of_ble_eq_true rfl) rfl ?_
    refine go_iconst (v := 2) hc dX4_question_17 rfl ?_
    refine go_icmp_ge hc 23 dX4_question_18 rfl (fun c14 => ?_) (fun c14 => ?_)
    · replace h := goIfF h c14
      refine go_aload0 hc dX4_question_23 ?_
      refine go_bipush (v := 82) hc dX4_question_24 rfl ?_
      replace h := goNm_x h; obtain ⟨M15, e16, h⟩ := h
      refine go_ptI hc lk_RX4_146 dX4_question_26 (sh_74 hW) e16 ?_
      refine go_iconst (v := 0) hc dX4_question_29 rfl ?_
      refine go_istore1 hc dX4_question_30 ?_
      replace h := goBind h; obtain ⟨M35, e34, h⟩ := h
      refine mX4_question_L31 hc hk hR hr hW _ _ _ _ e34 (fun d0 d1 d2 d3 => ?_) _ _
      refine go_iconst (v := 1) hc dX4_question_100 rfl ?_
      cases h
      exact go_zret hc dX4_question_101 hr rfl
    · replace h := goIfT h c14
      refine go_iconst (v := 0) hc dX4_question_21 rfl ?_
      cases h
      exact go_zret hc dX4_question_22 hr rfl
theorem dX5_clear_0 : decode cX5_clear 0 = .ok (.aload_n 0, 1) := by decide +kernel
theorem dX5_clear_1 : decode cX5_clear 1 = .ok (.iconst 0, 1) := by decide +kernel
theorem dX5_clear_2 : decode cX5_clear 2 = .ok (.putfield 45, 3) := by decide +kernel
theorem dX5_clear_5 : decode cX5_clear 5 = .ok (.aload_n 0, 1) := by decide +kernel
theorem dX5_clear_6 : decode cX5_clear 6 = .ok (.iconst 0, 1) := by decide +kernel
theorem dX5_clear_7 : decode cX5_clear 7 = .ok (.putfield 49, 3) := by decide +kernel
theorem dX5_clear_10 : decode cX5_clear 10 = .ok (.aload_n 0, 1) := by decide +kernel
theorem dX5_clear_11 : decode cX5_clear 11 = .ok (.getfield 24, 3) := by decide +kernel
theorem dX5_clear_14 : decode cX5_clear 14 = .ok (.iconst 0, 1) := by decide +kernel
theorem dX5_clear_15 : decode cX5_clear 15 = .ok (.invokestatic 52, 3) := by decide +kernel
theorem dX5_clear_18 : decode cX5_clear 18 = .ok (.return_, 1) := by decide +kernel
set_option maxRecDepth 100000 in
set_option maxHeartbeats 4000000 in
theorem mX5_clear {E : goEv} {l : Launch} {G : goG} {N : Nat} {M : goMI} {L : goML} {R : goMR} {a0 : Nat} {r0 : goMI} (hk : goKn E) (hW : goW G R) (m0 : a0 = 16 ∨ a0 = 46) (h : fX5_clear N M a0 = some r0) : Met l yX5_clear (goCd yX5_clear cX5_clear 1 none) (goRoom 1 23 0 0) (goPre E [.ref a0] G M L R) (goQv E G r0 L R) 0 0 (goSet E) := by
  refine goMet pl_RX5 hk (lv := [some (.ref a0)]) rfl (Nat.le_of_ble_eq_true rfl) ?_
  intro X hc hl hR hr hnm
  subst hl
  unfold fX5_clear at h
  refine go_aload0 hc dX5_clear_0 ?_
  refine go_iconst (v := 0) hc dX5_clear_1 rfl ?_
  replace h := goNm_x h; obtain ⟨M11, e12, h⟩ := h
  refine go_ptI hc lk_RX5_45 dX5_clear_2 (shHerd_0 hW m0) e12 ?_
  refine go_aload0 hc dX5_clear_5 ?_
  refine go_iconst (v := 0) hc dX5_clear_6 rfl ?_
  replace h := goNm_x h; obtain ⟨M13, e14, h⟩ := h
  refine go_ptI hc lk_RX5_49 dX5_clear_7 (shHerd_0 hW m0) e14 ?_
  refine go_aload0 hc dX5_clear_10 ?_
  refine go_getR hc lk_RX5_24 dX5_clear_11 (shHerd_0 hW m0) (rfHerd_6 hW m0) ?_
  refine go_iconst (v := 0) hc dX5_clear_14 rfl ?_
  replace h := goBind h; obtain ⟨M15, e16, h⟩ := h
  refine go_callSv hc dX5_clear_15 (mJ7_fill_53178 hk hW (shHerd_5 hW m0) e16) ml_RX5_52 yk_J7_fill_53178 wst_J7_fill_53178 hR rfl rfl rfl (Nat.le_of_ble_eq_true rfl) rfl ?_
  cases h
  exact go_vret hc dX5_clear_18 hr
theorem dX5_addClue_0 : decode cX5_addClue 0 = .ok (.aload_n 0, 1) := by decide +kernel
theorem dX5_addClue_1 : decode cX5_addClue 1 = .ok (.getfield 49, 3) := by decide +kernel
theorem dX5_addClue_4 : decode cX5_addClue 4 = .ok (.bipush 10, 2) := by decide +kernel
theorem dX5_addClue_6 : decode cX5_addClue 6 = .ok (.if_icmp .ge 54, 3) := by decide +kernel
theorem dX5_addClue_9 : decode cX5_addClue 9 = .ok (.aload_n 0, 1) := by decide +kernel
theorem dX5_addClue_10 : decode cX5_addClue 10 = .ok (.getfield 33, 3) := by decide +kernel
theorem dX5_addClue_13 : decode cX5_addClue 13 = .ok (.aload_n 0, 1) := by decide +kernel
theorem dX5_addClue_14 : decode cX5_addClue 14 = .ok (.getfield 49, 3) := by decide +kernel
theorem dX5_addClue_17 : decode cX5_addClue 17 = .ok (.iload_n 1, 1) := by decide +kernel
theorem dX5_addClue_18 : decode cX5_addClue 18 = .ok (.iastore, 1) := by decide +kernel
theorem dX5_addClue_19 : decode cX5_addClue 19 = .ok (.aload_n 0, 1) := by decide +kernel
theorem dX5_addClue_20 : decode cX5_addClue 20 = .ok (.getfield 36, 3) := by decide +kernel
theorem dX5_addClue_23 : decode cX5_addClue 23 = .ok (.aload_n 0, 1) := by decide +kernel
theorem dX5_addClue_24 : decode cX5_addClue 24 = .ok (.getfield 49, 3) := by decide +kernel
theorem dX5_addClue_27 : decode cX5_addClue 27 = .ok (.iload_n 2, 1) := by decide +kernel
theorem dX5_addClue_28 : decode cX5_addClue 28 = .ok (.iastore, 1) := by decide +kernel
theorem dX5_addClue_29 : decode cX5_addClue 29 = .ok (.aload_n 0, 1) := by decide +kernel
theorem dX5_addClue_30 : decode cX5_addClue 30 = .ok (.getfield 39, 3) := by decide +kernel
theorem dX5_addClue_33 : decode cX5_addClue 33 = .ok (.aload_n 0, 1) := by decide +kernel
theorem dX5_addClue_34 : decode cX5_addClue 34 = .ok (.getfield 49, 3) := by decide +kernel
theorem dX5_addClue_37 : decode cX5_addClue 37 = .ok (.iload_n 3, 1) := by decide +kernel
theorem dX5_addClue_38 : decode cX5_addClue 38 = .ok (.iastore, 1) := by decide +kernel
theorem dX5_addClue_39 : decode cX5_addClue 39 = .ok (.aload_n 0, 1) := by decide +kernel
theorem dX5_addClue_40 : decode cX5_addClue 40 = .ok (.getfield 42, 3) := by decide +kernel
theorem dX5_addClue_43 : decode cX5_addClue 43 = .ok (.aload_n 0, 1) := by decide +kernel
theorem dX5_addClue_44 : decode cX5_addClue 44 = .ok (.getfield 49, 3) := by decide +kernel
theorem dX5_addClue_47 : decode cX5_addClue 47 = .ok (.iload 4, 2) := by decide +kernel
theorem dX5_addClue_49 : decode cX5_addClue 49 = .ok (.iastore, 1) := by decide +kernel
theorem dX5_addClue_50 : decode cX5_addClue 50 = .ok (.aload_n 0, 1) := by decide +kernel
theorem dX5_addClue_51 : decode cX5_addClue 51 = .ok (.dup, 1) := by decide +kernel
theorem dX5_addClue_52 : decode cX5_addClue 52 = .ok (.getfield 49, 3) := by decide +kernel
theorem dX5_addClue_55 : decode cX5_addClue 55 = .ok (.iconst 1, 1) := by decide +kernel
theorem dX5_addClue_56 : decode cX5_addClue 56 = .ok (.iadd, 1) := by decide +kernel
theorem dX5_addClue_57 : decode cX5_addClue 57 = .ok (.putfield 49, 3) := by decide +kernel
theorem dX5_addClue_60 : decode cX5_addClue 60 = .ok (.return_, 1) := by decide +kernel
set_option maxRecDepth 100000 in
set_option maxHeartbeats 4000000 in
theorem mX5_addClue {E : goEv} {l : Launch} {G : goG} {M : goMI} {L : goML} {R : goMR} {a0 : Nat} {v1 : Int32} {v2 : Int32} {v3 : Int32} {v4 : Int32} {r0 : goMI} (hk : goKn E) (hW : goW G R) (m0 : a0 = 16 ∨ a0 = 46) (h : fX5_addClue M a0 v1 v2 v3 v4 = some r0) : Met l yX5_addClue (goCd yX5_addClue cX5_addClue 5 none) (goRoom 0 0 0 0) (goPre E [.ref a0, .int v1, .int v2, .int v3, .int v4] G M L R) (goQv E G r0 L R) 0 0 (goSet E) := by
  refine goMet pl_RX5 hk (lv := [some (.ref a0), some (.int v1), some (.int v2), some (.int v3), some (.int v4)]) rfl (Nat.le_of_ble_eq_true rfl) ?_
  intro X hc hl hR hr hnm
  subst hl
  unfold fX5_addClue at h
  refine go_aload0 hc dX5_addClue_0 ?_
  refine go_getI hc lk_RX5_49 dX5_addClue_1 (shHerd_0 hW m0) ?_
  refine go_bipush (v := 10) hc dX5_addClue_4 rfl ?_
  refine go_icmp_ge hc 60 dX5_addClue_6 rfl (fun c11 => ?_) (fun c11 => ?_)
  · replace h := goIfF h c11
    cases h
    exact go_vret hc dX5_addClue_60 hr
  · replace h := goIfT h c11
    refine go_aload0 hc dX5_addClue_9 ?_
    refine go_getR hc lk_RX5_33 dX5_addClue_10 (shHerd_0 hW m0) (rfHerd_9 hW m0) ?_
    refine go_aload0 hc dX5_addClue_13 ?_
    refine go_getI hc lk_RX5_49 dX5_addClue_14 (shHerd_0 hW m0) ?_
    refine go_iload1 hc dX5_addClue_17 ?_
    replace h := goBind h; obtain ⟨M12, e13, h⟩ := h
    refine go_iast hc dX5_addClue_18 (shHerd_8 hW m0) e13 ?_
    refine go_aload0 hc dX5_addClue_19 ?_
    refine go_getR hc lk_RX5_36 dX5_addClue_20 (shHerd_0 hW m0) (rfHerd_10 hW m0) ?_
    refine go_aload0 hc dX5_addClue_23 ?_
    refine go_getI hc lk_RX5_49 dX5_addClue_24 (shHerd_0 hW m0) ?_
    refine go_iload2 hc dX5_addClue_27 ?_
    replace h := goBind h; obtain ⟨M14, e15, h⟩ := h
    refine go_iast hc dX5_addClue_28 (shHerd_9 hW m0) e15 ?_
    refine go_aload0 hc dX5_addClue_29 ?_
    refine go_getR hc lk_RX5_39 dX5_addClue_30 (shHerd_0 hW m0) (rfHerd_11 hW m0) ?_
    refine go_aload0 hc dX5_addClue_33 ?_
    refine go_getI hc lk_RX5_49 dX5_addClue_34 (shHerd_0 hW m0) ?_
    refine go_iload3 hc dX5_addClue_37 ?_
    replace h := goBind h; obtain ⟨M16, e17, h⟩ := h
    refine go_iast hc dX5_addClue_38 (shHerd_10 hW m0) e17 ?_
    refine go_aload0 hc dX5_addClue_39 ?_
    refine go_getR hc lk_RX5_42 dX5_addClue_40 (shHerd_0 hW m0) (rfHerd_12 hW m0) ?_
    refine go_aload0 hc dX5_addClue_43 ?_
    refine go_getI hc lk_RX5_49 dX5_addClue_44 (shHerd_0 hW m0) ?_
    refine go_iload4 hc dX5_addClue_47 ?_
    replace h := goBind h; obtain ⟨M18, e19, h⟩ := h
    refine go_iast hc dX5_addClue_49 (shHerd_11 hW m0) e19 ?_
    refine go_aload0 hc dX5_addClue_50 ?_
    refine go_dupr hc dX5_addClue_51 ?_
    refine go_getI hc lk_RX5_49 dX5_addClue_52 (shHerd_0 hW m0) ?_
    refine go_iconst (v := 1) hc dX5_addClue_55 rfl ?_
    refine go_iadd hc dX5_addClue_56 ?_
    replace h := goNm_x h; obtain ⟨M20, e21, h⟩ := h
    refine go_ptI hc lk_RX5_49 dX5_addClue_57 (shHerd_0 hW m0) e21 ?_
    cases h
    exact go_vret hc dX5_addClue_60 hr
theorem dX7_clear_0 : decode cX7_clear 0 = .ok (.aload_n 0, 1) := by decide +kernel
theorem dX7_clear_1 : decode cX7_clear 1 = .ok (.iconst 0, 1) := by decide +kernel
theorem dX7_clear_2 : decode cX7_clear 2 = .ok (.putfield 21, 3) := by decide +kernel
theorem dX7_clear_5 : decode cX7_clear 5 = .ok (.aload_n 0, 1) := by decide +kernel
theorem dX7_clear_6 : decode cX7_clear 6 = .ok (.iconst 0, 1) := by decide +kernel
theorem dX7_clear_7 : decode cX7_clear 7 = .ok (.putfield 25, 3) := by decide +kernel
theorem dX7_clear_10 : decode cX7_clear 10 = .ok (.aload_n 0, 1) := by decide +kernel
theorem dX7_clear_11 : decode cX7_clear 11 = .ok (.iconst 0, 1) := by decide +kernel
theorem dX7_clear_12 : decode cX7_clear 12 = .ok (.putfield 28, 3) := by decide +kernel
theorem dX7_clear_15 : decode cX7_clear 15 = .ok (.aload_n 0, 1) := by decide +kernel
theorem dX7_clear_16 : decode cX7_clear 16 = .ok (.iconst 0, 1) := by decide +kernel
theorem dX7_clear_17 : decode cX7_clear 17 = .ok (.putfield 31, 3) := by decide +kernel
theorem dX7_clear_20 : decode cX7_clear 20 = .ok (.return_, 1) := by decide +kernel
set_option maxRecDepth 100000 in
set_option maxHeartbeats 4000000 in
theorem mX7_clear {E : goEv} {l : Launch} {G : goG} {M : goMI} {L : goML} {R : goMR} {a0 : Nat} {r0 : goMI} (hk : goKn E) (hW : goW G R) (m0 : a0 = 28 ∨ a0 = 58) (h : fX7_clear M a0 = some r0) : Met l yX7_clear (goCd yX7_clear cX7_clear 1 none) (goRoom 0 0 0 0) (goPre E [.ref a0] G M L R) (goQv E G r0 L R) 0 0 (goSet E) := by
  refine goMet pl_RX7 hk (lv := [some (.ref a0)]) rfl (Nat.le_of_ble_eq_true rfl) ?_
  intro X hc hl hR hr hnm
  subst hl
  unfold fX7_clear at h
  refine go_aload0 hc dX7_clear_0 ?_
  refine go_iconst (v := 0) hc dX7_clear_1 rfl ?_
  replace h := goNm_x h; obtain ⟨M11, e12, h⟩ := h
  refine go_ptI hc lk_RX7_21 dX7_clear_2 (shLaw_0 hW m0) e12 ?_
  refine go_aload0 hc dX7_clear_5 ?_
  refine go_iconst (v := 0) hc dX7_clear_6 rfl ?_
  replace h := goNm_x h; obtain ⟨M13, e14, h⟩ := h
  refine go_ptI hc lk_RX7_25 dX7_clear_7 (shLaw_0 hW m0) e14 ?_
  refine go_aload0 hc dX7_clear_10 ?_
  refine go_iconst (v := 0) hc dX7_clear_11 rfl ?_
  replace h := goNm_x h; obtain ⟨M15, e16, h⟩ := h
  refine go_ptI hc lk_RX7_28 dX7_clear_12 (shLaw_0 hW m0) e16 ?_
  refine go_aload0 hc dX7_clear_15 ?_
  refine go_iconst (v := 0) hc dX7_clear_16 rfl ?_
  replace h := goNm_x h; obtain ⟨M17, e18, h⟩ := h
  refine go_ptI hc lk_RX7_31 dX7_clear_17 (shLaw_0 hW m0) e18 ?_
  cases h
  exact go_vret hc dX7_clear_20 hr
theorem dX6_clear_0 : decode cX6_clear 0 = .ok (.aload_n 0, 1) := by decide +kernel
theorem dX6_clear_1 : decode cX6_clear 1 = .ok (.iconst 0, 1) := by decide +kernel
theorem dX6_clear_2 : decode cX6_clear 2 = .ok (.putfield 57, 3) := by decide +kernel
theorem dX6_clear_5 : decode cX6_clear 5 = .ok (.aload_n 0, 1) := by decide +kernel
theorem dX6_clear_6 : decode cX6_clear 6 = .ok (.iconst 0, 1) := by decide +kernel
theorem dX6_clear_7 : decode cX6_clear 7 = .ok (.putfield 61, 3) := by decide +kernel
theorem dX6_clear_10 : decode cX6_clear 10 = .ok (.aload_n 0, 1) := by decide +kernel
theorem dX6_clear_11 : decode cX6_clear 11 = .ok (.iconst 0, 1) := by decide +kernel
theorem dX6_clear_12 : decode cX6_clear 12 = .ok (.putfield 64, 3) := by decide +kernel
theorem dX6_clear_15 : decode cX6_clear 15 = .ok (.aload_n 0, 1) := by decide +kernel
theorem dX6_clear_16 : decode cX6_clear 16 = .ok (.iconst 0, 1) := by decide +kernel
theorem dX6_clear_17 : decode cX6_clear 17 = .ok (.putfield 67, 3) := by decide +kernel
theorem dX6_clear_20 : decode cX6_clear 20 = .ok (.aload_n 0, 1) := by decide +kernel
theorem dX6_clear_21 : decode cX6_clear 21 = .ok (.iconst 0, 1) := by decide +kernel
theorem dX6_clear_22 : decode cX6_clear 22 = .ok (.putfield 70, 3) := by decide +kernel
theorem dX6_clear_25 : decode cX6_clear 25 = .ok (.aload_n 0, 1) := by decide +kernel
theorem dX6_clear_26 : decode cX6_clear 26 = .ok (.iconst 0, 1) := by decide +kernel
theorem dX6_clear_27 : decode cX6_clear 27 = .ok (.putfield 73, 3) := by decide +kernel
theorem dX6_clear_30 : decode cX6_clear 30 = .ok (.aload_n 0, 1) := by decide +kernel
theorem dX6_clear_31 : decode cX6_clear 31 = .ok (.iconst 0, 1) := by decide +kernel
theorem dX6_clear_32 : decode cX6_clear 32 = .ok (.putfield 76, 3) := by decide +kernel
theorem dX6_clear_35 : decode cX6_clear 35 = .ok (.aload_n 0, 1) := by decide +kernel
theorem dX6_clear_36 : decode cX6_clear 36 = .ok (.getfield 9, 3) := by decide +kernel
theorem dX6_clear_39 : decode cX6_clear 39 = .ok (.iconst 0, 1) := by decide +kernel
theorem dX6_clear_40 : decode cX6_clear 40 = .ok (.invokestatic 80, 3) := by decide +kernel
theorem dX6_clear_43 : decode cX6_clear 43 = .ok (.aload_n 0, 1) := by decide +kernel
theorem dX6_clear_44 : decode cX6_clear 44 = .ok (.getfield 15, 3) := by decide +kernel
theorem dX6_clear_47 : decode cX6_clear 47 = .ok (.iconst 0, 1) := by decide +kernel
theorem dX6_clear_48 : decode cX6_clear 48 = .ok (.invokestatic 80, 3) := by decide +kernel
theorem dX6_clear_51 : decode cX6_clear 51 = .ok (.aload_n 0, 1) := by decide +kernel
theorem dX6_clear_52 : decode cX6_clear 52 = .ok (.getfield 24, 3) := by decide +kernel
theorem dX6_clear_55 : decode cX6_clear 55 = .ok (.iconst 0, 1) := by decide +kernel
theorem dX6_clear_56 : decode cX6_clear 56 = .ok (.invokestatic 80, 3) := by decide +kernel
theorem dX6_clear_59 : decode cX6_clear 59 = .ok (.aload_n 0, 1) := by decide +kernel
theorem dX6_clear_60 : decode cX6_clear 60 = .ok (.getfield 39, 3) := by decide +kernel
theorem dX6_clear_63 : decode cX6_clear 63 = .ok (.invokevirtual 86, 3) := by decide +kernel
theorem dX6_clear_66 : decode cX6_clear 66 = .ok (.aload_n 0, 1) := by decide +kernel
theorem dX6_clear_67 : decode cX6_clear 67 = .ok (.getfield 46, 3) := by decide +kernel
theorem dX6_clear_70 : decode cX6_clear 70 = .ok (.invokevirtual 89, 3) := by decide +kernel
theorem dX6_clear_73 : decode cX6_clear 73 = .ok (.aload_n 0, 1) := by decide +kernel
theorem dX6_clear_74 : decode cX6_clear 74 = .ok (.getfield 53, 3) := by decide +kernel
theorem dX6_clear_77 : decode cX6_clear 77 = .ok (.iconst 0, 1) := by decide +kernel
theorem dX6_clear_78 : decode cX6_clear 78 = .ok (.putfield 90, 3) := by decide +kernel
theorem dX6_clear_81 : decode cX6_clear 81 = .ok (.return_, 1) := by decide +kernel
set_option maxRecDepth 100000 in
set_option maxHeartbeats 4000000 in
theorem mX6_clear {E : goEv} {l : Launch} {G : goG} {N : Nat} {M : goMI} {L : goML} {R : goMR} {a0 : Nat} {r0 : goMI} (hk : goKn E) (hW : goW G R) (m0 : a0 = 7 ∨ a0 = 37) (h : fX6_clear N M a0 = some r0) : Met l yX6_clear (goCd yX6_clear cX6_clear 1 none) (goRoom 2 43 0 0) (goPre E [.ref a0] G M L R) (goQv E G r0 L R) 0 0 (goSet E) := by
  refine goMet pl_RX6 hk (lv := [some (.ref a0)]) rfl (Nat.le_of_ble_eq_true rfl) ?_
  intro X hc hl hR hr hnm
  subst hl
  unfold fX6_clear at h
  refine go_aload0 hc dX6_clear_0 ?_
  refine go_iconst (v := 0) hc dX6_clear_1 rfl ?_
  replace h := goNm_x h; obtain ⟨M11, e12, h⟩ := h
  refine go_ptI hc lk_RX6_57 dX6_clear_2 (shHill_0 hW m0) e12 ?_
  refine go_aload0 hc dX6_clear_5 ?_
  refine go_iconst (v := 0) hc dX6_clear_6 rfl ?_
  replace h := goNm_x h; obtain ⟨M13, e14, h⟩ := h
  refine go_ptI hc lk_RX6_61 dX6_clear_7 (shHill_0 hW m0) e14 ?_
  refine go_aload0 hc dX6_clear_10 ?_
  refine go_iconst (v := 0) hc dX6_clear_11 rfl ?_
  replace h := goNm_x h; obtain ⟨M15, e16, h⟩ := h
  refine go_ptI hc lk_RX6_64 dX6_clear_12 (shHill_0 hW m0) e16 ?_
  refine go_aload0 hc dX6_clear_15 ?_
  refine go_iconst (v := 0) hc dX6_clear_16 rfl ?_
  replace h := goNm_x h; obtain ⟨M17, e18, h⟩ := h
  refine go_ptI hc lk_RX6_67 dX6_clear_17 (shHill_0 hW m0) e18 ?_
  refine go_aload0 hc dX6_clear_20 ?_
  refine go_iconst (v := 0) hc dX6_clear_21 rfl ?_
  replace h := goNm_x h; obtain ⟨M19, e20, h⟩ := h
  refine go_ptI hc lk_RX6_70 dX6_clear_22 (shHill_0 hW m0) e20 ?_
  refine go_aload0 hc dX6_clear_25 ?_
  refine go_iconst (v := 0) hc dX6_clear_26 rfl ?_
  replace h := goNm_x h; obtain ⟨M21, e22, h⟩ := h
  refine go_ptI hc lk_RX6_73 dX6_clear_27 (shHill_0 hW m0) e22 ?_
  refine go_aload0 hc dX6_clear_30 ?_
  refine go_iconst (v := 0) hc dX6_clear_31 rfl ?_
  replace h := goNm_x h; obtain ⟨M23, e24, h⟩ := h
  refine go_ptZ hc lk_RX6_76 dX6_clear_32 (shHill_0 hW m0) (Or.inl rfl) e24 ?_
  refine go_aload0 hc dX6_clear_35 ?_
  refine go_getR hc lk_RX6_9 dX6_clear_36 (shHill_0 hW m0) (rfHill_7 hW m0) ?_
  refine go_iconst (v := 0) hc dX6_clear_39 rfl ?_
  replace h := goBind h; obtain ⟨M25, e26, h⟩ := h
  refine go_callSv hc dX6_clear_40 (mJ7_fill_53178 hk hW (shHill_1 hW m0) e26) ml_RX6_80 yk_J7_fill_53178 wst_J7_fill_53178 hR rfl rfl rfl (Nat.le_of_ble_eq_true rfl) rfl ?_
  refine go_aload0 hc dX6_clear_43 ?_
  refine go_getR hc lk_RX6_15 dX6_clear_44 (shHill_0 hW m0) (rfHill_8 hW m0) ?_
  refine go_iconst (v := 0) hc dX6_clear_47 rfl ?_
  replace h := goBind h; obtain ⟨M27, e28, h⟩ := h
  refine go_callSv hc dX6_clear_48 (mJ7_fill_53178 hk hW (shHill_2 hW m0) e28) ml_RX6_80 yk_J7_fill_53178 wst_J7_fill_53178 hR rfl rfl rfl (Nat.le_of_ble_eq_true rfl) rfl ?_
  refine go_aload0 hc dX6_clear_51 ?_
  refine go_getR hc lk_RX6_24 dX6_clear_52 (shHill_0 hW m0) (rfHill_11 hW m0) ?_
  refine go_iconst (v := 0) hc dX6_clear_55 rfl ?_
  replace h := goBind h; obtain ⟨M29, e30, h⟩ := h
  refine go_callSv hc dX6_clear_56 (mJ7_fill_53178 hk hW (shHill_5 hW m0) e30) ml_RX6_80 yk_J7_fill_53178 wst_J7_fill_53178 hR rfl rfl rfl (Nat.le_of_ble_eq_true rfl) rfl ?_
  refine go_aload0 hc dX6_clear_59 ?_
  refine go_getR hc lk_RX6_39 dX6_clear_60 (shHill_0 hW m0) (rfHill_15 hW m0) ?_
  replace h := goBind h; obtain ⟨M31, e32, h⟩ := h
  refine go_callVv hc dX6_clear_63 (mX5_clear hk hW (subHerd m0) e32) ml_RX6_86 yk_X5_clear ⟨wim_X5_clear, wse_X5_clear⟩ hR rfl (shHerd_0 hW (subHerd m0)) rfl rfl rfl (Nat.le_of_ble_eq_true rfl) rfl ?_
  refine go_aload0 hc dX6_clear_66 ?_
  refine go_getR hc lk_RX6_46 dX6_clear_67 (shHill_0 hW m0) (rfHill_16 hW m0) ?_
  replace h := goBind h; obtain ⟨M33, e34, h⟩ := h
  refine go_callVv hc dX6_clear_70 (mX7_clear hk hW (subLaw m0) e34) ml_RX6_89 yk_X7_clear ⟨wim_X7_clear, wse_X7_clear⟩ hR rfl (shLaw_0 hW (subLaw m0)) rfl rfl rfl (Nat.le_of_ble_eq_true rfl) rfl ?_
  refine go_aload0 hc dX6_clear_73 ?_
  refine go_getR hc lk_RX6_53 dX6_clear_74 (shHill_0 hW m0) (rfHill_17 hW m0) ?_
  refine go_iconst (v := 0) hc dX6_clear_77 rfl ?_
  replace h := goNm_x h; obtain ⟨M35, e36, h⟩ := h
  refine go_ptI hc lk_RX6_90 dX6_clear_78 (shCourts_0 hW (subCourts m0)) e36 ?_
  cases h
  exact go_vret hc dX6_clear_81 hr
theorem dX6_addPath_0 : decode cX6_addPath 0 = .ok (.aload_n 0, 1) := by decide +kernel
theorem dX6_addPath_1 : decode cX6_addPath 1 = .ok (.getfield 67, 3) := by decide +kernel
theorem dX6_addPath_4 : decode cX6_addPath 4 = .ok (.bipush 14, 2) := by decide +kernel
theorem dX6_addPath_6 : decode cX6_addPath 6 = .ok (.if_icmp .ge 57, 3) := by decide +kernel
theorem dX6_addPath_9 : decode cX6_addPath 9 = .ok (.aload_n 0, 1) := by decide +kernel
theorem dX6_addPath_10 : decode cX6_addPath 10 = .ok (.getfield 18, 3) := by decide +kernel
theorem dX6_addPath_13 : decode cX6_addPath 13 = .ok (.aload_n 0, 1) := by decide +kernel
theorem dX6_addPath_14 : decode cX6_addPath 14 = .ok (.getfield 67, 3) := by decide +kernel
theorem dX6_addPath_17 : decode cX6_addPath 17 = .ok (.iload_n 1, 1) := by decide +kernel
theorem dX6_addPath_18 : decode cX6_addPath 18 = .ok (.iastore, 1) := by decide +kernel
theorem dX6_addPath_19 : decode cX6_addPath 19 = .ok (.aload_n 0, 1) := by decide +kernel
theorem dX6_addPath_20 : decode cX6_addPath 20 = .ok (.getfield 21, 3) := by decide +kernel
theorem dX6_addPath_23 : decode cX6_addPath 23 = .ok (.aload_n 0, 1) := by decide +kernel
theorem dX6_addPath_24 : decode cX6_addPath 24 = .ok (.getfield 67, 3) := by decide +kernel
theorem dX6_addPath_27 : decode cX6_addPath 27 = .ok (.iload_n 2, 1) := by decide +kernel
theorem dX6_addPath_28 : decode cX6_addPath 28 = .ok (.iastore, 1) := by decide +kernel
theorem dX6_addPath_29 : decode cX6_addPath 29 = .ok (.aload_n 0, 1) := by decide +kernel
theorem dX6_addPath_30 : decode cX6_addPath 30 = .ok (.dup, 1) := by decide +kernel
theorem dX6_addPath_31 : decode cX6_addPath 31 = .ok (.getfield 67, 3) := by decide +kernel
theorem dX6_addPath_34 : decode cX6_addPath 34 = .ok (.iconst 1, 1) := by decide +kernel
theorem dX6_addPath_35 : decode cX6_addPath 35 = .ok (.iadd, 1) := by decide +kernel
theorem dX6_addPath_36 : decode cX6_addPath 36 = .ok (.putfield 67, 3) := by decide +kernel
theorem dX6_addPath_39 : decode cX6_addPath 39 = .ok (.aload_n 0, 1) := by decide +kernel
theorem dX6_addPath_40 : decode cX6_addPath 40 = .ok (.getfield 15, 3) := by decide +kernel
theorem dX6_addPath_43 : decode cX6_addPath 43 = .ok (.iload_n 1, 1) := by decide +kernel
theorem dX6_addPath_44 : decode cX6_addPath 44 = .ok (.dup2, 1) := by decide +kernel
theorem dX6_addPath_45 : decode cX6_addPath 45 = .ok (.iaload, 1) := by decide +kernel
theorem dX6_addPath_46 : decode cX6_addPath 46 = .ok (.iconst 1, 1) := by decide +kernel
theorem dX6_addPath_47 : decode cX6_addPath 47 = .ok (.iload_n 2, 1) := by decide +kernel
theorem dX6_addPath_48 : decode cX6_addPath 48 = .ok (.ishl, 1) := by decide +kernel
theorem dX6_addPath_49 : decode cX6_addPath 49 = .ok (.ior, 1) := by decide +kernel
theorem dX6_addPath_50 : decode cX6_addPath 50 = .ok (.iastore, 1) := by decide +kernel
theorem dX6_addPath_51 : decode cX6_addPath 51 = .ok (.aload_n 0, 1) := by decide +kernel
theorem dX6_addPath_52 : decode cX6_addPath 52 = .ok (.getfield 15, 3) := by decide +kernel
theorem dX6_addPath_55 : decode cX6_addPath 55 = .ok (.iload_n 2, 1) := by decide +kernel
theorem dX6_addPath_56 : decode cX6_addPath 56 = .ok (.dup2, 1) := by decide +kernel
theorem dX6_addPath_57 : decode cX6_addPath 57 = .ok (.iaload, 1) := by decide +kernel
theorem dX6_addPath_58 : decode cX6_addPath 58 = .ok (.iconst 1, 1) := by decide +kernel
theorem dX6_addPath_59 : decode cX6_addPath 59 = .ok (.iload_n 1, 1) := by decide +kernel
theorem dX6_addPath_60 : decode cX6_addPath 60 = .ok (.ishl, 1) := by decide +kernel
theorem dX6_addPath_61 : decode cX6_addPath 61 = .ok (.ior, 1) := by decide +kernel
theorem dX6_addPath_62 : decode cX6_addPath 62 = .ok (.iastore, 1) := by decide +kernel
theorem dX6_addPath_63 : decode cX6_addPath 63 = .ok (.return_, 1) := by decide +kernel
set_option maxRecDepth 100000 in
set_option maxHeartbeats 4000000 in
theorem mX6_addPath {E : goEv} {l : Launch} {G : goG} {M : goMI} {L : goML} {R : goMR} {a0 : Nat} {v1 : Int32} {v2 : Int32} {r0 : goMI} (hk : goKn E) (hW : goW G R) (m0 : a0 = 7 ∨ a0 = 37) (h : fX6_addPath M a0 v1 v2 = some r0) : Met l yX6_addPath (goCd yX6_addPath cX6_addPath 3 none) (goRoom 0 0 0 0) (goPre E [.ref a0, .int v1, .int v2] G M L R) (goQv E G r0 L R) 0 0 (goSet E) := by
  refine goMet pl_RX6 hk (lv := [some (.ref a0), some (.int v1), some (.int v2)]) rfl (Nat.le_of_ble_eq_true rfl) ?_
  intro X hc hl hR hr hnm
  subst hl
  unfold fX6_addPath at h
  refine go_aload0 hc dX6_addPath_0 ?_
  refine go_getI hc lk_RX6_67 dX6_addPath_1 (shHill_0 hW m0) ?_
  refine go_bipush (v := 14) hc dX6_addPath_4 rfl ?_
  refine go_icmp_ge hc 63 dX6_addPath_6 rfl (fun c11 => ?_) (fun c11 => ?_)
  · replace h := goIfF h c11
    cases h
    exact go_vret hc dX6_addPath_63 hr
  · replace h := goIfT h c11
    refine go_aload0 hc dX6_addPath_9 ?_
    refine go_getR hc lk_RX6_18 dX6_addPath_10 (shHill_0 hW m0) (rfHill_9 hW m0) ?_
    refine go_aload0 hc dX6_addPath_13 ?_
    refine go_getI hc lk_RX6_67 dX6_addPath_14 (shHill_0 hW m0) ?_
    refine go_iload1 hc dX6_addPath_17 ?_
    replace h := goBind h; obtain ⟨M12, e13, h⟩ := h
    refine go_iast hc dX6_addPath_18 (shHill_3 hW m0) e13 ?_
    refine go_aload0 hc dX6_addPath_19 ?_
    refine go_getR hc lk_RX6_21 dX6_addPath_20 (shHill_0 hW m0) (rfHill_10 hW m0) ?_
    refine go_aload0 hc dX6_addPath_23 ?_
    refine go_getI hc lk_RX6_67 dX6_addPath_24 (shHill_0 hW m0) ?_
    refine go_iload2 hc dX6_addPath_27 ?_
    replace h := goBind h; obtain ⟨M14, e15, h⟩ := h
    refine go_iast hc dX6_addPath_28 (shHill_4 hW m0) e15 ?_
    refine go_aload0 hc dX6_addPath_29 ?_
    refine go_dupr hc dX6_addPath_30 ?_
    refine go_getI hc lk_RX6_67 dX6_addPath_31 (shHill_0 hW m0) ?_
    refine go_iconst (v := 1) hc dX6_addPath_34 rfl ?_
    refine go_iadd hc dX6_addPath_35 ?_
    replace h := goNm_x h; obtain ⟨M16, e17, h⟩ := h
    refine go_ptI hc lk_RX6_67 dX6_addPath_36 (shHill_0 hW m0) e17 ?_
    refine go_aload0 hc dX6_addPath_39 ?_
    refine go_getR hc lk_RX6_15 dX6_addPath_40 (shHill_0 hW m0) (rfHill_8 hW m0) ?_
    refine go_iload1 hc dX6_addPath_43 ?_
    refine go_dup2 hc dX6_addPath_44 ?_
    replace h := goBind h; obtain ⟨x18, e19, h⟩ := h
    refine go_iald hc dX6_addPath_45 (shHill_2 hW m0) e19 ?_
    refine go_iconst (v := 1) hc dX6_addPath_46 rfl ?_
    refine go_iload2 hc dX6_addPath_47 ?_
    refine go_ishl hc dX6_addPath_48 ?_
    refine go_ior hc dX6_addPath_49 ?_
    replace h := goBind h; obtain ⟨M20, e21, h⟩ := h
    refine go_iast hc dX6_addPath_50 (shHill_2 hW m0) e21 ?_
    refine go_aload0 hc dX6_addPath_51 ?_
    refine go_getR hc lk_RX6_15 dX6_addPath_52 (shHill_0 hW m0) (rfHill_8 hW m0) ?_
    refine go_iload2 hc dX6_addPath_55 ?_
    refine go_dup2 hc dX6_addPath_56 ?_
    replace h := goBind h; obtain ⟨x22, e23, h⟩ := h
    refine go_iald hc dX6_addPath_57 (shHill_2 hW m0) e23 ?_
    refine go_iconst (v := 1) hc dX6_addPath_58 rfl ?_
    refine go_iload1 hc dX6_addPath_59 ?_
    refine go_ishl hc dX6_addPath_60 ?_
    refine go_ior hc dX6_addPath_61 ?_
    replace h := goBind h; obtain ⟨M24, e25, h⟩ := h
    refine go_iast hc dX6_addPath_62 (shHill_2 hW m0) e25 ?_
    cases h
    exact go_vret hc dX6_addPath_63 hr
theorem dX6_tellFrom_0 : decode cX6_tellFrom 0 = .ok (.iload_n 1, 1) := by decide +kernel
theorem dX6_tellFrom_1 : decode cX6_tellFrom 1 = .ok (.iconst 3, 1) := by decide +kernel
theorem dX6_tellFrom_2 : decode cX6_tellFrom 2 = .ok (.imul, 1) := by decide +kernel
theorem dX6_tellFrom_3 : decode cX6_tellFrom 3 = .ok (.aload_n 0, 1) := by decide +kernel
theorem dX6_tellFrom_4 : decode cX6_tellFrom 4 = .ok (.getfield 24, 3) := by decide +kernel
theorem dX6_tellFrom_7 : decode cX6_tellFrom 7 = .ok (.iload_n 1, 1) := by decide +kernel
theorem dX6_tellFrom_8 : decode cX6_tellFrom 8 = .ok (.iaload, 1) := by decide +kernel
theorem dX6_tellFrom_9 : decode cX6_tellFrom 9 = .ok (.iadd, 1) := by decide +kernel
theorem dX6_tellFrom_10 : decode cX6_tellFrom 10 = .ok (.bipush 12, 2) := by decide +kernel
theorem dX6_tellFrom_12 : decode cX6_tellFrom 12 = .ok (.imul, 1) := by decide +kernel
theorem dX6_tellFrom_13 : decode cX6_tellFrom 13 = .ok (.istore 4, 2) := by decide +kernel
theorem dX6_tellFrom_15 : decode cX6_tellFrom 15 = .ok (.iload_n 2, 1) := by decide +kernel
theorem dX6_tellFrom_16 : decode cX6_tellFrom 16 = .ok (.istore 5, 2) := by decide +kernel
theorem dX6_tellFrom_18 : decode cX6_tellFrom 18 = .ok (.iload 5, 2) := by decide +kernel
theorem dX6_tellFrom_20 : decode cX6_tellFrom 20 = .ok (.bipush 12, 2) := by decide +kernel
theorem dX6_tellFrom_22 : decode cX6_tellFrom 22 = .ok (.if_icmp .ge 20, 3) := by decide +kernel
theorem dX6_tellFrom_25 : decode cX6_tellFrom 25 = .ok (.aload_n 0, 1) := by decide +kernel
theorem dX6_tellFrom_26 : decode cX6_tellFrom 26 = .ok (.getfield 30, 3) := by decide +kernel
theorem dX6_tellFrom_29 : decode cX6_tellFrom 29 = .ok (.iload 4, 2) := by decide +kernel
theorem dX6_tellFrom_31 : decode cX6_tellFrom 31 = .ok (.iload 5, 2) := by decide +kernel
theorem dX6_tellFrom_33 : decode cX6_tellFrom 33 = .ok (.iadd, 1) := by decide +kernel
theorem dX6_tellFrom_34 : decode cX6_tellFrom 34 = .ok (.iload_n 3, 1) := by decide +kernel
theorem dX6_tellFrom_35 : decode cX6_tellFrom 35 = .ok (.iastore, 1) := by decide +kernel
theorem dX6_tellFrom_36 : decode cX6_tellFrom 36 = .ok (.iinc 5 1, 3) := by decide +kernel
theorem dX6_tellFrom_39 : decode cX6_tellFrom 39 = .ok (.goto (-21), 3) := by decide +kernel
theorem dX6_tellFrom_42 : decode cX6_tellFrom 42 = .ok (.return_, 1) := by decide +kernel
set_option maxRecDepth 100000 in
set_option maxHeartbeats 4000000 in
theorem mX6_tellFrom_L18 {E : goEv} {X : goX} {G : goG} {Q : State → Prop} {L : goML} {R : goMR} {v3 : Int32} {v4 : Int32} {a0 : Nat} (hc : goCx E X cX6_tellFrom RX6 6) (hk : goKn E) (hR : X.2.2.2.1 = goRoom 0 0 0 0) (hr : X.2.2.2.2.2.2.2.2.1.sig.returnType = none) (hW : goW G R) (m0 : a0 = 7 ∨ a0 = 37) : ∀ (n : Nat) (v5 : Int32) (M : goMI) (r0 : goMI), lX6_tellFrom_18 v3 v4 a0 n v5 M = some r0 → (∀ (d0 d1 d2 d3 d4 d5 : Option Value), goA E X G 0 0 Q 42 [d0, d1, d2, d3, d4, d5] [] r0 L R) → ∀ (d1 d2 : Option Value), goA E X G 0 0 Q 18 [some (.ref a0), d1, d2, some (.int v3), some (.int v4), some (.int v5)] [] M L R := by
  intro n
  induction n with
  | zero => intro v5 M r0 h; exact nomatch h
  | succ n ih =>
    intro v5 M r0 h kx d1 d2
    rw [lX6_tellFrom_18] at h
    refine go_iload5 hc dX6_tellFrom_18 ?_
    refine go_bipush (v := 12) hc dX6_tellFrom_20 rfl ?_
    refine go_icmp_ge hc 42 dX6_tellFrom_22 rfl (fun c15 => ?_) (fun c15 => ?_)
    · replace h := goIfF h c15
      cases h
      exact kx _ _ _ _ _ _
    · replace h := goIfT h c15
      refine go_aload0 hc dX6_tellFrom_25 ?_
      refine go_getR hc lk_RX6_30 dX6_tellFrom_26 (shHill_0 hW m0) (rfHill_13 hW m0) ?_
      refine go_iload4 hc dX6_tellFrom_29 ?_
      refine go_iload5 hc dX6_tellFrom_31 ?_
      refine go_iadd hc dX6_tellFrom_33 ?_
      refine go_iload3 hc dX6_tellFrom_34 ?_
      replace h := goBind h; obtain ⟨M16, e17, h⟩ := h
      refine go_iast hc dX6_tellFrom_35 (shHill_7 hW m0) e17 ?_
      refine go_iinc5 (v := (v5 + 1)) hc dX6_tellFrom_36 rfl ?_
      refine go_goto hc 18 dX6_tellFrom_39 rfl ?_
      exact ih _ _ _ h kx _ _
set_option maxRecDepth 100000 in
set_option maxHeartbeats 4000000 in
theorem mX6_tellFrom {E : goEv} {l : Launch} {G : goG} {N : Nat} {M : goMI} {L : goML} {R : goMR} {a0 : Nat} {v1 : Int32} {v2 : Int32} {v3 : Int32} {r0 : goMI} (hk : goKn E) (hW : goW G R) (m0 : a0 = 7 ∨ a0 = 37) (h : fX6_tellFrom N M a0 v1 v2 v3 = some r0) : Met l yX6_tellFrom (goCd yX6_tellFrom cX6_tellFrom 6 none) (goRoom 0 0 0 0) (goPre E [.ref a0, .int v1, .int v2, .int v3] G M L R) (goQv E G r0 L R) 0 0 (goSet E) := by
  refine goMet pl_RX6 hk (lv := [some (.ref a0), some (.int v1), some (.int v2), some (.int v3), none, none]) rfl (Nat.le_of_ble_eq_true rfl) ?_
  intro X hc hl hR hr hnm
  subst hl
  unfold fX6_tellFrom at h
  refine go_iload1 hc dX6_tellFrom_0 ?_
  refine go_iconst (v := 3) hc dX6_tellFrom_1 rfl ?_
  refine go_imul hc dX6_tellFrom_2 ?_
  refine go_aload0 hc dX6_tellFrom_3 ?_
  refine go_getR hc lk_RX6_24 dX6_tellFrom_4 (shHill_0 hW m0) (rfHill_11 hW m0) ?_
  refine go_iload1 hc dX6_tellFrom_7 ?_
  replace h := goBind h; obtain ⟨x11, e12, h⟩ := h
  refine go_iald hc dX6_tellFrom_8 (shHill_5 hW m0) e12 ?_
  refine go_iadd hc dX6_tellFrom_9 ?_
  refine go_bipush (v := 12) hc dX6_tellFrom_10 rfl ?_
  refine go_imul hc dX6_tellFrom_12 ?_
  replace h := goNm_x h; obtain ⟨x13, e14, h⟩ := h
  refine go_nmI e14 ?_
  refine go_istore4 hc dX6_tellFrom_13 ?_
  refine go_iload2 hc dX6_tellFrom_15 ?_
  refine go_istore5 hc dX6_tellFrom_16 ?_
  replace h := goBind h; obtain ⟨M19, e18, h⟩ := h
  refine mX6_tellFrom_L18 hc hk hR hr hW m0 _ _ _ _ e18 (fun d0 d1 d2 d3 d4 d5 => ?_) _ _
  cases h
  exact go_vret hc dX6_tellFrom_42 hr
theorem dX6_countCases_0 : decode cX6_countCases 0 = .ok (.aload_n 0, 1) := by decide +kernel
theorem dX6_countCases_1 : decode cX6_countCases 1 = .ok (.iconst 1, 1) := by decide +kernel
theorem dX6_countCases_2 : decode cX6_countCases 2 = .ok (.putfield 73, 3) := by decide +kernel
theorem dX6_countCases_5 : decode cX6_countCases 5 = .ok (.aload_n 0, 1) := by decide +kernel
theorem dX6_countCases_6 : decode cX6_countCases 6 = .ok (.getfield 70, 3) := by decide +kernel
theorem dX6_countCases_9 : decode cX6_countCases 9 = .ok (.iconst 1, 1) := by decide +kernel
theorem dX6_countCases_10 : decode cX6_countCases 10 = .ok (.isub, 1) := by decide +kernel
theorem dX6_countCases_11 : decode cX6_countCases 11 = .ok (.istore_n 1, 1) := by decide +kernel
theorem dX6_countCases_12 : decode cX6_countCases 12 = .ok (.iload_n 1, 1) := by decide +kernel
theorem dX6_countCases_13 : decode cX6_countCases 13 = .ok (.ifCond .lt 43, 3) := by decide +kernel
theorem dX6_countCases_16 : decode cX6_countCases 16 = .ok (.aload_n 0, 1) := by decide +kernel
theorem dX6_countCases_17 : decode cX6_countCases 17 = .ok (.getfield 27, 3) := by decide +kernel
theorem dX6_countCases_20 : decode cX6_countCases 20 = .ok (.iload_n 1, 1) := by decide +kernel
theorem dX6_countCases_21 : decode cX6_countCases 21 = .ok (.aload_n 0, 1) := by decide +kernel
theorem dX6_countCases_22 : decode cX6_countCases 22 = .ok (.getfield 73, 3) := by decide +kernel
theorem dX6_countCases_25 : decode cX6_countCases 25 = .ok (.iastore, 1) := by decide +kernel
theorem dX6_countCases_26 : decode cX6_countCases 26 = .ok (.aload_n 0, 1) := by decide +kernel
theorem dX6_countCases_27 : decode cX6_countCases 27 = .ok (.getfield 24, 3) := by decide +kernel
theorem dX6_countCases_30 : decode cX6_countCases 30 = .ok (.iload_n 1, 1) := by decide +kernel
theorem dX6_countCases_31 : decode cX6_countCases 31 = .ok (.iaload, 1) := by decide +kernel
theorem dX6_countCases_32 : decode cX6_countCases 32 = .ok (.ifCond .le 18, 3) := by decide +kernel
theorem dX6_countCases_35 : decode cX6_countCases 35 = .ok (.aload_n 0, 1) := by decide +kernel
theorem dX6_countCases_36 : decode cX6_countCases 36 = .ok (.dup, 1) := by decide +kernel
theorem dX6_countCases_37 : decode cX6_countCases 37 = .ok (.getfield 73, 3) := by decide +kernel
theorem dX6_countCases_40 : decode cX6_countCases 40 = .ok (.aload_n 0, 1) := by decide +kernel
theorem dX6_countCases_41 : decode cX6_countCases 41 = .ok (.getfield 24, 3) := by decide +kernel
theorem dX6_countCases_44 : decode cX6_countCases 44 = .ok (.iload_n 1, 1) := by decide +kernel
theorem dX6_countCases_45 : decode cX6_countCases 45 = .ok (.iaload, 1) := by decide +kernel
theorem dX6_countCases_46 : decode cX6_countCases 46 = .ok (.imul, 1) := by decide +kernel
theorem dX6_countCases_47 : decode cX6_countCases 47 = .ok (.putfield 73, 3) := by decide +kernel
theorem dX6_countCases_50 : decode cX6_countCases 50 = .ok (.iinc 1 (-1), 3) := by decide +kernel
theorem dX6_countCases_53 : decode cX6_countCases 53 = .ok (.goto (-41), 3) := by decide +kernel
theorem dX6_countCases_56 : decode cX6_countCases 56 = .ok (.return_, 1) := by decide +kernel
set_option maxRecDepth 100000 in
set_option maxHeartbeats 4000000 in
theorem mX6_countCases_L12 {E : goEv} {X : goX} {G : goG} {Q : State → Prop} {L : goML} {R : goMR} {a0 : Nat} (hc : goCx E X cX6_countCases RX6 2) (hk : goKn E) (hR : X.2.2.2.1 = goRoom 0 0 0 0) (hr : X.2.2.2.2.2.2.2.2.1.sig.returnType = none) (hW : goW G R) (m0 : a0 = 7 ∨ a0 = 37) : ∀ (n : Nat) (v1 : Int32) (M : goMI) (r0 : goMI), lX6_countCases_12 a0 n v1 M = some r0 → (∀ (d0 d1 : Option Value), goA E X G 0 0 Q 56 [d0, d1] [] r0 L R) → goA E X G 0 0 Q 12 [some (.ref a0), some (.int v1)] [] M L R := by
  intro n
  induction n with
  | zero => intro v1 M r0 h; exact nomatch h
  | succ n ih =>
    intro v1 M r0 h kx
    rw [lX6_countCases_12] at h
    refine go_iload1 hc dX6_countCases_12 ?_
    refine go_if_lt hc 56 dX6_countCases_13 rfl (fun c15 => ?_) (fun c15 => ?_)
    · replace h := goIfF h c15
      cases h
      exact kx _ _
    · replace h := goIfT h c15
      refine go_aload0 hc dX6_countCases_16 ?_
      refine go_getR hc lk_RX6_27 dX6_countCases_17 (shHill_0 hW m0) (rfHill_12 hW m0) ?_
      refine go_iload1 hc dX6_countCases_20 ?_
      refine go_aload0 hc dX6_countCases_21 ?_
      refine go_getI hc lk_RX6_73 dX6_countCases_22 (shHill_0 hW m0) ?_
      replace h := goBind h; obtain ⟨M16, e17, h⟩ := h
      refine go_iast hc dX6_countCases_25 (shHill_6 hW m0) e17 ?_
      refine go_aload0 hc dX6_countCases_26 ?_
      refine go_getR hc lk_RX6_24 dX6_countCases_27 (shHill_0 hW m0) (rfHill_11 hW m0) ?_
      refine go_iload1 hc dX6_countCases_30 ?_
      replace h := goBind h; obtain ⟨x18, e19, h⟩ := h
      refine go_iald hc dX6_countCases_31 (shHill_5 hW m0) e19 ?_
      replace h := goBind h; obtain ⟨M20, e21, h⟩ := h
      have k22 : goA E X G 0 0 Q 50 [some (.ref a0), some (.int v1)] [] M20 L R := by
        refine go_iinc1 (v := (v1 + (-1))) hc dX6_countCases_50 rfl ?_
        refine go_goto hc 12 dX6_countCases_53 rfl ?_
        exact ih _ _ _ h kx
      refine go_if_le hc 50 dX6_countCases_32 rfl (fun c23 => ?_) (fun c23 => ?_)
      · replace e21 := goIfF e21 c23
        cases e21
        exact k22
      · replace e21 := goIfT e21 c23
        refine go_aload0 hc dX6_countCases_35 ?_
        refine go_dupr hc dX6_countCases_36 ?_
        refine go_getI hc lk_RX6_73 dX6_countCases_37 (shHill_0 hW m0) ?_
        refine go_aload0 hc dX6_countCases_40 ?_
        refine go_getR hc lk_RX6_24 dX6_countCases_41 (shHill_0 hW m0) (rfHill_11 hW m0) ?_
        refine go_iload1 hc dX6_countCases_44 ?_
        replace e21 := goBind e21; obtain ⟨x24, e25, e21⟩ := e21
        refine go_iald hc dX6_countCases_45 (shHill_5 hW m0) e25 ?_
        refine go_imul hc dX6_countCases_46 ?_
        replace e21 := goNm_x e21; obtain ⟨M26, e27, e21⟩ := e21
        refine go_ptI hc lk_RX6_73 dX6_countCases_47 (shHill_0 hW m0) e27 ?_
        cases e21
        exact k22
set_option maxRecDepth 100000 in
set_option maxHeartbeats 4000000 in
theorem mX6_countCases {E : goEv} {l : Launch} {G : goG} {N : Nat} {M : goMI} {L : goML} {R : goMR} {a0 : Nat} {r0 : goMI} (hk : goKn E) (hW : goW G R) (m0 : a0 = 7 ∨ a0 = 37) (h : fX6_countCases N M a0 = some r0) : Met l yX6_countCases (goCd yX6_countCases cX6_countCases 2 none) (goRoom 0 0 0 0) (goPre E [.ref a0] G M L R) (goQv E G r0 L R) 0 0 (goSet E) := by
  refine goMet pl_RX6 hk (lv := [some (.ref a0), none]) rfl (Nat.le_of_ble_eq_true rfl) ?_
  intro X hc hl hR hr hnm
  subst hl
  unfold fX6_countCases at h
  refine go_aload0 hc dX6_countCases_0 ?_
  refine go_iconst (v := 1) hc dX6_countCases_1 rfl ?_
  replace h := goNm_x h; obtain ⟨M11, e12, h⟩ := h
  refine go_ptI hc lk_RX6_73 dX6_countCases_2 (shHill_0 hW m0) e12 ?_
  refine go_aload0 hc dX6_countCases_5 ?_
  refine go_getI hc lk_RX6_70 dX6_countCases_6 (shHill_0 hW m0) ?_
  refine go_iconst (v := 1) hc dX6_countCases_9 rfl ?_
  refine go_isub hc dX6_countCases_10 ?_
  replace h := goNm_x h; obtain ⟨x13, e14, h⟩ := h
  refine go_nmI e14 ?_
  refine go_istore1 hc dX6_countCases_11 ?_
  replace h := goBind h; obtain ⟨M29, e28, h⟩ := h
  refine mX6_countCases_L12 hc hk hR hr hW m0 _ _ _ _ e28 (fun d0 d1 => ?_)
  cases h
  exact go_vret hc dX6_countCases_56 hr
