theorem dX14_isOpen_0 : decode cX14_isOpen 0 = .ok (.aload_n 0, 1) := by decide +kernel
theorem dX14_isOpen_1 : decode cX14_isOpen 1 = .ok (.getfield 442, 3) := by decide +kernel
theorem dX14_isOpen_4 : decode cX14_isOpen 4 = .ok (.iload_n 1, 1) := by decide +kernel
theorem dX14_isOpen_5 : decode cX14_isOpen 5 = .ok (.iload_n 2, 1) := by decide +kernel
theorem dX14_isOpen_6 : decode cX14_isOpen 6 = .ok (.invokevirtual 312, 3) := by decide +kernel
theorem dX14_isOpen_9 : decode cX14_isOpen 9 = .ok (.istore_n 3, 1) := by decide +kernel
theorem dX14_isOpen_10 : decode cX14_isOpen 10 = .ok (.iload_n 3, 1) := by decide +kernel
theorem dX14_isOpen_11 : decode cX14_isOpen 11 = .ok (.iconst (-1), 1) := by decide +kernel
theorem dX14_isOpen_12 : decode cX14_isOpen 12 = .ok (.if_icmp .eq 21, 3) := by decide +kernel
theorem dX14_isOpen_15 : decode cX14_isOpen 15 = .ok (.aload_n 0, 1) := by decide +kernel
theorem dX14_isOpen_16 : decode cX14_isOpen 16 = .ok (.getfield 21, 3) := by decide +kernel
theorem dX14_isOpen_19 : decode cX14_isOpen 19 = .ok (.bipush 16, 2) := by decide +kernel
theorem dX14_isOpen_21 : decode cX14_isOpen 21 = .ok (.iaload, 1) := by decide +kernel
theorem dX14_isOpen_22 : decode cX14_isOpen 22 = .ok (.iload_n 3, 1) := by decide +kernel
theorem dX14_isOpen_23 : decode cX14_isOpen 23 = .ok (.invokestatic 366, 3) := by decide +kernel
theorem dX14_isOpen_26 : decode cX14_isOpen 26 = .ok (.ifCond .ne 7, 3) := by decide +kernel
theorem dX14_isOpen_29 : decode cX14_isOpen 29 = .ok (.iconst 1, 1) := by decide +kernel
theorem dX14_isOpen_30 : decode cX14_isOpen 30 = .ok (.goto 4, 3) := by decide +kernel
theorem dX14_isOpen_33 : decode cX14_isOpen 33 = .ok (.iconst 0, 1) := by decide +kernel
theorem dX14_isOpen_34 : decode cX14_isOpen 34 = .ok (.ireturn, 1) := by decide +kernel
set_option maxRecDepth 100000 in
set_option maxHeartbeats 4000000 in
theorem mX14_isOpen {E : goEv} {l : Launch} {G : goG} {N : Nat} {M : goMI} {L : goML} {R : goMR} {v1 : Int32} {v2 : Int32} {r0 : Int32} (hk : goKn E) (hW : goW G R) (h : fX14_isOpen N M R v1 v2 = some r0) : Met l yX14_isOpen (goCd yX14_isOpen cX14_isOpen 4 (Option.some FieldType.boolean)) (goRoom 1 23 0 0) (goPre E [.ref 102, .int v1, .int v2] G M L R) (goQi E r0 G M L R) 0 0 (goSet E) := by
  refine goMet pl_RX14 hk (lv := [some (.ref 102), some (.int v1), some (.int v2), none]) rfl (Nat.le_of_ble_eq_true rfl) ?_
  intro X hc hl hR hr hnm
  subst hl
  unfold fX14_isOpen at h
  refine go_aload0 hc dX14_isOpen_0 ?_
  replace h := goBind h; obtain ⟨b11, e12, h⟩ := h
  refine go_getR hc lk_RX14_442 dX14_isOpen_1 (sh_102 hW) e12 ?_
  refine go_iload1 hc dX14_isOpen_4 ?_
  refine go_iload2 hc dX14_isOpen_5 ?_
  replace h := goBind h; obtain ⟨x13, e14, h⟩ := h
  refine go_callVi hc dX14_isOpen_6 (mX13_path hk hW (goW_M3 hW e12) e14) ml_RX14_312 yk_X13_path ⟨wim_X13_path, wse_X13_path⟩ hR rfl (shM_0 (goW_M3 hW e12)) rfl rfl rfl (Nat.le_of_ble_eq_true rfl) rfl ?_
  refine go_istore3 hc dX14_isOpen_9 ?_
  refine go_iload3 hc dX14_isOpen_10 ?_
  refine go_iconst (v := (-1)) hc dX14_isOpen_11 rfl ?_
  refine go_icmp_eq hc 33 dX14_isOpen_12 rfl (fun c15 => ?_) (fun c15 => ?_)
  · replace h := goIfT h c15
    refine go_iconst (v := 0) hc dX14_isOpen_33 rfl ?_
    cases h
    exact go_zret hc dX14_isOpen_34 hr rfl
  · replace h := goIfF h c15
    refine go_aload0 hc dX14_isOpen_15 ?_
    refine go_getR hc lk_RX14_21 dX14_isOpen_16 (sh_102 hW) (rf_102_18 hW) ?_
    refine go_bipush (v := 16) hc dX14_isOpen_19 rfl ?_
    replace h := goBind h; obtain ⟨x16, e17, h⟩ := h
    refine go_iald hc dX14_isOpen_21 (sh_105 hW) e17 ?_
    refine go_iload3 hc dX14_isOpen_22 ?_
    refine go_callSi hc dX14_isOpen_23 (mX14_bit hk hW rfl) ml_RX14_366 yk_X14_bit wst_X14_bit hR rfl rfl rfl (Nat.le_of_ble_eq_true rfl) rfl ?_
    refine go_if_ne hc 33 dX14_isOpen_26 rfl (fun c18 => ?_) (fun c18 => ?_)
    · replace h := goIfF h c18
      refine go_iconst (v := 0) hc dX14_isOpen_33 rfl ?_
      cases h
      exact go_zret hc dX14_isOpen_34 hr rfl
    · replace h := goIfT h c18
      refine go_iconst (v := 1) hc dX14_isOpen_29 rfl ?_
      refine go_goto hc 34 dX14_isOpen_30 rfl ?_
      cases h
      exact go_zret hc dX14_isOpen_34 hr rfl
theorem dX14_bestFor_0 : decode cX14_bestFor 0 = .ok (.iconst (-1), 1) := by decide +kernel
theorem dX14_bestFor_1 : decode cX14_bestFor 1 = .ok (.istore 4, 2) := by decide +kernel
theorem dX14_bestFor_3 : decode cX14_bestFor 3 = .ok (.iconst 0, 1) := by decide +kernel
theorem dX14_bestFor_4 : decode cX14_bestFor 4 = .ok (.istore 5, 2) := by decide +kernel
theorem dX14_bestFor_6 : decode cX14_bestFor 6 = .ok (.iload 5, 2) := by decide +kernel
theorem dX14_bestFor_8 : decode cX14_bestFor 8 = .ok (.aload_n 0, 1) := by decide +kernel
theorem dX14_bestFor_9 : decode cX14_bestFor 9 = .ok (.getfield 442, 3) := by decide +kernel
theorem dX14_bestFor_12 : decode cX14_bestFor 12 = .ok (.getfield 241, 3) := by decide +kernel
theorem dX14_bestFor_15 : decode cX14_bestFor 15 = .ok (.if_icmp .ge 65, 3) := by decide +kernel
theorem dX14_bestFor_18 : decode cX14_bestFor 18 = .ok (.aload_n 0, 1) := by decide +kernel
theorem dX14_bestFor_19 : decode cX14_bestFor 19 = .ok (.aload_n 0, 1) := by decide +kernel
theorem dX14_bestFor_20 : decode cX14_bestFor 20 = .ok (.getfield 45, 3) := by decide +kernel
theorem dX14_bestFor_23 : decode cX14_bestFor 23 = .ok (.iload_n 2, 1) := by decide +kernel
theorem dX14_bestFor_24 : decode cX14_bestFor 24 = .ok (.iaload, 1) := by decide +kernel
theorem dX14_bestFor_25 : decode cX14_bestFor 25 = .ok (.iload 5, 2) := by decide +kernel
theorem dX14_bestFor_27 : decode cX14_bestFor 27 = .ok (.invokevirtual 457, 3) := by decide +kernel
theorem dX14_bestFor_30 : decode cX14_bestFor 30 = .ok (.ifCond .eq 44, 3) := by decide +kernel
theorem dX14_bestFor_33 : decode cX14_bestFor 33 = .ok (.aload_n 0, 1) := by decide +kernel
theorem dX14_bestFor_34 : decode cX14_bestFor 34 = .ok (.iload_n 1, 1) := by decide +kernel
theorem dX14_bestFor_35 : decode cX14_bestFor 35 = .ok (.iload_n 2, 1) := by decide +kernel
theorem dX14_bestFor_36 : decode cX14_bestFor 36 = .ok (.iload 5, 2) := by decide +kernel
theorem dX14_bestFor_38 : decode cX14_bestFor 38 = .ok (.iload_n 3, 1) := by decide +kernel
theorem dX14_bestFor_39 : decode cX14_bestFor 39 = .ok (.invokevirtual 460, 3) := by decide +kernel
theorem dX14_bestFor_42 : decode cX14_bestFor 42 = .ok (.ifCond .ne 32, 3) := by decide +kernel
theorem dX14_bestFor_45 : decode cX14_bestFor 45 = .ok (.iload 4, 2) := by decide +kernel
theorem dX14_bestFor_47 : decode cX14_bestFor 47 = .ok (.iconst (-1), 1) := by decide +kernel
theorem dX14_bestFor_48 : decode cX14_bestFor 48 = .ok (.if_icmp .eq 22, 3) := by decide +kernel
theorem dX14_bestFor_51 : decode cX14_bestFor 51 = .ok (.aload_n 0, 1) := by decide +kernel
theorem dX14_bestFor_52 : decode cX14_bestFor 52 = .ok (.iload_n 2, 1) := by decide +kernel
theorem dX14_bestFor_53 : decode cX14_bestFor 53 = .ok (.iload 5, 2) := by decide +kernel
theorem dX14_bestFor_55 : decode cX14_bestFor 55 = .ok (.iload_n 3, 1) := by decide +kernel
theorem dX14_bestFor_56 : decode cX14_bestFor 56 = .ok (.invokevirtual 463, 3) := by decide +kernel
theorem dX14_bestFor_59 : decode cX14_bestFor 59 = .ok (.aload_n 0, 1) := by decide +kernel
theorem dX14_bestFor_60 : decode cX14_bestFor 60 = .ok (.iload_n 2, 1) := by decide +kernel
theorem dX14_bestFor_61 : decode cX14_bestFor 61 = .ok (.iload 4, 2) := by decide +kernel
theorem dX14_bestFor_63 : decode cX14_bestFor 63 = .ok (.iload_n 3, 1) := by decide +kernel
theorem dX14_bestFor_64 : decode cX14_bestFor 64 = .ok (.invokevirtual 463, 3) := by decide +kernel
theorem dX14_bestFor_67 : decode cX14_bestFor 67 = .ok (.if_icmp .ge 7, 3) := by decide +kernel
theorem dX14_bestFor_70 : decode cX14_bestFor 70 = .ok (.iload 5, 2) := by decide +kernel
theorem dX14_bestFor_72 : decode cX14_bestFor 72 = .ok (.istore 4, 2) := by decide +kernel
theorem dX14_bestFor_74 : decode cX14_bestFor 74 = .ok (.iinc 5 1, 3) := by decide +kernel
theorem dX14_bestFor_77 : decode cX14_bestFor 77 = .ok (.goto (-71), 3) := by decide +kernel
theorem dX14_bestFor_80 : decode cX14_bestFor 80 = .ok (.iload 4, 2) := by decide +kernel
theorem dX14_bestFor_82 : decode cX14_bestFor 82 = .ok (.ireturn, 1) := by decide +kernel
set_option maxRecDepth 100000 in
set_option maxHeartbeats 4000000 in
theorem mX14_bestFor_L6 {E : goEv} {X : goX} {G : goG} {Q : State → Prop} {M : goMI} {L : goML} {R : goMR} {N : Nat} {v1 : Int32} {v2 : Int32} {v3 : Int32} (hc : goCx E X cX14_bestFor RX14 6) (hk : goKn E) (hR : X.2.2.2.1 = goRoom 3 72 0 0) (hr : X.2.2.2.2.2.2.2.2.1.sig.returnType = (Option.some FieldType.int)) (hW : goW G R) : ∀ (n : Nat) (v4 : Int32) (v5 : Int32) (r0 : Int32), lX14_bestFor_6 N v1 v2 v3 M R n v4 v5 = some r0 → (∀ (d0 d1 d2 d3 d5 : Option Value), goA E X G 0 0 Q 80 [d0, d1, d2, d3, some (.int r0), d5] [] M L R) → goA E X G 0 0 Q 6 [some (.ref 102), some (.int v1), some (.int v2), some (.int v3), some (.int v4), some (.int v5)] [] M L R := by
  intro n
  induction n with
  | zero => intro v4 v5 r0 h; exact nomatch h
  | succ n ih =>
    intro v4 v5 r0 h kx
    rw [lX14_bestFor_6] at h
    refine go_iload5 hc dX14_bestFor_6 ?_
    refine go_aload0 hc dX14_bestFor_8 ?_
    replace h := goBind h; obtain ⟨b11, e12, h⟩ := h
    refine go_getR hc lk_RX14_442 dX14_bestFor_9 (sh_102 hW) e12 ?_
    refine go_getI hc lk_RX14_241 dX14_bestFor_12 (shM_0 (goW_M3 hW e12)) ?_
    refine go_icmp_ge hc 80 dX14_bestFor_15 rfl (fun c13 => ?_) (fun c13 => ?_)
    · replace h := goIfF h c13
      cases h
      exact kx _ _ _ _ _
    · replace h := goIfT h c13
      refine go_aload0 hc dX14_bestFor_18 ?_
      refine go_aload0 hc dX14_bestFor_19 ?_
      refine go_getR hc lk_RX14_45 dX14_bestFor_20 (sh_102 hW) (rf_102_28 hW) ?_
      refine go_iload2 hc dX14_bestFor_23 ?_
      replace h := goBind h; obtain ⟨x14, e15, h⟩ := h
      refine go_iald hc dX14_bestFor_24 (sh_113 hW) e15 ?_
      refine go_iload5 hc dX14_bestFor_25 ?_
      replace h := goBind h; obtain ⟨x16, e17, h⟩ := h
      refine go_callVi hc dX14_bestFor_27 (mX14_isOpen hk hW e17) ml_RX14_457 yk_X14_isOpen ⟨wim_X14_isOpen, wse_X14_isOpen⟩ hR rfl (sh_102 hW) rfl rfl rfl (Nat.le_of_ble_eq_true rfl) rfl ?_
      replace h := goBind h; obtain ⟨x18, e19, h⟩ := h
      have k20 : goA E X G 0 0 Q 74 [some (.ref 102), some (.int v1), some (.int v2), some (.int v3), some (.int x18), some (.int v5)] [] M L R := by
        refine go_iinc5 (v := (v5 + 1)) hc dX14_bestFor_74 rfl ?_
        refine go_goto hc 6 dX14_bestFor_77 rfl ?_
        exact ih _ _ _ h kx
      refine go_if_eq hc 74 dX14_bestFor_30 rfl (fun c21 => ?_) (fun c21 => ?_)
      · replace e19 := goIfT e19 c21
        cases e19
        exact k20
      · replace e19 := goIfF e19 c21
        refine go_aload0 hc dX14_bestFor_33 ?_
        refine go_iload1 hc dX14_bestFor_34 ?_
        refine go_iload2 hc dX14_bestFor_35 ?_
        refine go_iload5 hc dX14_bestFor_36 ?_
        refine go_iload3 hc dX14_bestFor_38 ?_
        replace e19 := goBind e19; obtain ⟨x22, e23, e19⟩ := e19
        refine go_callVi hc dX14_bestFor_39 (mX14_fears hk hW e23) ml_RX14_460 yk_X14_fears ⟨wim_X14_fears, wse_X14_fears⟩ hR rfl (sh_102 hW) rfl rfl rfl (Nat.le_of_ble_eq_true rfl) rfl ?_
        refine go_if_ne hc 74 dX14_bestFor_42 rfl (fun c24 => ?_) (fun c24 => ?_)
        · replace e19 := goIfF e19 c24
          cases e19
          exact k20
        · replace e19 := goIfT e19 c24
          refine go_iload4 hc dX14_bestFor_45 ?_
          refine go_iconst (v := (-1)) hc dX14_bestFor_47 rfl ?_
          refine go_icmp_eq hc 70 dX14_bestFor_48 rfl (fun c25 => ?_) (fun c25 => ?_)
          · replace e19 := goIfT e19 c25
            refine go_iload5 hc dX14_bestFor_70 ?_
            refine go_istore4 hc dX14_bestFor_72 ?_
            cases e19
            exact k20
          · replace e19 := goIfF e19 c25
            refine go_aload0 hc dX14_bestFor_51 ?_
            refine go_iload2 hc dX14_bestFor_52 ?_
            refine go_iload5 hc dX14_bestFor_53 ?_
            refine go_iload3 hc dX14_bestFor_55 ?_
            replace e19 := goBind e19; obtain ⟨x26, e27, e19⟩ := e19
            refine go_callVi hc dX14_bestFor_56 (mX14_worth hk hW e27) ml_RX14_463 yk_X14_worth ⟨wim_X14_worth, wse_X14_worth⟩ hR rfl (sh_102 hW) rfl rfl rfl (Nat.le_of_ble_eq_true rfl) rfl ?_
            refine go_aload0 hc dX14_bestFor_59 ?_
            refine go_iload2 hc dX14_bestFor_60 ?_
            refine go_iload4 hc dX14_bestFor_61 ?_
            refine go_iload3 hc dX14_bestFor_63 ?_
            replace e19 := goBind e19; obtain ⟨x28, e29, e19⟩ := e19
            refine go_callVi hc dX14_bestFor_64 (mX14_worth hk hW e29) ml_RX14_463 yk_X14_worth ⟨wim_X14_worth, wse_X14_worth⟩ hR rfl (sh_102 hW) rfl rfl rfl (Nat.le_of_ble_eq_true rfl) rfl ?_
            refine go_icmp_ge hc 74 dX14_bestFor_67 rfl (fun c30 => ?_) (fun c30 => ?_)
            · replace e19 := goIfF e19 c30
              cases e19
              exact k20
            · replace e19 := goIfT e19 c30
              refine go_iload5 hc dX14_bestFor_70 ?_
              refine go_istore4 hc dX14_bestFor_72 ?_
              cases e19
              exact k20
set_option maxRecDepth 100000 in
set_option maxHeartbeats 4000000 in
theorem mX14_bestFor {E : goEv} {l : Launch} {G : goG} {N : Nat} {M : goMI} {L : goML} {R : goMR} {v1 : Int32} {v2 : Int32} {v3 : Int32} {r0 : Int32} (hk : goKn E) (hW : goW G R) (h : fX14_bestFor N M R v1 v2 v3 = some r0) : Met l yX14_bestFor (goCd yX14_bestFor cX14_bestFor 6 (Option.some FieldType.int)) (goRoom 3 72 0 0) (goPre E [.ref 102, .int v1, .int v2, .int v3] G M L R) (goQi E r0 G M L R) 0 0 (goSet E) := by
  refine goMet pl_RX14 hk (lv := [some (.ref 102), some (.int v1), some (.int v2), some (.int v3), none, none]) rfl (Nat.le_of_ble_eq_true rfl) ?_
  intro X hc hl hR hr hnm
  subst hl
  unfold fX14_bestFor at h
  refine go_iconst (v := (-1)) hc dX14_bestFor_0 rfl ?_
  refine go_istore4 hc dX14_bestFor_1 ?_
  refine go_iconst (v := 0) hc dX14_bestFor_3 rfl ?_
  refine go_istore5 hc dX14_bestFor_4 ?_
  replace h := goBind h; obtain ⟨x32, e31, h⟩ := h
  refine mX14_bestFor_L6 hc hk hR hr hW _ _ _ _ e31 (fun d0 d1 d2 d3 d5 => ?_)
  refine go_iload4 hc dX14_bestFor_80 ?_
  cases h
  exact go_iret hc dX14_bestFor_82 hr
theorem dX14_eats_0 : decode cX14_eats 0 = .ok (.aload_n 0, 1) := by decide +kernel
theorem dX14_eats_1 : decode cX14_eats 1 = .ok (.iload_n 1, 1) := by decide +kernel
theorem dX14_eats_2 : decode cX14_eats 2 = .ok (.aload_n 0, 1) := by decide +kernel
theorem dX14_eats_3 : decode cX14_eats 3 = .ok (.getfield 45, 3) := by decide +kernel
theorem dX14_eats_6 : decode cX14_eats 6 = .ok (.iload_n 1, 1) := by decide +kernel
theorem dX14_eats_7 : decode cX14_eats 7 = .ok (.iaload, 1) := by decide +kernel
theorem dX14_eats_8 : decode cX14_eats 8 = .ok (.invokevirtual 472, 3) := by decide +kernel
theorem dX14_eats_11 : decode cX14_eats 11 = .ok (.istore_n 3, 1) := by decide +kernel
theorem dX14_eats_12 : decode cX14_eats 12 = .ok (.aload_n 0, 1) := by decide +kernel
theorem dX14_eats_13 : decode cX14_eats 13 = .ok (.getfield 39, 3) := by decide +kernel
theorem dX14_eats_16 : decode cX14_eats 16 = .ok (.iconst 4, 1) := by decide +kernel
theorem dX14_eats_17 : decode cX14_eats 17 = .ok (.aload_n 0, 1) := by decide +kernel
theorem dX14_eats_18 : decode cX14_eats 18 = .ok (.getfield 45, 3) := by decide +kernel
theorem dX14_eats_21 : decode cX14_eats 21 = .ok (.iload_n 1, 1) := by decide +kernel
theorem dX14_eats_22 : decode cX14_eats 22 = .ok (.iaload, 1) := by decide +kernel
theorem dX14_eats_23 : decode cX14_eats 23 = .ok (.imul, 1) := by decide +kernel
theorem dX14_eats_24 : decode cX14_eats 24 = .ok (.iload_n 3, 1) := by decide +kernel
theorem dX14_eats_25 : decode cX14_eats 25 = .ok (.iadd, 1) := by decide +kernel
theorem dX14_eats_26 : decode cX14_eats 26 = .ok (.iaload, 1) := by decide +kernel
theorem dX14_eats_27 : decode cX14_eats 27 = .ok (.istore 4, 2) := by decide +kernel
theorem dX14_eats_29 : decode cX14_eats 29 = .ok (.aload_n 0, 1) := by decide +kernel
theorem dX14_eats_30 : decode cX14_eats 30 = .ok (.getfield 442, 3) := by decide +kernel
theorem dX14_eats_33 : decode cX14_eats 33 = .ok (.getfield 347, 3) := by decide +kernel
theorem dX14_eats_36 : decode cX14_eats 36 = .ok (.iload_n 1, 1) := by decide +kernel
theorem dX14_eats_37 : decode cX14_eats 37 = .ok (.iaload, 1) := by decide +kernel
theorem dX14_eats_38 : decode cX14_eats 38 = .ok (.iconst 2, 1) := by decide +kernel
theorem dX14_eats_39 : decode cX14_eats 39 = .ok (.if_icmp .ne 13, 3) := by decide +kernel
theorem dX14_eats_42 : decode cX14_eats 42 = .ok (.iload 4, 2) := by decide +kernel
theorem dX14_eats_44 : decode cX14_eats 44 = .ok (.iconst 1, 1) := by decide +kernel
theorem dX14_eats_45 : decode cX14_eats 45 = .ok (.if_icmp .le 7, 3) := by decide +kernel
theorem dX14_eats_48 : decode cX14_eats 48 = .ok (.iconst 2, 1) := by decide +kernel
theorem dX14_eats_49 : decode cX14_eats 49 = .ok (.goto 4, 3) := by decide +kernel
theorem dX14_eats_52 : decode cX14_eats 52 = .ok (.iconst 1, 1) := by decide +kernel
theorem dX14_eats_53 : decode cX14_eats 53 = .ok (.istore 5, 2) := by decide +kernel
theorem dX14_eats_55 : decode cX14_eats 55 = .ok (.aload_n 0, 1) := by decide +kernel
theorem dX14_eats_56 : decode cX14_eats 56 = .ok (.getfield 39, 3) := by decide +kernel
theorem dX14_eats_59 : decode cX14_eats 59 = .ok (.iconst 4, 1) := by decide +kernel
theorem dX14_eats_60 : decode cX14_eats 60 = .ok (.aload_n 0, 1) := by decide +kernel
theorem dX14_eats_61 : decode cX14_eats 61 = .ok (.getfield 45, 3) := by decide +kernel
theorem dX14_eats_64 : decode cX14_eats 64 = .ok (.iload_n 1, 1) := by decide +kernel
theorem dX14_eats_65 : decode cX14_eats 65 = .ok (.iaload, 1) := by decide +kernel
theorem dX14_eats_66 : decode cX14_eats 66 = .ok (.imul, 1) := by decide +kernel
theorem dX14_eats_67 : decode cX14_eats 67 = .ok (.iload_n 3, 1) := by decide +kernel
theorem dX14_eats_68 : decode cX14_eats 68 = .ok (.iadd, 1) := by decide +kernel
theorem dX14_eats_69 : decode cX14_eats 69 = .ok (.dup2, 1) := by decide +kernel
theorem dX14_eats_70 : decode cX14_eats 70 = .ok (.iaload, 1) := by decide +kernel
theorem dX14_eats_71 : decode cX14_eats 71 = .ok (.iload 5, 2) := by decide +kernel
theorem dX14_eats_73 : decode cX14_eats 73 = .ok (.isub, 1) := by decide +kernel
theorem dX14_eats_74 : decode cX14_eats 74 = .ok (.iastore, 1) := by decide +kernel
theorem dX14_eats_75 : decode cX14_eats 75 = .ok (.aload_n 0, 1) := by decide +kernel
theorem dX14_eats_76 : decode cX14_eats 76 = .ok (.getfield 33, 3) := by decide +kernel
theorem dX14_eats_79 : decode cX14_eats 79 = .ok (.bipush 12, 2) := by decide +kernel
theorem dX14_eats_81 : decode cX14_eats 81 = .ok (.iload_n 1, 1) := by decide +kernel
theorem dX14_eats_82 : decode cX14_eats 82 = .ok (.imul, 1) := by decide +kernel
theorem dX14_eats_83 : decode cX14_eats 83 = .ok (.iload_n 2, 1) := by decide +kernel
theorem dX14_eats_84 : decode cX14_eats 84 = .ok (.iadd, 1) := by decide +kernel
theorem dX14_eats_85 : decode cX14_eats 85 = .ok (.iload_n 3, 1) := by decide +kernel
theorem dX14_eats_86 : decode cX14_eats 86 = .ok (.iastore, 1) := by decide +kernel
theorem dX14_eats_87 : decode cX14_eats 87 = .ok (.aload_n 0, 1) := by decide +kernel
theorem dX14_eats_88 : decode cX14_eats 88 = .ok (.getfield 36, 3) := by decide +kernel
theorem dX14_eats_91 : decode cX14_eats 91 = .ok (.bipush 12, 2) := by decide +kernel
theorem dX14_eats_93 : decode cX14_eats 93 = .ok (.iload_n 1, 1) := by decide +kernel
theorem dX14_eats_94 : decode cX14_eats 94 = .ok (.imul, 1) := by decide +kernel
theorem dX14_eats_95 : decode cX14_eats 95 = .ok (.iload_n 2, 1) := by decide +kernel
theorem dX14_eats_96 : decode cX14_eats 96 = .ok (.iadd, 1) := by decide +kernel
theorem dX14_eats_97 : decode cX14_eats 97 = .ok (.iload 5, 2) := by decide +kernel
theorem dX14_eats_99 : decode cX14_eats 99 = .ok (.iastore, 1) := by decide +kernel
theorem dX14_eats_100 : decode cX14_eats 100 = .ok (.return_, 1) := by decide +kernel
set_option maxRecDepth 100000 in
set_option maxHeartbeats 4000000 in
theorem mX14_eats {E : goEv} {l : Launch} {G : goG} {N : Nat} {M : goMI} {L : goML} {R : goMR} {v1 : Int32} {v2 : Int32} {r0 : goMI} (hk : goKn E) (hW : goW G R) (h : fX14_eats N M R v1 v2 = some r0) : Met l yX14_eats (goCd yX14_eats cX14_eats 6 none) (goRoom 1 23 0 0) (goPre E [.ref 102, .int v1, .int v2] G M L R) (goQv E G r0 L R) 0 0 (goSet E) := by
  refine goMet pl_RX14 hk (lv := [some (.ref 102), some (.int v1), some (.int v2), none, none, none]) rfl (Nat.le_of_ble_eq_true rfl) ?_
  intro X hc hl hR hr hnm
  subst hl
  unfold fX14_eats at h
  refine go_aload0 hc dX14_eats_0 ?_
  refine go_iload1 hc dX14_eats_1 ?_
  refine go_aload0 hc dX14_eats_2 ?_
  refine go_getR hc lk_RX14_45 dX14_eats_3 (sh_102 hW) (rf_102_28 hW) ?_
  refine go_iload1 hc dX14_eats_6 ?_
  replace h := goBind h; obtain ⟨x11, e12, h⟩ := h
  refine go_iald hc dX14_eats_7 (sh_113 hW) e12 ?_
  replace h := goBind h; obtain ⟨x13, e14, h⟩ := h
  refine go_callVi hc dX14_eats_8 (mX14_plantAt hk hW e14) ml_RX14_472 yk_X14_plantAt ⟨wim_X14_plantAt, wse_X14_plantAt⟩ hR rfl (sh_102 hW) rfl rfl rfl (Nat.le_of_ble_eq_true rfl) rfl ?_
  refine go_istore3 hc dX14_eats_11 ?_
  refine go_aload0 hc dX14_eats_12 ?_
  refine go_getR hc lk_RX14_39 dX14_eats_13 (sh_102 hW) (rf_102_26 hW) ?_
  refine go_iconst (v := 4) hc dX14_eats_16 rfl ?_
  refine go_aload0 hc dX14_eats_17 ?_
  refine go_getR hc lk_RX14_45 dX14_eats_18 (sh_102 hW) (rf_102_28 hW) ?_
  refine go_iload1 hc dX14_eats_21 ?_
  replace h := goBind h; obtain ⟨x15, e16, h⟩ := h
  refine go_iald hc dX14_eats_22 (sh_113 hW) e16 ?_
  refine go_imul hc dX14_eats_23 ?_
  refine go_iload3 hc dX14_eats_24 ?_
  refine go_iadd hc dX14_eats_25 ?_
  replace h := goBind h; obtain ⟨x17, e18, h⟩ := h
  refine go_iald hc dX14_eats_26 (sh_111 hW) e18 ?_
  refine go_istore4 hc dX14_eats_27 ?_
  refine go_aload0 hc dX14_eats_29 ?_
  replace h := goBind h; obtain ⟨b19, e20, h⟩ := h
  refine go_getR hc lk_RX14_442 dX14_eats_30 (sh_102 hW) e20 ?_
  refine go_getR hc lk_RX14_347 dX14_eats_33 (shM_0 (goW_M3 hW e20)) (rfM_21 (goW_M3 hW e20)) ?_
  refine go_iload1 hc dX14_eats_36 ?_
  replace h := goBind h; obtain ⟨x21, e22, h⟩ := h
  refine go_iald hc dX14_eats_37 (shM_6 (goW_M3 hW e20)) e22 ?_
  refine go_iconst (v := 2) hc dX14_eats_38 rfl ?_
  replace h := goNm_y h; obtain ⟨x23, e24, h⟩ := h
  have k25 : ∀ (d4 d5 : Option Value), goA E X G 0 0 (goMQ X E (goQv E G r0 L R) 0 0) 53 [some (.ref 102), some (.int v1), some (.int v2), some (.int x13), d4, d5] [.int x23] M L R := by
    intro d4 d5
    refine go_istore5 hc dX14_eats_53 ?_
    refine go_aload0 hc dX14_eats_55 ?_
    refine go_getR hc lk_RX14_39 dX14_eats_56 (sh_102 hW) (rf_102_26 hW) ?_
    refine go_iconst (v := 4) hc dX14_eats_59 rfl ?_
    refine go_aload0 hc dX14_eats_60 ?_
    refine go_getR hc lk_RX14_45 dX14_eats_61 (sh_102 hW) (rf_102_28 hW) ?_
    refine go_iload1 hc dX14_eats_64 ?_
    replace h := goBind h; obtain ⟨x28, e29, h⟩ := h
    refine go_iald hc dX14_eats_65 (sh_113 hW) e29 ?_
    refine go_imul hc dX14_eats_66 ?_
    refine go_iload3 hc dX14_eats_67 ?_
    refine go_iadd hc dX14_eats_68 ?_
    refine go_dup2 hc dX14_eats_69 ?_
    replace h := goBind h; obtain ⟨x30, e31, h⟩ := h
    refine go_iald hc dX14_eats_70 (sh_111 hW) e31 ?_
    refine go_iload5 hc dX14_eats_71 ?_
    refine go_isub hc dX14_eats_73 ?_
    replace h := goBind h; obtain ⟨M32, e33, h⟩ := h
    refine go_iast hc dX14_eats_74 (sh_111 hW) e33 ?_
    refine go_aload0 hc dX14_eats_75 ?_
    refine go_getR hc lk_RX14_33 dX14_eats_76 (sh_102 hW) (rf_102_24 hW) ?_
    refine go_bipush (v := 12) hc dX14_eats_79 rfl ?_
    refine go_iload1 hc dX14_eats_81 ?_
    refine go_imul hc dX14_eats_82 ?_
    refine go_iload2 hc dX14_eats_83 ?_
    refine go_iadd hc dX14_eats_84 ?_
    refine go_iload3 hc dX14_eats_85 ?_
    replace h := goBind h; obtain ⟨M34, e35, h⟩ := h
    refine go_iast hc dX14_eats_86 (sh_109 hW) e35 ?_
    refine go_aload0 hc dX14_eats_87 ?_
    refine go_getR hc lk_RX14_36 dX14_eats_88 (sh_102 hW) (rf_102_25 hW) ?_
    refine go_bipush (v := 12) hc dX14_eats_91 rfl ?_
    refine go_iload1 hc dX14_eats_93 ?_
    refine go_imul hc dX14_eats_94 ?_
    refine go_iload2 hc dX14_eats_95 ?_
    refine go_iadd hc dX14_eats_96 ?_
    refine go_iload5 hc dX14_eats_97 ?_
    replace h := goBind h; obtain ⟨M36, e37, h⟩ := h
    refine go_iast hc dX14_eats_99 (sh_110 hW) e37 ?_
    cases h
    exact go_vret hc dX14_eats_100 hr
  refine go_icmp_ne hc 52 dX14_eats_39 rfl (fun c26 => ?_) (fun c26 => ?_)
  · replace e24 := goIfF e24 c26
    refine go_iconst (v := 1) hc dX14_eats_52 rfl ?_
    subst e24
    exact k25 _ _
  · replace e24 := goIfT e24 c26
    refine go_iload4 hc dX14_eats_42 ?_
    refine go_iconst (v := 1) hc dX14_eats_44 rfl ?_
    refine go_icmp_le hc 52 dX14_eats_45 rfl (fun c27 => ?_) (fun c27 => ?_)
    · replace e24 := goIfF e24 c27
      refine go_iconst (v := 1) hc dX14_eats_52 rfl ?_
      subst e24
      exact k25 _ _
    · replace e24 := goIfT e24 c27
      refine go_iconst (v := 2) hc dX14_eats_48 rfl ?_
      refine go_goto hc 53 dX14_eats_49 rfl ?_
      subst e24
      exact k25 _ _
theorem dX14_goatGoes_0 : decode cX14_goatGoes 0 = .ok (.aload_n 0, 1) := by decide +kernel
theorem dX14_goatGoes_1 : decode cX14_goatGoes 1 = .ok (.getfield 442, 3) := by decide +kernel
theorem dX14_goatGoes_4 : decode cX14_goatGoes 4 = .ok (.getfield 350, 3) := by decide +kernel
theorem dX14_goatGoes_7 : decode cX14_goatGoes 7 = .ok (.iload_n 2, 1) := by decide +kernel
theorem dX14_goatGoes_8 : decode cX14_goatGoes 8 = .ok (.iaload, 1) := by decide +kernel
theorem dX14_goatGoes_9 : decode cX14_goatGoes 9 = .ok (.istore 4, 2) := by decide +kernel
theorem dX14_goatGoes_11 : decode cX14_goatGoes 11 = .ok (.iload 4, 2) := by decide +kernel
theorem dX14_goatGoes_13 : decode cX14_goatGoes 13 = .ok (.bipush (-2), 2) := by decide +kernel
theorem dX14_goatGoes_15 : decode cX14_goatGoes 15 = .ok (.if_icmp .eq 53, 3) := by decide +kernel
theorem dX14_goatGoes_18 : decode cX14_goatGoes 18 = .ok (.aload_n 0, 1) := by decide +kernel
theorem dX14_goatGoes_19 : decode cX14_goatGoes 19 = .ok (.getfield 45, 3) := by decide +kernel
theorem dX14_goatGoes_22 : decode cX14_goatGoes 22 = .ok (.iload 4, 2) := by decide +kernel
theorem dX14_goatGoes_24 : decode cX14_goatGoes 24 = .ok (.iaload, 1) := by decide +kernel
theorem dX14_goatGoes_25 : decode cX14_goatGoes 25 = .ok (.aload_n 0, 1) := by decide +kernel
theorem dX14_goatGoes_26 : decode cX14_goatGoes 26 = .ok (.getfield 45, 3) := by decide +kernel
theorem dX14_goatGoes_29 : decode cX14_goatGoes 29 = .ok (.iload_n 2, 1) := by decide +kernel
theorem dX14_goatGoes_30 : decode cX14_goatGoes 30 = .ok (.iaload, 1) := by decide +kernel
theorem dX14_goatGoes_31 : decode cX14_goatGoes 31 = .ok (.if_icmp .eq 37, 3) := by decide +kernel
theorem dX14_goatGoes_34 : decode cX14_goatGoes 34 = .ok (.aload_n 0, 1) := by decide +kernel
theorem dX14_goatGoes_35 : decode cX14_goatGoes 35 = .ok (.aload_n 0, 1) := by decide +kernel
theorem dX14_goatGoes_36 : decode cX14_goatGoes 36 = .ok (.getfield 45, 3) := by decide +kernel
theorem dX14_goatGoes_39 : decode cX14_goatGoes 39 = .ok (.iload_n 2, 1) := by decide +kernel
theorem dX14_goatGoes_40 : decode cX14_goatGoes 40 = .ok (.iaload, 1) := by decide +kernel
theorem dX14_goatGoes_41 : decode cX14_goatGoes 41 = .ok (.aload_n 0, 1) := by decide +kernel
theorem dX14_goatGoes_42 : decode cX14_goatGoes 42 = .ok (.getfield 45, 3) := by decide +kernel
theorem dX14_goatGoes_45 : decode cX14_goatGoes 45 = .ok (.iload 4, 2) := by decide +kernel
theorem dX14_goatGoes_47 : decode cX14_goatGoes 47 = .ok (.iaload, 1) := by decide +kernel
theorem dX14_goatGoes_48 : decode cX14_goatGoes 48 = .ok (.invokevirtual 457, 3) := by decide +kernel
theorem dX14_goatGoes_51 : decode cX14_goatGoes 51 = .ok (.ifCond .eq 17, 3) := by decide +kernel
theorem dX14_goatGoes_54 : decode cX14_goatGoes 54 = .ok (.aload_n 0, 1) := by decide +kernel
theorem dX14_goatGoes_55 : decode cX14_goatGoes 55 = .ok (.getfield 45, 3) := by decide +kernel
theorem dX14_goatGoes_58 : decode cX14_goatGoes 58 = .ok (.iload_n 2, 1) := by decide +kernel
theorem dX14_goatGoes_59 : decode cX14_goatGoes 59 = .ok (.aload_n 0, 1) := by decide +kernel
theorem dX14_goatGoes_60 : decode cX14_goatGoes 60 = .ok (.getfield 45, 3) := by decide +kernel
theorem dX14_goatGoes_63 : decode cX14_goatGoes 63 = .ok (.iload 4, 2) := by decide +kernel
theorem dX14_goatGoes_65 : decode cX14_goatGoes 65 = .ok (.iaload, 1) := by decide +kernel
theorem dX14_goatGoes_66 : decode cX14_goatGoes 66 = .ok (.iastore, 1) := by decide +kernel
theorem dX14_goatGoes_67 : decode cX14_goatGoes 67 = .ok (.return_, 1) := by decide +kernel
theorem dX14_goatGoes_68 : decode cX14_goatGoes 68 = .ok (.aload_n 0, 1) := by decide +kernel
theorem dX14_goatGoes_69 : decode cX14_goatGoes 69 = .ok (.iload_n 1, 1) := by decide +kernel
theorem dX14_goatGoes_70 : decode cX14_goatGoes 70 = .ok (.iload_n 2, 1) := by decide +kernel
theorem dX14_goatGoes_71 : decode cX14_goatGoes 71 = .ok (.iload_n 3, 1) := by decide +kernel
theorem dX14_goatGoes_72 : decode cX14_goatGoes 72 = .ok (.invokevirtual 466, 3) := by decide +kernel
theorem dX14_goatGoes_75 : decode cX14_goatGoes 75 = .ok (.istore 5, 2) := by decide +kernel
theorem dX14_goatGoes_77 : decode cX14_goatGoes 77 = .ok (.aload_n 0, 1) := by decide +kernel
theorem dX14_goatGoes_78 : decode cX14_goatGoes 78 = .ok (.iload_n 1, 1) := by decide +kernel
theorem dX14_goatGoes_79 : decode cX14_goatGoes 79 = .ok (.iload_n 2, 1) := by decide +kernel
theorem dX14_goatGoes_80 : decode cX14_goatGoes 80 = .ok (.aload_n 0, 1) := by decide +kernel
theorem dX14_goatGoes_81 : decode cX14_goatGoes 81 = .ok (.getfield 45, 3) := by decide +kernel
theorem dX14_goatGoes_84 : decode cX14_goatGoes 84 = .ok (.iload_n 2, 1) := by decide +kernel
theorem dX14_goatGoes_85 : decode cX14_goatGoes 85 = .ok (.iaload, 1) := by decide +kernel
theorem dX14_goatGoes_86 : decode cX14_goatGoes 86 = .ok (.iload_n 3, 1) := by decide +kernel
theorem dX14_goatGoes_87 : decode cX14_goatGoes 87 = .ok (.invokevirtual 460, 3) := by decide +kernel
theorem dX14_goatGoes_90 : decode cX14_goatGoes 90 = .ok (.ifCond .eq 29, 3) := by decide +kernel
theorem dX14_goatGoes_93 : decode cX14_goatGoes 93 = .ok (.iload 5, 2) := by decide +kernel
theorem dX14_goatGoes_95 : decode cX14_goatGoes 95 = .ok (.iconst (-1), 1) := by decide +kernel
theorem dX14_goatGoes_96 : decode cX14_goatGoes 96 = .ok (.if_icmp .ne 4, 3) := by decide +kernel
theorem dX14_goatGoes_99 : decode cX14_goatGoes 99 = .ok (.return_, 1) := by decide +kernel
theorem dX14_goatGoes_100 : decode cX14_goatGoes 100 = .ok (.aload_n 0, 1) := by decide +kernel
theorem dX14_goatGoes_101 : decode cX14_goatGoes 101 = .ok (.getfield 45, 3) := by decide +kernel
theorem dX14_goatGoes_104 : decode cX14_goatGoes 104 = .ok (.iload_n 2, 1) := by decide +kernel
theorem dX14_goatGoes_105 : decode cX14_goatGoes 105 = .ok (.iload 5, 2) := by decide +kernel
theorem dX14_goatGoes_107 : decode cX14_goatGoes 107 = .ok (.iastore, 1) := by decide +kernel
theorem dX14_goatGoes_108 : decode cX14_goatGoes 108 = .ok (.aload_n 0, 1) := by decide +kernel
theorem dX14_goatGoes_109 : decode cX14_goatGoes 109 = .ok (.getfield 42, 3) := by decide +kernel
theorem dX14_goatGoes_112 : decode cX14_goatGoes 112 = .ok (.iload_n 2, 1) := by decide +kernel
theorem dX14_goatGoes_113 : decode cX14_goatGoes 113 = .ok (.dup2, 1) := by decide +kernel
theorem dX14_goatGoes_114 : decode cX14_goatGoes 114 = .ok (.iaload, 1) := by decide +kernel
theorem dX14_goatGoes_115 : decode cX14_goatGoes 115 = .ok (.iconst 1, 1) := by decide +kernel
theorem dX14_goatGoes_116 : decode cX14_goatGoes 116 = .ok (.iadd, 1) := by decide +kernel
theorem dX14_goatGoes_117 : decode cX14_goatGoes 117 = .ok (.iastore, 1) := by decide +kernel
theorem dX14_goatGoes_118 : decode cX14_goatGoes 118 = .ok (.return_, 1) := by decide +kernel
theorem dX14_goatGoes_119 : decode cX14_goatGoes 119 = .ok (.aload_n 0, 1) := by decide +kernel
theorem dX14_goatGoes_120 : decode cX14_goatGoes 120 = .ok (.iload_n 2, 1) := by decide +kernel
theorem dX14_goatGoes_121 : decode cX14_goatGoes 121 = .ok (.aload_n 0, 1) := by decide +kernel
theorem dX14_goatGoes_122 : decode cX14_goatGoes 122 = .ok (.getfield 45, 3) := by decide +kernel
theorem dX14_goatGoes_125 : decode cX14_goatGoes 125 = .ok (.iload_n 2, 1) := by decide +kernel
theorem dX14_goatGoes_126 : decode cX14_goatGoes 126 = .ok (.iaload, 1) := by decide +kernel
theorem dX14_goatGoes_127 : decode cX14_goatGoes 127 = .ok (.iload_n 3, 1) := by decide +kernel
theorem dX14_goatGoes_128 : decode cX14_goatGoes 128 = .ok (.invokevirtual 463, 3) := by decide +kernel
theorem dX14_goatGoes_131 : decode cX14_goatGoes 131 = .ok (.istore 6, 2) := by decide +kernel
theorem dX14_goatGoes_133 : decode cX14_goatGoes 133 = .ok (.iload 6, 2) := by decide +kernel
theorem dX14_goatGoes_135 : decode cX14_goatGoes 135 = .ok (.ifCond .ne 4, 3) := by decide +kernel
theorem dX14_goatGoes_138 : decode cX14_goatGoes 138 = .ok (.return_, 1) := by decide +kernel
theorem dX14_goatGoes_139 : decode cX14_goatGoes 139 = .ok (.iload 5, 2) := by decide +kernel
theorem dX14_goatGoes_141 : decode cX14_goatGoes 141 = .ok (.iconst (-1), 1) := by decide +kernel
theorem dX14_goatGoes_142 : decode cX14_goatGoes 142 = .ok (.if_icmp .eq 23, 3) := by decide +kernel
theorem dX14_goatGoes_145 : decode cX14_goatGoes 145 = .ok (.aload_n 0, 1) := by decide +kernel
theorem dX14_goatGoes_146 : decode cX14_goatGoes 146 = .ok (.iload_n 2, 1) := by decide +kernel
theorem dX14_goatGoes_147 : decode cX14_goatGoes 147 = .ok (.iload 5, 2) := by decide +kernel
theorem dX14_goatGoes_149 : decode cX14_goatGoes 149 = .ok (.iload_n 3, 1) := by decide +kernel
theorem dX14_goatGoes_150 : decode cX14_goatGoes 150 = .ok (.invokevirtual 463, 3) := by decide +kernel
theorem dX14_goatGoes_153 : decode cX14_goatGoes 153 = .ok (.ifCond .ne 12, 3) := by decide +kernel
theorem dX14_goatGoes_156 : decode cX14_goatGoes 156 = .ok (.aload_n 0, 1) := by decide +kernel
theorem dX14_goatGoes_157 : decode cX14_goatGoes 157 = .ok (.getfield 45, 3) := by decide +kernel
theorem dX14_goatGoes_160 : decode cX14_goatGoes 160 = .ok (.iload_n 2, 1) := by decide +kernel
theorem dX14_goatGoes_161 : decode cX14_goatGoes 161 = .ok (.iload 5, 2) := by decide +kernel
theorem dX14_goatGoes_163 : decode cX14_goatGoes 163 = .ok (.iastore, 1) := by decide +kernel
theorem dX14_goatGoes_164 : decode cX14_goatGoes 164 = .ok (.return_, 1) := by decide +kernel
theorem dX14_goatGoes_165 : decode cX14_goatGoes 165 = .ok (.iload 6, 2) := by decide +kernel
theorem dX14_goatGoes_167 : decode cX14_goatGoes 167 = .ok (.bipush 9, 2) := by decide +kernel
theorem dX14_goatGoes_169 : decode cX14_goatGoes 169 = .ok (.if_icmp .ge 10, 3) := by decide +kernel
theorem dX14_goatGoes_172 : decode cX14_goatGoes 172 = .ok (.aload_n 0, 1) := by decide +kernel
theorem dX14_goatGoes_173 : decode cX14_goatGoes 173 = .ok (.iload_n 2, 1) := by decide +kernel
theorem dX14_goatGoes_174 : decode cX14_goatGoes 174 = .ok (.iload_n 3, 1) := by decide +kernel
theorem dX14_goatGoes_175 : decode cX14_goatGoes 175 = .ok (.invokevirtual 469, 3) := by decide +kernel
theorem dX14_goatGoes_178 : decode cX14_goatGoes 178 = .ok (.return_, 1) := by decide +kernel
theorem dX14_goatGoes_179 : decode cX14_goatGoes 179 = .ok (.iload 5, 2) := by decide +kernel
theorem dX14_goatGoes_181 : decode cX14_goatGoes 181 = .ok (.iconst (-1), 1) := by decide +kernel
theorem dX14_goatGoes_182 : decode cX14_goatGoes 182 = .ok (.if_icmp .eq 24, 3) := by decide +kernel
theorem dX14_goatGoes_185 : decode cX14_goatGoes 185 = .ok (.aload_n 0, 1) := by decide +kernel
theorem dX14_goatGoes_186 : decode cX14_goatGoes 186 = .ok (.iload_n 2, 1) := by decide +kernel
theorem dX14_goatGoes_187 : decode cX14_goatGoes 187 = .ok (.iload 5, 2) := by decide +kernel
theorem dX14_goatGoes_189 : decode cX14_goatGoes 189 = .ok (.iload_n 3, 1) := by decide +kernel
theorem dX14_goatGoes_190 : decode cX14_goatGoes 190 = .ok (.invokevirtual 463, 3) := by decide +kernel
theorem dX14_goatGoes_193 : decode cX14_goatGoes 193 = .ok (.bipush 9, 2) := by decide +kernel
theorem dX14_goatGoes_195 : decode cX14_goatGoes 195 = .ok (.if_icmp .ge 11, 3) := by decide +kernel
theorem dX14_goatGoes_198 : decode cX14_goatGoes 198 = .ok (.aload_n 0, 1) := by decide +kernel
theorem dX14_goatGoes_199 : decode cX14_goatGoes 199 = .ok (.getfield 45, 3) := by decide +kernel
theorem dX14_goatGoes_202 : decode cX14_goatGoes 202 = .ok (.iload_n 2, 1) := by decide +kernel
theorem dX14_goatGoes_203 : decode cX14_goatGoes 203 = .ok (.iload 5, 2) := by decide +kernel
theorem dX14_goatGoes_205 : decode cX14_goatGoes 205 = .ok (.iastore, 1) := by decide +kernel
theorem dX14_goatGoes_206 : decode cX14_goatGoes 206 = .ok (.return_, 1) := by decide +kernel
set_option maxRecDepth 100000 in
set_option maxHeartbeats 4000000 in
theorem mX14_goatGoes {E : goEv} {l : Launch} {G : goG} {N : Nat} {M : goMI} {L : goML} {R : goMR} {v1 : Int32} {v2 : Int32} {v3 : Int32} {r0 : goMI} (hk : goKn E) (hW : goW G R) (h : fX14_goatGoes N M R v1 v2 v3 = some r0) : Met l yX14_goatGoes (goCd yX14_goatGoes cX14_goatGoes 7 none) (goRoom 4 97 0 0) (goPre E [.ref 102, .int v1, .int v2, .int v3] G M L R) (goQv E G r0 L R) 0 0 (goSet E) := by
  refine goMet pl_RX14 hk (lv := [some (.ref 102), some (.int v1), some (.int v2), some (.int v3), none, none, none]) rfl (Nat.le_of_ble_eq_true rfl) ?_
  intro X hc hl hR hr hnm
  subst hl
  unfold fX14_goatGoes at h
  refine go_aload0 hc dX14_goatGoes_0 ?_
  replace h := goBind h; obtain ⟨b11, e12, h⟩ := h
  refine go_getR hc lk_RX14_442 dX14_goatGoes_1 (sh_102 hW) e12 ?_
  refine go_getR hc lk_RX14_350 dX14_goatGoes_4 (shM_0 (goW_M3 hW e12)) (rfM_22 (goW_M3 hW e12)) ?_
  refine go_iload2 hc dX14_goatGoes_7 ?_
  replace h := goBind h; obtain ⟨x13, e14, h⟩ := h
  refine go_iald hc dX14_goatGoes_8 (shM_7 (goW_M3 hW e12)) e14 ?_
  refine go_istore4 hc dX14_goatGoes_9 ?_
  refine go_iload4 hc dX14_goatGoes_11 ?_
  refine go_bipush (v := (-2)) hc dX14_goatGoes_13 rfl ?_
  refine go_icmp_eq hc 68 dX14_goatGoes_15 rfl (fun c15 => ?_) (fun c15 => ?_)
  · replace h := goIfT h c15
    refine go_aload0 hc dX14_goatGoes_68 ?_
    refine go_iload1 hc dX14_goatGoes_69 ?_
    refine go_iload2 hc dX14_goatGoes_70 ?_
    refine go_iload3 hc dX14_goatGoes_71 ?_
    replace h := goBind h; obtain ⟨x16, e17, h⟩ := h
    refine go_callVi hc dX14_goatGoes_72 (mX14_bestFor hk hW e17) ml_RX14_466 yk_X14_bestFor ⟨wim_X14_bestFor, wse_X14_bestFor⟩ hR rfl (sh_102 hW) rfl rfl rfl (Nat.le_of_ble_eq_true rfl) rfl ?_
    refine go_istore5 hc dX14_goatGoes_75 ?_
    refine go_aload0 hc dX14_goatGoes_77 ?_
    refine go_iload1 hc dX14_goatGoes_78 ?_
    refine go_iload2 hc dX14_goatGoes_79 ?_
    refine go_aload0 hc dX14_goatGoes_80 ?_
    refine go_getR hc lk_RX14_45 dX14_goatGoes_81 (sh_102 hW) (rf_102_28 hW) ?_
    refine go_iload2 hc dX14_goatGoes_84 ?_
    replace h := goBind h; obtain ⟨x18, e19, h⟩ := h
    refine go_iald hc dX14_goatGoes_85 (sh_113 hW) e19 ?_
    refine go_iload3 hc dX14_goatGoes_86 ?_
    replace h := goBind h; obtain ⟨x20, e21, h⟩ := h
    refine go_callVi hc dX14_goatGoes_87 (mX14_fears hk hW e21) ml_RX14_460 yk_X14_fears ⟨wim_X14_fears, wse_X14_fears⟩ hR rfl (sh_102 hW) rfl rfl rfl (Nat.le_of_ble_eq_true rfl) rfl ?_
    refine go_if_eq hc 119 dX14_goatGoes_90 rfl (fun c22 => ?_) (fun c22 => ?_)
    · replace h := goIfT h c22
      refine go_aload0 hc dX14_goatGoes_119 ?_
      refine go_iload2 hc dX14_goatGoes_120 ?_
      refine go_aload0 hc dX14_goatGoes_121 ?_
      refine go_getR hc lk_RX14_45 dX14_goatGoes_122 (sh_102 hW) (rf_102_28 hW) ?_
      refine go_iload2 hc dX14_goatGoes_125 ?_
      replace h := goBind h; obtain ⟨x23, e24, h⟩ := h
      refine go_iald hc dX14_goatGoes_126 (sh_113 hW) e24 ?_
      refine go_iload3 hc dX14_goatGoes_127 ?_
      replace h := goBind h; obtain ⟨x25, e26, h⟩ := h
      refine go_callVi hc dX14_goatGoes_128 (mX14_worth hk hW e26) ml_RX14_463 yk_X14_worth ⟨wim_X14_worth, wse_X14_worth⟩ hR rfl (sh_102 hW) rfl rfl rfl (Nat.le_of_ble_eq_true rfl) rfl ?_
      refine go_istore6 hc dX14_goatGoes_131 ?_
      refine go_iload6 hc dX14_goatGoes_133 ?_
      refine go_if_ne hc 139 dX14_goatGoes_135 rfl (fun c27 => ?_) (fun c27 => ?_)
      · replace h := goIfF h c27
        refine go_iload5 hc dX14_goatGoes_139 ?_
        refine go_iconst (v := (-1)) hc dX14_goatGoes_141 rfl ?_
        refine go_icmp_eq hc 165 dX14_goatGoes_142 rfl (fun c28 => ?_) (fun c28 => ?_)
        · replace h := goIfT h c28
          refine go_iload6 hc dX14_goatGoes_165 ?_
          refine go_bipush (v := 9) hc dX14_goatGoes_167 rfl ?_
          refine go_icmp_ge hc 179 dX14_goatGoes_169 rfl (fun c29 => ?_) (fun c29 => ?_)
          · replace h := goIfF h c29
            refine go_iload5 hc dX14_goatGoes_179 ?_
            refine go_iconst (v := (-1)) hc dX14_goatGoes_181 rfl ?_
            refine go_icmp_eq hc 206 dX14_goatGoes_182 rfl (fun c30 => ?_) (fun c30 => ?_)
            · replace h := goIfT h c30
              cases h
              exact go_vret hc dX14_goatGoes_206 hr
            · replace h := goIfF h c30
              refine go_aload0 hc dX14_goatGoes_185 ?_
              refine go_iload2 hc dX14_goatGoes_186 ?_
              refine go_iload5 hc dX14_goatGoes_187 ?_
              refine go_iload3 hc dX14_goatGoes_189 ?_
              replace h := goBind h; obtain ⟨x31, e32, h⟩ := h
              refine go_callVi hc dX14_goatGoes_190 (mX14_worth hk hW e32) ml_RX14_463 yk_X14_worth ⟨wim_X14_worth, wse_X14_worth⟩ hR rfl (sh_102 hW) rfl rfl rfl (Nat.le_of_ble_eq_true rfl) rfl ?_
              refine go_bipush (v := 9) hc dX14_goatGoes_193 rfl ?_
              refine go_icmp_ge hc 206 dX14_goatGoes_195 rfl (fun c33 => ?_) (fun c33 => ?_)
              · replace h := goIfF h c33
                cases h
                exact go_vret hc dX14_goatGoes_206 hr
              · replace h := goIfT h c33
                refine go_aload0 hc dX14_goatGoes_198 ?_
                refine go_getR hc lk_RX14_45 dX14_goatGoes_199 (sh_102 hW) (rf_102_28 hW) ?_
                refine go_iload2 hc dX14_goatGoes_202 ?_
                refine go_iload5 hc dX14_goatGoes_203 ?_
                replace h := goBind h; obtain ⟨M34, e35, h⟩ := h
                refine go_iast hc dX14_goatGoes_205 (sh_113 hW) e35 ?_
                cases h
                exact go_vret hc dX14_goatGoes_206 hr
          · replace h := goIfT h c29
            refine go_aload0 hc dX14_goatGoes_172 ?_
            refine go_iload2 hc dX14_goatGoes_173 ?_
            refine go_iload3 hc dX14_goatGoes_174 ?_
            replace h := goBind h; obtain ⟨M36, e37, h⟩ := h
            refine go_callVv hc dX14_goatGoes_175 (mX14_eats hk hW e37) ml_RX14_469 yk_X14_eats ⟨wim_X14_eats, wse_X14_eats⟩ hR rfl (sh_102 hW) rfl rfl rfl (Nat.le_of_ble_eq_true rfl) rfl ?_
            cases h
            exact go_vret hc dX14_goatGoes_178 hr
        · replace h := goIfF h c28
          refine go_aload0 hc dX14_goatGoes_145 ?_
          refine go_iload2 hc dX14_goatGoes_146 ?_
          refine go_iload5 hc dX14_goatGoes_147 ?_
          refine go_iload3 hc dX14_goatGoes_149 ?_
          replace h := goBind h; obtain ⟨x38, e39, h⟩ := h
          refine go_callVi hc dX14_goatGoes_150 (mX14_worth hk hW e39) ml_RX14_463 yk_X14_worth ⟨wim_X14_worth, wse_X14_worth⟩ hR rfl (sh_102 hW) rfl rfl rfl (Nat.le_of_ble_eq_true rfl) rfl ?_
          refine go_if_ne hc 165 dX14_goatGoes_153 rfl (fun c40 => ?_) (fun c40 => ?_)
          · replace h := goIfF h c40
            refine go_iload6 hc dX14_goatGoes_165 ?_
            refine go_bipush (v := 9) hc dX14_goatGoes_167 rfl ?_
            refine go_icmp_ge hc 179 dX14_goatGoes_169 rfl (fun c41 => ?_) (fun c41 => ?_)
            · replace h := goIfF h c41
              refine go_iload5 hc dX14_goatGoes_179 ?_
              refine go_iconst (v := (-1)) hc dX14_goatGoes_181 rfl ?_
              refine go_icmp_eq hc 206 dX14_goatGoes_182 rfl (fun c42 => ?_) (fun c42 => ?_)
              · replace h := goIfT h c42
                cases h
                exact go_vret hc dX14_goatGoes_206 hr
              · replace h := goIfF h c42
                refine go_aload0 hc dX14_goatGoes_185 ?_
                refine go_iload2 hc dX14_goatGoes_186 ?_
                refine go_iload5 hc dX14_goatGoes_187 ?_
                refine go_iload3 hc dX14_goatGoes_189 ?_
                replace h := goBind h; obtain ⟨x43, e44, h⟩ := h
                refine go_callVi hc dX14_goatGoes_190 (mX14_worth hk hW e44) ml_RX14_463 yk_X14_worth ⟨wim_X14_worth, wse_X14_worth⟩ hR rfl (sh_102 hW) rfl rfl rfl (Nat.le_of_ble_eq_true rfl) rfl ?_
                refine go_bipush (v := 9) hc dX14_goatGoes_193 rfl ?_
                refine go_icmp_ge hc 206 dX14_goatGoes_195 rfl (fun c45 => ?_) (fun c45 => ?_)
                · replace h := goIfF h c45
                  cases h
                  exact go_vret hc dX14_goatGoes_206 hr
                · replace h := goIfT h c45
                  refine go_aload0 hc dX14_goatGoes_198 ?_
                  refine go_getR hc lk_RX14_45 dX14_goatGoes_199 (sh_102 hW) (rf_102_28 hW) ?_
                  refine go_iload2 hc dX14_goatGoes_202 ?_
                  refine go_iload5 hc dX14_goatGoes_203 ?_
                  replace h := goBind h; obtain ⟨M46, e47, h⟩ := h
                  refine go_iast hc dX14_goatGoes_205 (sh_113 hW) e47 ?_
                  cases h
                  exact go_vret hc dX14_goatGoes_206 hr
            · replace h := goIfT h c41
              refine go_aload0 hc dX14_goatGoes_172 ?_
              refine go_iload2 hc dX14_goatGoes_173 ?_
              refine go_iload3 hc dX14_goatGoes_174 ?_
              replace h := goBind h; obtain ⟨M48, e49, h⟩ := h
              refine go_callVv hc dX14_goatGoes_175 (mX14_eats hk hW e49) ml_RX14_469 yk_X14_eats ⟨wim_X14_eats, wse_X14_eats⟩ hR rfl (sh_102 hW) rfl rfl rfl (Nat.le_of_ble_eq_true rfl) rfl ?_
              cases h
              exact go_vret hc dX14_goatGoes_178 hr
          · replace h := goIfT h c40
            refine go_aload0 hc dX14_goatGoes_156 ?_
            refine go_getR hc lk_RX14_45 dX14_goatGoes_157 (sh_102 hW) (rf_102_28 hW) ?_
            refine go_iload2 hc dX14_goatGoes_160 ?_
            refine go_iload5 hc dX14_goatGoes_161 ?_
            replace h := goBind h; obtain ⟨M50, e51, h⟩ := h
            refine go_iast hc dX14_goatGoes_163 (sh_113 hW) e51 ?_
            cases h
            exact go_vret hc dX14_goatGoes_164 hr
      · replace h := goIfT h c27
        cases h
        exact go_vret hc dX14_goatGoes_138 hr
    · replace h := goIfF h c22
      refine go_iload5 hc dX14_goatGoes_93 ?_
      refine go_iconst (v := (-1)) hc dX14_goatGoes_95 rfl ?_
      refine go_icmp_ne hc 100 dX14_goatGoes_96 rfl (fun c52 => ?_) (fun c52 => ?_)
      · replace h := goIfF h c52
        refine go_aload0 hc dX14_goatGoes_100 ?_
        refine go_getR hc lk_RX14_45 dX14_goatGoes_101 (sh_102 hW) (rf_102_28 hW) ?_
        refine go_iload2 hc dX14_goatGoes_104 ?_
        refine go_iload5 hc dX14_goatGoes_105 ?_
        replace h := goBind h; obtain ⟨M53, e54, h⟩ := h
        refine go_iast hc dX14_goatGoes_107 (sh_113 hW) e54 ?_
        refine go_aload0 hc dX14_goatGoes_108 ?_
        refine go_getR hc lk_RX14_42 dX14_goatGoes_109 (sh_102 hW) (rf_102_27 hW) ?_
        refine go_iload2 hc dX14_goatGoes_112 ?_
        refine go_dup2 hc dX14_goatGoes_113 ?_
        replace h := goBind h; obtain ⟨x55, e56, h⟩ := h
        refine go_iald hc dX14_goatGoes_114 (sh_112 hW) e56 ?_
        refine go_iconst (v := 1) hc dX14_goatGoes_115 rfl ?_
        refine go_iadd hc dX14_goatGoes_116 ?_
        replace h := goBind h; obtain ⟨M57, e58, h⟩ := h
        refine go_iast hc dX14_goatGoes_117 (sh_112 hW) e58 ?_
        cases h
        exact go_vret hc dX14_goatGoes_118 hr
      · replace h := goIfT h c52
        cases h
        exact go_vret hc dX14_goatGoes_99 hr
  · replace h := goIfF h c15
    refine go_aload0 hc dX14_goatGoes_18 ?_
    refine go_getR hc lk_RX14_45 dX14_goatGoes_19 (sh_102 hW) (rf_102_28 hW) ?_
    refine go_iload4 hc dX14_goatGoes_22 ?_
    replace h := goBind h; obtain ⟨x59, e60, h⟩ := h
    refine go_iald hc dX14_goatGoes_24 (sh_113 hW) e60 ?_
    refine go_aload0 hc dX14_goatGoes_25 ?_
    refine go_getR hc lk_RX14_45 dX14_goatGoes_26 (sh_102 hW) (rf_102_28 hW) ?_
    refine go_iload2 hc dX14_goatGoes_29 ?_
    replace h := goBind h; obtain ⟨x61, e62, h⟩ := h
    refine go_iald hc dX14_goatGoes_30 (sh_113 hW) e62 ?_
    refine go_icmp_eq hc 68 dX14_goatGoes_31 rfl (fun c63 => ?_) (fun c63 => ?_)
    · replace h := goIfT h c63
      refine go_aload0 hc dX14_goatGoes_68 ?_
      refine go_iload1 hc dX14_goatGoes_69 ?_
      refine go_iload2 hc dX14_goatGoes_70 ?_
      refine go_iload3 hc dX14_goatGoes_71 ?_
      replace h := goBind h; obtain ⟨x64, e65, h⟩ := h
      refine go_callVi hc dX14_goatGoes_72 (mX14_bestFor hk hW e65) ml_RX14_466 yk_X14_bestFor ⟨wim_X14_bestFor, wse_X14_bestFor⟩ hR rfl (sh_102 hW) rfl rfl rfl (Nat.le_of_ble_eq_true rfl) rfl ?_
      refine go_istore5 hc dX14_goatGoes_75 ?_
      refine go_aload0 hc dX14_goatGoes_77 ?_
      refine go_iload1 hc dX14_goatGoes_78 ?_
      refine go_iload2 hc dX14_goatGoes_79 ?_
      refine go_aload0 hc dX14_goatGoes_80 ?_
      refine go_getR hc lk_RX14_45 dX14_goatGoes_81 (sh_102 hW) (rf_102_28 hW) ?_
      refine go_iload2 hc dX14_goatGoes_84 ?_
      replace h := goBind h; obtain ⟨x66, e67, h⟩ := h
      refine go_iald hc dX14_goatGoes_85 (sh_113 hW) e67 ?_
      refine go_iload3 hc dX14_goatGoes_86 ?_
      replace h := goBind h; obtain ⟨x68, e69, h⟩ := h
      refine go_callVi hc dX14_goatGoes_87 (mX14_fears hk hW e69) ml_RX14_460 yk_X14_fears ⟨wim_X14_fears, wse_X14_fears⟩ hR rfl (sh_102 hW) rfl rfl rfl (Nat.le_of_ble_eq_true rfl) rfl ?_
      refine go_if_eq hc 119 dX14_goatGoes_90 rfl (fun c70 => ?_) (fun c70 => ?_)
      · replace h := goIfT h c70
        refine go_aload0 hc dX14_goatGoes_119 ?_
        refine go_iload2 hc dX14_goatGoes_120 ?_
        refine go_aload0 hc dX14_goatGoes_121 ?_
        refine go_getR hc lk_RX14_45 dX14_goatGoes_122 (sh_102 hW) (rf_102_28 hW) ?_
        refine go_iload2 hc dX14_goatGoes_125 ?_
        replace h := goBind h; obtain ⟨x71, e72, h⟩ := h
        refine go_iald hc dX14_goatGoes_126 (sh_113 hW) e72 ?_
        refine go_iload3 hc dX14_goatGoes_127 ?_
        replace h := goBind h; obtain ⟨x73, e74, h⟩ := h
        refine go_callVi hc dX14_goatGoes_128 (mX14_worth hk hW e74) ml_RX14_463 yk_X14_worth ⟨wim_X14_worth, wse_X14_worth⟩ hR rfl (sh_102 hW) rfl rfl rfl (Nat.le_of_ble_eq_true rfl) rfl ?_
        refine go_istore6 hc dX14_goatGoes_131 ?_
        refine go_iload6 hc dX14_goatGoes_133 ?_
        refine go_if_ne hc 139 dX14_goatGoes_135 rfl (fun c75 => ?_) (fun c75 => ?_)
        · replace h := goIfF h c75
          refine go_iload5 hc dX14_goatGoes_139 ?_
          refine go_iconst (v := (-1)) hc dX14_goatGoes_141 rfl ?_
          refine go_icmp_eq hc 165 dX14_goatGoes_142 rfl (fun c76 => ?_) (fun c76 => ?_)
          · replace h := goIfT h c76
            refine go_iload6 hc dX14_goatGoes_165 ?_
            refine go_bipush (v := 9) hc dX14_goatGoes_167 rfl ?_
            refine go_icmp_ge hc 179 dX14_goatGoes_169 rfl (fun c77 => ?_) (fun c77 => ?_)
            · replace h := goIfF h c77
              refine go_iload5 hc dX14_goatGoes_179 ?_
              refine go_iconst (v := (-1)) hc dX14_goatGoes_181 rfl ?_
              refine go_icmp_eq hc 206 dX14_goatGoes_182 rfl (fun c78 => ?_) (fun c78 => ?_)
              · replace h := goIfT h c78
                cases h
                exact go_vret hc dX14_goatGoes_206 hr
              · replace h := goIfF h c78
                refine go_aload0 hc dX14_goatGoes_185 ?_
                refine go_iload2 hc dX14_goatGoes_186 ?_
                refine go_iload5 hc dX14_goatGoes_187 ?_
                refine go_iload3 hc dX14_goatGoes_189 ?_
                replace h := goBind h; obtain ⟨x79, e80, h⟩ := h
                refine go_callVi hc dX14_goatGoes_190 (mX14_worth hk hW e80) ml_RX14_463 yk_X14_worth ⟨wim_X14_worth, wse_X14_worth⟩ hR rfl (sh_102 hW) rfl rfl rfl (Nat.le_of_ble_eq_true rfl) rfl ?_
                refine go_bipush (v := 9) hc dX14_goatGoes_193 rfl ?_
                refine go_icmp_ge hc 206 dX14_goatGoes_195 rfl (fun c81 => ?_) (fun c81 => ?_)
                · replace h := goIfF h c81
                  cases h
                  exact go_vret hc dX14_goatGoes_206 hr
                · replace h := goIfT h c81
                  refine go_aload0 hc dX14_goatGoes_198 ?_
                  refine go_getR hc lk_RX14_45 dX14_goatGoes_199 (sh_102 hW) (rf_102_28 hW) ?_
                  refine go_iload2 hc dX14_goatGoes_202 ?_
                  refine go_iload5 hc dX14_goatGoes_203 ?_
                  replace h := goBind h; obtain ⟨M82, e83, h⟩ := h
                  refine go_iast hc dX14_goatGoes_205 (sh_113 hW) e83 ?_
                  cases h
                  exact go_vret hc dX14_goatGoes_206 hr
            · replace h := goIfT h c77
              refine go_aload0 hc dX14_goatGoes_172 ?_
              refine go_iload2 hc dX14_goatGoes_173 ?_
              refine go_iload3 hc dX14_goatGoes_174 ?_
              replace h := goBind h; obtain ⟨M84, e85, h⟩ := h
              refine go_callVv hc dX14_goatGoes_175 (mX14_eats hk hW e85) ml_RX14_469 yk_X14_eats ⟨wim_X14_eats, wse_X14_eats⟩ hR rfl (sh_102 hW) rfl rfl rfl (Nat.le_of_ble_eq_true rfl) rfl ?_
              cases h
              exact go_vret hc dX14_goatGoes_178 hr
          · replace h := goIfF h c76
            refine go_aload0 hc dX14_goatGoes_145 ?_
            refine go_iload2 hc dX14_goatGoes_146 ?_
            refine go_iload5 hc dX14_goatGoes_147 ?_
            refine go_iload3 hc dX14_goatGoes_149 ?_
            replace h := goBind h; obtain ⟨x86, e87, h⟩ := h
            refine go_callVi hc dX14_goatGoes_150 (mX14_worth hk hW e87) ml_RX14_463 yk_X14_worth ⟨wim_X14_worth, wse_X14_worth⟩ hR rfl (sh_102 hW) rfl rfl rfl (Nat.le_of_ble_eq_true rfl) rfl ?_
            refine go_if_ne hc 165 dX14_goatGoes_153 rfl (fun c88 => ?_) (fun c88 => ?_)
            · replace h := goIfF h c88
              refine go_iload6 hc dX14_goatGoes_165 ?_
              refine go_bipush (v := 9) hc dX14_goatGoes_167 rfl ?_
              refine go_icmp_ge hc 179 dX14_goatGoes_169 rfl (fun c89 => ?_) (fun c89 => ?_)
              · replace h := goIfF h c89
                refine go_iload5 hc dX14_goatGoes_179 ?_
                refine go_iconst (v := (-1)) hc dX14_goatGoes_181 rfl ?_
                refine go_icmp_eq hc 206 dX14_goatGoes_182 rfl (fun c90 => ?_) (fun c90 => ?_)
                · replace h := goIfT h c90
                  cases h
                  exact go_vret hc dX14_goatGoes_206 hr
                · replace h := goIfF h c90
                  refine go_aload0 hc dX14_goatGoes_185 ?_
                  refine go_iload2 hc dX14_goatGoes_186 ?_
                  refine go_iload5 hc dX14_goatGoes_187 ?_
                  refine go_iload3 hc dX14_goatGoes_189 ?_
                  replace h := goBind h; obtain ⟨x91, e92, h⟩ := h
                  refine go_callVi hc dX14_goatGoes_190 (mX14_worth hk hW e92) ml_RX14_463 yk_X14_worth ⟨wim_X14_worth, wse_X14_worth⟩ hR rfl (sh_102 hW) rfl rfl rfl (Nat.le_of_ble_eq_true rfl) rfl ?_
                  refine go_bipush (v := 9) hc dX14_goatGoes_193 rfl ?_
                  refine go_icmp_ge hc 206 dX14_goatGoes_195 rfl (fun c93 => ?_) (fun c93 => ?_)
                  · replace h := goIfF h c93
                    cases h
                    exact go_vret hc dX14_goatGoes_206 hr
                  · replace h := goIfT h c93
                    refine go_aload0 hc dX14_goatGoes_198 ?_
                    refine go_getR hc lk_RX14_45 dX14_goatGoes_199 (sh_102 hW) (rf_102_28 hW) ?_
                    refine go_iload2 hc dX14_goatGoes_202 ?_
                    refine go_iload5 hc dX14_goatGoes_203 ?_
                    replace h := goBind h; obtain ⟨M94, e95, h⟩ := h
                    refine go_iast hc dX14_goatGoes_205 (sh_113 hW) e95 ?_
                    cases h
                    exact go_vret hc dX14_goatGoes_206 hr
              · replace h := goIfT h c89
                refine go_aload0 hc dX14_goatGoes_172 ?_
                refine go_iload2 hc dX14_goatGoes_173 ?_
                refine go_iload3 hc dX14_goatGoes_174 ?_
                replace h := goBind h; obtain ⟨M96, e97, h⟩ := h
                refine go_callVv hc dX14_goatGoes_175 (mX14_eats hk hW e97) ml_RX14_469 yk_X14_eats ⟨wim_X14_eats, wse_X14_eats⟩ hR rfl (sh_102 hW) rfl rfl rfl (Nat.le_of_ble_eq_true rfl) rfl ?_
                cases h
                exact go_vret hc dX14_goatGoes_178 hr
            · replace h := goIfT h c88
              refine go_aload0 hc dX14_goatGoes_156 ?_
              refine go_getR hc lk_RX14_45 dX14_goatGoes_157 (sh_102 hW) (rf_102_28 hW) ?_
              refine go_iload2 hc dX14_goatGoes_160 ?_
              refine go_iload5 hc dX14_goatGoes_161 ?_
              replace h := goBind h; obtain ⟨M98, e99, h⟩ := h
              refine go_iast hc dX14_goatGoes_163 (sh_113 hW) e99 ?_
              cases h
              exact go_vret hc dX14_goatGoes_164 hr
        · replace h := goIfT h c75
          cases h
          exact go_vret hc dX14_goatGoes_138 hr
      · replace h := goIfF h c70
        refine go_iload5 hc dX14_goatGoes_93 ?_
        refine go_iconst (v := (-1)) hc dX14_goatGoes_95 rfl ?_
        refine go_icmp_ne hc 100 dX14_goatGoes_96 rfl (fun c100 => ?_) (fun c100 => ?_)
        · replace h := goIfF h c100
          refine go_aload0 hc dX14_goatGoes_100 ?_
          refine go_getR hc lk_RX14_45 dX14_goatGoes_101 (sh_102 hW) (rf_102_28 hW) ?_
          refine go_iload2 hc dX14_goatGoes_104 ?_
          refine go_iload5 hc dX14_goatGoes_105 ?_
          replace h := goBind h; obtain ⟨M101, e102, h⟩ := h
          refine go_iast hc dX14_goatGoes_107 (sh_113 hW) e102 ?_
          refine go_aload0 hc dX14_goatGoes_108 ?_
          refine go_getR hc lk_RX14_42 dX14_goatGoes_109 (sh_102 hW) (rf_102_27 hW) ?_
          refine go_iload2 hc dX14_goatGoes_112 ?_
          refine go_dup2 hc dX14_goatGoes_113 ?_
          replace h := goBind h; obtain ⟨x103, e104, h⟩ := h
          refine go_iald hc dX14_goatGoes_114 (sh_112 hW) e104 ?_
          refine go_iconst (v := 1) hc dX14_goatGoes_115 rfl ?_
          refine go_iadd hc dX14_goatGoes_116 ?_
          replace h := goBind h; obtain ⟨M105, e106, h⟩ := h
          refine go_iast hc dX14_goatGoes_117 (sh_112 hW) e106 ?_
          cases h
          exact go_vret hc dX14_goatGoes_118 hr
        · replace h := goIfT h c100
          cases h
          exact go_vret hc dX14_goatGoes_99 hr
    · replace h := goIfF h c63
      refine go_aload0 hc dX14_goatGoes_34 ?_
      refine go_aload0 hc dX14_goatGoes_35 ?_
      refine go_getR hc lk_RX14_45 dX14_goatGoes_36 (sh_102 hW) (rf_102_28 hW) ?_
      refine go_iload2 hc dX14_goatGoes_39 ?_
      replace h := goBind h; obtain ⟨x107, e108, h⟩ := h
      refine go_iald hc dX14_goatGoes_40 (sh_113 hW) e108 ?_
      refine go_aload0 hc dX14_goatGoes_41 ?_
      refine go_getR hc lk_RX14_45 dX14_goatGoes_42 (sh_102 hW) (rf_102_28 hW) ?_
      refine go_iload4 hc dX14_goatGoes_45 ?_
      replace h := goBind h; obtain ⟨x109, e110, h⟩ := h
      refine go_iald hc dX14_goatGoes_47 (sh_113 hW) e110 ?_
      replace h := goBind h; obtain ⟨x111, e112, h⟩ := h
      refine go_callVi hc dX14_goatGoes_48 (mX14_isOpen hk hW e112) ml_RX14_457 yk_X14_isOpen ⟨wim_X14_isOpen, wse_X14_isOpen⟩ hR rfl (sh_102 hW) rfl rfl rfl (Nat.le_of_ble_eq_true rfl) rfl ?_
      refine go_if_eq hc 68 dX14_goatGoes_51 rfl (fun c113 => ?_) (fun c113 => ?_)
      · replace h := goIfT h c113
        refine go_aload0 hc dX14_goatGoes_68 ?_
        refine go_iload1 hc dX14_goatGoes_69 ?_
        refine go_iload2 hc dX14_goatGoes_70 ?_
        refine go_iload3 hc dX14_goatGoes_71 ?_
        replace h := goBind h; obtain ⟨x114, e115, h⟩ := h
        refine go_callVi hc dX14_goatGoes_72 (mX14_bestFor hk hW e115) ml_RX14_466 yk_X14_bestFor ⟨wim_X14_bestFor, wse_X14_bestFor⟩ hR rfl (sh_102 hW) rfl rfl rfl (Nat.le_of_ble_eq_true rfl) rfl ?_
        refine go_istore5 hc dX14_goatGoes_75 ?_
        refine go_aload0 hc dX14_goatGoes_77 ?_
        refine go_iload1 hc dX14_goatGoes_78 ?_
        refine go_iload2 hc dX14_goatGoes_79 ?_
        refine go_aload0 hc dX14_goatGoes_80 ?_
        refine go_getR hc lk_RX14_45 dX14_goatGoes_81 (sh_102 hW) (rf_102_28 hW) ?_
        refine go_iload2 hc dX14_goatGoes_84 ?_
        replace h := goBind h; obtain ⟨x116, e117, h⟩ := h
        refine go_iald hc dX14_goatGoes_85 (sh_113 hW) e117 ?_
        refine go_iload3 hc dX14_goatGoes_86 ?_
        replace h := goBind h; obtain ⟨x118, e119, h⟩ := h
        refine go_callVi hc dX14_goatGoes_87 (mX14_fears hk hW e119) ml_RX14_460 yk_X14_fears ⟨wim_X14_fears, wse_X14_fears⟩ hR rfl (sh_102 hW) rfl rfl rfl (Nat.le_of_ble_eq_true rfl) rfl ?_
        refine go_if_eq hc 119 dX14_goatGoes_90 rfl (fun c120 => ?_) (fun c120 => ?_)
        · replace h := goIfT h c120
          refine go_aload0 hc dX14_goatGoes_119 ?_
          refine go_iload2 hc dX14_goatGoes_120 ?_
          refine go_aload0 hc dX14_goatGoes_121 ?_
          refine go_getR hc lk_RX14_45 dX14_goatGoes_122 (sh_102 hW) (rf_102_28 hW) ?_
          refine go_iload2 hc dX14_goatGoes_125 ?_
          replace h := goBind h; obtain ⟨x121, e122, h⟩ := h
          refine go_iald hc dX14_goatGoes_126 (sh_113 hW) e122 ?_
          refine go_iload3 hc dX14_goatGoes_127 ?_
          replace h := goBind h; obtain ⟨x123, e124, h⟩ := h
          refine go_callVi hc dX14_goatGoes_128 (mX14_worth hk hW e124) ml_RX14_463 yk_X14_worth ⟨wim_X14_worth, wse_X14_worth⟩ hR rfl (sh_102 hW) rfl rfl rfl (Nat.le_of_ble_eq_true rfl) rfl ?_
          refine go_istore6 hc dX14_goatGoes_131 ?_
          refine go_iload6 hc dX14_goatGoes_133 ?_
          refine go_if_ne hc 139 dX14_goatGoes_135 rfl (fun c125 => ?_) (fun c125 => ?_)
          · replace h := goIfF h c125
            refine go_iload5 hc dX14_goatGoes_139 ?_
            refine go_iconst (v := (-1)) hc dX14_goatGoes_141 rfl ?_
            refine go_icmp_eq hc 165 dX14_goatGoes_142 rfl (fun c126 => ?_) (fun c126 => ?_)
            · replace h := goIfT h c126
              refine go_iload6 hc dX14_goatGoes_165 ?_
              refine go_bipush (v := 9) hc dX14_goatGoes_167 rfl ?_
              refine go_icmp_ge hc 179 dX14_goatGoes_169 rfl (fun c127 => ?_) (fun c127 => ?_)
              · replace h := goIfF h c127
                refine go_iload5 hc dX14_goatGoes_179 ?_
                refine go_iconst (v := (-1)) hc dX14_goatGoes_181 rfl ?_
                refine go_icmp_eq hc 206 dX14_goatGoes_182 rfl (fun c128 => ?_) (fun c128 => ?_)
                · replace h := goIfT h c128
                  cases h
                  exact go_vret hc dX14_goatGoes_206 hr
                · replace h := goIfF h c128
                  refine go_aload0 hc dX14_goatGoes_185 ?_
                  refine go_iload2 hc dX14_goatGoes_186 ?_
                  refine go_iload5 hc dX14_goatGoes_187 ?_
                  refine go_iload3 hc dX14_goatGoes_189 ?_
                  replace h := goBind h; obtain ⟨x129, e130, h⟩ := h
                  refine go_callVi hc dX14_goatGoes_190 (mX14_worth hk hW e130) ml_RX14_463 yk_X14_worth ⟨wim_X14_worth, wse_X14_worth⟩ hR rfl (sh_102 hW) rfl rfl rfl (Nat.le_of_ble_eq_true rfl) rfl ?_
                  refine go_bipush (v := 9) hc dX14_goatGoes_193 rfl ?_
                  refine go_icmp_ge hc 206 dX14_goatGoes_195 rfl (fun c131 => ?_) (fun c131 => ?_)
                  · replace h := goIfF h c131
                    cases h
                    exact go_vret hc dX14_goatGoes_206 hr
                  · replace h := goIfT h c131
                    refine go_aload0 hc dX14_goatGoes_198 ?_
                    refine go_getR hc lk_RX14_45 dX14_goatGoes_199 (sh_102 hW) (rf_102_28 hW) ?_
                    refine go_iload2 hc dX14_goatGoes_202 ?_
                    refine go_iload5 hc dX14_goatGoes_203 ?_
                    replace h := goBind h; obtain ⟨M132, e133, h⟩ := h
                    refine go_iast hc dX14_goatGoes_205 (sh_113 hW) e133 ?_
                    cases h
                    exact go_vret hc dX14_goatGoes_206 hr
              · replace h := goIfT h c127
                refine go_aload0 hc dX14_goatGoes_172 ?_
                refine go_iload2 hc dX14_goatGoes_173 ?_
                refine go_iload3 hc dX14_goatGoes_174 ?_
                replace h := goBind h; obtain ⟨M134, e135, h⟩ := h
                refine go_callVv hc dX14_goatGoes_175 (mX14_eats hk hW e135) ml_RX14_469 yk_X14_eats ⟨wim_X14_eats, wse_X14_eats⟩ hR rfl (sh_102 hW) rfl rfl rfl (Nat.le_of_ble_eq_true rfl) rfl ?_
                cases h
                exact go_vret hc dX14_goatGoes_178 hr
            · replace h := goIfF h c126
              refine go_aload0 hc dX14_goatGoes_145 ?_
              refine go_iload2 hc dX14_goatGoes_146 ?_
              refine go_iload5 hc dX14_goatGoes_147 ?_
              refine go_iload3 hc dX14_goatGoes_149 ?_
              replace h := goBind h; obtain ⟨x136, e137, h⟩ := h
              refine go_callVi hc dX14_goatGoes_150 (mX14_worth hk hW e137) ml_RX14_463 yk_X14_worth ⟨wim_X14_worth, wse_X14_worth⟩ hR rfl (sh_102 hW) rfl rfl rfl (Nat.le_of_ble_eq_true rfl) rfl ?_
              refine go_if_ne hc 165 dX14_goatGoes_153 rfl (fun c138 => ?_) (fun c138 => ?_)
              · replace h := goIfF h c138
                refine go_iload6 hc dX14_goatGoes_165 ?_
                refine go_bipush (v := 9) hc dX14_goatGoes_167 rfl ?_
                refine go_icmp_ge hc 179 dX14_goatGoes_169 rfl (fun c139 => ?_) (fun c139 => ?_)
                · replace h := goIfF h c139
                  refine go_iload5 hc dX14_goatGoes_179 ?_
                  refine go_iconst (v := (-1)) hc dX14_goatGoes_181 rfl ?_
                  refine go_icmp_eq hc 206 dX14_goatGoes_182 rfl (fun c140 => ?_) (fun c140 => ?_)
                  · replace h := goIfT h c140
                    cases h
                    exact go_vret hc dX14_goatGoes_206 hr
                  · replace h := goIfF h c140
                    refine go_aload0 hc dX14_goatGoes_185 ?_
                    refine go_iload2 hc dX14_goatGoes_186 ?_
                    refine go_iload5 hc dX14_goatGoes_187 ?_
                    refine go_iload3 hc dX14_goatGoes_189 ?_
                    replace h := goBind h; obtain ⟨x141, e142, h⟩ := h
                    refine go_callVi hc dX14_goatGoes_190 (mX14_worth hk hW e142) ml_RX14_463 yk_X14_worth ⟨wim_X14_worth, wse_X14_worth⟩ hR rfl (sh_102 hW) rfl rfl rfl (Nat.le_of_ble_eq_true rfl) rfl ?_
                    refine go_bipush (v := 9) hc dX14_goatGoes_193 rfl ?_
                    refine go_icmp_ge hc 206 dX14_goatGoes_195 rfl (fun c143 => ?_) (fun c143 => ?_)
                    · replace h := goIfF h c143
                      cases h
                      exact go_vret hc dX14_goatGoes_206 hr
                    · replace h := goIfT h c143
                      refine go_aload0 hc dX14_goatGoes_198 ?_
                      refine go_getR hc lk_RX14_45 dX14_goatGoes_199 (sh_102 hW) (rf_102_28 hW) ?_
                      refine go_iload2 hc dX14_goatGoes_202 ?_
                      refine go_iload5 hc dX14_goatGoes_203 ?_
                      replace h := goBind h; obtain ⟨M144, e145, h⟩ := h
                      refine go_iast hc dX14_goatGoes_205 (sh_113 hW) e145 ?_
                      cases h
                      exact go_vret hc dX14_goatGoes_206 hr
                · replace h := goIfT h c139
                  refine go_aload0 hc dX14_goatGoes_172 ?_
                  refine go_iload2 hc dX14_goatGoes_173 ?_
                  refine go_iload3 hc dX14_goatGoes_174 ?_
                  replace h := goBind h; obtain ⟨M146, e147, h⟩ := h
                  refine go_callVv hc dX14_goatGoes_175 (mX14_eats hk hW e147) ml_RX14_469 yk_X14_eats ⟨wim_X14_eats, wse_X14_eats⟩ hR rfl (sh_102 hW) rfl rfl rfl (Nat.le_of_ble_eq_true rfl) rfl ?_
                  cases h
                  exact go_vret hc dX14_goatGoes_178 hr
              · replace h := goIfT h c138
                refine go_aload0 hc dX14_goatGoes_156 ?_
                refine go_getR hc lk_RX14_45 dX14_goatGoes_157 (sh_102 hW) (rf_102_28 hW) ?_
                refine go_iload2 hc dX14_goatGoes_160 ?_
                refine go_iload5 hc dX14_goatGoes_161 ?_
                replace h := goBind h; obtain ⟨M148, e149, h⟩ := h
                refine go_iast hc dX14_goatGoes_163 (sh_113 hW) e149 ?_
                cases h
                exact go_vret hc dX14_goatGoes_164 hr
          · replace h := goIfT h c125
            cases h
            exact go_vret hc dX14_goatGoes_138 hr
        · replace h := goIfF h c120
          refine go_iload5 hc dX14_goatGoes_93 ?_
          refine go_iconst (v := (-1)) hc dX14_goatGoes_95 rfl ?_
          refine go_icmp_ne hc 100 dX14_goatGoes_96 rfl (fun c150 => ?_) (fun c150 => ?_)
          · replace h := goIfF h c150
            refine go_aload0 hc dX14_goatGoes_100 ?_
            refine go_getR hc lk_RX14_45 dX14_goatGoes_101 (sh_102 hW) (rf_102_28 hW) ?_
            refine go_iload2 hc dX14_goatGoes_104 ?_
            refine go_iload5 hc dX14_goatGoes_105 ?_
            replace h := goBind h; obtain ⟨M151, e152, h⟩ := h
            refine go_iast hc dX14_goatGoes_107 (sh_113 hW) e152 ?_
            refine go_aload0 hc dX14_goatGoes_108 ?_
            refine go_getR hc lk_RX14_42 dX14_goatGoes_109 (sh_102 hW) (rf_102_27 hW) ?_
            refine go_iload2 hc dX14_goatGoes_112 ?_
            refine go_dup2 hc dX14_goatGoes_113 ?_
            replace h := goBind h; obtain ⟨x153, e154, h⟩ := h
            refine go_iald hc dX14_goatGoes_114 (sh_112 hW) e154 ?_
            refine go_iconst (v := 1) hc dX14_goatGoes_115 rfl ?_
            refine go_iadd hc dX14_goatGoes_116 ?_
            replace h := goBind h; obtain ⟨M155, e156, h⟩ := h
            refine go_iast hc dX14_goatGoes_117 (sh_112 hW) e156 ?_
            cases h
            exact go_vret hc dX14_goatGoes_118 hr
          · replace h := goIfT h c150
            cases h
            exact go_vret hc dX14_goatGoes_99 hr
      · replace h := goIfF h c113
        refine go_aload0 hc dX14_goatGoes_54 ?_
        refine go_getR hc lk_RX14_45 dX14_goatGoes_55 (sh_102 hW) (rf_102_28 hW) ?_
        refine go_iload2 hc dX14_goatGoes_58 ?_
        refine go_aload0 hc dX14_goatGoes_59 ?_
        refine go_getR hc lk_RX14_45 dX14_goatGoes_60 (sh_102 hW) (rf_102_28 hW) ?_
        refine go_iload4 hc dX14_goatGoes_63 ?_
        replace h := goBind h; obtain ⟨x157, e158, h⟩ := h
        refine go_iald hc dX14_goatGoes_65 (sh_113 hW) e158 ?_
        replace h := goBind h; obtain ⟨M159, e160, h⟩ := h
        refine go_iast hc dX14_goatGoes_66 (sh_113 hW) e160 ?_
        cases h
        exact go_vret hc dX14_goatGoes_67 hr
theorem dX14_day_0 : decode cX14_day 0 = .ok (.iconst 0, 1) := by decide +kernel
theorem dX14_day_1 : decode cX14_day 1 = .ok (.istore_n 2, 1) := by decide +kernel
theorem dX14_day_2 : decode cX14_day 2 = .ok (.iload_n 2, 1) := by decide +kernel
theorem dX14_day_3 : decode cX14_day 3 = .ok (.bipush 32, 2) := by decide +kernel
theorem dX14_day_5 : decode cX14_day 5 = .ok (.if_icmp .ge 24, 3) := by decide +kernel
theorem dX14_day_8 : decode cX14_day 8 = .ok (.aload_n 0, 1) := by decide +kernel
theorem dX14_day_9 : decode cX14_day 9 = .ok (.getfield 39, 3) := by decide +kernel
theorem dX14_day_12 : decode cX14_day 12 = .ok (.iload_n 2, 1) := by decide +kernel
theorem dX14_day_13 : decode cX14_day 13 = .ok (.aload_n 0, 1) := by decide +kernel
theorem dX14_day_14 : decode cX14_day 14 = .ok (.getfield 442, 3) := by decide +kernel
theorem dX14_day_17 : decode cX14_day 17 = .ok (.getfield 296, 3) := by decide +kernel
theorem dX14_day_20 : decode cX14_day 20 = .ok (.iload_n 2, 1) := by decide +kernel
theorem dX14_day_21 : decode cX14_day 21 = .ok (.iaload, 1) := by decide +kernel
theorem dX14_day_22 : decode cX14_day 22 = .ok (.iastore, 1) := by decide +kernel
theorem dX14_day_23 : decode cX14_day 23 = .ok (.iinc 2 1, 3) := by decide +kernel
theorem dX14_day_26 : decode cX14_day 26 = .ok (.goto (-24), 3) := by decide +kernel
theorem dX14_day_29 : decode cX14_day 29 = .ok (.iconst 0, 1) := by decide +kernel
theorem dX14_day_30 : decode cX14_day 30 = .ok (.istore_n 2, 1) := by decide +kernel
theorem dX14_day_31 : decode cX14_day 31 = .ok (.iload_n 2, 1) := by decide +kernel
theorem dX14_day_32 : decode cX14_day 32 = .ok (.bipush 6, 2) := by decide +kernel
theorem dX14_day_34 : decode cX14_day 34 = .ok (.if_icmp .ge 57, 3) := by decide +kernel
theorem dX14_day_37 : decode cX14_day 37 = .ok (.aload_n 0, 1) := by decide +kernel
theorem dX14_day_38 : decode cX14_day 38 = .ok (.getfield 42, 3) := by decide +kernel
theorem dX14_day_41 : decode cX14_day 41 = .ok (.iload_n 2, 1) := by decide +kernel
theorem dX14_day_42 : decode cX14_day 42 = .ok (.iconst 0, 1) := by decide +kernel
theorem dX14_day_43 : decode cX14_day 43 = .ok (.iastore, 1) := by decide +kernel
theorem dX14_day_44 : decode cX14_day 44 = .ok (.aload_n 0, 1) := by decide +kernel
theorem dX14_day_45 : decode cX14_day 45 = .ok (.getfield 45, 3) := by decide +kernel
theorem dX14_day_48 : decode cX14_day 48 = .ok (.iload_n 2, 1) := by decide +kernel
theorem dX14_day_49 : decode cX14_day 49 = .ok (.aload_n 0, 1) := by decide +kernel
theorem dX14_day_50 : decode cX14_day 50 = .ok (.getfield 442, 3) := by decide +kernel
theorem dX14_day_53 : decode cX14_day 53 = .ok (.getfield 356, 3) := by decide +kernel
theorem dX14_day_56 : decode cX14_day 56 = .ok (.iload_n 2, 1) := by decide +kernel
theorem dX14_day_57 : decode cX14_day 57 = .ok (.iaload, 1) := by decide +kernel
theorem dX14_day_58 : decode cX14_day 58 = .ok (.iastore, 1) := by decide +kernel
theorem dX14_day_59 : decode cX14_day 59 = .ok (.iconst 0, 1) := by decide +kernel
theorem dX14_day_60 : decode cX14_day 60 = .ok (.istore_n 3, 1) := by decide +kernel
theorem dX14_day_61 : decode cX14_day 61 = .ok (.iload_n 3, 1) := by decide +kernel
theorem dX14_day_62 : decode cX14_day 62 = .ok (.bipush 12, 2) := by decide +kernel
theorem dX14_day_64 : decode cX14_day 64 = .ok (.if_icmp .ge 21, 3) := by decide +kernel
theorem dX14_day_67 : decode cX14_day 67 = .ok (.aload_n 0, 1) := by decide +kernel
theorem dX14_day_68 : decode cX14_day 68 = .ok (.getfield 36, 3) := by decide +kernel
theorem dX14_day_71 : decode cX14_day 71 = .ok (.bipush 12, 2) := by decide +kernel
theorem dX14_day_73 : decode cX14_day 73 = .ok (.iload_n 2, 1) := by decide +kernel
theorem dX14_day_74 : decode cX14_day 74 = .ok (.imul, 1) := by decide +kernel
theorem dX14_day_75 : decode cX14_day 75 = .ok (.iload_n 3, 1) := by decide +kernel
theorem dX14_day_76 : decode cX14_day 76 = .ok (.iadd, 1) := by decide +kernel
theorem dX14_day_77 : decode cX14_day 77 = .ok (.iconst 0, 1) := by decide +kernel
theorem dX14_day_78 : decode cX14_day 78 = .ok (.iastore, 1) := by decide +kernel
theorem dX14_day_79 : decode cX14_day 79 = .ok (.iinc 3 1, 3) := by decide +kernel
theorem dX14_day_82 : decode cX14_day 82 = .ok (.goto (-21), 3) := by decide +kernel
theorem dX14_day_85 : decode cX14_day 85 = .ok (.iinc 2 1, 3) := by decide +kernel
theorem dX14_day_88 : decode cX14_day 88 = .ok (.goto (-57), 3) := by decide +kernel
theorem dX14_day_91 : decode cX14_day 91 = .ok (.iconst 0, 1) := by decide +kernel
theorem dX14_day_92 : decode cX14_day 92 = .ok (.istore_n 2, 1) := by decide +kernel
theorem dX14_day_93 : decode cX14_day 93 = .ok (.iload_n 2, 1) := by decide +kernel
theorem dX14_day_94 : decode cX14_day 94 = .ok (.aload_n 0, 1) := by decide +kernel
theorem dX14_day_95 : decode cX14_day 95 = .ok (.getfield 442, 3) := by decide +kernel
theorem dX14_day_98 : decode cX14_day 98 = .ok (.getfield 196, 3) := by decide +kernel
theorem dX14_day_101 : decode cX14_day 101 = .ok (.if_icmp .ge 52, 3) := by decide +kernel
theorem dX14_day_104 : decode cX14_day 104 = .ok (.iconst 0, 1) := by decide +kernel
theorem dX14_day_105 : decode cX14_day 105 = .ok (.istore_n 3, 1) := by decide +kernel
theorem dX14_day_106 : decode cX14_day 106 = .ok (.iload_n 3, 1) := by decide +kernel
theorem dX14_day_107 : decode cX14_day 107 = .ok (.aload_n 0, 1) := by decide +kernel
theorem dX14_day_108 : decode cX14_day 108 = .ok (.getfield 442, 3) := by decide +kernel
theorem dX14_day_111 : decode cX14_day 111 = .ok (.getfield 328, 3) := by decide +kernel
theorem dX14_day_114 : decode cX14_day 114 = .ok (.if_icmp .ge 33, 3) := by decide +kernel
theorem dX14_day_117 : decode cX14_day 117 = .ok (.aload_n 0, 1) := by decide +kernel
theorem dX14_day_118 : decode cX14_day 118 = .ok (.iload_n 1, 1) := by decide +kernel
theorem dX14_day_119 : decode cX14_day 119 = .ok (.iload_n 3, 1) := by decide +kernel
theorem dX14_day_120 : decode cX14_day 120 = .ok (.iload_n 2, 1) := by decide +kernel
theorem dX14_day_121 : decode cX14_day 121 = .ok (.invokevirtual 475, 3) := by decide +kernel
theorem dX14_day_124 : decode cX14_day 124 = .ok (.aload_n 0, 1) := by decide +kernel
theorem dX14_day_125 : decode cX14_day 125 = .ok (.getfield 30, 3) := by decide +kernel
theorem dX14_day_128 : decode cX14_day 128 = .ok (.bipush 12, 2) := by decide +kernel
theorem dX14_day_130 : decode cX14_day 130 = .ok (.iload_n 3, 1) := by decide +kernel
theorem dX14_day_131 : decode cX14_day 131 = .ok (.imul, 1) := by decide +kernel
theorem dX14_day_132 : decode cX14_day 132 = .ok (.iload_n 2, 1) := by decide +kernel
theorem dX14_day_133 : decode cX14_day 133 = .ok (.iadd, 1) := by decide +kernel
theorem dX14_day_134 : decode cX14_day 134 = .ok (.aload_n 0, 1) := by decide +kernel
theorem dX14_day_135 : decode cX14_day 135 = .ok (.getfield 45, 3) := by decide +kernel
theorem dX14_day_138 : decode cX14_day 138 = .ok (.iload_n 3, 1) := by decide +kernel
theorem dX14_day_139 : decode cX14_day 139 = .ok (.iaload, 1) := by decide +kernel
theorem dX14_day_140 : decode cX14_day 140 = .ok (.iastore, 1) := by decide +kernel
theorem dX14_day_141 : decode cX14_day 141 = .ok (.iinc 3 1, 3) := by decide +kernel
theorem dX14_day_144 : decode cX14_day 144 = .ok (.goto (-38), 3) := by decide +kernel
theorem dX14_day_147 : decode cX14_day 147 = .ok (.iinc 2 1, 3) := by decide +kernel
theorem dX14_day_150 : decode cX14_day 150 = .ok (.goto (-57), 3) := by decide +kernel
theorem dX14_day_153 : decode cX14_day 153 = .ok (.return_, 1) := by decide +kernel
set_option maxRecDepth 100000 in
set_option maxHeartbeats 4000000 in
theorem mX14_day_L2 {E : goEv} {X : goX} {G : goG} {Q : State → Prop} {L : goML} {R : goMR} {v1 : Int32} (hc : goCx E X cX14_day RX14 4) (hk : goKn E) (hR : X.2.2.2.1 = goRoom 5 123 0 0) (hr : X.2.2.2.2.2.2.2.2.1.sig.returnType = none) (hW : goW G R) : ∀ (n : Nat) (v2 : Int32) (M : goMI) (r0 : goMI), lX14_day_2 R n v2 M = some r0 → (∀ (d2 d3 : Option Value), goA E X G 0 0 Q 29 [some (.ref 102), some (.int v1), d2, d3] [] r0 L R) → ∀ (d3 : Option Value), goA E X G 0 0 Q 2 [some (.ref 102), some (.int v1), some (.int v2), d3] [] M L R := by
  intro n
  induction n with
  | zero => intro v2 M r0 h; exact nomatch h
  | succ n ih =>
    intro v2 M r0 h kx d3
    rw [lX14_day_2] at h
    refine go_iload2 hc dX14_day_2 ?_
    refine go_bipush (v := 32) hc dX14_day_3 rfl ?_
    refine go_icmp_ge hc 29 dX14_day_5 rfl (fun c11 => ?_) (fun c11 => ?_)
    · replace h := goIfF h c11
      cases h
      exact kx _ _
    · replace h := goIfT h c11
      refine go_aload0 hc dX14_day_8 ?_
      refine go_getR hc lk_RX14_39 dX14_day_9 (sh_102 hW) (rf_102_26 hW) ?_
      refine go_iload2 hc dX14_day_12 ?_
      refine go_aload0 hc dX14_day_13 ?_
      replace h := goBind h; obtain ⟨b12, e13, h⟩ := h
      refine go_getR hc lk_RX14_442 dX14_day_14 (sh_102 hW) e13 ?_
      refine go_getR hc lk_RX14_296 dX14_day_17 (shM_0 (goW_M3 hW e13)) (rfM_16 (goW_M3 hW e13)) ?_
      refine go_iload2 hc dX14_day_20 ?_
      replace h := goBind h; obtain ⟨x14, e15, h⟩ := h
      refine go_iald hc dX14_day_21 (shM_1 (goW_M3 hW e13)) e15 ?_
      replace h := goBind h; obtain ⟨M16, e17, h⟩ := h
      refine go_iast hc dX14_day_22 (sh_111 hW) e17 ?_
      refine go_iinc2 (v := (v2 + 1)) hc dX14_day_23 rfl ?_
      refine go_goto hc 2 dX14_day_26 rfl ?_
      exact ih _ _ _ h kx _
set_option maxRecDepth 100000 in
set_option maxHeartbeats 4000000 in
theorem mX14_day_L61 {E : goEv} {X : goX} {G : goG} {Q : State → Prop} {L : goML} {R : goMR} {v2 : Int32} {v1 : Int32} (hc : goCx E X cX14_day RX14 4) (hk : goKn E) (hR : X.2.2.2.1 = goRoom 5 123 0 0) (hr : X.2.2.2.2.2.2.2.2.1.sig.returnType = none) (hW : goW G R) : ∀ (n : Nat) (v3 : Int32) (M : goMI) (r0 : goMI), lX14_day_61 v2 n v3 M = some r0 → (∀ (d3 : Option Value), goA E X G 0 0 Q 85 [some (.ref 102), some (.int v1), some (.int v2), d3] [] r0 L R) → goA E X G 0 0 Q 61 [some (.ref 102), some (.int v1), some (.int v2), some (.int v3)] [] M L R := by
  intro n
  induction n with
  | zero => intro v3 M r0 h; exact nomatch h
  | succ n ih =>
    intro v3 M r0 h kx
    rw [lX14_day_61] at h
    refine go_iload3 hc dX14_day_61 ?_
    refine go_bipush (v := 12) hc dX14_day_62 rfl ?_
    refine go_icmp_ge hc 85 dX14_day_64 rfl (fun c29 => ?_) (fun c29 => ?_)
    · replace h := goIfF h c29
      cases h
      exact kx _
    · replace h := goIfT h c29
      refine go_aload0 hc dX14_day_67 ?_
      refine go_getR hc lk_RX14_36 dX14_day_68 (sh_102 hW) (rf_102_25 hW) ?_
      refine go_bipush (v := 12) hc dX14_day_71 rfl ?_
      refine go_iload2 hc dX14_day_73 ?_
      refine go_imul hc dX14_day_74 ?_
      refine go_iload3 hc dX14_day_75 ?_
      refine go_iadd hc dX14_day_76 ?_
      refine go_iconst (v := 0) hc dX14_day_77 rfl ?_
      replace h := goBind h; obtain ⟨M30, e31, h⟩ := h
      refine go_iast hc dX14_day_78 (sh_110 hW) e31 ?_
      refine go_iinc3 (v := (v3 + 1)) hc dX14_day_79 rfl ?_
      refine go_goto hc 61 dX14_day_82 rfl ?_
      exact ih _ _ _ h kx
set_option maxRecDepth 100000 in
set_option maxHeartbeats 4000000 in
theorem mX14_day_L31 {E : goEv} {X : goX} {G : goG} {Q : State → Prop} {L : goML} {R : goMR} {N : Nat} {v1 : Int32} (hc : goCx E X cX14_day RX14 4) (hk : goKn E) (hR : X.2.2.2.1 = goRoom 5 123 0 0) (hr : X.2.2.2.2.2.2.2.2.1.sig.returnType = none) (hW : goW G R) : ∀ (n : Nat) (v2 : Int32) (M : goMI) (r0 : goMI), lX14_day_31 N R n v2 M = some r0 → (∀ (d2 d3 : Option Value), goA E X G 0 0 Q 91 [some (.ref 102), some (.int v1), d2, d3] [] r0 L R) → ∀ (d3 : Option Value), goA E X G 0 0 Q 31 [some (.ref 102), some (.int v1), some (.int v2), d3] [] M L R := by
  intro n
  induction n with
  | zero => intro v2 M r0 h; exact nomatch h
  | succ n ih =>
    intro v2 M r0 h kx d3
    rw [lX14_day_31] at h
    refine go_iload2 hc dX14_day_31 ?_
    refine go_bipush (v := 6) hc dX14_day_32 rfl ?_
    refine go_icmp_ge hc 91 dX14_day_34 rfl (fun c20 => ?_) (fun c20 => ?_)
    · replace h := goIfF h c20
      cases h
      exact kx _ _
    · replace h := goIfT h c20
      refine go_aload0 hc dX14_day_37 ?_
      refine go_getR hc lk_RX14_42 dX14_day_38 (sh_102 hW) (rf_102_27 hW) ?_
      refine go_iload2 hc dX14_day_41 ?_
      refine go_iconst (v := 0) hc dX14_day_42 rfl ?_
      replace h := goBind h; obtain ⟨M21, e22, h⟩ := h
      refine go_iast hc dX14_day_43 (sh_112 hW) e22 ?_
      refine go_aload0 hc dX14_day_44 ?_
      refine go_getR hc lk_RX14_45 dX14_day_45 (sh_102 hW) (rf_102_28 hW) ?_
      refine go_iload2 hc dX14_day_48 ?_
      refine go_aload0 hc dX14_day_49 ?_
      replace h := goBind h; obtain ⟨b23, e24, h⟩ := h
      refine go_getR hc lk_RX14_442 dX14_day_50 (sh_102 hW) e24 ?_
      refine go_getR hc lk_RX14_356 dX14_day_53 (shM_0 (goW_M3 hW e24)) (rfM_25 (goW_M3 hW e24)) ?_
      refine go_iload2 hc dX14_day_56 ?_
      replace h := goBind h; obtain ⟨x25, e26, h⟩ := h
      refine go_iald hc dX14_day_57 (shM_10 (goW_M3 hW e24)) e26 ?_
      replace h := goBind h; obtain ⟨M27, e28, h⟩ := h
      refine go_iast hc dX14_day_58 (sh_113 hW) e28 ?_
      refine go_iconst (v := 0) hc dX14_day_59 rfl ?_
      refine go_istore3 hc dX14_day_60 ?_
      replace h := goBind h; obtain ⟨M33, e32, h⟩ := h
      refine mX14_day_L61 hc hk hR hr hW _ _ _ _ e32 (fun d3 => ?_)
      refine go_iinc2 (v := (v2 + 1)) hc dX14_day_85 rfl ?_
      refine go_goto hc 31 dX14_day_88 rfl ?_
      exact ih _ _ _ h kx _
set_option maxRecDepth 100000 in
set_option maxHeartbeats 4000000 in
theorem mX14_day_L106 {E : goEv} {X : goX} {G : goG} {Q : State → Prop} {L : goML} {R : goMR} {N : Nat} {v1 : Int32} {v2 : Int32} (hc : goCx E X cX14_day RX14 4) (hk : goKn E) (hR : X.2.2.2.1 = goRoom 5 123 0 0) (hr : X.2.2.2.2.2.2.2.2.1.sig.returnType = none) (hW : goW G R) : ∀ (n : Nat) (v3 : Int32) (M : goMI) (r0 : goMI), lX14_day_106 N v1 v2 R n v3 M = some r0 → (∀ (d3 : Option Value), goA E X G 0 0 Q 147 [some (.ref 102), some (.int v1), some (.int v2), d3] [] r0 L R) → goA E X G 0 0 Q 106 [some (.ref 102), some (.int v1), some (.int v2), some (.int v3)] [] M L R := by
  intro n
  induction n with
  | zero => intro v3 M r0 h; exact nomatch h
  | succ n ih =>
    intro v3 M r0 h kx
    rw [lX14_day_106] at h
    refine go_iload3 hc dX14_day_106 ?_
    refine go_aload0 hc dX14_day_107 ?_
    replace h := goBind h; obtain ⟨b39, e40, h⟩ := h
    refine go_getR hc lk_RX14_442 dX14_day_108 (sh_102 hW) e40 ?_
    refine go_getI hc lk_RX14_328 dX14_day_111 (shM_0 (goW_M3 hW e40)) ?_
    refine go_icmp_ge hc 147 dX14_day_114 rfl (fun c41 => ?_) (fun c41 => ?_)
    · replace h := goIfF h c41
      cases h
      exact kx _
    · replace h := goIfT h c41
      refine go_aload0 hc dX14_day_117 ?_
      refine go_iload1 hc dX14_day_118 ?_
      refine go_iload3 hc dX14_day_119 ?_
      refine go_iload2 hc dX14_day_120 ?_
      replace h := goBind h; obtain ⟨M42, e43, h⟩ := h
      refine go_callVv hc dX14_day_121 (mX14_goatGoes hk hW e43) ml_RX14_475 yk_X14_goatGoes ⟨wim_X14_goatGoes, wse_X14_goatGoes⟩ hR rfl (sh_102 hW) rfl rfl rfl (Nat.le_of_ble_eq_true rfl) rfl ?_
      refine go_aload0 hc dX14_day_124 ?_
      refine go_getR hc lk_RX14_30 dX14_day_125 (sh_102 hW) (rf_102_23 hW) ?_
      refine go_bipush (v := 12) hc dX14_day_128 rfl ?_
      refine go_iload3 hc dX14_day_130 ?_
      refine go_imul hc dX14_day_131 ?_
      refine go_iload2 hc dX14_day_132 ?_
      refine go_iadd hc dX14_day_133 ?_
      refine go_aload0 hc dX14_day_134 ?_
      refine go_getR hc lk_RX14_45 dX14_day_135 (sh_102 hW) (rf_102_28 hW) ?_
      refine go_iload3 hc dX14_day_138 ?_
      replace h := goBind h; obtain ⟨x44, e45, h⟩ := h
      refine go_iald hc dX14_day_139 (sh_113 hW) e45 ?_
      replace h := goBind h; obtain ⟨M46, e47, h⟩ := h
      refine go_iast hc dX14_day_140 (sh_108 hW) e47 ?_
      refine go_iinc3 (v := (v3 + 1)) hc dX14_day_141 rfl ?_
      refine go_goto hc 106 dX14_day_144 rfl ?_
      exact ih _ _ _ h kx
set_option maxRecDepth 100000 in
set_option maxHeartbeats 4000000 in
theorem mX14_day_L93 {E : goEv} {X : goX} {G : goG} {Q : State → Prop} {L : goML} {R : goMR} {N : Nat} {v1 : Int32} (hc : goCx E X cX14_day RX14 4) (hk : goKn E) (hR : X.2.2.2.1 = goRoom 5 123 0 0) (hr : X.2.2.2.2.2.2.2.2.1.sig.returnType = none) (hW : goW G R) : ∀ (n : Nat) (v2 : Int32) (M : goMI) (r0 : goMI), lX14_day_93 N v1 R n v2 M = some r0 → (∀ (d0 d1 d2 d3 : Option Value), goA E X G 0 0 Q 153 [d0, d1, d2, d3] [] r0 L R) → ∀ (d3 : Option Value), goA E X G 0 0 Q 93 [some (.ref 102), some (.int v1), some (.int v2), d3] [] M L R := by
  intro n
  induction n with
  | zero => intro v2 M r0 h; exact nomatch h
  | succ n ih =>
    intro v2 M r0 h kx d3
    rw [lX14_day_93] at h
    refine go_iload2 hc dX14_day_93 ?_
    refine go_aload0 hc dX14_day_94 ?_
    replace h := goBind h; obtain ⟨b36, e37, h⟩ := h
    refine go_getR hc lk_RX14_442 dX14_day_95 (sh_102 hW) e37 ?_
    refine go_getI hc lk_RX14_196 dX14_day_98 (shM_0 (goW_M3 hW e37)) ?_
    refine go_icmp_ge hc 153 dX14_day_101 rfl (fun c38 => ?_) (fun c38 => ?_)
    · replace h := goIfF h c38
      cases h
      exact kx _ _ _ _
    · replace h := goIfT h c38
      refine go_iconst (v := 0) hc dX14_day_104 rfl ?_
      refine go_istore3 hc dX14_day_105 ?_
      replace h := goBind h; obtain ⟨M49, e48, h⟩ := h
      refine mX14_day_L106 hc hk hR hr hW _ _ _ _ e48 (fun d3 => ?_)
      refine go_iinc2 (v := (v2 + 1)) hc dX14_day_147 rfl ?_
      refine go_goto hc 93 dX14_day_150 rfl ?_
      exact ih _ _ _ h kx _
set_option maxRecDepth 100000 in
set_option maxHeartbeats 4000000 in
theorem mX14_day {E : goEv} {l : Launch} {G : goG} {N : Nat} {M : goMI} {L : goML} {R : goMR} {v1 : Int32} {r0 : goMI} (hk : goKn E) (hW : goW G R) (h : fX14_day N M R v1 = some r0) : Met l yX14_day (goCd yX14_day cX14_day 4 none) (goRoom 5 123 0 0) (goPre E [.ref 102, .int v1] G M L R) (goQv E G r0 L R) 0 0 (goSet E) := by
  refine goMet pl_RX14 hk (lv := [some (.ref 102), some (.int v1), none, none]) rfl (Nat.le_of_ble_eq_true rfl) ?_
  intro X hc hl hR hr hnm
  subst hl
  unfold fX14_day at h
  refine go_iconst (v := 0) hc dX14_day_0 rfl ?_
  refine go_istore2 hc dX14_day_1 ?_
  replace h := goBind h; obtain ⟨M19, e18, h⟩ := h
  refine mX14_day_L2 hc hk hR hr hW _ _ _ _ e18 (fun d2 d3 => ?_) _
  refine go_iconst (v := 0) hc dX14_day_29 rfl ?_
  refine go_istore2 hc dX14_day_30 ?_
  replace h := goBind h; obtain ⟨M35, e34, h⟩ := h
  refine mX14_day_L31 hc hk hR hr hW _ _ _ _ e34 (fun d2 d3 => ?_) _
  refine go_iconst (v := 0) hc dX14_day_91 rfl ?_
  refine go_istore2 hc dX14_day_92 ?_
  replace h := goBind h; obtain ⟨M51, e50, h⟩ := h
  refine mX14_day_L93 hc hk hR hr hW _ _ _ _ e50 (fun d0 d1 d2 d3 => ?_) _
  cases h
  exact go_vret hc dX14_day_153 hr
theorem dX14_dropped_0 : decode cX14_dropped 0 = .ok (.iconst 0, 1) := by decide +kernel
theorem dX14_dropped_1 : decode cX14_dropped 1 = .ok (.istore 4, 2) := by decide +kernel
theorem dX14_dropped_3 : decode cX14_dropped 3 = .ok (.iconst 0, 1) := by decide +kernel
theorem dX14_dropped_4 : decode cX14_dropped 4 = .ok (.istore 5, 2) := by decide +kernel
theorem dX14_dropped_6 : decode cX14_dropped 6 = .ok (.iload 5, 2) := by decide +kernel
theorem dX14_dropped_8 : decode cX14_dropped 8 = .ok (.iconst 2, 1) := by decide +kernel
theorem dX14_dropped_9 : decode cX14_dropped 9 = .ok (.iadd, 1) := by decide +kernel
theorem dX14_dropped_10 : decode cX14_dropped 10 = .ok (.aload_n 0, 1) := by decide +kernel
theorem dX14_dropped_11 : decode cX14_dropped 11 = .ok (.getfield 442, 3) := by decide +kernel
theorem dX14_dropped_14 : decode cX14_dropped 14 = .ok (.getfield 196, 3) := by decide +kernel
theorem dX14_dropped_17 : decode cX14_dropped 17 = .ok (.if_icmp .ge 79, 3) := by decide +kernel
theorem dX14_dropped_20 : decode cX14_dropped 20 = .ok (.iload 4, 2) := by decide +kernel
theorem dX14_dropped_22 : decode cX14_dropped 22 = .ok (.aload_n 0, 1) := by decide +kernel
theorem dX14_dropped_23 : decode cX14_dropped 23 = .ok (.getfield 36, 3) := by decide +kernel
theorem dX14_dropped_26 : decode cX14_dropped 26 = .ok (.bipush 12, 2) := by decide +kernel
theorem dX14_dropped_28 : decode cX14_dropped 28 = .ok (.iload_n 1, 1) := by decide +kernel
theorem dX14_dropped_29 : decode cX14_dropped 29 = .ok (.imul, 1) := by decide +kernel
theorem dX14_dropped_30 : decode cX14_dropped 30 = .ok (.iload 5, 2) := by decide +kernel
theorem dX14_dropped_32 : decode cX14_dropped 32 = .ok (.iadd, 1) := by decide +kernel
theorem dX14_dropped_33 : decode cX14_dropped 33 = .ok (.iaload, 1) := by decide +kernel
theorem dX14_dropped_34 : decode cX14_dropped 34 = .ok (.ifCond .le 52, 3) := by decide +kernel
theorem dX14_dropped_37 : decode cX14_dropped 37 = .ok (.aload_n 0, 1) := by decide +kernel
theorem dX14_dropped_38 : decode cX14_dropped 38 = .ok (.getfield 33, 3) := by decide +kernel
theorem dX14_dropped_41 : decode cX14_dropped 41 = .ok (.bipush 12, 2) := by decide +kernel
theorem dX14_dropped_43 : decode cX14_dropped 43 = .ok (.iload_n 1, 1) := by decide +kernel
theorem dX14_dropped_44 : decode cX14_dropped 44 = .ok (.imul, 1) := by decide +kernel
theorem dX14_dropped_45 : decode cX14_dropped 45 = .ok (.iload 5, 2) := by decide +kernel
theorem dX14_dropped_47 : decode cX14_dropped 47 = .ok (.iadd, 1) := by decide +kernel
theorem dX14_dropped_48 : decode cX14_dropped 48 = .ok (.iaload, 1) := by decide +kernel
theorem dX14_dropped_49 : decode cX14_dropped 49 = .ok (.iload_n 2, 1) := by decide +kernel
theorem dX14_dropped_50 : decode cX14_dropped 50 = .ok (.if_icmp .ne 36, 3) := by decide +kernel
theorem dX14_dropped_53 : decode cX14_dropped 53 = .ok (.aload_n 0, 1) := by decide +kernel
theorem dX14_dropped_54 : decode cX14_dropped 54 = .ok (.getfield 30, 3) := by decide +kernel
theorem dX14_dropped_57 : decode cX14_dropped 57 = .ok (.bipush 12, 2) := by decide +kernel
theorem dX14_dropped_59 : decode cX14_dropped 59 = .ok (.iload_n 1, 1) := by decide +kernel
theorem dX14_dropped_60 : decode cX14_dropped 60 = .ok (.imul, 1) := by decide +kernel
theorem dX14_dropped_61 : decode cX14_dropped 61 = .ok (.iload 5, 2) := by decide +kernel
theorem dX14_dropped_63 : decode cX14_dropped 63 = .ok (.iadd, 1) := by decide +kernel
theorem dX14_dropped_64 : decode cX14_dropped 64 = .ok (.iconst 2, 1) := by decide +kernel
theorem dX14_dropped_65 : decode cX14_dropped 65 = .ok (.iadd, 1) := by decide +kernel
theorem dX14_dropped_66 : decode cX14_dropped 66 = .ok (.iaload, 1) := by decide +kernel
theorem dX14_dropped_67 : decode cX14_dropped 67 = .ok (.iload_n 3, 1) := by decide +kernel
theorem dX14_dropped_68 : decode cX14_dropped 68 = .ok (.if_icmp .ne 18, 3) := by decide +kernel
theorem dX14_dropped_71 : decode cX14_dropped 71 = .ok (.aload_n 0, 1) := by decide +kernel
theorem dX14_dropped_72 : decode cX14_dropped 72 = .ok (.getfield 36, 3) := by decide +kernel
theorem dX14_dropped_75 : decode cX14_dropped 75 = .ok (.bipush 12, 2) := by decide +kernel
theorem dX14_dropped_77 : decode cX14_dropped 77 = .ok (.iload_n 1, 1) := by decide +kernel
theorem dX14_dropped_78 : decode cX14_dropped 78 = .ok (.imul, 1) := by decide +kernel
theorem dX14_dropped_79 : decode cX14_dropped 79 = .ok (.iload 5, 2) := by decide +kernel
theorem dX14_dropped_81 : decode cX14_dropped 81 = .ok (.iadd, 1) := by decide +kernel
theorem dX14_dropped_82 : decode cX14_dropped 82 = .ok (.iaload, 1) := by decide +kernel
theorem dX14_dropped_83 : decode cX14_dropped 83 = .ok (.goto 4, 3) := by decide +kernel
theorem dX14_dropped_86 : decode cX14_dropped 86 = .ok (.iconst 0, 1) := by decide +kernel
theorem dX14_dropped_87 : decode cX14_dropped 87 = .ok (.iadd, 1) := by decide +kernel
theorem dX14_dropped_88 : decode cX14_dropped 88 = .ok (.istore 4, 2) := by decide +kernel
theorem dX14_dropped_90 : decode cX14_dropped 90 = .ok (.iinc 5 1, 3) := by decide +kernel
theorem dX14_dropped_93 : decode cX14_dropped 93 = .ok (.goto (-87), 3) := by decide +kernel
theorem dX14_dropped_96 : decode cX14_dropped 96 = .ok (.iload 4, 2) := by decide +kernel
theorem dX14_dropped_98 : decode cX14_dropped 98 = .ok (.ireturn, 1) := by decide +kernel
set_option maxRecDepth 100000 in
set_option maxHeartbeats 4000000 in
theorem mX14_dropped_L6 {E : goEv} {X : goX} {G : goG} {Q : State → Prop} {M : goMI} {L : goML} {R : goMR} {v1 : Int32} {v2 : Int32} {v3 : Int32} (hc : goCx E X cX14_dropped RX14 6) (hk : goKn E) (hR : X.2.2.2.1 = goRoom 0 0 0 0) (hr : X.2.2.2.2.2.2.2.2.1.sig.returnType = (Option.some FieldType.int)) (hW : goW G R) : ∀ (n : Nat) (v4 : Int32) (v5 : Int32) (r0 : Int32), lX14_dropped_6 v1 v2 v3 M R n v4 v5 = some r0 → (∀ (d0 d1 d2 d3 d5 : Option Value), goA E X G 0 0 Q 96 [d0, d1, d2, d3, some (.int r0), d5] [] M L R) → goA E X G 0 0 Q 6 [some (.ref 102), some (.int v1), some (.int v2), some (.int v3), some (.int v4), some (.int v5)] [] M L R := by
  intro n
  induction n with
  | zero => intro v4 v5 r0 h; exact nomatch h
  | succ n ih =>
    intro v4 v5 r0 h kx
    rw [lX14_dropped_6] at h
    refine go_iload5 hc dX14_dropped_6 ?_
    refine go_iconst (v := 2) hc dX14_dropped_8 rfl ?_
    refine go_iadd hc dX14_dropped_9 ?_
    refine go_aload0 hc dX14_dropped_10 ?_
    replace h := goBind h; obtain ⟨b11, e12, h⟩ := h
    refine go_getR hc lk_RX14_442 dX14_dropped_11 (sh_102 hW) e12 ?_
    refine go_getI hc lk_RX14_196 dX14_dropped_14 (shM_0 (goW_M3 hW e12)) ?_
    refine go_icmp_ge hc 96 dX14_dropped_17 rfl (fun c13 => ?_) (fun c13 => ?_)
    · replace h := goIfF h c13
      cases h
      exact kx _ _ _ _ _
    · replace h := goIfT h c13
      refine go_iload4 hc dX14_dropped_20 ?_
      refine go_aload0 hc dX14_dropped_22 ?_
      refine go_getR hc lk_RX14_36 dX14_dropped_23 (sh_102 hW) (rf_102_25 hW) ?_
      refine go_bipush (v := 12) hc dX14_dropped_26 rfl ?_
      refine go_iload1 hc dX14_dropped_28 ?_
      refine go_imul hc dX14_dropped_29 ?_
      refine go_iload5 hc dX14_dropped_30 ?_
      refine go_iadd hc dX14_dropped_32 ?_
      replace h := goBind h; obtain ⟨x14, e15, h⟩ := h
      refine go_iald hc dX14_dropped_33 (sh_110 hW) e15 ?_
      replace h := goBind h; obtain ⟨x16, e17, h⟩ := h
      have k18 : ∀ (d4 : Option Value), goA E X G 0 0 Q 87 [some (.ref 102), some (.int v1), some (.int v2), some (.int v3), d4, some (.int v5)] [.int x16, .int v4] M L R := by
        intro d4
        refine go_iadd hc dX14_dropped_87 ?_
        replace h := goNm_x h; obtain ⟨x28, e29, h⟩ := h
        refine go_nmI e29 ?_
        refine go_istore4 hc dX14_dropped_88 ?_
        refine go_iinc5 (v := (v5 + 1)) hc dX14_dropped_90 rfl ?_
        refine go_goto hc 6 dX14_dropped_93 rfl ?_
        exact ih _ _ _ h kx
      refine go_if_le hc 86 dX14_dropped_34 rfl (fun c19 => ?_) (fun c19 => ?_)
      · replace e17 := goIfF e17 c19
        refine go_iconst (v := 0) hc dX14_dropped_86 rfl ?_
        cases e17
        exact k18 _
      · replace e17 := goIfT e17 c19
        refine go_aload0 hc dX14_dropped_37 ?_
        refine go_getR hc lk_RX14_33 dX14_dropped_38 (sh_102 hW) (rf_102_24 hW) ?_
        refine go_bipush (v := 12) hc dX14_dropped_41 rfl ?_
        refine go_iload1 hc dX14_dropped_43 ?_
        refine go_imul hc dX14_dropped_44 ?_
        refine go_iload5 hc dX14_dropped_45 ?_
        refine go_iadd hc dX14_dropped_47 ?_
        replace e17 := goBind e17; obtain ⟨x20, e21, e17⟩ := e17
        refine go_iald hc dX14_dropped_48 (sh_109 hW) e21 ?_
        refine go_iload2 hc dX14_dropped_49 ?_
        refine go_icmp_ne hc 86 dX14_dropped_50 rfl (fun c22 => ?_) (fun c22 => ?_)
        · replace e17 := goIfF e17 c22
          refine go_iconst (v := 0) hc dX14_dropped_86 rfl ?_
          cases e17
          exact k18 _
        · replace e17 := goIfT e17 c22
          refine go_aload0 hc dX14_dropped_53 ?_
          refine go_getR hc lk_RX14_30 dX14_dropped_54 (sh_102 hW) (rf_102_23 hW) ?_
          refine go_bipush (v := 12) hc dX14_dropped_57 rfl ?_
          refine go_iload1 hc dX14_dropped_59 ?_
          refine go_imul hc dX14_dropped_60 ?_
          refine go_iload5 hc dX14_dropped_61 ?_
          refine go_iadd hc dX14_dropped_63 ?_
          refine go_iconst (v := 2) hc dX14_dropped_64 rfl ?_
          refine go_iadd hc dX14_dropped_65 ?_
          replace e17 := goBind e17; obtain ⟨x23, e24, e17⟩ := e17
          refine go_iald hc dX14_dropped_66 (sh_108 hW) e24 ?_
          refine go_iload3 hc dX14_dropped_67 ?_
          refine go_icmp_ne hc 86 dX14_dropped_68 rfl (fun c25 => ?_) (fun c25 => ?_)
          · replace e17 := goIfF e17 c25
            refine go_iconst (v := 0) hc dX14_dropped_86 rfl ?_
            cases e17
            exact k18 _
          · replace e17 := goIfT e17 c25
            refine go_aload0 hc dX14_dropped_71 ?_
            refine go_getR hc lk_RX14_36 dX14_dropped_72 (sh_102 hW) (rf_102_25 hW) ?_
            refine go_bipush (v := 12) hc dX14_dropped_75 rfl ?_
            refine go_iload1 hc dX14_dropped_77 ?_
            refine go_imul hc dX14_dropped_78 ?_
            refine go_iload5 hc dX14_dropped_79 ?_
            refine go_iadd hc dX14_dropped_81 ?_
            replace e17 := goBind e17; obtain ⟨x26, e27, e17⟩ := e17
            refine go_iald hc dX14_dropped_82 (sh_110 hW) e27 ?_
            refine go_goto hc 87 dX14_dropped_83 rfl ?_
            cases e17
            exact k18 _
set_option maxRecDepth 100000 in
set_option maxHeartbeats 4000000 in
theorem mX14_dropped {E : goEv} {l : Launch} {G : goG} {N : Nat} {M : goMI} {L : goML} {R : goMR} {v1 : Int32} {v2 : Int32} {v3 : Int32} {r0 : Int32} (hk : goKn E) (hW : goW G R) (h : fX14_dropped N M R v1 v2 v3 = some r0) : Met l yX14_dropped (goCd yX14_dropped cX14_dropped 6 (Option.some FieldType.int)) (goRoom 0 0 0 0) (goPre E [.ref 102, .int v1, .int v2, .int v3] G M L R) (goQi E r0 G M L R) 0 0 (goSet E) := by
  refine goMet pl_RX14 hk (lv := [some (.ref 102), some (.int v1), some (.int v2), some (.int v3), none, none]) rfl (Nat.le_of_ble_eq_true rfl) ?_
  intro X hc hl hR hr hnm
  subst hl
  unfold fX14_dropped at h
  refine go_iconst (v := 0) hc dX14_dropped_0 rfl ?_
  refine go_istore4 hc dX14_dropped_1 ?_
  refine go_iconst (v := 0) hc dX14_dropped_3 rfl ?_
  refine go_istore5 hc dX14_dropped_4 ?_
  replace h := goBind h; obtain ⟨x31, e30, h⟩ := h
  refine mX14_dropped_L6 hc hk hR hr hW _ _ _ _ e30 (fun d0 d1 d2 d3 d5 => ?_)
  refine go_iload4 hc dX14_dropped_96 ?_
  cases h
  exact go_iret hc dX14_dropped_98 hr
theorem dX14_ateOf_0 : decode cX14_ateOf 0 = .ok (.iconst 0, 1) := by decide +kernel
theorem dX14_ateOf_1 : decode cX14_ateOf 1 = .ok (.istore_n 3, 1) := by decide +kernel
theorem dX14_ateOf_2 : decode cX14_ateOf 2 = .ok (.iconst 0, 1) := by decide +kernel
theorem dX14_ateOf_3 : decode cX14_ateOf 3 = .ok (.istore 4, 2) := by decide +kernel
theorem dX14_ateOf_5 : decode cX14_ateOf 5 = .ok (.iload 4, 2) := by decide +kernel
theorem dX14_ateOf_7 : decode cX14_ateOf 7 = .ok (.aload_n 0, 1) := by decide +kernel
theorem dX14_ateOf_8 : decode cX14_ateOf 8 = .ok (.getfield 442, 3) := by decide +kernel
theorem dX14_ateOf_11 : decode cX14_ateOf 11 = .ok (.getfield 196, 3) := by decide +kernel
theorem dX14_ateOf_14 : decode cX14_ateOf 14 = .ok (.if_icmp .ge 59, 3) := by decide +kernel
theorem dX14_ateOf_17 : decode cX14_ateOf 17 = .ok (.iload_n 3, 1) := by decide +kernel
theorem dX14_ateOf_18 : decode cX14_ateOf 18 = .ok (.aload_n 0, 1) := by decide +kernel
theorem dX14_ateOf_19 : decode cX14_ateOf 19 = .ok (.getfield 36, 3) := by decide +kernel
theorem dX14_ateOf_22 : decode cX14_ateOf 22 = .ok (.bipush 12, 2) := by decide +kernel
theorem dX14_ateOf_24 : decode cX14_ateOf 24 = .ok (.iload_n 1, 1) := by decide +kernel
theorem dX14_ateOf_25 : decode cX14_ateOf 25 = .ok (.imul, 1) := by decide +kernel
theorem dX14_ateOf_26 : decode cX14_ateOf 26 = .ok (.iload 4, 2) := by decide +kernel
theorem dX14_ateOf_28 : decode cX14_ateOf 28 = .ok (.iadd, 1) := by decide +kernel
theorem dX14_ateOf_29 : decode cX14_ateOf 29 = .ok (.iaload, 1) := by decide +kernel
theorem dX14_ateOf_30 : decode cX14_ateOf 30 = .ok (.ifCond .le 34, 3) := by decide +kernel
theorem dX14_ateOf_33 : decode cX14_ateOf 33 = .ok (.aload_n 0, 1) := by decide +kernel
theorem dX14_ateOf_34 : decode cX14_ateOf 34 = .ok (.getfield 33, 3) := by decide +kernel
theorem dX14_ateOf_37 : decode cX14_ateOf 37 = .ok (.bipush 12, 2) := by decide +kernel
theorem dX14_ateOf_39 : decode cX14_ateOf 39 = .ok (.iload_n 1, 1) := by decide +kernel
theorem dX14_ateOf_40 : decode cX14_ateOf 40 = .ok (.imul, 1) := by decide +kernel
theorem dX14_ateOf_41 : decode cX14_ateOf 41 = .ok (.iload 4, 2) := by decide +kernel
theorem dX14_ateOf_43 : decode cX14_ateOf 43 = .ok (.iadd, 1) := by decide +kernel
theorem dX14_ateOf_44 : decode cX14_ateOf 44 = .ok (.iaload, 1) := by decide +kernel
theorem dX14_ateOf_45 : decode cX14_ateOf 45 = .ok (.iload_n 2, 1) := by decide +kernel
theorem dX14_ateOf_46 : decode cX14_ateOf 46 = .ok (.if_icmp .ne 18, 3) := by decide +kernel
theorem dX14_ateOf_49 : decode cX14_ateOf 49 = .ok (.aload_n 0, 1) := by decide +kernel
theorem dX14_ateOf_50 : decode cX14_ateOf 50 = .ok (.getfield 36, 3) := by decide +kernel
theorem dX14_ateOf_53 : decode cX14_ateOf 53 = .ok (.bipush 12, 2) := by decide +kernel
theorem dX14_ateOf_55 : decode cX14_ateOf 55 = .ok (.iload_n 1, 1) := by decide +kernel
theorem dX14_ateOf_56 : decode cX14_ateOf 56 = .ok (.imul, 1) := by decide +kernel
theorem dX14_ateOf_57 : decode cX14_ateOf 57 = .ok (.iload 4, 2) := by decide +kernel
theorem dX14_ateOf_59 : decode cX14_ateOf 59 = .ok (.iadd, 1) := by decide +kernel
theorem dX14_ateOf_60 : decode cX14_ateOf 60 = .ok (.iaload, 1) := by decide +kernel
theorem dX14_ateOf_61 : decode cX14_ateOf 61 = .ok (.goto 4, 3) := by decide +kernel
theorem dX14_ateOf_64 : decode cX14_ateOf 64 = .ok (.iconst 0, 1) := by decide +kernel
theorem dX14_ateOf_65 : decode cX14_ateOf 65 = .ok (.iadd, 1) := by decide +kernel
theorem dX14_ateOf_66 : decode cX14_ateOf 66 = .ok (.istore_n 3, 1) := by decide +kernel
theorem dX14_ateOf_67 : decode cX14_ateOf 67 = .ok (.iinc 4 1, 3) := by decide +kernel
theorem dX14_ateOf_70 : decode cX14_ateOf 70 = .ok (.goto (-65), 3) := by decide +kernel
theorem dX14_ateOf_73 : decode cX14_ateOf 73 = .ok (.iload_n 3, 1) := by decide +kernel
theorem dX14_ateOf_74 : decode cX14_ateOf 74 = .ok (.ireturn, 1) := by decide +kernel
set_option maxRecDepth 100000 in
set_option maxHeartbeats 4000000 in
theorem mX14_ateOf_L5 {E : goEv} {X : goX} {G : goG} {Q : State → Prop} {M : goMI} {L : goML} {R : goMR} {v1 : Int32} {v2 : Int32} (hc : goCx E X cX14_ateOf RX14 5) (hk : goKn E) (hR : X.2.2.2.1 = goRoom 0 0 0 0) (hr : X.2.2.2.2.2.2.2.2.1.sig.returnType = (Option.some FieldType.int)) (hW : goW G R) : ∀ (n : Nat) (v3 : Int32) (v4 : Int32) (r0 : Int32), lX14_ateOf_5 v1 v2 M R n v3 v4 = some r0 → (∀ (d0 d1 d2 d4 : Option Value), goA E X G 0 0 Q 73 [d0, d1, d2, some (.int r0), d4] [] M L R) → goA E X G 0 0 Q 5 [some (.ref 102), some (.int v1), some (.int v2), some (.int v3), some (.int v4)] [] M L R := by
  intro n
  induction n with
  | zero => intro v3 v4 r0 h; exact nomatch h
  | succ n ih =>
    intro v3 v4 r0 h kx
    rw [lX14_ateOf_5] at h
    refine go_iload4 hc dX14_ateOf_5 ?_
    refine go_aload0 hc dX14_ateOf_7 ?_
    replace h := goBind h; obtain ⟨b11, e12, h⟩ := h
    refine go_getR hc lk_RX14_442 dX14_ateOf_8 (sh_102 hW) e12 ?_
    refine go_getI hc lk_RX14_196 dX14_ateOf_11 (shM_0 (goW_M3 hW e12)) ?_
    refine go_icmp_ge hc 73 dX14_ateOf_14 rfl (fun c13 => ?_) (fun c13 => ?_)
    · replace h := goIfF h c13
      cases h
      exact kx _ _ _ _
    · replace h := goIfT h c13
      refine go_iload3 hc dX14_ateOf_17 ?_
      refine go_aload0 hc dX14_ateOf_18 ?_
      refine go_getR hc lk_RX14_36 dX14_ateOf_19 (sh_102 hW) (rf_102_25 hW) ?_
      refine go_bipush (v := 12) hc dX14_ateOf_22 rfl ?_
      refine go_iload1 hc dX14_ateOf_24 ?_
      refine go_imul hc dX14_ateOf_25 ?_
      refine go_iload4 hc dX14_ateOf_26 ?_
      refine go_iadd hc dX14_ateOf_28 ?_
      replace h := goBind h; obtain ⟨x14, e15, h⟩ := h
      refine go_iald hc dX14_ateOf_29 (sh_110 hW) e15 ?_
      replace h := goBind h; obtain ⟨x16, e17, h⟩ := h
      have k18 : ∀ (d3 : Option Value), goA E X G 0 0 Q 65 [some (.ref 102), some (.int v1), some (.int v2), d3, some (.int v4)] [.int x16, .int v3] M L R := by
        intro d3
        refine go_iadd hc dX14_ateOf_65 ?_
        replace h := goNm_x h; obtain ⟨x25, e26, h⟩ := h
        refine go_nmI e26 ?_
        refine go_istore3 hc dX14_ateOf_66 ?_
        refine go_iinc4 (v := (v4 + 1)) hc dX14_ateOf_67 rfl ?_
        refine go_goto hc 5 dX14_ateOf_70 rfl ?_
        exact ih _ _ _ h kx
      refine go_if_le hc 64 dX14_ateOf_30 rfl (fun c19 => ?_) (fun c19 => ?_)
      · replace e17 := goIfF e17 c19
        refine go_iconst (v := 0) hc dX14_ateOf_64 rfl ?_
        cases e17
        exact k18 _
      · replace e17 := goIfT e17 c19
        refine go_aload0 hc dX14_ateOf_33 ?_
        refine go_getR hc lk_RX14_33 dX14_ateOf_34 (sh_102 hW) (rf_102_24 hW) ?_
        refine go_bipush (v := 12) hc dX14_ateOf_37 rfl ?_
        refine go_iload1 hc dX14_ateOf_39 ?_
        refine go_imul hc dX14_ateOf_40 ?_
        refine go_iload4 hc dX14_ateOf_41 ?_
        refine go_iadd hc dX14_ateOf_43 ?_
        replace e17 := goBind e17; obtain ⟨x20, e21, e17⟩ := e17
        refine go_iald hc dX14_ateOf_44 (sh_109 hW) e21 ?_
        refine go_iload2 hc dX14_ateOf_45 ?_
        refine go_icmp_ne hc 64 dX14_ateOf_46 rfl (fun c22 => ?_) (fun c22 => ?_)
        · replace e17 := goIfF e17 c22
          refine go_iconst (v := 0) hc dX14_ateOf_64 rfl ?_
          cases e17
          exact k18 _
        · replace e17 := goIfT e17 c22
          refine go_aload0 hc dX14_ateOf_49 ?_
          refine go_getR hc lk_RX14_36 dX14_ateOf_50 (sh_102 hW) (rf_102_25 hW) ?_
          refine go_bipush (v := 12) hc dX14_ateOf_53 rfl ?_
          refine go_iload1 hc dX14_ateOf_55 ?_
          refine go_imul hc dX14_ateOf_56 ?_
          refine go_iload4 hc dX14_ateOf_57 ?_
          refine go_iadd hc dX14_ateOf_59 ?_
          replace e17 := goBind e17; obtain ⟨x23, e24, e17⟩ := e17
          refine go_iald hc dX14_ateOf_60 (sh_110 hW) e24 ?_
          refine go_goto hc 65 dX14_ateOf_61 rfl ?_
          cases e17
          exact k18 _
set_option maxRecDepth 100000 in
set_option maxHeartbeats 4000000 in
theorem mX14_ateOf {E : goEv} {l : Launch} {G : goG} {N : Nat} {M : goMI} {L : goML} {R : goMR} {v1 : Int32} {v2 : Int32} {r0 : Int32} (hk : goKn E) (hW : goW G R) (h : fX14_ateOf N M R v1 v2 = some r0) : Met l yX14_ateOf (goCd yX14_ateOf cX14_ateOf 5 (Option.some FieldType.int)) (goRoom 0 0 0 0) (goPre E [.ref 102, .int v1, .int v2] G M L R) (goQi E r0 G M L R) 0 0 (goSet E) := by
  refine goMet pl_RX14 hk (lv := [some (.ref 102), some (.int v1), some (.int v2), none, none]) rfl (Nat.le_of_ble_eq_true rfl) ?_
  intro X hc hl hR hr hnm
  subst hl
  unfold fX14_ateOf at h
  refine go_iconst (v := 0) hc dX14_ateOf_0 rfl ?_
  refine go_istore3 hc dX14_ateOf_1 ?_
  refine go_iconst (v := 0) hc dX14_ateOf_2 rfl ?_
  refine go_istore4 hc dX14_ateOf_3 ?_
  replace h := goBind h; obtain ⟨x28, e27, h⟩ := h
  refine mX14_ateOf_L5 hc hk hR hr hW _ _ _ _ e27 (fun d0 d1 d2 d4 => ?_)
  refine go_iload3 hc dX14_ateOf_73 ?_
  cases h
  exact go_iret hc dX14_ateOf_74 hr
theorem dX14_holdsNow_0 : decode cX14_holdsNow 0 = .ok (.aload_n 0, 1) := by decide +kernel
theorem dX14_holdsNow_1 : decode cX14_holdsNow 1 = .ok (.getfield 442, 3) := by decide +kernel
theorem dX14_holdsNow_4 : decode cX14_holdsNow 4 = .ok (.getfield 379, 3) := by decide +kernel
theorem dX14_holdsNow_7 : decode cX14_holdsNow 7 = .ok (.iload_n 1, 1) := by decide +kernel
theorem dX14_holdsNow_8 : decode cX14_holdsNow 8 = .ok (.iaload, 1) := by decide +kernel
theorem dX14_holdsNow_9 : decode cX14_holdsNow 9 = .ok (.istore_n 2, 1) := by decide +kernel
theorem dX14_holdsNow_10 : decode cX14_holdsNow 10 = .ok (.aload_n 0, 1) := by decide +kernel
theorem dX14_holdsNow_11 : decode cX14_holdsNow 11 = .ok (.getfield 442, 3) := by decide +kernel
theorem dX14_holdsNow_14 : decode cX14_holdsNow 14 = .ok (.getfield 376, 3) := by decide +kernel
theorem dX14_holdsNow_17 : decode cX14_holdsNow 17 = .ok (.iload_n 1, 1) := by decide +kernel
theorem dX14_holdsNow_18 : decode cX14_holdsNow 18 = .ok (.iaload, 1) := by decide +kernel
theorem dX14_holdsNow_19 : decode cX14_holdsNow 19 = .ok (.ifCond .ne 35, 3) := by decide +kernel
theorem dX14_holdsNow_22 : decode cX14_holdsNow 22 = .ok (.aload_n 0, 1) := by decide +kernel
theorem dX14_holdsNow_23 : decode cX14_holdsNow 23 = .ok (.iload_n 2, 1) := by decide +kernel
theorem dX14_holdsNow_24 : decode cX14_holdsNow 24 = .ok (.aload_n 0, 1) := by decide +kernel
theorem dX14_holdsNow_25 : decode cX14_holdsNow 25 = .ok (.getfield 442, 3) := by decide +kernel
theorem dX14_holdsNow_28 : decode cX14_holdsNow 28 = .ok (.getfield 385, 3) := by decide +kernel
theorem dX14_holdsNow_31 : decode cX14_holdsNow 31 = .ok (.iload_n 1, 1) := by decide +kernel
theorem dX14_holdsNow_32 : decode cX14_holdsNow 32 = .ok (.iaload, 1) := by decide +kernel
theorem dX14_holdsNow_33 : decode cX14_holdsNow 33 = .ok (.aload_n 0, 1) := by decide +kernel
theorem dX14_holdsNow_34 : decode cX14_holdsNow 34 = .ok (.getfield 442, 3) := by decide +kernel
theorem dX14_holdsNow_37 : decode cX14_holdsNow 37 = .ok (.getfield 382, 3) := by decide +kernel
theorem dX14_holdsNow_40 : decode cX14_holdsNow 40 = .ok (.iload_n 1, 1) := by decide +kernel
theorem dX14_holdsNow_41 : decode cX14_holdsNow 41 = .ok (.iaload, 1) := by decide +kernel
theorem dX14_holdsNow_42 : decode cX14_holdsNow 42 = .ok (.invokevirtual 479, 3) := by decide +kernel
theorem dX14_holdsNow_45 : decode cX14_holdsNow 45 = .ok (.ifCond .le 7, 3) := by decide +kernel
theorem dX14_holdsNow_48 : decode cX14_holdsNow 48 = .ok (.iconst 1, 1) := by decide +kernel
theorem dX14_holdsNow_49 : decode cX14_holdsNow 49 = .ok (.goto 4, 3) := by decide +kernel
theorem dX14_holdsNow_52 : decode cX14_holdsNow 52 = .ok (.iconst 0, 1) := by decide +kernel
theorem dX14_holdsNow_53 : decode cX14_holdsNow 53 = .ok (.ireturn, 1) := by decide +kernel
theorem dX14_holdsNow_54 : decode cX14_holdsNow 54 = .ok (.aload_n 0, 1) := by decide +kernel
theorem dX14_holdsNow_55 : decode cX14_holdsNow 55 = .ok (.getfield 30, 3) := by decide +kernel
theorem dX14_holdsNow_58 : decode cX14_holdsNow 58 = .ok (.bipush 12, 2) := by decide +kernel
theorem dX14_holdsNow_60 : decode cX14_holdsNow 60 = .ok (.iload_n 2, 1) := by decide +kernel
theorem dX14_holdsNow_61 : decode cX14_holdsNow 61 = .ok (.imul, 1) := by decide +kernel
theorem dX14_holdsNow_62 : decode cX14_holdsNow 62 = .ok (.aload_n 0, 1) := by decide +kernel
theorem dX14_holdsNow_63 : decode cX14_holdsNow 63 = .ok (.getfield 442, 3) := by decide +kernel
theorem dX14_holdsNow_66 : decode cX14_holdsNow 66 = .ok (.getfield 385, 3) := by decide +kernel
theorem dX14_holdsNow_69 : decode cX14_holdsNow 69 = .ok (.iload_n 1, 1) := by decide +kernel
theorem dX14_holdsNow_70 : decode cX14_holdsNow 70 = .ok (.iaload, 1) := by decide +kernel
theorem dX14_holdsNow_71 : decode cX14_holdsNow 71 = .ok (.iadd, 1) := by decide +kernel
theorem dX14_holdsNow_72 : decode cX14_holdsNow 72 = .ok (.iaload, 1) := by decide +kernel
theorem dX14_holdsNow_73 : decode cX14_holdsNow 73 = .ok (.aload_n 0, 1) := by decide +kernel
theorem dX14_holdsNow_74 : decode cX14_holdsNow 74 = .ok (.getfield 442, 3) := by decide +kernel
theorem dX14_holdsNow_77 : decode cX14_holdsNow 77 = .ok (.getfield 382, 3) := by decide +kernel
theorem dX14_holdsNow_80 : decode cX14_holdsNow 80 = .ok (.iload_n 1, 1) := by decide +kernel
theorem dX14_holdsNow_81 : decode cX14_holdsNow 81 = .ok (.iaload, 1) := by decide +kernel
theorem dX14_holdsNow_82 : decode cX14_holdsNow 82 = .ok (.if_icmp .ne 7, 3) := by decide +kernel
theorem dX14_holdsNow_85 : decode cX14_holdsNow 85 = .ok (.iconst 1, 1) := by decide +kernel
theorem dX14_holdsNow_86 : decode cX14_holdsNow 86 = .ok (.goto 4, 3) := by decide +kernel
theorem dX14_holdsNow_89 : decode cX14_holdsNow 89 = .ok (.iconst 0, 1) := by decide +kernel
theorem dX14_holdsNow_90 : decode cX14_holdsNow 90 = .ok (.aload_n 0, 1) := by decide +kernel
theorem dX14_holdsNow_91 : decode cX14_holdsNow 91 = .ok (.getfield 442, 3) := by decide +kernel
theorem dX14_holdsNow_94 : decode cX14_holdsNow 94 = .ok (.getfield 376, 3) := by decide +kernel
theorem dX14_holdsNow_97 : decode cX14_holdsNow 97 = .ok (.iload_n 1, 1) := by decide +kernel
theorem dX14_holdsNow_98 : decode cX14_holdsNow 98 = .ok (.iaload, 1) := by decide +kernel
theorem dX14_holdsNow_99 : decode cX14_holdsNow 99 = .ok (.iconst 1, 1) := by decide +kernel
theorem dX14_holdsNow_100 : decode cX14_holdsNow 100 = .ok (.if_icmp .ne 7, 3) := by decide +kernel
theorem dX14_holdsNow_103 : decode cX14_holdsNow 103 = .ok (.iconst 1, 1) := by decide +kernel
theorem dX14_holdsNow_104 : decode cX14_holdsNow 104 = .ok (.goto 4, 3) := by decide +kernel
theorem dX14_holdsNow_107 : decode cX14_holdsNow 107 = .ok (.iconst 0, 1) := by decide +kernel
theorem dX14_holdsNow_108 : decode cX14_holdsNow 108 = .ok (.if_icmp .ne 7, 3) := by decide +kernel
theorem dX14_holdsNow_111 : decode cX14_holdsNow 111 = .ok (.iconst 1, 1) := by decide +kernel
theorem dX14_holdsNow_112 : decode cX14_holdsNow 112 = .ok (.goto 4, 3) := by decide +kernel
theorem dX14_holdsNow_115 : decode cX14_holdsNow 115 = .ok (.iconst 0, 1) := by decide +kernel
theorem dX14_holdsNow_116 : decode cX14_holdsNow 116 = .ok (.ireturn, 1) := by decide +kernel
set_option maxRecDepth 100000 in
set_option maxHeartbeats 4000000 in
theorem mX14_holdsNow {E : goEv} {l : Launch} {G : goG} {N : Nat} {M : goMI} {L : goML} {R : goMR} {v1 : Int32} {r0 : Int32} (hk : goKn E) (hW : goW G R) (h : fX14_holdsNow N M R v1 = some r0) : Met l yX14_holdsNow (goCd yX14_holdsNow cX14_holdsNow 3 (Option.some FieldType.boolean)) (goRoom 1 25 0 0) (goPre E [.ref 102, .int v1] G M L R) (goQi E r0 G M L R) 0 0 (goSet E) := by
  refine goMet pl_RX14 hk (lv := [some (.ref 102), some (.int v1), none]) rfl (Nat.le_of_ble_eq_true rfl) ?_
  intro X hc hl hR hr hnm
  subst hl
  unfold fX14_holdsNow at h
  refine go_aload0 hc dX14_holdsNow_0 ?_
  replace h := goBind h; obtain ⟨b11, e12, h⟩ := h
  refine go_getR hc lk_RX14_442 dX14_holdsNow_1 (sh_102 hW) e12 ?_
  refine go_getR hc lk_RX14_379 dX14_holdsNow_4 (shM_0 (goW_M3 hW e12)) (rfM_29 (goW_M3 hW e12)) ?_
  refine go_iload1 hc dX14_holdsNow_7 ?_
  replace h := goBind h; obtain ⟨x13, e14, h⟩ := h
  refine go_iald hc dX14_holdsNow_8 (shM_14 (goW_M3 hW e12)) e14 ?_
  refine go_istore2 hc dX14_holdsNow_9 ?_
  refine go_aload0 hc dX14_holdsNow_10 ?_
  replace h := goBind h; obtain ⟨b15, e16, h⟩ := h
  refine go_getR hc lk_RX14_442 dX14_holdsNow_11 (sh_102 hW) e16 ?_
  refine go_getR hc lk_RX14_376 dX14_holdsNow_14 (shM_0 (goW_M3 hW e16)) (rfM_28 (goW_M3 hW e16)) ?_
  refine go_iload1 hc dX14_holdsNow_17 ?_
  replace h := goBind h; obtain ⟨x17, e18, h⟩ := h
  refine go_iald hc dX14_holdsNow_18 (shM_13 (goW_M3 hW e16)) e18 ?_
  refine go_if_ne hc 54 dX14_holdsNow_19 rfl (fun c19 => ?_) (fun c19 => ?_)
  · replace h := goIfF h c19
    refine go_aload0 hc dX14_holdsNow_54 ?_
    refine go_getR hc lk_RX14_30 dX14_holdsNow_55 (sh_102 hW) (rf_102_23 hW) ?_
    refine go_bipush (v := 12) hc dX14_holdsNow_58 rfl ?_
    refine go_iload2 hc dX14_holdsNow_60 ?_
    refine go_imul hc dX14_holdsNow_61 ?_
    refine go_aload0 hc dX14_holdsNow_62 ?_
    replace h := goBind h; obtain ⟨b20, e21, h⟩ := h
    refine go_getR hc lk_RX14_442 dX14_holdsNow_63 (sh_102 hW) e21 ?_
    refine go_getR hc lk_RX14_385 dX14_holdsNow_66 (shM_0 (goW_M3 hW e21)) (rfM_31 (goW_M3 hW e21)) ?_
    refine go_iload1 hc dX14_holdsNow_69 ?_
    replace h := goBind h; obtain ⟨x22, e23, h⟩ := h
    refine go_iald hc dX14_holdsNow_70 (shM_16 (goW_M3 hW e21)) e23 ?_
    refine go_iadd hc dX14_holdsNow_71 ?_
    replace h := goBind h; obtain ⟨x24, e25, h⟩ := h
    refine go_iald hc dX14_holdsNow_72 (sh_108 hW) e25 ?_
    refine go_aload0 hc dX14_holdsNow_73 ?_
    replace h := goBind h; obtain ⟨b26, e27, h⟩ := h
    refine go_getR hc lk_RX14_442 dX14_holdsNow_74 (sh_102 hW) e27 ?_
    refine go_getR hc lk_RX14_382 dX14_holdsNow_77 (shM_0 (goW_M3 hW e27)) (rfM_30 (goW_M3 hW e27)) ?_
    refine go_iload1 hc dX14_holdsNow_80 ?_
    replace h := goBind h; obtain ⟨x28, e29, h⟩ := h
    refine go_iald hc dX14_holdsNow_81 (shM_15 (goW_M3 hW e27)) e29 ?_
    replace h := goNm_y h; obtain ⟨x30, e31, h⟩ := h
    have k32 : ∀ (d2 : Option Value), goA E X G 0 0 (goMQ X E (goQi E r0 G M L R) 0 0) 90 [some (.ref 102), some (.int v1), d2] [.int x30] M L R := by
      intro d2
      refine go_aload0 hc dX14_holdsNow_90 ?_
      replace h := goBind h; obtain ⟨b34, e35, h⟩ := h
      refine go_getR hc lk_RX14_442 dX14_holdsNow_91 (sh_102 hW) e35 ?_
      refine go_getR hc lk_RX14_376 dX14_holdsNow_94 (shM_0 (goW_M3 hW e35)) (rfM_28 (goW_M3 hW e35)) ?_
      refine go_iload1 hc dX14_holdsNow_97 ?_
      replace h := goBind h; obtain ⟨x36, e37, h⟩ := h
      refine go_iald hc dX14_holdsNow_98 (shM_13 (goW_M3 hW e35)) e37 ?_
      refine go_iconst (v := 1) hc dX14_holdsNow_99 rfl ?_
      replace h := goNm_y h; obtain ⟨x38, e39, h⟩ := h
      have k40 : ∀ (d0 d1 d2 : Option Value), goA E X G 0 0 (goMQ X E (goQi E r0 G M L R) 0 0) 108 [d0, d1, d2] [.int x38, .int x30] M L R := by
        intro d0 d1 d2
        refine go_icmp_ne hc 115 dX14_holdsNow_108 rfl (fun c42 => ?_) (fun c42 => ?_)
        · replace h := goIfF h c42
          refine go_iconst (v := 0) hc dX14_holdsNow_115 rfl ?_
          cases h
          exact go_zret hc dX14_holdsNow_116 hr rfl
        · replace h := goIfT h c42
          refine go_iconst (v := 1) hc dX14_holdsNow_111 rfl ?_
          refine go_goto hc 116 dX14_holdsNow_112 rfl ?_
          cases h
          exact go_zret hc dX14_holdsNow_116 hr rfl
      refine go_icmp_ne hc 107 dX14_holdsNow_100 rfl (fun c41 => ?_) (fun c41 => ?_)
      · replace e39 := goIfF e39 c41
        refine go_iconst (v := 0) hc dX14_holdsNow_107 rfl ?_
        subst e39
        exact k40 _ _ _
      · replace e39 := goIfT e39 c41
        refine go_iconst (v := 1) hc dX14_holdsNow_103 rfl ?_
        refine go_goto hc 108 dX14_holdsNow_104 rfl ?_
        subst e39
        exact k40 _ _ _
    refine go_icmp_ne hc 89 dX14_holdsNow_82 rfl (fun c33 => ?_) (fun c33 => ?_)
    · replace e31 := goIfF e31 c33
      refine go_iconst (v := 0) hc dX14_holdsNow_89 rfl ?_
      subst e31
      exact k32 _
    · replace e31 := goIfT e31 c33
      refine go_iconst (v := 1) hc dX14_holdsNow_85 rfl ?_
      refine go_goto hc 90 dX14_holdsNow_86 rfl ?_
      subst e31
      exact k32 _
  · replace h := goIfT h c19
    refine go_aload0 hc dX14_holdsNow_22 ?_
    refine go_iload2 hc dX14_holdsNow_23 ?_
    refine go_aload0 hc dX14_holdsNow_24 ?_
    replace h := goBind h; obtain ⟨b43, e44, h⟩ := h
    refine go_getR hc lk_RX14_442 dX14_holdsNow_25 (sh_102 hW) e44 ?_
    refine go_getR hc lk_RX14_385 dX14_holdsNow_28 (shM_0 (goW_M3 hW e44)) (rfM_31 (goW_M3 hW e44)) ?_
    refine go_iload1 hc dX14_holdsNow_31 ?_
    replace h := goBind h; obtain ⟨x45, e46, h⟩ := h
    refine go_iald hc dX14_holdsNow_32 (shM_16 (goW_M3 hW e44)) e46 ?_
    refine go_aload0 hc dX14_holdsNow_33 ?_
    replace h := goBind h; obtain ⟨b47, e48, h⟩ := h
    refine go_getR hc lk_RX14_442 dX14_holdsNow_34 (sh_102 hW) e48 ?_
    refine go_getR hc lk_RX14_382 dX14_holdsNow_37 (shM_0 (goW_M3 hW e48)) (rfM_30 (goW_M3 hW e48)) ?_
    refine go_iload1 hc dX14_holdsNow_40 ?_
    replace h := goBind h; obtain ⟨x49, e50, h⟩ := h
    refine go_iald hc dX14_holdsNow_41 (shM_15 (goW_M3 hW e48)) e50 ?_
    replace h := goBind h; obtain ⟨x51, e52, h⟩ := h
    refine go_callVi hc dX14_holdsNow_42 (mX14_dropped hk hW e52) ml_RX14_479 yk_X14_dropped ⟨wim_X14_dropped, wse_X14_dropped⟩ hR rfl (sh_102 hW) rfl rfl rfl (Nat.le_of_ble_eq_true rfl) rfl ?_
    refine go_if_le hc 52 dX14_holdsNow_45 rfl (fun c53 => ?_) (fun c53 => ?_)
    · replace h := goIfF h c53
      refine go_iconst (v := 0) hc dX14_holdsNow_52 rfl ?_
      cases h
      exact go_zret hc dX14_holdsNow_53 hr rfl
    · replace h := goIfT h c53
      refine go_iconst (v := 1) hc dX14_holdsNow_48 rfl ?_
      refine go_goto hc 53 dX14_holdsNow_49 rfl ?_
      cases h
      exact go_zret hc dX14_holdsNow_53 hr rfl
theorem dX14_laysHonest_0 : decode cX14_laysHonest 0 = .ok (.iconst 0, 1) := by decide +kernel
theorem dX14_laysHonest_1 : decode cX14_laysHonest 1 = .ok (.istore_n 1, 1) := by decide +kernel
theorem dX14_laysHonest_2 : decode cX14_laysHonest 2 = .ok (.iload_n 1, 1) := by decide +kernel
theorem dX14_laysHonest_3 : decode cX14_laysHonest 3 = .ok (.aload_n 0, 1) := by decide +kernel
theorem dX14_laysHonest_4 : decode cX14_laysHonest 4 = .ok (.getfield 442, 3) := by decide +kernel
theorem dX14_laysHonest_7 : decode cX14_laysHonest 7 = .ok (.invokevirtual 450, 3) := by decide +kernel
theorem dX14_laysHonest_10 : decode cX14_laysHonest 10 = .ok (.if_icmp .ge 71, 3) := by decide +kernel
theorem dX14_laysHonest_13 : decode cX14_laysHonest 13 = .ok (.aload_n 0, 1) := by decide +kernel
theorem dX14_laysHonest_14 : decode cX14_laysHonest 14 = .ok (.iload_n 1, 1) := by decide +kernel
theorem dX14_laysHonest_15 : decode cX14_laysHonest 15 = .ok (.invokevirtual 482, 3) := by decide +kernel
theorem dX14_laysHonest_18 : decode cX14_laysHonest 18 = .ok (.aload_n 0, 1) := by decide +kernel
theorem dX14_laysHonest_19 : decode cX14_laysHonest 19 = .ok (.getfield 48, 3) := by decide +kernel
theorem dX14_laysHonest_22 : decode cX14_laysHonest 22 = .ok (.iload_n 1, 1) := by decide +kernel
theorem dX14_laysHonest_23 : decode cX14_laysHonest 23 = .ok (.bipush 63, 2) := by decide +kernel
theorem dX14_laysHonest_25 : decode cX14_laysHonest 25 = .ok (.iastore, 1) := by decide +kernel
theorem dX14_laysHonest_26 : decode cX14_laysHonest 26 = .ok (.iconst 0, 1) := by decide +kernel
theorem dX14_laysHonest_27 : decode cX14_laysHonest 27 = .ok (.istore_n 2, 1) := by decide +kernel
theorem dX14_laysHonest_28 : decode cX14_laysHonest 28 = .ok (.iload_n 2, 1) := by decide +kernel
theorem dX14_laysHonest_29 : decode cX14_laysHonest 29 = .ok (.aload_n 0, 1) := by decide +kernel
theorem dX14_laysHonest_30 : decode cX14_laysHonest 30 = .ok (.getfield 442, 3) := by decide +kernel
theorem dX14_laysHonest_33 : decode cX14_laysHonest 33 = .ok (.getfield 370, 3) := by decide +kernel
theorem dX14_laysHonest_36 : decode cX14_laysHonest 36 = .ok (.if_icmp .ge 39, 3) := by decide +kernel
theorem dX14_laysHonest_39 : decode cX14_laysHonest 39 = .ok (.aload_n 0, 1) := by decide +kernel
theorem dX14_laysHonest_40 : decode cX14_laysHonest 40 = .ok (.iload_n 2, 1) := by decide +kernel
theorem dX14_laysHonest_41 : decode cX14_laysHonest 41 = .ok (.invokevirtual 485, 3) := by decide +kernel
theorem dX14_laysHonest_44 : decode cX14_laysHonest 44 = .ok (.ifCond .ne 25, 3) := by decide +kernel
theorem dX14_laysHonest_47 : decode cX14_laysHonest 47 = .ok (.aload_n 0, 1) := by decide +kernel
theorem dX14_laysHonest_48 : decode cX14_laysHonest 48 = .ok (.getfield 48, 3) := by decide +kernel
theorem dX14_laysHonest_51 : decode cX14_laysHonest 51 = .ok (.iload_n 1, 1) := by decide +kernel
theorem dX14_laysHonest_52 : decode cX14_laysHonest 52 = .ok (.dup2, 1) := by decide +kernel
theorem dX14_laysHonest_53 : decode cX14_laysHonest 53 = .ok (.iaload, 1) := by decide +kernel
theorem dX14_laysHonest_54 : decode cX14_laysHonest 54 = .ok (.iconst 1, 1) := by decide +kernel
theorem dX14_laysHonest_55 : decode cX14_laysHonest 55 = .ok (.aload_n 0, 1) := by decide +kernel
theorem dX14_laysHonest_56 : decode cX14_laysHonest 56 = .ok (.getfield 442, 3) := by decide +kernel
theorem dX14_laysHonest_59 : decode cX14_laysHonest 59 = .ok (.getfield 379, 3) := by decide +kernel
theorem dX14_laysHonest_62 : decode cX14_laysHonest 62 = .ok (.iload_n 2, 1) := by decide +kernel
theorem dX14_laysHonest_63 : decode cX14_laysHonest 63 = .ok (.iaload, 1) := by decide +kernel
theorem dX14_laysHonest_64 : decode cX14_laysHonest 64 = .ok (.ishl, 1) := by decide +kernel
theorem dX14_laysHonest_65 : decode cX14_laysHonest 65 = .ok (.iconst (-1), 1) := by decide +kernel
theorem dX14_laysHonest_66 : decode cX14_laysHonest 66 = .ok (.ixor, 1) := by decide +kernel
theorem dX14_laysHonest_67 : decode cX14_laysHonest 67 = .ok (.iand, 1) := by decide +kernel
theorem dX14_laysHonest_68 : decode cX14_laysHonest 68 = .ok (.iastore, 1) := by decide +kernel
theorem dX14_laysHonest_69 : decode cX14_laysHonest 69 = .ok (.iinc 2 1, 3) := by decide +kernel
theorem dX14_laysHonest_72 : decode cX14_laysHonest 72 = .ok (.goto (-44), 3) := by decide +kernel
theorem dX14_laysHonest_75 : decode cX14_laysHonest 75 = .ok (.iinc 1 1, 3) := by decide +kernel
theorem dX14_laysHonest_78 : decode cX14_laysHonest 78 = .ok (.goto (-76), 3) := by decide +kernel
theorem dX14_laysHonest_81 : decode cX14_laysHonest 81 = .ok (.return_, 1) := by decide +kernel
set_option maxRecDepth 100000 in
set_option maxHeartbeats 4000000 in
theorem mX14_laysHonest_L28 {E : goEv} {X : goX} {G : goG} {Q : State → Prop} {L : goML} {R : goMR} {N : Nat} {v1 : Int32} (hc : goCx E X cX14_laysHonest RX14 3) (hk : goKn E) (hR : X.2.2.2.1 = goRoom 6 146 0 0) (hr : X.2.2.2.2.2.2.2.2.1.sig.returnType = none) (hW : goW G R) : ∀ (n : Nat) (v2 : Int32) (M : goMI) (r0 : goMI), lX14_laysHonest_28 N v1 R n v2 M = some r0 → (∀ (d2 : Option Value), goA E X G 0 0 Q 75 [some (.ref 102), some (.int v1), d2] [] r0 L R) → goA E X G 0 0 Q 28 [some (.ref 102), some (.int v1), some (.int v2)] [] M L R := by
  intro n
  induction n with
  | zero => intro v2 M r0 h; exact nomatch h
  | succ n ih =>
    intro v2 M r0 h kx
    rw [lX14_laysHonest_28] at h
    refine go_iload2 hc dX14_laysHonest_28 ?_
    refine go_aload0 hc dX14_laysHonest_29 ?_
    replace h := goBind h; obtain ⟨b20, e21, h⟩ := h
    refine go_getR hc lk_RX14_442 dX14_laysHonest_30 (sh_102 hW) e21 ?_
    refine go_getI hc lk_RX14_370 dX14_laysHonest_33 (shM_0 (goW_M3 hW e21)) ?_
    refine go_icmp_ge hc 75 dX14_laysHonest_36 rfl (fun c22 => ?_) (fun c22 => ?_)
    · replace h := goIfF h c22
      cases h
      exact kx _
    · replace h := goIfT h c22
      refine go_aload0 hc dX14_laysHonest_39 ?_
      refine go_iload2 hc dX14_laysHonest_40 ?_
      replace h := goBind h; obtain ⟨x23, e24, h⟩ := h
      refine go_callVi hc dX14_laysHonest_41 (mX14_holdsNow hk hW e24) ml_RX14_485 yk_X14_holdsNow ⟨wim_X14_holdsNow, wse_X14_holdsNow⟩ hR rfl (sh_102 hW) rfl rfl rfl (Nat.le_of_ble_eq_true rfl) rfl ?_
      replace h := goBind h; obtain ⟨M25, e26, h⟩ := h
      have k27 : goA E X G 0 0 Q 69 [some (.ref 102), some (.int v1), some (.int v2)] [] M25 L R := by
        refine go_iinc2 (v := (v2 + 1)) hc dX14_laysHonest_69 rfl ?_
        refine go_goto hc 28 dX14_laysHonest_72 rfl ?_
        exact ih _ _ _ h kx
      refine go_if_ne hc 69 dX14_laysHonest_44 rfl (fun c28 => ?_) (fun c28 => ?_)
      · replace e26 := goIfF e26 c28
        cases e26
        exact k27
      · replace e26 := goIfT e26 c28
        refine go_aload0 hc dX14_laysHonest_47 ?_
        refine go_getR hc lk_RX14_48 dX14_laysHonest_48 (sh_102 hW) (rf_102_29 hW) ?_
        refine go_iload1 hc dX14_laysHonest_51 ?_
        refine go_dup2 hc dX14_laysHonest_52 ?_
        replace e26 := goBind e26; obtain ⟨x29, e30, e26⟩ := e26
        refine go_iald hc dX14_laysHonest_53 (sh_114 hW) e30 ?_
        refine go_iconst (v := 1) hc dX14_laysHonest_54 rfl ?_
        refine go_aload0 hc dX14_laysHonest_55 ?_
        replace e26 := goBind e26; obtain ⟨b31, e32, e26⟩ := e26
        refine go_getR hc lk_RX14_442 dX14_laysHonest_56 (sh_102 hW) e32 ?_
        refine go_getR hc lk_RX14_379 dX14_laysHonest_59 (shM_0 (goW_M3 hW e32)) (rfM_29 (goW_M3 hW e32)) ?_
        refine go_iload2 hc dX14_laysHonest_62 ?_
        replace e26 := goBind e26; obtain ⟨x33, e34, e26⟩ := e26
        refine go_iald hc dX14_laysHonest_63 (shM_14 (goW_M3 hW e32)) e34 ?_
        refine go_ishl hc dX14_laysHonest_64 ?_
        refine go_iconst (v := (-1)) hc dX14_laysHonest_65 rfl ?_
        refine go_ixor hc dX14_laysHonest_66 ?_
        refine go_iand hc dX14_laysHonest_67 ?_
        replace e26 := goBind e26; obtain ⟨M35, e36, e26⟩ := e26
        refine go_iast hc dX14_laysHonest_68 (sh_114 hW) e36 ?_
        cases e26
        exact k27
set_option maxRecDepth 100000 in
set_option maxHeartbeats 4000000 in
theorem mX14_laysHonest_L2 {E : goEv} {X : goX} {G : goG} {Q : State → Prop} {L : goML} {R : goMR} {N : Nat} (hc : goCx E X cX14_laysHonest RX14 3) (hk : goKn E) (hR : X.2.2.2.1 = goRoom 6 146 0 0) (hr : X.2.2.2.2.2.2.2.2.1.sig.returnType = none) (hW : goW G R) : ∀ (n : Nat) (v1 : Int32) (M : goMI) (r0 : goMI), lX14_laysHonest_2 N R n v1 M = some r0 → (∀ (d0 d1 d2 : Option Value), goA E X G 0 0 Q 81 [d0, d1, d2] [] r0 L R) → ∀ (d2 : Option Value), goA E X G 0 0 Q 2 [some (.ref 102), some (.int v1), d2] [] M L R := by
  intro n
  induction n with
  | zero => intro v1 M r0 h; exact nomatch h
  | succ n ih =>
    intro v1 M r0 h kx d2
    rw [lX14_laysHonest_2] at h
    refine go_iload1 hc dX14_laysHonest_2 ?_
    refine go_aload0 hc dX14_laysHonest_3 ?_
    replace h := goBind h; obtain ⟨b11, e12, h⟩ := h
    refine go_getR hc lk_RX14_442 dX14_laysHonest_4 (sh_102 hW) e12 ?_
    replace h := goBind h; obtain ⟨x13, e14, h⟩ := h
    refine go_callVi hc dX14_laysHonest_7 (mX13_cases hk hW (goW_M3 hW e12) e14) ml_RX14_450 yk_X13_cases ⟨wim_X13_cases, wse_X13_cases⟩ hR rfl (shM_0 (goW_M3 hW e12)) rfl rfl rfl (Nat.le_of_ble_eq_true rfl) rfl ?_
    refine go_icmp_ge hc 81 dX14_laysHonest_10 rfl (fun c15 => ?_) (fun c15 => ?_)
    · replace h := goIfF h c15
      cases h
      exact kx _ _ _
    · replace h := goIfT h c15
      refine go_aload0 hc dX14_laysHonest_13 ?_
      refine go_iload1 hc dX14_laysHonest_14 ?_
      replace h := goBind h; obtain ⟨M16, e17, h⟩ := h
      refine go_callVv hc dX14_laysHonest_15 (mX14_day hk hW e17) ml_RX14_482 yk_X14_day ⟨wim_X14_day, wse_X14_day⟩ hR rfl (sh_102 hW) rfl rfl rfl (Nat.le_of_ble_eq_true rfl) rfl ?_
      refine go_aload0 hc dX14_laysHonest_18 ?_
      refine go_getR hc lk_RX14_48 dX14_laysHonest_19 (sh_102 hW) (rf_102_29 hW) ?_
      refine go_iload1 hc dX14_laysHonest_22 ?_
      refine go_bipush (v := 63) hc dX14_laysHonest_23 rfl ?_
      replace h := goBind h; obtain ⟨M18, e19, h⟩ := h
      refine go_iast hc dX14_laysHonest_25 (sh_114 hW) e19 ?_
      refine go_iconst (v := 0) hc dX14_laysHonest_26 rfl ?_
      refine go_istore2 hc dX14_laysHonest_27 ?_
      replace h := goBind h; obtain ⟨M38, e37, h⟩ := h
      refine mX14_laysHonest_L28 hc hk hR hr hW _ _ _ _ e37 (fun d2 => ?_)
      refine go_iinc1 (v := (v1 + 1)) hc dX14_laysHonest_75 rfl ?_
      refine go_goto hc 2 dX14_laysHonest_78 rfl ?_
      exact ih _ _ _ h kx _
set_option maxRecDepth 100000 in
set_option maxHeartbeats 4000000 in
theorem mX14_laysHonest {E : goEv} {l : Launch} {G : goG} {N : Nat} {M : goMI} {L : goML} {R : goMR} {r0 : goMI} (hk : goKn E) (hW : goW G R) (h : fX14_laysHonest N M R = some r0) : Met l yX14_laysHonest (goCd yX14_laysHonest cX14_laysHonest 3 none) (goRoom 6 146 0 0) (goPre E [.ref 102] G M L R) (goQv E G r0 L R) 0 0 (goSet E) := by
  refine goMet pl_RX14 hk (lv := [some (.ref 102), none, none]) rfl (Nat.le_of_ble_eq_true rfl) ?_
  intro X hc hl hR hr hnm
  subst hl
  unfold fX14_laysHonest at h
  refine go_iconst (v := 0) hc dX14_laysHonest_0 rfl ?_
  refine go_istore1 hc dX14_laysHonest_1 ?_
  replace h := goBind h; obtain ⟨M40, e39, h⟩ := h
  refine mX14_laysHonest_L2 hc hk hR hr hW _ _ _ _ e39 (fun d0 d1 d2 => ?_) _
  cases h
  exact go_vret hc dX14_laysHonest_81 hr
theorem dX14_areTrue_0 : decode cX14_areTrue 0 = .ok (.iload_n 2, 1) := by decide +kernel
theorem dX14_areTrue_1 : decode cX14_areTrue 1 = .ok (.aload_n 0, 1) := by decide +kernel
theorem dX14_areTrue_2 : decode cX14_areTrue 2 = .ok (.getfield 48, 3) := by decide +kernel
theorem dX14_areTrue_5 : decode cX14_areTrue 5 = .ok (.iload_n 1, 1) := by decide +kernel
theorem dX14_areTrue_6 : decode cX14_areTrue 6 = .ok (.iaload, 1) := by decide +kernel
theorem dX14_areTrue_7 : decode cX14_areTrue 7 = .ok (.iconst (-1), 1) := by decide +kernel
theorem dX14_areTrue_8 : decode cX14_areTrue 8 = .ok (.ixor, 1) := by decide +kernel
theorem dX14_areTrue_9 : decode cX14_areTrue 9 = .ok (.iand, 1) := by decide +kernel
theorem dX14_areTrue_10 : decode cX14_areTrue 10 = .ok (.ifCond .ne 7, 3) := by decide +kernel
theorem dX14_areTrue_13 : decode cX14_areTrue 13 = .ok (.iconst 1, 1) := by decide +kernel
theorem dX14_areTrue_14 : decode cX14_areTrue 14 = .ok (.goto 4, 3) := by decide +kernel
theorem dX14_areTrue_17 : decode cX14_areTrue 17 = .ok (.iconst 0, 1) := by decide +kernel
theorem dX14_areTrue_18 : decode cX14_areTrue 18 = .ok (.ireturn, 1) := by decide +kernel
set_option maxRecDepth 100000 in
set_option maxHeartbeats 4000000 in
theorem mX14_areTrue {E : goEv} {l : Launch} {G : goG} {M : goMI} {L : goML} {R : goMR} {v1 : Int32} {v2 : Int32} {r0 : Int32} (hk : goKn E) (hW : goW G R) (h : fX14_areTrue M v1 v2 = some r0) : Met l yX14_areTrue (goCd yX14_areTrue cX14_areTrue 3 (Option.some FieldType.boolean)) (goRoom 0 0 0 0) (goPre E [.ref 102, .int v1, .int v2] G M L R) (goQi E r0 G M L R) 0 0 (goSet E) := by
  refine goMet pl_RX14 hk (lv := [some (.ref 102), some (.int v1), some (.int v2)]) rfl (Nat.le_of_ble_eq_true rfl) ?_
  intro X hc hl hR hr hnm
  subst hl
  unfold fX14_areTrue at h
  refine go_iload2 hc dX14_areTrue_0 ?_
  refine go_aload0 hc dX14_areTrue_1 ?_
  refine go_getR hc lk_RX14_48 dX14_areTrue_2 (sh_102 hW) (rf_102_29 hW) ?_
  refine go_iload1 hc dX14_areTrue_5 ?_
  replace h := goBind h; obtain ⟨x11, e12, h⟩ := h
  refine go_iald hc dX14_areTrue_6 (sh_114 hW) e12 ?_
  refine go_iconst (v := (-1)) hc dX14_areTrue_7 rfl ?_
  refine go_ixor hc dX14_areTrue_8 ?_
  refine go_iand hc dX14_areTrue_9 ?_
  refine go_if_ne hc 17 dX14_areTrue_10 rfl (fun c13 => ?_) (fun c13 => ?_)
  · replace h := goIfF h c13
    refine go_iconst (v := 0) hc dX14_areTrue_17 rfl ?_
    cases h
    exact go_zret hc dX14_areTrue_18 hr rfl
  · replace h := goIfT h c13
    refine go_iconst (v := 1) hc dX14_areTrue_13 rfl ?_
    refine go_goto hc 18 dX14_areTrue_14 rfl ?_
    cases h
    exact go_zret hc dX14_areTrue_18 hr rfl
theorem dX14_allGoats_0 : decode cX14_allGoats 0 = .ok (.iconst 1, 1) := by decide +kernel
theorem dX14_allGoats_1 : decode cX14_allGoats 1 = .ok (.aload_n 0, 1) := by decide +kernel
theorem dX14_allGoats_2 : decode cX14_allGoats 2 = .ok (.getfield 442, 3) := by decide +kernel
theorem dX14_allGoats_5 : decode cX14_allGoats 5 = .ok (.getfield 328, 3) := by decide +kernel
theorem dX14_allGoats_8 : decode cX14_allGoats 8 = .ok (.ishl, 1) := by decide +kernel
theorem dX14_allGoats_9 : decode cX14_allGoats 9 = .ok (.iconst 1, 1) := by decide +kernel
theorem dX14_allGoats_10 : decode cX14_allGoats 10 = .ok (.isub, 1) := by decide +kernel
theorem dX14_allGoats_11 : decode cX14_allGoats 11 = .ok (.ireturn, 1) := by decide +kernel
set_option maxRecDepth 100000 in
set_option maxHeartbeats 4000000 in
theorem mX14_allGoats {E : goEv} {l : Launch} {G : goG} {M : goMI} {L : goML} {R : goMR} {r0 : Int32} (hk : goKn E) (hW : goW G R) (h : fX14_allGoats M R = some r0) : Met l yX14_allGoats (goCd yX14_allGoats cX14_allGoats 1 (Option.some FieldType.int)) (goRoom 0 0 0 0) (goPre E [.ref 102] G M L R) (goQi E r0 G M L R) 0 0 (goSet E) := by
  refine goMet pl_RX14 hk (lv := [some (.ref 102)]) rfl (Nat.le_of_ble_eq_true rfl) ?_
  intro X hc hl hR hr hnm
  subst hl
  unfold fX14_allGoats at h
  refine go_iconst (v := 1) hc dX14_allGoats_0 rfl ?_
  refine go_aload0 hc dX14_allGoats_1 ?_
  replace h := goBind h; obtain ⟨b11, e12, h⟩ := h
  refine go_getR hc lk_RX14_442 dX14_allGoats_2 (sh_102 hW) e12 ?_
  refine go_getI hc lk_RX14_328 dX14_allGoats_5 (shM_0 (goW_M3 hW e12)) ?_
  refine go_ishl hc dX14_allGoats_8 ?_
  refine go_iconst (v := 1) hc dX14_allGoats_9 rfl ?_
  refine go_isub hc dX14_allGoats_10 ?_
  cases h
  exact go_iret hc dX14_allGoats_11 hr
theorem dX14_heard_0 : decode cX14_heard 0 = .ok (.aload_n 0, 1) := by decide +kernel
theorem dX14_heard_1 : decode cX14_heard 1 = .ok (.getfield 21, 3) := by decide +kernel
theorem dX14_heard_4 : decode cX14_heard 4 = .ok (.bipush 17, 2) := by decide +kernel
theorem dX14_heard_6 : decode cX14_heard 6 = .ok (.iaload, 1) := by decide +kernel
theorem dX14_heard_7 : decode cX14_heard 7 = .ok (.aload_n 0, 1) := by decide +kernel
theorem dX14_heard_8 : decode cX14_heard 8 = .ok (.invokevirtual 488, 3) := by decide +kernel
theorem dX14_heard_11 : decode cX14_heard 11 = .ok (.iand, 1) := by decide +kernel
theorem dX14_heard_12 : decode cX14_heard 12 = .ok (.ireturn, 1) := by decide +kernel
set_option maxRecDepth 100000 in
set_option maxHeartbeats 4000000 in
theorem mX14_heard {E : goEv} {l : Launch} {G : goG} {M : goMI} {L : goML} {R : goMR} {r0 : Int32} (hk : goKn E) (hW : goW G R) (h : fX14_heard M R = some r0) : Met l yX14_heard (goCd yX14_heard cX14_heard 1 (Option.some FieldType.int)) (goRoom 1 20 0 0) (goPre E [.ref 102] G M L R) (goQi E r0 G M L R) 0 0 (goSet E) := by
  refine goMet pl_RX14 hk (lv := [some (.ref 102)]) rfl (Nat.le_of_ble_eq_true rfl) ?_
  intro X hc hl hR hr hnm
  subst hl
  unfold fX14_heard at h
  refine go_aload0 hc dX14_heard_0 ?_
  refine go_getR hc lk_RX14_21 dX14_heard_1 (sh_102 hW) (rf_102_18 hW) ?_
  refine go_bipush (v := 17) hc dX14_heard_4 rfl ?_
  replace h := goBind h; obtain ⟨x11, e12, h⟩ := h
  refine go_iald hc dX14_heard_6 (sh_105 hW) e12 ?_
  refine go_aload0 hc dX14_heard_7 ?_
  replace h := goBind h; obtain ⟨x13, e14, h⟩ := h
  refine go_callVi hc dX14_heard_8 (mX14_allGoats hk hW e14) ml_RX14_488 yk_X14_allGoats ⟨wim_X14_allGoats, wse_X14_allGoats⟩ hR rfl (sh_102 hW) rfl rfl rfl (Nat.le_of_ble_eq_true rfl) rfl ?_
  refine go_iand hc dX14_heard_11 ?_
  cases h
  exact go_iret hc dX14_heard_12 hr
theorem dX14_isPlace_0 : decode cX14_isPlace 0 = .ok (.aload_n 0, 1) := by decide +kernel
theorem dX14_isPlace_1 : decode cX14_isPlace 1 = .ok (.getfield 442, 3) := by decide +kernel
theorem dX14_isPlace_4 : decode cX14_isPlace 4 = .ok (.ifnull 22, 3) := by decide +kernel
theorem dX14_isPlace_7 : decode cX14_isPlace 7 = .ok (.iload_n 1, 1) := by decide +kernel
theorem dX14_isPlace_8 : decode cX14_isPlace 8 = .ok (.ifCond .lt 18, 3) := by decide +kernel
theorem dX14_isPlace_11 : decode cX14_isPlace 11 = .ok (.iload_n 1, 1) := by decide +kernel
theorem dX14_isPlace_12 : decode cX14_isPlace 12 = .ok (.aload_n 0, 1) := by decide +kernel
theorem dX14_isPlace_13 : decode cX14_isPlace 13 = .ok (.getfield 442, 3) := by decide +kernel
theorem dX14_isPlace_16 : decode cX14_isPlace 16 = .ok (.getfield 241, 3) := by decide +kernel
theorem dX14_isPlace_19 : decode cX14_isPlace 19 = .ok (.if_icmp .ge 7, 3) := by decide +kernel
theorem dX14_isPlace_22 : decode cX14_isPlace 22 = .ok (.iconst 1, 1) := by decide +kernel
theorem dX14_isPlace_23 : decode cX14_isPlace 23 = .ok (.goto 4, 3) := by decide +kernel
theorem dX14_isPlace_26 : decode cX14_isPlace 26 = .ok (.iconst 0, 1) := by decide +kernel
theorem dX14_isPlace_27 : decode cX14_isPlace 27 = .ok (.ireturn, 1) := by decide +kernel
set_option maxRecDepth 100000 in
set_option maxHeartbeats 4000000 in
theorem mX14_isPlace {E : goEv} {l : Launch} {G : goG} {M : goMI} {L : goML} {R : goMR} {v1 : Int32} {r0 : Int32} (hk : goKn E) (hW : goW G R) (h : fX14_isPlace M R v1 = some r0) : Met l yX14_isPlace (goCd yX14_isPlace cX14_isPlace 2 (Option.some FieldType.boolean)) (goRoom 0 0 0 0) (goPre E [.ref 102, .int v1] G M L R) (goQi E r0 G M L R) 0 0 (goSet E) := by
  refine goMet pl_RX14 hk (lv := [some (.ref 102), some (.int v1)]) rfl (Nat.le_of_ble_eq_true rfl) ?_
  intro X hc hl hR hr hnm
  subst hl
  unfold fX14_isPlace at h
  refine go_aload0 hc dX14_isPlace_0 ?_
  refine go_getQ hc lk_RX14_442 dX14_isPlace_1 (sh_102 hW) ?_
  refine go_ifnull hc 26 dX14_isPlace_4 rfl (fun c11 => ?_) (fun _ c11 => ?_)
  · replace h := goIfT h c11
    refine go_iconst (v := 0) hc dX14_isPlace_26 rfl ?_
    cases h
    exact go_zret hc dX14_isPlace_27 hr rfl
  · replace h := goIfF h (goNn c11)
    refine go_iload1 hc dX14_isPlace_7 ?_
    refine go_if_lt hc 26 dX14_isPlace_8 rfl (fun c12 => ?_) (fun c12 => ?_)
    · replace h := goIfF h c12
      refine go_iconst (v := 0) hc dX14_isPlace_26 rfl ?_
      cases h
      exact go_zret hc dX14_isPlace_27 hr rfl
    · replace h := goIfT h c12
      refine go_iload1 hc dX14_isPlace_11 ?_
      refine go_aload0 hc dX14_isPlace_12 ?_
      replace h := goBind h; obtain ⟨b13, e14, h⟩ := h
      refine go_getR hc lk_RX14_442 dX14_isPlace_13 (sh_102 hW) e14 ?_
      refine go_getI hc lk_RX14_241 dX14_isPlace_16 (shM_0 (goW_M3 hW e14)) ?_
      refine go_icmp_ge hc 26 dX14_isPlace_19 rfl (fun c15 => ?_) (fun c15 => ?_)
      · replace h := goIfF h c15
        refine go_iconst (v := 0) hc dX14_isPlace_26 rfl ?_
        cases h
        exact go_zret hc dX14_isPlace_27 hr rfl
      · replace h := goIfT h c15
        refine go_iconst (v := 1) hc dX14_isPlace_22 rfl ?_
        refine go_goto hc 27 dX14_isPlace_23 rfl ?_
        cases h
        exact go_zret hc dX14_isPlace_27 hr rfl
theorem dX14_isPlant_0 : decode cX14_isPlant 0 = .ok (.aload_n 0, 1) := by decide +kernel
theorem dX14_isPlant_1 : decode cX14_isPlant 1 = .ok (.getfield 442, 3) := by decide +kernel
theorem dX14_isPlant_4 : decode cX14_isPlant 4 = .ok (.ifnull 22, 3) := by decide +kernel
theorem dX14_isPlant_7 : decode cX14_isPlant 7 = .ok (.iload_n 1, 1) := by decide +kernel
theorem dX14_isPlant_8 : decode cX14_isPlant 8 = .ok (.ifCond .lt 18, 3) := by decide +kernel
theorem dX14_isPlant_11 : decode cX14_isPlant 11 = .ok (.iload_n 1, 1) := by decide +kernel
theorem dX14_isPlant_12 : decode cX14_isPlant 12 = .ok (.aload_n 0, 1) := by decide +kernel
theorem dX14_isPlant_13 : decode cX14_isPlant 13 = .ok (.getfield 442, 3) := by decide +kernel
theorem dX14_isPlant_16 : decode cX14_isPlant 16 = .ok (.getfield 229, 3) := by decide +kernel
theorem dX14_isPlant_19 : decode cX14_isPlant 19 = .ok (.if_icmp .ge 7, 3) := by decide +kernel
theorem dX14_isPlant_22 : decode cX14_isPlant 22 = .ok (.iconst 1, 1) := by decide +kernel
theorem dX14_isPlant_23 : decode cX14_isPlant 23 = .ok (.goto 4, 3) := by decide +kernel
theorem dX14_isPlant_26 : decode cX14_isPlant 26 = .ok (.iconst 0, 1) := by decide +kernel
theorem dX14_isPlant_27 : decode cX14_isPlant 27 = .ok (.ireturn, 1) := by decide +kernel
set_option maxRecDepth 100000 in
set_option maxHeartbeats 4000000 in
theorem mX14_isPlant {E : goEv} {l : Launch} {G : goG} {M : goMI} {L : goML} {R : goMR} {v1 : Int32} {r0 : Int32} (hk : goKn E) (hW : goW G R) (h : fX14_isPlant M R v1 = some r0) : Met l yX14_isPlant (goCd yX14_isPlant cX14_isPlant 2 (Option.some FieldType.boolean)) (goRoom 0 0 0 0) (goPre E [.ref 102, .int v1] G M L R) (goQi E r0 G M L R) 0 0 (goSet E) := by
  refine goMet pl_RX14 hk (lv := [some (.ref 102), some (.int v1)]) rfl (Nat.le_of_ble_eq_true rfl) ?_
  intro X hc hl hR hr hnm
  subst hl
  unfold fX14_isPlant at h
  refine go_aload0 hc dX14_isPlant_0 ?_
  refine go_getQ hc lk_RX14_442 dX14_isPlant_1 (sh_102 hW) ?_
  refine go_ifnull hc 26 dX14_isPlant_4 rfl (fun c11 => ?_) (fun _ c11 => ?_)
  · replace h := goIfT h c11
    refine go_iconst (v := 0) hc dX14_isPlant_26 rfl ?_
    cases h
    exact go_zret hc dX14_isPlant_27 hr rfl
  · replace h := goIfF h (goNn c11)
    refine go_iload1 hc dX14_isPlant_7 ?_
    refine go_if_lt hc 26 dX14_isPlant_8 rfl (fun c12 => ?_) (fun c12 => ?_)
    · replace h := goIfF h c12
      refine go_iconst (v := 0) hc dX14_isPlant_26 rfl ?_
      cases h
      exact go_zret hc dX14_isPlant_27 hr rfl
    · replace h := goIfT h c12
      refine go_iload1 hc dX14_isPlant_11 ?_
      refine go_aload0 hc dX14_isPlant_12 ?_
      replace h := goBind h; obtain ⟨b13, e14, h⟩ := h
      refine go_getR hc lk_RX14_442 dX14_isPlant_13 (sh_102 hW) e14 ?_
      refine go_getI hc lk_RX14_229 dX14_isPlant_16 (shM_0 (goW_M3 hW e14)) ?_
      refine go_icmp_ge hc 26 dX14_isPlant_19 rfl (fun c15 => ?_) (fun c15 => ?_)
      · replace h := goIfF h c15
        refine go_iconst (v := 0) hc dX14_isPlant_26 rfl ?_
        cases h
        exact go_zret hc dX14_isPlant_27 hr rfl
      · replace h := goIfT h c15
        refine go_iconst (v := 1) hc dX14_isPlant_22 rfl ?_
        refine go_goto hc 27 dX14_isPlant_23 rfl ?_
        cases h
        exact go_zret hc dX14_isPlant_27 hr rfl
theorem dX14_isPerson_0 : decode cX14_isPerson 0 = .ok (.aload_n 0, 1) := by decide +kernel
theorem dX14_isPerson_1 : decode cX14_isPerson 1 = .ok (.getfield 442, 3) := by decide +kernel
theorem dX14_isPerson_4 : decode cX14_isPerson 4 = .ok (.ifnull 22, 3) := by decide +kernel
theorem dX14_isPerson_7 : decode cX14_isPerson 7 = .ok (.iload_n 1, 1) := by decide +kernel
theorem dX14_isPerson_8 : decode cX14_isPerson 8 = .ok (.ifCond .lt 18, 3) := by decide +kernel
theorem dX14_isPerson_11 : decode cX14_isPerson 11 = .ok (.iload_n 1, 1) := by decide +kernel
theorem dX14_isPerson_12 : decode cX14_isPerson 12 = .ok (.aload_n 0, 1) := by decide +kernel
theorem dX14_isPerson_13 : decode cX14_isPerson 13 = .ok (.getfield 442, 3) := by decide +kernel
theorem dX14_isPerson_16 : decode cX14_isPerson 16 = .ok (.getfield 320, 3) := by decide +kernel
theorem dX14_isPerson_19 : decode cX14_isPerson 19 = .ok (.if_icmp .ge 7, 3) := by decide +kernel
theorem dX14_isPerson_22 : decode cX14_isPerson 22 = .ok (.iconst 1, 1) := by decide +kernel
theorem dX14_isPerson_23 : decode cX14_isPerson 23 = .ok (.goto 4, 3) := by decide +kernel
theorem dX14_isPerson_26 : decode cX14_isPerson 26 = .ok (.iconst 0, 1) := by decide +kernel
theorem dX14_isPerson_27 : decode cX14_isPerson 27 = .ok (.ireturn, 1) := by decide +kernel
set_option maxRecDepth 100000 in
set_option maxHeartbeats 4000000 in
theorem mX14_isPerson {E : goEv} {l : Launch} {G : goG} {M : goMI} {L : goML} {R : goMR} {v1 : Int32} {r0 : Int32} (hk : goKn E) (hW : goW G R) (h : fX14_isPerson M R v1 = some r0) : Met l yX14_isPerson (goCd yX14_isPerson cX14_isPerson 2 (Option.some FieldType.boolean)) (goRoom 0 0 0 0) (goPre E [.ref 102, .int v1] G M L R) (goQi E r0 G M L R) 0 0 (goSet E) := by
  refine goMet pl_RX14 hk (lv := [some (.ref 102), some (.int v1)]) rfl (Nat.le_of_ble_eq_true rfl) ?_
  intro X hc hl hR hr hnm
  subst hl
  unfold fX14_isPerson at h
  refine go_aload0 hc dX14_isPerson_0 ?_
  refine go_getQ hc lk_RX14_442 dX14_isPerson_1 (sh_102 hW) ?_
  refine go_ifnull hc 26 dX14_isPerson_4 rfl (fun c11 => ?_) (fun _ c11 => ?_)
  · replace h := goIfT h c11
    refine go_iconst (v := 0) hc dX14_isPerson_26 rfl ?_
    cases h
    exact go_zret hc dX14_isPerson_27 hr rfl
  · replace h := goIfF h (goNn c11)
    refine go_iload1 hc dX14_isPerson_7 ?_
    refine go_if_lt hc 26 dX14_isPerson_8 rfl (fun c12 => ?_) (fun c12 => ?_)
    · replace h := goIfF h c12
      refine go_iconst (v := 0) hc dX14_isPerson_26 rfl ?_
      cases h
      exact go_zret hc dX14_isPerson_27 hr rfl
    · replace h := goIfT h c12
      refine go_iload1 hc dX14_isPerson_11 ?_
      refine go_aload0 hc dX14_isPerson_12 ?_
      replace h := goBind h; obtain ⟨b13, e14, h⟩ := h
      refine go_getR hc lk_RX14_442 dX14_isPerson_13 (sh_102 hW) e14 ?_
      refine go_getI hc lk_RX14_320 dX14_isPerson_16 (shM_0 (goW_M3 hW e14)) ?_
      refine go_icmp_ge hc 26 dX14_isPerson_19 rfl (fun c15 => ?_) (fun c15 => ?_)
      · replace h := goIfF h c15
        refine go_iconst (v := 0) hc dX14_isPerson_26 rfl ?_
        cases h
        exact go_zret hc dX14_isPerson_27 hr rfl
      · replace h := goIfT h c15
        refine go_iconst (v := 1) hc dX14_isPerson_22 rfl ?_
        refine go_goto hc 27 dX14_isPerson_23 rfl ?_
        cases h
        exact go_zret hc dX14_isPerson_27 hr rfl
theorem dX14_isGoat_0 : decode cX14_isGoat 0 = .ok (.aload_n 0, 1) := by decide +kernel
theorem dX14_isGoat_1 : decode cX14_isGoat 1 = .ok (.getfield 442, 3) := by decide +kernel
theorem dX14_isGoat_4 : decode cX14_isGoat 4 = .ok (.ifnull 22, 3) := by decide +kernel
theorem dX14_isGoat_7 : decode cX14_isGoat 7 = .ok (.iload_n 1, 1) := by decide +kernel
theorem dX14_isGoat_8 : decode cX14_isGoat 8 = .ok (.ifCond .lt 18, 3) := by decide +kernel
theorem dX14_isGoat_11 : decode cX14_isGoat 11 = .ok (.iload_n 1, 1) := by decide +kernel
theorem dX14_isGoat_12 : decode cX14_isGoat 12 = .ok (.aload_n 0, 1) := by decide +kernel
theorem dX14_isGoat_13 : decode cX14_isGoat 13 = .ok (.getfield 442, 3) := by decide +kernel
theorem dX14_isGoat_16 : decode cX14_isGoat 16 = .ok (.getfield 328, 3) := by decide +kernel
theorem dX14_isGoat_19 : decode cX14_isGoat 19 = .ok (.if_icmp .ge 7, 3) := by decide +kernel
theorem dX14_isGoat_22 : decode cX14_isGoat 22 = .ok (.iconst 1, 1) := by decide +kernel
theorem dX14_isGoat_23 : decode cX14_isGoat 23 = .ok (.goto 4, 3) := by decide +kernel
theorem dX14_isGoat_26 : decode cX14_isGoat 26 = .ok (.iconst 0, 1) := by decide +kernel
theorem dX14_isGoat_27 : decode cX14_isGoat 27 = .ok (.ireturn, 1) := by decide +kernel
set_option maxRecDepth 100000 in
set_option maxHeartbeats 4000000 in
theorem mX14_isGoat {E : goEv} {l : Launch} {G : goG} {M : goMI} {L : goML} {R : goMR} {v1 : Int32} {r0 : Int32} (hk : goKn E) (hW : goW G R) (h : fX14_isGoat M R v1 = some r0) : Met l yX14_isGoat (goCd yX14_isGoat cX14_isGoat 2 (Option.some FieldType.boolean)) (goRoom 0 0 0 0) (goPre E [.ref 102, .int v1] G M L R) (goQi E r0 G M L R) 0 0 (goSet E) := by
  refine goMet pl_RX14 hk (lv := [some (.ref 102), some (.int v1)]) rfl (Nat.le_of_ble_eq_true rfl) ?_
  intro X hc hl hR hr hnm
  subst hl
  unfold fX14_isGoat at h
  refine go_aload0 hc dX14_isGoat_0 ?_
  refine go_getQ hc lk_RX14_442 dX14_isGoat_1 (sh_102 hW) ?_
  refine go_ifnull hc 26 dX14_isGoat_4 rfl (fun c11 => ?_) (fun _ c11 => ?_)
  · replace h := goIfT h c11
    refine go_iconst (v := 0) hc dX14_isGoat_26 rfl ?_
    cases h
    exact go_zret hc dX14_isGoat_27 hr rfl
  · replace h := goIfF h (goNn c11)
    refine go_iload1 hc dX14_isGoat_7 ?_
    refine go_if_lt hc 26 dX14_isGoat_8 rfl (fun c12 => ?_) (fun c12 => ?_)
    · replace h := goIfF h c12
      refine go_iconst (v := 0) hc dX14_isGoat_26 rfl ?_
      cases h
      exact go_zret hc dX14_isGoat_27 hr rfl
    · replace h := goIfT h c12
      refine go_iload1 hc dX14_isGoat_11 ?_
      refine go_aload0 hc dX14_isGoat_12 ?_
      replace h := goBind h; obtain ⟨b13, e14, h⟩ := h
      refine go_getR hc lk_RX14_442 dX14_isGoat_13 (sh_102 hW) e14 ?_
      refine go_getI hc lk_RX14_328 dX14_isGoat_16 (shM_0 (goW_M3 hW e14)) ?_
      refine go_icmp_ge hc 26 dX14_isGoat_19 rfl (fun c15 => ?_) (fun c15 => ?_)
      · replace h := goIfF h c15
        refine go_iconst (v := 0) hc dX14_isGoat_26 rfl ?_
        cases h
        exact go_zret hc dX14_isGoat_27 hr rfl
      · replace h := goIfT h c15
        refine go_iconst (v := 1) hc dX14_isGoat_22 rfl ?_
        refine go_goto hc 27 dX14_isGoat_23 rfl ?_
        cases h
        exact go_zret hc dX14_isGoat_27 hr rfl
theorem dX14_isClue_0 : decode cX14_isClue 0 = .ok (.aload_n 0, 1) := by decide +kernel
theorem dX14_isClue_1 : decode cX14_isClue 1 = .ok (.getfield 442, 3) := by decide +kernel
theorem dX14_isClue_4 : decode cX14_isClue 4 = .ok (.ifnull 22, 3) := by decide +kernel
theorem dX14_isClue_7 : decode cX14_isClue 7 = .ok (.iload_n 1, 1) := by decide +kernel
theorem dX14_isClue_8 : decode cX14_isClue 8 = .ok (.ifCond .lt 18, 3) := by decide +kernel
theorem dX14_isClue_11 : decode cX14_isClue 11 = .ok (.iload_n 1, 1) := by decide +kernel
theorem dX14_isClue_12 : decode cX14_isClue 12 = .ok (.aload_n 0, 1) := by decide +kernel
theorem dX14_isClue_13 : decode cX14_isClue 13 = .ok (.getfield 442, 3) := by decide +kernel
theorem dX14_isClue_16 : decode cX14_isClue 16 = .ok (.getfield 370, 3) := by decide +kernel
theorem dX14_isClue_19 : decode cX14_isClue 19 = .ok (.if_icmp .ge 7, 3) := by decide +kernel
theorem dX14_isClue_22 : decode cX14_isClue 22 = .ok (.iconst 1, 1) := by decide +kernel
theorem dX14_isClue_23 : decode cX14_isClue 23 = .ok (.goto 4, 3) := by decide +kernel
theorem dX14_isClue_26 : decode cX14_isClue 26 = .ok (.iconst 0, 1) := by decide +kernel
theorem dX14_isClue_27 : decode cX14_isClue 27 = .ok (.ireturn, 1) := by decide +kernel
set_option maxRecDepth 100000 in
set_option maxHeartbeats 4000000 in
theorem mX14_isClue {E : goEv} {l : Launch} {G : goG} {M : goMI} {L : goML} {R : goMR} {v1 : Int32} {r0 : Int32} (hk : goKn E) (hW : goW G R) (h : fX14_isClue M R v1 = some r0) : Met l yX14_isClue (goCd yX14_isClue cX14_isClue 2 (Option.some FieldType.boolean)) (goRoom 0 0 0 0) (goPre E [.ref 102, .int v1] G M L R) (goQi E r0 G M L R) 0 0 (goSet E) := by
  refine goMet pl_RX14 hk (lv := [some (.ref 102), some (.int v1)]) rfl (Nat.le_of_ble_eq_true rfl) ?_
  intro X hc hl hR hr hnm
  subst hl
  unfold fX14_isClue at h
  refine go_aload0 hc dX14_isClue_0 ?_
  refine go_getQ hc lk_RX14_442 dX14_isClue_1 (sh_102 hW) ?_
  refine go_ifnull hc 26 dX14_isClue_4 rfl (fun c11 => ?_) (fun _ c11 => ?_)
  · replace h := goIfT h c11
    refine go_iconst (v := 0) hc dX14_isClue_26 rfl ?_
    cases h
    exact go_zret hc dX14_isClue_27 hr rfl
  · replace h := goIfF h (goNn c11)
    refine go_iload1 hc dX14_isClue_7 ?_
    refine go_if_lt hc 26 dX14_isClue_8 rfl (fun c12 => ?_) (fun c12 => ?_)
    · replace h := goIfF h c12
      refine go_iconst (v := 0) hc dX14_isClue_26 rfl ?_
      cases h
      exact go_zret hc dX14_isClue_27 hr rfl
    · replace h := goIfT h c12
      refine go_iload1 hc dX14_isClue_11 ?_
      refine go_aload0 hc dX14_isClue_12 ?_
      replace h := goBind h; obtain ⟨b13, e14, h⟩ := h
      refine go_getR hc lk_RX14_442 dX14_isClue_13 (sh_102 hW) e14 ?_
      refine go_getI hc lk_RX14_370 dX14_isClue_16 (shM_0 (goW_M3 hW e14)) ?_
      refine go_icmp_ge hc 26 dX14_isClue_19 rfl (fun c15 => ?_) (fun c15 => ?_)
      · replace h := goIfF h c15
        refine go_iconst (v := 0) hc dX14_isClue_26 rfl ?_
        cases h
        exact go_zret hc dX14_isClue_27 hr rfl
      · replace h := goIfT h c15
        refine go_iconst (v := 1) hc dX14_isClue_22 rfl ?_
        refine go_goto hc 27 dX14_isClue_23 rfl ?_
        cases h
        exact go_zret hc dX14_isClue_27 hr rfl
theorem dX14_isCase_0 : decode cX14_isCase 0 = .ok (.aload_n 0, 1) := by decide +kernel
theorem dX14_isCase_1 : decode cX14_isCase 1 = .ok (.getfield 442, 3) := by decide +kernel
theorem dX14_isCase_4 : decode cX14_isCase 4 = .ok (.ifnull 22, 3) := by decide +kernel
theorem dX14_isCase_7 : decode cX14_isCase 7 = .ok (.iload_n 1, 1) := by decide +kernel
theorem dX14_isCase_8 : decode cX14_isCase 8 = .ok (.ifCond .lt 18, 3) := by decide +kernel
theorem dX14_isCase_11 : decode cX14_isCase 11 = .ok (.iload_n 1, 1) := by decide +kernel
theorem dX14_isCase_12 : decode cX14_isCase 12 = .ok (.aload_n 0, 1) := by decide +kernel
theorem dX14_isCase_13 : decode cX14_isCase 13 = .ok (.getfield 442, 3) := by decide +kernel
theorem dX14_isCase_16 : decode cX14_isCase 16 = .ok (.invokevirtual 450, 3) := by decide +kernel
theorem dX14_isCase_19 : decode cX14_isCase 19 = .ok (.if_icmp .ge 7, 3) := by decide +kernel
theorem dX14_isCase_22 : decode cX14_isCase 22 = .ok (.iconst 1, 1) := by decide +kernel
theorem dX14_isCase_23 : decode cX14_isCase 23 = .ok (.goto 4, 3) := by decide +kernel
theorem dX14_isCase_26 : decode cX14_isCase 26 = .ok (.iconst 0, 1) := by decide +kernel
theorem dX14_isCase_27 : decode cX14_isCase 27 = .ok (.ireturn, 1) := by decide +kernel
set_option maxRecDepth 100000 in
set_option maxHeartbeats 4000000 in
theorem mX14_isCase {E : goEv} {l : Launch} {G : goG} {N : Nat} {M : goMI} {L : goML} {R : goMR} {v1 : Int32} {r0 : Int32} (hk : goKn E) (hW : goW G R) (h : fX14_isCase N M R v1 = some r0) : Met l yX14_isCase (goCd yX14_isCase cX14_isCase 2 (Option.some FieldType.boolean)) (goRoom 1 22 0 0) (goPre E [.ref 102, .int v1] G M L R) (goQi E r0 G M L R) 0 0 (goSet E) := by
  refine goMet pl_RX14 hk (lv := [some (.ref 102), some (.int v1)]) rfl (Nat.le_of_ble_eq_true rfl) ?_
  intro X hc hl hR hr hnm
  subst hl
  unfold fX14_isCase at h
  refine go_aload0 hc dX14_isCase_0 ?_
  refine go_getQ hc lk_RX14_442 dX14_isCase_1 (sh_102 hW) ?_
  refine go_ifnull hc 26 dX14_isCase_4 rfl (fun c11 => ?_) (fun _ c11 => ?_)
  · replace h := goIfT h c11
    refine go_iconst (v := 0) hc dX14_isCase_26 rfl ?_
    cases h
    exact go_zret hc dX14_isCase_27 hr rfl
  · replace h := goIfF h (goNn c11)
    refine go_iload1 hc dX14_isCase_7 ?_
    refine go_if_lt hc 26 dX14_isCase_8 rfl (fun c12 => ?_) (fun c12 => ?_)
    · replace h := goIfF h c12
      refine go_iconst (v := 0) hc dX14_isCase_26 rfl ?_
      cases h
      exact go_zret hc dX14_isCase_27 hr rfl
    · replace h := goIfT h c12
      refine go_iload1 hc dX14_isCase_11 ?_
      refine go_aload0 hc dX14_isCase_12 ?_
      replace h := goBind h; obtain ⟨b13, e14, h⟩ := h
      refine go_getR hc lk_RX14_442 dX14_isCase_13 (sh_102 hW) e14 ?_
      replace h := goBind h; obtain ⟨x15, e16, h⟩ := h
      refine go_callVi hc dX14_isCase_16 (mX13_cases hk hW (goW_M3 hW e14) e16) ml_RX14_450 yk_X13_cases ⟨wim_X13_cases, wse_X13_cases⟩ hR rfl (shM_0 (goW_M3 hW e14)) rfl rfl rfl (Nat.le_of_ble_eq_true rfl) rfl ?_
      refine go_icmp_ge hc 26 dX14_isCase_19 rfl (fun c17 => ?_) (fun c17 => ?_)
      · replace h := goIfF h c17
        refine go_iconst (v := 0) hc dX14_isCase_26 rfl ?_
        cases h
        exact go_zret hc dX14_isCase_27 hr rfl
      · replace h := goIfT h c17
        refine go_iconst (v := 1) hc dX14_isCase_22 rfl ?_
        refine go_goto hc 27 dX14_isCase_23 rfl ?_
        cases h
        exact go_zret hc dX14_isCase_27 hr rfl
theorem dX14_isFact_0 : decode cX14_isFact 0 = .ok (.aload_n 0, 1) := by decide +kernel
theorem dX14_isFact_1 : decode cX14_isFact 1 = .ok (.getfield 442, 3) := by decide +kernel
theorem dX14_isFact_4 : decode cX14_isFact 4 = .ok (.ifnull 22, 3) := by decide +kernel
theorem dX14_isFact_7 : decode cX14_isFact 7 = .ok (.iload_n 1, 1) := by decide +kernel
theorem dX14_isFact_8 : decode cX14_isFact 8 = .ok (.ifCond .lt 18, 3) := by decide +kernel
theorem dX14_isFact_11 : decode cX14_isFact 11 = .ok (.iload_n 1, 1) := by decide +kernel
theorem dX14_isFact_12 : decode cX14_isFact 12 = .ok (.aload_n 0, 1) := by decide +kernel
theorem dX14_isFact_13 : decode cX14_isFact 13 = .ok (.getfield 442, 3) := by decide +kernel
theorem dX14_isFact_16 : decode cX14_isFact 16 = .ok (.getfield 388, 3) := by decide +kernel
theorem dX14_isFact_19 : decode cX14_isFact 19 = .ok (.if_icmp .ge 7, 3) := by decide +kernel
theorem dX14_isFact_22 : decode cX14_isFact 22 = .ok (.iconst 1, 1) := by decide +kernel
theorem dX14_isFact_23 : decode cX14_isFact 23 = .ok (.goto 4, 3) := by decide +kernel
theorem dX14_isFact_26 : decode cX14_isFact 26 = .ok (.iconst 0, 1) := by decide +kernel
theorem dX14_isFact_27 : decode cX14_isFact 27 = .ok (.ireturn, 1) := by decide +kernel
set_option maxRecDepth 100000 in
set_option maxHeartbeats 4000000 in
theorem mX14_isFact {E : goEv} {l : Launch} {G : goG} {M : goMI} {L : goML} {R : goMR} {v1 : Int32} {r0 : Int32} (hk : goKn E) (hW : goW G R) (h : fX14_isFact M R v1 = some r0) : Met l yX14_isFact (goCd yX14_isFact cX14_isFact 2 (Option.some FieldType.boolean)) (goRoom 0 0 0 0) (goPre E [.ref 102, .int v1] G M L R) (goQi E r0 G M L R) 0 0 (goSet E) := by
  refine goMet pl_RX14 hk (lv := [some (.ref 102), some (.int v1)]) rfl (Nat.le_of_ble_eq_true rfl) ?_
  intro X hc hl hR hr hnm
  subst hl
  unfold fX14_isFact at h
  refine go_aload0 hc dX14_isFact_0 ?_
  refine go_getQ hc lk_RX14_442 dX14_isFact_1 (sh_102 hW) ?_
  refine go_ifnull hc 26 dX14_isFact_4 rfl (fun c11 => ?_) (fun _ c11 => ?_)
  · replace h := goIfT h c11
    refine go_iconst (v := 0) hc dX14_isFact_26 rfl ?_
    cases h
    exact go_zret hc dX14_isFact_27 hr rfl
  · replace h := goIfF h (goNn c11)
    refine go_iload1 hc dX14_isFact_7 ?_
    refine go_if_lt hc 26 dX14_isFact_8 rfl (fun c12 => ?_) (fun c12 => ?_)
    · replace h := goIfF h c12
      refine go_iconst (v := 0) hc dX14_isFact_26 rfl ?_
      cases h
      exact go_zret hc dX14_isFact_27 hr rfl
    · replace h := goIfT h c12
      refine go_iload1 hc dX14_isFact_11 ?_
      refine go_aload0 hc dX14_isFact_12 ?_
      replace h := goBind h; obtain ⟨b13, e14, h⟩ := h
      refine go_getR hc lk_RX14_442 dX14_isFact_13 (sh_102 hW) e14 ?_
      refine go_getI hc lk_RX14_388 dX14_isFact_16 (shM_0 (goW_M3 hW e14)) ?_
      refine go_icmp_ge hc 26 dX14_isFact_19 rfl (fun c15 => ?_) (fun c15 => ?_)
      · replace h := goIfF h c15
        refine go_iconst (v := 0) hc dX14_isFact_26 rfl ?_
        cases h
        exact go_zret hc dX14_isFact_27 hr rfl
      · replace h := goIfT h c15
        refine go_iconst (v := 1) hc dX14_isFact_22 rfl ?_
        refine go_goto hc 27 dX14_isFact_23 rfl ?_
        cases h
        exact go_zret hc dX14_isFact_27 hr rfl
theorem dX14_isHour_0 : decode cX14_isHour 0 = .ok (.iload_n 1, 1) := by decide +kernel
theorem dX14_isHour_1 : decode cX14_isHour 1 = .ok (.ifCond .lt 18, 3) := by decide +kernel
theorem dX14_isHour_4 : decode cX14_isHour 4 = .ok (.iload_n 1, 1) := by decide +kernel
theorem dX14_isHour_5 : decode cX14_isHour 5 = .ok (.aload_n 0, 1) := by decide +kernel
theorem dX14_isHour_6 : decode cX14_isHour 6 = .ok (.getfield 442, 3) := by decide +kernel
theorem dX14_isHour_9 : decode cX14_isHour 9 = .ok (.getfield 196, 3) := by decide +kernel
theorem dX14_isHour_12 : decode cX14_isHour 12 = .ok (.if_icmp .ge 7, 3) := by decide +kernel
theorem dX14_isHour_15 : decode cX14_isHour 15 = .ok (.iconst 1, 1) := by decide +kernel
theorem dX14_isHour_16 : decode cX14_isHour 16 = .ok (.goto 4, 3) := by decide +kernel
theorem dX14_isHour_19 : decode cX14_isHour 19 = .ok (.iconst 0, 1) := by decide +kernel
theorem dX14_isHour_20 : decode cX14_isHour 20 = .ok (.ireturn, 1) := by decide +kernel
set_option maxRecDepth 100000 in
set_option maxHeartbeats 4000000 in
theorem mX14_isHour {E : goEv} {l : Launch} {G : goG} {M : goMI} {L : goML} {R : goMR} {v1 : Int32} {r0 : Int32} (hk : goKn E) (hW : goW G R) (h : fX14_isHour M R v1 = some r0) : Met l yX14_isHour (goCd yX14_isHour cX14_isHour 2 (Option.some FieldType.boolean)) (goRoom 0 0 0 0) (goPre E [.ref 102, .int v1] G M L R) (goQi E r0 G M L R) 0 0 (goSet E) := by
  refine goMet pl_RX14 hk (lv := [some (.ref 102), some (.int v1)]) rfl (Nat.le_of_ble_eq_true rfl) ?_
  intro X hc hl hR hr hnm
  subst hl
  unfold fX14_isHour at h
  refine go_iload1 hc dX14_isHour_0 ?_
  refine go_if_lt hc 19 dX14_isHour_1 rfl (fun c11 => ?_) (fun c11 => ?_)
  · replace h := goIfF h c11
    refine go_iconst (v := 0) hc dX14_isHour_19 rfl ?_
    cases h
    exact go_zret hc dX14_isHour_20 hr rfl
  · replace h := goIfT h c11
    refine go_iload1 hc dX14_isHour_4 ?_
    refine go_aload0 hc dX14_isHour_5 ?_
    replace h := goBind h; obtain ⟨b12, e13, h⟩ := h
    refine go_getR hc lk_RX14_442 dX14_isHour_6 (sh_102 hW) e13 ?_
    refine go_getI hc lk_RX14_196 dX14_isHour_9 (shM_0 (goW_M3 hW e13)) ?_
    refine go_icmp_ge hc 19 dX14_isHour_12 rfl (fun c14 => ?_) (fun c14 => ?_)
    · replace h := goIfF h c14
      refine go_iconst (v := 0) hc dX14_isHour_19 rfl ?_
      cases h
      exact go_zret hc dX14_isHour_20 hr rfl
    · replace h := goIfT h c14
      refine go_iconst (v := 1) hc dX14_isHour_15 rfl ?_
      refine go_goto hc 20 dX14_isHour_16 rfl ?_
      cases h
      exact go_zret hc dX14_isHour_20 hr rfl
theorem dX14_plants_0 : decode cX14_plants 0 = .ok (.aload_n 0, 1) := by decide +kernel
theorem dX14_plants_1 : decode cX14_plants 1 = .ok (.iconst 0, 1) := by decide +kernel
theorem dX14_plants_2 : decode cX14_plants 2 = .ok (.putfield 66, 3) := by decide +kernel
theorem dX14_plants_5 : decode cX14_plants 5 = .ok (.aload_n 0, 1) := by decide +kernel
theorem dX14_plants_6 : decode cX14_plants 6 = .ok (.iload_n 1, 1) := by decide +kernel
theorem dX14_plants_7 : decode cX14_plants 7 = .ok (.invokevirtual 491, 3) := by decide +kernel
theorem dX14_plants_10 : decode cX14_plants 10 = .ok (.ifCond .eq 31, 3) := by decide +kernel
theorem dX14_plants_13 : decode cX14_plants 13 = .ok (.aload_n 0, 1) := by decide +kernel
theorem dX14_plants_14 : decode cX14_plants 14 = .ok (.iload_n 2, 1) := by decide +kernel
theorem dX14_plants_15 : decode cX14_plants 15 = .ok (.invokevirtual 494, 3) := by decide +kernel
theorem dX14_plants_18 : decode cX14_plants 18 = .ok (.ifCond .eq 23, 3) := by decide +kernel
theorem dX14_plants_21 : decode cX14_plants 21 = .ok (.aload_n 0, 1) := by decide +kernel
theorem dX14_plants_22 : decode cX14_plants 22 = .ok (.aload_n 0, 1) := by decide +kernel
theorem dX14_plants_23 : decode cX14_plants 23 = .ok (.getfield 442, 3) := by decide +kernel
theorem dX14_plants_26 : decode cX14_plants 26 = .ok (.getfield 296, 3) := by decide +kernel
theorem dX14_plants_29 : decode cX14_plants 29 = .ok (.iconst 4, 1) := by decide +kernel
theorem dX14_plants_30 : decode cX14_plants 30 = .ok (.iload_n 1, 1) := by decide +kernel
theorem dX14_plants_31 : decode cX14_plants 31 = .ok (.imul, 1) := by decide +kernel
theorem dX14_plants_32 : decode cX14_plants 32 = .ok (.iload_n 2, 1) := by decide +kernel
theorem dX14_plants_33 : decode cX14_plants 33 = .ok (.iadd, 1) := by decide +kernel
theorem dX14_plants_34 : decode cX14_plants 34 = .ok (.iaload, 1) := by decide +kernel
theorem dX14_plants_35 : decode cX14_plants 35 = .ok (.invokevirtual 76, 3) := by decide +kernel
theorem dX14_plants_38 : decode cX14_plants 38 = .ok (.goto 8, 3) := by decide +kernel
theorem dX14_plants_41 : decode cX14_plants 41 = .ok (.aload_n 0, 1) := by decide +kernel
theorem dX14_plants_42 : decode cX14_plants 42 = .ok (.iconst 1, 1) := by decide +kernel
theorem dX14_plants_43 : decode cX14_plants 43 = .ok (.invokevirtual 72, 3) := by decide +kernel
theorem dX14_plants_46 : decode cX14_plants 46 = .ok (.ireturn, 1) := by decide +kernel
set_option maxRecDepth 100000 in
set_option maxHeartbeats 4000000 in
theorem mX14_plants {E : goEv} {l : Launch} {G : goG} {M : goMI} {L : goML} {R : goMR} {v1 : Int32} {v2 : Int32} {r0 : Int32} {r1 : goMI} (hk : goKn E) (hW : goW G R) (h : fX14_plants M R v1 v2 = some (r0, r1)) : Met l yX14_plants (goCd yX14_plants cX14_plants 3 (Option.some FieldType.int)) (goRoom 1 21 0 0) (goPre E [.ref 102, .int v1, .int v2] G M L R) (goQi E r0 G r1 L R) 0 0 (goSet E) := by
  refine goMet pl_RX14 hk (lv := [some (.ref 102), some (.int v1), some (.int v2)]) rfl (Nat.le_of_ble_eq_true rfl) ?_
  intro X hc hl hR hr hnm
  subst hl
  unfold fX14_plants at h
  refine go_aload0 hc dX14_plants_0 ?_
  refine go_iconst (v := 0) hc dX14_plants_1 rfl ?_
  replace h := goNm_x h; obtain ⟨M11, e12, h⟩ := h
  refine go_ptI hc lk_RX14_66 dX14_plants_2 (sh_102 hW) e12 ?_
  refine go_aload0 hc dX14_plants_5 ?_
  refine go_iload1 hc dX14_plants_6 ?_
  replace h := goBind h; obtain ⟨x13, e14, h⟩ := h
  refine go_callVi hc dX14_plants_7 (mX14_isPlace hk hW e14) ml_RX14_491 yk_X14_isPlace ⟨wim_X14_isPlace, wse_X14_isPlace⟩ hR rfl (sh_102 hW) rfl rfl rfl (Nat.le_of_ble_eq_true rfl) rfl ?_
  refine go_if_eq hc 41 dX14_plants_10 rfl (fun c15 => ?_) (fun c15 => ?_)
  · replace h := goIfT h c15
    refine go_aload0 hc dX14_plants_41 ?_
    refine go_iconst (v := 1) hc dX14_plants_42 rfl ?_
    replace h := goB2_h h; obtain ⟨x16, M17, e18, h⟩ := h
    refine go_callVi hc dX14_plants_43 (mX14_refused hk hW e18) ml_RX14_72 yk_X14_refused ⟨wim_X14_refused, wse_X14_refused⟩ hR rfl (sh_102 hW) rfl rfl rfl (Nat.le_of_ble_eq_true rfl) rfl ?_
    cases h
    exact go_iret hc dX14_plants_46 hr
  · replace h := goIfF h c15
    refine go_aload0 hc dX14_plants_13 ?_
    refine go_iload2 hc dX14_plants_14 ?_
    replace h := goBind h; obtain ⟨x19, e20, h⟩ := h
    refine go_callVi hc dX14_plants_15 (mX14_isPlant hk hW e20) ml_RX14_494 yk_X14_isPlant ⟨wim_X14_isPlant, wse_X14_isPlant⟩ hR rfl (sh_102 hW) rfl rfl rfl (Nat.le_of_ble_eq_true rfl) rfl ?_
    refine go_if_eq hc 41 dX14_plants_18 rfl (fun c21 => ?_) (fun c21 => ?_)
    · replace h := goIfT h c21
      refine go_aload0 hc dX14_plants_41 ?_
      refine go_iconst (v := 1) hc dX14_plants_42 rfl ?_
      replace h := goB2_h h; obtain ⟨x22, M23, e24, h⟩ := h
      refine go_callVi hc dX14_plants_43 (mX14_refused hk hW e24) ml_RX14_72 yk_X14_refused ⟨wim_X14_refused, wse_X14_refused⟩ hR rfl (sh_102 hW) rfl rfl rfl (Nat.le_of_ble_eq_true rfl) rfl ?_
      cases h
      exact go_iret hc dX14_plants_46 hr
    · replace h := goIfF h c21
      refine go_aload0 hc dX14_plants_21 ?_
      refine go_aload0 hc dX14_plants_22 ?_
      replace h := goBind h; obtain ⟨b25, e26, h⟩ := h
      refine go_getR hc lk_RX14_442 dX14_plants_23 (sh_102 hW) e26 ?_
      refine go_getR hc lk_RX14_296 dX14_plants_26 (shM_0 (goW_M3 hW e26)) (rfM_16 (goW_M3 hW e26)) ?_
      refine go_iconst (v := 4) hc dX14_plants_29 rfl ?_
      refine go_iload1 hc dX14_plants_30 ?_
      refine go_imul hc dX14_plants_31 ?_
      refine go_iload2 hc dX14_plants_32 ?_
      refine go_iadd hc dX14_plants_33 ?_
      replace h := goBind h; obtain ⟨x27, e28, h⟩ := h
      refine go_iald hc dX14_plants_34 (shM_1 (goW_M3 hW e26)) e28 ?_
      replace h := goB2_h h; obtain ⟨x29, M30, e31, h⟩ := h
      refine go_callVi hc dX14_plants_35 (mX14_good hk hW e31) ml_RX14_76 yk_X14_good ⟨wim_X14_good, wse_X14_good⟩ hR rfl (sh_102 hW) rfl rfl rfl (Nat.le_of_ble_eq_true rfl) rfl ?_
      refine go_goto hc 46 dX14_plants_38 rfl ?_
      cases h
      exact go_iret hc dX14_plants_46 hr
