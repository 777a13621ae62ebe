theorem dX3_worth_0 : decode cX3_worth 0 = .ok (.aload_n 0, 1) := by decide +kernel
theorem dX3_worth_1 : decode cX3_worth 1 = .ok (.getfield 15, 3) := by decide +kernel
theorem dX3_worth_4 : decode cX3_worth 4 = .ok (.iload_n 2, 1) := by decide +kernel
theorem dX3_worth_5 : decode cX3_worth 5 = .ok (.iaload, 1) := by decide +kernel
theorem dX3_worth_6 : decode cX3_worth 6 = .ok (.iload_n 3, 1) := by decide +kernel
theorem dX3_worth_7 : decode cX3_worth 7 = .ok (.ishr, 1) := by decide +kernel
theorem dX3_worth_8 : decode cX3_worth 8 = .ok (.iconst 1, 1) := by decide +kernel
theorem dX3_worth_9 : decode cX3_worth 9 = .ok (.iand, 1) := by decide +kernel
theorem dX3_worth_10 : decode cX3_worth 10 = .ok (.iconst 1, 1) := by decide +kernel
theorem dX3_worth_11 : decode cX3_worth 11 = .ok (.if_icmp .ne 5, 3) := by decide +kernel
theorem dX3_worth_14 : decode cX3_worth 14 = .ok (.iconst 0, 1) := by decide +kernel
theorem dX3_worth_15 : decode cX3_worth 15 = .ok (.ireturn, 1) := by decide +kernel
theorem dX3_worth_16 : decode cX3_worth 16 = .ok (.iconst 0, 1) := by decide +kernel
theorem dX3_worth_17 : decode cX3_worth 17 = .ok (.istore 4, 2) := by decide +kernel
theorem dX3_worth_19 : decode cX3_worth 19 = .ok (.iload 4, 2) := by decide +kernel
theorem dX3_worth_21 : decode cX3_worth 21 = .ok (.aload_n 0, 1) := by decide +kernel
theorem dX3_worth_22 : decode cX3_worth 22 = .ok (.getfield 43, 3) := by decide +kernel
theorem dX3_worth_25 : decode cX3_worth 25 = .ok (.getfield 69, 3) := by decide +kernel
theorem dX3_worth_28 : decode cX3_worth 28 = .ok (.getfield 152, 3) := by decide +kernel
theorem dX3_worth_31 : decode cX3_worth 31 = .ok (.iload_n 1, 1) := by decide +kernel
theorem dX3_worth_32 : decode cX3_worth 32 = .ok (.iaload, 1) := by decide +kernel
theorem dX3_worth_33 : decode cX3_worth 33 = .ok (.if_icmp .ge 46, 3) := by decide +kernel
theorem dX3_worth_36 : decode cX3_worth 36 = .ok (.aload_n 0, 1) := by decide +kernel
theorem dX3_worth_37 : decode cX3_worth 37 = .ok (.getfield 11, 3) := by decide +kernel
theorem dX3_worth_40 : decode cX3_worth 40 = .ok (.iload_n 3, 1) := by decide +kernel
theorem dX3_worth_41 : decode cX3_worth 41 = .ok (.iaload, 1) := by decide +kernel
theorem dX3_worth_42 : decode cX3_worth 42 = .ok (.iconst 4, 1) := by decide +kernel
theorem dX3_worth_43 : decode cX3_worth 43 = .ok (.aload_n 0, 1) := by decide +kernel
theorem dX3_worth_44 : decode cX3_worth 44 = .ok (.getfield 43, 3) := by decide +kernel
theorem dX3_worth_47 : decode cX3_worth 47 = .ok (.getfield 69, 3) := by decide +kernel
theorem dX3_worth_50 : decode cX3_worth 50 = .ok (.getfield 142, 3) := by decide +kernel
theorem dX3_worth_53 : decode cX3_worth 53 = .ok (.iload_n 1, 1) := by decide +kernel
theorem dX3_worth_54 : decode cX3_worth 54 = .ok (.iconst 4, 1) := by decide +kernel
theorem dX3_worth_55 : decode cX3_worth 55 = .ok (.imul, 1) := by decide +kernel
theorem dX3_worth_56 : decode cX3_worth 56 = .ok (.iload 4, 2) := by decide +kernel
theorem dX3_worth_58 : decode cX3_worth 58 = .ok (.iadd, 1) := by decide +kernel
theorem dX3_worth_59 : decode cX3_worth 59 = .ok (.iaload, 1) := by decide +kernel
theorem dX3_worth_60 : decode cX3_worth 60 = .ok (.imul, 1) := by decide +kernel
theorem dX3_worth_61 : decode cX3_worth 61 = .ok (.ishr, 1) := by decide +kernel
theorem dX3_worth_62 : decode cX3_worth 62 = .ok (.bipush 15, 2) := by decide +kernel
theorem dX3_worth_64 : decode cX3_worth 64 = .ok (.iand, 1) := by decide +kernel
theorem dX3_worth_65 : decode cX3_worth 65 = .ok (.ifCond .le 8, 3) := by decide +kernel
theorem dX3_worth_68 : decode cX3_worth 68 = .ok (.iconst 1, 1) := by decide +kernel
theorem dX3_worth_69 : decode cX3_worth 69 = .ok (.iload 4, 2) := by decide +kernel
theorem dX3_worth_71 : decode cX3_worth 71 = .ok (.iadd, 1) := by decide +kernel
theorem dX3_worth_72 : decode cX3_worth 72 = .ok (.ireturn, 1) := by decide +kernel
theorem dX3_worth_73 : decode cX3_worth 73 = .ok (.iinc 4 1, 3) := by decide +kernel
theorem dX3_worth_76 : decode cX3_worth 76 = .ok (.goto (-57), 3) := by decide +kernel
theorem dX3_worth_79 : decode cX3_worth 79 = .ok (.bipush 9, 2) := by decide +kernel
theorem dX3_worth_81 : decode cX3_worth 81 = .ok (.ireturn, 1) := by decide +kernel
set_option maxRecDepth 100000 in
set_option maxHeartbeats 4000000 in
theorem mX3_worth_L19 {E : goEv} {X : goX} {G : goG} {M : goMI} {L : goML} {R : goMR} {v1 : Int32} {v3 : Int32} {a0 : Nat} {r0 : Int32} (hc : goCx E X cX3_worth RX3 5) (hk : goKn E) (hR : X.2.2.2.1 = goRoom 0 0 0 0) (hr : X.2.2.2.2.2.2.2.2.1.sig.returnType = (Option.some FieldType.int)) (hW : goW G R) (m0 : a0 = 78 ∨ a0 = 92) : ∀ (n : Nat) (v4 : Int32), lX3_worth_19 v1 v3 M R a0 n v4 = some r0 → ∀ (d2 : Option Value), goA E X G 0 0 (goMQ X E (goQi E r0 G M L R) 0 0) 19 [some (.ref a0), some (.int v1), d2, some (.int v3), some (.int v4)] [] M L R := by
  intro n
  induction n with
  | zero => intro v4 h; exact nomatch h
  | succ n ih =>
    intro v4 h d2
    rw [lX3_worth_19] at h
    refine go_iload4 hc dX3_worth_19 ?_
    refine go_aload0 hc dX3_worth_21 ?_
    refine go_getR hc lk_RX3_43 dX3_worth_22 (shDay_0 hW m0) (rmDay_1 hW m0) ?_
    refine go_getR hc lk_RX3_69 dX3_worth_25 (shHill_0 hW (mmDay_1 hW m0)) (rfHill_15 hW (mmDay_1 hW m0)) ?_
    refine go_getR hc lk_RX3_152 dX3_worth_28 (shHerd_0 hW (subHerd (mmDay_1 hW m0))) (rfHerd_8 hW (subHerd (mmDay_1 hW m0))) ?_
    refine go_iload1 hc dX3_worth_31 ?_
    replace h := goBind h; obtain ⟨x14, e15, h⟩ := h
    refine go_iald hc dX3_worth_32 (shHerd_7 hW (subHerd (mmDay_1 hW m0))) e15 ?_
    refine go_icmp_ge hc 79 dX3_worth_33 rfl (fun c16 => ?_) (fun c16 => ?_)
    · replace h := goIfF h c16
      refine go_bipush (v := 9) hc dX3_worth_79 rfl ?_
      cases h
      exact go_iret hc dX3_worth_81 hr
    · replace h := goIfT h c16
      refine go_aload0 hc dX3_worth_36 ?_
      refine go_getR hc lk_RX3_11 dX3_worth_37 (shDay_0 hW m0) (rfDay_2 hW m0) ?_
      refine go_iload3 hc dX3_worth_40 ?_
      replace h := goBind h; obtain ⟨x17, e18, h⟩ := h
      refine go_iald hc dX3_worth_41 (shDay_1 hW m0) e18 ?_
      refine go_iconst (v := 4) hc dX3_worth_42 rfl ?_
      refine go_aload0 hc dX3_worth_43 ?_
      refine go_getR hc lk_RX3_43 dX3_worth_44 (shDay_0 hW m0) (rmDay_1 hW m0) ?_
      refine go_getR hc lk_RX3_69 dX3_worth_47 (shHill_0 hW (mmDay_1 hW m0)) (rfHill_15 hW (mmDay_1 hW m0)) ?_
      refine go_getR hc lk_RX3_142 dX3_worth_50 (shHerd_0 hW (subHerd (mmDay_1 hW m0))) (rfHerd_7 hW (subHerd (mmDay_1 hW m0))) ?_
      refine go_iload1 hc dX3_worth_53 ?_
      refine go_iconst (v := 4) hc dX3_worth_54 rfl ?_
      refine go_imul hc dX3_worth_55 ?_
      refine go_iload4 hc dX3_worth_56 ?_
      refine go_iadd hc dX3_worth_58 ?_
      replace h := goBind h; obtain ⟨x19, e20, h⟩ := h
      refine go_iald hc dX3_worth_59 (shHerd_6 hW (subHerd (mmDay_1 hW m0))) e20 ?_
      refine go_imul hc dX3_worth_60 ?_
      refine go_ishr hc dX3_worth_61 ?_
      refine go_bipush (v := 15) hc dX3_worth_62 rfl ?_
      refine go_iand hc dX3_worth_64 ?_
      refine go_if_le hc 73 dX3_worth_65 rfl (fun c21 => ?_) (fun c21 => ?_)
      · replace h := goIfF h c21
        refine go_iinc4 (v := (v4 + 1)) hc dX3_worth_73 rfl ?_
        refine go_goto hc 19 dX3_worth_76 rfl ?_
        exact ih _ h _
      · replace h := goIfT h c21
        refine go_iconst (v := 1) hc dX3_worth_68 rfl ?_
        refine go_iload4 hc dX3_worth_69 ?_
        refine go_iadd hc dX3_worth_71 ?_
        cases h
        exact go_iret hc dX3_worth_72 hr
set_option maxRecDepth 100000 in
set_option maxHeartbeats 4000000 in
theorem mX3_worth {E : goEv} {l : Launch} {G : goG} {N : Nat} {M : goMI} {L : goML} {R : goMR} {a0 : Nat} {v1 : Int32} {v2 : Int32} {v3 : Int32} {r0 : Int32} (hk : goKn E) (hW : goW G R) (m0 : a0 = 78 ∨ a0 = 92) (h : fX3_worth N M R a0 v1 v2 v3 = some r0) : Met l yX3_worth (goCd yX3_worth cX3_worth 5 (Option.some FieldType.int)) (goRoom 0 0 0 0) (goPre E [.ref a0, .int v1, .int v2, .int v3] G M L R) (goQi E r0 G M L R) 0 0 (goSet E) := by
  refine goMet pl_RX3 hk (lv := [some (.ref a0), some (.int v1), some (.int v2), some (.int v3), none]) rfl (Nat.le_of_ble_eq_true rfl) ?_
  intro X hc hl hR hr hnm
  subst hl
  unfold fX3_worth at h
  refine go_aload0 hc dX3_worth_0 ?_
  refine go_getR hc lk_RX3_15 dX3_worth_1 (shDay_0 hW m0) (rfDay_3 hW m0) ?_
  refine go_iload2 hc dX3_worth_4 ?_
  replace h := goBind h; obtain ⟨x11, e12, h⟩ := h
  refine go_iald hc dX3_worth_5 (shDay_2 hW m0) e12 ?_
  refine go_iload3 hc dX3_worth_6 ?_
  refine go_ishr hc dX3_worth_7 ?_
  refine go_iconst (v := 1) hc dX3_worth_8 rfl ?_
  refine go_iand hc dX3_worth_9 ?_
  refine go_iconst (v := 1) hc dX3_worth_10 rfl ?_
  refine go_icmp_ne hc 16 dX3_worth_11 rfl (fun c13 => ?_) (fun c13 => ?_)
  · replace h := goIfF h c13
    refine go_iconst (v := 0) hc dX3_worth_16 rfl ?_
    refine go_istore4 hc dX3_worth_17 ?_
    exact mX3_worth_L19 hc hk hR hr hW m0 _ _ h _
  · replace h := goIfT h c13
    refine go_iconst (v := 0) hc dX3_worth_14 rfl ?_
    cases h
    exact go_iret hc dX3_worth_15 hr
theorem dX3_best_0 : decode cX3_best 0 = .ok (.iload 4, 2) := by decide +kernel
theorem dX3_best_2 : decode cX3_best 2 = .ok (.istore 6, 2) := by decide +kernel
theorem dX3_best_4 : decode cX3_best 4 = .ok (.iload 5, 2) := by decide +kernel
theorem dX3_best_6 : decode cX3_best 6 = .ok (.iconst 1, 1) := by decide +kernel
theorem dX3_best_7 : decode cX3_best 7 = .ok (.iadd, 1) := by decide +kernel
theorem dX3_best_8 : decode cX3_best 8 = .ok (.istore 7, 2) := by decide +kernel
theorem dX3_best_10 : decode cX3_best 10 = .ok (.iconst 0, 1) := by decide +kernel
theorem dX3_best_11 : decode cX3_best 11 = .ok (.istore 8, 2) := by decide +kernel
theorem dX3_best_13 : decode cX3_best 13 = .ok (.iload 8, 2) := by decide +kernel
theorem dX3_best_15 : decode cX3_best 15 = .ok (.aload_n 0, 1) := by decide +kernel
theorem dX3_best_16 : decode cX3_best 16 = .ok (.getfield 43, 3) := by decide +kernel
theorem dX3_best_19 : decode cX3_best 19 = .ok (.getfield 149, 3) := by decide +kernel
theorem dX3_best_22 : decode cX3_best 22 = .ok (.if_icmp .ge 44, 3) := by decide +kernel
theorem dX3_best_25 : decode cX3_best 25 = .ok (.iload_n 3, 1) := by decide +kernel
theorem dX3_best_26 : decode cX3_best 26 = .ok (.iload 8, 2) := by decide +kernel
theorem dX3_best_28 : decode cX3_best 28 = .ok (.invokestatic 110, 3) := by decide +kernel
theorem dX3_best_31 : decode cX3_best 31 = .ok (.iconst 1, 1) := by decide +kernel
theorem dX3_best_32 : decode cX3_best 32 = .ok (.if_icmp .ne 28, 3) := by decide +kernel
theorem dX3_best_35 : decode cX3_best 35 = .ok (.aload_n 0, 1) := by decide +kernel
theorem dX3_best_36 : decode cX3_best 36 = .ok (.iload_n 1, 1) := by decide +kernel
theorem dX3_best_37 : decode cX3_best 37 = .ok (.iload_n 2, 1) := by decide +kernel
theorem dX3_best_38 : decode cX3_best 38 = .ok (.iload 8, 2) := by decide +kernel
theorem dX3_best_40 : decode cX3_best 40 = .ok (.invokevirtual 139, 3) := by decide +kernel
theorem dX3_best_43 : decode cX3_best 43 = .ok (.istore 9, 2) := by decide +kernel
theorem dX3_best_45 : decode cX3_best 45 = .ok (.iload 9, 2) := by decide +kernel
theorem dX3_best_47 : decode cX3_best 47 = .ok (.iload 7, 2) := by decide +kernel
theorem dX3_best_49 : decode cX3_best 49 = .ok (.if_icmp .ge 11, 3) := by decide +kernel
theorem dX3_best_52 : decode cX3_best 52 = .ok (.iload 9, 2) := by decide +kernel
theorem dX3_best_54 : decode cX3_best 54 = .ok (.istore 7, 2) := by decide +kernel
theorem dX3_best_56 : decode cX3_best 56 = .ok (.iload 8, 2) := by decide +kernel
theorem dX3_best_58 : decode cX3_best 58 = .ok (.istore 6, 2) := by decide +kernel
theorem dX3_best_60 : decode cX3_best 60 = .ok (.iinc 8 1, 3) := by decide +kernel
theorem dX3_best_63 : decode cX3_best 63 = .ok (.goto (-50), 3) := by decide +kernel
theorem dX3_best_66 : decode cX3_best 66 = .ok (.iload 6, 2) := by decide +kernel
theorem dX3_best_68 : decode cX3_best 68 = .ok (.ireturn, 1) := by decide +kernel
set_option maxRecDepth 100000 in
set_option maxHeartbeats 4000000 in
theorem mX3_best_L13 {E : goEv} {X : goX} {G : goG} {Q : State → Prop} {M : goMI} {L : goML} {R : goMR} {N : Nat} {v1 : Int32} {v2 : Int32} {v3 : Int32} {a0 : Nat} (hc : goCx E X cX3_best RX3 10) (hk : goKn E) (hR : X.2.2.2.1 = goRoom 1 24 0 0) (hr : X.2.2.2.2.2.2.2.2.1.sig.returnType = (Option.some FieldType.int)) (hW : goW G R) (m0 : a0 = 78 ∨ a0 = 92) : ∀ (n : Nat) (v6 : Int32) (v7 : Int32) (v8 : Int32) (r0 : Int32), lX3_best_13 N v1 v2 v3 M R a0 n v6 v7 v8 = some r0 → (∀ (d0 d1 d2 d3 d4 d5 d7 d8 d9 : Option Value), goA E X G 0 0 Q 66 [d0, d1, d2, d3, d4, d5, some (.int r0), d7, d8, d9] [] M L R) → ∀ (d4 d5 d9 : Option Value), goA E X G 0 0 Q 13 [some (.ref a0), some (.int v1), some (.int v2), some (.int v3), d4, d5, some (.int v6), some (.int v7), some (.int v8), d9] [] M L R := by
  intro n
  induction n with
  | zero => intro v6 v7 v8 r0 h; exact nomatch h
  | succ n ih =>
    intro v6 v7 v8 r0 h kx d4 d5 d9
    rw [lX3_best_13] at h
    refine go_iload8 hc dX3_best_13 ?_
    refine go_aload0 hc dX3_best_15 ?_
    refine go_getR hc lk_RX3_43 dX3_best_16 (shDay_0 hW m0) (rmDay_1 hW m0) ?_
    refine go_getI hc lk_RX3_149 dX3_best_19 (shHill_0 hW (mmDay_1 hW m0)) ?_
    refine go_icmp_ge hc 66 dX3_best_22 rfl (fun c13 => ?_) (fun c13 => ?_)
    · replace h := goIfF h c13
      cases h
      exact kx _ _ _ _ _ _ _ _ _
    · replace h := goIfT h c13
      refine go_iload3 hc dX3_best_25 ?_
      refine go_iload8 hc dX3_best_26 ?_
      refine go_callSi hc dX3_best_28 (mX12_bit hk hW rfl) ml_RX3_110 yk_X12_bit wst_X12_bit hR rfl rfl rfl (Nat.le_of_ble_eq_true rfl) rfl ?_
      refine go_iconst (v := 1) hc dX3_best_31 rfl ?_
      replace h := goB2_h h; obtain ⟨x14, x15, e16, h⟩ := h
      have k17 : ∀ (d4 d5 d9 : Option Value), goA E X G 0 0 Q 60 [some (.ref a0), some (.int v1), some (.int v2), some (.int v3), d4, d5, some (.int x14), some (.int x15), some (.int v8), d9] [] M L R := by
        intro d4 d5 d9
        refine go_iinc8 (v := (v8 + 1)) hc dX3_best_60 rfl ?_
        refine go_goto hc 13 dX3_best_63 rfl ?_
        exact ih _ _ _ _ h kx _ _ _
      refine go_icmp_ne hc 60 dX3_best_32 rfl (fun c18 => ?_) (fun c18 => ?_)
      · replace e16 := goIfF e16 c18
        cases e16
        exact k17 _ _ _
      · replace e16 := goIfT e16 c18
        refine go_aload0 hc dX3_best_35 ?_
        refine go_iload1 hc dX3_best_36 ?_
        refine go_iload2 hc dX3_best_37 ?_
        refine go_iload8 hc dX3_best_38 ?_
        replace e16 := goBind e16; obtain ⟨x19, e20, e16⟩ := e16
        refine go_callVi hc dX3_best_40 (mX3_worth hk hW m0 e20) ml_RX3_139 yk_X3_worth ⟨wim_X3_worth, wse_X3_worth⟩ hR rfl (shDay_0 hW m0) rfl rfl rfl (Nat.le_of_ble_eq_true rfl) rfl ?_
        refine go_istore9 hc dX3_best_43 ?_
        refine go_iload9 hc dX3_best_45 ?_
        refine go_iload7 hc dX3_best_47 ?_
        refine go_icmp_ge hc 60 dX3_best_49 rfl (fun c21 => ?_) (fun c21 => ?_)
        · replace e16 := goIfF e16 c21
          cases e16
          exact k17 _ _ _
        · replace e16 := goIfT e16 c21
          refine go_iload9 hc dX3_best_52 ?_
          refine go_istore7 hc dX3_best_54 ?_
          refine go_iload8 hc dX3_best_56 ?_
          refine go_istore6 hc dX3_best_58 ?_
          cases e16
          exact k17 _ _ _
set_option maxRecDepth 100000 in
set_option maxHeartbeats 4000000 in
theorem mX3_best {E : goEv} {l : Launch} {G : goG} {N : Nat} {M : goMI} {L : goML} {R : goMR} {a0 : Nat} {v1 : Int32} {v2 : Int32} {v3 : Int32} {v4 : Int32} {v5 : Int32} {r0 : Int32} (hk : goKn E) (hW : goW G R) (m0 : a0 = 78 ∨ a0 = 92) (h : fX3_best N M R a0 v1 v2 v3 v4 v5 = some r0) : Met l yX3_best (goCd yX3_best cX3_best 10 (Option.some FieldType.int)) (goRoom 1 24 0 0) (goPre E [.ref a0, .int v1, .int v2, .int v3, .int v4, .int v5] G M L R) (goQi E r0 G M L R) 0 0 (goSet E) := by
  refine goMet pl_RX3 hk (lv := [some (.ref a0), some (.int v1), some (.int v2), some (.int v3), some (.int v4), some (.int v5), none, none, none, none]) rfl (Nat.le_of_ble_eq_true rfl) ?_
  intro X hc hl hR hr hnm
  subst hl
  unfold fX3_best at h
  refine go_iload4 hc dX3_best_0 ?_
  refine go_istore6 hc dX3_best_2 ?_
  refine go_iload5 hc dX3_best_4 ?_
  refine go_iconst (v := 1) hc dX3_best_6 rfl ?_
  refine go_iadd hc dX3_best_7 ?_
  replace h := goNm_x h; obtain ⟨x11, e12, h⟩ := h
  refine go_nmI e12 ?_
  refine go_istore7 hc dX3_best_8 ?_
  refine go_iconst (v := 0) hc dX3_best_10 rfl ?_
  refine go_istore8 hc dX3_best_11 ?_
  replace h := goBind h; obtain ⟨x23, e22, h⟩ := h
  refine mX3_best_L13 hc hk hR hr hW m0 _ _ _ _ _ e22 (fun d0 d1 d2 d3 d4 d5 d7 d8 d9 => ?_) _ _ _
  refine go_iload6 hc dX3_best_66 ?_
  cases h
  exact go_iret hc dX3_best_68 hr
theorem dX12_countOf_0 : decode cX12_countOf 0 = .ok (.iload_n 0, 1) := by decide +kernel
theorem dX12_countOf_1 : decode cX12_countOf 1 = .ok (.iconst 4, 1) := by decide +kernel
theorem dX12_countOf_2 : decode cX12_countOf 2 = .ok (.iload_n 1, 1) := by decide +kernel
theorem dX12_countOf_3 : decode cX12_countOf 3 = .ok (.imul, 1) := by decide +kernel
theorem dX12_countOf_4 : decode cX12_countOf 4 = .ok (.ishr, 1) := by decide +kernel
theorem dX12_countOf_5 : decode cX12_countOf 5 = .ok (.bipush 15, 2) := by decide +kernel
theorem dX12_countOf_7 : decode cX12_countOf 7 = .ok (.iand, 1) := by decide +kernel
theorem dX12_countOf_8 : decode cX12_countOf 8 = .ok (.ireturn, 1) := by decide +kernel
set_option maxRecDepth 100000 in
set_option maxHeartbeats 4000000 in
theorem mX12_countOf {E : goEv} {l : Launch} {G : goG} {M : goMI} {L : goML} {R : goMR} {v0 : Int32} {v1 : Int32} {r0 : Int32} (hk : goKn E) (hW : goW G R) (h : fX12_countOf v0 v1 = r0) : Met l yX12_countOf (goCd yX12_countOf cX12_countOf 2 (Option.some FieldType.int)) (goRoom 0 0 0 0) (goPre E [.int v0, .int v1] G M L R) (goQi E r0 G M L R) 0 0 (goSet E) := by
  refine goMet pl_RX12 hk (lv := [some (.int v0), some (.int v1)]) rfl (Nat.le_of_ble_eq_true rfl) ?_
  intro X hc hl hR hr hnm
  subst hl
  unfold fX12_countOf at h
  refine go_iload0 hc dX12_countOf_0 ?_
  refine go_iconst (v := 4) hc dX12_countOf_1 rfl ?_
  refine go_iload1 hc dX12_countOf_2 ?_
  refine go_imul hc dX12_countOf_3 ?_
  refine go_ishr hc dX12_countOf_4 ?_
  refine go_bipush (v := 15) hc dX12_countOf_5 rfl ?_
  refine go_iand hc dX12_countOf_7 ?_
  subst h
  exact go_iret hc dX12_countOf_8 hr
theorem dX3_eat_0 : decode cX3_eat 0 = .ok (.aload_n 0, 1) := by decide +kernel
theorem dX3_eat_1 : decode cX3_eat 1 = .ok (.getfield 43, 3) := by decide +kernel
theorem dX3_eat_4 : decode cX3_eat 4 = .ok (.getfield 69, 3) := by decide +kernel
theorem dX3_eat_7 : decode cX3_eat 7 = .ok (.getfield 126, 3) := by decide +kernel
theorem dX3_eat_10 : decode cX3_eat 10 = .ok (.iload_n 1, 1) := by decide +kernel
theorem dX3_eat_11 : decode cX3_eat 11 = .ok (.iaload, 1) := by decide +kernel
theorem dX3_eat_12 : decode cX3_eat 12 = .ok (.iconst 2, 1) := by decide +kernel
theorem dX3_eat_13 : decode cX3_eat 13 = .ok (.if_icmp .ne 22, 3) := by decide +kernel
theorem dX3_eat_16 : decode cX3_eat 16 = .ok (.aload_n 0, 1) := by decide +kernel
theorem dX3_eat_17 : decode cX3_eat 17 = .ok (.getfield 11, 3) := by decide +kernel
theorem dX3_eat_20 : decode cX3_eat 20 = .ok (.iload_n 3, 1) := by decide +kernel
theorem dX3_eat_21 : decode cX3_eat 21 = .ok (.iaload, 1) := by decide +kernel
theorem dX3_eat_22 : decode cX3_eat 22 = .ok (.iload 4, 2) := by decide +kernel
theorem dX3_eat_24 : decode cX3_eat 24 = .ok (.invokestatic 155, 3) := by decide +kernel
theorem dX3_eat_27 : decode cX3_eat 27 = .ok (.iconst 1, 1) := by decide +kernel
theorem dX3_eat_28 : decode cX3_eat 28 = .ok (.if_icmp .le 7, 3) := by decide +kernel
theorem dX3_eat_31 : decode cX3_eat 31 = .ok (.iconst 2, 1) := by decide +kernel
theorem dX3_eat_32 : decode cX3_eat 32 = .ok (.goto 4, 3) := by decide +kernel
theorem dX3_eat_35 : decode cX3_eat 35 = .ok (.iconst 1, 1) := by decide +kernel
theorem dX3_eat_36 : decode cX3_eat 36 = .ok (.istore 5, 2) := by decide +kernel
theorem dX3_eat_38 : decode cX3_eat 38 = .ok (.aload_n 0, 1) := by decide +kernel
theorem dX3_eat_39 : decode cX3_eat 39 = .ok (.getfield 11, 3) := by decide +kernel
theorem dX3_eat_42 : decode cX3_eat 42 = .ok (.iload_n 3, 1) := by decide +kernel
theorem dX3_eat_43 : decode cX3_eat 43 = .ok (.dup2, 1) := by decide +kernel
theorem dX3_eat_44 : decode cX3_eat 44 = .ok (.iaload, 1) := by decide +kernel
theorem dX3_eat_45 : decode cX3_eat 45 = .ok (.iload 5, 2) := by decide +kernel
theorem dX3_eat_47 : decode cX3_eat 47 = .ok (.iconst 4, 1) := by decide +kernel
theorem dX3_eat_48 : decode cX3_eat 48 = .ok (.iload 4, 2) := by decide +kernel
theorem dX3_eat_50 : decode cX3_eat 50 = .ok (.imul, 1) := by decide +kernel
theorem dX3_eat_51 : decode cX3_eat 51 = .ok (.ishl, 1) := by decide +kernel
theorem dX3_eat_52 : decode cX3_eat 52 = .ok (.isub, 1) := by decide +kernel
theorem dX3_eat_53 : decode cX3_eat 53 = .ok (.iastore, 1) := by decide +kernel
theorem dX3_eat_54 : decode cX3_eat 54 = .ok (.aload_n 0, 1) := by decide +kernel
theorem dX3_eat_55 : decode cX3_eat 55 = .ok (.getfield 30, 3) := by decide +kernel
theorem dX3_eat_58 : decode cX3_eat 58 = .ok (.iload_n 1, 1) := by decide +kernel
theorem dX3_eat_59 : decode cX3_eat 59 = .ok (.iconst 4, 1) := by decide +kernel
theorem dX3_eat_60 : decode cX3_eat 60 = .ok (.imul, 1) := by decide +kernel
theorem dX3_eat_61 : decode cX3_eat 61 = .ok (.iload 4, 2) := by decide +kernel
theorem dX3_eat_63 : decode cX3_eat 63 = .ok (.iadd, 1) := by decide +kernel
theorem dX3_eat_64 : decode cX3_eat 64 = .ok (.dup2, 1) := by decide +kernel
theorem dX3_eat_65 : decode cX3_eat 65 = .ok (.iaload, 1) := by decide +kernel
theorem dX3_eat_66 : decode cX3_eat 66 = .ok (.iload 5, 2) := by decide +kernel
theorem dX3_eat_68 : decode cX3_eat 68 = .ok (.iadd, 1) := by decide +kernel
theorem dX3_eat_69 : decode cX3_eat 69 = .ok (.iastore, 1) := by decide +kernel
theorem dX3_eat_70 : decode cX3_eat 70 = .ok (.aload_n 0, 1) := by decide +kernel
theorem dX3_eat_71 : decode cX3_eat 71 = .ok (.getfield 27, 3) := by decide +kernel
theorem dX3_eat_74 : decode cX3_eat 74 = .ok (.iload_n 1, 1) := by decide +kernel
theorem dX3_eat_75 : decode cX3_eat 75 = .ok (.bipush 12, 2) := by decide +kernel
theorem dX3_eat_77 : decode cX3_eat 77 = .ok (.imul, 1) := by decide +kernel
theorem dX3_eat_78 : decode cX3_eat 78 = .ok (.iload_n 2, 1) := by decide +kernel
theorem dX3_eat_79 : decode cX3_eat 79 = .ok (.iadd, 1) := by decide +kernel
theorem dX3_eat_80 : decode cX3_eat 80 = .ok (.iload 5, 2) := by decide +kernel
theorem dX3_eat_82 : decode cX3_eat 82 = .ok (.iconst 4, 1) := by decide +kernel
theorem dX3_eat_83 : decode cX3_eat 83 = .ok (.imul, 1) := by decide +kernel
theorem dX3_eat_84 : decode cX3_eat 84 = .ok (.iload 4, 2) := by decide +kernel
theorem dX3_eat_86 : decode cX3_eat 86 = .ok (.iadd, 1) := by decide +kernel
theorem dX3_eat_87 : decode cX3_eat 87 = .ok (.iastore, 1) := by decide +kernel
theorem dX3_eat_88 : decode cX3_eat 88 = .ok (.return_, 1) := by decide +kernel
set_option maxRecDepth 100000 in
set_option maxHeartbeats 4000000 in
theorem mX3_eat {E : goEv} {l : Launch} {G : goG} {M : goMI} {L : goML} {R : goMR} {a0 : Nat} {v1 : Int32} {v2 : Int32} {v3 : Int32} {v4 : Int32} {r0 : goMI} (hk : goKn E) (hW : goW G R) (m0 : a0 = 78 ∨ a0 = 92) (h : fX3_eat M R a0 v1 v2 v3 v4 = some r0) : Met l yX3_eat (goCd yX3_eat cX3_eat 6 none) (goRoom 1 21 0 0) (goPre E [.ref a0, .int v1, .int v2, .int v3, .int v4] G M L R) (goQv E G r0 L R) 0 0 (goSet E) := by
  refine goMet pl_RX3 hk (lv := [some (.ref a0), some (.int v1), some (.int v2), some (.int v3), some (.int v4), none]) rfl (Nat.le_of_ble_eq_true rfl) ?_
  intro X hc hl hR hr hnm
  subst hl
  unfold fX3_eat at h
  refine go_aload0 hc dX3_eat_0 ?_
  refine go_getR hc lk_RX3_43 dX3_eat_1 (shDay_0 hW m0) (rmDay_1 hW m0) ?_
  refine go_getR hc lk_RX3_69 dX3_eat_4 (shHill_0 hW (mmDay_1 hW m0)) (rfHill_15 hW (mmDay_1 hW m0)) ?_
  refine go_getR hc lk_RX3_126 dX3_eat_7 (shHerd_0 hW (subHerd (mmDay_1 hW m0))) (rfHerd_2 hW (subHerd (mmDay_1 hW m0))) ?_
  refine go_iload1 hc dX3_eat_10 ?_
  replace h := goBind h; obtain ⟨x11, e12, h⟩ := h
  refine go_iald hc dX3_eat_11 (shHerd_1 hW (subHerd (mmDay_1 hW m0))) e12 ?_
  refine go_iconst (v := 2) hc dX3_eat_12 rfl ?_
  replace h := goBind h; obtain ⟨x13, e14, h⟩ := h
  have k15 : ∀ (d5 : Option Value), goA E X G 0 0 (goMQ X E (goQv E G r0 L R) 0 0) 36 [some (.ref a0), some (.int v1), some (.int v2), some (.int v3), some (.int v4), d5] [.int x13] M L R := by
    intro d5
    refine go_istore5 hc dX3_eat_36 ?_
    refine go_aload0 hc dX3_eat_38 ?_
    refine go_getR hc lk_RX3_11 dX3_eat_39 (shDay_0 hW m0) (rfDay_2 hW m0) ?_
    refine go_iload3 hc dX3_eat_42 ?_
    refine go_dup2 hc dX3_eat_43 ?_
    replace h := goBind h; obtain ⟨x20, e21, h⟩ := h
    refine go_iald hc dX3_eat_44 (shDay_1 hW m0) e21 ?_
    refine go_iload5 hc dX3_eat_45 ?_
    refine go_iconst (v := 4) hc dX3_eat_47 rfl ?_
    refine go_iload4 hc dX3_eat_48 ?_
    refine go_imul hc dX3_eat_50 ?_
    refine go_ishl hc dX3_eat_51 ?_
    refine go_isub hc dX3_eat_52 ?_
    replace h := goBind h; obtain ⟨M22, e23, h⟩ := h
    refine go_iast hc dX3_eat_53 (shDay_1 hW m0) e23 ?_
    refine go_aload0 hc dX3_eat_54 ?_
    refine go_getR hc lk_RX3_30 dX3_eat_55 (shDay_0 hW m0) (rfDay_8 hW m0) ?_
    refine go_iload1 hc dX3_eat_58 ?_
    refine go_iconst (v := 4) hc dX3_eat_59 rfl ?_
    refine go_imul hc dX3_eat_60 ?_
    refine go_iload4 hc dX3_eat_61 ?_
    refine go_iadd hc dX3_eat_63 ?_
    refine go_dup2 hc dX3_eat_64 ?_
    replace h := goBind h; obtain ⟨x24, e25, h⟩ := h
    refine go_iald hc dX3_eat_65 (shDay_7 hW m0) e25 ?_
    refine go_iload5 hc dX3_eat_66 ?_
    refine go_iadd hc dX3_eat_68 ?_
    replace h := goBind h; obtain ⟨M26, e27, h⟩ := h
    refine go_iast hc dX3_eat_69 (shDay_7 hW m0) e27 ?_
    refine go_aload0 hc dX3_eat_70 ?_
    refine go_getR hc lk_RX3_27 dX3_eat_71 (shDay_0 hW m0) (rfDay_7 hW m0) ?_
    refine go_iload1 hc dX3_eat_74 ?_
    refine go_bipush (v := 12) hc dX3_eat_75 rfl ?_
    refine go_imul hc dX3_eat_77 ?_
    refine go_iload2 hc dX3_eat_78 ?_
    refine go_iadd hc dX3_eat_79 ?_
    refine go_iload5 hc dX3_eat_80 ?_
    refine go_iconst (v := 4) hc dX3_eat_82 rfl ?_
    refine go_imul hc dX3_eat_83 ?_
    refine go_iload4 hc dX3_eat_84 ?_
    refine go_iadd hc dX3_eat_86 ?_
    replace h := goBind h; obtain ⟨M28, e29, h⟩ := h
    refine go_iast hc dX3_eat_87 (shDay_6 hW m0) e29 ?_
    cases h
    exact go_vret hc dX3_eat_88 hr
  refine go_icmp_ne hc 35 dX3_eat_13 rfl (fun c16 => ?_) (fun c16 => ?_)
  · replace e14 := goIfF e14 c16
    refine go_iconst (v := 1) hc dX3_eat_35 rfl ?_
    cases e14
    exact k15 _
  · replace e14 := goIfT e14 c16
    refine go_aload0 hc dX3_eat_16 ?_
    refine go_getR hc lk_RX3_11 dX3_eat_17 (shDay_0 hW m0) (rfDay_2 hW m0) ?_
    refine go_iload3 hc dX3_eat_20 ?_
    replace e14 := goBind e14; obtain ⟨x17, e18, e14⟩ := e14
    refine go_iald hc dX3_eat_21 (shDay_1 hW m0) e18 ?_
    refine go_iload4 hc dX3_eat_22 ?_
    refine go_callSi hc dX3_eat_24 (mX12_countOf hk hW rfl) ml_RX3_155 yk_X12_countOf wst_X12_countOf hR rfl rfl rfl (Nat.le_of_ble_eq_true rfl) rfl ?_
    refine go_iconst (v := 1) hc dX3_eat_27 rfl ?_
    refine go_icmp_le hc 35 dX3_eat_28 rfl (fun c19 => ?_) (fun c19 => ?_)
    · replace e14 := goIfF e14 c19
      refine go_iconst (v := 1) hc dX3_eat_35 rfl ?_
      cases e14
      exact k15 _
    · replace e14 := goIfT e14 c19
      refine go_iconst (v := 2) hc dX3_eat_31 rfl ?_
      refine go_goto hc 36 dX3_eat_32 rfl ?_
      cases e14
      exact k15 _
theorem dX3_turn_0 : decode cX3_turn 0 = .ok (.aload_n 0, 1) := by decide +kernel
theorem dX3_turn_1 : decode cX3_turn 1 = .ok (.getfield 11, 3) := by decide +kernel
theorem dX3_turn_4 : decode cX3_turn 4 = .ok (.bipush 8, 2) := by decide +kernel
theorem dX3_turn_6 : decode cX3_turn 6 = .ok (.iload_n 1, 1) := by decide +kernel
theorem dX3_turn_7 : decode cX3_turn 7 = .ok (.iadd, 1) := by decide +kernel
theorem dX3_turn_8 : decode cX3_turn 8 = .ok (.iaload, 1) := by decide +kernel
theorem dX3_turn_9 : decode cX3_turn 9 = .ok (.istore_n 3, 1) := by decide +kernel
theorem dX3_turn_10 : decode cX3_turn 10 = .ok (.aload_n 0, 1) := by decide +kernel
theorem dX3_turn_11 : decode cX3_turn 11 = .ok (.getfield 21, 3) := by decide +kernel
theorem dX3_turn_14 : decode cX3_turn 14 = .ok (.iload_n 1, 1) := by decide +kernel
theorem dX3_turn_15 : decode cX3_turn 15 = .ok (.bipush 12, 2) := by decide +kernel
theorem dX3_turn_17 : decode cX3_turn 17 = .ok (.imul, 1) := by decide +kernel
theorem dX3_turn_18 : decode cX3_turn 18 = .ok (.iload_n 2, 1) := by decide +kernel
theorem dX3_turn_19 : decode cX3_turn 19 = .ok (.iadd, 1) := by decide +kernel
theorem dX3_turn_20 : decode cX3_turn 20 = .ok (.iaload, 1) := by decide +kernel
theorem dX3_turn_21 : decode cX3_turn 21 = .ok (.istore 4, 2) := by decide +kernel
theorem dX3_turn_23 : decode cX3_turn 23 = .ok (.aload_n 0, 1) := by decide +kernel
theorem dX3_turn_24 : decode cX3_turn 24 = .ok (.getfield 43, 3) := by decide +kernel
theorem dX3_turn_27 : decode cX3_turn 27 = .ok (.getfield 69, 3) := by decide +kernel
theorem dX3_turn_30 : decode cX3_turn 30 = .ok (.getfield 126, 3) := by decide +kernel
theorem dX3_turn_33 : decode cX3_turn 33 = .ok (.iload_n 1, 1) := by decide +kernel
theorem dX3_turn_34 : decode cX3_turn 34 = .ok (.iaload, 1) := by decide +kernel
theorem dX3_turn_35 : decode cX3_turn 35 = .ok (.iconst 2, 1) := by decide +kernel
theorem dX3_turn_36 : decode cX3_turn 36 = .ok (.if_icmp .eq 17, 3) := by decide +kernel
theorem dX3_turn_39 : decode cX3_turn 39 = .ok (.iload 4, 2) := by decide +kernel
theorem dX3_turn_41 : decode cX3_turn 41 = .ok (.aload_n 0, 1) := by decide +kernel
theorem dX3_turn_42 : decode cX3_turn 42 = .ok (.getfield 15, 3) := by decide +kernel
theorem dX3_turn_45 : decode cX3_turn 45 = .ok (.bipush 12, 2) := by decide +kernel
theorem dX3_turn_47 : decode cX3_turn 47 = .ok (.iload_n 2, 1) := by decide +kernel
theorem dX3_turn_48 : decode cX3_turn 48 = .ok (.iadd, 1) := by decide +kernel
theorem dX3_turn_49 : decode cX3_turn 49 = .ok (.iaload, 1) := by decide +kernel
theorem dX3_turn_50 : decode cX3_turn 50 = .ok (.ior, 1) := by decide +kernel
theorem dX3_turn_51 : decode cX3_turn 51 = .ok (.istore 4, 2) := by decide +kernel
theorem dX3_turn_53 : decode cX3_turn 53 = .ok (.aload_n 0, 1) := by decide +kernel
theorem dX3_turn_54 : decode cX3_turn 54 = .ok (.getfield 18, 3) := by decide +kernel
theorem dX3_turn_57 : decode cX3_turn 57 = .ok (.iload_n 3, 1) := by decide +kernel
theorem dX3_turn_58 : decode cX3_turn 58 = .ok (.iaload, 1) := by decide +kernel
theorem dX3_turn_59 : decode cX3_turn 59 = .ok (.iload 4, 2) := by decide +kernel
theorem dX3_turn_61 : decode cX3_turn 61 = .ok (.iconst (-1), 1) := by decide +kernel
theorem dX3_turn_62 : decode cX3_turn 62 = .ok (.ixor, 1) := by decide +kernel
theorem dX3_turn_63 : decode cX3_turn 63 = .ok (.iand, 1) := by decide +kernel
theorem dX3_turn_64 : decode cX3_turn 64 = .ok (.istore 5, 2) := by decide +kernel
theorem dX3_turn_66 : decode cX3_turn 66 = .ok (.iload_n 3, 1) := by decide +kernel
theorem dX3_turn_67 : decode cX3_turn 67 = .ok (.istore 6, 2) := by decide +kernel
theorem dX3_turn_69 : decode cX3_turn 69 = .ok (.aload_n 0, 1) := by decide +kernel
theorem dX3_turn_70 : decode cX3_turn 70 = .ok (.getfield 27, 3) := by decide +kernel
theorem dX3_turn_73 : decode cX3_turn 73 = .ok (.iload_n 1, 1) := by decide +kernel
theorem dX3_turn_74 : decode cX3_turn 74 = .ok (.bipush 12, 2) := by decide +kernel
theorem dX3_turn_76 : decode cX3_turn 76 = .ok (.imul, 1) := by decide +kernel
theorem dX3_turn_77 : decode cX3_turn 77 = .ok (.iload_n 2, 1) := by decide +kernel
theorem dX3_turn_78 : decode cX3_turn 78 = .ok (.iadd, 1) := by decide +kernel
theorem dX3_turn_79 : decode cX3_turn 79 = .ok (.iconst 0, 1) := by decide +kernel
theorem dX3_turn_80 : decode cX3_turn 80 = .ok (.iastore, 1) := by decide +kernel
theorem dX3_turn_81 : decode cX3_turn 81 = .ok (.aload_n 0, 1) := by decide +kernel
theorem dX3_turn_82 : decode cX3_turn 82 = .ok (.iload_n 1, 1) := by decide +kernel
theorem dX3_turn_83 : decode cX3_turn 83 = .ok (.iload_n 3, 1) := by decide +kernel
theorem dX3_turn_84 : decode cX3_turn 84 = .ok (.invokevirtual 129, 3) := by decide +kernel
theorem dX3_turn_87 : decode cX3_turn 87 = .ok (.ifCond .eq 28, 3) := by decide +kernel
theorem dX3_turn_90 : decode cX3_turn 90 = .ok (.aload_n 0, 1) := by decide +kernel
theorem dX3_turn_91 : decode cX3_turn 91 = .ok (.getfield 11, 3) := by decide +kernel
theorem dX3_turn_94 : decode cX3_turn 94 = .ok (.bipush 8, 2) := by decide +kernel
theorem dX3_turn_96 : decode cX3_turn 96 = .ok (.aload_n 0, 1) := by decide +kernel
theorem dX3_turn_97 : decode cX3_turn 97 = .ok (.getfield 43, 3) := by decide +kernel
theorem dX3_turn_100 : decode cX3_turn 100 = .ok (.getfield 69, 3) := by decide +kernel
theorem dX3_turn_103 : decode cX3_turn 103 = .ok (.getfield 132, 3) := by decide +kernel
theorem dX3_turn_106 : decode cX3_turn 106 = .ok (.iload_n 1, 1) := by decide +kernel
theorem dX3_turn_107 : decode cX3_turn 107 = .ok (.iaload, 1) := by decide +kernel
theorem dX3_turn_108 : decode cX3_turn 108 = .ok (.iadd, 1) := by decide +kernel
theorem dX3_turn_109 : decode cX3_turn 109 = .ok (.iaload, 1) := by decide +kernel
theorem dX3_turn_110 : decode cX3_turn 110 = .ok (.istore 6, 2) := by decide +kernel
theorem dX3_turn_112 : decode cX3_turn 112 = .ok (.goto 151, 3) := by decide +kernel
theorem dX3_turn_115 : decode cX3_turn 115 = .ok (.iload 4, 2) := by decide +kernel
theorem dX3_turn_117 : decode cX3_turn 117 = .ok (.iload_n 3, 1) := by decide +kernel
theorem dX3_turn_118 : decode cX3_turn 118 = .ok (.invokestatic 110, 3) := by decide +kernel
theorem dX3_turn_121 : decode cX3_turn 121 = .ok (.iconst 1, 1) := by decide +kernel
theorem dX3_turn_122 : decode cX3_turn 122 = .ok (.if_icmp .ne 39, 3) := by decide +kernel
theorem dX3_turn_125 : decode cX3_turn 125 = .ok (.aload_n 0, 1) := by decide +kernel
theorem dX3_turn_126 : decode cX3_turn 126 = .ok (.iload_n 1, 1) := by decide +kernel
theorem dX3_turn_127 : decode cX3_turn 127 = .ok (.iload_n 2, 1) := by decide +kernel
theorem dX3_turn_128 : decode cX3_turn 128 = .ok (.iload 5, 2) := by decide +kernel
theorem dX3_turn_130 : decode cX3_turn 130 = .ok (.iload_n 3, 1) := by decide +kernel
theorem dX3_turn_131 : decode cX3_turn 131 = .ok (.bipush 9, 2) := by decide +kernel
theorem dX3_turn_133 : decode cX3_turn 133 = .ok (.invokevirtual 135, 3) := by decide +kernel
theorem dX3_turn_136 : decode cX3_turn 136 = .ok (.istore 6, 2) := by decide +kernel
theorem dX3_turn_138 : decode cX3_turn 138 = .ok (.aload_n 0, 1) := by decide +kernel
theorem dX3_turn_139 : decode cX3_turn 139 = .ok (.getfield 36, 3) := by decide +kernel
theorem dX3_turn_142 : decode cX3_turn 142 = .ok (.iload_n 1, 1) := by decide +kernel
theorem dX3_turn_143 : decode cX3_turn 143 = .ok (.dup2, 1) := by decide +kernel
theorem dX3_turn_144 : decode cX3_turn 144 = .ok (.iaload, 1) := by decide +kernel
theorem dX3_turn_145 : decode cX3_turn 145 = .ok (.iload 6, 2) := by decide +kernel
theorem dX3_turn_147 : decode cX3_turn 147 = .ok (.iload_n 3, 1) := by decide +kernel
theorem dX3_turn_148 : decode cX3_turn 148 = .ok (.if_icmp .ne 7, 3) := by decide +kernel
theorem dX3_turn_151 : decode cX3_turn 151 = .ok (.iconst 0, 1) := by decide +kernel
theorem dX3_turn_152 : decode cX3_turn 152 = .ok (.goto 4, 3) := by decide +kernel
theorem dX3_turn_155 : decode cX3_turn 155 = .ok (.iconst 1, 1) := by decide +kernel
theorem dX3_turn_156 : decode cX3_turn 156 = .ok (.iadd, 1) := by decide +kernel
theorem dX3_turn_157 : decode cX3_turn 157 = .ok (.iastore, 1) := by decide +kernel
theorem dX3_turn_158 : decode cX3_turn 158 = .ok (.goto 105, 3) := by decide +kernel
theorem dX3_turn_161 : decode cX3_turn 161 = .ok (.aload_n 0, 1) := by decide +kernel
theorem dX3_turn_162 : decode cX3_turn 162 = .ok (.getfield 15, 3) := by decide +kernel
theorem dX3_turn_165 : decode cX3_turn 165 = .ok (.iload_n 2, 1) := by decide +kernel
theorem dX3_turn_166 : decode cX3_turn 166 = .ok (.iaload, 1) := by decide +kernel
theorem dX3_turn_167 : decode cX3_turn 167 = .ok (.iload_n 3, 1) := by decide +kernel
theorem dX3_turn_168 : decode cX3_turn 168 = .ok (.invokestatic 110, 3) := by decide +kernel
theorem dX3_turn_171 : decode cX3_turn 171 = .ok (.ifCond .ne 92, 3) := by decide +kernel
theorem dX3_turn_174 : decode cX3_turn 174 = .ok (.iload 5, 2) := by decide +kernel
theorem dX3_turn_176 : decode cX3_turn 176 = .ok (.aload_n 0, 1) := by decide +kernel
theorem dX3_turn_177 : decode cX3_turn 177 = .ok (.getfield 15, 3) := by decide +kernel
theorem dX3_turn_180 : decode cX3_turn 180 = .ok (.iload_n 2, 1) := by decide +kernel
theorem dX3_turn_181 : decode cX3_turn 181 = .ok (.iaload, 1) := by decide +kernel
theorem dX3_turn_182 : decode cX3_turn 182 = .ok (.iand, 1) := by decide +kernel
theorem dX3_turn_183 : decode cX3_turn 183 = .ok (.istore 7, 2) := by decide +kernel
theorem dX3_turn_185 : decode cX3_turn 185 = .ok (.aload_n 0, 1) := by decide +kernel
theorem dX3_turn_186 : decode cX3_turn 186 = .ok (.iload_n 1, 1) := by decide +kernel
theorem dX3_turn_187 : decode cX3_turn 187 = .ok (.iload_n 2, 1) := by decide +kernel
theorem dX3_turn_188 : decode cX3_turn 188 = .ok (.iload_n 3, 1) := by decide +kernel
theorem dX3_turn_189 : decode cX3_turn 189 = .ok (.invokevirtual 139, 3) := by decide +kernel
theorem dX3_turn_192 : decode cX3_turn 192 = .ok (.istore 8, 2) := by decide +kernel
theorem dX3_turn_194 : decode cX3_turn 194 = .ok (.iload 7, 2) := by decide +kernel
theorem dX3_turn_196 : decode cX3_turn 196 = .ok (.ifCond .eq 18, 3) := by decide +kernel
theorem dX3_turn_199 : decode cX3_turn 199 = .ok (.aload_n 0, 1) := by decide +kernel
theorem dX3_turn_200 : decode cX3_turn 200 = .ok (.iload_n 1, 1) := by decide +kernel
theorem dX3_turn_201 : decode cX3_turn 201 = .ok (.iload_n 2, 1) := by decide +kernel
theorem dX3_turn_202 : decode cX3_turn 202 = .ok (.iload 7, 2) := by decide +kernel
theorem dX3_turn_204 : decode cX3_turn 204 = .ok (.iload_n 3, 1) := by decide +kernel
theorem dX3_turn_205 : decode cX3_turn 205 = .ok (.iconst 0, 1) := by decide +kernel
theorem dX3_turn_206 : decode cX3_turn 206 = .ok (.invokevirtual 135, 3) := by decide +kernel
theorem dX3_turn_209 : decode cX3_turn 209 = .ok (.istore 6, 2) := by decide +kernel
theorem dX3_turn_211 : decode cX3_turn 211 = .ok (.goto 52, 3) := by decide +kernel
theorem dX3_turn_214 : decode cX3_turn 214 = .ok (.iload 8, 2) := by decide +kernel
theorem dX3_turn_216 : decode cX3_turn 216 = .ok (.bipush 9, 2) := by decide +kernel
theorem dX3_turn_218 : decode cX3_turn 218 = .ok (.if_icmp .ge 32, 3) := by decide +kernel
theorem dX3_turn_221 : decode cX3_turn 221 = .ok (.aload_n 0, 1) := by decide +kernel
theorem dX3_turn_222 : decode cX3_turn 222 = .ok (.iload_n 1, 1) := by decide +kernel
theorem dX3_turn_223 : decode cX3_turn 223 = .ok (.iload_n 2, 1) := by decide +kernel
theorem dX3_turn_224 : decode cX3_turn 224 = .ok (.iload_n 3, 1) := by decide +kernel
theorem dX3_turn_225 : decode cX3_turn 225 = .ok (.aload_n 0, 1) := by decide +kernel
theorem dX3_turn_226 : decode cX3_turn 226 = .ok (.getfield 43, 3) := by decide +kernel
theorem dX3_turn_229 : decode cX3_turn 229 = .ok (.getfield 69, 3) := by decide +kernel
theorem dX3_turn_232 : decode cX3_turn 232 = .ok (.getfield 142, 3) := by decide +kernel
theorem dX3_turn_235 : decode cX3_turn 235 = .ok (.iload_n 1, 1) := by decide +kernel
theorem dX3_turn_236 : decode cX3_turn 236 = .ok (.iconst 4, 1) := by decide +kernel
theorem dX3_turn_237 : decode cX3_turn 237 = .ok (.imul, 1) := by decide +kernel
theorem dX3_turn_238 : decode cX3_turn 238 = .ok (.iload 8, 2) := by decide +kernel
theorem dX3_turn_240 : decode cX3_turn 240 = .ok (.iadd, 1) := by decide +kernel
theorem dX3_turn_241 : decode cX3_turn 241 = .ok (.iconst 1, 1) := by decide +kernel
theorem dX3_turn_242 : decode cX3_turn 242 = .ok (.isub, 1) := by decide +kernel
theorem dX3_turn_243 : decode cX3_turn 243 = .ok (.iaload, 1) := by decide +kernel
theorem dX3_turn_244 : decode cX3_turn 244 = .ok (.invokevirtual 145, 3) := by decide +kernel
theorem dX3_turn_247 : decode cX3_turn 247 = .ok (.goto 16, 3) := by decide +kernel
theorem dX3_turn_250 : decode cX3_turn 250 = .ok (.aload_n 0, 1) := by decide +kernel
theorem dX3_turn_251 : decode cX3_turn 251 = .ok (.iload_n 1, 1) := by decide +kernel
theorem dX3_turn_252 : decode cX3_turn 252 = .ok (.iload_n 2, 1) := by decide +kernel
theorem dX3_turn_253 : decode cX3_turn 253 = .ok (.iload 5, 2) := by decide +kernel
theorem dX3_turn_255 : decode cX3_turn 255 = .ok (.iload_n 3, 1) := by decide +kernel
theorem dX3_turn_256 : decode cX3_turn 256 = .ok (.bipush 8, 2) := by decide +kernel
theorem dX3_turn_258 : decode cX3_turn 258 = .ok (.invokevirtual 135, 3) := by decide +kernel
theorem dX3_turn_261 : decode cX3_turn 261 = .ok (.istore 6, 2) := by decide +kernel
theorem dX3_turn_263 : decode cX3_turn 263 = .ok (.aload_n 0, 1) := by decide +kernel
theorem dX3_turn_264 : decode cX3_turn 264 = .ok (.getfield 11, 3) := by decide +kernel
theorem dX3_turn_267 : decode cX3_turn 267 = .ok (.bipush 8, 2) := by decide +kernel
theorem dX3_turn_269 : decode cX3_turn 269 = .ok (.iload_n 1, 1) := by decide +kernel
theorem dX3_turn_270 : decode cX3_turn 270 = .ok (.iadd, 1) := by decide +kernel
theorem dX3_turn_271 : decode cX3_turn 271 = .ok (.iload 6, 2) := by decide +kernel
theorem dX3_turn_273 : decode cX3_turn 273 = .ok (.iastore, 1) := by decide +kernel
theorem dX3_turn_274 : decode cX3_turn 274 = .ok (.aload_n 0, 1) := by decide +kernel
theorem dX3_turn_275 : decode cX3_turn 275 = .ok (.getfield 24, 3) := by decide +kernel
theorem dX3_turn_278 : decode cX3_turn 278 = .ok (.iload_n 1, 1) := by decide +kernel
theorem dX3_turn_279 : decode cX3_turn 279 = .ok (.bipush 12, 2) := by decide +kernel
theorem dX3_turn_281 : decode cX3_turn 281 = .ok (.imul, 1) := by decide +kernel
theorem dX3_turn_282 : decode cX3_turn 282 = .ok (.iload_n 2, 1) := by decide +kernel
theorem dX3_turn_283 : decode cX3_turn 283 = .ok (.iadd, 1) := by decide +kernel
theorem dX3_turn_284 : decode cX3_turn 284 = .ok (.iload 6, 2) := by decide +kernel
theorem dX3_turn_286 : decode cX3_turn 286 = .ok (.iastore, 1) := by decide +kernel
theorem dX3_turn_287 : decode cX3_turn 287 = .ok (.return_, 1) := by decide +kernel
set_option maxRecDepth 100000 in
set_option maxHeartbeats 4000000 in
theorem mX3_turn {E : goEv} {l : Launch} {G : goG} {N : Nat} {M : goMI} {L : goML} {R : goMR} {a0 : Nat} {v1 : Int32} {v2 : Int32} {r0 : goMI} (hk : goKn E) (hW : goW G R) (m0 : a0 = 78 ∨ a0 = 92) (h : fX3_turn N M R a0 v1 v2 = some r0) : Met l yX3_turn (goCd yX3_turn cX3_turn 9 none) (goRoom 2 53 0 0) (goPre E [.ref a0, .int v1, .int v2] G M L R) (goQv E G r0 L R) 0 0 (goSet E) := by
  refine goMet pl_RX3 hk (lv := [some (.ref a0), some (.int v1), some (.int v2), none, none, none, none, none, none]) rfl (Nat.le_of_ble_eq_true rfl) ?_
  intro X hc hl hR hr hnm
  subst hl
  unfold fX3_turn at h
  refine go_aload0 hc dX3_turn_0 ?_
  refine go_getR hc lk_RX3_11 dX3_turn_1 (shDay_0 hW m0) (rfDay_2 hW m0) ?_
  refine go_bipush (v := 8) hc dX3_turn_4 rfl ?_
  refine go_iload1 hc dX3_turn_6 ?_
  refine go_iadd hc dX3_turn_7 ?_
  replace h := goBind h; obtain ⟨x11, e12, h⟩ := h
  refine go_iald hc dX3_turn_8 (shDay_1 hW m0) e12 ?_
  refine go_istore3 hc dX3_turn_9 ?_
  refine go_aload0 hc dX3_turn_10 ?_
  refine go_getR hc lk_RX3_21 dX3_turn_11 (shDay_0 hW m0) (rfDay_5 hW m0) ?_
  refine go_iload1 hc dX3_turn_14 ?_
  refine go_bipush (v := 12) hc dX3_turn_15 rfl ?_
  refine go_imul hc dX3_turn_17 ?_
  refine go_iload2 hc dX3_turn_18 ?_
  refine go_iadd hc dX3_turn_19 ?_
  replace h := goBind h; obtain ⟨x13, e14, h⟩ := h
  refine go_iald hc dX3_turn_20 (shDay_4 hW m0) e14 ?_
  refine go_istore4 hc dX3_turn_21 ?_
  refine go_aload0 hc dX3_turn_23 ?_
  refine go_getR hc lk_RX3_43 dX3_turn_24 (shDay_0 hW m0) (rmDay_1 hW m0) ?_
  refine go_getR hc lk_RX3_69 dX3_turn_27 (shHill_0 hW (mmDay_1 hW m0)) (rfHill_15 hW (mmDay_1 hW m0)) ?_
  refine go_getR hc lk_RX3_126 dX3_turn_30 (shHerd_0 hW (subHerd (mmDay_1 hW m0))) (rfHerd_2 hW (subHerd (mmDay_1 hW m0))) ?_
  refine go_iload1 hc dX3_turn_33 ?_
  replace h := goBind h; obtain ⟨x15, e16, h⟩ := h
  refine go_iald hc dX3_turn_34 (shHerd_1 hW (subHerd (mmDay_1 hW m0))) e16 ?_
  refine go_iconst (v := 2) hc dX3_turn_35 rfl ?_
  replace h := goBind h; obtain ⟨x17, e18, h⟩ := h
  have k19 : ∀ (d5 d6 d7 d8 : Option Value), goA E X G 0 0 (goMQ X E (goQv E G r0 L R) 0 0) 53 [some (.ref a0), some (.int v1), some (.int v2), some (.int x11), some (.int x17), d5, d6, d7, d8] [] M L R := by
    intro d5 d6 d7 d8
    refine go_aload0 hc dX3_turn_53 ?_
    refine go_getR hc lk_RX3_18 dX3_turn_54 (shDay_0 hW m0) (rfDay_4 hW m0) ?_
    refine go_iload3 hc dX3_turn_57 ?_
    replace h := goBind h; obtain ⟨x25, e26, h⟩ := h
    refine go_iald hc dX3_turn_58 (shDay_3 hW m0) e26 ?_
    refine go_iload4 hc dX3_turn_59 ?_
    refine go_iconst (v := (-1)) hc dX3_turn_61 rfl ?_
    refine go_ixor hc dX3_turn_62 ?_
    refine go_iand hc dX3_turn_63 ?_
    replace h := goNm_x h; obtain ⟨x27, e28, h⟩ := h
    refine go_nmI e28 ?_
    refine go_istore5 hc dX3_turn_64 ?_
    refine go_iload3 hc dX3_turn_66 ?_
    refine go_istore6 hc dX3_turn_67 ?_
    refine go_aload0 hc dX3_turn_69 ?_
    refine go_getR hc lk_RX3_27 dX3_turn_70 (shDay_0 hW m0) (rfDay_7 hW m0) ?_
    refine go_iload1 hc dX3_turn_73 ?_
    refine go_bipush (v := 12) hc dX3_turn_74 rfl ?_
    refine go_imul hc dX3_turn_76 ?_
    refine go_iload2 hc dX3_turn_77 ?_
    refine go_iadd hc dX3_turn_78 ?_
    refine go_iconst (v := 0) hc dX3_turn_79 rfl ?_
    replace h := goBind h; obtain ⟨M29, e30, h⟩ := h
    refine go_iast hc dX3_turn_80 (shDay_6 hW m0) e30 ?_
    refine go_aload0 hc dX3_turn_81 ?_
    refine go_iload1 hc dX3_turn_82 ?_
    refine go_iload3 hc dX3_turn_83 ?_
    replace h := goBind h; obtain ⟨x31, e32, h⟩ := h
    refine go_callVi hc dX3_turn_84 (mX3_followsMother hk hW m0 e32) ml_RX3_129 yk_X3_followsMother ⟨wim_X3_followsMother, wse_X3_followsMother⟩ hR rfl (shDay_0 hW m0) rfl rfl rfl (Nat.le_of_ble_eq_true rfl) rfl ?_
    replace h := goB2_h h; obtain ⟨x33, M34, e35, h⟩ := h
    have k36 : ∀ (d3 d4 d5 d7 d8 : Option Value), goA E X G 0 0 (goMQ X E (goQv E G r0 L R) 0 0) 263 [some (.ref a0), some (.int v1), some (.int v2), d3, d4, d5, some (.int x33), d7, d8] [] M34 L R := by
      intro d3 d4 d5 d7 d8
      refine go_aload0 hc dX3_turn_263 ?_
      refine go_getR hc lk_RX3_11 dX3_turn_264 (shDay_0 hW m0) (rfDay_2 hW m0) ?_
      refine go_bipush (v := 8) hc dX3_turn_267 rfl ?_
      refine go_iload1 hc dX3_turn_269 ?_
      refine go_iadd hc dX3_turn_270 ?_
      refine go_iload6 hc dX3_turn_271 ?_
      replace h := goBind h; obtain ⟨M72, e73, h⟩ := h
      refine go_iast hc dX3_turn_273 (shDay_1 hW m0) e73 ?_
      refine go_aload0 hc dX3_turn_274 ?_
      refine go_getR hc lk_RX3_24 dX3_turn_275 (shDay_0 hW m0) (rfDay_6 hW m0) ?_
      refine go_iload1 hc dX3_turn_278 ?_
      refine go_bipush (v := 12) hc dX3_turn_279 rfl ?_
      refine go_imul hc dX3_turn_281 ?_
      refine go_iload2 hc dX3_turn_282 ?_
      refine go_iadd hc dX3_turn_283 ?_
      refine go_iload6 hc dX3_turn_284 ?_
      replace h := goBind h; obtain ⟨M74, e75, h⟩ := h
      refine go_iast hc dX3_turn_286 (shDay_5 hW m0) e75 ?_
      cases h
      exact go_vret hc dX3_turn_287 hr
    refine go_if_eq hc 115 dX3_turn_87 rfl (fun c37 => ?_) (fun c37 => ?_)
    · replace e35 := goIfT e35 c37
      refine go_iload4 hc dX3_turn_115 ?_
      refine go_iload3 hc dX3_turn_117 ?_
      refine go_callSi hc dX3_turn_118 (mX12_bit hk hW rfl) ml_RX3_110 yk_X12_bit wst_X12_bit hR rfl rfl rfl (Nat.le_of_ble_eq_true rfl) rfl ?_
      refine go_iconst (v := 1) hc dX3_turn_121 rfl ?_
      refine go_icmp_ne hc 161 dX3_turn_122 rfl (fun c38 => ?_) (fun c38 => ?_)
      · replace e35 := goIfF e35 c38
        refine go_aload0 hc dX3_turn_161 ?_
        refine go_getR hc lk_RX3_15 dX3_turn_162 (shDay_0 hW m0) (rfDay_3 hW m0) ?_
        refine go_iload2 hc dX3_turn_165 ?_
        replace e35 := goBind e35; obtain ⟨x39, e40, e35⟩ := e35
        refine go_iald hc dX3_turn_166 (shDay_2 hW m0) e40 ?_
        refine go_iload3 hc dX3_turn_167 ?_
        refine go_callSi hc dX3_turn_168 (mX12_bit hk hW rfl) ml_RX3_110 yk_X12_bit wst_X12_bit hR rfl rfl rfl (Nat.le_of_ble_eq_true rfl) rfl ?_
        refine go_if_ne hc 263 dX3_turn_171 rfl (fun c41 => ?_) (fun c41 => ?_)
        · replace e35 := goIfF e35 c41
          cases e35
          exact k36 _ _ _ _ _
        · replace e35 := goIfT e35 c41
          refine go_iload5 hc dX3_turn_174 ?_
          refine go_aload0 hc dX3_turn_176 ?_
          refine go_getR hc lk_RX3_15 dX3_turn_177 (shDay_0 hW m0) (rfDay_3 hW m0) ?_
          refine go_iload2 hc dX3_turn_180 ?_
          replace e35 := goBind e35; obtain ⟨x42, e43, e35⟩ := e35
          refine go_iald hc dX3_turn_181 (shDay_2 hW m0) e43 ?_
          refine go_iand hc dX3_turn_182 ?_
          replace e35 := goNm_x e35; obtain ⟨x44, e45, e35⟩ := e35
          refine go_nmI e45 ?_
          refine go_istore7 hc dX3_turn_183 ?_
          refine go_aload0 hc dX3_turn_185 ?_
          refine go_iload1 hc dX3_turn_186 ?_
          refine go_iload2 hc dX3_turn_187 ?_
          refine go_iload3 hc dX3_turn_188 ?_
          replace e35 := goBind e35; obtain ⟨x46, e47, e35⟩ := e35
          refine go_callVi hc dX3_turn_189 (mX3_worth hk hW m0 e47) ml_RX3_139 yk_X3_worth ⟨wim_X3_worth, wse_X3_worth⟩ hR rfl (shDay_0 hW m0) rfl rfl rfl (Nat.le_of_ble_eq_true rfl) rfl ?_
          refine go_istore8 hc dX3_turn_192 ?_
          refine go_iload7 hc dX3_turn_194 ?_
          refine go_if_eq hc 214 dX3_turn_196 rfl (fun c48 => ?_) (fun c48 => ?_)
          · replace e35 := goIfT e35 c48
            refine go_iload8 hc dX3_turn_214 ?_
            refine go_bipush (v := 9) hc dX3_turn_216 rfl ?_
            refine go_icmp_ge hc 250 dX3_turn_218 rfl (fun c49 => ?_) (fun c49 => ?_)
            · replace e35 := goIfF e35 c49
              refine go_aload0 hc dX3_turn_250 ?_
              refine go_iload1 hc dX3_turn_251 ?_
              refine go_iload2 hc dX3_turn_252 ?_
              refine go_iload5 hc dX3_turn_253 ?_
              refine go_iload3 hc dX3_turn_255 ?_
              refine go_bipush (v := 8) hc dX3_turn_256 rfl ?_
              replace e35 := goBind e35; obtain ⟨x50, e51, e35⟩ := e35
              refine go_callVi hc dX3_turn_258 (mX3_best hk hW m0 e51) ml_RX3_135 yk_X3_best ⟨wim_X3_best, wse_X3_best⟩ hR rfl (shDay_0 hW m0) rfl rfl rfl (Nat.le_of_ble_eq_true rfl) rfl ?_
              refine go_istore6 hc dX3_turn_261 ?_
              cases e35
              exact k36 _ _ _ _ _
            · replace e35 := goIfT e35 c49
              refine go_aload0 hc dX3_turn_221 ?_
              refine go_iload1 hc dX3_turn_222 ?_
              refine go_iload2 hc dX3_turn_223 ?_
              refine go_iload3 hc dX3_turn_224 ?_
              refine go_aload0 hc dX3_turn_225 ?_
              refine go_getR hc lk_RX3_43 dX3_turn_226 (shDay_0 hW m0) (rmDay_1 hW m0) ?_
              refine go_getR hc lk_RX3_69 dX3_turn_229 (shHill_0 hW (mmDay_1 hW m0)) (rfHill_15 hW (mmDay_1 hW m0)) ?_
              refine go_getR hc lk_RX3_142 dX3_turn_232 (shHerd_0 hW (subHerd (mmDay_1 hW m0))) (rfHerd_7 hW (subHerd (mmDay_1 hW m0))) ?_
              refine go_iload1 hc dX3_turn_235 ?_
              refine go_iconst (v := 4) hc dX3_turn_236 rfl ?_
              refine go_imul hc dX3_turn_237 ?_
              refine go_iload8 hc dX3_turn_238 ?_
              refine go_iadd hc dX3_turn_240 ?_
              refine go_iconst (v := 1) hc dX3_turn_241 rfl ?_
              refine go_isub hc dX3_turn_242 ?_
              replace e35 := goBind e35; obtain ⟨x52, e53, e35⟩ := e35
              refine go_iald hc dX3_turn_243 (shHerd_6 hW (subHerd (mmDay_1 hW m0))) e53 ?_
              replace e35 := goBind e35; obtain ⟨M54, e55, e35⟩ := e35
              refine go_callVv hc dX3_turn_244 (mX3_eat hk hW m0 e55) ml_RX3_145 yk_X3_eat ⟨wim_X3_eat, wse_X3_eat⟩ hR rfl (shDay_0 hW m0) rfl rfl rfl (Nat.le_of_ble_eq_true rfl) rfl ?_
              refine go_goto hc 263 dX3_turn_247 rfl ?_
              cases e35
              exact k36 _ _ _ _ _
          · replace e35 := goIfF e35 c48
            refine go_aload0 hc dX3_turn_199 ?_
            refine go_iload1 hc dX3_turn_200 ?_
            refine go_iload2 hc dX3_turn_201 ?_
            refine go_iload7 hc dX3_turn_202 ?_
            refine go_iload3 hc dX3_turn_204 ?_
            refine go_iconst (v := 0) hc dX3_turn_205 rfl ?_
            replace e35 := goBind e35; obtain ⟨x56, e57, e35⟩ := e35
            refine go_callVi hc dX3_turn_206 (mX3_best hk hW m0 e57) ml_RX3_135 yk_X3_best ⟨wim_X3_best, wse_X3_best⟩ hR rfl (shDay_0 hW m0) rfl rfl rfl (Nat.le_of_ble_eq_true rfl) rfl ?_
            refine go_istore6 hc dX3_turn_209 ?_
            refine go_goto hc 263 dX3_turn_211 rfl ?_
            cases e35
            exact k36 _ _ _ _ _
      · replace e35 := goIfT e35 c38
        refine go_aload0 hc dX3_turn_125 ?_
        refine go_iload1 hc dX3_turn_126 ?_
        refine go_iload2 hc dX3_turn_127 ?_
        refine go_iload5 hc dX3_turn_128 ?_
        refine go_iload3 hc dX3_turn_130 ?_
        refine go_bipush (v := 9) hc dX3_turn_131 rfl ?_
        replace e35 := goBind e35; obtain ⟨x58, e59, e35⟩ := e35
        refine go_callVi hc dX3_turn_133 (mX3_best hk hW m0 e59) ml_RX3_135 yk_X3_best ⟨wim_X3_best, wse_X3_best⟩ hR rfl (shDay_0 hW m0) rfl rfl rfl (Nat.le_of_ble_eq_true rfl) rfl ?_
        refine go_istore6 hc dX3_turn_136 ?_
        refine go_aload0 hc dX3_turn_138 ?_
        refine go_getR hc lk_RX3_36 dX3_turn_139 (shDay_0 hW m0) (rfDay_10 hW m0) ?_
        refine go_iload1 hc dX3_turn_142 ?_
        refine go_dup2 hc dX3_turn_143 ?_
        replace e35 := goBind e35; obtain ⟨x60, e61, e35⟩ := e35
        refine go_iald hc dX3_turn_144 (shDay_9 hW m0) e61 ?_
        refine go_iload6 hc dX3_turn_145 ?_
        refine go_iload3 hc dX3_turn_147 ?_
        replace e35 := goNm_y e35; obtain ⟨x62, e63, e35⟩ := e35
        have k64 : ∀ (d3 d4 d5 d7 d8 : Option Value), goA E X G 0 0 (goMQ X E (goQv E G r0 L R) 0 0) 156 [some (.ref a0), some (.int v1), some (.int v2), d3, d4, d5, some (.int x58), d7, d8] [.int x62, .int x60, .int v1, .ref (a0 + 9)] M29 L R := by
          intro d3 d4 d5 d7 d8
          refine go_iadd hc dX3_turn_156 ?_
          replace e35 := goBind e35; obtain ⟨M66, e67, e35⟩ := e35
          refine go_iast hc dX3_turn_157 (shDay_9 hW m0) e67 ?_
          refine go_goto hc 263 dX3_turn_158 rfl ?_
          cases e35
          exact k36 _ _ _ _ _
        refine go_icmp_ne hc 155 dX3_turn_148 rfl (fun c65 => ?_) (fun c65 => ?_)
        · replace e63 := goIfF e63 c65
          refine go_iconst (v := 1) hc dX3_turn_155 rfl ?_
          subst e63
          exact k64 _ _ _ _ _
        · replace e63 := goIfT e63 c65
          refine go_iconst (v := 0) hc dX3_turn_151 rfl ?_
          refine go_goto hc 156 dX3_turn_152 rfl ?_
          subst e63
          exact k64 _ _ _ _ _
    · replace e35 := goIfF e35 c37
      refine go_aload0 hc dX3_turn_90 ?_
      refine go_getR hc lk_RX3_11 dX3_turn_91 (shDay_0 hW m0) (rfDay_2 hW m0) ?_
      refine go_bipush (v := 8) hc dX3_turn_94 rfl ?_
      refine go_aload0 hc dX3_turn_96 ?_
      refine go_getR hc lk_RX3_43 dX3_turn_97 (shDay_0 hW m0) (rmDay_1 hW m0) ?_
      refine go_getR hc lk_RX3_69 dX3_turn_100 (shHill_0 hW (mmDay_1 hW m0)) (rfHill_15 hW (mmDay_1 hW m0)) ?_
      refine go_getR hc lk_RX3_132 dX3_turn_103 (shHerd_0 hW (subHerd (mmDay_1 hW m0))) (rfHerd_3 hW (subHerd (mmDay_1 hW m0))) ?_
      refine go_iload1 hc dX3_turn_106 ?_
      replace e35 := goBind e35; obtain ⟨x68, e69, e35⟩ := e35
      refine go_iald hc dX3_turn_107 (shHerd_2 hW (subHerd (mmDay_1 hW m0))) e69 ?_
      refine go_iadd hc dX3_turn_108 ?_
      replace e35 := goBind e35; obtain ⟨x70, e71, e35⟩ := e35
      refine go_iald hc dX3_turn_109 (shDay_1 hW m0) e71 ?_
      refine go_istore6 hc dX3_turn_110 ?_
      refine go_goto hc 263 dX3_turn_112 rfl ?_
      cases e35
      exact k36 _ _ _ _ _
  refine go_icmp_eq hc 53 dX3_turn_36 rfl (fun c20 => ?_) (fun c20 => ?_)
  · replace e18 := goIfT e18 c20
    cases e18
    exact k19 _ _ _ _
  · replace e18 := goIfF e18 c20
    refine go_iload4 hc dX3_turn_39 ?_
    refine go_aload0 hc dX3_turn_41 ?_
    refine go_getR hc lk_RX3_15 dX3_turn_42 (shDay_0 hW m0) (rfDay_3 hW m0) ?_
    refine go_bipush (v := 12) hc dX3_turn_45 rfl ?_
    refine go_iload2 hc dX3_turn_47 ?_
    refine go_iadd hc dX3_turn_48 ?_
    replace e18 := goBind e18; obtain ⟨x21, e22, e18⟩ := e18
    refine go_iald hc dX3_turn_49 (shDay_2 hW m0) e22 ?_
    refine go_ior hc dX3_turn_50 ?_
    replace e18 := goNm_x e18; obtain ⟨x23, e24, e18⟩ := e18
    refine go_nmI e24 ?_
    refine go_istore4 hc dX3_turn_51 ?_
    cases e18
    exact k19 _ _ _ _
theorem dX3_drop_0 : decode cX3_drop 0 = .ok (.iload_n 2, 1) := by decide +kernel
theorem dX3_drop_1 : decode cX3_drop 1 = .ok (.iconst 2, 1) := by decide +kernel
theorem dX3_drop_2 : decode cX3_drop 2 = .ok (.if_icmp .lt 48, 3) := by decide +kernel
theorem dX3_drop_5 : decode cX3_drop 5 = .ok (.aload_n 0, 1) := by decide +kernel
theorem dX3_drop_6 : decode cX3_drop 6 = .ok (.getfield 27, 3) := by decide +kernel
theorem dX3_drop_9 : decode cX3_drop 9 = .ok (.iload_n 1, 1) := by decide +kernel
theorem dX3_drop_10 : decode cX3_drop 10 = .ok (.bipush 12, 2) := by decide +kernel
theorem dX3_drop_12 : decode cX3_drop 12 = .ok (.imul, 1) := by decide +kernel
theorem dX3_drop_13 : decode cX3_drop 13 = .ok (.iload_n 2, 1) := by decide +kernel
theorem dX3_drop_14 : decode cX3_drop 14 = .ok (.iadd, 1) := by decide +kernel
theorem dX3_drop_15 : decode cX3_drop 15 = .ok (.iconst 2, 1) := by decide +kernel
theorem dX3_drop_16 : decode cX3_drop 16 = .ok (.isub, 1) := by decide +kernel
theorem dX3_drop_17 : decode cX3_drop 17 = .ok (.iaload, 1) := by decide +kernel
theorem dX3_drop_18 : decode cX3_drop 18 = .ok (.istore_n 3, 1) := by decide +kernel
theorem dX3_drop_19 : decode cX3_drop 19 = .ok (.aload_n 0, 1) := by decide +kernel
theorem dX3_drop_20 : decode cX3_drop 20 = .ok (.getfield 33, 3) := by decide +kernel
theorem dX3_drop_23 : decode cX3_drop 23 = .ok (.iload_n 1, 1) := by decide +kernel
theorem dX3_drop_24 : decode cX3_drop 24 = .ok (.iconst 4, 1) := by decide +kernel
theorem dX3_drop_25 : decode cX3_drop 25 = .ok (.imul, 1) := by decide +kernel
theorem dX3_drop_26 : decode cX3_drop 26 = .ok (.iload_n 3, 1) := by decide +kernel
theorem dX3_drop_27 : decode cX3_drop 27 = .ok (.iconst 4, 1) := by decide +kernel
theorem dX3_drop_28 : decode cX3_drop 28 = .ok (.irem, 1) := by decide +kernel
theorem dX3_drop_29 : decode cX3_drop 29 = .ok (.iadd, 1) := by decide +kernel
theorem dX3_drop_30 : decode cX3_drop 30 = .ok (.bipush 8, 2) := by decide +kernel
theorem dX3_drop_32 : decode cX3_drop 32 = .ok (.imul, 1) := by decide +kernel
theorem dX3_drop_33 : decode cX3_drop 33 = .ok (.aload_n 0, 1) := by decide +kernel
theorem dX3_drop_34 : decode cX3_drop 34 = .ok (.getfield 11, 3) := by decide +kernel
theorem dX3_drop_37 : decode cX3_drop 37 = .ok (.bipush 8, 2) := by decide +kernel
theorem dX3_drop_39 : decode cX3_drop 39 = .ok (.iload_n 1, 1) := by decide +kernel
theorem dX3_drop_40 : decode cX3_drop 40 = .ok (.iadd, 1) := by decide +kernel
theorem dX3_drop_41 : decode cX3_drop 41 = .ok (.iaload, 1) := by decide +kernel
theorem dX3_drop_42 : decode cX3_drop 42 = .ok (.iadd, 1) := by decide +kernel
theorem dX3_drop_43 : decode cX3_drop 43 = .ok (.dup2, 1) := by decide +kernel
theorem dX3_drop_44 : decode cX3_drop 44 = .ok (.iaload, 1) := by decide +kernel
theorem dX3_drop_45 : decode cX3_drop 45 = .ok (.iload_n 3, 1) := by decide +kernel
theorem dX3_drop_46 : decode cX3_drop 46 = .ok (.iconst 4, 1) := by decide +kernel
theorem dX3_drop_47 : decode cX3_drop 47 = .ok (.idiv, 1) := by decide +kernel
theorem dX3_drop_48 : decode cX3_drop 48 = .ok (.iadd, 1) := by decide +kernel
theorem dX3_drop_49 : decode cX3_drop 49 = .ok (.iastore, 1) := by decide +kernel
theorem dX3_drop_50 : decode cX3_drop 50 = .ok (.return_, 1) := by decide +kernel
set_option maxRecDepth 100000 in
set_option maxHeartbeats 4000000 in
theorem mX3_drop {E : goEv} {l : Launch} {G : goG} {M : goMI} {L : goML} {R : goMR} {a0 : Nat} {v1 : Int32} {v2 : Int32} {r0 : goMI} (hk : goKn E) (hW : goW G R) (m0 : a0 = 78 ∨ a0 = 92) (h : fX3_drop M a0 v1 v2 = some r0) : Met l yX3_drop (goCd yX3_drop cX3_drop 4 none) (goRoom 0 0 0 0) (goPre E [.ref a0, .int v1, .int v2] G M L R) (goQv E G r0 L R) 0 0 (goSet E) := by
  refine goMet pl_RX3 hk (lv := [some (.ref a0), some (.int v1), some (.int v2), none]) rfl (Nat.le_of_ble_eq_true rfl) ?_
  intro X hc hl hR hr hnm
  subst hl
  unfold fX3_drop at h
  refine go_iload2 hc dX3_drop_0 ?_
  refine go_iconst (v := 2) hc dX3_drop_1 rfl ?_
  refine go_icmp_lt hc 50 dX3_drop_2 rfl (fun c11 => ?_) (fun c11 => ?_)
  · replace h := goIfF h c11
    cases h
    exact go_vret hc dX3_drop_50 hr
  · replace h := goIfT h c11
    refine go_aload0 hc dX3_drop_5 ?_
    refine go_getR hc lk_RX3_27 dX3_drop_6 (shDay_0 hW m0) (rfDay_7 hW m0) ?_
    refine go_iload1 hc dX3_drop_9 ?_
    refine go_bipush (v := 12) hc dX3_drop_10 rfl ?_
    refine go_imul hc dX3_drop_12 ?_
    refine go_iload2 hc dX3_drop_13 ?_
    refine go_iadd hc dX3_drop_14 ?_
    refine go_iconst (v := 2) hc dX3_drop_15 rfl ?_
    refine go_isub hc dX3_drop_16 ?_
    replace h := goBind h; obtain ⟨x12, e13, h⟩ := h
    refine go_iald hc dX3_drop_17 (shDay_6 hW m0) e13 ?_
    refine go_istore3 hc dX3_drop_18 ?_
    refine go_aload0 hc dX3_drop_19 ?_
    refine go_getR hc lk_RX3_33 dX3_drop_20 (shDay_0 hW m0) (rfDay_9 hW m0) ?_
    refine go_iload1 hc dX3_drop_23 ?_
    refine go_iconst (v := 4) hc dX3_drop_24 rfl ?_
    refine go_imul hc dX3_drop_25 ?_
    refine go_iload3 hc dX3_drop_26 ?_
    refine go_iconst (v := 4) hc dX3_drop_27 rfl ?_
    refine go_irem hc dX3_drop_28 (by decide) ?_
    refine go_iadd hc dX3_drop_29 ?_
    refine go_bipush (v := 8) hc dX3_drop_30 rfl ?_
    refine go_imul hc dX3_drop_32 ?_
    refine go_aload0 hc dX3_drop_33 ?_
    refine go_getR hc lk_RX3_11 dX3_drop_34 (shDay_0 hW m0) (rfDay_2 hW m0) ?_
    refine go_bipush (v := 8) hc dX3_drop_37 rfl ?_
    refine go_iload1 hc dX3_drop_39 ?_
    refine go_iadd hc dX3_drop_40 ?_
    replace h := goBind h; obtain ⟨x14, e15, h⟩ := h
    refine go_iald hc dX3_drop_41 (shDay_1 hW m0) e15 ?_
    refine go_iadd hc dX3_drop_42 ?_
    refine go_dup2 hc dX3_drop_43 ?_
    replace h := goBind h; obtain ⟨x16, e17, h⟩ := h
    refine go_iald hc dX3_drop_44 (shDay_8 hW m0) e17 ?_
    refine go_iload3 hc dX3_drop_45 ?_
    refine go_iconst (v := 4) hc dX3_drop_46 rfl ?_
    refine go_idiv hc dX3_drop_47 (by decide) ?_
    refine go_iadd hc dX3_drop_48 ?_
    replace h := goBind h; obtain ⟨M18, e19, h⟩ := h
    refine go_iast hc dX3_drop_49 (shDay_8 hW m0) e19 ?_
    cases h
    exact go_vret hc dX3_drop_50 hr
theorem dX3_play_0 : decode cX3_play 0 = .ok (.iload_n 1, 1) := by decide +kernel
theorem dX3_play_1 : decode cX3_play 1 = .ok (.istore_n 3, 1) := by decide +kernel
theorem dX3_play_2 : decode cX3_play 2 = .ok (.iload_n 3, 1) := by decide +kernel
theorem dX3_play_3 : decode cX3_play 3 = .ok (.iload_n 2, 1) := by decide +kernel
theorem dX3_play_4 : decode cX3_play 4 = .ok (.if_icmp .gt 53, 3) := by decide +kernel
theorem dX3_play_7 : decode cX3_play 7 = .ok (.iload_n 3, 1) := by decide +kernel
theorem dX3_play_8 : decode cX3_play 8 = .ok (.bipush 12, 2) := by decide +kernel
theorem dX3_play_10 : decode cX3_play 10 = .ok (.if_icmp .ge 47, 3) := by decide +kernel
theorem dX3_play_13 : decode cX3_play 13 = .ok (.iconst 0, 1) := by decide +kernel
theorem dX3_play_14 : decode cX3_play 14 = .ok (.istore 4, 2) := by decide +kernel
theorem dX3_play_16 : decode cX3_play 16 = .ok (.iload 4, 2) := by decide +kernel
theorem dX3_play_18 : decode cX3_play 18 = .ok (.aload_n 0, 1) := by decide +kernel
theorem dX3_play_19 : decode cX3_play 19 = .ok (.getfield 43, 3) := by decide +kernel
theorem dX3_play_22 : decode cX3_play 22 = .ok (.getfield 69, 3) := by decide +kernel
theorem dX3_play_25 : decode cX3_play 25 = .ok (.getfield 89, 3) := by decide +kernel
theorem dX3_play_28 : decode cX3_play 28 = .ok (.if_icmp .ge 23, 3) := by decide +kernel
theorem dX3_play_31 : decode cX3_play 31 = .ok (.aload_n 0, 1) := by decide +kernel
theorem dX3_play_32 : decode cX3_play 32 = .ok (.iload 4, 2) := by decide +kernel
theorem dX3_play_34 : decode cX3_play 34 = .ok (.iload_n 3, 1) := by decide +kernel
theorem dX3_play_35 : decode cX3_play 35 = .ok (.invokevirtual 119, 3) := by decide +kernel
theorem dX3_play_38 : decode cX3_play 38 = .ok (.aload_n 0, 1) := by decide +kernel
theorem dX3_play_39 : decode cX3_play 39 = .ok (.iload 4, 2) := by decide +kernel
theorem dX3_play_41 : decode cX3_play 41 = .ok (.iload_n 3, 1) := by decide +kernel
theorem dX3_play_42 : decode cX3_play 42 = .ok (.invokevirtual 123, 3) := by decide +kernel
theorem dX3_play_45 : decode cX3_play 45 = .ok (.iinc 4 1, 3) := by decide +kernel
theorem dX3_play_48 : decode cX3_play 48 = .ok (.goto (-32), 3) := by decide +kernel
theorem dX3_play_51 : decode cX3_play 51 = .ok (.iinc 3 1, 3) := by decide +kernel
theorem dX3_play_54 : decode cX3_play 54 = .ok (.goto (-52), 3) := by decide +kernel
theorem dX3_play_57 : decode cX3_play 57 = .ok (.return_, 1) := by decide +kernel
set_option maxRecDepth 100000 in
set_option maxHeartbeats 4000000 in
theorem mX3_play_L16 {E : goEv} {X : goX} {G : goG} {Q : State → Prop} {L : goML} {R : goMR} {N : Nat} {v3 : Int32} {a0 : Nat} {v2 : Int32} (hc : goCx E X cX3_play RX3 5) (hk : goKn E) (hR : X.2.2.2.1 = goRoom 3 81 0 0) (hr : X.2.2.2.2.2.2.2.2.1.sig.returnType = none) (hW : goW G R) (m0 : a0 = 78 ∨ a0 = 92) : ∀ (n : Nat) (v4 : Int32) (M : goMI) (r0 : goMI), lX3_play_16 N v3 R a0 n v4 M = some r0 → (∀ (d1 d4 : Option Value), goA E X G 0 0 Q 51 [some (.ref a0), d1, some (.int v2), some (.int v3), d4] [] r0 L R) → ∀ (d1 : Option Value), goA E X G 0 0 Q 16 [some (.ref a0), d1, some (.int v2), some (.int v3), some (.int v4)] [] M L R := by
  intro n
  induction n with
  | zero => intro v4 M r0 h; exact nomatch h
  | succ n ih =>
    intro v4 M r0 h kx d1
    rw [lX3_play_16] at h
    refine go_iload4 hc dX3_play_16 ?_
    refine go_aload0 hc dX3_play_18 ?_
    refine go_getR hc lk_RX3_43 dX3_play_19 (shDay_0 hW m0) (rmDay_1 hW m0) ?_
    refine go_getR hc lk_RX3_69 dX3_play_22 (shHill_0 hW (mmDay_1 hW m0)) (rfHill_15 hW (mmDay_1 hW m0)) ?_
    refine go_getI hc lk_RX3_89 dX3_play_25 (shHerd_0 hW (subHerd (mmDay_1 hW m0))) ?_
    refine go_icmp_ge hc 51 dX3_play_28 rfl (fun c13 => ?_) (fun c13 => ?_)
    · replace h := goIfF h c13
      cases h
      exact kx _ _
    · replace h := goIfT h c13
      refine go_aload0 hc dX3_play_31 ?_
      refine go_iload4 hc dX3_play_32 ?_
      refine go_iload3 hc dX3_play_34 ?_
      replace h := goBind h; obtain ⟨M14, e15, h⟩ := h
      refine go_callVv hc dX3_play_35 (mX3_turn hk hW m0 e15) ml_RX3_119 yk_X3_turn ⟨wim_X3_turn, wse_X3_turn⟩ hR rfl (shDay_0 hW m0) rfl rfl rfl (Nat.le_of_ble_eq_true rfl) rfl ?_
      refine go_aload0 hc dX3_play_38 ?_
      refine go_iload4 hc dX3_play_39 ?_
      refine go_iload3 hc dX3_play_41 ?_
      replace h := goBind h; obtain ⟨M16, e17, h⟩ := h
      refine go_callVv hc dX3_play_42 (mX3_drop hk hW m0 e17) ml_RX3_123 yk_X3_drop ⟨wim_X3_drop, wse_X3_drop⟩ hR rfl (shDay_0 hW m0) rfl rfl rfl (Nat.le_of_ble_eq_true rfl) rfl ?_
      refine go_iinc4 (v := (v4 + 1)) hc dX3_play_45 rfl ?_
      refine go_goto hc 16 dX3_play_48 rfl ?_
      exact ih _ _ _ h kx _
set_option maxRecDepth 100000 in
set_option maxHeartbeats 4000000 in
theorem mX3_play_L2 {E : goEv} {X : goX} {G : goG} {Q : State → Prop} {L : goML} {R : goMR} {N : Nat} {v2 : Int32} {a0 : Nat} (hc : goCx E X cX3_play RX3 5) (hk : goKn E) (hR : X.2.2.2.1 = goRoom 3 81 0 0) (hr : X.2.2.2.2.2.2.2.2.1.sig.returnType = none) (hW : goW G R) (m0 : a0 = 78 ∨ a0 = 92) : ∀ (n : Nat) (v3 : Int32) (M : goMI) (r0 : goMI), lX3_play_2 N v2 R a0 n v3 M = some r0 → (∀ (d0 d1 d2 d3 d4 : Option Value), goA E X G 0 0 Q 57 [d0, d1, d2, d3, d4] [] r0 L R) → ∀ (d1 d4 : Option Value), goA E X G 0 0 Q 2 [some (.ref a0), d1, some (.int v2), some (.int v3), d4] [] M L R := by
  intro n
  induction n with
  | zero => intro v3 M r0 h; exact nomatch h
  | succ n ih =>
    intro v3 M r0 h kx d1 d4
    rw [lX3_play_2] at h
    refine go_iload3 hc dX3_play_2 ?_
    refine go_iload2 hc dX3_play_3 ?_
    refine go_icmp_gt hc 57 dX3_play_4 rfl (fun c11 => ?_) (fun c11 => ?_)
    · replace h := goIfF h c11
      cases h
      exact kx _ _ _ _ _
    · replace h := goIfT h c11
      refine go_iload3 hc dX3_play_7 ?_
      refine go_bipush (v := 12) hc dX3_play_8 rfl ?_
      refine go_icmp_ge hc 57 dX3_play_10 rfl (fun c12 => ?_) (fun c12 => ?_)
      · replace h := goIfF h c12
        cases h
        exact kx _ _ _ _ _
      · replace h := goIfT h c12
        refine go_iconst (v := 0) hc dX3_play_13 rfl ?_
        refine go_istore4 hc dX3_play_14 ?_
        replace h := goBind h; obtain ⟨M19, e18, h⟩ := h
        refine mX3_play_L16 hc hk hR hr hW m0 _ _ _ _ e18 (fun d1 d4 => ?_) _
        refine go_iinc3 (v := (v3 + 1)) hc dX3_play_51 rfl ?_
        refine go_goto hc 2 dX3_play_54 rfl ?_
        exact ih _ _ _ h kx _ _
set_option maxRecDepth 100000 in
set_option maxHeartbeats 4000000 in
theorem mX3_play {E : goEv} {l : Launch} {G : goG} {N : Nat} {M : goMI} {L : goML} {R : goMR} {a0 : Nat} {v1 : Int32} {v2 : Int32} {r0 : goMI} (hk : goKn E) (hW : goW G R) (m0 : a0 = 78 ∨ a0 = 92) (h : fX3_play N M R a0 v1 v2 = some r0) : Met l yX3_play (goCd yX3_play cX3_play 5 none) (goRoom 3 81 0 0) (goPre E [.ref a0, .int v1, .int v2] G M L R) (goQv E G r0 L R) 0 0 (goSet E) := by
  refine goMet pl_RX3 hk (lv := [some (.ref a0), some (.int v1), some (.int v2), none, none]) rfl (Nat.le_of_ble_eq_true rfl) ?_
  intro X hc hl hR hr hnm
  subst hl
  unfold fX3_play at h
  refine go_iload1 hc dX3_play_0 ?_
  refine go_istore3 hc dX3_play_1 ?_
  replace h := goBind h; obtain ⟨M21, e20, h⟩ := h
  refine mX3_play_L2 hc hk hR hr hW m0 _ _ _ _ e20 (fun d0 d1 d2 d3 d4 => ?_) _ _
  cases h
  exact go_vret hc dX3_play_57 hr
theorem dX3_shows_0 : decode cX3_shows 0 = .ok (.aload_n 0, 1) := by decide +kernel
theorem dX3_shows_1 : decode cX3_shows 1 = .ok (.getfield 43, 3) := by decide +kernel
theorem dX3_shows_4 : decode cX3_shows 4 = .ok (.getfield 69, 3) := by decide +kernel
theorem dX3_shows_7 : decode cX3_shows 7 = .ok (.astore_n 2, 1) := by decide +kernel
theorem dX3_shows_8 : decode cX3_shows 8 = .ok (.aload_n 2, 1) := by decide +kernel
theorem dX3_shows_9 : decode cX3_shows 9 = .ok (.getfield 158, 3) := by decide +kernel
theorem dX3_shows_12 : decode cX3_shows 12 = .ok (.iload_n 1, 1) := by decide +kernel
theorem dX3_shows_13 : decode cX3_shows 13 = .ok (.iaload, 1) := by decide +kernel
theorem dX3_shows_14 : decode cX3_shows 14 = .ok (.istore_n 3, 1) := by decide +kernel
theorem dX3_shows_15 : decode cX3_shows 15 = .ok (.aload_n 2, 1) := by decide +kernel
theorem dX3_shows_16 : decode cX3_shows 16 = .ok (.getfield 161, 3) := by decide +kernel
theorem dX3_shows_19 : decode cX3_shows 19 = .ok (.iload_n 1, 1) := by decide +kernel
theorem dX3_shows_20 : decode cX3_shows 20 = .ok (.iaload, 1) := by decide +kernel
theorem dX3_shows_21 : decode cX3_shows 21 = .ok (.istore 4, 2) := by decide +kernel
theorem dX3_shows_23 : decode cX3_shows 23 = .ok (.aload_n 2, 1) := by decide +kernel
theorem dX3_shows_24 : decode cX3_shows 24 = .ok (.getfield 164, 3) := by decide +kernel
theorem dX3_shows_27 : decode cX3_shows 27 = .ok (.iload_n 1, 1) := by decide +kernel
theorem dX3_shows_28 : decode cX3_shows 28 = .ok (.iaload, 1) := by decide +kernel
theorem dX3_shows_29 : decode cX3_shows 29 = .ok (.istore 5, 2) := by decide +kernel
theorem dX3_shows_31 : decode cX3_shows 31 = .ok (.aload_n 2, 1) := by decide +kernel
theorem dX3_shows_32 : decode cX3_shows 32 = .ok (.getfield 167, 3) := by decide +kernel
theorem dX3_shows_35 : decode cX3_shows 35 = .ok (.iload_n 1, 1) := by decide +kernel
theorem dX3_shows_36 : decode cX3_shows 36 = .ok (.iaload, 1) := by decide +kernel
theorem dX3_shows_37 : decode cX3_shows 37 = .ok (.ifCond .ne 29, 3) := by decide +kernel
theorem dX3_shows_40 : decode cX3_shows 40 = .ok (.aload_n 0, 1) := by decide +kernel
theorem dX3_shows_41 : decode cX3_shows 41 = .ok (.getfield 33, 3) := by decide +kernel
theorem dX3_shows_44 : decode cX3_shows 44 = .ok (.iload_n 3, 1) := by decide +kernel
theorem dX3_shows_45 : decode cX3_shows 45 = .ok (.iconst 4, 1) := by decide +kernel
theorem dX3_shows_46 : decode cX3_shows 46 = .ok (.imul, 1) := by decide +kernel
theorem dX3_shows_47 : decode cX3_shows 47 = .ok (.iload 5, 2) := by decide +kernel
theorem dX3_shows_49 : decode cX3_shows 49 = .ok (.iadd, 1) := by decide +kernel
theorem dX3_shows_50 : decode cX3_shows 50 = .ok (.bipush 8, 2) := by decide +kernel
theorem dX3_shows_52 : decode cX3_shows 52 = .ok (.imul, 1) := by decide +kernel
theorem dX3_shows_53 : decode cX3_shows 53 = .ok (.iload 4, 2) := by decide +kernel
theorem dX3_shows_55 : decode cX3_shows 55 = .ok (.iadd, 1) := by decide +kernel
theorem dX3_shows_56 : decode cX3_shows 56 = .ok (.iaload, 1) := by decide +kernel
theorem dX3_shows_57 : decode cX3_shows 57 = .ok (.ifCond .le 7, 3) := by decide +kernel
theorem dX3_shows_60 : decode cX3_shows 60 = .ok (.iconst 1, 1) := by decide +kernel
theorem dX3_shows_61 : decode cX3_shows 61 = .ok (.goto 4, 3) := by decide +kernel
theorem dX3_shows_64 : decode cX3_shows 64 = .ok (.iconst 0, 1) := by decide +kernel
theorem dX3_shows_65 : decode cX3_shows 65 = .ok (.ireturn, 1) := by decide +kernel
theorem dX3_shows_66 : decode cX3_shows 66 = .ok (.aload_n 0, 1) := by decide +kernel
theorem dX3_shows_67 : decode cX3_shows 67 = .ok (.getfield 24, 3) := by decide +kernel
theorem dX3_shows_70 : decode cX3_shows 70 = .ok (.iload_n 3, 1) := by decide +kernel
theorem dX3_shows_71 : decode cX3_shows 71 = .ok (.bipush 12, 2) := by decide +kernel
theorem dX3_shows_73 : decode cX3_shows 73 = .ok (.imul, 1) := by decide +kernel
theorem dX3_shows_74 : decode cX3_shows 74 = .ok (.iload 5, 2) := by decide +kernel
theorem dX3_shows_76 : decode cX3_shows 76 = .ok (.iadd, 1) := by decide +kernel
theorem dX3_shows_77 : decode cX3_shows 77 = .ok (.iaload, 1) := by decide +kernel
theorem dX3_shows_78 : decode cX3_shows 78 = .ok (.iload 4, 2) := by decide +kernel
theorem dX3_shows_80 : decode cX3_shows 80 = .ok (.if_icmp .ne 7, 3) := by decide +kernel
theorem dX3_shows_83 : decode cX3_shows 83 = .ok (.iconst 1, 1) := by decide +kernel
theorem dX3_shows_84 : decode cX3_shows 84 = .ok (.goto 4, 3) := by decide +kernel
theorem dX3_shows_87 : decode cX3_shows 87 = .ok (.iconst 0, 1) := by decide +kernel
theorem dX3_shows_88 : decode cX3_shows 88 = .ok (.istore 6, 2) := by decide +kernel
theorem dX3_shows_90 : decode cX3_shows 90 = .ok (.iload 6, 2) := by decide +kernel
theorem dX3_shows_92 : decode cX3_shows 92 = .ok (.aload_n 2, 1) := by decide +kernel
theorem dX3_shows_93 : decode cX3_shows 93 = .ok (.getfield 167, 3) := by decide +kernel
theorem dX3_shows_96 : decode cX3_shows 96 = .ok (.iload_n 1, 1) := by decide +kernel
theorem dX3_shows_97 : decode cX3_shows 97 = .ok (.iaload, 1) := by decide +kernel
theorem dX3_shows_98 : decode cX3_shows 98 = .ok (.iconst 1, 1) := by decide +kernel
theorem dX3_shows_99 : decode cX3_shows 99 = .ok (.if_icmp .ne 7, 3) := by decide +kernel
theorem dX3_shows_102 : decode cX3_shows 102 = .ok (.iconst 1, 1) := by decide +kernel
theorem dX3_shows_103 : decode cX3_shows 103 = .ok (.goto 4, 3) := by decide +kernel
theorem dX3_shows_106 : decode cX3_shows 106 = .ok (.iconst 0, 1) := by decide +kernel
theorem dX3_shows_107 : decode cX3_shows 107 = .ok (.if_icmp .ne 7, 3) := by decide +kernel
theorem dX3_shows_110 : decode cX3_shows 110 = .ok (.iconst 1, 1) := by decide +kernel
theorem dX3_shows_111 : decode cX3_shows 111 = .ok (.goto 4, 3) := by decide +kernel
theorem dX3_shows_114 : decode cX3_shows 114 = .ok (.iconst 0, 1) := by decide +kernel
theorem dX3_shows_115 : decode cX3_shows 115 = .ok (.ireturn, 1) := by decide +kernel
set_option maxRecDepth 100000 in
set_option maxHeartbeats 4000000 in
theorem mX3_shows {E : goEv} {l : Launch} {G : goG} {M : goMI} {L : goML} {R : goMR} {a0 : Nat} {v1 : Int32} {r0 : Int32} (hk : goKn E) (hW : goW G R) (m0 : a0 = 78 ∨ a0 = 92) (h : fX3_shows M R a0 v1 = some r0) : Met l yX3_shows (goCd yX3_shows cX3_shows 7 (Option.some FieldType.boolean)) (goRoom 0 0 0 0) (goPre E [.ref a0, .int v1] G M L R) (goQi E r0 G M L R) 0 0 (goSet E) := by
  refine goMet pl_RX3 hk (lv := [some (.ref a0), some (.int v1), none, none, none, none, none]) rfl (Nat.le_of_ble_eq_true rfl) ?_
  intro X hc hl hR hr hnm
  subst hl
  unfold fX3_shows at h
  refine go_aload0 hc dX3_shows_0 ?_
  refine go_getR hc lk_RX3_43 dX3_shows_1 (shDay_0 hW m0) (rmDay_1 hW m0) ?_
  refine go_getR hc lk_RX3_69 dX3_shows_4 (shHill_0 hW (mmDay_1 hW m0)) (rfHill_15 hW (mmDay_1 hW m0)) ?_
  refine go_astore2 hc dX3_shows_7 ?_
  refine go_aload2 hc dX3_shows_8 ?_
  refine go_getR hc lk_RX3_158 dX3_shows_9 (shHerd_0 hW (subHerd (mmDay_1 hW m0))) (rfHerd_10 hW (subHerd (mmDay_1 hW m0))) ?_
  refine go_iload1 hc dX3_shows_12 ?_
  replace h := goBind h; obtain ⟨x11, e12, h⟩ := h
  refine go_iald hc dX3_shows_13 (shHerd_9 hW (subHerd (mmDay_1 hW m0))) e12 ?_
  refine go_istore3 hc dX3_shows_14 ?_
  refine go_aload2 hc dX3_shows_15 ?_
  refine go_getR hc lk_RX3_161 dX3_shows_16 (shHerd_0 hW (subHerd (mmDay_1 hW m0))) (rfHerd_11 hW (subHerd (mmDay_1 hW m0))) ?_
  refine go_iload1 hc dX3_shows_19 ?_
  replace h := goBind h; obtain ⟨x13, e14, h⟩ := h
  refine go_iald hc dX3_shows_20 (shHerd_10 hW (subHerd (mmDay_1 hW m0))) e14 ?_
  refine go_istore4 hc dX3_shows_21 ?_
  refine go_aload2 hc dX3_shows_23 ?_
  refine go_getR hc lk_RX3_164 dX3_shows_24 (shHerd_0 hW (subHerd (mmDay_1 hW m0))) (rfHerd_12 hW (subHerd (mmDay_1 hW m0))) ?_
  refine go_iload1 hc dX3_shows_27 ?_
  replace h := goBind h; obtain ⟨x15, e16, h⟩ := h
  refine go_iald hc dX3_shows_28 (shHerd_11 hW (subHerd (mmDay_1 hW m0))) e16 ?_
  refine go_istore5 hc dX3_shows_29 ?_
  refine go_aload2 hc dX3_shows_31 ?_
  refine go_getR hc lk_RX3_167 dX3_shows_32 (shHerd_0 hW (subHerd (mmDay_1 hW m0))) (rfHerd_9 hW (subHerd (mmDay_1 hW m0))) ?_
  refine go_iload1 hc dX3_shows_35 ?_
  replace h := goBind h; obtain ⟨x17, e18, h⟩ := h
  refine go_iald hc dX3_shows_36 (shHerd_8 hW (subHerd (mmDay_1 hW m0))) e18 ?_
  refine go_if_ne hc 66 dX3_shows_37 rfl (fun c19 => ?_) (fun c19 => ?_)
  · replace h := goIfF h c19
    refine go_aload0 hc dX3_shows_66 ?_
    refine go_getR hc lk_RX3_24 dX3_shows_67 (shDay_0 hW m0) (rfDay_6 hW m0) ?_
    refine go_iload3 hc dX3_shows_70 ?_
    refine go_bipush (v := 12) hc dX3_shows_71 rfl ?_
    refine go_imul hc dX3_shows_73 ?_
    refine go_iload5 hc dX3_shows_74 ?_
    refine go_iadd hc dX3_shows_76 ?_
    replace h := goBind h; obtain ⟨x20, e21, h⟩ := h
    refine go_iald hc dX3_shows_77 (shDay_5 hW m0) e21 ?_
    refine go_iload4 hc dX3_shows_78 ?_
    replace h := goNm_y h; obtain ⟨x22, e23, h⟩ := h
    have k24 : ∀ (d0 d3 d4 d5 d6 : Option Value), goA E X G 0 0 (goMQ X E (goQi E r0 G M L R) 0 0) 88 [d0, some (.int v1), some (.ref ((goRr R a0 1) + 9)), d3, d4, d5, d6] [.int x22] M L R := by
      intro d0 d3 d4 d5 d6
      refine go_istore6 hc dX3_shows_88 ?_
      refine go_iload6 hc dX3_shows_90 ?_
      refine go_aload2 hc dX3_shows_92 ?_
      refine go_getR hc lk_RX3_167 dX3_shows_93 (shHerd_0 hW (subHerd (mmDay_1 hW m0))) (rfHerd_9 hW (subHerd (mmDay_1 hW m0))) ?_
      refine go_iload1 hc dX3_shows_96 ?_
      replace h := goBind h; obtain ⟨x26, e27, h⟩ := h
      refine go_iald hc dX3_shows_97 (shHerd_8 hW (subHerd (mmDay_1 hW m0))) e27 ?_
      refine go_iconst (v := 1) hc dX3_shows_98 rfl ?_
      replace h := goNm_y h; obtain ⟨x28, e29, h⟩ := h
      have k30 : ∀ (d0 d1 d2 d3 d4 d5 d6 : Option Value), goA E X G 0 0 (goMQ X E (goQi E r0 G M L R) 0 0) 107 [d0, d1, d2, d3, d4, d5, d6] [.int x28, .int x22] M L R := by
        intro d0 d1 d2 d3 d4 d5 d6
        refine go_icmp_ne hc 114 dX3_shows_107 rfl (fun c32 => ?_) (fun c32 => ?_)
        · replace h := goIfF h c32
          refine go_iconst (v := 0) hc dX3_shows_114 rfl ?_
          cases h
          exact go_zret hc dX3_shows_115 hr rfl
        · replace h := goIfT h c32
          refine go_iconst (v := 1) hc dX3_shows_110 rfl ?_
          refine go_goto hc 115 dX3_shows_111 rfl ?_
          cases h
          exact go_zret hc dX3_shows_115 hr rfl
      refine go_icmp_ne hc 106 dX3_shows_99 rfl (fun c31 => ?_) (fun c31 => ?_)
      · replace e29 := goIfF e29 c31
        refine go_iconst (v := 0) hc dX3_shows_106 rfl ?_
        subst e29
        exact k30 _ _ _ _ _ _ _
      · replace e29 := goIfT e29 c31
        refine go_iconst (v := 1) hc dX3_shows_102 rfl ?_
        refine go_goto hc 107 dX3_shows_103 rfl ?_
        subst e29
        exact k30 _ _ _ _ _ _ _
    refine go_icmp_ne hc 87 dX3_shows_80 rfl (fun c25 => ?_) (fun c25 => ?_)
    · replace e23 := goIfF e23 c25
      refine go_iconst (v := 0) hc dX3_shows_87 rfl ?_
      subst e23
      exact k24 _ _ _ _ _
    · replace e23 := goIfT e23 c25
      refine go_iconst (v := 1) hc dX3_shows_83 rfl ?_
      refine go_goto hc 88 dX3_shows_84 rfl ?_
      subst e23
      exact k24 _ _ _ _ _
  · replace h := goIfT h c19
    refine go_aload0 hc dX3_shows_40 ?_
    refine go_getR hc lk_RX3_33 dX3_shows_41 (shDay_0 hW m0) (rfDay_9 hW m0) ?_
    refine go_iload3 hc dX3_shows_44 ?_
    refine go_iconst (v := 4) hc dX3_shows_45 rfl ?_
    refine go_imul hc dX3_shows_46 ?_
    refine go_iload5 hc dX3_shows_47 ?_
    refine go_iadd hc dX3_shows_49 ?_
    refine go_bipush (v := 8) hc dX3_shows_50 rfl ?_
    refine go_imul hc dX3_shows_52 ?_
    refine go_iload4 hc dX3_shows_53 ?_
    refine go_iadd hc dX3_shows_55 ?_
    replace h := goBind h; obtain ⟨x33, e34, h⟩ := h
    refine go_iald hc dX3_shows_56 (shDay_8 hW m0) e34 ?_
    refine go_if_le hc 64 dX3_shows_57 rfl (fun c35 => ?_) (fun c35 => ?_)
    · replace h := goIfF h c35
      refine go_iconst (v := 0) hc dX3_shows_64 rfl ?_
      cases h
      exact go_zret hc dX3_shows_65 hr rfl
    · replace h := goIfT h c35
      refine go_iconst (v := 1) hc dX3_shows_60 rfl ?_
      refine go_goto hc 65 dX3_shows_61 rfl ?_
      cases h
      exact go_zret hc dX3_shows_65 hr rfl
theorem dX3_giveCheese_0 : decode cX3_giveCheese 0 = .ok (.iconst 0, 1) := by decide +kernel
theorem dX3_giveCheese_1 : decode cX3_giveCheese 1 = .ok (.istore_n 2, 1) := by decide +kernel
theorem dX3_giveCheese_2 : decode cX3_giveCheese 2 = .ok (.iload_n 2, 1) := by decide +kernel
theorem dX3_giveCheese_3 : decode cX3_giveCheese 3 = .ok (.aload_n 0, 1) := by decide +kernel
theorem dX3_giveCheese_4 : decode cX3_giveCheese 4 = .ok (.getfield 43, 3) := by decide +kernel
theorem dX3_giveCheese_7 : decode cX3_giveCheese 7 = .ok (.getfield 174, 3) := by decide +kernel
theorem dX3_giveCheese_10 : decode cX3_giveCheese 10 = .ok (.if_icmp .ge 71, 3) := by decide +kernel
theorem dX3_giveCheese_13 : decode cX3_giveCheese 13 = .ok (.iconst 0, 1) := by decide +kernel
theorem dX3_giveCheese_14 : decode cX3_giveCheese 14 = .ok (.istore_n 3, 1) := by decide +kernel
theorem dX3_giveCheese_15 : decode cX3_giveCheese 15 = .ok (.iconst 0, 1) := by decide +kernel
theorem dX3_giveCheese_16 : decode cX3_giveCheese 16 = .ok (.istore 4, 2) := by decide +kernel
theorem dX3_giveCheese_18 : decode cX3_giveCheese 18 = .ok (.iload 4, 2) := by decide +kernel
theorem dX3_giveCheese_20 : decode cX3_giveCheese 20 = .ok (.aload_n 0, 1) := by decide +kernel
theorem dX3_giveCheese_21 : decode cX3_giveCheese 21 = .ok (.getfield 43, 3) := by decide +kernel
theorem dX3_giveCheese_24 : decode cX3_giveCheese 24 = .ok (.getfield 69, 3) := by decide +kernel
theorem dX3_giveCheese_27 : decode cX3_giveCheese 27 = .ok (.getfield 89, 3) := by decide +kernel
theorem dX3_giveCheese_30 : decode cX3_giveCheese 30 = .ok (.if_icmp .ge 30, 3) := by decide +kernel
theorem dX3_giveCheese_33 : decode cX3_giveCheese 33 = .ok (.iload_n 3, 1) := by decide +kernel
theorem dX3_giveCheese_34 : decode cX3_giveCheese 34 = .ok (.iload_n 1, 1) := by decide +kernel
theorem dX3_giveCheese_35 : decode cX3_giveCheese 35 = .ok (.iload 4, 2) := by decide +kernel
theorem dX3_giveCheese_37 : decode cX3_giveCheese 37 = .ok (.invokestatic 110, 3) := by decide +kernel
theorem dX3_giveCheese_40 : decode cX3_giveCheese 40 = .ok (.aload_n 0, 1) := by decide +kernel
theorem dX3_giveCheese_41 : decode cX3_giveCheese 41 = .ok (.getfield 30, 3) := by decide +kernel
theorem dX3_giveCheese_44 : decode cX3_giveCheese 44 = .ok (.iload 4, 2) := by decide +kernel
theorem dX3_giveCheese_46 : decode cX3_giveCheese 46 = .ok (.iconst 4, 1) := by decide +kernel
theorem dX3_giveCheese_47 : decode cX3_giveCheese 47 = .ok (.imul, 1) := by decide +kernel
theorem dX3_giveCheese_48 : decode cX3_giveCheese 48 = .ok (.iload_n 2, 1) := by decide +kernel
theorem dX3_giveCheese_49 : decode cX3_giveCheese 49 = .ok (.iadd, 1) := by decide +kernel
theorem dX3_giveCheese_50 : decode cX3_giveCheese 50 = .ok (.iaload, 1) := by decide +kernel
theorem dX3_giveCheese_51 : decode cX3_giveCheese 51 = .ok (.imul, 1) := by decide +kernel
theorem dX3_giveCheese_52 : decode cX3_giveCheese 52 = .ok (.iadd, 1) := by decide +kernel
theorem dX3_giveCheese_53 : decode cX3_giveCheese 53 = .ok (.istore_n 3, 1) := by decide +kernel
theorem dX3_giveCheese_54 : decode cX3_giveCheese 54 = .ok (.iinc 4 1, 3) := by decide +kernel
theorem dX3_giveCheese_57 : decode cX3_giveCheese 57 = .ok (.goto (-39), 3) := by decide +kernel
theorem dX3_giveCheese_60 : decode cX3_giveCheese 60 = .ok (.iload_n 3, 1) := by decide +kernel
theorem dX3_giveCheese_61 : decode cX3_giveCheese 61 = .ok (.aload_n 0, 1) := by decide +kernel
theorem dX3_giveCheese_62 : decode cX3_giveCheese 62 = .ok (.getfield 43, 3) := by decide +kernel
theorem dX3_giveCheese_65 : decode cX3_giveCheese 65 = .ok (.getfield 177, 3) := by decide +kernel
theorem dX3_giveCheese_68 : decode cX3_giveCheese 68 = .ok (.iload_n 2, 1) := by decide +kernel
theorem dX3_giveCheese_69 : decode cX3_giveCheese 69 = .ok (.iaload, 1) := by decide +kernel
theorem dX3_giveCheese_70 : decode cX3_giveCheese 70 = .ok (.if_icmp .eq 5, 3) := by decide +kernel
theorem dX3_giveCheese_73 : decode cX3_giveCheese 73 = .ok (.iconst 0, 1) := by decide +kernel
theorem dX3_giveCheese_74 : decode cX3_giveCheese 74 = .ok (.ireturn, 1) := by decide +kernel
theorem dX3_giveCheese_75 : decode cX3_giveCheese 75 = .ok (.iinc 2 1, 3) := by decide +kernel
theorem dX3_giveCheese_78 : decode cX3_giveCheese 78 = .ok (.goto (-76), 3) := by decide +kernel
theorem dX3_giveCheese_81 : decode cX3_giveCheese 81 = .ok (.iconst 1, 1) := by decide +kernel
theorem dX3_giveCheese_82 : decode cX3_giveCheese 82 = .ok (.ireturn, 1) := by decide +kernel
set_option maxRecDepth 100000 in
set_option maxHeartbeats 4000000 in
theorem mX3_giveCheese_L18 {E : goEv} {X : goX} {G : goG} {Q : State → Prop} {M : goMI} {L : goML} {R : goMR} {v1 : Int32} {v2 : Int32} {a0 : Nat} (hc : goCx E X cX3_giveCheese RX3 5) (hk : goKn E) (hR : X.2.2.2.1 = goRoom 1 21 0 0) (hr : X.2.2.2.2.2.2.2.2.1.sig.returnType = (Option.some FieldType.boolean)) (hW : goW G R) (m0 : a0 = 78 ∨ a0 = 92) : ∀ (n : Nat) (v3 : Int32) (v4 : Int32) (r0 : Int32), lX3_giveCheese_18 v1 v2 M R a0 n v3 v4 = some r0 → (∀ (d4 : Option Value), goA E X G 0 0 Q 60 [some (.ref a0), some (.int v1), some (.int v2), some (.int r0), d4] [] M L R) → goA E X G 0 0 Q 18 [some (.ref a0), some (.int v1), some (.int v2), some (.int v3), some (.int v4)] [] M L R := by
  intro n
  induction n with
  | zero => intro v3 v4 r0 h; exact nomatch h
  | succ n ih =>
    intro v3 v4 r0 h kx
    rw [lX3_giveCheese_18] at h
    refine go_iload4 hc dX3_giveCheese_18 ?_
    refine go_aload0 hc dX3_giveCheese_20 ?_
    refine go_getR hc lk_RX3_43 dX3_giveCheese_21 (shDay_0 hW m0) (rmDay_1 hW m0) ?_
    refine go_getR hc lk_RX3_69 dX3_giveCheese_24 (shHill_0 hW (mmDay_1 hW m0)) (rfHill_15 hW (mmDay_1 hW m0)) ?_
    refine go_getI hc lk_RX3_89 dX3_giveCheese_27 (shHerd_0 hW (subHerd (mmDay_1 hW m0))) ?_
    refine go_icmp_ge hc 60 dX3_giveCheese_30 rfl (fun c12 => ?_) (fun c12 => ?_)
    · replace h := goIfF h c12
      cases h
      exact kx _
    · replace h := goIfT h c12
      refine go_iload3 hc dX3_giveCheese_33 ?_
      refine go_iload1 hc dX3_giveCheese_34 ?_
      refine go_iload4 hc dX3_giveCheese_35 ?_
      refine go_callSi hc dX3_giveCheese_37 (mX12_bit hk hW rfl) ml_RX3_110 yk_X12_bit wst_X12_bit hR rfl rfl rfl (Nat.le_of_ble_eq_true rfl) rfl ?_
      refine go_aload0 hc dX3_giveCheese_40 ?_
      refine go_getR hc lk_RX3_30 dX3_giveCheese_41 (shDay_0 hW m0) (rfDay_8 hW m0) ?_
      refine go_iload4 hc dX3_giveCheese_44 ?_
      refine go_iconst (v := 4) hc dX3_giveCheese_46 rfl ?_
      refine go_imul hc dX3_giveCheese_47 ?_
      refine go_iload2 hc dX3_giveCheese_48 ?_
      refine go_iadd hc dX3_giveCheese_49 ?_
      replace h := goBind h; obtain ⟨x13, e14, h⟩ := h
      refine go_iald hc dX3_giveCheese_50 (shDay_7 hW m0) e14 ?_
      refine go_imul hc dX3_giveCheese_51 ?_
      refine go_iadd hc dX3_giveCheese_52 ?_
      replace h := goNm_x h; obtain ⟨x15, e16, h⟩ := h
      refine go_nmI e16 ?_
      refine go_istore3 hc dX3_giveCheese_53 ?_
      refine go_iinc4 (v := (v4 + 1)) hc dX3_giveCheese_54 rfl ?_
      refine go_goto hc 18 dX3_giveCheese_57 rfl ?_
      exact ih _ _ _ h kx
set_option maxRecDepth 100000 in
set_option maxHeartbeats 4000000 in
theorem mX3_giveCheese_L2 {E : goEv} {X : goX} {G : goG} {M : goMI} {L : goML} {R : goMR} {N : Nat} {v1 : Int32} {a0 : Nat} {r0 : Int32} (hc : goCx E X cX3_giveCheese RX3 5) (hk : goKn E) (hR : X.2.2.2.1 = goRoom 1 21 0 0) (hr : X.2.2.2.2.2.2.2.2.1.sig.returnType = (Option.some FieldType.boolean)) (hW : goW G R) (m0 : a0 = 78 ∨ a0 = 92) : ∀ (n : Nat) (v2 : Int32), lX3_giveCheese_2 N v1 M R a0 n v2 = some r0 → ∀ (d3 d4 : Option Value), goA E X G 0 0 (goMQ X E (goQi E r0 G M L R) 0 0) 2 [some (.ref a0), some (.int v1), some (.int v2), d3, d4] [] M L R := by
  intro n
  induction n with
  | zero => intro v2 h; exact nomatch h
  | succ n ih =>
    intro v2 h d3 d4
    rw [lX3_giveCheese_2] at h
    refine go_iload2 hc dX3_giveCheese_2 ?_
    refine go_aload0 hc dX3_giveCheese_3 ?_
    refine go_getR hc lk_RX3_43 dX3_giveCheese_4 (shDay_0 hW m0) (rmDay_1 hW m0) ?_
    refine go_getI hc lk_RX3_174 dX3_giveCheese_7 (shHill_0 hW (mmDay_1 hW m0)) ?_
    refine go_icmp_ge hc 81 dX3_giveCheese_10 rfl (fun c11 => ?_) (fun c11 => ?_)
    · replace h := goIfF h c11
      refine go_iconst (v := 1) hc dX3_giveCheese_81 rfl ?_
      cases h
      exact go_zret hc dX3_giveCheese_82 hr rfl
    · replace h := goIfT h c11
      refine go_iconst (v := 0) hc dX3_giveCheese_13 rfl ?_
      refine go_istore3 hc dX3_giveCheese_14 ?_
      refine go_iconst (v := 0) hc dX3_giveCheese_15 rfl ?_
      refine go_istore4 hc dX3_giveCheese_16 ?_
      replace h := goBind h; obtain ⟨x18, e17, h⟩ := h
      refine mX3_giveCheese_L18 hc hk hR hr hW m0 _ _ _ _ e17 (fun d4 => ?_)
      refine go_iload3 hc dX3_giveCheese_60 ?_
      refine go_aload0 hc dX3_giveCheese_61 ?_
      refine go_getR hc lk_RX3_43 dX3_giveCheese_62 (shDay_0 hW m0) (rmDay_1 hW m0) ?_
      refine go_getR hc lk_RX3_177 dX3_giveCheese_65 (shHill_0 hW (mmDay_1 hW m0)) (rfHill_14 hW (mmDay_1 hW m0)) ?_
      refine go_iload2 hc dX3_giveCheese_68 ?_
      replace h := goBind h; obtain ⟨x19, e20, h⟩ := h
      refine go_iald hc dX3_giveCheese_69 (shHill_8 hW (mmDay_1 hW m0)) e20 ?_
      refine go_icmp_eq hc 75 dX3_giveCheese_70 rfl (fun c21 => ?_) (fun c21 => ?_)
      · replace h := goIfT h c21
        refine go_iinc2 (v := (v2 + 1)) hc dX3_giveCheese_75 rfl ?_
        refine go_goto hc 2 dX3_giveCheese_78 rfl ?_
        exact ih _ h _ _
      · replace h := goIfF h c21
        refine go_iconst (v := 0) hc dX3_giveCheese_73 rfl ?_
        cases h
        exact go_zret hc dX3_giveCheese_74 hr rfl
set_option maxRecDepth 100000 in
set_option maxHeartbeats 4000000 in
theorem mX3_giveCheese {E : goEv} {l : Launch} {G : goG} {N : Nat} {M : goMI} {L : goML} {R : goMR} {a0 : Nat} {v1 : Int32} {r0 : Int32} (hk : goKn E) (hW : goW G R) (m0 : a0 = 78 ∨ a0 = 92) (h : fX3_giveCheese N M R a0 v1 = some r0) : Met l yX3_giveCheese (goCd yX3_giveCheese cX3_giveCheese 5 (Option.some FieldType.boolean)) (goRoom 1 21 0 0) (goPre E [.ref a0, .int v1] G M L R) (goQi E r0 G M L R) 0 0 (goSet E) := by
  refine goMet pl_RX3 hk (lv := [some (.ref a0), some (.int v1), none, none, none]) rfl (Nat.le_of_ble_eq_true rfl) ?_
  intro X hc hl hR hr hnm
  subst hl
  unfold fX3_giveCheese at h
  refine go_iconst (v := 0) hc dX3_giveCheese_0 rfl ?_
  refine go_istore2 hc dX3_giveCheese_1 ?_
  exact mX3_giveCheese_L2 hc hk hR hr hW m0 _ _ h _ _
theorem dX3_countMilkers_0 : decode cX3_countMilkers 0 = .ok (.iconst 0, 1) := by decide +kernel
theorem dX3_countMilkers_1 : decode cX3_countMilkers 1 = .ok (.istore_n 1, 1) := by decide +kernel
theorem dX3_countMilkers_2 : decode cX3_countMilkers 2 = .ok (.iconst 0, 1) := by decide +kernel
theorem dX3_countMilkers_3 : decode cX3_countMilkers 3 = .ok (.istore_n 2, 1) := by decide +kernel
theorem dX3_countMilkers_4 : decode cX3_countMilkers 4 = .ok (.iload_n 2, 1) := by decide +kernel
theorem dX3_countMilkers_5 : decode cX3_countMilkers 5 = .ok (.iconst 1, 1) := by decide +kernel
theorem dX3_countMilkers_6 : decode cX3_countMilkers 6 = .ok (.aload_n 0, 1) := by decide +kernel
theorem dX3_countMilkers_7 : decode cX3_countMilkers 7 = .ok (.getfield 43, 3) := by decide +kernel
theorem dX3_countMilkers_10 : decode cX3_countMilkers 10 = .ok (.getfield 69, 3) := by decide +kernel
theorem dX3_countMilkers_13 : decode cX3_countMilkers 13 = .ok (.getfield 89, 3) := by decide +kernel
theorem dX3_countMilkers_16 : decode cX3_countMilkers 16 = .ok (.ishl, 1) := by decide +kernel
theorem dX3_countMilkers_17 : decode cX3_countMilkers 17 = .ok (.if_icmp .ge 20, 3) := by decide +kernel
theorem dX3_countMilkers_20 : decode cX3_countMilkers 20 = .ok (.aload_n 0, 1) := by decide +kernel
theorem dX3_countMilkers_21 : decode cX3_countMilkers 21 = .ok (.iload_n 2, 1) := by decide +kernel
theorem dX3_countMilkers_22 : decode cX3_countMilkers 22 = .ok (.invokevirtual 170, 3) := by decide +kernel
theorem dX3_countMilkers_25 : decode cX3_countMilkers 25 = .ok (.ifCond .eq 6, 3) := by decide +kernel
theorem dX3_countMilkers_28 : decode cX3_countMilkers 28 = .ok (.iinc 1 1, 3) := by decide +kernel
theorem dX3_countMilkers_31 : decode cX3_countMilkers 31 = .ok (.iinc 2 1, 3) := by decide +kernel
theorem dX3_countMilkers_34 : decode cX3_countMilkers 34 = .ok (.goto (-30), 3) := by decide +kernel
theorem dX3_countMilkers_37 : decode cX3_countMilkers 37 = .ok (.iload_n 1, 1) := by decide +kernel
theorem dX3_countMilkers_38 : decode cX3_countMilkers 38 = .ok (.ireturn, 1) := by decide +kernel
set_option maxRecDepth 100000 in
set_option maxHeartbeats 4000000 in
theorem mX3_countMilkers_L4 {E : goEv} {X : goX} {G : goG} {Q : State → Prop} {M : goMI} {L : goML} {R : goMR} {N : Nat} {a0 : Nat} (hc : goCx E X cX3_countMilkers RX3 3) (hk : goKn E) (hR : X.2.2.2.1 = goRoom 2 45 0 0) (hr : X.2.2.2.2.2.2.2.2.1.sig.returnType = (Option.some FieldType.int)) (hW : goW G R) (m0 : a0 = 78 ∨ a0 = 92) : ∀ (n : Nat) (v1 : Int32) (v2 : Int32) (r0 : Int32), lX3_countMilkers_4 N M R a0 n v1 v2 = some r0 → (∀ (d0 d2 : Option Value), goA E X G 0 0 Q 37 [d0, some (.int r0), d2] [] M L R) → goA E X G 0 0 Q 4 [some (.ref a0), some (.int v1), some (.int v2)] [] M L R := by
  intro n
  induction n with
  | zero => intro v1 v2 r0 h; exact nomatch h
  | succ n ih =>
    intro v1 v2 r0 h kx
    rw [lX3_countMilkers_4] at h
    refine go_iload2 hc dX3_countMilkers_4 ?_
    refine go_iconst (v := 1) hc dX3_countMilkers_5 rfl ?_
    refine go_aload0 hc dX3_countMilkers_6 ?_
    refine go_getR hc lk_RX3_43 dX3_countMilkers_7 (shDay_0 hW m0) (rmDay_1 hW m0) ?_
    refine go_getR hc lk_RX3_69 dX3_countMilkers_10 (shHill_0 hW (mmDay_1 hW m0)) (rfHill_15 hW (mmDay_1 hW m0)) ?_
    refine go_getI hc lk_RX3_89 dX3_countMilkers_13 (shHerd_0 hW (subHerd (mmDay_1 hW m0))) ?_
    refine go_ishl hc dX3_countMilkers_16 ?_
    refine go_icmp_ge hc 37 dX3_countMilkers_17 rfl (fun c11 => ?_) (fun c11 => ?_)
    · replace h := goIfF h c11
      cases h
      exact kx _ _
    · replace h := goIfT h c11
      refine go_aload0 hc dX3_countMilkers_20 ?_
      refine go_iload2 hc dX3_countMilkers_21 ?_
      replace h := goBind h; obtain ⟨x12, e13, h⟩ := h
      refine go_callVi hc dX3_countMilkers_22 (mX3_giveCheese hk hW m0 e13) ml_RX3_170 yk_X3_giveCheese ⟨wim_X3_giveCheese, wse_X3_giveCheese⟩ hR rfl (shDay_0 hW m0) rfl rfl rfl (Nat.le_of_ble_eq_true rfl) rfl ?_
      replace h := goNm_y h; obtain ⟨x14, e15, h⟩ := h
      have k16 : goA E X G 0 0 Q 31 [some (.ref a0), some (.int x14), some (.int v2)] [] M L R := by
        refine go_iinc2 (v := (v2 + 1)) hc dX3_countMilkers_31 rfl ?_
        refine go_goto hc 4 dX3_countMilkers_34 rfl ?_
        exact ih _ _ _ h kx
      refine go_if_eq hc 31 dX3_countMilkers_25 rfl (fun c17 => ?_) (fun c17 => ?_)
      · replace e15 := goIfT e15 c17
        subst e15
        exact k16
      · replace e15 := goIfF e15 c17
        refine go_iinc1 (v := (v1 + 1)) hc dX3_countMilkers_28 rfl ?_
        subst e15
        exact k16
set_option maxRecDepth 100000 in
set_option maxHeartbeats 4000000 in
theorem mX3_countMilkers {E : goEv} {l : Launch} {G : goG} {N : Nat} {M : goMI} {L : goML} {R : goMR} {a0 : Nat} {r0 : Int32} (hk : goKn E) (hW : goW G R) (m0 : a0 = 78 ∨ a0 = 92) (h : fX3_countMilkers N M R a0 = some r0) : Met l yX3_countMilkers (goCd yX3_countMilkers cX3_countMilkers 3 (Option.some FieldType.int)) (goRoom 2 45 0 0) (goPre E [.ref a0] G M L R) (goQi E r0 G M L R) 0 0 (goSet E) := by
  refine goMet pl_RX3 hk (lv := [some (.ref a0), none, none]) rfl (Nat.le_of_ble_eq_true rfl) ?_
  intro X hc hl hR hr hnm
  subst hl
  unfold fX3_countMilkers at h
  refine go_iconst (v := 0) hc dX3_countMilkers_0 rfl ?_
  refine go_istore1 hc dX3_countMilkers_1 ?_
  refine go_iconst (v := 0) hc dX3_countMilkers_2 rfl ?_
  refine go_istore2 hc dX3_countMilkers_3 ?_
  replace h := goBind h; obtain ⟨x19, e18, h⟩ := h
  refine mX3_countMilkers_L4 hc hk hR hr hW m0 _ _ _ _ e18 (fun d0 d2 => ?_)
  refine go_iload1 hc dX3_countMilkers_37 ?_
  cases h
  exact go_iret hc dX3_countMilkers_38 hr
theorem dX3_leastMilkers_0 : decode cX3_leastMilkers 0 = .ok (.iconst 0, 1) := by decide +kernel
theorem dX3_leastMilkers_1 : decode cX3_leastMilkers 1 = .ok (.istore_n 1, 1) := by decide +kernel
theorem dX3_leastMilkers_2 : decode cX3_leastMilkers 2 = .ok (.iload_n 1, 1) := by decide +kernel
theorem dX3_leastMilkers_3 : decode cX3_leastMilkers 3 = .ok (.iconst 1, 1) := by decide +kernel
theorem dX3_leastMilkers_4 : decode cX3_leastMilkers 4 = .ok (.aload_n 0, 1) := by decide +kernel
theorem dX3_leastMilkers_5 : decode cX3_leastMilkers 5 = .ok (.getfield 43, 3) := by decide +kernel
theorem dX3_leastMilkers_8 : decode cX3_leastMilkers 8 = .ok (.getfield 69, 3) := by decide +kernel
theorem dX3_leastMilkers_11 : decode cX3_leastMilkers 11 = .ok (.getfield 89, 3) := by decide +kernel
theorem dX3_leastMilkers_14 : decode cX3_leastMilkers 14 = .ok (.ishl, 1) := by decide +kernel
theorem dX3_leastMilkers_15 : decode cX3_leastMilkers 15 = .ok (.if_icmp .ge 19, 3) := by decide +kernel
theorem dX3_leastMilkers_18 : decode cX3_leastMilkers 18 = .ok (.aload_n 0, 1) := by decide +kernel
theorem dX3_leastMilkers_19 : decode cX3_leastMilkers 19 = .ok (.iload_n 1, 1) := by decide +kernel
theorem dX3_leastMilkers_20 : decode cX3_leastMilkers 20 = .ok (.invokevirtual 170, 3) := by decide +kernel
theorem dX3_leastMilkers_23 : decode cX3_leastMilkers 23 = .ok (.ifCond .eq 5, 3) := by decide +kernel
theorem dX3_leastMilkers_26 : decode cX3_leastMilkers 26 = .ok (.iload_n 1, 1) := by decide +kernel
theorem dX3_leastMilkers_27 : decode cX3_leastMilkers 27 = .ok (.ireturn, 1) := by decide +kernel
theorem dX3_leastMilkers_28 : decode cX3_leastMilkers 28 = .ok (.iinc 1 1, 3) := by decide +kernel
theorem dX3_leastMilkers_31 : decode cX3_leastMilkers 31 = .ok (.goto (-29), 3) := by decide +kernel
theorem dX3_leastMilkers_34 : decode cX3_leastMilkers 34 = .ok (.bipush (-2), 2) := by decide +kernel
theorem dX3_leastMilkers_36 : decode cX3_leastMilkers 36 = .ok (.ireturn, 1) := by decide +kernel
set_option maxRecDepth 100000 in
set_option maxHeartbeats 4000000 in
theorem mX3_leastMilkers_L2 {E : goEv} {X : goX} {G : goG} {M : goMI} {L : goML} {R : goMR} {N : Nat} {a0 : Nat} {r0 : Int32} (hc : goCx E X cX3_leastMilkers RX3 2) (hk : goKn E) (hR : X.2.2.2.1 = goRoom 2 45 0 0) (hr : X.2.2.2.2.2.2.2.2.1.sig.returnType = (Option.some FieldType.int)) (hW : goW G R) (m0 : a0 = 78 ∨ a0 = 92) : ∀ (n : Nat) (v1 : Int32), lX3_leastMilkers_2 N M R a0 n v1 = some r0 → goA E X G 0 0 (goMQ X E (goQi E r0 G M L R) 0 0) 2 [some (.ref a0), some (.int v1)] [] M L R := by
  intro n
  induction n with
  | zero => intro v1 h; exact nomatch h
  | succ n ih =>
    intro v1 h
    rw [lX3_leastMilkers_2] at h
    refine go_iload1 hc dX3_leastMilkers_2 ?_
    refine go_iconst (v := 1) hc dX3_leastMilkers_3 rfl ?_
    refine go_aload0 hc dX3_leastMilkers_4 ?_
    refine go_getR hc lk_RX3_43 dX3_leastMilkers_5 (shDay_0 hW m0) (rmDay_1 hW m0) ?_
    refine go_getR hc lk_RX3_69 dX3_leastMilkers_8 (shHill_0 hW (mmDay_1 hW m0)) (rfHill_15 hW (mmDay_1 hW m0)) ?_
    refine go_getI hc lk_RX3_89 dX3_leastMilkers_11 (shHerd_0 hW (subHerd (mmDay_1 hW m0))) ?_
    refine go_ishl hc dX3_leastMilkers_14 ?_
    refine go_icmp_ge hc 34 dX3_leastMilkers_15 rfl (fun c11 => ?_) (fun c11 => ?_)
    · replace h := goIfF h c11
      refine go_bipush (v := (-2)) hc dX3_leastMilkers_34 rfl ?_
      cases h
      exact go_iret hc dX3_leastMilkers_36 hr
    · replace h := goIfT h c11
      refine go_aload0 hc dX3_leastMilkers_18 ?_
      refine go_iload1 hc dX3_leastMilkers_19 ?_
      replace h := goBind h; obtain ⟨x12, e13, h⟩ := h
      refine go_callVi hc dX3_leastMilkers_20 (mX3_giveCheese hk hW m0 e13) ml_RX3_170 yk_X3_giveCheese ⟨wim_X3_giveCheese, wse_X3_giveCheese⟩ hR rfl (shDay_0 hW m0) rfl rfl rfl (Nat.le_of_ble_eq_true rfl) rfl ?_
      refine go_if_eq hc 28 dX3_leastMilkers_23 rfl (fun c14 => ?_) (fun c14 => ?_)
      · replace h := goIfT h c14
        refine go_iinc1 (v := (v1 + 1)) hc dX3_leastMilkers_28 rfl ?_
        refine go_goto hc 2 dX3_leastMilkers_31 rfl ?_
        exact ih _ h
      · replace h := goIfF h c14
        refine go_iload1 hc dX3_leastMilkers_26 ?_
        cases h
        exact go_iret hc dX3_leastMilkers_27 hr
set_option maxRecDepth 100000 in
set_option maxHeartbeats 4000000 in
theorem mX3_leastMilkers {E : goEv} {l : Launch} {G : goG} {N : Nat} {M : goMI} {L : goML} {R : goMR} {a0 : Nat} {r0 : Int32} (hk : goKn E) (hW : goW G R) (m0 : a0 = 78 ∨ a0 = 92) (h : fX3_leastMilkers N M R a0 = some r0) : Met l yX3_leastMilkers (goCd yX3_leastMilkers cX3_leastMilkers 2 (Option.some FieldType.int)) (goRoom 2 45 0 0) (goPre E [.ref a0] G M L R) (goQi E r0 G M L R) 0 0 (goSet E) := by
  refine goMet pl_RX3 hk (lv := [some (.ref a0), none]) rfl (Nat.le_of_ble_eq_true rfl) ?_
  intro X hc hl hR hr hnm
  subst hl
  unfold fX3_leastMilkers at h
  refine go_iconst (v := 0) hc dX3_leastMilkers_0 rfl ?_
  refine go_istore1 hc dX3_leastMilkers_1 ?_
  exact mX3_leastMilkers_L2 hc hk hR hr hW m0 _ _ h
theorem dX4_use_0 : decode cX4_use 0 = .ok (.aload_n 0, 1) := by decide +kernel
theorem dX4_use_1 : decode cX4_use 1 = .ok (.aload_n 1, 1) := by decide +kernel
theorem dX4_use_2 : decode cX4_use 2 = .ok (.putfield 26, 3) := by decide +kernel
theorem dX4_use_5 : decode cX4_use 5 = .ok (.aload_n 0, 1) := by decide +kernel
theorem dX4_use_6 : decode cX4_use 6 = .ok (.getfield 35, 3) := by decide +kernel
theorem dX4_use_9 : decode cX4_use 9 = .ok (.aload_n 1, 1) := by decide +kernel
theorem dX4_use_10 : decode cX4_use 10 = .ok (.putfield 46, 3) := by decide +kernel
theorem dX4_use_13 : decode cX4_use 13 = .ok (.return_, 1) := by decide +kernel
set_option maxRecDepth 100000 in
set_option maxHeartbeats 4000000 in
theorem mX4_use {E : goEv} {l : Launch} {G : goG} {M : goMI} {L : goML} {R : goMR} {a1 : Nat} (hk : goKn E) (hW : goW G R) (m1 : a1 = 7 ∨ a1 = 37) (h : fX4_use R a1 = some ()) : Met l yX4_use (goCd yX4_use cX4_use 2 none) (goRoom 0 0 0 0) (goPre E [.ref 74, .ref a1] G M L R) (goQv E G M L (rX4_use R a1)) 0 0 (goSet E) := by
  refine goMet pl_RX4 hk (lv := [some (.ref 74), some (.ref a1)]) rfl (Nat.le_of_ble_eq_true rfl) ?_
  intro X hc hl hR hr hnm
  subst hl
  unfold fX4_use at h
  refine go_aload0 hc dX4_use_0 ?_
  refine go_aload1 hc dX4_use_1 ?_
  refine go_putR hc (.object "GoatCourt$Hill") lk_RX4_26 (by decide +kernel) (fun _ => ⟨rfl, rfl⟩) dX4_use_2 (sh_74 hW) ?_
  replace hW := pt_74_2 hW m1
  refine go_aload0 hc dX4_use_5 ?_
  refine go_getR hc lk_RX4_35 dX4_use_6 (sh_74 hW) (rf_74_1 hW) ?_
  refine go_aload1 hc dX4_use_9 ?_
  refine go_putR hc (.object "GoatCourt$Hill") lk_RX4_46 (by decide +kernel) (fun _ => ⟨rfl, rfl⟩) dX4_use_10 (shDay_0 hW (mb_78)) ?_
  replace hW := ptDay_1 hW (mb_78) m1
  cases h
  exact go_vret hc dX4_use_13 hr
theorem dX4_dayOf_0 : decode cX4_dayOf 0 = .ok (.aload_n 0, 1) := by decide +kernel
theorem dX4_dayOf_1 : decode cX4_dayOf 1 = .ok (.getfield 43, 3) := by decide +kernel
theorem dX4_dayOf_4 : decode cX4_dayOf 4 = .ok (.aload_n 0, 1) := by decide +kernel
theorem dX4_dayOf_5 : decode cX4_dayOf 5 = .ok (.getfield 22, 3) := by decide +kernel
theorem dX4_dayOf_8 : decode cX4_dayOf 8 = .ok (.getfield 47, 3) := by decide +kernel
theorem dX4_dayOf_11 : decode cX4_dayOf 11 = .ok (.if_icmp .ne 11, 3) := by decide +kernel
theorem dX4_dayOf_14 : decode cX4_dayOf 14 = .ok (.aload_n 0, 1) := by decide +kernel
theorem dX4_dayOf_15 : decode cX4_dayOf 15 = .ok (.getfield 52, 3) := by decide +kernel
theorem dX4_dayOf_18 : decode cX4_dayOf 18 = .ok (.iload_n 1, 1) := by decide +kernel
theorem dX4_dayOf_19 : decode cX4_dayOf 19 = .ok (.if_icmp .eq 44, 3) := by decide +kernel
theorem dX4_dayOf_22 : decode cX4_dayOf 22 = .ok (.aload_n 0, 1) := by decide +kernel
theorem dX4_dayOf_23 : decode cX4_dayOf 23 = .ok (.getfield 35, 3) := by decide +kernel
theorem dX4_dayOf_26 : decode cX4_dayOf 26 = .ok (.iload_n 1, 1) := by decide +kernel
theorem dX4_dayOf_27 : decode cX4_dayOf 27 = .ok (.invokevirtual 55, 3) := by decide +kernel
theorem dX4_dayOf_30 : decode cX4_dayOf 30 = .ok (.aload_n 0, 1) := by decide +kernel
theorem dX4_dayOf_31 : decode cX4_dayOf 31 = .ok (.getfield 35, 3) := by decide +kernel
theorem dX4_dayOf_34 : decode cX4_dayOf 34 = .ok (.iconst 0, 1) := by decide +kernel
theorem dX4_dayOf_35 : decode cX4_dayOf 35 = .ok (.aload_n 0, 1) := by decide +kernel
theorem dX4_dayOf_36 : decode cX4_dayOf 36 = .ok (.getfield 26, 3) := by decide +kernel
theorem dX4_dayOf_39 : decode cX4_dayOf 39 = .ok (.getfield 59, 3) := by decide +kernel
theorem dX4_dayOf_42 : decode cX4_dayOf 42 = .ok (.iconst 1, 1) := by decide +kernel
theorem dX4_dayOf_43 : decode cX4_dayOf 43 = .ok (.isub, 1) := by decide +kernel
theorem dX4_dayOf_44 : decode cX4_dayOf 44 = .ok (.invokevirtual 64, 3) := by decide +kernel
theorem dX4_dayOf_47 : decode cX4_dayOf 47 = .ok (.aload_n 0, 1) := by decide +kernel
theorem dX4_dayOf_48 : decode cX4_dayOf 48 = .ok (.aload_n 0, 1) := by decide +kernel
theorem dX4_dayOf_49 : decode cX4_dayOf 49 = .ok (.getfield 22, 3) := by decide +kernel
theorem dX4_dayOf_52 : decode cX4_dayOf 52 = .ok (.getfield 47, 3) := by decide +kernel
theorem dX4_dayOf_55 : decode cX4_dayOf 55 = .ok (.putfield 43, 3) := by decide +kernel
theorem dX4_dayOf_58 : decode cX4_dayOf 58 = .ok (.aload_n 0, 1) := by decide +kernel
theorem dX4_dayOf_59 : decode cX4_dayOf 59 = .ok (.iload_n 1, 1) := by decide +kernel
theorem dX4_dayOf_60 : decode cX4_dayOf 60 = .ok (.putfield 52, 3) := by decide +kernel
theorem dX4_dayOf_63 : decode cX4_dayOf 63 = .ok (.aload_n 0, 1) := by decide +kernel
theorem dX4_dayOf_64 : decode cX4_dayOf 64 = .ok (.getfield 35, 3) := by decide +kernel
theorem dX4_dayOf_67 : decode cX4_dayOf 67 = .ok (.areturn, 1) := by decide +kernel
set_option maxRecDepth 100000 in
set_option maxHeartbeats 4000000 in
theorem mX4_dayOf {E : goEv} {l : Launch} {G : goG} {N : Nat} {M : goMI} {L : goML} {R : goMR} {v1 : Int32} {r0 : goMI} (hk : goKn E) (hW : goW G R) (h : fX4_dayOf N M R v1 = some r0) : Met l yX4_dayOf (goCd yX4_dayOf cX4_dayOf 2 (Option.some (FieldType.object "GoatCourt$Day"))) (goRoom 4 105 0 0) (goPre E [.ref 74, .int v1] G M L R) (goQr E 78 G r0 L R) 0 0 (goSet E) := by
  refine goMet pl_RX4 hk (lv := [some (.ref 74), some (.int v1)]) rfl (Nat.le_of_ble_eq_true rfl) ?_
  intro X hc hl hR hr hnm
  subst hl
  unfold fX4_dayOf at h
  refine go_aload0 hc dX4_dayOf_0 ?_
  refine go_getI hc lk_RX4_43 dX4_dayOf_1 (sh_74 hW) ?_
  refine go_aload0 hc dX4_dayOf_4 ?_
  refine go_getR hc lk_RX4_22 dX4_dayOf_5 (sh_74 hW) (rf_74_0 hW) ?_
  refine go_getI hc lk_RX4_47 dX4_dayOf_8 (sh_3 hW) ?_
  replace h := goBind h; obtain ⟨M11, e12, h⟩ := h
  have k13 : ∀ (d1 : Option Value), goA E X G 0 0 (goMQ X E (goQr E 78 G r0 L R) 0 0) 63 [some (.ref 74), d1] [] M11 L R := by
    intro d1
    refine go_aload0 hc dX4_dayOf_63 ?_
    refine go_getR hc lk_RX4_35 dX4_dayOf_64 (sh_74 hW) (rf_74_1 hW) ?_
    cases h
    exact go_aret hc dX4_dayOf_67 hr
  refine go_icmp_ne hc 22 dX4_dayOf_11 rfl (fun c14 => ?_) (fun c14 => ?_)
  · replace e12 := goIfF e12 c14
    refine go_aload0 hc dX4_dayOf_22 ?_
    refine go_getR hc lk_RX4_35 dX4_dayOf_23 (sh_74 hW) (rf_74_1 hW) ?_
    refine go_iload1 hc dX4_dayOf_26 ?_
    replace e12 := goBind e12; obtain ⟨M15, e16, e12⟩ := e12
    refine go_callVv hc dX4_dayOf_27 (mX3_prepare hk hW (mb_78) e16) ml_RX4_55 yk_X3_prepare ⟨wim_X3_prepare, wse_X3_prepare⟩ hR rfl (shDay_0 hW (mb_78)) rfl rfl rfl (Nat.le_of_ble_eq_true rfl) rfl ?_
    refine go_aload0 hc dX4_dayOf_30 ?_
    refine go_getR hc lk_RX4_35 dX4_dayOf_31 (sh_74 hW) (rf_74_1 hW) ?_
    refine go_iconst (v := 0) hc dX4_dayOf_34 rfl ?_
    refine go_aload0 hc dX4_dayOf_35 ?_
    refine go_getR hc lk_RX4_26 dX4_dayOf_36 (sh_74 hW) (rm_74_2 hW) ?_
    refine go_getI hc lk_RX4_59 dX4_dayOf_39 (shHill_0 hW (mm_74_2 hW)) ?_
    refine go_iconst (v := 1) hc dX4_dayOf_42 rfl ?_
    refine go_isub hc dX4_dayOf_43 ?_
    replace e12 := goBind e12; obtain ⟨M17, e18, e12⟩ := e12
    refine go_callVv hc dX4_dayOf_44 (mX3_play hk hW (mb_78) e18) ml_RX4_64 yk_X3_play ⟨wim_X3_play, wse_X3_play⟩ hR rfl (shDay_0 hW (mb_78)) rfl rfl rfl (Nat.le_of_ble_eq_true rfl) rfl ?_
    refine go_aload0 hc dX4_dayOf_47 ?_
    refine go_aload0 hc dX4_dayOf_48 ?_
    refine go_getR hc lk_RX4_22 dX4_dayOf_49 (sh_74 hW) (rf_74_0 hW) ?_
    refine go_getI hc lk_RX4_47 dX4_dayOf_52 (sh_3 hW) ?_
    replace e12 := goNm_x e12; obtain ⟨M19, e20, e12⟩ := e12
    refine go_ptI hc lk_RX4_43 dX4_dayOf_55 (sh_74 hW) e20 ?_
    refine go_aload0 hc dX4_dayOf_58 ?_
    refine go_iload1 hc dX4_dayOf_59 ?_
    replace e12 := goNm_x e12; obtain ⟨M21, e22, e12⟩ := e12
    refine go_ptI hc lk_RX4_52 dX4_dayOf_60 (sh_74 hW) e22 ?_
    cases e12
    exact k13 _
  · replace e12 := goIfT e12 c14
    refine go_aload0 hc dX4_dayOf_14 ?_
    refine go_getI hc lk_RX4_52 dX4_dayOf_15 (sh_74 hW) ?_
    refine go_iload1 hc dX4_dayOf_18 ?_
    refine go_icmp_eq hc 63 dX4_dayOf_19 rfl (fun c23 => ?_) (fun c23 => ?_)
    · replace e12 := goIfT e12 c23
      cases e12
      exact k13 _
    · replace e12 := goIfF e12 c23
      refine go_aload0 hc dX4_dayOf_22 ?_
      refine go_getR hc lk_RX4_35 dX4_dayOf_23 (sh_74 hW) (rf_74_1 hW) ?_
      refine go_iload1 hc dX4_dayOf_26 ?_
      replace e12 := goBind e12; obtain ⟨M24, e25, e12⟩ := e12
      refine go_callVv hc dX4_dayOf_27 (mX3_prepare hk hW (mb_78) e25) ml_RX4_55 yk_X3_prepare ⟨wim_X3_prepare, wse_X3_prepare⟩ hR rfl (shDay_0 hW (mb_78)) rfl rfl rfl (Nat.le_of_ble_eq_true rfl) rfl ?_
      refine go_aload0 hc dX4_dayOf_30 ?_
      refine go_getR hc lk_RX4_35 dX4_dayOf_31 (sh_74 hW) (rf_74_1 hW) ?_
      refine go_iconst (v := 0) hc dX4_dayOf_34 rfl ?_
      refine go_aload0 hc dX4_dayOf_35 ?_
      refine go_getR hc lk_RX4_26 dX4_dayOf_36 (sh_74 hW) (rm_74_2 hW) ?_
      refine go_getI hc lk_RX4_59 dX4_dayOf_39 (shHill_0 hW (mm_74_2 hW)) ?_
      refine go_iconst (v := 1) hc dX4_dayOf_42 rfl ?_
      refine go_isub hc dX4_dayOf_43 ?_
      replace e12 := goBind e12; obtain ⟨M26, e27, e12⟩ := e12
      refine go_callVv hc dX4_dayOf_44 (mX3_play hk hW (mb_78) e27) ml_RX4_64 yk_X3_play ⟨wim_X3_play, wse_X3_play⟩ hR rfl (shDay_0 hW (mb_78)) rfl rfl rfl (Nat.le_of_ble_eq_true rfl) rfl ?_
      refine go_aload0 hc dX4_dayOf_47 ?_
      refine go_aload0 hc dX4_dayOf_48 ?_
      refine go_getR hc lk_RX4_22 dX4_dayOf_49 (sh_74 hW) (rf_74_0 hW) ?_
      refine go_getI hc lk_RX4_47 dX4_dayOf_52 (sh_3 hW) ?_
      replace e12 := goNm_x e12; obtain ⟨M28, e29, e12⟩ := e12
      refine go_ptI hc lk_RX4_43 dX4_dayOf_55 (sh_74 hW) e29 ?_
      refine go_aload0 hc dX4_dayOf_58 ?_
      refine go_iload1 hc dX4_dayOf_59 ?_
      replace e12 := goNm_x e12; obtain ⟨M30, e31, e12⟩ := e12
      refine go_ptI hc lk_RX4_52 dX4_dayOf_60 (sh_74 hW) e31 ?_
      cases e12
      exact k13 _
theorem dX4_freshened_0 : decode cX4_freshened 0 = .ok (.iconst 0, 1) := by decide +kernel
theorem dX4_freshened_1 : decode cX4_freshened 1 = .ok (.istore_n 1, 1) := by decide +kernel
theorem dX4_freshened_2 : decode cX4_freshened 2 = .ok (.iload_n 1, 1) := by decide +kernel
theorem dX4_freshened_3 : decode cX4_freshened 3 = .ok (.aload_n 0, 1) := by decide +kernel
theorem dX4_freshened_4 : decode cX4_freshened 4 = .ok (.getfield 26, 3) := by decide +kernel
theorem dX4_freshened_7 : decode cX4_freshened 7 = .ok (.getfield 68, 3) := by decide +kernel
theorem dX4_freshened_10 : decode cX4_freshened 10 = .ok (.if_icmp .ge 120, 3) := by decide +kernel
theorem dX4_freshened_13 : decode cX4_freshened 13 = .ok (.aload_n 0, 1) := by decide +kernel
theorem dX4_freshened_14 : decode cX4_freshened 14 = .ok (.getfield 39, 3) := by decide +kernel
theorem dX4_freshened_17 : decode cX4_freshened 17 = .ok (.aload_n 0, 1) := by decide +kernel
theorem dX4_freshened_18 : decode cX4_freshened 18 = .ok (.getfield 22, 3) := by decide +kernel
theorem dX4_freshened_21 : decode cX4_freshened 21 = .ok (.getfield 47, 3) := by decide +kernel
theorem dX4_freshened_24 : decode cX4_freshened 24 = .ok (.if_icmp .eq 106, 3) := by decide +kernel
theorem dX4_freshened_27 : decode cX4_freshened 27 = .ok (.aload_n 0, 1) := by decide +kernel
theorem dX4_freshened_28 : decode cX4_freshened 28 = .ok (.iload_n 1, 1) := by decide +kernel
theorem dX4_freshened_29 : decode cX4_freshened 29 = .ok (.invokevirtual 71, 3) := by decide +kernel
theorem dX4_freshened_32 : decode cX4_freshened 32 = .ok (.pop, 1) := by decide +kernel
theorem dX4_freshened_33 : decode cX4_freshened 33 = .ok (.aload_n 0, 1) := by decide +kernel
theorem dX4_freshened_34 : decode cX4_freshened 34 = .ok (.getfield 9, 3) := by decide +kernel
theorem dX4_freshened_37 : decode cX4_freshened 37 = .ok (.iload_n 1, 1) := by decide +kernel
theorem dX4_freshened_38 : decode cX4_freshened 38 = .ok (.iconst 0, 1) := by decide +kernel
theorem dX4_freshened_39 : decode cX4_freshened 39 = .ok (.iastore, 1) := by decide +kernel
theorem dX4_freshened_40 : decode cX4_freshened 40 = .ok (.iconst 0, 1) := by decide +kernel
theorem dX4_freshened_41 : decode cX4_freshened 41 = .ok (.istore_n 2, 1) := by decide +kernel
theorem dX4_freshened_42 : decode cX4_freshened 42 = .ok (.iload_n 2, 1) := by decide +kernel
theorem dX4_freshened_43 : decode cX4_freshened 43 = .ok (.aload_n 0, 1) := by decide +kernel
theorem dX4_freshened_44 : decode cX4_freshened 44 = .ok (.getfield 26, 3) := by decide +kernel
theorem dX4_freshened_47 : decode cX4_freshened 47 = .ok (.getfield 75, 3) := by decide +kernel
theorem dX4_freshened_50 : decode cX4_freshened 50 = .ok (.getfield 79, 3) := by decide +kernel
theorem dX4_freshened_53 : decode cX4_freshened 53 = .ok (.if_icmp .ge 36, 3) := by decide +kernel
theorem dX4_freshened_56 : decode cX4_freshened 56 = .ok (.aload_n 0, 1) := by decide +kernel
theorem dX4_freshened_57 : decode cX4_freshened 57 = .ok (.getfield 9, 3) := by decide +kernel
theorem dX4_freshened_60 : decode cX4_freshened 60 = .ok (.iload_n 1, 1) := by decide +kernel
theorem dX4_freshened_61 : decode cX4_freshened 61 = .ok (.dup2, 1) := by decide +kernel
theorem dX4_freshened_62 : decode cX4_freshened 62 = .ok (.iaload, 1) := by decide +kernel
theorem dX4_freshened_63 : decode cX4_freshened 63 = .ok (.aload_n 0, 1) := by decide +kernel
theorem dX4_freshened_64 : decode cX4_freshened 64 = .ok (.getfield 35, 3) := by decide +kernel
theorem dX4_freshened_67 : decode cX4_freshened 67 = .ok (.iload_n 2, 1) := by decide +kernel
theorem dX4_freshened_68 : decode cX4_freshened 68 = .ok (.invokevirtual 84, 3) := by decide +kernel
theorem dX4_freshened_71 : decode cX4_freshened 71 = .ok (.ifCond .eq 9, 3) := by decide +kernel
theorem dX4_freshened_74 : decode cX4_freshened 74 = .ok (.iconst 1, 1) := by decide +kernel
theorem dX4_freshened_75 : decode cX4_freshened 75 = .ok (.iload_n 2, 1) := by decide +kernel
theorem dX4_freshened_76 : decode cX4_freshened 76 = .ok (.ishl, 1) := by decide +kernel
theorem dX4_freshened_77 : decode cX4_freshened 77 = .ok (.goto 4, 3) := by decide +kernel
theorem dX4_freshened_80 : decode cX4_freshened 80 = .ok (.iconst 0, 1) := by decide +kernel
theorem dX4_freshened_81 : decode cX4_freshened 81 = .ok (.ior, 1) := by decide +kernel
theorem dX4_freshened_82 : decode cX4_freshened 82 = .ok (.iastore, 1) := by decide +kernel
theorem dX4_freshened_83 : decode cX4_freshened 83 = .ok (.iinc 2 1, 3) := by decide +kernel
theorem dX4_freshened_86 : decode cX4_freshened 86 = .ok (.goto (-44), 3) := by decide +kernel
theorem dX4_freshened_89 : decode cX4_freshened 89 = .ok (.iconst 0, 1) := by decide +kernel
theorem dX4_freshened_90 : decode cX4_freshened 90 = .ok (.istore_n 2, 1) := by decide +kernel
theorem dX4_freshened_91 : decode cX4_freshened 91 = .ok (.iload_n 2, 1) := by decide +kernel
theorem dX4_freshened_92 : decode cX4_freshened 92 = .ok (.bipush 72, 2) := by decide +kernel
theorem dX4_freshened_94 : decode cX4_freshened 94 = .ok (.if_icmp .ge 30, 3) := by decide +kernel
theorem dX4_freshened_97 : decode cX4_freshened 97 = .ok (.aload_n 0, 1) := by decide +kernel
theorem dX4_freshened_98 : decode cX4_freshened 98 = .ok (.getfield 15, 3) := by decide +kernel
theorem dX4_freshened_101 : decode cX4_freshened 101 = .ok (.iload_n 1, 1) := by decide +kernel
theorem dX4_freshened_102 : decode cX4_freshened 102 = .ok (.bipush 72, 2) := by decide +kernel
theorem dX4_freshened_104 : decode cX4_freshened 104 = .ok (.imul, 1) := by decide +kernel
theorem dX4_freshened_105 : decode cX4_freshened 105 = .ok (.iload_n 2, 1) := by decide +kernel
theorem dX4_freshened_106 : decode cX4_freshened 106 = .ok (.iadd, 1) := by decide +kernel
theorem dX4_freshened_107 : decode cX4_freshened 107 = .ok (.aload_n 0, 1) := by decide +kernel
theorem dX4_freshened_108 : decode cX4_freshened 108 = .ok (.getfield 35, 3) := by decide +kernel
theorem dX4_freshened_111 : decode cX4_freshened 111 = .ok (.getfield 88, 3) := by decide +kernel
theorem dX4_freshened_114 : decode cX4_freshened 114 = .ok (.iload_n 2, 1) := by decide +kernel
theorem dX4_freshened_115 : decode cX4_freshened 115 = .ok (.iaload, 1) := by decide +kernel
theorem dX4_freshened_116 : decode cX4_freshened 116 = .ok (.i2b, 1) := by decide +kernel
theorem dX4_freshened_117 : decode cX4_freshened 117 = .ok (.bastore, 1) := by decide +kernel
theorem dX4_freshened_118 : decode cX4_freshened 118 = .ok (.iinc 2 1, 3) := by decide +kernel
theorem dX4_freshened_121 : decode cX4_freshened 121 = .ok (.goto (-30), 3) := by decide +kernel
theorem dX4_freshened_124 : decode cX4_freshened 124 = .ok (.iinc 1 1, 3) := by decide +kernel
theorem dX4_freshened_127 : decode cX4_freshened 127 = .ok (.goto (-125), 3) := by decide +kernel
theorem dX4_freshened_130 : decode cX4_freshened 130 = .ok (.aload_n 0, 1) := by decide +kernel
theorem dX4_freshened_131 : decode cX4_freshened 131 = .ok (.aload_n 0, 1) := by decide +kernel
theorem dX4_freshened_132 : decode cX4_freshened 132 = .ok (.getfield 22, 3) := by decide +kernel
theorem dX4_freshened_135 : decode cX4_freshened 135 = .ok (.getfield 47, 3) := by decide +kernel
theorem dX4_freshened_138 : decode cX4_freshened 138 = .ok (.putfield 39, 3) := by decide +kernel
theorem dX4_freshened_141 : decode cX4_freshened 141 = .ok (.aload_n 0, 1) := by decide +kernel
theorem dX4_freshened_142 : decode cX4_freshened 142 = .ok (.areturn, 1) := by decide +kernel
set_option maxRecDepth 100000 in
set_option maxHeartbeats 4000000 in
theorem mX4_freshened_L42 {E : goEv} {X : goX} {G : goG} {Q : State → Prop} {L : goML} {R : goMR} {v1 : Int32} (hc : goCx E X cX4_freshened RX4 3) (hk : goKn E) (hR : X.2.2.2.1 = goRoom 5 126 0 0) (hr : X.2.2.2.2.2.2.2.2.1.sig.returnType = (Option.some (FieldType.object "GoatCourt$Evidence"))) (hW : goW G R) : ∀ (n : Nat) (v2 : Int32) (M : goMI) (r0 : goMI), lX4_freshened_42 v1 R n v2 M = some r0 → (∀ (d2 : Option Value), goA E X G 0 0 Q 89 [some (.ref 74), some (.int v1), d2] [] r0 L R) → goA E X G 0 0 Q 42 [some (.ref 74), some (.int v1), some (.int v2)] [] M L R := by
  intro n
  induction n with
  | zero => intro v2 M r0 h; exact nomatch h
  | succ n ih =>
    intro v2 M r0 h kx
    rw [lX4_freshened_42] at h
    refine go_iload2 hc dX4_freshened_42 ?_
    refine go_aload0 hc dX4_freshened_43 ?_
    refine go_getR hc lk_RX4_26 dX4_freshened_44 (sh_74 hW) (rm_74_2 hW) ?_
    refine go_getR hc lk_RX4_75 dX4_freshened_47 (shHill_0 hW (mm_74_2 hW)) (rfHill_15 hW (mm_74_2 hW)) ?_
    refine go_getI hc lk_RX4_79 dX4_freshened_50 (shHerd_0 hW (subHerd (mm_74_2 hW))) ?_
    refine go_icmp_ge hc 89 dX4_freshened_53 rfl (fun c17 => ?_) (fun c17 => ?_)
    · replace h := goIfF h c17
      cases h
      exact kx _
    · replace h := goIfT h c17
      refine go_aload0 hc dX4_freshened_56 ?_
      refine go_getR hc lk_RX4_9 dX4_freshened_57 (sh_74 hW) (rf_74_3 hW) ?_
      refine go_iload1 hc dX4_freshened_60 ?_
      refine go_dup2 hc dX4_freshened_61 ?_
      replace h := goBind h; obtain ⟨x18, e19, h⟩ := h
      refine go_iald hc dX4_freshened_62 (sh_75 hW) e19 ?_
      refine go_aload0 hc dX4_freshened_63 ?_
      refine go_getR hc lk_RX4_35 dX4_freshened_64 (sh_74 hW) (rf_74_1 hW) ?_
      refine go_iload2 hc dX4_freshened_67 ?_
      replace h := goBind h; obtain ⟨x20, e21, h⟩ := h
      refine go_callVi hc dX4_freshened_68 (mX3_shows hk hW (mb_78) e21) ml_RX4_84 yk_X3_shows ⟨wim_X3_shows, wse_X3_shows⟩ hR rfl (shDay_0 hW (mb_78)) rfl rfl rfl (Nat.le_of_ble_eq_true rfl) rfl ?_
      replace h := goNm_y h; obtain ⟨x22, e23, h⟩ := h
      have k24 : goA E X G 0 0 Q 81 [some (.ref 74), some (.int v1), some (.int v2)] [.int x22, .int x18, .int v1, .ref 75] M L R := by
        refine go_ior hc dX4_freshened_81 ?_
        replace h := goBind h; obtain ⟨M26, e27, h⟩ := h
        refine go_iast hc dX4_freshened_82 (sh_75 hW) e27 ?_
        refine go_iinc2 (v := (v2 + 1)) hc dX4_freshened_83 rfl ?_
        refine go_goto hc 42 dX4_freshened_86 rfl ?_
        exact ih _ _ _ h kx
      refine go_if_eq hc 80 dX4_freshened_71 rfl (fun c25 => ?_) (fun c25 => ?_)
      · replace e23 := goIfT e23 c25
        refine go_iconst (v := 0) hc dX4_freshened_80 rfl ?_
        subst e23
        exact k24
      · replace e23 := goIfF e23 c25
        refine go_iconst (v := 1) hc dX4_freshened_74 rfl ?_
        refine go_iload2 hc dX4_freshened_75 ?_
        refine go_ishl hc dX4_freshened_76 ?_
        refine go_goto hc 81 dX4_freshened_77 rfl ?_
        subst e23
        exact k24
set_option maxRecDepth 100000 in
set_option maxHeartbeats 4000000 in
theorem mX4_freshened_L91 {E : goEv} {X : goX} {G : goG} {Q : State → Prop} {L : goML} {R : goMR} {v1 : Int32} (hc : goCx E X cX4_freshened RX4 3) (hk : goKn E) (hR : X.2.2.2.1 = goRoom 5 126 0 0) (hr : X.2.2.2.2.2.2.2.2.1.sig.returnType = (Option.some (FieldType.object "GoatCourt$Evidence"))) (hW : goW G R) : ∀ (n : Nat) (v2 : Int32) (M : goMI) (r0 : goMI), lX4_freshened_91 v1 n v2 M = some r0 → (∀ (d2 : Option Value), goA E X G 0 0 Q 124 [some (.ref 74), some (.int v1), d2] [] r0 L R) → goA E X G 0 0 Q 91 [some (.ref 74), some (.int v1), some (.int v2)] [] M L R := by
  intro n
  induction n with
  | zero => intro v2 M r0 h; exact nomatch h
  | succ n ih =>
    intro v2 M r0 h kx
    rw [lX4_freshened_91] at h
    refine go_iload2 hc dX4_freshened_91 ?_
    refine go_bipush (v := 72) hc dX4_freshened_92 rfl ?_
    refine go_icmp_ge hc 124 dX4_freshened_94 rfl (fun c30 => ?_) (fun c30 => ?_)
    · replace h := goIfF h c30
      cases h
      exact kx _
    · replace h := goIfT h c30
      refine go_aload0 hc dX4_freshened_97 ?_
      refine go_getR hc lk_RX4_15 dX4_freshened_98 (sh_74 hW) (rf_74_4 hW) ?_
      refine go_iload1 hc dX4_freshened_101 ?_
      refine go_bipush (v := 72) hc dX4_freshened_102 rfl ?_
      refine go_imul hc dX4_freshened_104 ?_
      refine go_iload2 hc dX4_freshened_105 ?_
      refine go_iadd hc dX4_freshened_106 ?_
      refine go_aload0 hc dX4_freshened_107 ?_
      refine go_getR hc lk_RX4_35 dX4_freshened_108 (sh_74 hW) (rf_74_1 hW) ?_
      refine go_getR hc lk_RX4_88 dX4_freshened_111 (shDay_0 hW (mb_78)) (rfDay_6 hW (mb_78)) ?_
      refine go_iload2 hc dX4_freshened_114 ?_
      replace h := goBind h; obtain ⟨x31, e32, h⟩ := h
      refine go_iald hc dX4_freshened_115 (shDay_5 hW (mb_78)) e32 ?_
      refine go_i2b hc dX4_freshened_116 ?_
      replace h := goBind h; obtain ⟨M33, e34, h⟩ := h
      refine go_bast hc dX4_freshened_117 (sh_76 hW) e34 ?_
      refine go_iinc2 (v := (v2 + 1)) hc dX4_freshened_118 rfl ?_
      refine go_goto hc 91 dX4_freshened_121 rfl ?_
      exact ih _ _ _ h kx
set_option maxRecDepth 100000 in
set_option maxHeartbeats 4000000 in
theorem mX4_freshened_L2 {E : goEv} {X : goX} {G : goG} {Q : State → Prop} {L : goML} {R : goMR} {N : Nat} (hc : goCx E X cX4_freshened RX4 3) (hk : goKn E) (hR : X.2.2.2.1 = goRoom 5 126 0 0) (hr : X.2.2.2.2.2.2.2.2.1.sig.returnType = (Option.some (FieldType.object "GoatCourt$Evidence"))) (hW : goW G R) : ∀ (n : Nat) (v1 : Int32) (M : goMI) (r0 : goMI), lX4_freshened_2 N R n v1 M = some r0 → (∀ (d1 d2 : Option Value), goA E X G 0 0 Q 130 [some (.ref 74), d1, d2] [] r0 L R) → ∀ (d2 : Option Value), goA E X G 0 0 Q 2 [some (.ref 74), some (.int v1), d2] [] M L R := by
  intro n
  induction n with
  | zero => intro v1 M r0 h; exact nomatch h
  | succ n ih =>
    intro v1 M r0 h kx d2
    rw [lX4_freshened_2] at h
    refine go_iload1 hc dX4_freshened_2 ?_
    refine go_aload0 hc dX4_freshened_3 ?_
    refine go_getR hc lk_RX4_26 dX4_freshened_4 (sh_74 hW) (rm_74_2 hW) ?_
    refine go_getI hc lk_RX4_68 dX4_freshened_7 (shHill_0 hW (mm_74_2 hW)) ?_
    refine go_icmp_ge hc 130 dX4_freshened_10 rfl (fun c11 => ?_) (fun c11 => ?_)
    · replace h := goIfF h c11
      cases h
      exact kx _ _
    · replace h := goIfT h c11
      refine go_aload0 hc dX4_freshened_13 ?_
      refine go_getI hc lk_RX4_39 dX4_freshened_14 (sh_74 hW) ?_
      refine go_aload0 hc dX4_freshened_17 ?_
      refine go_getR hc lk_RX4_22 dX4_freshened_18 (sh_74 hW) (rf_74_0 hW) ?_
      refine go_getI hc lk_RX4_47 dX4_freshened_21 (sh_3 hW) ?_
      refine go_icmp_eq hc 130 dX4_freshened_24 rfl (fun c12 => ?_) (fun c12 => ?_)
      · replace h := goIfT h c12
        cases h
        exact kx _ _
      · replace h := goIfF h c12
        refine go_aload0 hc dX4_freshened_27 ?_
        refine go_iload1 hc dX4_freshened_28 ?_
        replace h := goBind h; obtain ⟨M13, e14, h⟩ := h
        refine go_callVr hc dX4_freshened_29 (mX4_dayOf hk hW e14) ml_RX4_71 yk_X4_dayOf ⟨wim_X4_dayOf, wse_X4_dayOf⟩ hR rfl (sh_74 hW) rfl rfl rfl (Nat.le_of_ble_eq_true rfl) rfl ?_
        refine go_popr hc dX4_freshened_32 ?_
        refine go_aload0 hc dX4_freshened_33 ?_
        refine go_getR hc lk_RX4_9 dX4_freshened_34 (sh_74 hW) (rf_74_3 hW) ?_
        refine go_iload1 hc dX4_freshened_37 ?_
        refine go_iconst (v := 0) hc dX4_freshened_38 rfl ?_
        replace h := goBind h; obtain ⟨M15, e16, h⟩ := h
        refine go_iast hc dX4_freshened_39 (sh_75 hW) e16 ?_
        refine go_iconst (v := 0) hc dX4_freshened_40 rfl ?_
        refine go_istore2 hc dX4_freshened_41 ?_
        replace h := goBind h; obtain ⟨M29, e28, h⟩ := h
        refine mX4_freshened_L42 hc hk hR hr hW _ _ _ _ e28 (fun d2 => ?_)
        refine go_iconst (v := 0) hc dX4_freshened_89 rfl ?_
        refine go_istore2 hc dX4_freshened_90 ?_
        replace h := goBind h; obtain ⟨M36, e35, h⟩ := h
        refine mX4_freshened_L91 hc hk hR hr hW _ _ _ _ e35 (fun d2 => ?_)
        refine go_iinc1 (v := (v1 + 1)) hc dX4_freshened_124 rfl ?_
        refine go_goto hc 2 dX4_freshened_127 rfl ?_
        exact ih _ _ _ h kx _
set_option maxRecDepth 100000 in
set_option maxHeartbeats 4000000 in
theorem mX4_freshened {E : goEv} {l : Launch} {G : goG} {N : Nat} {M : goMI} {L : goML} {R : goMR} {r0 : goMI} (hk : goKn E) (hW : goW G R) (h : fX4_freshened N M R = some r0) : Met l yX4_freshened (goCd yX4_freshened cX4_freshened 3 (Option.some (FieldType.object "GoatCourt$Evidence"))) (goRoom 5 126 0 0) (goPre E [.ref 74] G M L R) (goQr E 74 G r0 L R) 0 0 (goSet E) := by
  refine goMet pl_RX4 hk (lv := [some (.ref 74), none, none]) rfl (Nat.le_of_ble_eq_true rfl) ?_
  intro X hc hl hR hr hnm
  subst hl
  unfold fX4_freshened at h
  refine go_iconst (v := 0) hc dX4_freshened_0 rfl ?_
  refine go_istore1 hc dX4_freshened_1 ?_
  replace h := goBind h; obtain ⟨M38, e37, h⟩ := h
  refine mX4_freshened_L2 hc hk hR hr hW _ _ _ _ e37 (fun d1 d2 => ?_) _
  refine go_aload0 hc dX4_freshened_130 ?_
  refine go_aload0 hc dX4_freshened_131 ?_
  refine go_getR hc lk_RX4_22 dX4_freshened_132 (sh_74 hW) (rf_74_0 hW) ?_
  refine go_getI hc lk_RX4_47 dX4_freshened_135 (sh_3 hW) ?_
  replace h := goNm_x h; obtain ⟨M39, e40, h⟩ := h
  refine go_ptI hc lk_RX4_39 dX4_freshened_138 (sh_74 hW) e40 ?_
  refine go_aload0 hc dX4_freshened_141 ?_
  cases h
  exact go_aret hc dX4_freshened_142 hr
theorem dX5_cluesOf_0 : decode cX5_cluesOf 0 = .ok (.iconst 0, 1) := by decide +kernel
theorem dX5_cluesOf_1 : decode cX5_cluesOf 1 = .ok (.istore_n 2, 1) := by decide +kernel
theorem dX5_cluesOf_2 : decode cX5_cluesOf 2 = .ok (.iconst 0, 1) := by decide +kernel
theorem dX5_cluesOf_3 : decode cX5_cluesOf 3 = .ok (.istore_n 3, 1) := by decide +kernel
theorem dX5_cluesOf_4 : decode cX5_cluesOf 4 = .ok (.iload_n 3, 1) := by decide +kernel
theorem dX5_cluesOf_5 : decode cX5_cluesOf 5 = .ok (.aload_n 0, 1) := by decide +kernel
theorem dX5_cluesOf_6 : decode cX5_cluesOf 6 = .ok (.getfield 49, 3) := by decide +kernel
theorem dX5_cluesOf_9 : decode cX5_cluesOf 9 = .ok (.if_icmp .ge 24, 3) := by decide +kernel
theorem dX5_cluesOf_12 : decode cX5_cluesOf 12 = .ok (.iload_n 2, 1) := by decide +kernel
theorem dX5_cluesOf_13 : decode cX5_cluesOf 13 = .ok (.iload_n 1, 1) := by decide +kernel
theorem dX5_cluesOf_14 : decode cX5_cluesOf 14 = .ok (.aload_n 0, 1) := by decide +kernel
theorem dX5_cluesOf_15 : decode cX5_cluesOf 15 = .ok (.getfield 36, 3) := by decide +kernel
theorem dX5_cluesOf_18 : decode cX5_cluesOf 18 = .ok (.iload_n 3, 1) := by decide +kernel
theorem dX5_cluesOf_19 : decode cX5_cluesOf 19 = .ok (.iaload, 1) := by decide +kernel
theorem dX5_cluesOf_20 : decode cX5_cluesOf 20 = .ok (.invokestatic 58, 3) := by decide +kernel
theorem dX5_cluesOf_23 : decode cX5_cluesOf 23 = .ok (.iload_n 3, 1) := by decide +kernel
theorem dX5_cluesOf_24 : decode cX5_cluesOf 24 = .ok (.ishl, 1) := by decide +kernel
theorem dX5_cluesOf_25 : decode cX5_cluesOf 25 = .ok (.ior, 1) := by decide +kernel
theorem dX5_cluesOf_26 : decode cX5_cluesOf 26 = .ok (.istore_n 2, 1) := by decide +kernel
theorem dX5_cluesOf_27 : decode cX5_cluesOf 27 = .ok (.iinc 3 1, 3) := by decide +kernel
theorem dX5_cluesOf_30 : decode cX5_cluesOf 30 = .ok (.goto (-26), 3) := by decide +kernel
theorem dX5_cluesOf_33 : decode cX5_cluesOf 33 = .ok (.iload_n 2, 1) := by decide +kernel
theorem dX5_cluesOf_34 : decode cX5_cluesOf 34 = .ok (.ireturn, 1) := by decide +kernel
set_option maxRecDepth 100000 in
set_option maxHeartbeats 4000000 in
theorem mX5_cluesOf_L4 {E : goEv} {X : goX} {G : goG} {Q : State → Prop} {M : goMI} {L : goML} {R : goMR} {v1 : Int32} {a0 : Nat} (hc : goCx E X cX5_cluesOf RX5 4) (hk : goKn E) (hR : X.2.2.2.1 = goRoom 1 21 0 0) (hr : X.2.2.2.2.2.2.2.2.1.sig.returnType = (Option.some FieldType.int)) (hW : goW G R) (m0 : a0 = 16 ∨ a0 = 46) : ∀ (n : Nat) (v2 : Int32) (v3 : Int32) (r0 : Int32), lX5_cluesOf_4 v1 M a0 n v2 v3 = some r0 → (∀ (d0 d1 d3 : Option Value), goA E X G 0 0 Q 33 [d0, d1, some (.int r0), d3] [] M L R) → goA E X G 0 0 Q 4 [some (.ref a0), some (.int v1), some (.int v2), some (.int v3)] [] M L R := by
  intro n
  induction n with
  | zero => intro v2 v3 r0 h; exact nomatch h
  | succ n ih =>
    intro v2 v3 r0 h kx
    rw [lX5_cluesOf_4] at h
    refine go_iload3 hc dX5_cluesOf_4 ?_
    refine go_aload0 hc dX5_cluesOf_5 ?_
    refine go_getI hc lk_RX5_49 dX5_cluesOf_6 (shHerd_0 hW m0) ?_
    refine go_icmp_ge hc 33 dX5_cluesOf_9 rfl (fun c11 => ?_) (fun c11 => ?_)
    · replace h := goIfF h c11
      cases h
      exact kx _ _ _
    · replace h := goIfT h c11
      refine go_iload2 hc dX5_cluesOf_12 ?_
      refine go_iload1 hc dX5_cluesOf_13 ?_
      refine go_aload0 hc dX5_cluesOf_14 ?_
      refine go_getR hc lk_RX5_36 dX5_cluesOf_15 (shHerd_0 hW m0) (rfHerd_10 hW m0) ?_
      refine go_iload3 hc dX5_cluesOf_18 ?_
      replace h := goBind h; obtain ⟨x12, e13, h⟩ := h
      refine go_iald hc dX5_cluesOf_19 (shHerd_9 hW m0) e13 ?_
      refine go_callSi hc dX5_cluesOf_20 (mX12_bit hk hW rfl) ml_RX5_58 yk_X12_bit wst_X12_bit hR rfl rfl rfl (Nat.le_of_ble_eq_true rfl) rfl ?_
      refine go_iload3 hc dX5_cluesOf_23 ?_
      refine go_ishl hc dX5_cluesOf_24 ?_
      refine go_ior hc dX5_cluesOf_25 ?_
      replace h := goNm_x h; obtain ⟨x14, e15, h⟩ := h
      refine go_nmI e15 ?_
      refine go_istore2 hc dX5_cluesOf_26 ?_
      refine go_iinc3 (v := (v3 + 1)) hc dX5_cluesOf_27 rfl ?_
      refine go_goto hc 4 dX5_cluesOf_30 rfl ?_
      exact ih _ _ _ h kx
set_option maxRecDepth 100000 in
set_option maxHeartbeats 4000000 in
theorem mX5_cluesOf {E : goEv} {l : Launch} {G : goG} {N : Nat} {M : goMI} {L : goML} {R : goMR} {a0 : Nat} {v1 : Int32} {r0 : Int32} (hk : goKn E) (hW : goW G R) (m0 : a0 = 16 ∨ a0 = 46) (h : fX5_cluesOf N M a0 v1 = some r0) : Met l yX5_cluesOf (goCd yX5_cluesOf cX5_cluesOf 4 (Option.some FieldType.int)) (goRoom 1 21 0 0) (goPre E [.ref a0, .int v1] G M L R) (goQi E r0 G M L R) 0 0 (goSet E) := by
  refine goMet pl_RX5 hk (lv := [some (.ref a0), some (.int v1), none, none]) rfl (Nat.le_of_ble_eq_true rfl) ?_
  intro X hc hl hR hr hnm
  subst hl
  unfold fX5_cluesOf at h
  refine go_iconst (v := 0) hc dX5_cluesOf_0 rfl ?_
  refine go_istore2 hc dX5_cluesOf_1 ?_
  refine go_iconst (v := 0) hc dX5_cluesOf_2 rfl ?_
  refine go_istore3 hc dX5_cluesOf_3 ?_
  replace h := goBind h; obtain ⟨x17, e16, h⟩ := h
  refine mX5_cluesOf_L4 hc hk hR hr hW m0 _ _ _ _ e16 (fun d0 d1 d3 => ?_)
  refine go_iload2 hc dX5_cluesOf_33 ?_
  cases h
  exact go_iret hc dX5_cluesOf_34 hr
theorem dX4_heardClues_0 : decode cX4_heardClues 0 = .ok (.aload_n 0, 1) := by decide +kernel
theorem dX4_heardClues_1 : decode cX4_heardClues 1 = .ok (.getfield 26, 3) := by decide +kernel
theorem dX4_heardClues_4 : decode cX4_heardClues 4 = .ok (.getfield 75, 3) := by decide +kernel
theorem dX4_heardClues_7 : decode cX4_heardClues 7 = .ok (.aload_n 0, 1) := by decide +kernel
theorem dX4_heardClues_8 : decode cX4_heardClues 8 = .ok (.getfield 22, 3) := by decide +kernel
theorem dX4_heardClues_11 : decode cX4_heardClues 11 = .ok (.getfield 90, 3) := by decide +kernel
theorem dX4_heardClues_14 : decode cX4_heardClues 14 = .ok (.bipush 25, 2) := by decide +kernel
theorem dX4_heardClues_16 : decode cX4_heardClues 16 = .ok (.iaload, 1) := by decide +kernel
theorem dX4_heardClues_17 : decode cX4_heardClues 17 = .ok (.invokevirtual 93, 3) := by decide +kernel
theorem dX4_heardClues_20 : decode cX4_heardClues 20 = .ok (.ireturn, 1) := by decide +kernel
set_option maxRecDepth 100000 in
set_option maxHeartbeats 4000000 in
theorem mX4_heardClues {E : goEv} {l : Launch} {G : goG} {N : Nat} {M : goMI} {L : goML} {R : goMR} {r0 : Int32} (hk : goKn E) (hW : goW G R) (h : fX4_heardClues N M R = some r0) : Met l yX4_heardClues (goCd yX4_heardClues cX4_heardClues 1 (Option.some FieldType.int)) (goRoom 2 44 0 0) (goPre E [.ref 74] G M L R) (goQi E r0 G M L R) 0 0 (goSet E) := by
  refine goMet pl_RX4 hk (lv := [some (.ref 74)]) rfl (Nat.le_of_ble_eq_true rfl) ?_
  intro X hc hl hR hr hnm
  subst hl
  unfold fX4_heardClues at h
  refine go_aload0 hc dX4_heardClues_0 ?_
  refine go_getR hc lk_RX4_26 dX4_heardClues_1 (sh_74 hW) (rm_74_2 hW) ?_
  refine go_getR hc lk_RX4_75 dX4_heardClues_4 (shHill_0 hW (mm_74_2 hW)) (rfHill_15 hW (mm_74_2 hW)) ?_
  refine go_aload0 hc dX4_heardClues_7 ?_
  refine go_getR hc lk_RX4_22 dX4_heardClues_8 (sh_74 hW) (rf_74_0 hW) ?_
  refine go_getR hc lk_RX4_90 dX4_heardClues_11 (sh_3 hW) (rf_3_0 hW) ?_
  refine go_bipush (v := 25) hc dX4_heardClues_14 rfl ?_
  replace h := goBind h; obtain ⟨x11, e12, h⟩ := h
  refine go_iald hc dX4_heardClues_16 (sh_4 hW) e12 ?_
  replace h := goBind h; obtain ⟨x13, e14, h⟩ := h
  refine go_callVi hc dX4_heardClues_17 (mX5_cluesOf hk hW (subHerd (mm_74_2 hW)) e14) ml_RX4_93 yk_X5_cluesOf ⟨wim_X5_cluesOf, wse_X5_cluesOf⟩ hR rfl (shHerd_0 hW (subHerd (mm_74_2 hW))) rfl rfl rfl (Nat.le_of_ble_eq_true rfl) rfl ?_
  cases h
  exact go_iret hc dX4_heardClues_20 hr
