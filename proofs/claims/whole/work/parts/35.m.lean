theorem dX11_plantAt_0 : decode cX11_plantAt 0 = .ok (.aload_n 0, 1) := by decide +kernel
theorem dX11_plantAt_1 : decode cX11_plantAt 1 = .ok (.getfield 9, 3) := by decide +kernel
theorem dX11_plantAt_4 : decode cX11_plantAt 4 = .ok (.aload_n 0, 1) := by decide +kernel
theorem dX11_plantAt_5 : decode cX11_plantAt 5 = .ok (.getfield 34, 3) := by decide +kernel
theorem dX11_plantAt_8 : decode cX11_plantAt 8 = .ok (.iload_n 1, 1) := by decide +kernel
theorem dX11_plantAt_9 : decode cX11_plantAt 9 = .ok (.iadd, 1) := by decide +kernel
theorem dX11_plantAt_10 : decode cX11_plantAt 10 = .ok (.baload, 1) := by decide +kernel
theorem dX11_plantAt_11 : decode cX11_plantAt 11 = .ok (.bipush 97, 2) := by decide +kernel
theorem dX11_plantAt_13 : decode cX11_plantAt 13 = .ok (.isub, 1) := by decide +kernel
theorem dX11_plantAt_14 : decode cX11_plantAt 14 = .ok (.ireturn, 1) := by decide +kernel
set_option maxRecDepth 100000 in
set_option maxHeartbeats 4000000 in
theorem mX11_plantAt {E : goEv} {l : Launch} {G : goG} {M : goMI} {L : goML} {R : goMR} {v1 : Int32} {r0 : Int32} (hk : goKn E) (hW : goW G R) (h : fX11_plantAt M v1 = some r0) : Met l yX11_plantAt (goCd yX11_plantAt cX11_plantAt 2 (Option.some FieldType.int)) (goRoom 0 0 0 0) (goPre E [.ref 1, .int v1] G M L R) (goQi E r0 G M L R) 0 0 (goSet E) := by
  refine goMet pl_RX11 hk (lv := [some (.ref 1), some (.int v1)]) rfl (Nat.le_of_ble_eq_true rfl) ?_
  intro X hc hl hR hr hnm
  subst hl
  unfold fX11_plantAt at h
  refine go_aload0 hc dX11_plantAt_0 ?_
  refine go_getR hc lk_RX11_9 dX11_plantAt_1 (sh_1 hW) (rf_1_0 hW) ?_
  refine go_aload0 hc dX11_plantAt_4 ?_
  refine go_getI hc lk_RX11_34 dX11_plantAt_5 (sh_1 hW) ?_
  refine go_iload1 hc dX11_plantAt_8 ?_
  refine go_iadd hc dX11_plantAt_9 ?_
  replace h := goBind h; obtain ⟨x11, e12, h⟩ := h
  refine go_bald hc dX11_plantAt_10 (sh_2 hW) e12 ?_
  refine go_bipush (v := 97) hc dX11_plantAt_11 rfl ?_
  refine go_isub hc dX11_plantAt_13 ?_
  cases h
  exact go_iret hc dX11_plantAt_14 hr
theorem dX9_orderOf_0 : decode cX9_orderOf 0 = .ok (.aload_n 0, 1) := by decide +kernel
theorem dX9_orderOf_1 : decode cX9_orderOf 1 = .ok (.getfield 35, 3) := by decide +kernel
theorem dX9_orderOf_4 : decode cX9_orderOf 4 = .ok (.getfield 81, 3) := by decide +kernel
theorem dX9_orderOf_7 : decode cX9_orderOf 7 = .ok (.iconst 1, 1) := by decide +kernel
theorem dX9_orderOf_8 : decode cX9_orderOf 8 = .ok (.if_icmp .eq 9, 3) := by decide +kernel
theorem dX9_orderOf_11 : decode cX9_orderOf 11 = .ok (.aload_n 0, 1) := by decide +kernel
theorem dX9_orderOf_12 : decode cX9_orderOf 12 = .ok (.iconst 1, 1) := by decide +kernel
theorem dX9_orderOf_13 : decode cX9_orderOf 13 = .ok (.invokevirtual 87, 3) := by decide +kernel
theorem dX9_orderOf_16 : decode cX9_orderOf 16 = .ok (.ireturn, 1) := by decide +kernel
theorem dX9_orderOf_17 : decode cX9_orderOf 17 = .ok (.iconst 0, 1) := by decide +kernel
theorem dX9_orderOf_18 : decode cX9_orderOf 18 = .ok (.istore_n 2, 1) := by decide +kernel
theorem dX9_orderOf_19 : decode cX9_orderOf 19 = .ok (.iconst 0, 1) := by decide +kernel
theorem dX9_orderOf_20 : decode cX9_orderOf 20 = .ok (.istore_n 3, 1) := by decide +kernel
theorem dX9_orderOf_21 : decode cX9_orderOf 21 = .ok (.iload_n 3, 1) := by decide +kernel
theorem dX9_orderOf_22 : decode cX9_orderOf 22 = .ok (.aload_n 0, 1) := by decide +kernel
theorem dX9_orderOf_23 : decode cX9_orderOf 23 = .ok (.getfield 35, 3) := by decide +kernel
theorem dX9_orderOf_26 : decode cX9_orderOf 26 = .ok (.getfield 262, 3) := by decide +kernel
theorem dX9_orderOf_29 : decode cX9_orderOf 29 = .ok (.if_icmp .ge 76, 3) := by decide +kernel
theorem dX9_orderOf_32 : decode cX9_orderOf 32 = .ok (.aload_n 0, 1) := by decide +kernel
theorem dX9_orderOf_33 : decode cX9_orderOf 33 = .ok (.getfield 35, 3) := by decide +kernel
theorem dX9_orderOf_36 : decode cX9_orderOf 36 = .ok (.iload_n 3, 1) := by decide +kernel
theorem dX9_orderOf_37 : decode cX9_orderOf 37 = .ok (.invokevirtual 265, 3) := by decide +kernel
theorem dX9_orderOf_40 : decode cX9_orderOf 40 = .ok (.istore 4, 2) := by decide +kernel
theorem dX9_orderOf_42 : decode cX9_orderOf 42 = .ok (.iload 4, 2) := by decide +kernel
theorem dX9_orderOf_44 : decode cX9_orderOf 44 = .ok (.aload_n 0, 1) := by decide +kernel
theorem dX9_orderOf_45 : decode cX9_orderOf 45 = .ok (.getfield 39, 3) := by decide +kernel
theorem dX9_orderOf_48 : decode cX9_orderOf 48 = .ok (.getfield 183, 3) := by decide +kernel
theorem dX9_orderOf_51 : decode cX9_orderOf 51 = .ok (.invokestatic 268, 3) := by decide +kernel
theorem dX9_orderOf_54 : decode cX9_orderOf 54 = .ok (.ifCond .eq 13, 3) := by decide +kernel
theorem dX9_orderOf_57 : decode cX9_orderOf 57 = .ok (.iload_n 2, 1) := by decide +kernel
theorem dX9_orderOf_58 : decode cX9_orderOf 58 = .ok (.iload 4, 2) := by decide +kernel
theorem dX9_orderOf_60 : decode cX9_orderOf 60 = .ok (.invokestatic 204, 3) := by decide +kernel
theorem dX9_orderOf_63 : decode cX9_orderOf 63 = .ok (.iconst 1, 1) := by decide +kernel
theorem dX9_orderOf_64 : decode cX9_orderOf 64 = .ok (.if_icmp .ne 10, 3) := by decide +kernel
theorem dX9_orderOf_67 : decode cX9_orderOf 67 = .ok (.aload_n 0, 1) := by decide +kernel
theorem dX9_orderOf_68 : decode cX9_orderOf 68 = .ok (.bipush 7, 2) := by decide +kernel
theorem dX9_orderOf_70 : decode cX9_orderOf 70 = .ok (.invokevirtual 87, 3) := by decide +kernel
theorem dX9_orderOf_73 : decode cX9_orderOf 73 = .ok (.ireturn, 1) := by decide +kernel
theorem dX9_orderOf_74 : decode cX9_orderOf 74 = .ok (.iload_n 2, 1) := by decide +kernel
theorem dX9_orderOf_75 : decode cX9_orderOf 75 = .ok (.iconst 1, 1) := by decide +kernel
theorem dX9_orderOf_76 : decode cX9_orderOf 76 = .ok (.iload 4, 2) := by decide +kernel
theorem dX9_orderOf_78 : decode cX9_orderOf 78 = .ok (.ishl, 1) := by decide +kernel
theorem dX9_orderOf_79 : decode cX9_orderOf 79 = .ok (.ior, 1) := by decide +kernel
theorem dX9_orderOf_80 : decode cX9_orderOf 80 = .ok (.istore_n 2, 1) := by decide +kernel
theorem dX9_orderOf_81 : decode cX9_orderOf 81 = .ok (.aload_n 0, 1) := by decide +kernel
theorem dX9_orderOf_82 : decode cX9_orderOf 82 = .ok (.getfield 39, 3) := by decide +kernel
theorem dX9_orderOf_85 : decode cX9_orderOf 85 = .ok (.getfield 222, 3) := by decide +kernel
theorem dX9_orderOf_88 : decode cX9_orderOf 88 = .ok (.getfield 271, 3) := by decide +kernel
theorem dX9_orderOf_91 : decode cX9_orderOf 91 = .ok (.iload_n 1, 1) := by decide +kernel
theorem dX9_orderOf_92 : decode cX9_orderOf 92 = .ok (.iconst 4, 1) := by decide +kernel
theorem dX9_orderOf_93 : decode cX9_orderOf 93 = .ok (.imul, 1) := by decide +kernel
theorem dX9_orderOf_94 : decode cX9_orderOf 94 = .ok (.iload_n 3, 1) := by decide +kernel
theorem dX9_orderOf_95 : decode cX9_orderOf 95 = .ok (.iadd, 1) := by decide +kernel
theorem dX9_orderOf_96 : decode cX9_orderOf 96 = .ok (.iload 4, 2) := by decide +kernel
theorem dX9_orderOf_98 : decode cX9_orderOf 98 = .ok (.iastore, 1) := by decide +kernel
theorem dX9_orderOf_99 : decode cX9_orderOf 99 = .ok (.iinc 3 1, 3) := by decide +kernel
theorem dX9_orderOf_102 : decode cX9_orderOf 102 = .ok (.goto (-81), 3) := by decide +kernel
theorem dX9_orderOf_105 : decode cX9_orderOf 105 = .ok (.aload_n 0, 1) := by decide +kernel
theorem dX9_orderOf_106 : decode cX9_orderOf 106 = .ok (.getfield 39, 3) := by decide +kernel
theorem dX9_orderOf_109 : decode cX9_orderOf 109 = .ok (.getfield 222, 3) := by decide +kernel
theorem dX9_orderOf_112 : decode cX9_orderOf 112 = .ok (.getfield 274, 3) := by decide +kernel
theorem dX9_orderOf_115 : decode cX9_orderOf 115 = .ok (.iload_n 1, 1) := by decide +kernel
theorem dX9_orderOf_116 : decode cX9_orderOf 116 = .ok (.aload_n 0, 1) := by decide +kernel
theorem dX9_orderOf_117 : decode cX9_orderOf 117 = .ok (.getfield 35, 3) := by decide +kernel
theorem dX9_orderOf_120 : decode cX9_orderOf 120 = .ok (.getfield 262, 3) := by decide +kernel
theorem dX9_orderOf_123 : decode cX9_orderOf 123 = .ok (.iastore, 1) := by decide +kernel
theorem dX9_orderOf_124 : decode cX9_orderOf 124 = .ok (.aload_n 0, 1) := by decide +kernel
theorem dX9_orderOf_125 : decode cX9_orderOf 125 = .ok (.getfield 35, 3) := by decide +kernel
theorem dX9_orderOf_128 : decode cX9_orderOf 128 = .ok (.invokevirtual 84, 3) := by decide +kernel
theorem dX9_orderOf_131 : decode cX9_orderOf 131 = .ok (.iconst 1, 1) := by decide +kernel
theorem dX9_orderOf_132 : decode cX9_orderOf 132 = .ok (.ireturn, 1) := by decide +kernel
set_option maxRecDepth 100000 in
set_option maxHeartbeats 4000000 in
theorem mX9_orderOf_L21 {E : goEv} {X : goX} {G : goG} {L : goML} {R : goMR} {N : Nat} {v1 : Int32} {r0 : Int32} {r1 : goMI} {r2 : goML} (hc : goCx E X cX9_orderOf RX9 5) (hk : goKn E) (hR : X.2.2.2.1 = goRoom 3 61 0 0) (hr : X.2.2.2.2.2.2.2.2.1.sig.returnType = (Option.some FieldType.boolean)) (hW : goW G R) : ∀ (n : Nat) (v2 : Int32) (v3 : Int32) (M : goMI), lX9_orderOf_21 N v1 L R n v2 v3 M = some (r0, r1, r2) → ∀ (d4 : Option Value), goA E X G 0 0 (goMQ X E (goQi E r0 G r1 r2 R) 0 0) 21 [some (.ref 67), some (.int v1), some (.int v2), some (.int v3), d4] [] M L R := by
  intro n
  induction n with
  | zero => intro v2 v3 M h; exact nomatch h
  | succ n ih =>
    intro v2 v3 M h d4
    rw [lX9_orderOf_21] at h
    refine go_iload3 hc dX9_orderOf_21 ?_
    refine go_aload0 hc dX9_orderOf_22 ?_
    refine go_getR hc lk_RX9_35 dX9_orderOf_23 (sh_67 hW) (rf_67_0 hW) ?_
    refine go_getI hc lk_RX9_262 dX9_orderOf_26 (sh_1 hW) ?_
    refine go_icmp_ge hc 105 dX9_orderOf_29 rfl (fun c12 => ?_) (fun c12 => ?_)
    · replace h := goIfF h c12
      refine go_aload0 hc dX9_orderOf_105 ?_
      refine go_getR hc lk_RX9_39 dX9_orderOf_106 (sh_67 hW) (rm_67_7 hW) ?_
      refine go_getR hc lk_RX9_222 dX9_orderOf_109 (shHill_0 hW (mm_67_7 hW)) (rfHill_15 hW (mm_67_7 hW)) ?_
      refine go_getR hc lk_RX9_274 dX9_orderOf_112 (shHerd_0 hW (subHerd (mm_67_7 hW))) (rfHerd_8 hW (subHerd (mm_67_7 hW))) ?_
      refine go_iload1 hc dX9_orderOf_115 ?_
      refine go_aload0 hc dX9_orderOf_116 ?_
      refine go_getR hc lk_RX9_35 dX9_orderOf_117 (sh_67 hW) (rf_67_0 hW) ?_
      refine go_getI hc lk_RX9_262 dX9_orderOf_120 (sh_1 hW) ?_
      replace h := goBind h; obtain ⟨M13, e14, h⟩ := h
      refine go_iast hc dX9_orderOf_123 (shHerd_7 hW (subHerd (mm_67_7 hW))) e14 ?_
      refine go_aload0 hc dX9_orderOf_124 ?_
      refine go_getR hc lk_RX9_35 dX9_orderOf_125 (sh_67 hW) (rf_67_0 hW) ?_
      replace h := goB2_h h; obtain ⟨M15, L16, e17, h⟩ := h
      refine go_callVv hc dX9_orderOf_128 (mX11_advance hk hW e17) ml_RX9_84 yk_X11_advance ⟨wim_X11_advance, wse_X11_advance⟩ hR rfl (sh_1 hW) rfl rfl rfl (Nat.le_of_ble_eq_true rfl) rfl ?_
      refine go_iconst (v := 1) hc dX9_orderOf_131 rfl ?_
      cases h
      exact go_zret hc dX9_orderOf_132 hr rfl
    · replace h := goIfT h c12
      refine go_aload0 hc dX9_orderOf_32 ?_
      refine go_getR hc lk_RX9_35 dX9_orderOf_33 (sh_67 hW) (rf_67_0 hW) ?_
      refine go_iload3 hc dX9_orderOf_36 ?_
      replace h := goBind h; obtain ⟨x18, e19, h⟩ := h
      refine go_callVi hc dX9_orderOf_37 (mX11_plantAt hk hW e19) ml_RX9_265 yk_X11_plantAt ⟨wim_X11_plantAt, wse_X11_plantAt⟩ hR rfl (sh_1 hW) rfl rfl rfl (Nat.le_of_ble_eq_true rfl) rfl ?_
      refine go_istore4 hc dX9_orderOf_40 ?_
      refine go_iload4 hc dX9_orderOf_42 ?_
      refine go_aload0 hc dX9_orderOf_44 ?_
      refine go_getR hc lk_RX9_39 dX9_orderOf_45 (sh_67 hW) (rm_67_7 hW) ?_
      refine go_getI hc lk_RX9_183 dX9_orderOf_48 (shHill_0 hW (mm_67_7 hW)) ?_
      refine go_callSi hc dX9_orderOf_51 (mX12_within hk hW rfl) ml_RX9_268 yk_X12_within wst_X12_within hR rfl rfl rfl (Nat.le_of_ble_eq_true rfl) rfl ?_
      refine go_if_eq hc 67 dX9_orderOf_54 rfl (fun c20 => ?_) (fun c20 => ?_)
      · replace h := goIfT h c20
        refine go_aload0 hc dX9_orderOf_67 ?_
        refine go_bipush (v := 7) hc dX9_orderOf_68 rfl ?_
        replace h := goB2_h h; obtain ⟨x21, M22, e23, h⟩ := h
        refine go_callVi hc dX9_orderOf_70 (mX9_fail hk hW e23) ml_RX9_87 yk_X9_fail ⟨wim_X9_fail, wse_X9_fail⟩ hR rfl (sh_67 hW) rfl rfl rfl (Nat.le_of_ble_eq_true rfl) rfl ?_
        replace h := goBind h; obtain ⟨x24, e25, h⟩ := h
        obtain ⟨ze25, rfl⟩ := goZr_h e25
        cases h
        exact go_zret hc dX9_orderOf_73 hr (goZ_n ze25)
      · replace h := goIfF h c20
        refine go_iload2 hc dX9_orderOf_57 ?_
        refine go_iload4 hc dX9_orderOf_58 ?_
        refine go_callSi hc dX9_orderOf_60 (mX12_bit hk hW rfl) ml_RX9_204 yk_X12_bit wst_X12_bit hR rfl rfl rfl (Nat.le_of_ble_eq_true rfl) rfl ?_
        refine go_iconst (v := 1) hc dX9_orderOf_63 rfl ?_
        refine go_icmp_ne hc 74 dX9_orderOf_64 rfl (fun c26 => ?_) (fun c26 => ?_)
        · replace h := goIfF h c26
          refine go_iload2 hc dX9_orderOf_74 ?_
          refine go_iconst (v := 1) hc dX9_orderOf_75 rfl ?_
          refine go_iload4 hc dX9_orderOf_76 ?_
          refine go_ishl hc dX9_orderOf_78 ?_
          refine go_ior hc dX9_orderOf_79 ?_
          replace h := goNm_x h; obtain ⟨x27, e28, h⟩ := h
          refine go_nmI e28 ?_
          refine go_istore2 hc dX9_orderOf_80 ?_
          refine go_aload0 hc dX9_orderOf_81 ?_
          refine go_getR hc lk_RX9_39 dX9_orderOf_82 (sh_67 hW) (rm_67_7 hW) ?_
          refine go_getR hc lk_RX9_222 dX9_orderOf_85 (shHill_0 hW (mm_67_7 hW)) (rfHill_15 hW (mm_67_7 hW)) ?_
          refine go_getR hc lk_RX9_271 dX9_orderOf_88 (shHerd_0 hW (subHerd (mm_67_7 hW))) (rfHerd_7 hW (subHerd (mm_67_7 hW))) ?_
          refine go_iload1 hc dX9_orderOf_91 ?_
          refine go_iconst (v := 4) hc dX9_orderOf_92 rfl ?_
          refine go_imul hc dX9_orderOf_93 ?_
          refine go_iload3 hc dX9_orderOf_94 ?_
          refine go_iadd hc dX9_orderOf_95 ?_
          refine go_iload4 hc dX9_orderOf_96 ?_
          replace h := goBind h; obtain ⟨M29, e30, h⟩ := h
          refine go_iast hc dX9_orderOf_98 (shHerd_6 hW (subHerd (mm_67_7 hW))) e30 ?_
          refine go_iinc3 (v := (v3 + 1)) hc dX9_orderOf_99 rfl ?_
          refine go_goto hc 21 dX9_orderOf_102 rfl ?_
          exact ih _ _ _ h _
        · replace h := goIfT h c26
          refine go_aload0 hc dX9_orderOf_67 ?_
          refine go_bipush (v := 7) hc dX9_orderOf_68 rfl ?_
          replace h := goB2_h h; obtain ⟨x31, M32, e33, h⟩ := h
          refine go_callVi hc dX9_orderOf_70 (mX9_fail hk hW e33) ml_RX9_87 yk_X9_fail ⟨wim_X9_fail, wse_X9_fail⟩ hR rfl (sh_67 hW) rfl rfl rfl (Nat.le_of_ble_eq_true rfl) rfl ?_
          replace h := goBind h; obtain ⟨x34, e35, h⟩ := h
          obtain ⟨ze35, rfl⟩ := goZr_h e35
          cases h
          exact go_zret hc dX9_orderOf_73 hr (goZ_n ze35)
set_option maxRecDepth 100000 in
set_option maxHeartbeats 4000000 in
theorem mX9_orderOf {E : goEv} {l : Launch} {G : goG} {N : Nat} {M : goMI} {L : goML} {R : goMR} {v1 : Int32} {r0 : Int32} {r1 : goMI} {r2 : goML} (hk : goKn E) (hW : goW G R) (h : fX9_orderOf N M L R v1 = some (r0, r1, r2)) : Met l yX9_orderOf (goCd yX9_orderOf cX9_orderOf 5 (Option.some FieldType.boolean)) (goRoom 3 61 0 0) (goPre E [.ref 67, .int v1] G M L R) (goQi E r0 G r1 r2 R) 0 0 (goSet E) := by
  refine goMet pl_RX9 hk (lv := [some (.ref 67), some (.int v1), none, none, none]) rfl (Nat.le_of_ble_eq_true rfl) ?_
  intro X hc hl hR hr hnm
  subst hl
  unfold fX9_orderOf at h
  refine go_aload0 hc dX9_orderOf_0 ?_
  refine go_getR hc lk_RX9_35 dX9_orderOf_1 (sh_67 hW) (rf_67_0 hW) ?_
  refine go_getI hc lk_RX9_81 dX9_orderOf_4 (sh_1 hW) ?_
  refine go_iconst (v := 1) hc dX9_orderOf_7 rfl ?_
  refine go_icmp_eq hc 17 dX9_orderOf_8 rfl (fun c11 => ?_) (fun c11 => ?_)
  · replace h := goIfT h c11
    refine go_iconst (v := 0) hc dX9_orderOf_17 rfl ?_
    refine go_istore2 hc dX9_orderOf_18 ?_
    refine go_iconst (v := 0) hc dX9_orderOf_19 rfl ?_
    refine go_istore3 hc dX9_orderOf_20 ?_
    exact mX9_orderOf_L21 hc hk hR hr hW _ _ _ _ h _
  · replace h := goIfF h c11
    refine go_aload0 hc dX9_orderOf_11 ?_
    refine go_iconst (v := 1) hc dX9_orderOf_12 rfl ?_
    replace h := goB2_h h; obtain ⟨x36, M37, e38, h⟩ := h
    refine go_callVi hc dX9_orderOf_13 (mX9_fail hk hW e38) ml_RX9_87 yk_X9_fail ⟨wim_X9_fail, wse_X9_fail⟩ hR rfl (sh_67 hW) rfl rfl rfl (Nat.le_of_ble_eq_true rfl) rfl ?_
    replace h := goBind h; obtain ⟨x39, e40, h⟩ := h
    obtain ⟨ze40, rfl⟩ := goZr_h e40
    cases h
    exact go_zret hc dX9_orderOf_16 hr (goZ_n ze40)
theorem dX9_goatLine_0 : decode cX9_goatLine 0 = .ok (.aload_n 0, 1) := by decide +kernel
theorem dX9_goatLine_1 : decode cX9_goatLine 1 = .ok (.getfield 39, 3) := by decide +kernel
theorem dX9_goatLine_4 : decode cX9_goatLine 4 = .ok (.getfield 222, 3) := by decide +kernel
theorem dX9_goatLine_7 : decode cX9_goatLine 7 = .ok (.astore_n 1, 1) := by decide +kernel
theorem dX9_goatLine_8 : decode cX9_goatLine 8 = .ok (.aload_n 1, 1) := by decide +kernel
theorem dX9_goatLine_9 : decode cX9_goatLine 9 = .ok (.getfield 226, 3) := by decide +kernel
theorem dX9_goatLine_12 : decode cX9_goatLine 12 = .ok (.istore_n 2, 1) := by decide +kernel
theorem dX9_goatLine_13 : decode cX9_goatLine 13 = .ok (.iload_n 2, 1) := by decide +kernel
theorem dX9_goatLine_14 : decode cX9_goatLine 14 = .ok (.bipush 6, 2) := by decide +kernel
theorem dX9_goatLine_16 : decode cX9_goatLine 16 = .ok (.if_icmp .ge 44, 3) := by decide +kernel
theorem dX9_goatLine_19 : decode cX9_goatLine 19 = .ok (.aload_n 0, 1) := by decide +kernel
theorem dX9_goatLine_20 : decode cX9_goatLine 20 = .ok (.invokevirtual 185, 3) := by decide +kernel
theorem dX9_goatLine_23 : decode cX9_goatLine 23 = .ok (.ifCond .eq 37, 3) := by decide +kernel
theorem dX9_goatLine_26 : decode cX9_goatLine 26 = .ok (.aload_n 0, 1) := by decide +kernel
theorem dX9_goatLine_27 : decode cX9_goatLine 27 = .ok (.iload_n 2, 1) := by decide +kernel
theorem dX9_goatLine_28 : decode cX9_goatLine 28 = .ok (.invokevirtual 229, 3) := by decide +kernel
theorem dX9_goatLine_31 : decode cX9_goatLine 31 = .ok (.ifCond .eq 29, 3) := by decide +kernel
theorem dX9_goatLine_34 : decode cX9_goatLine 34 = .ok (.aload_n 0, 1) := by decide +kernel
theorem dX9_goatLine_35 : decode cX9_goatLine 35 = .ok (.ldc 232, 2) := by decide +kernel
theorem dX9_goatLine_37 : decode cX9_goatLine 37 = .ok (.invokevirtual 169, 3) := by decide +kernel
theorem dX9_goatLine_40 : decode cX9_goatLine 40 = .ok (.ifCond .eq 20, 3) := by decide +kernel
theorem dX9_goatLine_43 : decode cX9_goatLine 43 = .ok (.aload_n 0, 1) := by decide +kernel
theorem dX9_goatLine_44 : decode cX9_goatLine 44 = .ok (.iload_n 2, 1) := by decide +kernel
theorem dX9_goatLine_45 : decode cX9_goatLine 45 = .ok (.invokevirtual 234, 3) := by decide +kernel
theorem dX9_goatLine_48 : decode cX9_goatLine 48 = .ok (.ifCond .eq 12, 3) := by decide +kernel
theorem dX9_goatLine_51 : decode cX9_goatLine 51 = .ok (.aload_n 0, 1) := by decide +kernel
theorem dX9_goatLine_52 : decode cX9_goatLine 52 = .ok (.ldc 237, 2) := by decide +kernel
theorem dX9_goatLine_54 : decode cX9_goatLine 54 = .ok (.invokevirtual 169, 3) := by decide +kernel
theorem dX9_goatLine_57 : decode cX9_goatLine 57 = .ok (.ifCond .ne 5, 3) := by decide +kernel
theorem dX9_goatLine_60 : decode cX9_goatLine 60 = .ok (.iconst 0, 1) := by decide +kernel
theorem dX9_goatLine_61 : decode cX9_goatLine 61 = .ok (.ireturn, 1) := by decide +kernel
theorem dX9_goatLine_62 : decode cX9_goatLine 62 = .ok (.aload_n 1, 1) := by decide +kernel
theorem dX9_goatLine_63 : decode cX9_goatLine 63 = .ok (.getfield 239, 3) := by decide +kernel
theorem dX9_goatLine_66 : decode cX9_goatLine 66 = .ok (.iload_n 2, 1) := by decide +kernel
theorem dX9_goatLine_67 : decode cX9_goatLine 67 = .ok (.aload_n 0, 1) := by decide +kernel
theorem dX9_goatLine_68 : decode cX9_goatLine 68 = .ok (.iconst 0, 1) := by decide +kernel
theorem dX9_goatLine_69 : decode cX9_goatLine 69 = .ok (.invokevirtual 197, 3) := by decide +kernel
theorem dX9_goatLine_72 : decode cX9_goatLine 72 = .ok (.iastore, 1) := by decide +kernel
theorem dX9_goatLine_73 : decode cX9_goatLine 73 = .ok (.aload_n 1, 1) := by decide +kernel
theorem dX9_goatLine_74 : decode cX9_goatLine 74 = .ok (.getfield 239, 3) := by decide +kernel
theorem dX9_goatLine_77 : decode cX9_goatLine 77 = .ok (.iload_n 2, 1) := by decide +kernel
theorem dX9_goatLine_78 : decode cX9_goatLine 78 = .ok (.iaload, 1) := by decide +kernel
theorem dX9_goatLine_79 : decode cX9_goatLine 79 = .ok (.ifCond .ge 5, 3) := by decide +kernel
theorem dX9_goatLine_82 : decode cX9_goatLine 82 = .ok (.iconst 0, 1) := by decide +kernel
theorem dX9_goatLine_83 : decode cX9_goatLine 83 = .ok (.ireturn, 1) := by decide +kernel
theorem dX9_goatLine_84 : decode cX9_goatLine 84 = .ok (.aload_n 0, 1) := by decide +kernel
theorem dX9_goatLine_85 : decode cX9_goatLine 85 = .ok (.getfield 35, 3) := by decide +kernel
theorem dX9_goatLine_88 : decode cX9_goatLine 88 = .ok (.invokevirtual 84, 3) := by decide +kernel
theorem dX9_goatLine_91 : decode cX9_goatLine 91 = .ok (.aload_n 0, 1) := by decide +kernel
theorem dX9_goatLine_92 : decode cX9_goatLine 92 = .ok (.ldc 242, 2) := by decide +kernel
theorem dX9_goatLine_94 : decode cX9_goatLine 94 = .ok (.invokevirtual 169, 3) := by decide +kernel
theorem dX9_goatLine_97 : decode cX9_goatLine 97 = .ok (.ifCond .eq 13, 3) := by decide +kernel
theorem dX9_goatLine_100 : decode cX9_goatLine 100 = .ok (.aload_n 0, 1) := by decide +kernel
theorem dX9_goatLine_101 : decode cX9_goatLine 101 = .ok (.iconst 1, 1) := by decide +kernel
theorem dX9_goatLine_102 : decode cX9_goatLine 102 = .ok (.bipush 9, 2) := by decide +kernel
theorem dX9_goatLine_104 : decode cX9_goatLine 104 = .ok (.invokevirtual 172, 3) := by decide +kernel
theorem dX9_goatLine_107 : decode cX9_goatLine 107 = .ok (.ifCond .ne 5, 3) := by decide +kernel
theorem dX9_goatLine_110 : decode cX9_goatLine 110 = .ok (.iconst 0, 1) := by decide +kernel
theorem dX9_goatLine_111 : decode cX9_goatLine 111 = .ok (.ireturn, 1) := by decide +kernel
theorem dX9_goatLine_112 : decode cX9_goatLine 112 = .ok (.aload_n 1, 1) := by decide +kernel
theorem dX9_goatLine_113 : decode cX9_goatLine 113 = .ok (.getfield 244, 3) := by decide +kernel
theorem dX9_goatLine_116 : decode cX9_goatLine 116 = .ok (.iload_n 2, 1) := by decide +kernel
theorem dX9_goatLine_117 : decode cX9_goatLine 117 = .ok (.aload_n 0, 1) := by decide +kernel
theorem dX9_goatLine_118 : decode cX9_goatLine 118 = .ok (.getfield 35, 3) := by decide +kernel
theorem dX9_goatLine_121 : decode cX9_goatLine 121 = .ok (.getfield 176, 3) := by decide +kernel
theorem dX9_goatLine_124 : decode cX9_goatLine 124 = .ok (.iastore, 1) := by decide +kernel
theorem dX9_goatLine_125 : decode cX9_goatLine 125 = .ok (.aload_n 0, 1) := by decide +kernel
theorem dX9_goatLine_126 : decode cX9_goatLine 126 = .ok (.getfield 35, 3) := by decide +kernel
theorem dX9_goatLine_129 : decode cX9_goatLine 129 = .ok (.invokevirtual 84, 3) := by decide +kernel
theorem dX9_goatLine_132 : decode cX9_goatLine 132 = .ok (.aload_n 1, 1) := by decide +kernel
theorem dX9_goatLine_133 : decode cX9_goatLine 133 = .ok (.dup, 1) := by decide +kernel
theorem dX9_goatLine_134 : decode cX9_goatLine 134 = .ok (.getfield 226, 3) := by decide +kernel
theorem dX9_goatLine_137 : decode cX9_goatLine 137 = .ok (.iconst 1, 1) := by decide +kernel
theorem dX9_goatLine_138 : decode cX9_goatLine 138 = .ok (.iadd, 1) := by decide +kernel
theorem dX9_goatLine_139 : decode cX9_goatLine 139 = .ok (.putfield 226, 3) := by decide +kernel
theorem dX9_goatLine_142 : decode cX9_goatLine 142 = .ok (.aload_n 0, 1) := by decide +kernel
theorem dX9_goatLine_143 : decode cX9_goatLine 143 = .ok (.iconst 2, 1) := by decide +kernel
theorem dX9_goatLine_144 : decode cX9_goatLine 144 = .ok (.iload_n 2, 1) := by decide +kernel
theorem dX9_goatLine_145 : decode cX9_goatLine 145 = .ok (.invokevirtual 194, 3) := by decide +kernel
theorem dX9_goatLine_148 : decode cX9_goatLine 148 = .ok (.ireturn, 1) := by decide +kernel
set_option maxRecDepth 100000 in
set_option maxHeartbeats 4000000 in
theorem mX9_goatLine {E : goEv} {l : Launch} {G : goG} {N : Nat} {M : goMI} {L : goML} {R : goMR} {r0 : Int32} {r1 : goMI} {r2 : goML} (hk : goKn E) (hW : goW G R) (h : fX9_goatLine N M L R = some (r0, r1, r2)) : Met l yX9_goatLine (goCd yX9_goatLine cX9_goatLine 3 (Option.some FieldType.boolean)) (goRoom 8 172 0 0) (goPre E [.ref 67] G M L R) (goQi E r0 G r1 r2 R) 0 0 (goSet E) := by
  refine goMet pl_RX9 hk (lv := [some (.ref 67), none, none]) rfl (Nat.le_of_ble_eq_true rfl) ?_
  intro X hc hl hR hr hnm
  subst hl
  unfold fX9_goatLine at h
  refine go_aload0 hc dX9_goatLine_0 ?_
  refine go_getR hc lk_RX9_39 dX9_goatLine_1 (sh_67 hW) (rm_67_7 hW) ?_
  refine go_getR hc lk_RX9_222 dX9_goatLine_4 (shHill_0 hW (mm_67_7 hW)) (rfHill_15 hW (mm_67_7 hW)) ?_
  refine go_astore1 hc dX9_goatLine_7 ?_
  refine go_aload1 hc dX9_goatLine_8 ?_
  refine go_getI hc lk_RX9_226 dX9_goatLine_9 (shHerd_0 hW (subHerd (mm_67_7 hW))) ?_
  replace h := goNm_x h; obtain ⟨x11, e12, h⟩ := h
  refine go_nmI e12 ?_
  refine go_istore2 hc dX9_goatLine_12 ?_
  refine go_iload2 hc dX9_goatLine_13 ?_
  refine go_bipush (v := 6) hc dX9_goatLine_14 rfl ?_
  refine go_icmp_ge hc 60 dX9_goatLine_16 rfl (fun c13 => ?_) (fun c13 => ?_)
  · replace h := goIfF h c13
    refine go_iconst (v := 0) hc dX9_goatLine_60 rfl ?_
    cases h
    exact go_zret hc dX9_goatLine_61 hr rfl
  · replace h := goIfT h c13
    refine go_aload0 hc dX9_goatLine_19 ?_
    replace h := goB3_h h; obtain ⟨x14, M15, L16, e17, h⟩ := h
    refine go_callVi hc dX9_goatLine_20 (mX9_freshName hk hW e17) ml_RX9_185 yk_X9_freshName ⟨wim_X9_freshName, wse_X9_freshName⟩ hR rfl (sh_67 hW) rfl rfl rfl (Nat.le_of_ble_eq_true rfl) rfl ?_
    refine go_if_eq hc 60 dX9_goatLine_23 rfl (fun c18 => ?_) (fun c18 => ?_)
    · replace h := goIfT h c18
      refine go_iconst (v := 0) hc dX9_goatLine_60 rfl ?_
      cases h
      exact go_zret hc dX9_goatLine_61 hr rfl
    · replace h := goIfF h c18
      refine go_aload0 hc dX9_goatLine_26 ?_
      refine go_iload2 hc dX9_goatLine_27 ?_
      replace h := goB3_h h; obtain ⟨x19, M20, L21, e22, h⟩ := h
      refine go_callVi hc dX9_goatLine_28 (mX9_kindOf hk hW e22) ml_RX9_229 yk_X9_kindOf ⟨wim_X9_kindOf, wse_X9_kindOf⟩ hR rfl (sh_67 hW) rfl rfl rfl (Nat.le_of_ble_eq_true rfl) rfl ?_
      refine go_if_eq hc 60 dX9_goatLine_31 rfl (fun c23 => ?_) (fun c23 => ?_)
      · replace h := goIfT h c23
        refine go_iconst (v := 0) hc dX9_goatLine_60 rfl ?_
        cases h
        exact go_zret hc dX9_goatLine_61 hr rfl
      · replace h := goIfF h c23
        refine go_aload0 hc dX9_goatLine_34 ?_
        refine go_ldcS hc (i := 2) (q := 1000102) (Nat.le_of_ble_eq_true rfl) rfl rfl rfl dX9_goatLine_35 ?_
        replace h := goB3_h h; obtain ⟨x24, M25, L26, e27, h⟩ := h
        refine go_callVi hc dX9_goatLine_37 (mX9_word hk hW e27) ml_RX9_169 yk_X9_word ⟨wim_X9_word, wse_X9_word⟩ hR rfl (sh_67 hW) rfl rfl rfl (Nat.le_of_ble_eq_true rfl) rfl ?_
        refine go_if_eq hc 60 dX9_goatLine_40 rfl (fun c28 => ?_) (fun c28 => ?_)
        · replace h := goIfT h c28
          refine go_iconst (v := 0) hc dX9_goatLine_60 rfl ?_
          cases h
          exact go_zret hc dX9_goatLine_61 hr rfl
        · replace h := goIfF h c28
          refine go_aload0 hc dX9_goatLine_43 ?_
          refine go_iload2 hc dX9_goatLine_44 ?_
          replace h := goB3_h h; obtain ⟨x29, M30, L31, e32, h⟩ := h
          refine go_callVi hc dX9_goatLine_45 (mX9_orderOf hk hW e32) ml_RX9_234 yk_X9_orderOf ⟨wim_X9_orderOf, wse_X9_orderOf⟩ hR rfl (sh_67 hW) rfl rfl rfl (Nat.le_of_ble_eq_true rfl) rfl ?_
          refine go_if_eq hc 60 dX9_goatLine_48 rfl (fun c33 => ?_) (fun c33 => ?_)
          · replace h := goIfT h c33
            refine go_iconst (v := 0) hc dX9_goatLine_60 rfl ?_
            cases h
            exact go_zret hc dX9_goatLine_61 hr rfl
          · replace h := goIfF h c33
            refine go_aload0 hc dX9_goatLine_51 ?_
            refine go_ldcS hc (i := 3) (q := 1000103) (Nat.le_of_ble_eq_true rfl) rfl rfl rfl dX9_goatLine_52 ?_
            replace h := goB3_h h; obtain ⟨x34, M35, L36, e37, h⟩ := h
            refine go_callVi hc dX9_goatLine_54 (mX9_word hk hW e37) ml_RX9_169 yk_X9_word ⟨wim_X9_word, wse_X9_word⟩ hR rfl (sh_67 hW) rfl rfl rfl (Nat.le_of_ble_eq_true rfl) rfl ?_
            refine go_if_ne hc 62 dX9_goatLine_57 rfl (fun c38 => ?_) (fun c38 => ?_)
            · replace h := goIfF h c38
              refine go_aload1 hc dX9_goatLine_62 ?_
              refine go_getR hc lk_RX9_239 dX9_goatLine_63 (shHerd_0 hW (subHerd (mm_67_7 hW))) (rfHerd_4 hW (subHerd (mm_67_7 hW))) ?_
              refine go_iload2 hc dX9_goatLine_66 ?_
              refine go_aload0 hc dX9_goatLine_67 ?_
              refine go_iconst (v := 0) hc dX9_goatLine_68 rfl ?_
              replace h := goB2_h h; obtain ⟨x39, M40, e41, h⟩ := h
              refine go_callVi hc dX9_goatLine_69 (mX9_named hk hW e41) ml_RX9_197 yk_X9_named ⟨wim_X9_named, wse_X9_named⟩ hR rfl (sh_67 hW) rfl rfl rfl (Nat.le_of_ble_eq_true rfl) rfl ?_
              replace h := goBind h; obtain ⟨M42, e43, h⟩ := h
              refine go_iast hc dX9_goatLine_72 (shHerd_3 hW (subHerd (mm_67_7 hW))) e43 ?_
              refine go_aload1 hc dX9_goatLine_73 ?_
              refine go_getR hc lk_RX9_239 dX9_goatLine_74 (shHerd_0 hW (subHerd (mm_67_7 hW))) (rfHerd_4 hW (subHerd (mm_67_7 hW))) ?_
              refine go_iload2 hc dX9_goatLine_77 ?_
              replace h := goBind h; obtain ⟨x44, e45, h⟩ := h
              refine go_iald hc dX9_goatLine_78 (shHerd_3 hW (subHerd (mm_67_7 hW))) e45 ?_
              refine go_if_ge hc 84 dX9_goatLine_79 rfl (fun c46 => ?_) (fun c46 => ?_)
              · replace h := goIfF h c46
                refine go_aload0 hc dX9_goatLine_84 ?_
                refine go_getR hc lk_RX9_35 dX9_goatLine_85 (sh_67 hW) (rf_67_0 hW) ?_
                replace h := goB2_h h; obtain ⟨M47, L48, e49, h⟩ := h
                refine go_callVv hc dX9_goatLine_88 (mX11_advance hk hW e49) ml_RX9_84 yk_X11_advance ⟨wim_X11_advance, wse_X11_advance⟩ hR rfl (sh_1 hW) rfl rfl rfl (Nat.le_of_ble_eq_true rfl) rfl ?_
                refine go_aload0 hc dX9_goatLine_91 ?_
                refine go_ldcS hc (i := 4) (q := 1000104) (Nat.le_of_ble_eq_true rfl) rfl rfl rfl dX9_goatLine_92 ?_
                replace h := goB3_h h; obtain ⟨x50, M51, L52, e53, h⟩ := h
                refine go_callVi hc dX9_goatLine_94 (mX9_word hk hW e53) ml_RX9_169 yk_X9_word ⟨wim_X9_word, wse_X9_word⟩ hR rfl (sh_67 hW) rfl rfl rfl (Nat.le_of_ble_eq_true rfl) rfl ?_
                refine go_if_eq hc 110 dX9_goatLine_97 rfl (fun c54 => ?_) (fun c54 => ?_)
                · replace h := goIfT h c54
                  refine go_iconst (v := 0) hc dX9_goatLine_110 rfl ?_
                  cases h
                  exact go_zret hc dX9_goatLine_111 hr rfl
                · replace h := goIfF h c54
                  refine go_aload0 hc dX9_goatLine_100 ?_
                  refine go_iconst (v := 1) hc dX9_goatLine_101 rfl ?_
                  refine go_bipush (v := 9) hc dX9_goatLine_102 rfl ?_
                  replace h := goB2_h h; obtain ⟨x55, M56, e57, h⟩ := h
                  refine go_callVi hc dX9_goatLine_104 (mX9_wholeIn hk hW e57) ml_RX9_172 yk_X9_wholeIn ⟨wim_X9_wholeIn, wse_X9_wholeIn⟩ hR rfl (sh_67 hW) rfl rfl rfl (Nat.le_of_ble_eq_true rfl) rfl ?_
                  refine go_if_ne hc 112 dX9_goatLine_107 rfl (fun c58 => ?_) (fun c58 => ?_)
                  · replace h := goIfF h c58
                    refine go_aload1 hc dX9_goatLine_112 ?_
                    refine go_getR hc lk_RX9_244 dX9_goatLine_113 (shHerd_0 hW (subHerd (mm_67_7 hW))) (rfHerd_5 hW (subHerd (mm_67_7 hW))) ?_
                    refine go_iload2 hc dX9_goatLine_116 ?_
                    refine go_aload0 hc dX9_goatLine_117 ?_
                    refine go_getR hc lk_RX9_35 dX9_goatLine_118 (sh_67 hW) (rf_67_0 hW) ?_
                    refine go_getI hc lk_RX9_176 dX9_goatLine_121 (sh_1 hW) ?_
                    replace h := goBind h; obtain ⟨M59, e60, h⟩ := h
                    refine go_iast hc dX9_goatLine_124 (shHerd_4 hW (subHerd (mm_67_7 hW))) e60 ?_
                    refine go_aload0 hc dX9_goatLine_125 ?_
                    refine go_getR hc lk_RX9_35 dX9_goatLine_126 (sh_67 hW) (rf_67_0 hW) ?_
                    replace h := goB2_h h; obtain ⟨M61, L62, e63, h⟩ := h
                    refine go_callVv hc dX9_goatLine_129 (mX11_advance hk hW e63) ml_RX9_84 yk_X11_advance ⟨wim_X11_advance, wse_X11_advance⟩ hR rfl (sh_1 hW) rfl rfl rfl (Nat.le_of_ble_eq_true rfl) rfl ?_
                    refine go_aload1 hc dX9_goatLine_132 ?_
                    refine go_dupr hc dX9_goatLine_133 ?_
                    refine go_getI hc lk_RX9_226 dX9_goatLine_134 (shHerd_0 hW (subHerd (mm_67_7 hW))) ?_
                    refine go_iconst (v := 1) hc dX9_goatLine_137 rfl ?_
                    refine go_iadd hc dX9_goatLine_138 ?_
                    replace h := goNm_x h; obtain ⟨M64, e65, h⟩ := h
                    refine go_ptI hc lk_RX9_226 dX9_goatLine_139 (shHerd_0 hW (subHerd (mm_67_7 hW))) e65 ?_
                    refine go_aload0 hc dX9_goatLine_142 ?_
                    refine go_iconst (v := 2) hc dX9_goatLine_143 rfl ?_
                    refine go_iload2 hc dX9_goatLine_144 ?_
                    replace h := goB3_h h; obtain ⟨x66, M67, L68, e69, h⟩ := h
                    refine go_callVi hc dX9_goatLine_145 (mX9_tell hk hW e69) ml_RX9_194 yk_X9_tell ⟨wim_X9_tell, wse_X9_tell⟩ hR rfl (sh_67 hW) rfl rfl rfl (Nat.le_of_ble_eq_true rfl) rfl ?_
                    replace h := goBind h; obtain ⟨x70, e71, h⟩ := h
                    obtain ⟨ze71, rfl⟩ := goZr_h e71
                    cases h
                    exact go_zret hc dX9_goatLine_148 hr (goZ_n ze71)
                  · replace h := goIfT h c58
                    refine go_iconst (v := 0) hc dX9_goatLine_110 rfl ?_
                    cases h
                    exact go_zret hc dX9_goatLine_111 hr rfl
              · replace h := goIfT h c46
                refine go_iconst (v := 0) hc dX9_goatLine_82 rfl ?_
                cases h
                exact go_zret hc dX9_goatLine_83 hr rfl
            · replace h := goIfT h c38
              refine go_iconst (v := 0) hc dX9_goatLine_60 rfl ?_
              cases h
              exact go_zret hc dX9_goatLine_61 hr rfl
theorem dX9_fearLine_0 : decode cX9_fearLine 0 = .ok (.aload_n 0, 1) := by decide +kernel
theorem dX9_fearLine_1 : decode cX9_fearLine 1 = .ok (.iconst 2, 1) := by decide +kernel
theorem dX9_fearLine_2 : decode cX9_fearLine 2 = .ok (.invokevirtual 197, 3) := by decide +kernel
theorem dX9_fearLine_5 : decode cX9_fearLine 5 = .ok (.istore_n 1, 1) := by decide +kernel
theorem dX9_fearLine_6 : decode cX9_fearLine 6 = .ok (.iload_n 1, 1) := by decide +kernel
theorem dX9_fearLine_7 : decode cX9_fearLine 7 = .ok (.ifCond .ge 5, 3) := by decide +kernel
theorem dX9_fearLine_10 : decode cX9_fearLine 10 = .ok (.iconst 0, 1) := by decide +kernel
theorem dX9_fearLine_11 : decode cX9_fearLine 11 = .ok (.ireturn, 1) := by decide +kernel
theorem dX9_fearLine_12 : decode cX9_fearLine 12 = .ok (.aload_n 0, 1) := by decide +kernel
theorem dX9_fearLine_13 : decode cX9_fearLine 13 = .ok (.getfield 35, 3) := by decide +kernel
theorem dX9_fearLine_16 : decode cX9_fearLine 16 = .ok (.invokevirtual 84, 3) := by decide +kernel
theorem dX9_fearLine_19 : decode cX9_fearLine 19 = .ok (.aload_n 0, 1) := by decide +kernel
theorem dX9_fearLine_20 : decode cX9_fearLine 20 = .ok (.iconst 1, 1) := by decide +kernel
theorem dX9_fearLine_21 : decode cX9_fearLine 21 = .ok (.invokevirtual 197, 3) := by decide +kernel
theorem dX9_fearLine_24 : decode cX9_fearLine 24 = .ok (.istore_n 2, 1) := by decide +kernel
theorem dX9_fearLine_25 : decode cX9_fearLine 25 = .ok (.iload_n 2, 1) := by decide +kernel
theorem dX9_fearLine_26 : decode cX9_fearLine 26 = .ok (.ifCond .ge 5, 3) := by decide +kernel
theorem dX9_fearLine_29 : decode cX9_fearLine 29 = .ok (.iconst 0, 1) := by decide +kernel
theorem dX9_fearLine_30 : decode cX9_fearLine 30 = .ok (.ireturn, 1) := by decide +kernel
theorem dX9_fearLine_31 : decode cX9_fearLine 31 = .ok (.aload_n 0, 1) := by decide +kernel
theorem dX9_fearLine_32 : decode cX9_fearLine 32 = .ok (.getfield 39, 3) := by decide +kernel
theorem dX9_fearLine_35 : decode cX9_fearLine 35 = .ok (.getfield 222, 3) := by decide +kernel
theorem dX9_fearLine_38 : decode cX9_fearLine 38 = .ok (.getfield 277, 3) := by decide +kernel
theorem dX9_fearLine_41 : decode cX9_fearLine 41 = .ok (.iload_n 1, 1) := by decide +kernel
theorem dX9_fearLine_42 : decode cX9_fearLine 42 = .ok (.iaload, 1) := by decide +kernel
theorem dX9_fearLine_43 : decode cX9_fearLine 43 = .ok (.iload_n 2, 1) := by decide +kernel
theorem dX9_fearLine_44 : decode cX9_fearLine 44 = .ok (.invokestatic 204, 3) := by decide +kernel
theorem dX9_fearLine_47 : decode cX9_fearLine 47 = .ok (.iconst 1, 1) := by decide +kernel
theorem dX9_fearLine_48 : decode cX9_fearLine 48 = .ok (.if_icmp .ne 9, 3) := by decide +kernel
theorem dX9_fearLine_51 : decode cX9_fearLine 51 = .ok (.aload_n 0, 1) := by decide +kernel
theorem dX9_fearLine_52 : decode cX9_fearLine 52 = .ok (.iconst 3, 1) := by decide +kernel
theorem dX9_fearLine_53 : decode cX9_fearLine 53 = .ok (.invokevirtual 87, 3) := by decide +kernel
theorem dX9_fearLine_56 : decode cX9_fearLine 56 = .ok (.ireturn, 1) := by decide +kernel
theorem dX9_fearLine_57 : decode cX9_fearLine 57 = .ok (.aload_n 0, 1) := by decide +kernel
theorem dX9_fearLine_58 : decode cX9_fearLine 58 = .ok (.getfield 39, 3) := by decide +kernel
theorem dX9_fearLine_61 : decode cX9_fearLine 61 = .ok (.getfield 222, 3) := by decide +kernel
theorem dX9_fearLine_64 : decode cX9_fearLine 64 = .ok (.getfield 277, 3) := by decide +kernel
theorem dX9_fearLine_67 : decode cX9_fearLine 67 = .ok (.iload_n 1, 1) := by decide +kernel
theorem dX9_fearLine_68 : decode cX9_fearLine 68 = .ok (.dup2, 1) := by decide +kernel
theorem dX9_fearLine_69 : decode cX9_fearLine 69 = .ok (.iaload, 1) := by decide +kernel
theorem dX9_fearLine_70 : decode cX9_fearLine 70 = .ok (.iconst 1, 1) := by decide +kernel
theorem dX9_fearLine_71 : decode cX9_fearLine 71 = .ok (.iload_n 2, 1) := by decide +kernel
theorem dX9_fearLine_72 : decode cX9_fearLine 72 = .ok (.ishl, 1) := by decide +kernel
theorem dX9_fearLine_73 : decode cX9_fearLine 73 = .ok (.ior, 1) := by decide +kernel
theorem dX9_fearLine_74 : decode cX9_fearLine 74 = .ok (.iastore, 1) := by decide +kernel
theorem dX9_fearLine_75 : decode cX9_fearLine 75 = .ok (.aload_n 0, 1) := by decide +kernel
theorem dX9_fearLine_76 : decode cX9_fearLine 76 = .ok (.getfield 35, 3) := by decide +kernel
theorem dX9_fearLine_79 : decode cX9_fearLine 79 = .ok (.invokevirtual 84, 3) := by decide +kernel
theorem dX9_fearLine_82 : decode cX9_fearLine 82 = .ok (.iconst 1, 1) := by decide +kernel
theorem dX9_fearLine_83 : decode cX9_fearLine 83 = .ok (.ireturn, 1) := by decide +kernel
set_option maxRecDepth 100000 in
set_option maxHeartbeats 4000000 in
theorem mX9_fearLine {E : goEv} {l : Launch} {G : goG} {N : Nat} {M : goMI} {L : goML} {R : goMR} {r0 : Int32} {r1 : goMI} {r2 : goML} (hk : goKn E) (hW : goW G R) (h : fX9_fearLine N M L R = some (r0, r1, r2)) : Met l yX9_fearLine (goCd yX9_fearLine cX9_fearLine 3 (Option.some FieldType.boolean)) (goRoom 3 61 0 0) (goPre E [.ref 67] G M L R) (goQi E r0 G r1 r2 R) 0 0 (goSet E) := by
  refine goMet pl_RX9 hk (lv := [some (.ref 67), none, none]) rfl (Nat.le_of_ble_eq_true rfl) ?_
  intro X hc hl hR hr hnm
  subst hl
  unfold fX9_fearLine at h
  refine go_aload0 hc dX9_fearLine_0 ?_
  refine go_iconst (v := 2) hc dX9_fearLine_1 rfl ?_
  replace h := goB2_h h; obtain ⟨x11, M12, e13, h⟩ := h
  refine go_callVi hc dX9_fearLine_2 (mX9_named hk hW e13) ml_RX9_197 yk_X9_named ⟨wim_X9_named, wse_X9_named⟩ hR rfl (sh_67 hW) rfl rfl rfl (Nat.le_of_ble_eq_true rfl) rfl ?_
  refine go_istore1 hc dX9_fearLine_5 ?_
  refine go_iload1 hc dX9_fearLine_6 ?_
  refine go_if_ge hc 12 dX9_fearLine_7 rfl (fun c14 => ?_) (fun c14 => ?_)
  · replace h := goIfF h c14
    refine go_aload0 hc dX9_fearLine_12 ?_
    refine go_getR hc lk_RX9_35 dX9_fearLine_13 (sh_67 hW) (rf_67_0 hW) ?_
    replace h := goB2_h h; obtain ⟨M15, L16, e17, h⟩ := h
    refine go_callVv hc dX9_fearLine_16 (mX11_advance hk hW e17) ml_RX9_84 yk_X11_advance ⟨wim_X11_advance, wse_X11_advance⟩ hR rfl (sh_1 hW) rfl rfl rfl (Nat.le_of_ble_eq_true rfl) rfl ?_
    refine go_aload0 hc dX9_fearLine_19 ?_
    refine go_iconst (v := 1) hc dX9_fearLine_20 rfl ?_
    replace h := goB2_h h; obtain ⟨x18, M19, e20, h⟩ := h
    refine go_callVi hc dX9_fearLine_21 (mX9_named hk hW e20) ml_RX9_197 yk_X9_named ⟨wim_X9_named, wse_X9_named⟩ hR rfl (sh_67 hW) rfl rfl rfl (Nat.le_of_ble_eq_true rfl) rfl ?_
    refine go_istore2 hc dX9_fearLine_24 ?_
    refine go_iload2 hc dX9_fearLine_25 ?_
    refine go_if_ge hc 31 dX9_fearLine_26 rfl (fun c21 => ?_) (fun c21 => ?_)
    · replace h := goIfF h c21
      refine go_aload0 hc dX9_fearLine_31 ?_
      refine go_getR hc lk_RX9_39 dX9_fearLine_32 (sh_67 hW) (rm_67_7 hW) ?_
      refine go_getR hc lk_RX9_222 dX9_fearLine_35 (shHill_0 hW (mm_67_7 hW)) (rfHill_15 hW (mm_67_7 hW)) ?_
      refine go_getR hc lk_RX9_277 dX9_fearLine_38 (shHerd_0 hW (subHerd (mm_67_7 hW))) (rfHerd_6 hW (subHerd (mm_67_7 hW))) ?_
      refine go_iload1 hc dX9_fearLine_41 ?_
      replace h := goBind h; obtain ⟨x22, e23, h⟩ := h
      refine go_iald hc dX9_fearLine_42 (shHerd_5 hW (subHerd (mm_67_7 hW))) e23 ?_
      refine go_iload2 hc dX9_fearLine_43 ?_
      refine go_callSi hc dX9_fearLine_44 (mX12_bit hk hW rfl) ml_RX9_204 yk_X12_bit wst_X12_bit hR rfl rfl rfl (Nat.le_of_ble_eq_true rfl) rfl ?_
      refine go_iconst (v := 1) hc dX9_fearLine_47 rfl ?_
      refine go_icmp_ne hc 57 dX9_fearLine_48 rfl (fun c24 => ?_) (fun c24 => ?_)
      · replace h := goIfF h c24
        refine go_aload0 hc dX9_fearLine_57 ?_
        refine go_getR hc lk_RX9_39 dX9_fearLine_58 (sh_67 hW) (rm_67_7 hW) ?_
        refine go_getR hc lk_RX9_222 dX9_fearLine_61 (shHill_0 hW (mm_67_7 hW)) (rfHill_15 hW (mm_67_7 hW)) ?_
        refine go_getR hc lk_RX9_277 dX9_fearLine_64 (shHerd_0 hW (subHerd (mm_67_7 hW))) (rfHerd_6 hW (subHerd (mm_67_7 hW))) ?_
        refine go_iload1 hc dX9_fearLine_67 ?_
        refine go_dup2 hc dX9_fearLine_68 ?_
        replace h := goBind h; obtain ⟨x25, e26, h⟩ := h
        refine go_iald hc dX9_fearLine_69 (shHerd_5 hW (subHerd (mm_67_7 hW))) e26 ?_
        refine go_iconst (v := 1) hc dX9_fearLine_70 rfl ?_
        refine go_iload2 hc dX9_fearLine_71 ?_
        refine go_ishl hc dX9_fearLine_72 ?_
        refine go_ior hc dX9_fearLine_73 ?_
        replace h := goBind h; obtain ⟨M27, e28, h⟩ := h
        refine go_iast hc dX9_fearLine_74 (shHerd_5 hW (subHerd (mm_67_7 hW))) e28 ?_
        refine go_aload0 hc dX9_fearLine_75 ?_
        refine go_getR hc lk_RX9_35 dX9_fearLine_76 (sh_67 hW) (rf_67_0 hW) ?_
        replace h := goB2_h h; obtain ⟨M29, L30, e31, h⟩ := h
        refine go_callVv hc dX9_fearLine_79 (mX11_advance hk hW e31) ml_RX9_84 yk_X11_advance ⟨wim_X11_advance, wse_X11_advance⟩ hR rfl (sh_1 hW) rfl rfl rfl (Nat.le_of_ble_eq_true rfl) rfl ?_
        refine go_iconst (v := 1) hc dX9_fearLine_82 rfl ?_
        cases h
        exact go_zret hc dX9_fearLine_83 hr rfl
      · replace h := goIfT h c24
        refine go_aload0 hc dX9_fearLine_51 ?_
        refine go_iconst (v := 3) hc dX9_fearLine_52 rfl ?_
        replace h := goB2_h h; obtain ⟨x32, M33, e34, h⟩ := h
        refine go_callVi hc dX9_fearLine_53 (mX9_fail hk hW e34) ml_RX9_87 yk_X9_fail ⟨wim_X9_fail, wse_X9_fail⟩ hR rfl (sh_67 hW) rfl rfl rfl (Nat.le_of_ble_eq_true rfl) rfl ?_
        replace h := goBind h; obtain ⟨x35, e36, h⟩ := h
        obtain ⟨ze36, rfl⟩ := goZr_h e36
        cases h
        exact go_zret hc dX9_fearLine_56 hr (goZ_n ze36)
    · replace h := goIfT h c21
      refine go_iconst (v := 0) hc dX9_fearLine_29 rfl ?_
      cases h
      exact go_zret hc dX9_fearLine_30 hr rfl
  · replace h := goIfT h c14
    refine go_iconst (v := 0) hc dX9_fearLine_10 rfl ?_
    cases h
    exact go_zret hc dX9_fearLine_11 hr rfl
theorem dX9_foundLine_0 : decode cX9_foundLine 0 = .ok (.aload_n 0, 1) := by decide +kernel
theorem dX9_foundLine_1 : decode cX9_foundLine 1 = .ok (.iconst 2, 1) := by decide +kernel
theorem dX9_foundLine_2 : decode cX9_foundLine 2 = .ok (.invokevirtual 197, 3) := by decide +kernel
theorem dX9_foundLine_5 : decode cX9_foundLine 5 = .ok (.istore_n 1, 1) := by decide +kernel
theorem dX9_foundLine_6 : decode cX9_foundLine 6 = .ok (.iload_n 1, 1) := by decide +kernel
theorem dX9_foundLine_7 : decode cX9_foundLine 7 = .ok (.ifCond .ge 5, 3) := by decide +kernel
theorem dX9_foundLine_10 : decode cX9_foundLine 10 = .ok (.iconst 0, 1) := by decide +kernel
theorem dX9_foundLine_11 : decode cX9_foundLine 11 = .ok (.ireturn, 1) := by decide +kernel
theorem dX9_foundLine_12 : decode cX9_foundLine 12 = .ok (.aload_n 0, 1) := by decide +kernel
theorem dX9_foundLine_13 : decode cX9_foundLine 13 = .ok (.getfield 35, 3) := by decide +kernel
theorem dX9_foundLine_16 : decode cX9_foundLine 16 = .ok (.invokevirtual 84, 3) := by decide +kernel
theorem dX9_foundLine_19 : decode cX9_foundLine 19 = .ok (.aload_n 0, 1) := by decide +kernel
theorem dX9_foundLine_20 : decode cX9_foundLine 20 = .ok (.getfield 35, 3) := by decide +kernel
theorem dX9_foundLine_23 : decode cX9_foundLine 23 = .ok (.getfield 81, 3) := by decide +kernel
theorem dX9_foundLine_26 : decode cX9_foundLine 26 = .ok (.iconst 1, 1) := by decide +kernel
theorem dX9_foundLine_27 : decode cX9_foundLine 27 = .ok (.if_icmp .eq 9, 3) := by decide +kernel
theorem dX9_foundLine_30 : decode cX9_foundLine 30 = .ok (.aload_n 0, 1) := by decide +kernel
theorem dX9_foundLine_31 : decode cX9_foundLine 31 = .ok (.iconst 1, 1) := by decide +kernel
theorem dX9_foundLine_32 : decode cX9_foundLine 32 = .ok (.invokevirtual 87, 3) := by decide +kernel
theorem dX9_foundLine_35 : decode cX9_foundLine 35 = .ok (.ireturn, 1) := by decide +kernel
theorem dX9_foundLine_36 : decode cX9_foundLine 36 = .ok (.aload_n 0, 1) := by decide +kernel
theorem dX9_foundLine_37 : decode cX9_foundLine 37 = .ok (.getfield 35, 3) := by decide +kernel
theorem dX9_foundLine_40 : decode cX9_foundLine 40 = .ok (.iconst 0, 1) := by decide +kernel
theorem dX9_foundLine_41 : decode cX9_foundLine 41 = .ok (.invokevirtual 265, 3) := by decide +kernel
theorem dX9_foundLine_44 : decode cX9_foundLine 44 = .ok (.istore_n 2, 1) := by decide +kernel
theorem dX9_foundLine_45 : decode cX9_foundLine 45 = .ok (.aload_n 0, 1) := by decide +kernel
theorem dX9_foundLine_46 : decode cX9_foundLine 46 = .ok (.getfield 35, 3) := by decide +kernel
theorem dX9_foundLine_49 : decode cX9_foundLine 49 = .ok (.getfield 262, 3) := by decide +kernel
theorem dX9_foundLine_52 : decode cX9_foundLine 52 = .ok (.iconst 1, 1) := by decide +kernel
theorem dX9_foundLine_53 : decode cX9_foundLine 53 = .ok (.if_icmp .ne 17, 3) := by decide +kernel
theorem dX9_foundLine_56 : decode cX9_foundLine 56 = .ok (.iload_n 2, 1) := by decide +kernel
theorem dX9_foundLine_57 : decode cX9_foundLine 57 = .ok (.aload_n 0, 1) := by decide +kernel
theorem dX9_foundLine_58 : decode cX9_foundLine 58 = .ok (.getfield 39, 3) := by decide +kernel
theorem dX9_foundLine_61 : decode cX9_foundLine 61 = .ok (.getfield 183, 3) := by decide +kernel
theorem dX9_foundLine_64 : decode cX9_foundLine 64 = .ok (.invokestatic 268, 3) := by decide +kernel
theorem dX9_foundLine_67 : decode cX9_foundLine 67 = .ok (.ifCond .ne 10, 3) := by decide +kernel
theorem dX9_foundLine_70 : decode cX9_foundLine 70 = .ok (.aload_n 0, 1) := by decide +kernel
theorem dX9_foundLine_71 : decode cX9_foundLine 71 = .ok (.bipush 7, 2) := by decide +kernel
theorem dX9_foundLine_73 : decode cX9_foundLine 73 = .ok (.invokevirtual 87, 3) := by decide +kernel
theorem dX9_foundLine_76 : decode cX9_foundLine 76 = .ok (.ireturn, 1) := by decide +kernel
theorem dX9_foundLine_77 : decode cX9_foundLine 77 = .ok (.aload_n 0, 1) := by decide +kernel
theorem dX9_foundLine_78 : decode cX9_foundLine 78 = .ok (.getfield 35, 3) := by decide +kernel
theorem dX9_foundLine_81 : decode cX9_foundLine 81 = .ok (.invokevirtual 84, 3) := by decide +kernel
theorem dX9_foundLine_84 : decode cX9_foundLine 84 = .ok (.aload_n 0, 1) := by decide +kernel
theorem dX9_foundLine_85 : decode cX9_foundLine 85 = .ok (.iconst 0, 1) := by decide +kernel
theorem dX9_foundLine_86 : decode cX9_foundLine 86 = .ok (.invokevirtual 197, 3) := by decide +kernel
theorem dX9_foundLine_89 : decode cX9_foundLine 89 = .ok (.istore_n 3, 1) := by decide +kernel
theorem dX9_foundLine_90 : decode cX9_foundLine 90 = .ok (.iload_n 3, 1) := by decide +kernel
theorem dX9_foundLine_91 : decode cX9_foundLine 91 = .ok (.ifCond .ge 5, 3) := by decide +kernel
theorem dX9_foundLine_94 : decode cX9_foundLine 94 = .ok (.iconst 0, 1) := by decide +kernel
theorem dX9_foundLine_95 : decode cX9_foundLine 95 = .ok (.ireturn, 1) := by decide +kernel
theorem dX9_foundLine_96 : decode cX9_foundLine 96 = .ok (.aload_n 0, 1) := by decide +kernel
theorem dX9_foundLine_97 : decode cX9_foundLine 97 = .ok (.getfield 35, 3) := by decide +kernel
theorem dX9_foundLine_100 : decode cX9_foundLine 100 = .ok (.invokevirtual 84, 3) := by decide +kernel
theorem dX9_foundLine_103 : decode cX9_foundLine 103 = .ok (.aload_n 0, 1) := by decide +kernel
theorem dX9_foundLine_104 : decode cX9_foundLine 104 = .ok (.getfield 39, 3) := by decide +kernel
theorem dX9_foundLine_107 : decode cX9_foundLine 107 = .ok (.getfield 222, 3) := by decide +kernel
theorem dX9_foundLine_110 : decode cX9_foundLine 110 = .ok (.iconst 0, 1) := by decide +kernel
theorem dX9_foundLine_111 : decode cX9_foundLine 111 = .ok (.iload_n 1, 1) := by decide +kernel
theorem dX9_foundLine_112 : decode cX9_foundLine 112 = .ok (.iload_n 3, 1) := by decide +kernel
theorem dX9_foundLine_113 : decode cX9_foundLine 113 = .ok (.iload_n 2, 1) := by decide +kernel
theorem dX9_foundLine_114 : decode cX9_foundLine 114 = .ok (.invokevirtual 280, 3) := by decide +kernel
theorem dX9_foundLine_117 : decode cX9_foundLine 117 = .ok (.iconst 1, 1) := by decide +kernel
theorem dX9_foundLine_118 : decode cX9_foundLine 118 = .ok (.ireturn, 1) := by decide +kernel
set_option maxRecDepth 100000 in
set_option maxHeartbeats 4000000 in
theorem mX9_foundLine {E : goEv} {l : Launch} {G : goG} {N : Nat} {M : goMI} {L : goML} {R : goMR} {r0 : Int32} {r1 : goMI} {r2 : goML} (hk : goKn E) (hW : goW G R) (h : fX9_foundLine N M L R = some (r0, r1, r2)) : Met l yX9_foundLine (goCd yX9_foundLine cX9_foundLine 4 (Option.some FieldType.boolean)) (goRoom 3 61 0 0) (goPre E [.ref 67] G M L R) (goQi E r0 G r1 r2 R) 0 0 (goSet E) := by
  refine goMet pl_RX9 hk (lv := [some (.ref 67), none, none, none]) rfl (Nat.le_of_ble_eq_true rfl) ?_
  intro X hc hl hR hr hnm
  subst hl
  unfold fX9_foundLine at h
  refine go_aload0 hc dX9_foundLine_0 ?_
  refine go_iconst (v := 2) hc dX9_foundLine_1 rfl ?_
  replace h := goB2_h h; obtain ⟨x11, M12, e13, h⟩ := h
  refine go_callVi hc dX9_foundLine_2 (mX9_named hk hW e13) ml_RX9_197 yk_X9_named ⟨wim_X9_named, wse_X9_named⟩ hR rfl (sh_67 hW) rfl rfl rfl (Nat.le_of_ble_eq_true rfl) rfl ?_
  refine go_istore1 hc dX9_foundLine_5 ?_
  refine go_iload1 hc dX9_foundLine_6 ?_
  refine go_if_ge hc 12 dX9_foundLine_7 rfl (fun c14 => ?_) (fun c14 => ?_)
  · replace h := goIfF h c14
    refine go_aload0 hc dX9_foundLine_12 ?_
    refine go_getR hc lk_RX9_35 dX9_foundLine_13 (sh_67 hW) (rf_67_0 hW) ?_
    replace h := goB2_h h; obtain ⟨M15, L16, e17, h⟩ := h
    refine go_callVv hc dX9_foundLine_16 (mX11_advance hk hW e17) ml_RX9_84 yk_X11_advance ⟨wim_X11_advance, wse_X11_advance⟩ hR rfl (sh_1 hW) rfl rfl rfl (Nat.le_of_ble_eq_true rfl) rfl ?_
    refine go_aload0 hc dX9_foundLine_19 ?_
    refine go_getR hc lk_RX9_35 dX9_foundLine_20 (sh_67 hW) (rf_67_0 hW) ?_
    refine go_getI hc lk_RX9_81 dX9_foundLine_23 (sh_1 hW) ?_
    refine go_iconst (v := 1) hc dX9_foundLine_26 rfl ?_
    refine go_icmp_eq hc 36 dX9_foundLine_27 rfl (fun c18 => ?_) (fun c18 => ?_)
    · replace h := goIfT h c18
      refine go_aload0 hc dX9_foundLine_36 ?_
      refine go_getR hc lk_RX9_35 dX9_foundLine_37 (sh_67 hW) (rf_67_0 hW) ?_
      refine go_iconst (v := 0) hc dX9_foundLine_40 rfl ?_
      replace h := goBind h; obtain ⟨x19, e20, h⟩ := h
      refine go_callVi hc dX9_foundLine_41 (mX11_plantAt hk hW e20) ml_RX9_265 yk_X11_plantAt ⟨wim_X11_plantAt, wse_X11_plantAt⟩ hR rfl (sh_1 hW) rfl rfl rfl (Nat.le_of_ble_eq_true rfl) rfl ?_
      refine go_istore2 hc dX9_foundLine_44 ?_
      refine go_aload0 hc dX9_foundLine_45 ?_
      refine go_getR hc lk_RX9_35 dX9_foundLine_46 (sh_67 hW) (rf_67_0 hW) ?_
      refine go_getI hc lk_RX9_262 dX9_foundLine_49 (sh_1 hW) ?_
      refine go_iconst (v := 1) hc dX9_foundLine_52 rfl ?_
      refine go_icmp_ne hc 70 dX9_foundLine_53 rfl (fun c21 => ?_) (fun c21 => ?_)
      · replace h := goIfF h c21
        refine go_aload0 hc dX9_foundLine_70 ?_
        refine go_bipush (v := 7) hc dX9_foundLine_71 rfl ?_
        replace h := goB2_h h; obtain ⟨x22, M23, e24, h⟩ := h
        refine go_callVi hc dX9_foundLine_73 (mX9_fail hk hW e24) ml_RX9_87 yk_X9_fail ⟨wim_X9_fail, wse_X9_fail⟩ hR rfl (sh_67 hW) rfl rfl rfl (Nat.le_of_ble_eq_true rfl) rfl ?_
        replace h := goBind h; obtain ⟨x25, e26, h⟩ := h
        obtain ⟨ze26, rfl⟩ := goZr_h e26
        cases h
        exact go_zret hc dX9_foundLine_76 hr (goZ_n ze26)
      · replace h := goIfT h c21
        refine go_iload2 hc dX9_foundLine_56 ?_
        refine go_aload0 hc dX9_foundLine_57 ?_
        refine go_getR hc lk_RX9_39 dX9_foundLine_58 (sh_67 hW) (rm_67_7 hW) ?_
        refine go_getI hc lk_RX9_183 dX9_foundLine_61 (shHill_0 hW (mm_67_7 hW)) ?_
        refine go_callSi hc dX9_foundLine_64 (mX12_within hk hW rfl) ml_RX9_268 yk_X12_within wst_X12_within hR rfl rfl rfl (Nat.le_of_ble_eq_true rfl) rfl ?_
        refine go_if_ne hc 77 dX9_foundLine_67 rfl (fun c27 => ?_) (fun c27 => ?_)
        · replace h := goIfF h c27
          refine go_aload0 hc dX9_foundLine_77 ?_
          refine go_getR hc lk_RX9_35 dX9_foundLine_78 (sh_67 hW) (rf_67_0 hW) ?_
          replace h := goB2_h h; obtain ⟨M28, L29, e30, h⟩ := h
          refine go_callVv hc dX9_foundLine_81 (mX11_advance hk hW e30) ml_RX9_84 yk_X11_advance ⟨wim_X11_advance, wse_X11_advance⟩ hR rfl (sh_1 hW) rfl rfl rfl (Nat.le_of_ble_eq_true rfl) rfl ?_
          refine go_aload0 hc dX9_foundLine_84 ?_
          refine go_iconst (v := 0) hc dX9_foundLine_85 rfl ?_
          replace h := goB2_h h; obtain ⟨x31, M32, e33, h⟩ := h
          refine go_callVi hc dX9_foundLine_86 (mX9_named hk hW e33) ml_RX9_197 yk_X9_named ⟨wim_X9_named, wse_X9_named⟩ hR rfl (sh_67 hW) rfl rfl rfl (Nat.le_of_ble_eq_true rfl) rfl ?_
          refine go_istore3 hc dX9_foundLine_89 ?_
          refine go_iload3 hc dX9_foundLine_90 ?_
          refine go_if_ge hc 96 dX9_foundLine_91 rfl (fun c34 => ?_) (fun c34 => ?_)
          · replace h := goIfF h c34
            refine go_aload0 hc dX9_foundLine_96 ?_
            refine go_getR hc lk_RX9_35 dX9_foundLine_97 (sh_67 hW) (rf_67_0 hW) ?_
            replace h := goB2_h h; obtain ⟨M35, L36, e37, h⟩ := h
            refine go_callVv hc dX9_foundLine_100 (mX11_advance hk hW e37) ml_RX9_84 yk_X11_advance ⟨wim_X11_advance, wse_X11_advance⟩ hR rfl (sh_1 hW) rfl rfl rfl (Nat.le_of_ble_eq_true rfl) rfl ?_
            refine go_aload0 hc dX9_foundLine_103 ?_
            refine go_getR hc lk_RX9_39 dX9_foundLine_104 (sh_67 hW) (rm_67_7 hW) ?_
            refine go_getR hc lk_RX9_222 dX9_foundLine_107 (shHill_0 hW (mm_67_7 hW)) (rfHill_15 hW (mm_67_7 hW)) ?_
            refine go_iconst (v := 0) hc dX9_foundLine_110 rfl ?_
            refine go_iload1 hc dX9_foundLine_111 ?_
            refine go_iload3 hc dX9_foundLine_112 ?_
            refine go_iload2 hc dX9_foundLine_113 ?_
            replace h := goBind h; obtain ⟨M38, e39, h⟩ := h
            refine go_callVv hc dX9_foundLine_114 (mX5_addClue hk hW (subHerd (mm_67_7 hW)) e39) ml_RX9_280 yk_X5_addClue ⟨wim_X5_addClue, wse_X5_addClue⟩ hR rfl (shHerd_0 hW (subHerd (mm_67_7 hW))) rfl rfl rfl (Nat.le_of_ble_eq_true rfl) rfl ?_
            refine go_iconst (v := 1) hc dX9_foundLine_117 rfl ?_
            cases h
            exact go_zret hc dX9_foundLine_118 hr rfl
          · replace h := goIfT h c34
            refine go_iconst (v := 0) hc dX9_foundLine_94 rfl ?_
            cases h
            exact go_zret hc dX9_foundLine_95 hr rfl
        · replace h := goIfT h c27
          refine go_aload0 hc dX9_foundLine_70 ?_
          refine go_bipush (v := 7) hc dX9_foundLine_71 rfl ?_
          replace h := goB2_h h; obtain ⟨x40, M41, e42, h⟩ := h
          refine go_callVi hc dX9_foundLine_73 (mX9_fail hk hW e42) ml_RX9_87 yk_X9_fail ⟨wim_X9_fail, wse_X9_fail⟩ hR rfl (sh_67 hW) rfl rfl rfl (Nat.le_of_ble_eq_true rfl) rfl ?_
          replace h := goBind h; obtain ⟨x43, e44, h⟩ := h
          obtain ⟨ze44, rfl⟩ := goZr_h e44
          cases h
          exact go_zret hc dX9_foundLine_76 hr (goZ_n ze44)
    · replace h := goIfF h c18
      refine go_aload0 hc dX9_foundLine_30 ?_
      refine go_iconst (v := 1) hc dX9_foundLine_31 rfl ?_
      replace h := goB2_h h; obtain ⟨x45, M46, e47, h⟩ := h
      refine go_callVi hc dX9_foundLine_32 (mX9_fail hk hW e47) ml_RX9_87 yk_X9_fail ⟨wim_X9_fail, wse_X9_fail⟩ hR rfl (sh_67 hW) rfl rfl rfl (Nat.le_of_ble_eq_true rfl) rfl ?_
      replace h := goBind h; obtain ⟨x48, e49, h⟩ := h
      obtain ⟨ze49, rfl⟩ := goZr_h e49
      cases h
      exact go_zret hc dX9_foundLine_35 hr (goZ_n ze49)
  · replace h := goIfT h c14
    refine go_iconst (v := 0) hc dX9_foundLine_10 rfl ?_
    cases h
    exact go_zret hc dX9_foundLine_11 hr rfl
theorem dX9_seenLine_0 : decode cX9_seenLine 0 = .ok (.aload_n 0, 1) := by decide +kernel
theorem dX9_seenLine_1 : decode cX9_seenLine 1 = .ok (.iconst 2, 1) := by decide +kernel
theorem dX9_seenLine_2 : decode cX9_seenLine 2 = .ok (.invokevirtual 197, 3) := by decide +kernel
theorem dX9_seenLine_5 : decode cX9_seenLine 5 = .ok (.istore_n 2, 1) := by decide +kernel
theorem dX9_seenLine_6 : decode cX9_seenLine 6 = .ok (.iload_n 2, 1) := by decide +kernel
theorem dX9_seenLine_7 : decode cX9_seenLine 7 = .ok (.ifCond .ge 5, 3) := by decide +kernel
theorem dX9_seenLine_10 : decode cX9_seenLine 10 = .ok (.iconst 0, 1) := by decide +kernel
theorem dX9_seenLine_11 : decode cX9_seenLine 11 = .ok (.ireturn, 1) := by decide +kernel
theorem dX9_seenLine_12 : decode cX9_seenLine 12 = .ok (.aload_n 0, 1) := by decide +kernel
theorem dX9_seenLine_13 : decode cX9_seenLine 13 = .ok (.getfield 35, 3) := by decide +kernel
theorem dX9_seenLine_16 : decode cX9_seenLine 16 = .ok (.invokevirtual 84, 3) := by decide +kernel
theorem dX9_seenLine_19 : decode cX9_seenLine 19 = .ok (.aload_n 0, 1) := by decide +kernel
theorem dX9_seenLine_20 : decode cX9_seenLine 20 = .ok (.iconst 0, 1) := by decide +kernel
theorem dX9_seenLine_21 : decode cX9_seenLine 21 = .ok (.invokevirtual 197, 3) := by decide +kernel
theorem dX9_seenLine_24 : decode cX9_seenLine 24 = .ok (.istore_n 3, 1) := by decide +kernel
theorem dX9_seenLine_25 : decode cX9_seenLine 25 = .ok (.iload_n 3, 1) := by decide +kernel
theorem dX9_seenLine_26 : decode cX9_seenLine 26 = .ok (.ifCond .ge 5, 3) := by decide +kernel
theorem dX9_seenLine_29 : decode cX9_seenLine 29 = .ok (.iconst 0, 1) := by decide +kernel
theorem dX9_seenLine_30 : decode cX9_seenLine 30 = .ok (.ireturn, 1) := by decide +kernel
theorem dX9_seenLine_31 : decode cX9_seenLine 31 = .ok (.aload_n 0, 1) := by decide +kernel
theorem dX9_seenLine_32 : decode cX9_seenLine 32 = .ok (.getfield 35, 3) := by decide +kernel
theorem dX9_seenLine_35 : decode cX9_seenLine 35 = .ok (.invokevirtual 84, 3) := by decide +kernel
theorem dX9_seenLine_38 : decode cX9_seenLine 38 = .ok (.aload_n 0, 1) := by decide +kernel
theorem dX9_seenLine_39 : decode cX9_seenLine 39 = .ok (.iconst 0, 1) := by decide +kernel
theorem dX9_seenLine_40 : decode cX9_seenLine 40 = .ok (.aload_n 0, 1) := by decide +kernel
theorem dX9_seenLine_41 : decode cX9_seenLine 41 = .ok (.getfield 39, 3) := by decide +kernel
theorem dX9_seenLine_44 : decode cX9_seenLine 44 = .ok (.getfield 179, 3) := by decide +kernel
theorem dX9_seenLine_47 : decode cX9_seenLine 47 = .ok (.iconst 1, 1) := by decide +kernel
theorem dX9_seenLine_48 : decode cX9_seenLine 48 = .ok (.isub, 1) := by decide +kernel
theorem dX9_seenLine_49 : decode cX9_seenLine 49 = .ok (.invokevirtual 172, 3) := by decide +kernel
theorem dX9_seenLine_52 : decode cX9_seenLine 52 = .ok (.ifCond .ne 5, 3) := by decide +kernel
theorem dX9_seenLine_55 : decode cX9_seenLine 55 = .ok (.iconst 0, 1) := by decide +kernel
theorem dX9_seenLine_56 : decode cX9_seenLine 56 = .ok (.ireturn, 1) := by decide +kernel
theorem dX9_seenLine_57 : decode cX9_seenLine 57 = .ok (.aload_n 0, 1) := by decide +kernel
theorem dX9_seenLine_58 : decode cX9_seenLine 58 = .ok (.getfield 39, 3) := by decide +kernel
theorem dX9_seenLine_61 : decode cX9_seenLine 61 = .ok (.getfield 222, 3) := by decide +kernel
theorem dX9_seenLine_64 : decode cX9_seenLine 64 = .ok (.iload_n 1, 1) := by decide +kernel
theorem dX9_seenLine_65 : decode cX9_seenLine 65 = .ok (.iload_n 2, 1) := by decide +kernel
theorem dX9_seenLine_66 : decode cX9_seenLine 66 = .ok (.iload_n 3, 1) := by decide +kernel
theorem dX9_seenLine_67 : decode cX9_seenLine 67 = .ok (.aload_n 0, 1) := by decide +kernel
theorem dX9_seenLine_68 : decode cX9_seenLine 68 = .ok (.getfield 35, 3) := by decide +kernel
theorem dX9_seenLine_71 : decode cX9_seenLine 71 = .ok (.getfield 176, 3) := by decide +kernel
theorem dX9_seenLine_74 : decode cX9_seenLine 74 = .ok (.invokevirtual 280, 3) := by decide +kernel
theorem dX9_seenLine_77 : decode cX9_seenLine 77 = .ok (.aload_n 0, 1) := by decide +kernel
theorem dX9_seenLine_78 : decode cX9_seenLine 78 = .ok (.getfield 35, 3) := by decide +kernel
theorem dX9_seenLine_81 : decode cX9_seenLine 81 = .ok (.invokevirtual 84, 3) := by decide +kernel
theorem dX9_seenLine_84 : decode cX9_seenLine 84 = .ok (.iconst 1, 1) := by decide +kernel
theorem dX9_seenLine_85 : decode cX9_seenLine 85 = .ok (.ireturn, 1) := by decide +kernel
set_option maxRecDepth 100000 in
set_option maxHeartbeats 4000000 in
theorem mX9_seenLine {E : goEv} {l : Launch} {G : goG} {N : Nat} {M : goMI} {L : goML} {R : goMR} {v1 : Int32} {r0 : Int32} {r1 : goMI} {r2 : goML} (hk : goKn E) (hW : goW G R) (h : fX9_seenLine N M L R v1 = some (r0, r1, r2)) : Met l yX9_seenLine (goCd yX9_seenLine cX9_seenLine 4 (Option.some FieldType.boolean)) (goRoom 3 61 0 0) (goPre E [.ref 67, .int v1] G M L R) (goQi E r0 G r1 r2 R) 0 0 (goSet E) := by
  refine goMet pl_RX9 hk (lv := [some (.ref 67), some (.int v1), none, none]) rfl (Nat.le_of_ble_eq_true rfl) ?_
  intro X hc hl hR hr hnm
  subst hl
  unfold fX9_seenLine at h
  refine go_aload0 hc dX9_seenLine_0 ?_
  refine go_iconst (v := 2) hc dX9_seenLine_1 rfl ?_
  replace h := goB2_h h; obtain ⟨x11, M12, e13, h⟩ := h
  refine go_callVi hc dX9_seenLine_2 (mX9_named hk hW e13) ml_RX9_197 yk_X9_named ⟨wim_X9_named, wse_X9_named⟩ hR rfl (sh_67 hW) rfl rfl rfl (Nat.le_of_ble_eq_true rfl) rfl ?_
  refine go_istore2 hc dX9_seenLine_5 ?_
  refine go_iload2 hc dX9_seenLine_6 ?_
  refine go_if_ge hc 12 dX9_seenLine_7 rfl (fun c14 => ?_) (fun c14 => ?_)
  · replace h := goIfF h c14
    refine go_aload0 hc dX9_seenLine_12 ?_
    refine go_getR hc lk_RX9_35 dX9_seenLine_13 (sh_67 hW) (rf_67_0 hW) ?_
    replace h := goB2_h h; obtain ⟨M15, L16, e17, h⟩ := h
    refine go_callVv hc dX9_seenLine_16 (mX11_advance hk hW e17) ml_RX9_84 yk_X11_advance ⟨wim_X11_advance, wse_X11_advance⟩ hR rfl (sh_1 hW) rfl rfl rfl (Nat.le_of_ble_eq_true rfl) rfl ?_
    refine go_aload0 hc dX9_seenLine_19 ?_
    refine go_iconst (v := 0) hc dX9_seenLine_20 rfl ?_
    replace h := goB2_h h; obtain ⟨x18, M19, e20, h⟩ := h
    refine go_callVi hc dX9_seenLine_21 (mX9_named hk hW e20) ml_RX9_197 yk_X9_named ⟨wim_X9_named, wse_X9_named⟩ hR rfl (sh_67 hW) rfl rfl rfl (Nat.le_of_ble_eq_true rfl) rfl ?_
    refine go_istore3 hc dX9_seenLine_24 ?_
    refine go_iload3 hc dX9_seenLine_25 ?_
    refine go_if_ge hc 31 dX9_seenLine_26 rfl (fun c21 => ?_) (fun c21 => ?_)
    · replace h := goIfF h c21
      refine go_aload0 hc dX9_seenLine_31 ?_
      refine go_getR hc lk_RX9_35 dX9_seenLine_32 (sh_67 hW) (rf_67_0 hW) ?_
      replace h := goB2_h h; obtain ⟨M22, L23, e24, h⟩ := h
      refine go_callVv hc dX9_seenLine_35 (mX11_advance hk hW e24) ml_RX9_84 yk_X11_advance ⟨wim_X11_advance, wse_X11_advance⟩ hR rfl (sh_1 hW) rfl rfl rfl (Nat.le_of_ble_eq_true rfl) rfl ?_
      refine go_aload0 hc dX9_seenLine_38 ?_
      refine go_iconst (v := 0) hc dX9_seenLine_39 rfl ?_
      refine go_aload0 hc dX9_seenLine_40 ?_
      refine go_getR hc lk_RX9_39 dX9_seenLine_41 (sh_67 hW) (rm_67_7 hW) ?_
      refine go_getI hc lk_RX9_179 dX9_seenLine_44 (shHill_0 hW (mm_67_7 hW)) ?_
      refine go_iconst (v := 1) hc dX9_seenLine_47 rfl ?_
      refine go_isub hc dX9_seenLine_48 ?_
      replace h := goB2_h h; obtain ⟨x25, M26, e27, h⟩ := h
      refine go_callVi hc dX9_seenLine_49 (mX9_wholeIn hk hW e27) ml_RX9_172 yk_X9_wholeIn ⟨wim_X9_wholeIn, wse_X9_wholeIn⟩ hR rfl (sh_67 hW) rfl rfl rfl (Nat.le_of_ble_eq_true rfl) rfl ?_
      refine go_if_ne hc 57 dX9_seenLine_52 rfl (fun c28 => ?_) (fun c28 => ?_)
      · replace h := goIfF h c28
        refine go_aload0 hc dX9_seenLine_57 ?_
        refine go_getR hc lk_RX9_39 dX9_seenLine_58 (sh_67 hW) (rm_67_7 hW) ?_
        refine go_getR hc lk_RX9_222 dX9_seenLine_61 (shHill_0 hW (mm_67_7 hW)) (rfHill_15 hW (mm_67_7 hW)) ?_
        refine go_iload1 hc dX9_seenLine_64 ?_
        refine go_iload2 hc dX9_seenLine_65 ?_
        refine go_iload3 hc dX9_seenLine_66 ?_
        refine go_aload0 hc dX9_seenLine_67 ?_
        refine go_getR hc lk_RX9_35 dX9_seenLine_68 (sh_67 hW) (rf_67_0 hW) ?_
        refine go_getI hc lk_RX9_176 dX9_seenLine_71 (sh_1 hW) ?_
        replace h := goBind h; obtain ⟨M29, e30, h⟩ := h
        refine go_callVv hc dX9_seenLine_74 (mX5_addClue hk hW (subHerd (mm_67_7 hW)) e30) ml_RX9_280 yk_X5_addClue ⟨wim_X5_addClue, wse_X5_addClue⟩ hR rfl (shHerd_0 hW (subHerd (mm_67_7 hW))) rfl rfl rfl (Nat.le_of_ble_eq_true rfl) rfl ?_
        refine go_aload0 hc dX9_seenLine_77 ?_
        refine go_getR hc lk_RX9_35 dX9_seenLine_78 (sh_67 hW) (rf_67_0 hW) ?_
        replace h := goB2_h h; obtain ⟨M31, L32, e33, h⟩ := h
        refine go_callVv hc dX9_seenLine_81 (mX11_advance hk hW e33) ml_RX9_84 yk_X11_advance ⟨wim_X11_advance, wse_X11_advance⟩ hR rfl (sh_1 hW) rfl rfl rfl (Nat.le_of_ble_eq_true rfl) rfl ?_
        refine go_iconst (v := 1) hc dX9_seenLine_84 rfl ?_
        cases h
        exact go_zret hc dX9_seenLine_85 hr rfl
      · replace h := goIfT h c28
        refine go_iconst (v := 0) hc dX9_seenLine_55 rfl ?_
        cases h
        exact go_zret hc dX9_seenLine_56 hr rfl
    · replace h := goIfT h c21
      refine go_iconst (v := 0) hc dX9_seenLine_29 rfl ?_
      cases h
      exact go_zret hc dX9_seenLine_30 hr rfl
  · replace h := goIfT h c14
    refine go_iconst (v := 0) hc dX9_seenLine_10 rfl ?_
    cases h
    exact go_zret hc dX9_seenLine_11 hr rfl
theorem dX9_factLine_0 : decode cX9_factLine 0 = .ok (.aload_n 0, 1) := by decide +kernel
theorem dX9_factLine_1 : decode cX9_factLine 1 = .ok (.invokevirtual 185, 3) := by decide +kernel
theorem dX9_factLine_4 : decode cX9_factLine 4 = .ok (.ifCond .ne 5, 3) := by decide +kernel
theorem dX9_factLine_7 : decode cX9_factLine 7 = .ok (.iconst 0, 1) := by decide +kernel
theorem dX9_factLine_8 : decode cX9_factLine 8 = .ok (.ireturn, 1) := by decide +kernel
theorem dX9_factLine_9 : decode cX9_factLine 9 = .ok (.aload_n 0, 1) := by decide +kernel
theorem dX9_factLine_10 : decode cX9_factLine 10 = .ok (.getfield 39, 3) := by decide +kernel
theorem dX9_factLine_13 : decode cX9_factLine 13 = .ok (.getfield 284, 3) := by decide +kernel
theorem dX9_factLine_16 : decode cX9_factLine 16 = .ok (.dup, 1) := by decide +kernel
theorem dX9_factLine_17 : decode cX9_factLine 17 = .ok (.getfield 288, 3) := by decide +kernel
theorem dX9_factLine_20 : decode cX9_factLine 20 = .ok (.iconst 1, 1) := by decide +kernel
theorem dX9_factLine_21 : decode cX9_factLine 21 = .ok (.iadd, 1) := by decide +kernel
theorem dX9_factLine_22 : decode cX9_factLine 22 = .ok (.putfield 288, 3) := by decide +kernel
theorem dX9_factLine_25 : decode cX9_factLine 25 = .ok (.aload_n 0, 1) := by decide +kernel
theorem dX9_factLine_26 : decode cX9_factLine 26 = .ok (.iconst 3, 1) := by decide +kernel
theorem dX9_factLine_27 : decode cX9_factLine 27 = .ok (.aload_n 0, 1) := by decide +kernel
theorem dX9_factLine_28 : decode cX9_factLine 28 = .ok (.getfield 39, 3) := by decide +kernel
theorem dX9_factLine_31 : decode cX9_factLine 31 = .ok (.getfield 284, 3) := by decide +kernel
theorem dX9_factLine_34 : decode cX9_factLine 34 = .ok (.getfield 288, 3) := by decide +kernel
theorem dX9_factLine_37 : decode cX9_factLine 37 = .ok (.iconst 1, 1) := by decide +kernel
theorem dX9_factLine_38 : decode cX9_factLine 38 = .ok (.isub, 1) := by decide +kernel
theorem dX9_factLine_39 : decode cX9_factLine 39 = .ok (.invokevirtual 194, 3) := by decide +kernel
theorem dX9_factLine_42 : decode cX9_factLine 42 = .ok (.ireturn, 1) := by decide +kernel
set_option maxRecDepth 100000 in
set_option maxHeartbeats 4000000 in
theorem mX9_factLine {E : goEv} {l : Launch} {G : goG} {N : Nat} {M : goMI} {L : goML} {R : goMR} {r0 : Int32} {r1 : goMI} {r2 : goML} (hk : goKn E) (hW : goW G R) (h : fX9_factLine N M L R = some (r0, r1, r2)) : Met l yX9_factLine (goCd yX9_factLine cX9_factLine 1 (Option.some FieldType.boolean)) (goRoom 4 81 0 0) (goPre E [.ref 67] G M L R) (goQi E r0 G r1 r2 R) 0 0 (goSet E) := by
  refine goMet pl_RX9 hk (lv := [some (.ref 67)]) rfl (Nat.le_of_ble_eq_true rfl) ?_
  intro X hc hl hR hr hnm
  subst hl
  unfold fX9_factLine at h
  refine go_aload0 hc dX9_factLine_0 ?_
  replace h := goB3_h h; obtain ⟨x11, M12, L13, e14, h⟩ := h
  refine go_callVi hc dX9_factLine_1 (mX9_freshName hk hW e14) ml_RX9_185 yk_X9_freshName ⟨wim_X9_freshName, wse_X9_freshName⟩ hR rfl (sh_67 hW) rfl rfl rfl (Nat.le_of_ble_eq_true rfl) rfl ?_
  refine go_if_ne hc 9 dX9_factLine_4 rfl (fun c15 => ?_) (fun c15 => ?_)
  · replace h := goIfF h c15
    refine go_aload0 hc dX9_factLine_9 ?_
    refine go_getR hc lk_RX9_39 dX9_factLine_10 (sh_67 hW) (rm_67_7 hW) ?_
    refine go_getR hc lk_RX9_284 dX9_factLine_13 (shHill_0 hW (mm_67_7 hW)) (rfHill_16 hW (mm_67_7 hW)) ?_
    refine go_dupr hc dX9_factLine_16 ?_
    refine go_getI hc lk_RX9_288 dX9_factLine_17 (shLaw_0 hW (subLaw (mm_67_7 hW))) ?_
    refine go_iconst (v := 1) hc dX9_factLine_20 rfl ?_
    refine go_iadd hc dX9_factLine_21 ?_
    replace h := goNm_x h; obtain ⟨M16, e17, h⟩ := h
    refine go_ptI hc lk_RX9_288 dX9_factLine_22 (shLaw_0 hW (subLaw (mm_67_7 hW))) e17 ?_
    refine go_aload0 hc dX9_factLine_25 ?_
    refine go_iconst (v := 3) hc dX9_factLine_26 rfl ?_
    refine go_aload0 hc dX9_factLine_27 ?_
    refine go_getR hc lk_RX9_39 dX9_factLine_28 (sh_67 hW) (rm_67_7 hW) ?_
    refine go_getR hc lk_RX9_284 dX9_factLine_31 (shHill_0 hW (mm_67_7 hW)) (rfHill_16 hW (mm_67_7 hW)) ?_
    refine go_getI hc lk_RX9_288 dX9_factLine_34 (shLaw_0 hW (subLaw (mm_67_7 hW))) ?_
    refine go_iconst (v := 1) hc dX9_factLine_37 rfl ?_
    refine go_isub hc dX9_factLine_38 ?_
    replace h := goB3_h h; obtain ⟨x18, M19, L20, e21, h⟩ := h
    refine go_callVi hc dX9_factLine_39 (mX9_tell hk hW e21) ml_RX9_194 yk_X9_tell ⟨wim_X9_tell, wse_X9_tell⟩ hR rfl (sh_67 hW) rfl rfl rfl (Nat.le_of_ble_eq_true rfl) rfl ?_
    replace h := goBind h; obtain ⟨x22, e23, h⟩ := h
    obtain ⟨ze23, rfl⟩ := goZr_h e23
    cases h
    exact go_zret hc dX9_factLine_42 hr (goZ_n ze23)
  · replace h := goIfT h c15
    refine go_iconst (v := 0) hc dX9_factLine_7 rfl ?_
    cases h
    exact go_zret hc dX9_factLine_8 hr rfl
theorem dX9_holdsLine_0 : decode cX9_holdsLine 0 = .ok (.aload_n 0, 1) := by decide +kernel
theorem dX9_holdsLine_1 : decode cX9_holdsLine 1 = .ok (.iconst 3, 1) := by decide +kernel
theorem dX9_holdsLine_2 : decode cX9_holdsLine 2 = .ok (.invokevirtual 197, 3) := by decide +kernel
theorem dX9_holdsLine_5 : decode cX9_holdsLine 5 = .ok (.istore_n 1, 1) := by decide +kernel
theorem dX9_holdsLine_6 : decode cX9_holdsLine 6 = .ok (.iload_n 1, 1) := by decide +kernel
theorem dX9_holdsLine_7 : decode cX9_holdsLine 7 = .ok (.ifCond .ge 5, 3) := by decide +kernel
theorem dX9_holdsLine_10 : decode cX9_holdsLine 10 = .ok (.iconst 0, 1) := by decide +kernel
theorem dX9_holdsLine_11 : decode cX9_holdsLine 11 = .ok (.ireturn, 1) := by decide +kernel
theorem dX9_holdsLine_12 : decode cX9_holdsLine 12 = .ok (.aload_n 0, 1) := by decide +kernel
theorem dX9_holdsLine_13 : decode cX9_holdsLine 13 = .ok (.getfield 39, 3) := by decide +kernel
theorem dX9_holdsLine_16 : decode cX9_holdsLine 16 = .ok (.getfield 284, 3) := by decide +kernel
theorem dX9_holdsLine_19 : decode cX9_holdsLine 19 = .ok (.getfield 292, 3) := by decide +kernel
theorem dX9_holdsLine_22 : decode cX9_holdsLine 22 = .ok (.iload_n 1, 1) := by decide +kernel
theorem dX9_holdsLine_23 : decode cX9_holdsLine 23 = .ok (.invokestatic 204, 3) := by decide +kernel
theorem dX9_holdsLine_26 : decode cX9_holdsLine 26 = .ok (.iconst 1, 1) := by decide +kernel
theorem dX9_holdsLine_27 : decode cX9_holdsLine 27 = .ok (.if_icmp .ne 9, 3) := by decide +kernel
theorem dX9_holdsLine_30 : decode cX9_holdsLine 30 = .ok (.aload_n 0, 1) := by decide +kernel
theorem dX9_holdsLine_31 : decode cX9_holdsLine 31 = .ok (.iconst 3, 1) := by decide +kernel
theorem dX9_holdsLine_32 : decode cX9_holdsLine 32 = .ok (.invokevirtual 87, 3) := by decide +kernel
theorem dX9_holdsLine_35 : decode cX9_holdsLine 35 = .ok (.ireturn, 1) := by decide +kernel
theorem dX9_holdsLine_36 : decode cX9_holdsLine 36 = .ok (.aload_n 0, 1) := by decide +kernel
theorem dX9_holdsLine_37 : decode cX9_holdsLine 37 = .ok (.getfield 39, 3) := by decide +kernel
theorem dX9_holdsLine_40 : decode cX9_holdsLine 40 = .ok (.getfield 284, 3) := by decide +kernel
theorem dX9_holdsLine_43 : decode cX9_holdsLine 43 = .ok (.dup, 1) := by decide +kernel
theorem dX9_holdsLine_44 : decode cX9_holdsLine 44 = .ok (.getfield 292, 3) := by decide +kernel
theorem dX9_holdsLine_47 : decode cX9_holdsLine 47 = .ok (.iconst 1, 1) := by decide +kernel
theorem dX9_holdsLine_48 : decode cX9_holdsLine 48 = .ok (.iload_n 1, 1) := by decide +kernel
theorem dX9_holdsLine_49 : decode cX9_holdsLine 49 = .ok (.ishl, 1) := by decide +kernel
theorem dX9_holdsLine_50 : decode cX9_holdsLine 50 = .ok (.ior, 1) := by decide +kernel
theorem dX9_holdsLine_51 : decode cX9_holdsLine 51 = .ok (.putfield 292, 3) := by decide +kernel
theorem dX9_holdsLine_54 : decode cX9_holdsLine 54 = .ok (.aload_n 0, 1) := by decide +kernel
theorem dX9_holdsLine_55 : decode cX9_holdsLine 55 = .ok (.getfield 35, 3) := by decide +kernel
theorem dX9_holdsLine_58 : decode cX9_holdsLine 58 = .ok (.invokevirtual 84, 3) := by decide +kernel
theorem dX9_holdsLine_61 : decode cX9_holdsLine 61 = .ok (.iconst 1, 1) := by decide +kernel
theorem dX9_holdsLine_62 : decode cX9_holdsLine 62 = .ok (.ireturn, 1) := by decide +kernel
set_option maxRecDepth 100000 in
set_option maxHeartbeats 4000000 in
theorem mX9_holdsLine {E : goEv} {l : Launch} {G : goG} {N : Nat} {M : goMI} {L : goML} {R : goMR} {r0 : Int32} {r1 : goMI} {r2 : goML} (hk : goKn E) (hW : goW G R) (h : fX9_holdsLine N M L R = some (r0, r1, r2)) : Met l yX9_holdsLine (goCd yX9_holdsLine cX9_holdsLine 2 (Option.some FieldType.boolean)) (goRoom 3 61 0 0) (goPre E [.ref 67] G M L R) (goQi E r0 G r1 r2 R) 0 0 (goSet E) := by
  refine goMet pl_RX9 hk (lv := [some (.ref 67), none]) rfl (Nat.le_of_ble_eq_true rfl) ?_
  intro X hc hl hR hr hnm
  subst hl
  unfold fX9_holdsLine at h
  refine go_aload0 hc dX9_holdsLine_0 ?_
  refine go_iconst (v := 3) hc dX9_holdsLine_1 rfl ?_
  replace h := goB2_h h; obtain ⟨x11, M12, e13, h⟩ := h
  refine go_callVi hc dX9_holdsLine_2 (mX9_named hk hW e13) ml_RX9_197 yk_X9_named ⟨wim_X9_named, wse_X9_named⟩ hR rfl (sh_67 hW) rfl rfl rfl (Nat.le_of_ble_eq_true rfl) rfl ?_
  refine go_istore1 hc dX9_holdsLine_5 ?_
  refine go_iload1 hc dX9_holdsLine_6 ?_
  refine go_if_ge hc 12 dX9_holdsLine_7 rfl (fun c14 => ?_) (fun c14 => ?_)
  · replace h := goIfF h c14
    refine go_aload0 hc dX9_holdsLine_12 ?_
    refine go_getR hc lk_RX9_39 dX9_holdsLine_13 (sh_67 hW) (rm_67_7 hW) ?_
    refine go_getR hc lk_RX9_284 dX9_holdsLine_16 (shHill_0 hW (mm_67_7 hW)) (rfHill_16 hW (mm_67_7 hW)) ?_
    refine go_getI hc lk_RX9_292 dX9_holdsLine_19 (shLaw_0 hW (subLaw (mm_67_7 hW))) ?_
    refine go_iload1 hc dX9_holdsLine_22 ?_
    refine go_callSi hc dX9_holdsLine_23 (mX12_bit hk hW rfl) ml_RX9_204 yk_X12_bit wst_X12_bit hR rfl rfl rfl (Nat.le_of_ble_eq_true rfl) rfl ?_
    refine go_iconst (v := 1) hc dX9_holdsLine_26 rfl ?_
    refine go_icmp_ne hc 36 dX9_holdsLine_27 rfl (fun c15 => ?_) (fun c15 => ?_)
    · replace h := goIfF h c15
      refine go_aload0 hc dX9_holdsLine_36 ?_
      refine go_getR hc lk_RX9_39 dX9_holdsLine_37 (sh_67 hW) (rm_67_7 hW) ?_
      refine go_getR hc lk_RX9_284 dX9_holdsLine_40 (shHill_0 hW (mm_67_7 hW)) (rfHill_16 hW (mm_67_7 hW)) ?_
      refine go_dupr hc dX9_holdsLine_43 ?_
      refine go_getI hc lk_RX9_292 dX9_holdsLine_44 (shLaw_0 hW (subLaw (mm_67_7 hW))) ?_
      refine go_iconst (v := 1) hc dX9_holdsLine_47 rfl ?_
      refine go_iload1 hc dX9_holdsLine_48 ?_
      refine go_ishl hc dX9_holdsLine_49 ?_
      refine go_ior hc dX9_holdsLine_50 ?_
      replace h := goNm_x h; obtain ⟨M16, e17, h⟩ := h
      refine go_ptI hc lk_RX9_292 dX9_holdsLine_51 (shLaw_0 hW (subLaw (mm_67_7 hW))) e17 ?_
      refine go_aload0 hc dX9_holdsLine_54 ?_
      refine go_getR hc lk_RX9_35 dX9_holdsLine_55 (sh_67 hW) (rf_67_0 hW) ?_
      replace h := goB2_h h; obtain ⟨M18, L19, e20, h⟩ := h
      refine go_callVv hc dX9_holdsLine_58 (mX11_advance hk hW e20) ml_RX9_84 yk_X11_advance ⟨wim_X11_advance, wse_X11_advance⟩ hR rfl (sh_1 hW) rfl rfl rfl (Nat.le_of_ble_eq_true rfl) rfl ?_
      refine go_iconst (v := 1) hc dX9_holdsLine_61 rfl ?_
      cases h
      exact go_zret hc dX9_holdsLine_62 hr rfl
    · replace h := goIfT h c15
      refine go_aload0 hc dX9_holdsLine_30 ?_
      refine go_iconst (v := 3) hc dX9_holdsLine_31 rfl ?_
      replace h := goB2_h h; obtain ⟨x21, M22, e23, h⟩ := h
      refine go_callVi hc dX9_holdsLine_32 (mX9_fail hk hW e23) ml_RX9_87 yk_X9_fail ⟨wim_X9_fail, wse_X9_fail⟩ hR rfl (sh_67 hW) rfl rfl rfl (Nat.le_of_ble_eq_true rfl) rfl ?_
      replace h := goBind h; obtain ⟨x24, e25, h⟩ := h
      obtain ⟨ze25, rfl⟩ := goZr_h e25
      cases h
      exact go_zret hc dX9_holdsLine_35 hr (goZ_n ze25)
  · replace h := goIfT h c14
    refine go_iconst (v := 0) hc dX9_holdsLine_10 rfl ?_
    cases h
    exact go_zret hc dX9_holdsLine_11 hr rfl
theorem dX9_factList_0 : decode cX9_factList 0 = .ok (.iconst 0, 1) := by decide +kernel
theorem dX9_factList_1 : decode cX9_factList 1 = .ok (.istore_n 3, 1) := by decide +kernel
theorem dX9_factList_2 : decode cX9_factList 2 = .ok (.iconst 0, 1) := by decide +kernel
theorem dX9_factList_3 : decode cX9_factList 3 = .ok (.istore 4, 2) := by decide +kernel
theorem dX9_factList_5 : decode cX9_factList 5 = .ok (.iload 4, 2) := by decide +kernel
theorem dX9_factList_7 : decode cX9_factList 7 = .ok (.iload_n 1, 1) := by decide +kernel
theorem dX9_factList_8 : decode cX9_factList 8 = .ok (.if_icmp .gt 108, 3) := by decide +kernel
theorem dX9_factList_11 : decode cX9_factList 11 = .ok (.iload 4, 2) := by decide +kernel
theorem dX9_factList_13 : decode cX9_factList 13 = .ok (.ifCond .le 24, 3) := by decide +kernel
theorem dX9_factList_16 : decode cX9_factList 16 = .ok (.aload_n 0, 1) := by decide +kernel
theorem dX9_factList_17 : decode cX9_factList 17 = .ok (.getfield 35, 3) := by decide +kernel
theorem dX9_factList_20 : decode cX9_factList 20 = .ok (.getfield 81, 3) := by decide +kernel
theorem dX9_factList_23 : decode cX9_factList 23 = .ok (.iconst 4, 1) := by decide +kernel
theorem dX9_factList_24 : decode cX9_factList 24 = .ok (.if_icmp .eq 6, 3) := by decide +kernel
theorem dX9_factList_27 : decode cX9_factList 27 = .ok (.iload 4, 2) := by decide +kernel
theorem dX9_factList_29 : decode cX9_factList 29 = .ok (.ireturn, 1) := by decide +kernel
theorem dX9_factList_30 : decode cX9_factList 30 = .ok (.aload_n 0, 1) := by decide +kernel
theorem dX9_factList_31 : decode cX9_factList 31 = .ok (.getfield 35, 3) := by decide +kernel
theorem dX9_factList_34 : decode cX9_factList 34 = .ok (.invokevirtual 84, 3) := by decide +kernel
theorem dX9_factList_37 : decode cX9_factList 37 = .ok (.aload_n 0, 1) := by decide +kernel
theorem dX9_factList_38 : decode cX9_factList 38 = .ok (.iconst 3, 1) := by decide +kernel
theorem dX9_factList_39 : decode cX9_factList 39 = .ok (.invokevirtual 197, 3) := by decide +kernel
theorem dX9_factList_42 : decode cX9_factList 42 = .ok (.istore 5, 2) := by decide +kernel
theorem dX9_factList_44 : decode cX9_factList 44 = .ok (.iload 5, 2) := by decide +kernel
theorem dX9_factList_46 : decode cX9_factList 46 = .ok (.ifCond .ge 5, 3) := by decide +kernel
theorem dX9_factList_49 : decode cX9_factList 49 = .ok (.iconst 0, 1) := by decide +kernel
theorem dX9_factList_50 : decode cX9_factList 50 = .ok (.ireturn, 1) := by decide +kernel
theorem dX9_factList_51 : decode cX9_factList 51 = .ok (.iload_n 2, 1) := by decide +kernel
theorem dX9_factList_52 : decode cX9_factList 52 = .ok (.ifCond .eq 21, 3) := by decide +kernel
theorem dX9_factList_55 : decode cX9_factList 55 = .ok (.iload_n 3, 1) := by decide +kernel
theorem dX9_factList_56 : decode cX9_factList 56 = .ok (.iload 5, 2) := by decide +kernel
theorem dX9_factList_58 : decode cX9_factList 58 = .ok (.invokestatic 204, 3) := by decide +kernel
theorem dX9_factList_61 : decode cX9_factList 61 = .ok (.iconst 1, 1) := by decide +kernel
theorem dX9_factList_62 : decode cX9_factList 62 = .ok (.if_icmp .ne 11, 3) := by decide +kernel
theorem dX9_factList_65 : decode cX9_factList 65 = .ok (.aload_n 0, 1) := by decide +kernel
theorem dX9_factList_66 : decode cX9_factList 66 = .ok (.iconst 3, 1) := by decide +kernel
theorem dX9_factList_67 : decode cX9_factList 67 = .ok (.invokevirtual 87, 3) := by decide +kernel
theorem dX9_factList_70 : decode cX9_factList 70 = .ok (.pop, 1) := by decide +kernel
theorem dX9_factList_71 : decode cX9_factList 71 = .ok (.iconst 0, 1) := by decide +kernel
theorem dX9_factList_72 : decode cX9_factList 72 = .ok (.ireturn, 1) := by decide +kernel
theorem dX9_factList_73 : decode cX9_factList 73 = .ok (.iload 4, 2) := by decide +kernel
theorem dX9_factList_75 : decode cX9_factList 75 = .ok (.iload_n 1, 1) := by decide +kernel
theorem dX9_factList_76 : decode cX9_factList 76 = .ok (.if_icmp .lt 11, 3) := by decide +kernel
theorem dX9_factList_79 : decode cX9_factList 79 = .ok (.aload_n 0, 1) := by decide +kernel
theorem dX9_factList_80 : decode cX9_factList 80 = .ok (.iconst 5, 1) := by decide +kernel
theorem dX9_factList_81 : decode cX9_factList 81 = .ok (.invokevirtual 87, 3) := by decide +kernel
theorem dX9_factList_84 : decode cX9_factList 84 = .ok (.pop, 1) := by decide +kernel
theorem dX9_factList_85 : decode cX9_factList 85 = .ok (.iconst 0, 1) := by decide +kernel
theorem dX9_factList_86 : decode cX9_factList 86 = .ok (.ireturn, 1) := by decide +kernel
theorem dX9_factList_87 : decode cX9_factList 87 = .ok (.iload_n 3, 1) := by decide +kernel
theorem dX9_factList_88 : decode cX9_factList 88 = .ok (.iconst 1, 1) := by decide +kernel
theorem dX9_factList_89 : decode cX9_factList 89 = .ok (.iload 5, 2) := by decide +kernel
theorem dX9_factList_91 : decode cX9_factList 91 = .ok (.ishl, 1) := by decide +kernel
theorem dX9_factList_92 : decode cX9_factList 92 = .ok (.ior, 1) := by decide +kernel
theorem dX9_factList_93 : decode cX9_factList 93 = .ok (.istore_n 3, 1) := by decide +kernel
theorem dX9_factList_94 : decode cX9_factList 94 = .ok (.aload_n 0, 1) := by decide +kernel
theorem dX9_factList_95 : decode cX9_factList 95 = .ok (.getfield 25, 3) := by decide +kernel
theorem dX9_factList_98 : decode cX9_factList 98 = .ok (.iload 4, 2) := by decide +kernel
theorem dX9_factList_100 : decode cX9_factList 100 = .ok (.iload 5, 2) := by decide +kernel
theorem dX9_factList_102 : decode cX9_factList 102 = .ok (.iastore, 1) := by decide +kernel
theorem dX9_factList_103 : decode cX9_factList 103 = .ok (.aload_n 0, 1) := by decide +kernel
theorem dX9_factList_104 : decode cX9_factList 104 = .ok (.getfield 35, 3) := by decide +kernel
theorem dX9_factList_107 : decode cX9_factList 107 = .ok (.invokevirtual 84, 3) := by decide +kernel
theorem dX9_factList_110 : decode cX9_factList 110 = .ok (.iinc 4 1, 3) := by decide +kernel
theorem dX9_factList_113 : decode cX9_factList 113 = .ok (.goto (-108), 3) := by decide +kernel
theorem dX9_factList_116 : decode cX9_factList 116 = .ok (.iconst 0, 1) := by decide +kernel
theorem dX9_factList_117 : decode cX9_factList 117 = .ok (.ireturn, 1) := by decide +kernel
set_option maxRecDepth 100000 in
set_option maxHeartbeats 4000000 in
theorem mX9_factList_L5 {E : goEv} {X : goX} {G : goG} {R : goMR} {N : Nat} {v1 : Int32} {v2 : Int32} {r0 : Int32} {r1 : goMI} {r2 : goML} (hc : goCx E X cX9_factList RX9 6) (hk : goKn E) (hR : X.2.2.2.1 = goRoom 3 61 0 0) (hr : X.2.2.2.2.2.2.2.2.1.sig.returnType = (Option.some FieldType.int)) (hW : goW G R) : ∀ (n : Nat) (v3 : Int32) (v4 : Int32) (M : goMI) (L : goML), lX9_factList_5 N v1 v2 n v3 v4 M L = some (r0, r1, r2) → ∀ (d5 : Option Value), goA E X G 0 0 (goMQ X E (goQi E r0 G r1 r2 R) 0 0) 5 [some (.ref 67), some (.int v1), some (.int v2), some (.int v3), some (.int v4), d5] [] M L R := by
  intro n
  induction n with
  | zero => intro v3 v4 M L h; exact nomatch h
  | succ n ih =>
    intro v3 v4 M L h d5
    rw [lX9_factList_5] at h
    refine go_iload4 hc dX9_factList_5 ?_
    refine go_iload1 hc dX9_factList_7 ?_
    refine go_icmp_gt hc 116 dX9_factList_8 rfl (fun c11 => ?_) (fun c11 => ?_)
    · replace h := goIfF h c11
      refine go_iconst (v := 0) hc dX9_factList_116 rfl ?_
      cases h
      exact go_iret hc dX9_factList_117 hr
    · replace h := goIfT h c11
      refine go_iload4 hc dX9_factList_11 ?_
      refine go_if_le hc 37 dX9_factList_13 rfl (fun c12 => ?_) (fun c12 => ?_)
      · replace h := goIfF h c12
        refine go_aload0 hc dX9_factList_37 ?_
        refine go_iconst (v := 3) hc dX9_factList_38 rfl ?_
        replace h := goB2_h h; obtain ⟨x13, M14, e15, h⟩ := h
        refine go_callVi hc dX9_factList_39 (mX9_named hk hW e15) ml_RX9_197 yk_X9_named ⟨wim_X9_named, wse_X9_named⟩ hR rfl (sh_67 hW) rfl rfl rfl (Nat.le_of_ble_eq_true rfl) rfl ?_
        refine go_istore5 hc dX9_factList_42 ?_
        refine go_iload5 hc dX9_factList_44 ?_
        refine go_if_ge hc 51 dX9_factList_46 rfl (fun c16 => ?_) (fun c16 => ?_)
        · replace h := goIfF h c16
          refine go_iload2 hc dX9_factList_51 ?_
          refine go_if_eq hc 73 dX9_factList_52 rfl (fun c17 => ?_) (fun c17 => ?_)
          · replace h := goIfT h c17
            refine go_iload4 hc dX9_factList_73 ?_
            refine go_iload1 hc dX9_factList_75 ?_
            refine go_icmp_lt hc 87 dX9_factList_76 rfl (fun c18 => ?_) (fun c18 => ?_)
            · replace h := goIfF h c18
              refine go_iload3 hc dX9_factList_87 ?_
              refine go_iconst (v := 1) hc dX9_factList_88 rfl ?_
              refine go_iload5 hc dX9_factList_89 ?_
              refine go_ishl hc dX9_factList_91 ?_
              refine go_ior hc dX9_factList_92 ?_
              replace h := goNm_x h; obtain ⟨x19, e20, h⟩ := h
              refine go_nmI e20 ?_
              refine go_istore3 hc dX9_factList_93 ?_
              refine go_aload0 hc dX9_factList_94 ?_
              refine go_getR hc lk_RX9_25 dX9_factList_95 (sh_67 hW) (rf_67_5 hW) ?_
              refine go_iload4 hc dX9_factList_98 ?_
              refine go_iload5 hc dX9_factList_100 ?_
              replace h := goBind h; obtain ⟨M21, e22, h⟩ := h
              refine go_iast hc dX9_factList_102 (sh_72 hW) e22 ?_
              refine go_aload0 hc dX9_factList_103 ?_
              refine go_getR hc lk_RX9_35 dX9_factList_104 (sh_67 hW) (rf_67_0 hW) ?_
              replace h := goB2_h h; obtain ⟨M23, L24, e25, h⟩ := h
              refine go_callVv hc dX9_factList_107 (mX11_advance hk hW e25) ml_RX9_84 yk_X11_advance ⟨wim_X11_advance, wse_X11_advance⟩ hR rfl (sh_1 hW) rfl rfl rfl (Nat.le_of_ble_eq_true rfl) rfl ?_
              refine go_iinc4 (v := (v4 + 1)) hc dX9_factList_110 rfl ?_
              refine go_goto hc 5 dX9_factList_113 rfl ?_
              exact ih _ _ _ _ h _
            · replace h := goIfT h c18
              refine go_aload0 hc dX9_factList_79 ?_
              refine go_iconst (v := 5) hc dX9_factList_80 rfl ?_
              replace h := goB2_h h; obtain ⟨x26, M27, e28, h⟩ := h
              refine go_callVi hc dX9_factList_81 (mX9_fail hk hW e28) ml_RX9_87 yk_X9_fail ⟨wim_X9_fail, wse_X9_fail⟩ hR rfl (sh_67 hW) rfl rfl rfl (Nat.le_of_ble_eq_true rfl) rfl ?_
              refine go_popi hc dX9_factList_84 ?_
              refine go_iconst (v := 0) hc dX9_factList_85 rfl ?_
              cases h
              exact go_iret hc dX9_factList_86 hr
          · replace h := goIfF h c17
            refine go_iload3 hc dX9_factList_55 ?_
            refine go_iload5 hc dX9_factList_56 ?_
            refine go_callSi hc dX9_factList_58 (mX12_bit hk hW rfl) ml_RX9_204 yk_X12_bit wst_X12_bit hR rfl rfl rfl (Nat.le_of_ble_eq_true rfl) rfl ?_
            refine go_iconst (v := 1) hc dX9_factList_61 rfl ?_
            refine go_icmp_ne hc 73 dX9_factList_62 rfl (fun c29 => ?_) (fun c29 => ?_)
            · replace h := goIfF h c29
              refine go_iload4 hc dX9_factList_73 ?_
              refine go_iload1 hc dX9_factList_75 ?_
              refine go_icmp_lt hc 87 dX9_factList_76 rfl (fun c30 => ?_) (fun c30 => ?_)
              · replace h := goIfF h c30
                refine go_iload3 hc dX9_factList_87 ?_
                refine go_iconst (v := 1) hc dX9_factList_88 rfl ?_
                refine go_iload5 hc dX9_factList_89 ?_
                refine go_ishl hc dX9_factList_91 ?_
                refine go_ior hc dX9_factList_92 ?_
                replace h := goNm_x h; obtain ⟨x31, e32, h⟩ := h
                refine go_nmI e32 ?_
                refine go_istore3 hc dX9_factList_93 ?_
                refine go_aload0 hc dX9_factList_94 ?_
                refine go_getR hc lk_RX9_25 dX9_factList_95 (sh_67 hW) (rf_67_5 hW) ?_
                refine go_iload4 hc dX9_factList_98 ?_
                refine go_iload5 hc dX9_factList_100 ?_
                replace h := goBind h; obtain ⟨M33, e34, h⟩ := h
                refine go_iast hc dX9_factList_102 (sh_72 hW) e34 ?_
                refine go_aload0 hc dX9_factList_103 ?_
                refine go_getR hc lk_RX9_35 dX9_factList_104 (sh_67 hW) (rf_67_0 hW) ?_
                replace h := goB2_h h; obtain ⟨M35, L36, e37, h⟩ := h
                refine go_callVv hc dX9_factList_107 (mX11_advance hk hW e37) ml_RX9_84 yk_X11_advance ⟨wim_X11_advance, wse_X11_advance⟩ hR rfl (sh_1 hW) rfl rfl rfl (Nat.le_of_ble_eq_true rfl) rfl ?_
                refine go_iinc4 (v := (v4 + 1)) hc dX9_factList_110 rfl ?_
                refine go_goto hc 5 dX9_factList_113 rfl ?_
                exact ih _ _ _ _ h _
              · replace h := goIfT h c30
                refine go_aload0 hc dX9_factList_79 ?_
                refine go_iconst (v := 5) hc dX9_factList_80 rfl ?_
                replace h := goB2_h h; obtain ⟨x38, M39, e40, h⟩ := h
                refine go_callVi hc dX9_factList_81 (mX9_fail hk hW e40) ml_RX9_87 yk_X9_fail ⟨wim_X9_fail, wse_X9_fail⟩ hR rfl (sh_67 hW) rfl rfl rfl (Nat.le_of_ble_eq_true rfl) rfl ?_
                refine go_popi hc dX9_factList_84 ?_
                refine go_iconst (v := 0) hc dX9_factList_85 rfl ?_
                cases h
                exact go_iret hc dX9_factList_86 hr
            · replace h := goIfT h c29
              refine go_aload0 hc dX9_factList_65 ?_
              refine go_iconst (v := 3) hc dX9_factList_66 rfl ?_
              replace h := goB2_h h; obtain ⟨x41, M42, e43, h⟩ := h
              refine go_callVi hc dX9_factList_67 (mX9_fail hk hW e43) ml_RX9_87 yk_X9_fail ⟨wim_X9_fail, wse_X9_fail⟩ hR rfl (sh_67 hW) rfl rfl rfl (Nat.le_of_ble_eq_true rfl) rfl ?_
              refine go_popi hc dX9_factList_70 ?_
              refine go_iconst (v := 0) hc dX9_factList_71 rfl ?_
              cases h
              exact go_iret hc dX9_factList_72 hr
        · replace h := goIfT h c16
          refine go_iconst (v := 0) hc dX9_factList_49 rfl ?_
          cases h
          exact go_iret hc dX9_factList_50 hr
      · replace h := goIfT h c12
        refine go_aload0 hc dX9_factList_16 ?_
        refine go_getR hc lk_RX9_35 dX9_factList_17 (sh_67 hW) (rf_67_0 hW) ?_
        refine go_getI hc lk_RX9_81 dX9_factList_20 (sh_1 hW) ?_
        refine go_iconst (v := 4) hc dX9_factList_23 rfl ?_
        refine go_icmp_eq hc 30 dX9_factList_24 rfl (fun c44 => ?_) (fun c44 => ?_)
        · replace h := goIfT h c44
          refine go_aload0 hc dX9_factList_30 ?_
          refine go_getR hc lk_RX9_35 dX9_factList_31 (sh_67 hW) (rf_67_0 hW) ?_
          replace h := goB2_h h; obtain ⟨M45, L46, e47, h⟩ := h
          refine go_callVv hc dX9_factList_34 (mX11_advance hk hW e47) ml_RX9_84 yk_X11_advance ⟨wim_X11_advance, wse_X11_advance⟩ hR rfl (sh_1 hW) rfl rfl rfl (Nat.le_of_ble_eq_true rfl) rfl ?_
          refine go_aload0 hc dX9_factList_37 ?_
          refine go_iconst (v := 3) hc dX9_factList_38 rfl ?_
          replace h := goB2_h h; obtain ⟨x48, M49, e50, h⟩ := h
          refine go_callVi hc dX9_factList_39 (mX9_named hk hW e50) ml_RX9_197 yk_X9_named ⟨wim_X9_named, wse_X9_named⟩ hR rfl (sh_67 hW) rfl rfl rfl (Nat.le_of_ble_eq_true rfl) rfl ?_
          refine go_istore5 hc dX9_factList_42 ?_
          refine go_iload5 hc dX9_factList_44 ?_
          refine go_if_ge hc 51 dX9_factList_46 rfl (fun c51 => ?_) (fun c51 => ?_)
          · replace h := goIfF h c51
            refine go_iload2 hc dX9_factList_51 ?_
            refine go_if_eq hc 73 dX9_factList_52 rfl (fun c52 => ?_) (fun c52 => ?_)
            · replace h := goIfT h c52
              refine go_iload4 hc dX9_factList_73 ?_
              refine go_iload1 hc dX9_factList_75 ?_
              refine go_icmp_lt hc 87 dX9_factList_76 rfl (fun c53 => ?_) (fun c53 => ?_)
              · replace h := goIfF h c53
                refine go_iload3 hc dX9_factList_87 ?_
                refine go_iconst (v := 1) hc dX9_factList_88 rfl ?_
                refine go_iload5 hc dX9_factList_89 ?_
                refine go_ishl hc dX9_factList_91 ?_
                refine go_ior hc dX9_factList_92 ?_
                replace h := goNm_x h; obtain ⟨x54, e55, h⟩ := h
                refine go_nmI e55 ?_
                refine go_istore3 hc dX9_factList_93 ?_
                refine go_aload0 hc dX9_factList_94 ?_
                refine go_getR hc lk_RX9_25 dX9_factList_95 (sh_67 hW) (rf_67_5 hW) ?_
                refine go_iload4 hc dX9_factList_98 ?_
                refine go_iload5 hc dX9_factList_100 ?_
                replace h := goBind h; obtain ⟨M56, e57, h⟩ := h
                refine go_iast hc dX9_factList_102 (sh_72 hW) e57 ?_
                refine go_aload0 hc dX9_factList_103 ?_
                refine go_getR hc lk_RX9_35 dX9_factList_104 (sh_67 hW) (rf_67_0 hW) ?_
                replace h := goB2_h h; obtain ⟨M58, L59, e60, h⟩ := h
                refine go_callVv hc dX9_factList_107 (mX11_advance hk hW e60) ml_RX9_84 yk_X11_advance ⟨wim_X11_advance, wse_X11_advance⟩ hR rfl (sh_1 hW) rfl rfl rfl (Nat.le_of_ble_eq_true rfl) rfl ?_
                refine go_iinc4 (v := (v4 + 1)) hc dX9_factList_110 rfl ?_
                refine go_goto hc 5 dX9_factList_113 rfl ?_
                exact ih _ _ _ _ h _
              · replace h := goIfT h c53
                refine go_aload0 hc dX9_factList_79 ?_
                refine go_iconst (v := 5) hc dX9_factList_80 rfl ?_
                replace h := goB2_h h; obtain ⟨x61, M62, e63, h⟩ := h
                refine go_callVi hc dX9_factList_81 (mX9_fail hk hW e63) ml_RX9_87 yk_X9_fail ⟨wim_X9_fail, wse_X9_fail⟩ hR rfl (sh_67 hW) rfl rfl rfl (Nat.le_of_ble_eq_true rfl) rfl ?_
                refine go_popi hc dX9_factList_84 ?_
                refine go_iconst (v := 0) hc dX9_factList_85 rfl ?_
                cases h
                exact go_iret hc dX9_factList_86 hr
            · replace h := goIfF h c52
              refine go_iload3 hc dX9_factList_55 ?_
              refine go_iload5 hc dX9_factList_56 ?_
              refine go_callSi hc dX9_factList_58 (mX12_bit hk hW rfl) ml_RX9_204 yk_X12_bit wst_X12_bit hR rfl rfl rfl (Nat.le_of_ble_eq_true rfl) rfl ?_
              refine go_iconst (v := 1) hc dX9_factList_61 rfl ?_
              refine go_icmp_ne hc 73 dX9_factList_62 rfl (fun c64 => ?_) (fun c64 => ?_)
              · replace h := goIfF h c64
                refine go_iload4 hc dX9_factList_73 ?_
                refine go_iload1 hc dX9_factList_75 ?_
                refine go_icmp_lt hc 87 dX9_factList_76 rfl (fun c65 => ?_) (fun c65 => ?_)
                · replace h := goIfF h c65
                  refine go_iload3 hc dX9_factList_87 ?_
                  refine go_iconst (v := 1) hc dX9_factList_88 rfl ?_
                  refine go_iload5 hc dX9_factList_89 ?_
                  refine go_ishl hc dX9_factList_91 ?_
                  refine go_ior hc dX9_factList_92 ?_
                  replace h := goNm_x h; obtain ⟨x66, e67, h⟩ := h
                  refine go_nmI e67 ?_
                  refine go_istore3 hc dX9_factList_93 ?_
                  refine go_aload0 hc dX9_factList_94 ?_
                  refine go_getR hc lk_RX9_25 dX9_factList_95 (sh_67 hW) (rf_67_5 hW) ?_
                  refine go_iload4 hc dX9_factList_98 ?_
                  refine go_iload5 hc dX9_factList_100 ?_
                  replace h := goBind h; obtain ⟨M68, e69, h⟩ := h
                  refine go_iast hc dX9_factList_102 (sh_72 hW) e69 ?_
                  refine go_aload0 hc dX9_factList_103 ?_
                  refine go_getR hc lk_RX9_35 dX9_factList_104 (sh_67 hW) (rf_67_0 hW) ?_
                  replace h := goB2_h h; obtain ⟨M70, L71, e72, h⟩ := h
                  refine go_callVv hc dX9_factList_107 (mX11_advance hk hW e72) ml_RX9_84 yk_X11_advance ⟨wim_X11_advance, wse_X11_advance⟩ hR rfl (sh_1 hW) rfl rfl rfl (Nat.le_of_ble_eq_true rfl) rfl ?_
                  refine go_iinc4 (v := (v4 + 1)) hc dX9_factList_110 rfl ?_
                  refine go_goto hc 5 dX9_factList_113 rfl ?_
                  exact ih _ _ _ _ h _
                · replace h := goIfT h c65
                  refine go_aload0 hc dX9_factList_79 ?_
                  refine go_iconst (v := 5) hc dX9_factList_80 rfl ?_
                  replace h := goB2_h h; obtain ⟨x73, M74, e75, h⟩ := h
                  refine go_callVi hc dX9_factList_81 (mX9_fail hk hW e75) ml_RX9_87 yk_X9_fail ⟨wim_X9_fail, wse_X9_fail⟩ hR rfl (sh_67 hW) rfl rfl rfl (Nat.le_of_ble_eq_true rfl) rfl ?_
                  refine go_popi hc dX9_factList_84 ?_
                  refine go_iconst (v := 0) hc dX9_factList_85 rfl ?_
                  cases h
                  exact go_iret hc dX9_factList_86 hr
              · replace h := goIfT h c64
                refine go_aload0 hc dX9_factList_65 ?_
                refine go_iconst (v := 3) hc dX9_factList_66 rfl ?_
                replace h := goB2_h h; obtain ⟨x76, M77, e78, h⟩ := h
                refine go_callVi hc dX9_factList_67 (mX9_fail hk hW e78) ml_RX9_87 yk_X9_fail ⟨wim_X9_fail, wse_X9_fail⟩ hR rfl (sh_67 hW) rfl rfl rfl (Nat.le_of_ble_eq_true rfl) rfl ?_
                refine go_popi hc dX9_factList_70 ?_
                refine go_iconst (v := 0) hc dX9_factList_71 rfl ?_
                cases h
                exact go_iret hc dX9_factList_72 hr
          · replace h := goIfT h c51
            refine go_iconst (v := 0) hc dX9_factList_49 rfl ?_
            cases h
            exact go_iret hc dX9_factList_50 hr
        · replace h := goIfF h c44
          refine go_iload4 hc dX9_factList_27 ?_
          cases h
          exact go_iret hc dX9_factList_29 hr
set_option maxRecDepth 100000 in
set_option maxHeartbeats 4000000 in
theorem mX9_factList {E : goEv} {l : Launch} {G : goG} {N : Nat} {M : goMI} {L : goML} {R : goMR} {v1 : Int32} {v2 : Int32} {r0 : Int32} {r1 : goMI} {r2 : goML} (hk : goKn E) (hW : goW G R) (h : fX9_factList N M L v1 v2 = some (r0, r1, r2)) : Met l yX9_factList (goCd yX9_factList cX9_factList 6 (Option.some FieldType.int)) (goRoom 3 61 0 0) (goPre E [.ref 67, .int v1, .int v2] G M L R) (goQi E r0 G r1 r2 R) 0 0 (goSet E) := by
  refine goMet pl_RX9 hk (lv := [some (.ref 67), some (.int v1), some (.int v2), none, none, none]) rfl (Nat.le_of_ble_eq_true rfl) ?_
  intro X hc hl hR hr hnm
  subst hl
  unfold fX9_factList at h
  refine go_iconst (v := 0) hc dX9_factList_0 rfl ?_
  refine go_istore3 hc dX9_factList_1 ?_
  refine go_iconst (v := 0) hc dX9_factList_2 rfl ?_
  refine go_istore4 hc dX9_factList_3 ?_
  exact mX9_factList_L5 hc hk hR hr hW _ _ _ _ _ h _
theorem dX9_ruleLine_0 : decode cX9_ruleLine 0 = .ok (.aload_n 0, 1) := by decide +kernel
theorem dX9_ruleLine_1 : decode cX9_ruleLine 1 = .ok (.iconst 3, 1) := by decide +kernel
theorem dX9_ruleLine_2 : decode cX9_ruleLine 2 = .ok (.invokevirtual 197, 3) := by decide +kernel
theorem dX9_ruleLine_5 : decode cX9_ruleLine 5 = .ok (.istore_n 1, 1) := by decide +kernel
theorem dX9_ruleLine_6 : decode cX9_ruleLine 6 = .ok (.iload_n 1, 1) := by decide +kernel
theorem dX9_ruleLine_7 : decode cX9_ruleLine 7 = .ok (.ifCond .ge 5, 3) := by decide +kernel
theorem dX9_ruleLine_10 : decode cX9_ruleLine 10 = .ok (.iconst 0, 1) := by decide +kernel
theorem dX9_ruleLine_11 : decode cX9_ruleLine 11 = .ok (.ireturn, 1) := by decide +kernel
theorem dX9_ruleLine_12 : decode cX9_ruleLine 12 = .ok (.aload_n 0, 1) := by decide +kernel
theorem dX9_ruleLine_13 : decode cX9_ruleLine 13 = .ok (.getfield 35, 3) := by decide +kernel
theorem dX9_ruleLine_16 : decode cX9_ruleLine 16 = .ok (.invokevirtual 84, 3) := by decide +kernel
theorem dX9_ruleLine_19 : decode cX9_ruleLine 19 = .ok (.aload_n 0, 1) := by decide +kernel
theorem dX9_ruleLine_20 : decode cX9_ruleLine 20 = .ok (.ldc_w 295, 3) := by decide +kernel
theorem dX9_ruleLine_23 : decode cX9_ruleLine 23 = .ok (.invokevirtual 169, 3) := by decide +kernel
theorem dX9_ruleLine_26 : decode cX9_ruleLine 26 = .ok (.ifCond .ne 5, 3) := by decide +kernel
theorem dX9_ruleLine_29 : decode cX9_ruleLine 29 = .ok (.iconst 0, 1) := by decide +kernel
theorem dX9_ruleLine_30 : decode cX9_ruleLine 30 = .ok (.ireturn, 1) := by decide +kernel
theorem dX9_ruleLine_31 : decode cX9_ruleLine 31 = .ok (.aload_n 0, 1) := by decide +kernel
theorem dX9_ruleLine_32 : decode cX9_ruleLine 32 = .ok (.iconst 3, 1) := by decide +kernel
theorem dX9_ruleLine_33 : decode cX9_ruleLine 33 = .ok (.iconst 1, 1) := by decide +kernel
theorem dX9_ruleLine_34 : decode cX9_ruleLine 34 = .ok (.invokevirtual 297, 3) := by decide +kernel
theorem dX9_ruleLine_37 : decode cX9_ruleLine 37 = .ok (.istore_n 2, 1) := by decide +kernel
theorem dX9_ruleLine_38 : decode cX9_ruleLine 38 = .ok (.iload_n 2, 1) := by decide +kernel
theorem dX9_ruleLine_39 : decode cX9_ruleLine 39 = .ok (.iconst 1, 1) := by decide +kernel
theorem dX9_ruleLine_40 : decode cX9_ruleLine 40 = .ok (.if_icmp .ge 5, 3) := by decide +kernel
theorem dX9_ruleLine_43 : decode cX9_ruleLine 43 = .ok (.iconst 0, 1) := by decide +kernel
theorem dX9_ruleLine_44 : decode cX9_ruleLine 44 = .ok (.ireturn, 1) := by decide +kernel
theorem dX9_ruleLine_45 : decode cX9_ruleLine 45 = .ok (.aload_n 0, 1) := by decide +kernel
theorem dX9_ruleLine_46 : decode cX9_ruleLine 46 = .ok (.getfield 39, 3) := by decide +kernel
theorem dX9_ruleLine_49 : decode cX9_ruleLine 49 = .ok (.getfield 284, 3) := by decide +kernel
theorem dX9_ruleLine_52 : decode cX9_ruleLine 52 = .ok (.iload_n 1, 1) := by decide +kernel
theorem dX9_ruleLine_53 : decode cX9_ruleLine 53 = .ok (.aload_n 0, 1) := by decide +kernel
theorem dX9_ruleLine_54 : decode cX9_ruleLine 54 = .ok (.getfield 25, 3) := by decide +kernel
theorem dX9_ruleLine_57 : decode cX9_ruleLine 57 = .ok (.iload_n 2, 1) := by decide +kernel
theorem dX9_ruleLine_58 : decode cX9_ruleLine 58 = .ok (.invokevirtual 301, 3) := by decide +kernel
theorem dX9_ruleLine_61 : decode cX9_ruleLine 61 = .ok (.iconst 1, 1) := by decide +kernel
theorem dX9_ruleLine_62 : decode cX9_ruleLine 62 = .ok (.ireturn, 1) := by decide +kernel
set_option maxRecDepth 100000 in
set_option maxHeartbeats 4000000 in
theorem mX9_ruleLine {E : goEv} {l : Launch} {G : goG} {N : Nat} {M : goMI} {L : goML} {R : goMR} {r0 : Int32} {r1 : goMI} {r2 : goML} (hk : goKn E) (hW : goW G R) (h : fX9_ruleLine N M L R = some (r0, r1, r2)) : Met l yX9_ruleLine (goCd yX9_ruleLine cX9_ruleLine 3 (Option.some FieldType.boolean)) (goRoom 8 171 0 0) (goPre E [.ref 67] G M L R) (goQi E r0 G r1 r2 R) 0 0 (goSet E) := by
  refine goMet pl_RX9 hk (lv := [some (.ref 67), none, none]) rfl (Nat.le_of_ble_eq_true rfl) ?_
  intro X hc hl hR hr hnm
  subst hl
  unfold fX9_ruleLine at h
  refine go_aload0 hc dX9_ruleLine_0 ?_
  refine go_iconst (v := 3) hc dX9_ruleLine_1 rfl ?_
  replace h := goB2_h h; obtain ⟨x11, M12, e13, h⟩ := h
  refine go_callVi hc dX9_ruleLine_2 (mX9_named hk hW e13) ml_RX9_197 yk_X9_named ⟨wim_X9_named, wse_X9_named⟩ hR rfl (sh_67 hW) rfl rfl rfl (Nat.le_of_ble_eq_true rfl) rfl ?_
  refine go_istore1 hc dX9_ruleLine_5 ?_
  refine go_iload1 hc dX9_ruleLine_6 ?_
  refine go_if_ge hc 12 dX9_ruleLine_7 rfl (fun c14 => ?_) (fun c14 => ?_)
  · replace h := goIfF h c14
    refine go_aload0 hc dX9_ruleLine_12 ?_
    refine go_getR hc lk_RX9_35 dX9_ruleLine_13 (sh_67 hW) (rf_67_0 hW) ?_
    replace h := goB2_h h; obtain ⟨M15, L16, e17, h⟩ := h
    refine go_callVv hc dX9_ruleLine_16 (mX11_advance hk hW e17) ml_RX9_84 yk_X11_advance ⟨wim_X11_advance, wse_X11_advance⟩ hR rfl (sh_1 hW) rfl rfl rfl (Nat.le_of_ble_eq_true rfl) rfl ?_
    refine go_aload0 hc dX9_ruleLine_19 ?_
    refine go_ldcwS hc (i := 9) (q := 1000109) (Nat.le_of_ble_eq_true rfl) rfl rfl rfl dX9_ruleLine_20 ?_
    replace h := goB3_h h; obtain ⟨x18, M19, L20, e21, h⟩ := h
    refine go_callVi hc dX9_ruleLine_23 (mX9_word hk hW e21) ml_RX9_169 yk_X9_word ⟨wim_X9_word, wse_X9_word⟩ hR rfl (sh_67 hW) rfl rfl rfl (Nat.le_of_ble_eq_true rfl) rfl ?_
    refine go_if_ne hc 31 dX9_ruleLine_26 rfl (fun c22 => ?_) (fun c22 => ?_)
    · replace h := goIfF h c22
      refine go_aload0 hc dX9_ruleLine_31 ?_
      refine go_iconst (v := 3) hc dX9_ruleLine_32 rfl ?_
      refine go_iconst (v := 1) hc dX9_ruleLine_33 rfl ?_
      replace h := goB3_h h; obtain ⟨x23, M24, L25, e26, h⟩ := h
      refine go_callVi hc dX9_ruleLine_34 (mX9_factList hk hW e26) ml_RX9_297 yk_X9_factList ⟨wim_X9_factList, wse_X9_factList⟩ hR rfl (sh_67 hW) rfl rfl rfl (Nat.le_of_ble_eq_true rfl) rfl ?_
      refine go_istore2 hc dX9_ruleLine_37 ?_
      refine go_iload2 hc dX9_ruleLine_38 ?_
      refine go_iconst (v := 1) hc dX9_ruleLine_39 rfl ?_
      refine go_icmp_ge hc 45 dX9_ruleLine_40 rfl (fun c27 => ?_) (fun c27 => ?_)
      · replace h := goIfF h c27
        refine go_aload0 hc dX9_ruleLine_45 ?_
        refine go_getR hc lk_RX9_39 dX9_ruleLine_46 (sh_67 hW) (rm_67_7 hW) ?_
        refine go_getR hc lk_RX9_284 dX9_ruleLine_49 (shHill_0 hW (mm_67_7 hW)) (rfHill_16 hW (mm_67_7 hW)) ?_
        refine go_iload1 hc dX9_ruleLine_52 ?_
        refine go_aload0 hc dX9_ruleLine_53 ?_
        refine go_getR hc lk_RX9_25 dX9_ruleLine_54 (sh_67 hW) (rf_67_5 hW) ?_
        refine go_iload2 hc dX9_ruleLine_57 ?_
        replace h := goBind h; obtain ⟨M28, e29, h⟩ := h
        refine go_callVv hc dX9_ruleLine_58 (mX7_addRule hk hW (subLaw (mm_67_7 hW)) (sh_72 hW) e29) ml_RX9_301 yk_X7_addRule ⟨wim_X7_addRule, wse_X7_addRule⟩ hR rfl (shLaw_0 hW (subLaw (mm_67_7 hW))) rfl rfl rfl (Nat.le_of_ble_eq_true rfl) rfl ?_
        refine go_iconst (v := 1) hc dX9_ruleLine_61 rfl ?_
        cases h
        exact go_zret hc dX9_ruleLine_62 hr rfl
      · replace h := goIfT h c27
        refine go_iconst (v := 0) hc dX9_ruleLine_43 rfl ?_
        cases h
        exact go_zret hc dX9_ruleLine_44 hr rfl
    · replace h := goIfT h c22
      refine go_iconst (v := 0) hc dX9_ruleLine_29 rfl ?_
      cases h
      exact go_zret hc dX9_ruleLine_30 hr rfl
  · replace h := goIfT h c14
    refine go_iconst (v := 0) hc dX9_ruleLine_10 rfl ?_
    cases h
    exact go_zret hc dX9_ruleLine_11 hr rfl
theorem dX9_proofLine_0 : decode cX9_proofLine 0 = .ok (.aload_n 0, 1) := by decide +kernel
theorem dX9_proofLine_1 : decode cX9_proofLine 1 = .ok (.bipush 8, 2) := by decide +kernel
theorem dX9_proofLine_3 : decode cX9_proofLine 3 = .ok (.iconst 0, 1) := by decide +kernel
theorem dX9_proofLine_4 : decode cX9_proofLine 4 = .ok (.invokevirtual 297, 3) := by decide +kernel
theorem dX9_proofLine_7 : decode cX9_proofLine 7 = .ok (.istore_n 1, 1) := by decide +kernel
theorem dX9_proofLine_8 : decode cX9_proofLine 8 = .ok (.iload_n 1, 1) := by decide +kernel
theorem dX9_proofLine_9 : decode cX9_proofLine 9 = .ok (.iconst 1, 1) := by decide +kernel
theorem dX9_proofLine_10 : decode cX9_proofLine 10 = .ok (.if_icmp .ge 5, 3) := by decide +kernel
theorem dX9_proofLine_13 : decode cX9_proofLine 13 = .ok (.iconst 0, 1) := by decide +kernel
theorem dX9_proofLine_14 : decode cX9_proofLine 14 = .ok (.ireturn, 1) := by decide +kernel
theorem dX9_proofLine_15 : decode cX9_proofLine 15 = .ok (.aload_n 0, 1) := by decide +kernel
theorem dX9_proofLine_16 : decode cX9_proofLine 16 = .ok (.getfield 39, 3) := by decide +kernel
theorem dX9_proofLine_19 : decode cX9_proofLine 19 = .ok (.getfield 284, 3) := by decide +kernel
theorem dX9_proofLine_22 : decode cX9_proofLine 22 = .ok (.aload_n 0, 1) := by decide +kernel
theorem dX9_proofLine_23 : decode cX9_proofLine 23 = .ok (.getfield 25, 3) := by decide +kernel
theorem dX9_proofLine_26 : decode cX9_proofLine 26 = .ok (.iload_n 1, 1) := by decide +kernel
theorem dX9_proofLine_27 : decode cX9_proofLine 27 = .ok (.invokevirtual 305, 3) := by decide +kernel
theorem dX9_proofLine_30 : decode cX9_proofLine 30 = .ok (.iconst 1, 1) := by decide +kernel
theorem dX9_proofLine_31 : decode cX9_proofLine 31 = .ok (.ireturn, 1) := by decide +kernel
set_option maxRecDepth 100000 in
set_option maxHeartbeats 4000000 in
theorem mX9_proofLine {E : goEv} {l : Launch} {G : goG} {N : Nat} {M : goMI} {L : goML} {R : goMR} {r0 : Int32} {r1 : goMI} {r2 : goML} (hk : goKn E) (hW : goW G R) (h : fX9_proofLine N M L R = some (r0, r1, r2)) : Met l yX9_proofLine (goCd yX9_proofLine cX9_proofLine 2 (Option.some FieldType.boolean)) (goRoom 4 86 0 0) (goPre E [.ref 67] G M L R) (goQi E r0 G r1 r2 R) 0 0 (goSet E) := by
  refine goMet pl_RX9 hk (lv := [some (.ref 67), none]) rfl (Nat.le_of_ble_eq_true rfl) ?_
  intro X hc hl hR hr hnm
  subst hl
  unfold fX9_proofLine at h
  refine go_aload0 hc dX9_proofLine_0 ?_
  refine go_bipush (v := 8) hc dX9_proofLine_1 rfl ?_
  refine go_iconst (v := 0) hc dX9_proofLine_3 rfl ?_
  replace h := goB3_h h; obtain ⟨x11, M12, L13, e14, h⟩ := h
  refine go_callVi hc dX9_proofLine_4 (mX9_factList hk hW e14) ml_RX9_297 yk_X9_factList ⟨wim_X9_factList, wse_X9_factList⟩ hR rfl (sh_67 hW) rfl rfl rfl (Nat.le_of_ble_eq_true rfl) rfl ?_
  refine go_istore1 hc dX9_proofLine_7 ?_
  refine go_iload1 hc dX9_proofLine_8 ?_
  refine go_iconst (v := 1) hc dX9_proofLine_9 rfl ?_
  refine go_icmp_ge hc 15 dX9_proofLine_10 rfl (fun c15 => ?_) (fun c15 => ?_)
  · replace h := goIfF h c15
    refine go_aload0 hc dX9_proofLine_15 ?_
    refine go_getR hc lk_RX9_39 dX9_proofLine_16 (sh_67 hW) (rm_67_7 hW) ?_
    refine go_getR hc lk_RX9_284 dX9_proofLine_19 (shHill_0 hW (mm_67_7 hW)) (rfHill_16 hW (mm_67_7 hW)) ?_
    refine go_aload0 hc dX9_proofLine_22 ?_
    refine go_getR hc lk_RX9_25 dX9_proofLine_23 (sh_67 hW) (rf_67_5 hW) ?_
    refine go_iload1 hc dX9_proofLine_26 ?_
    replace h := goBind h; obtain ⟨M16, e17, h⟩ := h
    refine go_callVv hc dX9_proofLine_27 (mX7_setProof hk hW (subLaw (mm_67_7 hW)) (sh_72 hW) e17) ml_RX9_305 yk_X7_setProof ⟨wim_X7_setProof, wse_X7_setProof⟩ hR rfl (shLaw_0 hW (subLaw (mm_67_7 hW))) rfl rfl rfl (Nat.le_of_ble_eq_true rfl) rfl ?_
    refine go_iconst (v := 1) hc dX9_proofLine_30 rfl ?_
    cases h
    exact go_zret hc dX9_proofLine_31 hr rfl
  · replace h := goIfT h c15
    refine go_iconst (v := 0) hc dX9_proofLine_13 rfl ?_
    cases h
    exact go_zret hc dX9_proofLine_14 hr rfl
theorem dX9_courtLine_0 : decode cX9_courtLine 0 = .ok (.aload_n 0, 1) := by decide +kernel
theorem dX9_courtLine_1 : decode cX9_courtLine 1 = .ok (.getfield 39, 3) := by decide +kernel
theorem dX9_courtLine_4 : decode cX9_courtLine 4 = .ok (.getfield 308, 3) := by decide +kernel
theorem dX9_courtLine_7 : decode cX9_courtLine 7 = .ok (.astore_n 1, 1) := by decide +kernel
theorem dX9_courtLine_8 : decode cX9_courtLine 8 = .ok (.aload_n 1, 1) := by decide +kernel
theorem dX9_courtLine_9 : decode cX9_courtLine 9 = .ok (.getfield 312, 3) := by decide +kernel
theorem dX9_courtLine_12 : decode cX9_courtLine 12 = .ok (.bipush 6, 2) := by decide +kernel
theorem dX9_courtLine_14 : decode cX9_courtLine 14 = .ok (.if_icmp .ge 30, 3) := by decide +kernel
theorem dX9_courtLine_17 : decode cX9_courtLine 17 = .ok (.aload_n 0, 1) := by decide +kernel
theorem dX9_courtLine_18 : decode cX9_courtLine 18 = .ok (.invokevirtual 185, 3) := by decide +kernel
theorem dX9_courtLine_21 : decode cX9_courtLine 21 = .ok (.ifCond .eq 23, 3) := by decide +kernel
theorem dX9_courtLine_24 : decode cX9_courtLine 24 = .ok (.aload_n 0, 1) := by decide +kernel
theorem dX9_courtLine_25 : decode cX9_courtLine 25 = .ok (.ldc_w 315, 3) := by decide +kernel
theorem dX9_courtLine_28 : decode cX9_courtLine 28 = .ok (.invokevirtual 169, 3) := by decide +kernel
theorem dX9_courtLine_31 : decode cX9_courtLine 31 = .ok (.ifCond .eq 13, 3) := by decide +kernel
theorem dX9_courtLine_34 : decode cX9_courtLine 34 = .ok (.aload_n 0, 1) := by decide +kernel
theorem dX9_courtLine_35 : decode cX9_courtLine 35 = .ok (.iconst 0, 1) := by decide +kernel
theorem dX9_courtLine_36 : decode cX9_courtLine 36 = .ok (.bipush 99, 2) := by decide +kernel
theorem dX9_courtLine_38 : decode cX9_courtLine 38 = .ok (.invokevirtual 172, 3) := by decide +kernel
theorem dX9_courtLine_41 : decode cX9_courtLine 41 = .ok (.ifCond .ne 5, 3) := by decide +kernel
theorem dX9_courtLine_44 : decode cX9_courtLine 44 = .ok (.iconst 0, 1) := by decide +kernel
theorem dX9_courtLine_45 : decode cX9_courtLine 45 = .ok (.ireturn, 1) := by decide +kernel
theorem dX9_courtLine_46 : decode cX9_courtLine 46 = .ok (.aload_n 1, 1) := by decide +kernel
theorem dX9_courtLine_47 : decode cX9_courtLine 47 = .ok (.getfield 317, 3) := by decide +kernel
theorem dX9_courtLine_50 : decode cX9_courtLine 50 = .ok (.aload_n 1, 1) := by decide +kernel
theorem dX9_courtLine_51 : decode cX9_courtLine 51 = .ok (.getfield 312, 3) := by decide +kernel
theorem dX9_courtLine_54 : decode cX9_courtLine 54 = .ok (.aload_n 0, 1) := by decide +kernel
theorem dX9_courtLine_55 : decode cX9_courtLine 55 = .ok (.getfield 35, 3) := by decide +kernel
theorem dX9_courtLine_58 : decode cX9_courtLine 58 = .ok (.getfield 176, 3) := by decide +kernel
theorem dX9_courtLine_61 : decode cX9_courtLine 61 = .ok (.iastore, 1) := by decide +kernel
theorem dX9_courtLine_62 : decode cX9_courtLine 62 = .ok (.aload_n 0, 1) := by decide +kernel
theorem dX9_courtLine_63 : decode cX9_courtLine 63 = .ok (.getfield 35, 3) := by decide +kernel
theorem dX9_courtLine_66 : decode cX9_courtLine 66 = .ok (.invokevirtual 84, 3) := by decide +kernel
theorem dX9_courtLine_69 : decode cX9_courtLine 69 = .ok (.aload_n 0, 1) := by decide +kernel
theorem dX9_courtLine_70 : decode cX9_courtLine 70 = .ok (.ldc_w 319, 3) := by decide +kernel
theorem dX9_courtLine_73 : decode cX9_courtLine 73 = .ok (.invokevirtual 169, 3) := by decide +kernel
theorem dX9_courtLine_76 : decode cX9_courtLine 76 = .ok (.ifCond .eq 13, 3) := by decide +kernel
theorem dX9_courtLine_79 : decode cX9_courtLine 79 = .ok (.aload_n 0, 1) := by decide +kernel
theorem dX9_courtLine_80 : decode cX9_courtLine 80 = .ok (.iconst 1, 1) := by decide +kernel
theorem dX9_courtLine_81 : decode cX9_courtLine 81 = .ok (.bipush 9, 2) := by decide +kernel
theorem dX9_courtLine_83 : decode cX9_courtLine 83 = .ok (.invokevirtual 172, 3) := by decide +kernel
theorem dX9_courtLine_86 : decode cX9_courtLine 86 = .ok (.ifCond .ne 5, 3) := by decide +kernel
theorem dX9_courtLine_89 : decode cX9_courtLine 89 = .ok (.iconst 0, 1) := by decide +kernel
theorem dX9_courtLine_90 : decode cX9_courtLine 90 = .ok (.ireturn, 1) := by decide +kernel
theorem dX9_courtLine_91 : decode cX9_courtLine 91 = .ok (.aload_n 1, 1) := by decide +kernel
theorem dX9_courtLine_92 : decode cX9_courtLine 92 = .ok (.getfield 321, 3) := by decide +kernel
theorem dX9_courtLine_95 : decode cX9_courtLine 95 = .ok (.aload_n 1, 1) := by decide +kernel
theorem dX9_courtLine_96 : decode cX9_courtLine 96 = .ok (.getfield 312, 3) := by decide +kernel
theorem dX9_courtLine_99 : decode cX9_courtLine 99 = .ok (.aload_n 0, 1) := by decide +kernel
theorem dX9_courtLine_100 : decode cX9_courtLine 100 = .ok (.getfield 35, 3) := by decide +kernel
theorem dX9_courtLine_103 : decode cX9_courtLine 103 = .ok (.getfield 176, 3) := by decide +kernel
theorem dX9_courtLine_106 : decode cX9_courtLine 106 = .ok (.iastore, 1) := by decide +kernel
theorem dX9_courtLine_107 : decode cX9_courtLine 107 = .ok (.aload_n 0, 1) := by decide +kernel
theorem dX9_courtLine_108 : decode cX9_courtLine 108 = .ok (.getfield 35, 3) := by decide +kernel
theorem dX9_courtLine_111 : decode cX9_courtLine 111 = .ok (.invokevirtual 84, 3) := by decide +kernel
theorem dX9_courtLine_114 : decode cX9_courtLine 114 = .ok (.aload_n 1, 1) := by decide +kernel
theorem dX9_courtLine_115 : decode cX9_courtLine 115 = .ok (.dup, 1) := by decide +kernel
theorem dX9_courtLine_116 : decode cX9_courtLine 116 = .ok (.getfield 312, 3) := by decide +kernel
theorem dX9_courtLine_119 : decode cX9_courtLine 119 = .ok (.iconst 1, 1) := by decide +kernel
theorem dX9_courtLine_120 : decode cX9_courtLine 120 = .ok (.iadd, 1) := by decide +kernel
theorem dX9_courtLine_121 : decode cX9_courtLine 121 = .ok (.putfield 312, 3) := by decide +kernel
theorem dX9_courtLine_124 : decode cX9_courtLine 124 = .ok (.aload_n 0, 1) := by decide +kernel
theorem dX9_courtLine_125 : decode cX9_courtLine 125 = .ok (.iconst 4, 1) := by decide +kernel
theorem dX9_courtLine_126 : decode cX9_courtLine 126 = .ok (.aload_n 1, 1) := by decide +kernel
theorem dX9_courtLine_127 : decode cX9_courtLine 127 = .ok (.getfield 312, 3) := by decide +kernel
theorem dX9_courtLine_130 : decode cX9_courtLine 130 = .ok (.iconst 1, 1) := by decide +kernel
theorem dX9_courtLine_131 : decode cX9_courtLine 131 = .ok (.isub, 1) := by decide +kernel
theorem dX9_courtLine_132 : decode cX9_courtLine 132 = .ok (.invokevirtual 194, 3) := by decide +kernel
theorem dX9_courtLine_135 : decode cX9_courtLine 135 = .ok (.ireturn, 1) := by decide +kernel
set_option maxRecDepth 100000 in
set_option maxHeartbeats 4000000 in
theorem mX9_courtLine {E : goEv} {l : Launch} {G : goG} {N : Nat} {M : goMI} {L : goML} {R : goMR} {r0 : Int32} {r1 : goMI} {r2 : goML} (hk : goKn E) (hW : goW G R) (h : fX9_courtLine N M L R = some (r0, r1, r2)) : Met l yX9_courtLine (goCd yX9_courtLine cX9_courtLine 2 (Option.some FieldType.boolean)) (goRoom 8 171 0 0) (goPre E [.ref 67] G M L R) (goQi E r0 G r1 r2 R) 0 0 (goSet E) := by
  refine goMet pl_RX9 hk (lv := [some (.ref 67), none]) rfl (Nat.le_of_ble_eq_true rfl) ?_
  intro X hc hl hR hr hnm
  subst hl
  unfold fX9_courtLine at h
  refine go_aload0 hc dX9_courtLine_0 ?_
  refine go_getR hc lk_RX9_39 dX9_courtLine_1 (sh_67 hW) (rm_67_7 hW) ?_
  refine go_getR hc lk_RX9_308 dX9_courtLine_4 (shHill_0 hW (mm_67_7 hW)) (rfHill_17 hW (mm_67_7 hW)) ?_
  refine go_astore1 hc dX9_courtLine_7 ?_
  refine go_aload1 hc dX9_courtLine_8 ?_
  refine go_getI hc lk_RX9_312 dX9_courtLine_9 (shCourts_0 hW (subCourts (mm_67_7 hW))) ?_
  refine go_bipush (v := 6) hc dX9_courtLine_12 rfl ?_
  refine go_icmp_ge hc 44 dX9_courtLine_14 rfl (fun c11 => ?_) (fun c11 => ?_)
  · replace h := goIfF h c11
    refine go_iconst (v := 0) hc dX9_courtLine_44 rfl ?_
    cases h
    exact go_zret hc dX9_courtLine_45 hr rfl
  · replace h := goIfT h c11
    refine go_aload0 hc dX9_courtLine_17 ?_
    replace h := goB3_h h; obtain ⟨x12, M13, L14, e15, h⟩ := h
    refine go_callVi hc dX9_courtLine_18 (mX9_freshName hk hW e15) ml_RX9_185 yk_X9_freshName ⟨wim_X9_freshName, wse_X9_freshName⟩ hR rfl (sh_67 hW) rfl rfl rfl (Nat.le_of_ble_eq_true rfl) rfl ?_
    refine go_if_eq hc 44 dX9_courtLine_21 rfl (fun c16 => ?_) (fun c16 => ?_)
    · replace h := goIfT h c16
      refine go_iconst (v := 0) hc dX9_courtLine_44 rfl ?_
      cases h
      exact go_zret hc dX9_courtLine_45 hr rfl
    · replace h := goIfF h c16
      refine go_aload0 hc dX9_courtLine_24 ?_
      refine go_ldcwS hc (i := 10) (q := 1000110) (Nat.le_of_ble_eq_true rfl) rfl rfl rfl dX9_courtLine_25 ?_
      replace h := goB3_h h; obtain ⟨x17, M18, L19, e20, h⟩ := h
      refine go_callVi hc dX9_courtLine_28 (mX9_word hk hW e20) ml_RX9_169 yk_X9_word ⟨wim_X9_word, wse_X9_word⟩ hR rfl (sh_67 hW) rfl rfl rfl (Nat.le_of_ble_eq_true rfl) rfl ?_
      refine go_if_eq hc 44 dX9_courtLine_31 rfl (fun c21 => ?_) (fun c21 => ?_)
      · replace h := goIfT h c21
        refine go_iconst (v := 0) hc dX9_courtLine_44 rfl ?_
        cases h
        exact go_zret hc dX9_courtLine_45 hr rfl
      · replace h := goIfF h c21
        refine go_aload0 hc dX9_courtLine_34 ?_
        refine go_iconst (v := 0) hc dX9_courtLine_35 rfl ?_
        refine go_bipush (v := 99) hc dX9_courtLine_36 rfl ?_
        replace h := goB2_h h; obtain ⟨x22, M23, e24, h⟩ := h
        refine go_callVi hc dX9_courtLine_38 (mX9_wholeIn hk hW e24) ml_RX9_172 yk_X9_wholeIn ⟨wim_X9_wholeIn, wse_X9_wholeIn⟩ hR rfl (sh_67 hW) rfl rfl rfl (Nat.le_of_ble_eq_true rfl) rfl ?_
        refine go_if_ne hc 46 dX9_courtLine_41 rfl (fun c25 => ?_) (fun c25 => ?_)
        · replace h := goIfF h c25
          refine go_aload1 hc dX9_courtLine_46 ?_
          refine go_getR hc lk_RX9_317 dX9_courtLine_47 (shCourts_0 hW (subCourts (mm_67_7 hW))) (rfCourts_1 hW (subCourts (mm_67_7 hW))) ?_
          refine go_aload1 hc dX9_courtLine_50 ?_
          refine go_getI hc lk_RX9_312 dX9_courtLine_51 (shCourts_0 hW (subCourts (mm_67_7 hW))) ?_
          refine go_aload0 hc dX9_courtLine_54 ?_
          refine go_getR hc lk_RX9_35 dX9_courtLine_55 (sh_67 hW) (rf_67_0 hW) ?_
          refine go_getI hc lk_RX9_176 dX9_courtLine_58 (sh_1 hW) ?_
          replace h := goBind h; obtain ⟨M26, e27, h⟩ := h
          refine go_iast hc dX9_courtLine_61 (shCourts_1 hW (subCourts (mm_67_7 hW))) e27 ?_
          refine go_aload0 hc dX9_courtLine_62 ?_
          refine go_getR hc lk_RX9_35 dX9_courtLine_63 (sh_67 hW) (rf_67_0 hW) ?_
          replace h := goB2_h h; obtain ⟨M28, L29, e30, h⟩ := h
          refine go_callVv hc dX9_courtLine_66 (mX11_advance hk hW e30) ml_RX9_84 yk_X11_advance ⟨wim_X11_advance, wse_X11_advance⟩ hR rfl (sh_1 hW) rfl rfl rfl (Nat.le_of_ble_eq_true rfl) rfl ?_
          refine go_aload0 hc dX9_courtLine_69 ?_
          refine go_ldcwS hc (i := 11) (q := 1000111) (Nat.le_of_ble_eq_true rfl) rfl rfl rfl dX9_courtLine_70 ?_
          replace h := goB3_h h; obtain ⟨x31, M32, L33, e34, h⟩ := h
          refine go_callVi hc dX9_courtLine_73 (mX9_word hk hW e34) ml_RX9_169 yk_X9_word ⟨wim_X9_word, wse_X9_word⟩ hR rfl (sh_67 hW) rfl rfl rfl (Nat.le_of_ble_eq_true rfl) rfl ?_
          refine go_if_eq hc 89 dX9_courtLine_76 rfl (fun c35 => ?_) (fun c35 => ?_)
          · replace h := goIfT h c35
            refine go_iconst (v := 0) hc dX9_courtLine_89 rfl ?_
            cases h
            exact go_zret hc dX9_courtLine_90 hr rfl
          · replace h := goIfF h c35
            refine go_aload0 hc dX9_courtLine_79 ?_
            refine go_iconst (v := 1) hc dX9_courtLine_80 rfl ?_
            refine go_bipush (v := 9) hc dX9_courtLine_81 rfl ?_
            replace h := goB2_h h; obtain ⟨x36, M37, e38, h⟩ := h
            refine go_callVi hc dX9_courtLine_83 (mX9_wholeIn hk hW e38) ml_RX9_172 yk_X9_wholeIn ⟨wim_X9_wholeIn, wse_X9_wholeIn⟩ hR rfl (sh_67 hW) rfl rfl rfl (Nat.le_of_ble_eq_true rfl) rfl ?_
            refine go_if_ne hc 91 dX9_courtLine_86 rfl (fun c39 => ?_) (fun c39 => ?_)
            · replace h := goIfF h c39
              refine go_aload1 hc dX9_courtLine_91 ?_
              refine go_getR hc lk_RX9_321 dX9_courtLine_92 (shCourts_0 hW (subCourts (mm_67_7 hW))) (rfCourts_2 hW (subCourts (mm_67_7 hW))) ?_
              refine go_aload1 hc dX9_courtLine_95 ?_
              refine go_getI hc lk_RX9_312 dX9_courtLine_96 (shCourts_0 hW (subCourts (mm_67_7 hW))) ?_
              refine go_aload0 hc dX9_courtLine_99 ?_
              refine go_getR hc lk_RX9_35 dX9_courtLine_100 (sh_67 hW) (rf_67_0 hW) ?_
              refine go_getI hc lk_RX9_176 dX9_courtLine_103 (sh_1 hW) ?_
              replace h := goBind h; obtain ⟨M40, e41, h⟩ := h
              refine go_iast hc dX9_courtLine_106 (shCourts_2 hW (subCourts (mm_67_7 hW))) e41 ?_
              refine go_aload0 hc dX9_courtLine_107 ?_
              refine go_getR hc lk_RX9_35 dX9_courtLine_108 (sh_67 hW) (rf_67_0 hW) ?_
              replace h := goB2_h h; obtain ⟨M42, L43, e44, h⟩ := h
              refine go_callVv hc dX9_courtLine_111 (mX11_advance hk hW e44) ml_RX9_84 yk_X11_advance ⟨wim_X11_advance, wse_X11_advance⟩ hR rfl (sh_1 hW) rfl rfl rfl (Nat.le_of_ble_eq_true rfl) rfl ?_
              refine go_aload1 hc dX9_courtLine_114 ?_
              refine go_dupr hc dX9_courtLine_115 ?_
              refine go_getI hc lk_RX9_312 dX9_courtLine_116 (shCourts_0 hW (subCourts (mm_67_7 hW))) ?_
              refine go_iconst (v := 1) hc dX9_courtLine_119 rfl ?_
              refine go_iadd hc dX9_courtLine_120 ?_
              replace h := goNm_x h; obtain ⟨M45, e46, h⟩ := h
              refine go_ptI hc lk_RX9_312 dX9_courtLine_121 (shCourts_0 hW (subCourts (mm_67_7 hW))) e46 ?_
              refine go_aload0 hc dX9_courtLine_124 ?_
              refine go_iconst (v := 4) hc dX9_courtLine_125 rfl ?_
              refine go_aload1 hc dX9_courtLine_126 ?_
              refine go_getI hc lk_RX9_312 dX9_courtLine_127 (shCourts_0 hW (subCourts (mm_67_7 hW))) ?_
              refine go_iconst (v := 1) hc dX9_courtLine_130 rfl ?_
              refine go_isub hc dX9_courtLine_131 ?_
              replace h := goB3_h h; obtain ⟨x47, M48, L49, e50, h⟩ := h
              refine go_callVi hc dX9_courtLine_132 (mX9_tell hk hW e50) ml_RX9_194 yk_X9_tell ⟨wim_X9_tell, wse_X9_tell⟩ hR rfl (sh_67 hW) rfl rfl rfl (Nat.le_of_ble_eq_true rfl) rfl ?_
              replace h := goBind h; obtain ⟨x51, e52, h⟩ := h
              obtain ⟨ze52, rfl⟩ := goZr_h e52
              cases h
              exact go_zret hc dX9_courtLine_135 hr (goZ_n ze52)
            · replace h := goIfT h c39
              refine go_iconst (v := 0) hc dX9_courtLine_89 rfl ?_
              cases h
              exact go_zret hc dX9_courtLine_90 hr rfl
        · replace h := goIfT h c25
          refine go_iconst (v := 0) hc dX9_courtLine_44 rfl ?_
          cases h
          exact go_zret hc dX9_courtLine_45 hr rfl
theorem dX9_cheeseLine_0 : decode cX9_cheeseLine 0 = .ok (.iconst 0, 1) := by decide +kernel
theorem dX9_cheeseLine_1 : decode cX9_cheeseLine 1 = .ok (.istore_n 1, 1) := by decide +kernel
theorem dX9_cheeseLine_2 : decode cX9_cheeseLine 2 = .ok (.iload_n 1, 1) := by decide +kernel
theorem dX9_cheeseLine_3 : decode cX9_cheeseLine 3 = .ok (.aload_n 0, 1) := by decide +kernel
theorem dX9_cheeseLine_4 : decode cX9_cheeseLine 4 = .ok (.getfield 39, 3) := by decide +kernel
theorem dX9_cheeseLine_7 : decode cX9_cheeseLine 7 = .ok (.getfield 183, 3) := by decide +kernel
theorem dX9_cheeseLine_10 : decode cX9_cheeseLine 10 = .ok (.if_icmp .ge 44, 3) := by decide +kernel
theorem dX9_cheeseLine_13 : decode cX9_cheeseLine 13 = .ok (.aload_n 0, 1) := by decide +kernel
theorem dX9_cheeseLine_14 : decode cX9_cheeseLine 14 = .ok (.iload_n 1, 1) := by decide +kernel
theorem dX9_cheeseLine_15 : decode cX9_cheeseLine 15 = .ok (.bipush 99, 2) := by decide +kernel
theorem dX9_cheeseLine_17 : decode cX9_cheeseLine 17 = .ok (.invokevirtual 188, 3) := by decide +kernel
theorem dX9_cheeseLine_20 : decode cX9_cheeseLine 20 = .ok (.ifCond .ne 5, 3) := by decide +kernel
theorem dX9_cheeseLine_23 : decode cX9_cheeseLine 23 = .ok (.iconst 0, 1) := by decide +kernel
theorem dX9_cheeseLine_24 : decode cX9_cheeseLine 24 = .ok (.ireturn, 1) := by decide +kernel
theorem dX9_cheeseLine_25 : decode cX9_cheeseLine 25 = .ok (.aload_n 0, 1) := by decide +kernel
theorem dX9_cheeseLine_26 : decode cX9_cheeseLine 26 = .ok (.getfield 39, 3) := by decide +kernel
theorem dX9_cheeseLine_29 : decode cX9_cheeseLine 29 = .ok (.getfield 323, 3) := by decide +kernel
theorem dX9_cheeseLine_32 : decode cX9_cheeseLine 32 = .ok (.iload_n 1, 1) := by decide +kernel
theorem dX9_cheeseLine_33 : decode cX9_cheeseLine 33 = .ok (.aload_n 0, 1) := by decide +kernel
theorem dX9_cheeseLine_34 : decode cX9_cheeseLine 34 = .ok (.getfield 35, 3) := by decide +kernel
theorem dX9_cheeseLine_37 : decode cX9_cheeseLine 37 = .ok (.getfield 176, 3) := by decide +kernel
theorem dX9_cheeseLine_40 : decode cX9_cheeseLine 40 = .ok (.iastore, 1) := by decide +kernel
theorem dX9_cheeseLine_41 : decode cX9_cheeseLine 41 = .ok (.aload_n 0, 1) := by decide +kernel
theorem dX9_cheeseLine_42 : decode cX9_cheeseLine 42 = .ok (.getfield 35, 3) := by decide +kernel
theorem dX9_cheeseLine_45 : decode cX9_cheeseLine 45 = .ok (.invokevirtual 84, 3) := by decide +kernel
theorem dX9_cheeseLine_48 : decode cX9_cheeseLine 48 = .ok (.iinc 1 1, 3) := by decide +kernel
theorem dX9_cheeseLine_51 : decode cX9_cheeseLine 51 = .ok (.goto (-49), 3) := by decide +kernel
theorem dX9_cheeseLine_54 : decode cX9_cheeseLine 54 = .ok (.aload_n 0, 1) := by decide +kernel
theorem dX9_cheeseLine_55 : decode cX9_cheeseLine 55 = .ok (.getfield 39, 3) := by decide +kernel
theorem dX9_cheeseLine_58 : decode cX9_cheeseLine 58 = .ok (.iconst 1, 1) := by decide +kernel
theorem dX9_cheeseLine_59 : decode cX9_cheeseLine 59 = .ok (.putfield 326, 3) := by decide +kernel
theorem dX9_cheeseLine_62 : decode cX9_cheeseLine 62 = .ok (.iconst 1, 1) := by decide +kernel
theorem dX9_cheeseLine_63 : decode cX9_cheeseLine 63 = .ok (.ireturn, 1) := by decide +kernel
set_option maxRecDepth 100000 in
set_option maxHeartbeats 4000000 in
theorem mX9_cheeseLine_L2 {E : goEv} {X : goX} {G : goG} {R : goMR} {N : Nat} {r0 : Int32} {r1 : goMI} {r2 : goML} (hc : goCx E X cX9_cheeseLine RX9 2) (hk : goKn E) (hR : X.2.2.2.1 = goRoom 4 83 0 0) (hr : X.2.2.2.2.2.2.2.2.1.sig.returnType = (Option.some FieldType.boolean)) (hW : goW G R) : ∀ (n : Nat) (v1 : Int32) (M : goMI) (L : goML), lX9_cheeseLine_2 N R n v1 M L = some (r0, r1, r2) → goA E X G 0 0 (goMQ X E (goQi E r0 G r1 r2 R) 0 0) 2 [some (.ref 67), some (.int v1)] [] M L R := by
  intro n
  induction n with
  | zero => intro v1 M L h; exact nomatch h
  | succ n ih =>
    intro v1 M L h
    rw [lX9_cheeseLine_2] at h
    refine go_iload1 hc dX9_cheeseLine_2 ?_
    refine go_aload0 hc dX9_cheeseLine_3 ?_
    refine go_getR hc lk_RX9_39 dX9_cheeseLine_4 (sh_67 hW) (rm_67_7 hW) ?_
    refine go_getI hc lk_RX9_183 dX9_cheeseLine_7 (shHill_0 hW (mm_67_7 hW)) ?_
    refine go_icmp_ge hc 54 dX9_cheeseLine_10 rfl (fun c11 => ?_) (fun c11 => ?_)
    · replace h := goIfF h c11
      refine go_aload0 hc dX9_cheeseLine_54 ?_
      refine go_getR hc lk_RX9_39 dX9_cheeseLine_55 (sh_67 hW) (rm_67_7 hW) ?_
      refine go_iconst (v := 1) hc dX9_cheeseLine_58 rfl ?_
      replace h := goNm_x h; obtain ⟨M12, e13, h⟩ := h
      refine go_ptZ hc lk_RX9_326 dX9_cheeseLine_59 (shHill_0 hW (mm_67_7 hW)) (Or.inr rfl) e13 ?_
      refine go_iconst (v := 1) hc dX9_cheeseLine_62 rfl ?_
      cases h
      exact go_zret hc dX9_cheeseLine_63 hr rfl
    · replace h := goIfT h c11
      refine go_aload0 hc dX9_cheeseLine_13 ?_
      refine go_iload1 hc dX9_cheeseLine_14 ?_
      refine go_bipush (v := 99) hc dX9_cheeseLine_15 rfl ?_
      replace h := goB3_h h; obtain ⟨x14, M15, L16, e17, h⟩ := h
      refine go_callVi hc dX9_cheeseLine_17 (mX9_partIn hk hW e17) ml_RX9_188 yk_X9_partIn ⟨wim_X9_partIn, wse_X9_partIn⟩ hR rfl (sh_67 hW) rfl rfl rfl (Nat.le_of_ble_eq_true rfl) rfl ?_
      refine go_if_ne hc 25 dX9_cheeseLine_20 rfl (fun c18 => ?_) (fun c18 => ?_)
      · replace h := goIfF h c18
        refine go_aload0 hc dX9_cheeseLine_25 ?_
        refine go_getR hc lk_RX9_39 dX9_cheeseLine_26 (sh_67 hW) (rm_67_7 hW) ?_
        refine go_getR hc lk_RX9_323 dX9_cheeseLine_29 (shHill_0 hW (mm_67_7 hW)) (rfHill_14 hW (mm_67_7 hW)) ?_
        refine go_iload1 hc dX9_cheeseLine_32 ?_
        refine go_aload0 hc dX9_cheeseLine_33 ?_
        refine go_getR hc lk_RX9_35 dX9_cheeseLine_34 (sh_67 hW) (rf_67_0 hW) ?_
        refine go_getI hc lk_RX9_176 dX9_cheeseLine_37 (sh_1 hW) ?_
        replace h := goBind h; obtain ⟨M19, e20, h⟩ := h
        refine go_iast hc dX9_cheeseLine_40 (shHill_8 hW (mm_67_7 hW)) e20 ?_
        refine go_aload0 hc dX9_cheeseLine_41 ?_
        refine go_getR hc lk_RX9_35 dX9_cheeseLine_42 (sh_67 hW) (rf_67_0 hW) ?_
        replace h := goB2_h h; obtain ⟨M21, L22, e23, h⟩ := h
        refine go_callVv hc dX9_cheeseLine_45 (mX11_advance hk hW e23) ml_RX9_84 yk_X11_advance ⟨wim_X11_advance, wse_X11_advance⟩ hR rfl (sh_1 hW) rfl rfl rfl (Nat.le_of_ble_eq_true rfl) rfl ?_
        refine go_iinc1 (v := (v1 + 1)) hc dX9_cheeseLine_48 rfl ?_
        refine go_goto hc 2 dX9_cheeseLine_51 rfl ?_
        exact ih _ _ _ h
      · replace h := goIfT h c18
        refine go_iconst (v := 0) hc dX9_cheeseLine_23 rfl ?_
        cases h
        exact go_zret hc dX9_cheeseLine_24 hr rfl
set_option maxRecDepth 100000 in
set_option maxHeartbeats 4000000 in
theorem mX9_cheeseLine {E : goEv} {l : Launch} {G : goG} {N : Nat} {M : goMI} {L : goML} {R : goMR} {r0 : Int32} {r1 : goMI} {r2 : goML} (hk : goKn E) (hW : goW G R) (h : fX9_cheeseLine N M L R = some (r0, r1, r2)) : Met l yX9_cheeseLine (goCd yX9_cheeseLine cX9_cheeseLine 2 (Option.some FieldType.boolean)) (goRoom 4 83 0 0) (goPre E [.ref 67] G M L R) (goQi E r0 G r1 r2 R) 0 0 (goSet E) := by
  refine goMet pl_RX9 hk (lv := [some (.ref 67), none]) rfl (Nat.le_of_ble_eq_true rfl) ?_
  intro X hc hl hR hr hnm
  subst hl
  unfold fX9_cheeseLine at h
  refine go_iconst (v := 0) hc dX9_cheeseLine_0 rfl ?_
  refine go_istore1 hc dX9_cheeseLine_1 ?_
  exact mX9_cheeseLine_L2 hc hk hR hr hW _ _ _ _ h
theorem dX9_line_0 : decode cX9_line 0 = .ok (.aload_n 0, 1) := by decide +kernel
theorem dX9_line_1 : decode cX9_line 1 = .ok (.invokevirtual 97, 3) := by decide +kernel
theorem dX9_line_4 : decode cX9_line 4 = .ok (.astore_n 1, 1) := by decide +kernel
theorem dX9_line_5 : decode cX9_line 5 = .ok (.aload_n 1, 1) := by decide +kernel
theorem dX9_line_6 : decode cX9_line 6 = .ok (.getfield 101, 3) := by decide +kernel
theorem dX9_line_9 : decode cX9_line 9 = .ok (.ifCond .ne 9, 3) := by decide +kernel
theorem dX9_line_12 : decode cX9_line 12 = .ok (.aload_n 0, 1) := by decide +kernel
theorem dX9_line_13 : decode cX9_line 13 = .ok (.iconst 1, 1) := by decide +kernel
theorem dX9_line_14 : decode cX9_line 14 = .ok (.invokevirtual 87, 3) := by decide +kernel
theorem dX9_line_17 : decode cX9_line 17 = .ok (.ireturn, 1) := by decide +kernel
theorem dX9_line_18 : decode cX9_line 18 = .ok (.aload_n 1, 1) := by decide +kernel
theorem dX9_line_19 : decode cX9_line 19 = .ok (.getstatic 104, 3) := by decide +kernel
theorem dX9_line_22 : decode cX9_line 22 = .ok (.if_acmp .eq 24, 3) := by decide +kernel
theorem dX9_line_25 : decode cX9_line 25 = .ok (.aload_n 0, 1) := by decide +kernel
theorem dX9_line_26 : decode cX9_line 26 = .ok (.getfield 22, 3) := by decide +kernel
theorem dX9_line_29 : decode cX9_line 29 = .ok (.getstatic 104, 3) := by decide +kernel
theorem dX9_line_32 : decode cX9_line 32 = .ok (.getfield 108, 3) := by decide +kernel
theorem dX9_line_35 : decode cX9_line 35 = .ok (.iaload, 1) := by decide +kernel
theorem dX9_line_36 : decode cX9_line 36 = .ok (.ifCond .ne 10, 3) := by decide +kernel
theorem dX9_line_39 : decode cX9_line 39 = .ok (.aload_n 0, 1) := by decide +kernel
theorem dX9_line_40 : decode cX9_line 40 = .ok (.bipush 6, 2) := by decide +kernel
theorem dX9_line_42 : decode cX9_line 42 = .ok (.invokevirtual 87, 3) := by decide +kernel
theorem dX9_line_45 : decode cX9_line 45 = .ok (.ireturn, 1) := by decide +kernel
theorem dX9_line_46 : decode cX9_line 46 = .ok (.aload_n 0, 1) := by decide +kernel
theorem dX9_line_47 : decode cX9_line 47 = .ok (.getfield 22, 3) := by decide +kernel
theorem dX9_line_50 : decode cX9_line 50 = .ok (.aload_n 1, 1) := by decide +kernel
theorem dX9_line_51 : decode cX9_line 51 = .ok (.getfield 108, 3) := by decide +kernel
theorem dX9_line_54 : decode cX9_line 54 = .ok (.iaload, 1) := by decide +kernel
theorem dX9_line_55 : decode cX9_line 55 = .ok (.aload_n 1, 1) := by decide +kernel
theorem dX9_line_56 : decode cX9_line 56 = .ok (.getfield 101, 3) := by decide +kernel
theorem dX9_line_59 : decode cX9_line 59 = .ok (.if_icmp .lt 21, 3) := by decide +kernel
theorem dX9_line_62 : decode cX9_line 62 = .ok (.aload_n 0, 1) := by decide +kernel
theorem dX9_line_63 : decode cX9_line 63 = .ok (.aload_n 1, 1) := by decide +kernel
theorem dX9_line_64 : decode cX9_line 64 = .ok (.getfield 101, 3) := by decide +kernel
theorem dX9_line_67 : decode cX9_line 67 = .ok (.iconst 1, 1) := by decide +kernel
theorem dX9_line_68 : decode cX9_line 68 = .ok (.if_icmp .ne 7, 3) := by decide +kernel
theorem dX9_line_71 : decode cX9_line 71 = .ok (.iconst 3, 1) := by decide +kernel
theorem dX9_line_72 : decode cX9_line 72 = .ok (.goto 4, 3) := by decide +kernel
theorem dX9_line_75 : decode cX9_line 75 = .ok (.iconst 5, 1) := by decide +kernel
theorem dX9_line_76 : decode cX9_line 76 = .ok (.invokevirtual 87, 3) := by decide +kernel
theorem dX9_line_79 : decode cX9_line 79 = .ok (.ireturn, 1) := by decide +kernel
theorem dX9_line_80 : decode cX9_line 80 = .ok (.aload_n 0, 1) := by decide +kernel
theorem dX9_line_81 : decode cX9_line 81 = .ok (.getfield 22, 3) := by decide +kernel
theorem dX9_line_84 : decode cX9_line 84 = .ok (.aload_n 1, 1) := by decide +kernel
theorem dX9_line_85 : decode cX9_line 85 = .ok (.getfield 108, 3) := by decide +kernel
theorem dX9_line_88 : decode cX9_line 88 = .ok (.dup2, 1) := by decide +kernel
theorem dX9_line_89 : decode cX9_line 89 = .ok (.iaload, 1) := by decide +kernel
theorem dX9_line_90 : decode cX9_line 90 = .ok (.iconst 1, 1) := by decide +kernel
theorem dX9_line_91 : decode cX9_line 91 = .ok (.iadd, 1) := by decide +kernel
theorem dX9_line_92 : decode cX9_line 92 = .ok (.iastore, 1) := by decide +kernel
theorem dX9_line_93 : decode cX9_line 93 = .ok (.aload_n 0, 1) := by decide +kernel
theorem dX9_line_94 : decode cX9_line 94 = .ok (.getfield 35, 3) := by decide +kernel
theorem dX9_line_97 : decode cX9_line 97 = .ok (.invokevirtual 84, 3) := by decide +kernel
theorem dX9_line_100 : decode cX9_line 100 = .ok (.getstatic 111, 3) := by decide +kernel
theorem dX9_line_103 : decode cX9_line 103 = .ok (.aload_n 1, 1) := by decide +kernel
theorem dX9_line_104 : decode cX9_line 104 = .ok (.invokevirtual 116, 3) := by decide +kernel
theorem dX9_line_107 : decode cX9_line 107 = .ok (.iaload, 1) := by decide +kernel
theorem dX9_line_108 : decode cX9_line 108 = .ok (.tableswitch 153 1 15 #[76, 81, 86, 91, 96, 101, 106, 111, 116, 122, 128, 133, 138, 143, 148], 76) := by decide +kernel
theorem dX9_line_184 : decode cX9_line 184 = .ok (.aload_n 0, 1) := by decide +kernel
theorem dX9_line_185 : decode cX9_line 185 = .ok (.invokevirtual 120, 3) := by decide +kernel
theorem dX9_line_188 : decode cX9_line 188 = .ok (.ireturn, 1) := by decide +kernel
theorem dX9_line_189 : decode cX9_line 189 = .ok (.aload_n 0, 1) := by decide +kernel
theorem dX9_line_190 : decode cX9_line 190 = .ok (.invokevirtual 123, 3) := by decide +kernel
theorem dX9_line_193 : decode cX9_line 193 = .ok (.ireturn, 1) := by decide +kernel
theorem dX9_line_194 : decode cX9_line 194 = .ok (.aload_n 0, 1) := by decide +kernel
theorem dX9_line_195 : decode cX9_line 195 = .ok (.invokevirtual 126, 3) := by decide +kernel
theorem dX9_line_198 : decode cX9_line 198 = .ok (.ireturn, 1) := by decide +kernel
theorem dX9_line_199 : decode cX9_line 199 = .ok (.aload_n 0, 1) := by decide +kernel
theorem dX9_line_200 : decode cX9_line 200 = .ok (.invokevirtual 129, 3) := by decide +kernel
theorem dX9_line_203 : decode cX9_line 203 = .ok (.ireturn, 1) := by decide +kernel
theorem dX9_line_204 : decode cX9_line 204 = .ok (.aload_n 0, 1) := by decide +kernel
theorem dX9_line_205 : decode cX9_line 205 = .ok (.invokevirtual 132, 3) := by decide +kernel
theorem dX9_line_208 : decode cX9_line 208 = .ok (.ireturn, 1) := by decide +kernel
theorem dX9_line_209 : decode cX9_line 209 = .ok (.aload_n 0, 1) := by decide +kernel
theorem dX9_line_210 : decode cX9_line 210 = .ok (.invokevirtual 135, 3) := by decide +kernel
theorem dX9_line_213 : decode cX9_line 213 = .ok (.ireturn, 1) := by decide +kernel
theorem dX9_line_214 : decode cX9_line 214 = .ok (.aload_n 0, 1) := by decide +kernel
theorem dX9_line_215 : decode cX9_line 215 = .ok (.invokevirtual 138, 3) := by decide +kernel
theorem dX9_line_218 : decode cX9_line 218 = .ok (.ireturn, 1) := by decide +kernel
theorem dX9_line_219 : decode cX9_line 219 = .ok (.aload_n 0, 1) := by decide +kernel
theorem dX9_line_220 : decode cX9_line 220 = .ok (.invokevirtual 141, 3) := by decide +kernel
theorem dX9_line_223 : decode cX9_line 223 = .ok (.ireturn, 1) := by decide +kernel
theorem dX9_line_224 : decode cX9_line 224 = .ok (.aload_n 0, 1) := by decide +kernel
theorem dX9_line_225 : decode cX9_line 225 = .ok (.iconst 1, 1) := by decide +kernel
theorem dX9_line_226 : decode cX9_line 226 = .ok (.invokevirtual 146, 3) := by decide +kernel
theorem dX9_line_229 : decode cX9_line 229 = .ok (.ireturn, 1) := by decide +kernel
theorem dX9_line_230 : decode cX9_line 230 = .ok (.aload_n 0, 1) := by decide +kernel
theorem dX9_line_231 : decode cX9_line 231 = .ok (.iconst 2, 1) := by decide +kernel
theorem dX9_line_232 : decode cX9_line 232 = .ok (.invokevirtual 146, 3) := by decide +kernel
theorem dX9_line_235 : decode cX9_line 235 = .ok (.ireturn, 1) := by decide +kernel
theorem dX9_line_236 : decode cX9_line 236 = .ok (.aload_n 0, 1) := by decide +kernel
theorem dX9_line_237 : decode cX9_line 237 = .ok (.invokevirtual 149, 3) := by decide +kernel
theorem dX9_line_240 : decode cX9_line 240 = .ok (.ireturn, 1) := by decide +kernel
theorem dX9_line_241 : decode cX9_line 241 = .ok (.aload_n 0, 1) := by decide +kernel
theorem dX9_line_242 : decode cX9_line 242 = .ok (.invokevirtual 152, 3) := by decide +kernel
theorem dX9_line_245 : decode cX9_line 245 = .ok (.ireturn, 1) := by decide +kernel
theorem dX9_line_246 : decode cX9_line 246 = .ok (.aload_n 0, 1) := by decide +kernel
theorem dX9_line_247 : decode cX9_line 247 = .ok (.invokevirtual 155, 3) := by decide +kernel
theorem dX9_line_250 : decode cX9_line 250 = .ok (.ireturn, 1) := by decide +kernel
theorem dX9_line_251 : decode cX9_line 251 = .ok (.aload_n 0, 1) := by decide +kernel
theorem dX9_line_252 : decode cX9_line 252 = .ok (.invokevirtual 158, 3) := by decide +kernel
theorem dX9_line_255 : decode cX9_line 255 = .ok (.ireturn, 1) := by decide +kernel
theorem dX9_line_256 : decode cX9_line 256 = .ok (.aload_n 0, 1) := by decide +kernel
theorem dX9_line_257 : decode cX9_line 257 = .ok (.invokevirtual 161, 3) := by decide +kernel
theorem dX9_line_260 : decode cX9_line 260 = .ok (.ireturn, 1) := by decide +kernel
theorem dX9_line_261 : decode cX9_line 261 = .ok (.aload_n 0, 1) := by decide +kernel
theorem dX9_line_262 : decode cX9_line 262 = .ok (.invokevirtual 164, 3) := by decide +kernel
theorem dX9_line_265 : decode cX9_line 265 = .ok (.ireturn, 1) := by decide +kernel
set_option maxRecDepth 100000 in
set_option maxHeartbeats 4000000 in
theorem mX9_line {E : goEv} {l : Launch} {G : goG} {N : Nat} {M : goMI} {L : goML} {R : goMR} {r0 : Int32} {r1 : goMI} {r2 : goML} (hk : goKn E) (hW : goW G R) (h : fX9_line N M L R = some (r0, r1, r2)) : Met l yX9_line (goCd yX9_line cX9_line 2 (Option.some FieldType.boolean)) (goRoom 9 194 0 0) (goPre E [.ref 67] G M L R) (goQi E r0 G r1 r2 R) 0 0 (goSet E) := by
  refine goMet pl_RX9 hk (lv := [some (.ref 67), none]) rfl (Nat.le_of_ble_eq_true rfl) ?_
  intro X hc hl hR hr hnm
  subst hl
  unfold fX9_line at h
  refine go_aload0 hc dX9_line_0 ?_
  replace h := goBind h; obtain ⟨x11, e12, h⟩ := h
  refine go_callVr hc dX9_line_1 (mX9_reservedHere hk hW e12) ml_RX9_97 yk_X9_reservedHere ⟨wim_X9_reservedHere, wse_X9_reservedHere⟩ hR rfl (sh_67 hW) rfl rfl rfl (Nat.le_of_ble_eq_true rfl) rfl ?_
  refine go_astore1 hc dX9_line_4 ?_
  refine go_aload1 hc dX9_line_5 ?_
  replace h := goBind h; obtain ⟨x13, e14, h⟩ := h
  refine go_en_room hc dX9_line_6 wfl_RX9_101 e14 ?_
  refine go_if_ne hc 18 dX9_line_9 rfl (fun c15 => ?_) (fun c15 => ?_)
  · replace h := goIfF h c15
    refine go_aload1 hc dX9_line_18 ?_
    refine go_getsE_HILL hc dX9_line_19 ?_
    replace h := goBind h; obtain ⟨_, e17, h⟩ := h
    refine go_acmp_eq hc 46 dX9_line_22 rfl e17 (v := ()) rfl (fun c16 => ?_) (fun c16 => ?_)
    · replace h := goIfT h c16
      refine go_aload0 hc dX9_line_46 ?_
      refine go_getR hc lk_RX9_22 dX9_line_47 (sh_67 hW) (rf_67_4 hW) ?_
      refine go_aload1 hc dX9_line_50 ?_
      replace h := goBind h; obtain ⟨x18, e19, h⟩ := h
      refine go_en_group hc dX9_line_51 wfl_RX9_108 e19 ?_
      replace h := goBind h; obtain ⟨x20, e21, h⟩ := h
      refine go_iald hc dX9_line_54 (sh_71 hW) e21 ?_
      refine go_aload1 hc dX9_line_55 ?_
      replace h := goBind h; obtain ⟨x22, e23, h⟩ := h
      refine go_en_room hc dX9_line_56 wfl_RX9_101 e23 ?_
      refine go_icmp_lt hc 80 dX9_line_59 rfl (fun c24 => ?_) (fun c24 => ?_)
      · replace h := goIfF h c24
        refine go_aload0 hc dX9_line_80 ?_
        refine go_getR hc lk_RX9_22 dX9_line_81 (sh_67 hW) (rf_67_4 hW) ?_
        refine go_aload1 hc dX9_line_84 ?_
        replace h := goBind h; obtain ⟨x25, e26, h⟩ := h
        refine go_en_group hc dX9_line_85 wfl_RX9_108 e26 ?_
        refine go_dup2 hc dX9_line_88 ?_
        replace h := goBind h; obtain ⟨x27, e28, h⟩ := h
        refine go_iald hc dX9_line_89 (sh_71 hW) e28 ?_
        refine go_iconst (v := 1) hc dX9_line_90 rfl ?_
        refine go_iadd hc dX9_line_91 ?_
        replace h := goBind h; obtain ⟨M29, e30, h⟩ := h
        refine go_iast hc dX9_line_92 (sh_71 hW) e30 ?_
        refine go_aload0 hc dX9_line_93 ?_
        refine go_getR hc lk_RX9_35 dX9_line_94 (sh_67 hW) (rf_67_0 hW) ?_
        replace h := goB2_h h; obtain ⟨M31, L32, e33, h⟩ := h
        refine go_callVv hc dX9_line_97 (mX11_advance hk hW e33) ml_RX9_84 yk_X11_advance ⟨wim_X11_advance, wse_X11_advance⟩ hR rfl (sh_1 hW) rfl rfl rfl (Nat.le_of_ble_eq_true rfl) rfl ?_
        refine go_getsSM hc dX9_line_100 ?_
        refine go_aload1 hc dX9_line_103 ?_
        replace h := goBind h; obtain ⟨x34, e35, h⟩ := h
        refine go_ord hk hc dX9_line_104 hR rfl rfl (Nat.le_of_ble_eq_true rfl) e35 ?_
        replace h := goBind h; obtain ⟨x36, e37, h⟩ := h
        refine go_smLd hc dX9_line_107 e37 ?_
        by_cases c39 : x36 = 1
        · replace h := goIfT h c39
          refine go_tabIn hc 184 dX9_line_108 (v := 1) c39 (by decide) (by decide) rfl rfl ?_
          refine go_aload0 hc dX9_line_184 ?_
          replace h := goB3_h h; obtain ⟨x40, M41, L42, e43, h⟩ := h
          refine go_callVi hc dX9_line_185 (mX9_hillLine hk hW e43) ml_RX9_120 yk_X9_hillLine ⟨wim_X9_hillLine, wse_X9_hillLine⟩ hR rfl (sh_67 hW) rfl rfl rfl (Nat.le_of_ble_eq_true rfl) rfl ?_
          replace h := goBind h; obtain ⟨x44, e45, h⟩ := h
          obtain ⟨ze45, rfl⟩ := goZr_h e45
          cases h
          exact go_zret hc dX9_line_188 hr (goZ_n ze45)
        · replace h := goIfF h c39
          by_cases c46 : x36 = 2
          · replace h := goIfT h c46
            refine go_tabIn hc 189 dX9_line_108 (v := 2) c46 (by decide) (by decide) rfl rfl ?_
            refine go_aload0 hc dX9_line_189 ?_
            replace h := goB3_h h; obtain ⟨x47, M48, L49, e50, h⟩ := h
            refine go_callVi hc dX9_line_190 (mX9_placeLine hk hW e50) ml_RX9_123 yk_X9_placeLine ⟨wim_X9_placeLine, wse_X9_placeLine⟩ hR rfl (sh_67 hW) rfl rfl rfl (Nat.le_of_ble_eq_true rfl) rfl ?_
            replace h := goBind h; obtain ⟨x51, e52, h⟩ := h
            obtain ⟨ze52, rfl⟩ := goZr_h e52
            cases h
            exact go_zret hc dX9_line_193 hr (goZ_n ze52)
          · replace h := goIfF h c46
            by_cases c53 : x36 = 3
            · replace h := goIfT h c53
              refine go_tabIn hc 194 dX9_line_108 (v := 3) c53 (by decide) (by decide) rfl rfl ?_
              refine go_aload0 hc dX9_line_194 ?_
              replace h := goB3_h h; obtain ⟨x54, M55, L56, e57, h⟩ := h
              refine go_callVi hc dX9_line_195 (mX9_pathLine hk hW e57) ml_RX9_126 yk_X9_pathLine ⟨wim_X9_pathLine, wse_X9_pathLine⟩ hR rfl (sh_67 hW) rfl rfl rfl (Nat.le_of_ble_eq_true rfl) rfl ?_
              replace h := goBind h; obtain ⟨x58, e59, h⟩ := h
              obtain ⟨ze59, rfl⟩ := goZr_h e59
              cases h
              exact go_zret hc dX9_line_198 hr (goZ_n ze59)
            · replace h := goIfF h c53
              by_cases c60 : x36 = 4
              · replace h := goIfT h c60
                refine go_tabIn hc 199 dX9_line_108 (v := 4) c60 (by decide) (by decide) rfl rfl ?_
                refine go_aload0 hc dX9_line_199 ?_
                replace h := goB3_h h; obtain ⟨x61, M62, L63, e64, h⟩ := h
                refine go_callVi hc dX9_line_200 (mX9_personLine hk hW e64) ml_RX9_129 yk_X9_personLine ⟨wim_X9_personLine, wse_X9_personLine⟩ hR rfl (sh_67 hW) rfl rfl rfl (Nat.le_of_ble_eq_true rfl) rfl ?_
                replace h := goBind h; obtain ⟨x65, e66, h⟩ := h
                obtain ⟨ze66, rfl⟩ := goZr_h e66
                cases h
                exact go_zret hc dX9_line_203 hr (goZ_n ze66)
              · replace h := goIfF h c60
                by_cases c67 : x36 = 5
                · replace h := goIfT h c67
                  refine go_tabIn hc 204 dX9_line_108 (v := 5) c67 (by decide) (by decide) rfl rfl ?_
                  refine go_aload0 hc dX9_line_204 ?_
                  replace h := goB3_h h; obtain ⟨x68, M69, L70, e71, h⟩ := h
                  refine go_callVi hc dX9_line_205 (mX9_storyLine hk hW e71) ml_RX9_132 yk_X9_storyLine ⟨wim_X9_storyLine, wse_X9_storyLine⟩ hR rfl (sh_67 hW) rfl rfl rfl (Nat.le_of_ble_eq_true rfl) rfl ?_
                  replace h := goBind h; obtain ⟨x72, e73, h⟩ := h
                  obtain ⟨ze73, rfl⟩ := goZr_h e73
                  cases h
                  exact go_zret hc dX9_line_208 hr (goZ_n ze73)
                · replace h := goIfF h c67
                  by_cases c74 : x36 = 6
                  · replace h := goIfT h c74
                    refine go_tabIn hc 209 dX9_line_108 (v := 6) c74 (by decide) (by decide) rfl rfl ?_
                    refine go_aload0 hc dX9_line_209 ?_
                    replace h := goB3_h h; obtain ⟨x75, M76, L77, e78, h⟩ := h
                    refine go_callVi hc dX9_line_210 (mX9_goatLine hk hW e78) ml_RX9_135 yk_X9_goatLine ⟨wim_X9_goatLine, wse_X9_goatLine⟩ hR rfl (sh_67 hW) rfl rfl rfl (Nat.le_of_ble_eq_true rfl) rfl ?_
                    replace h := goBind h; obtain ⟨x79, e80, h⟩ := h
                    obtain ⟨ze80, rfl⟩ := goZr_h e80
                    cases h
                    exact go_zret hc dX9_line_213 hr (goZ_n ze80)
                  · replace h := goIfF h c74
                    by_cases c81 : x36 = 7
                    · replace h := goIfT h c81
                      refine go_tabIn hc 214 dX9_line_108 (v := 7) c81 (by decide) (by decide) rfl rfl ?_
                      refine go_aload0 hc dX9_line_214 ?_
                      replace h := goB3_h h; obtain ⟨x82, M83, L84, e85, h⟩ := h
                      refine go_callVi hc dX9_line_215 (mX9_fearLine hk hW e85) ml_RX9_138 yk_X9_fearLine ⟨wim_X9_fearLine, wse_X9_fearLine⟩ hR rfl (sh_67 hW) rfl rfl rfl (Nat.le_of_ble_eq_true rfl) rfl ?_
                      replace h := goBind h; obtain ⟨x86, e87, h⟩ := h
                      obtain ⟨ze87, rfl⟩ := goZr_h e87
                      cases h
                      exact go_zret hc dX9_line_218 hr (goZ_n ze87)
                    · replace h := goIfF h c81
                      by_cases c88 : x36 = 8
                      · replace h := goIfT h c88
                        refine go_tabIn hc 219 dX9_line_108 (v := 8) c88 (by decide) (by decide) rfl rfl ?_
                        refine go_aload0 hc dX9_line_219 ?_
                        replace h := goB3_h h; obtain ⟨x89, M90, L91, e92, h⟩ := h
                        refine go_callVi hc dX9_line_220 (mX9_foundLine hk hW e92) ml_RX9_141 yk_X9_foundLine ⟨wim_X9_foundLine, wse_X9_foundLine⟩ hR rfl (sh_67 hW) rfl rfl rfl (Nat.le_of_ble_eq_true rfl) rfl ?_
                        replace h := goBind h; obtain ⟨x93, e94, h⟩ := h
                        obtain ⟨ze94, rfl⟩ := goZr_h e94
                        cases h
                        exact go_zret hc dX9_line_223 hr (goZ_n ze94)
                      · replace h := goIfF h c88
                        by_cases c95 : x36 = 9
                        · replace h := goIfT h c95
                          refine go_tabIn hc 224 dX9_line_108 (v := 9) c95 (by decide) (by decide) rfl rfl ?_
                          refine go_aload0 hc dX9_line_224 ?_
                          refine go_iconst (v := 1) hc dX9_line_225 rfl ?_
                          replace h := goB3_h h; obtain ⟨x96, M97, L98, e99, h⟩ := h
                          refine go_callVi hc dX9_line_226 (mX9_seenLine hk hW e99) ml_RX9_146 yk_X9_seenLine ⟨wim_X9_seenLine, wse_X9_seenLine⟩ hR rfl (sh_67 hW) rfl rfl rfl (Nat.le_of_ble_eq_true rfl) rfl ?_
                          replace h := goBind h; obtain ⟨x100, e101, h⟩ := h
                          obtain ⟨ze101, rfl⟩ := goZr_h e101
                          cases h
                          exact go_zret hc dX9_line_229 hr (goZ_n ze101)
                        · replace h := goIfF h c95
                          by_cases c102 : x36 = 10
                          · replace h := goIfT h c102
                            refine go_tabIn hc 230 dX9_line_108 (v := 10) c102 (by decide) (by decide) rfl rfl ?_
                            refine go_aload0 hc dX9_line_230 ?_
                            refine go_iconst (v := 2) hc dX9_line_231 rfl ?_
                            replace h := goB3_h h; obtain ⟨x103, M104, L105, e106, h⟩ := h
                            refine go_callVi hc dX9_line_232 (mX9_seenLine hk hW e106) ml_RX9_146 yk_X9_seenLine ⟨wim_X9_seenLine, wse_X9_seenLine⟩ hR rfl (sh_67 hW) rfl rfl rfl (Nat.le_of_ble_eq_true rfl) rfl ?_
                            replace h := goBind h; obtain ⟨x107, e108, h⟩ := h
                            obtain ⟨ze108, rfl⟩ := goZr_h e108
                            cases h
                            exact go_zret hc dX9_line_235 hr (goZ_n ze108)
                          · replace h := goIfF h c102
                            by_cases c109 : x36 = 11
                            · replace h := goIfT h c109
                              refine go_tabIn hc 236 dX9_line_108 (v := 11) c109 (by decide) (by decide) rfl rfl ?_
                              refine go_aload0 hc dX9_line_236 ?_
                              replace h := goB3_h h; obtain ⟨x110, M111, L112, e113, h⟩ := h
                              refine go_callVi hc dX9_line_237 (mX9_factLine hk hW e113) ml_RX9_149 yk_X9_factLine ⟨wim_X9_factLine, wse_X9_factLine⟩ hR rfl (sh_67 hW) rfl rfl rfl (Nat.le_of_ble_eq_true rfl) rfl ?_
                              replace h := goBind h; obtain ⟨x114, e115, h⟩ := h
                              obtain ⟨ze115, rfl⟩ := goZr_h e115
                              cases h
                              exact go_zret hc dX9_line_240 hr (goZ_n ze115)
                            · replace h := goIfF h c109
                              by_cases c116 : x36 = 12
                              · replace h := goIfT h c116
                                refine go_tabIn hc 241 dX9_line_108 (v := 12) c116 (by decide) (by decide) rfl rfl ?_
                                refine go_aload0 hc dX9_line_241 ?_
                                replace h := goB3_h h; obtain ⟨x117, M118, L119, e120, h⟩ := h
                                refine go_callVi hc dX9_line_242 (mX9_holdsLine hk hW e120) ml_RX9_152 yk_X9_holdsLine ⟨wim_X9_holdsLine, wse_X9_holdsLine⟩ hR rfl (sh_67 hW) rfl rfl rfl (Nat.le_of_ble_eq_true rfl) rfl ?_
                                replace h := goBind h; obtain ⟨x121, e122, h⟩ := h
                                obtain ⟨ze122, rfl⟩ := goZr_h e122
                                cases h
                                exact go_zret hc dX9_line_245 hr (goZ_n ze122)
                              · replace h := goIfF h c116
                                by_cases c123 : x36 = 13
                                · replace h := goIfT h c123
                                  refine go_tabIn hc 246 dX9_line_108 (v := 13) c123 (by decide) (by decide) rfl rfl ?_
                                  refine go_aload0 hc dX9_line_246 ?_
                                  replace h := goB3_h h; obtain ⟨x124, M125, L126, e127, h⟩ := h
                                  refine go_callVi hc dX9_line_247 (mX9_ruleLine hk hW e127) ml_RX9_155 yk_X9_ruleLine ⟨wim_X9_ruleLine, wse_X9_ruleLine⟩ hR rfl (sh_67 hW) rfl rfl rfl (Nat.le_of_ble_eq_true rfl) rfl ?_
                                  replace h := goBind h; obtain ⟨x128, e129, h⟩ := h
                                  obtain ⟨ze129, rfl⟩ := goZr_h e129
                                  cases h
                                  exact go_zret hc dX9_line_250 hr (goZ_n ze129)
                                · replace h := goIfF h c123
                                  by_cases c130 : x36 = 14
                                  · replace h := goIfT h c130
                                    refine go_tabIn hc 251 dX9_line_108 (v := 14) c130 (by decide) (by decide) rfl rfl ?_
                                    refine go_aload0 hc dX9_line_251 ?_
                                    replace h := goB3_h h; obtain ⟨x131, M132, L133, e134, h⟩ := h
                                    refine go_callVi hc dX9_line_252 (mX9_proofLine hk hW e134) ml_RX9_158 yk_X9_proofLine ⟨wim_X9_proofLine, wse_X9_proofLine⟩ hR rfl (sh_67 hW) rfl rfl rfl (Nat.le_of_ble_eq_true rfl) rfl ?_
                                    replace h := goBind h; obtain ⟨x135, e136, h⟩ := h
                                    obtain ⟨ze136, rfl⟩ := goZr_h e136
                                    cases h
                                    exact go_zret hc dX9_line_255 hr (goZ_n ze136)
                                  · replace h := goIfF h c130
                                    by_cases c137 : x36 = 15
                                    · replace h := goIfT h c137
                                      refine go_tabIn hc 256 dX9_line_108 (v := 15) c137 (by decide) (by decide) rfl rfl ?_
                                      refine go_aload0 hc dX9_line_256 ?_
                                      replace h := goB3_h h; obtain ⟨x138, M139, L140, e141, h⟩ := h
                                      refine go_callVi hc dX9_line_257 (mX9_courtLine hk hW e141) ml_RX9_161 yk_X9_courtLine ⟨wim_X9_courtLine, wse_X9_courtLine⟩ hR rfl (sh_67 hW) rfl rfl rfl (Nat.le_of_ble_eq_true rfl) rfl ?_
                                      replace h := goBind h; obtain ⟨x142, e143, h⟩ := h
                                      obtain ⟨ze143, rfl⟩ := goZr_h e143
                                      cases h
                                      exact go_zret hc dX9_line_260 hr (goZ_n ze143)
                                    · replace h := goIfF h c137
                                      refine go_tabOut hc 261 dX9_line_108 (goTp15 c39 c46 c53 c60 c67 c74 c81 c88 c95 c102 c109 c116 c123 c130 c137) rfl ?_
                                      refine go_aload0 hc dX9_line_261 ?_
                                      replace h := goB3_h h; obtain ⟨x144, M145, L146, e147, h⟩ := h
                                      refine go_callVi hc dX9_line_262 (mX9_cheeseLine hk hW e147) ml_RX9_164 yk_X9_cheeseLine ⟨wim_X9_cheeseLine, wse_X9_cheeseLine⟩ hR rfl (sh_67 hW) rfl rfl rfl (Nat.le_of_ble_eq_true rfl) rfl ?_
                                      replace h := goBind h; obtain ⟨x148, e149, h⟩ := h
                                      obtain ⟨ze149, rfl⟩ := goZr_h e149
                                      cases h
                                      exact go_zret hc dX9_line_265 hr (goZ_n ze149)
      · replace h := goIfT h c24
        refine go_aload0 hc dX9_line_62 ?_
        refine go_aload1 hc dX9_line_63 ?_
        replace h := goBind h; obtain ⟨x150, e151, h⟩ := h
        refine go_en_room hc dX9_line_64 wfl_RX9_101 e151 ?_
        refine go_iconst (v := 1) hc dX9_line_67 rfl ?_
        replace h := goNm_y h; obtain ⟨x152, e153, h⟩ := h
        have k154 : ∀ (d0 d1 : Option Value), goA E X G 0 0 (goMQ X E (goQi E r0 G r1 r2 R) 0 0) 76 [d0, d1] [.int x152, .ref 67] M L R := by
          intro d0 d1
          replace h := goB2_h h; obtain ⟨x156, M157, e158, h⟩ := h
          refine go_callVi hc dX9_line_76 (mX9_fail hk hW e158) ml_RX9_87 yk_X9_fail ⟨wim_X9_fail, wse_X9_fail⟩ hR rfl (sh_67 hW) rfl rfl rfl (Nat.le_of_ble_eq_true rfl) rfl ?_
          replace h := goBind h; obtain ⟨x159, e160, h⟩ := h
          obtain ⟨ze160, rfl⟩ := goZr_h e160
          cases h
          exact go_zret hc dX9_line_79 hr (goZ_n ze160)
        refine go_icmp_ne hc 75 dX9_line_68 rfl (fun c155 => ?_) (fun c155 => ?_)
        · replace e153 := goIfF e153 c155
          refine go_iconst (v := 5) hc dX9_line_75 rfl ?_
          subst e153
          exact k154 _ _
        · replace e153 := goIfT e153 c155
          refine go_iconst (v := 3) hc dX9_line_71 rfl ?_
          refine go_goto hc 76 dX9_line_72 rfl ?_
          subst e153
          exact k154 _ _
    · replace h := goIfF h c16
      refine go_aload0 hc dX9_line_25 ?_
      refine go_getR hc lk_RX9_22 dX9_line_26 (sh_67 hW) (rf_67_4 hW) ?_
      refine go_getsE_HILL hc dX9_line_29 ?_
      replace h := goBind h; obtain ⟨x161, e162, h⟩ := h
      refine go_en_group hc dX9_line_32 wfl_RX9_108 e162 ?_
      replace h := goBind h; obtain ⟨x163, e164, h⟩ := h
      refine go_iald hc dX9_line_35 (sh_71 hW) e164 ?_
      refine go_if_ne hc 46 dX9_line_36 rfl (fun c165 => ?_) (fun c165 => ?_)
      · replace h := goIfF h c165
        refine go_aload0 hc dX9_line_46 ?_
        refine go_getR hc lk_RX9_22 dX9_line_47 (sh_67 hW) (rf_67_4 hW) ?_
        refine go_aload1 hc dX9_line_50 ?_
        replace h := goBind h; obtain ⟨x166, e167, h⟩ := h
        refine go_en_group hc dX9_line_51 wfl_RX9_108 e167 ?_
        replace h := goBind h; obtain ⟨x168, e169, h⟩ := h
        refine go_iald hc dX9_line_54 (sh_71 hW) e169 ?_
        refine go_aload1 hc dX9_line_55 ?_
        replace h := goBind h; obtain ⟨x170, e171, h⟩ := h
        refine go_en_room hc dX9_line_56 wfl_RX9_101 e171 ?_
        refine go_icmp_lt hc 80 dX9_line_59 rfl (fun c172 => ?_) (fun c172 => ?_)
        · replace h := goIfF h c172
          refine go_aload0 hc dX9_line_80 ?_
          refine go_getR hc lk_RX9_22 dX9_line_81 (sh_67 hW) (rf_67_4 hW) ?_
          refine go_aload1 hc dX9_line_84 ?_
          replace h := goBind h; obtain ⟨x173, e174, h⟩ := h
          refine go_en_group hc dX9_line_85 wfl_RX9_108 e174 ?_
          refine go_dup2 hc dX9_line_88 ?_
          replace h := goBind h; obtain ⟨x175, e176, h⟩ := h
          refine go_iald hc dX9_line_89 (sh_71 hW) e176 ?_
          refine go_iconst (v := 1) hc dX9_line_90 rfl ?_
          refine go_iadd hc dX9_line_91 ?_
          replace h := goBind h; obtain ⟨M177, e178, h⟩ := h
          refine go_iast hc dX9_line_92 (sh_71 hW) e178 ?_
          refine go_aload0 hc dX9_line_93 ?_
          refine go_getR hc lk_RX9_35 dX9_line_94 (sh_67 hW) (rf_67_0 hW) ?_
          replace h := goB2_h h; obtain ⟨M179, L180, e181, h⟩ := h
          refine go_callVv hc dX9_line_97 (mX11_advance hk hW e181) ml_RX9_84 yk_X11_advance ⟨wim_X11_advance, wse_X11_advance⟩ hR rfl (sh_1 hW) rfl rfl rfl (Nat.le_of_ble_eq_true rfl) rfl ?_
          refine go_getsSM hc dX9_line_100 ?_
          refine go_aload1 hc dX9_line_103 ?_
          replace h := goBind h; obtain ⟨x182, e183, h⟩ := h
          refine go_ord hk hc dX9_line_104 hR rfl rfl (Nat.le_of_ble_eq_true rfl) e183 ?_
          replace h := goBind h; obtain ⟨x184, e185, h⟩ := h
          refine go_smLd hc dX9_line_107 e185 ?_
          by_cases c187 : x184 = 1
          · replace h := goIfT h c187
            refine go_tabIn hc 184 dX9_line_108 (v := 1) c187 (by decide) (by decide) rfl rfl ?_
            refine go_aload0 hc dX9_line_184 ?_
            replace h := goB3_h h; obtain ⟨x188, M189, L190, e191, h⟩ := h
            refine go_callVi hc dX9_line_185 (mX9_hillLine hk hW e191) ml_RX9_120 yk_X9_hillLine ⟨wim_X9_hillLine, wse_X9_hillLine⟩ hR rfl (sh_67 hW) rfl rfl rfl (Nat.le_of_ble_eq_true rfl) rfl ?_
            replace h := goBind h; obtain ⟨x192, e193, h⟩ := h
            obtain ⟨ze193, rfl⟩ := goZr_h e193
            cases h
            exact go_zret hc dX9_line_188 hr (goZ_n ze193)
          · replace h := goIfF h c187
            by_cases c194 : x184 = 2
            · replace h := goIfT h c194
              refine go_tabIn hc 189 dX9_line_108 (v := 2) c194 (by decide) (by decide) rfl rfl ?_
              refine go_aload0 hc dX9_line_189 ?_
              replace h := goB3_h h; obtain ⟨x195, M196, L197, e198, h⟩ := h
              refine go_callVi hc dX9_line_190 (mX9_placeLine hk hW e198) ml_RX9_123 yk_X9_placeLine ⟨wim_X9_placeLine, wse_X9_placeLine⟩ hR rfl (sh_67 hW) rfl rfl rfl (Nat.le_of_ble_eq_true rfl) rfl ?_
              replace h := goBind h; obtain ⟨x199, e200, h⟩ := h
              obtain ⟨ze200, rfl⟩ := goZr_h e200
              cases h
              exact go_zret hc dX9_line_193 hr (goZ_n ze200)
            · replace h := goIfF h c194
              by_cases c201 : x184 = 3
              · replace h := goIfT h c201
                refine go_tabIn hc 194 dX9_line_108 (v := 3) c201 (by decide) (by decide) rfl rfl ?_
                refine go_aload0 hc dX9_line_194 ?_
                replace h := goB3_h h; obtain ⟨x202, M203, L204, e205, h⟩ := h
                refine go_callVi hc dX9_line_195 (mX9_pathLine hk hW e205) ml_RX9_126 yk_X9_pathLine ⟨wim_X9_pathLine, wse_X9_pathLine⟩ hR rfl (sh_67 hW) rfl rfl rfl (Nat.le_of_ble_eq_true rfl) rfl ?_
                replace h := goBind h; obtain ⟨x206, e207, h⟩ := h
                obtain ⟨ze207, rfl⟩ := goZr_h e207
                cases h
                exact go_zret hc dX9_line_198 hr (goZ_n ze207)
              · replace h := goIfF h c201
                by_cases c208 : x184 = 4
                · replace h := goIfT h c208
                  refine go_tabIn hc 199 dX9_line_108 (v := 4) c208 (by decide) (by decide) rfl rfl ?_
                  refine go_aload0 hc dX9_line_199 ?_
                  replace h := goB3_h h; obtain ⟨x209, M210, L211, e212, h⟩ := h
                  refine go_callVi hc dX9_line_200 (mX9_personLine hk hW e212) ml_RX9_129 yk_X9_personLine ⟨wim_X9_personLine, wse_X9_personLine⟩ hR rfl (sh_67 hW) rfl rfl rfl (Nat.le_of_ble_eq_true rfl) rfl ?_
                  replace h := goBind h; obtain ⟨x213, e214, h⟩ := h
                  obtain ⟨ze214, rfl⟩ := goZr_h e214
                  cases h
                  exact go_zret hc dX9_line_203 hr (goZ_n ze214)
                · replace h := goIfF h c208
                  by_cases c215 : x184 = 5
                  · replace h := goIfT h c215
                    refine go_tabIn hc 204 dX9_line_108 (v := 5) c215 (by decide) (by decide) rfl rfl ?_
                    refine go_aload0 hc dX9_line_204 ?_
                    replace h := goB3_h h; obtain ⟨x216, M217, L218, e219, h⟩ := h
                    refine go_callVi hc dX9_line_205 (mX9_storyLine hk hW e219) ml_RX9_132 yk_X9_storyLine ⟨wim_X9_storyLine, wse_X9_storyLine⟩ hR rfl (sh_67 hW) rfl rfl rfl (Nat.le_of_ble_eq_true rfl) rfl ?_
                    replace h := goBind h; obtain ⟨x220, e221, h⟩ := h
                    obtain ⟨ze221, rfl⟩ := goZr_h e221
                    cases h
                    exact go_zret hc dX9_line_208 hr (goZ_n ze221)
                  · replace h := goIfF h c215
                    by_cases c222 : x184 = 6
                    · replace h := goIfT h c222
                      refine go_tabIn hc 209 dX9_line_108 (v := 6) c222 (by decide) (by decide) rfl rfl ?_
                      refine go_aload0 hc dX9_line_209 ?_
                      replace h := goB3_h h; obtain ⟨x223, M224, L225, e226, h⟩ := h
                      refine go_callVi hc dX9_line_210 (mX9_goatLine hk hW e226) ml_RX9_135 yk_X9_goatLine ⟨wim_X9_goatLine, wse_X9_goatLine⟩ hR rfl (sh_67 hW) rfl rfl rfl (Nat.le_of_ble_eq_true rfl) rfl ?_
                      replace h := goBind h; obtain ⟨x227, e228, h⟩ := h
                      obtain ⟨ze228, rfl⟩ := goZr_h e228
                      cases h
                      exact go_zret hc dX9_line_213 hr (goZ_n ze228)
                    · replace h := goIfF h c222
                      by_cases c229 : x184 = 7
                      · replace h := goIfT h c229
                        refine go_tabIn hc 214 dX9_line_108 (v := 7) c229 (by decide) (by decide) rfl rfl ?_
                        refine go_aload0 hc dX9_line_214 ?_
                        replace h := goB3_h h; obtain ⟨x230, M231, L232, e233, h⟩ := h
                        refine go_callVi hc dX9_line_215 (mX9_fearLine hk hW e233) ml_RX9_138 yk_X9_fearLine ⟨wim_X9_fearLine, wse_X9_fearLine⟩ hR rfl (sh_67 hW) rfl rfl rfl (Nat.le_of_ble_eq_true rfl) rfl ?_
                        replace h := goBind h; obtain ⟨x234, e235, h⟩ := h
                        obtain ⟨ze235, rfl⟩ := goZr_h e235
                        cases h
                        exact go_zret hc dX9_line_218 hr (goZ_n ze235)
                      · replace h := goIfF h c229
                        by_cases c236 : x184 = 8
                        · replace h := goIfT h c236
                          refine go_tabIn hc 219 dX9_line_108 (v := 8) c236 (by decide) (by decide) rfl rfl ?_
                          refine go_aload0 hc dX9_line_219 ?_
                          replace h := goB3_h h; obtain ⟨x237, M238, L239, e240, h⟩ := h
                          refine go_callVi hc dX9_line_220 (mX9_foundLine hk hW e240) ml_RX9_141 yk_X9_foundLine ⟨wim_X9_foundLine, wse_X9_foundLine⟩ hR rfl (sh_67 hW) rfl rfl rfl (Nat.le_of_ble_eq_true rfl) rfl ?_
                          replace h := goBind h; obtain ⟨x241, e242, h⟩ := h
                          obtain ⟨ze242, rfl⟩ := goZr_h e242
                          cases h
                          exact go_zret hc dX9_line_223 hr (goZ_n ze242)
                        · replace h := goIfF h c236
                          by_cases c243 : x184 = 9
                          · replace h := goIfT h c243
                            refine go_tabIn hc 224 dX9_line_108 (v := 9) c243 (by decide) (by decide) rfl rfl ?_
                            refine go_aload0 hc dX9_line_224 ?_
                            refine go_iconst (v := 1) hc dX9_line_225 rfl ?_
                            replace h := goB3_h h; obtain ⟨x244, M245, L246, e247, h⟩ := h
                            refine go_callVi hc dX9_line_226 (mX9_seenLine hk hW e247) ml_RX9_146 yk_X9_seenLine ⟨wim_X9_seenLine, wse_X9_seenLine⟩ hR rfl (sh_67 hW) rfl rfl rfl (Nat.le_of_ble_eq_true rfl) rfl ?_
                            replace h := goBind h; obtain ⟨x248, e249, h⟩ := h
                            obtain ⟨ze249, rfl⟩ := goZr_h e249
                            cases h
                            exact go_zret hc dX9_line_229 hr (goZ_n ze249)
                          · replace h := goIfF h c243
                            by_cases c250 : x184 = 10
                            · replace h := goIfT h c250
                              refine go_tabIn hc 230 dX9_line_108 (v := 10) c250 (by decide) (by decide) rfl rfl ?_
                              refine go_aload0 hc dX9_line_230 ?_
                              refine go_iconst (v := 2) hc dX9_line_231 rfl ?_
                              replace h := goB3_h h; obtain ⟨x251, M252, L253, e254, h⟩ := h
                              refine go_callVi hc dX9_line_232 (mX9_seenLine hk hW e254) ml_RX9_146 yk_X9_seenLine ⟨wim_X9_seenLine, wse_X9_seenLine⟩ hR rfl (sh_67 hW) rfl rfl rfl (Nat.le_of_ble_eq_true rfl) rfl ?_
                              replace h := goBind h; obtain ⟨x255, e256, h⟩ := h
                              obtain ⟨ze256, rfl⟩ := goZr_h e256
                              cases h
                              exact go_zret hc dX9_line_235 hr (goZ_n ze256)
                            · replace h := goIfF h c250
                              by_cases c257 : x184 = 11
                              · replace h := goIfT h c257
                                refine go_tabIn hc 236 dX9_line_108 (v := 11) c257 (by decide) (by decide) rfl rfl ?_
                                refine go_aload0 hc dX9_line_236 ?_
                                replace h := goB3_h h; obtain ⟨x258, M259, L260, e261, h⟩ := h
                                refine go_callVi hc dX9_line_237 (mX9_factLine hk hW e261) ml_RX9_149 yk_X9_factLine ⟨wim_X9_factLine, wse_X9_factLine⟩ hR rfl (sh_67 hW) rfl rfl rfl (Nat.le_of_ble_eq_true rfl) rfl ?_
                                replace h := goBind h; obtain ⟨x262, e263, h⟩ := h
                                obtain ⟨ze263, rfl⟩ := goZr_h e263
                                cases h
                                exact go_zret hc dX9_line_240 hr (goZ_n ze263)
                              · replace h := goIfF h c257
                                by_cases c264 : x184 = 12
                                · replace h := goIfT h c264
                                  refine go_tabIn hc 241 dX9_line_108 (v := 12) c264 (by decide) (by decide) rfl rfl ?_
                                  refine go_aload0 hc dX9_line_241 ?_
                                  replace h := goB3_h h; obtain ⟨x265, M266, L267, e268, h⟩ := h
                                  refine go_callVi hc dX9_line_242 (mX9_holdsLine hk hW e268) ml_RX9_152 yk_X9_holdsLine ⟨wim_X9_holdsLine, wse_X9_holdsLine⟩ hR rfl (sh_67 hW) rfl rfl rfl (Nat.le_of_ble_eq_true rfl) rfl ?_
                                  replace h := goBind h; obtain ⟨x269, e270, h⟩ := h
                                  obtain ⟨ze270, rfl⟩ := goZr_h e270
                                  cases h
                                  exact go_zret hc dX9_line_245 hr (goZ_n ze270)
                                · replace h := goIfF h c264
                                  by_cases c271 : x184 = 13
                                  · replace h := goIfT h c271
                                    refine go_tabIn hc 246 dX9_line_108 (v := 13) c271 (by decide) (by decide) rfl rfl ?_
                                    refine go_aload0 hc dX9_line_246 ?_
                                    replace h := goB3_h h; obtain ⟨x272, M273, L274, e275, h⟩ := h
                                    refine go_callVi hc dX9_line_247 (mX9_ruleLine hk hW e275) ml_RX9_155 yk_X9_ruleLine ⟨wim_X9_ruleLine, wse_X9_ruleLine⟩ hR rfl (sh_67 hW) rfl rfl rfl (Nat.le_of_ble_eq_true rfl) rfl ?_
                                    replace h := goBind h; obtain ⟨x276, e277, h⟩ := h
                                    obtain ⟨ze277, rfl⟩ := goZr_h e277
                                    cases h
                                    exact go_zret hc dX9_line_250 hr (goZ_n ze277)
                                  · replace h := goIfF h c271
                                    by_cases c278 : x184 = 14
                                    · replace h := goIfT h c278
                                      refine go_tabIn hc 251 dX9_line_108 (v := 14) c278 (by decide) (by decide) rfl rfl ?_
                                      refine go_aload0 hc dX9_line_251 ?_
                                      replace h := goB3_h h; obtain ⟨x279, M280, L281, e282, h⟩ := h
                                      refine go_callVi hc dX9_line_252 (mX9_proofLine hk hW e282) ml_RX9_158 yk_X9_proofLine ⟨wim_X9_proofLine, wse_X9_proofLine⟩ hR rfl (sh_67 hW) rfl rfl rfl (Nat.le_of_ble_eq_true rfl) rfl ?_
                                      replace h := goBind h; obtain ⟨x283, e284, h⟩ := h
                                      obtain ⟨ze284, rfl⟩ := goZr_h e284
                                      cases h
                                      exact go_zret hc dX9_line_255 hr (goZ_n ze284)
                                    · replace h := goIfF h c278
                                      by_cases c285 : x184 = 15
                                      · replace h := goIfT h c285
                                        refine go_tabIn hc 256 dX9_line_108 (v := 15) c285 (by decide) (by decide) rfl rfl ?_
                                        refine go_aload0 hc dX9_line_256 ?_
                                        replace h := goB3_h h; obtain ⟨x286, M287, L288, e289, h⟩ := h
                                        refine go_callVi hc dX9_line_257 (mX9_courtLine hk hW e289) ml_RX9_161 yk_X9_courtLine ⟨wim_X9_courtLine, wse_X9_courtLine⟩ hR rfl (sh_67 hW) rfl rfl rfl (Nat.le_of_ble_eq_true rfl) rfl ?_
                                        replace h := goBind h; obtain ⟨x290, e291, h⟩ := h
                                        obtain ⟨ze291, rfl⟩ := goZr_h e291
                                        cases h
                                        exact go_zret hc dX9_line_260 hr (goZ_n ze291)
                                      · replace h := goIfF h c285
                                        refine go_tabOut hc 261 dX9_line_108 (goTp15 c187 c194 c201 c208 c215 c222 c229 c236 c243 c250 c257 c264 c271 c278 c285) rfl ?_
                                        refine go_aload0 hc dX9_line_261 ?_
                                        replace h := goB3_h h; obtain ⟨x292, M293, L294, e295, h⟩ := h
                                        refine go_callVi hc dX9_line_262 (mX9_cheeseLine hk hW e295) ml_RX9_164 yk_X9_cheeseLine ⟨wim_X9_cheeseLine, wse_X9_cheeseLine⟩ hR rfl (sh_67 hW) rfl rfl rfl (Nat.le_of_ble_eq_true rfl) rfl ?_
                                        replace h := goBind h; obtain ⟨x296, e297, h⟩ := h
                                        obtain ⟨ze297, rfl⟩ := goZr_h e297
                                        cases h
                                        exact go_zret hc dX9_line_265 hr (goZ_n ze297)
        · replace h := goIfT h c172
          refine go_aload0 hc dX9_line_62 ?_
          refine go_aload1 hc dX9_line_63 ?_
          replace h := goBind h; obtain ⟨x298, e299, h⟩ := h
          refine go_en_room hc dX9_line_64 wfl_RX9_101 e299 ?_
          refine go_iconst (v := 1) hc dX9_line_67 rfl ?_
          replace h := goNm_y h; obtain ⟨x300, e301, h⟩ := h
          have k302 : ∀ (d0 d1 : Option Value), goA E X G 0 0 (goMQ X E (goQi E r0 G r1 r2 R) 0 0) 76 [d0, d1] [.int x300, .ref 67] M L R := by
            intro d0 d1
            replace h := goB2_h h; obtain ⟨x304, M305, e306, h⟩ := h
            refine go_callVi hc dX9_line_76 (mX9_fail hk hW e306) ml_RX9_87 yk_X9_fail ⟨wim_X9_fail, wse_X9_fail⟩ hR rfl (sh_67 hW) rfl rfl rfl (Nat.le_of_ble_eq_true rfl) rfl ?_
            replace h := goBind h; obtain ⟨x307, e308, h⟩ := h
            obtain ⟨ze308, rfl⟩ := goZr_h e308
            cases h
            exact go_zret hc dX9_line_79 hr (goZ_n ze308)
          refine go_icmp_ne hc 75 dX9_line_68 rfl (fun c303 => ?_) (fun c303 => ?_)
          · replace e301 := goIfF e301 c303
            refine go_iconst (v := 5) hc dX9_line_75 rfl ?_
            subst e301
            exact k302 _ _
          · replace e301 := goIfT e301 c303
            refine go_iconst (v := 3) hc dX9_line_71 rfl ?_
            refine go_goto hc 76 dX9_line_72 rfl ?_
            subst e301
            exact k302 _ _
      · replace h := goIfT h c165
        refine go_aload0 hc dX9_line_39 ?_
        refine go_bipush (v := 6) hc dX9_line_40 rfl ?_
        replace h := goB2_h h; obtain ⟨x309, M310, e311, h⟩ := h
        refine go_callVi hc dX9_line_42 (mX9_fail hk hW e311) ml_RX9_87 yk_X9_fail ⟨wim_X9_fail, wse_X9_fail⟩ hR rfl (sh_67 hW) rfl rfl rfl (Nat.le_of_ble_eq_true rfl) rfl ?_
        replace h := goBind h; obtain ⟨x312, e313, h⟩ := h
        obtain ⟨ze313, rfl⟩ := goZr_h e313
        cases h
        exact go_zret hc dX9_line_45 hr (goZ_n ze313)
  · replace h := goIfT h c15
    refine go_aload0 hc dX9_line_12 ?_
    refine go_iconst (v := 1) hc dX9_line_13 rfl ?_
    replace h := goB2_h h; obtain ⟨x314, M315, e316, h⟩ := h
    refine go_callVi hc dX9_line_14 (mX9_fail hk hW e316) ml_RX9_87 yk_X9_fail ⟨wim_X9_fail, wse_X9_fail⟩ hR rfl (sh_67 hW) rfl rfl rfl (Nat.le_of_ble_eq_true rfl) rfl ?_
    replace h := goBind h; obtain ⟨x317, e318, h⟩ := h
    obtain ⟨ze318, rfl⟩ := goZr_h e318
    cases h
    exact go_zret hc dX9_line_17 hr (goZ_n ze318)
