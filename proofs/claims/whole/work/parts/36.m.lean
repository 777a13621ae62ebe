theorem dX9_read_0 : decode cX9_read 0 = .ok (.aload_n 0, 1) := by decide +kernel
theorem dX9_read_1 : decode cX9_read 1 = .ok (.aload_n 1, 1) := by decide +kernel
theorem dX9_read_2 : decode cX9_read 2 = .ok (.putfield 39, 3) := by decide +kernel
theorem dX9_read_5 : decode cX9_read 5 = .ok (.aload_n 1, 1) := by decide +kernel
theorem dX9_read_6 : decode cX9_read 6 = .ok (.invokevirtual 55, 3) := by decide +kernel
theorem dX9_read_9 : decode cX9_read 9 = .ok (.aload_n 0, 1) := by decide +kernel
theorem dX9_read_10 : decode cX9_read 10 = .ok (.iconst 0, 1) := by decide +kernel
theorem dX9_read_11 : decode cX9_read 11 = .ok (.putfield 60, 3) := by decide +kernel
theorem dX9_read_14 : decode cX9_read 14 = .ok (.aload_n 0, 1) := by decide +kernel
theorem dX9_read_15 : decode cX9_read 15 = .ok (.iconst 0, 1) := by decide +kernel
theorem dX9_read_16 : decode cX9_read 16 = .ok (.putfield 64, 3) := by decide +kernel
theorem dX9_read_19 : decode cX9_read 19 = .ok (.aload_n 0, 1) := by decide +kernel
theorem dX9_read_20 : decode cX9_read 20 = .ok (.getfield 22, 3) := by decide +kernel
theorem dX9_read_23 : decode cX9_read 23 = .ok (.iconst 0, 1) := by decide +kernel
theorem dX9_read_24 : decode cX9_read 24 = .ok (.invokestatic 67, 3) := by decide +kernel
theorem dX9_read_27 : decode cX9_read 27 = .ok (.aload_n 0, 1) := by decide +kernel
theorem dX9_read_28 : decode cX9_read 28 = .ok (.getfield 35, 3) := by decide +kernel
theorem dX9_read_31 : decode cX9_read 31 = .ok (.iload_n 2, 1) := by decide +kernel
theorem dX9_read_32 : decode cX9_read 32 = .ok (.invokevirtual 73, 3) := by decide +kernel
theorem dX9_read_35 : decode cX9_read 35 = .ok (.aload_n 0, 1) := by decide +kernel
theorem dX9_read_36 : decode cX9_read 36 = .ok (.invokevirtual 77, 3) := by decide +kernel
theorem dX9_read_39 : decode cX9_read 39 = .ok (.istore_n 3, 1) := by decide +kernel
theorem dX9_read_40 : decode cX9_read 40 = .ok (.iconst 0, 1) := by decide +kernel
theorem dX9_read_41 : decode cX9_read 41 = .ok (.istore 4, 2) := by decide +kernel
theorem dX9_read_43 : decode cX9_read 43 = .ok (.iload 4, 2) := by decide +kernel
theorem dX9_read_45 : decode cX9_read 45 = .ok (.sipush 1200, 3) := by decide +kernel
theorem dX9_read_48 : decode cX9_read 48 = .ok (.if_icmp .ge 60, 3) := by decide +kernel
theorem dX9_read_51 : decode cX9_read 51 = .ok (.iload_n 3, 1) := by decide +kernel
theorem dX9_read_52 : decode cX9_read 52 = .ok (.ifCond .eq 56, 3) := by decide +kernel
theorem dX9_read_55 : decode cX9_read 55 = .ok (.aload_n 0, 1) := by decide +kernel
theorem dX9_read_56 : decode cX9_read 56 = .ok (.getfield 35, 3) := by decide +kernel
theorem dX9_read_59 : decode cX9_read 59 = .ok (.getfield 81, 3) := by decide +kernel
theorem dX9_read_62 : decode cX9_read 62 = .ok (.ifCond .ne 8, 3) := by decide +kernel
theorem dX9_read_65 : decode cX9_read 65 = .ok (.iconst 0, 1) := by decide +kernel
theorem dX9_read_66 : decode cX9_read 66 = .ok (.istore_n 3, 1) := by decide +kernel
theorem dX9_read_67 : decode cX9_read 67 = .ok (.goto 35, 3) := by decide +kernel
theorem dX9_read_70 : decode cX9_read 70 = .ok (.aload_n 0, 1) := by decide +kernel
theorem dX9_read_71 : decode cX9_read 71 = .ok (.getfield 35, 3) := by decide +kernel
theorem dX9_read_74 : decode cX9_read 74 = .ok (.getfield 81, 3) := by decide +kernel
theorem dX9_read_77 : decode cX9_read 77 = .ok (.iconst 3, 1) := by decide +kernel
theorem dX9_read_78 : decode cX9_read 78 = .ok (.if_icmp .ne 18, 3) := by decide +kernel
theorem dX9_read_81 : decode cX9_read 81 = .ok (.aload_n 0, 1) := by decide +kernel
theorem dX9_read_82 : decode cX9_read 82 = .ok (.getfield 35, 3) := by decide +kernel
theorem dX9_read_85 : decode cX9_read 85 = .ok (.invokevirtual 84, 3) := by decide +kernel
theorem dX9_read_88 : decode cX9_read 88 = .ok (.aload_n 0, 1) := by decide +kernel
theorem dX9_read_89 : decode cX9_read 89 = .ok (.invokevirtual 77, 3) := by decide +kernel
theorem dX9_read_92 : decode cX9_read 92 = .ok (.istore_n 3, 1) := by decide +kernel
theorem dX9_read_93 : decode cX9_read 93 = .ok (.goto 9, 3) := by decide +kernel
theorem dX9_read_96 : decode cX9_read 96 = .ok (.aload_n 0, 1) := by decide +kernel
theorem dX9_read_97 : decode cX9_read 97 = .ok (.iconst 1, 1) := by decide +kernel
theorem dX9_read_98 : decode cX9_read 98 = .ok (.invokevirtual 87, 3) := by decide +kernel
theorem dX9_read_101 : decode cX9_read 101 = .ok (.istore_n 3, 1) := by decide +kernel
theorem dX9_read_102 : decode cX9_read 102 = .ok (.iinc 4 1, 3) := by decide +kernel
theorem dX9_read_105 : decode cX9_read 105 = .ok (.goto (-62), 3) := by decide +kernel
theorem dX9_read_108 : decode cX9_read 108 = .ok (.aload_n 0, 1) := by decide +kernel
theorem dX9_read_109 : decode cX9_read 109 = .ok (.getfield 64, 3) := by decide +kernel
theorem dX9_read_112 : decode cX9_read 112 = .ok (.ifCond .ne 17, 3) := by decide +kernel
theorem dX9_read_115 : decode cX9_read 115 = .ok (.aload_n 1, 1) := by decide +kernel
theorem dX9_read_116 : decode cX9_read 116 = .ok (.getfield 91, 3) := by decide +kernel
theorem dX9_read_119 : decode cX9_read 119 = .ok (.ifCond .ne 10, 3) := by decide +kernel
theorem dX9_read_122 : decode cX9_read 122 = .ok (.aload_n 0, 1) := by decide +kernel
theorem dX9_read_123 : decode cX9_read 123 = .ok (.bipush 6, 2) := by decide +kernel
theorem dX9_read_125 : decode cX9_read 125 = .ok (.invokevirtual 87, 3) := by decide +kernel
theorem dX9_read_128 : decode cX9_read 128 = .ok (.pop, 1) := by decide +kernel
theorem dX9_read_129 : decode cX9_read 129 = .ok (.aload_n 0, 1) := by decide +kernel
theorem dX9_read_130 : decode cX9_read 130 = .ok (.getfield 64, 3) := by decide +kernel
theorem dX9_read_133 : decode cX9_read 133 = .ok (.ifCond .ne 7, 3) := by decide +kernel
theorem dX9_read_136 : decode cX9_read 136 = .ok (.aload_n 1, 1) := by decide +kernel
theorem dX9_read_137 : decode cX9_read 137 = .ok (.invokevirtual 94, 3) := by decide +kernel
theorem dX9_read_140 : decode cX9_read 140 = .ok (.aload_n 0, 1) := by decide +kernel
theorem dX9_read_141 : decode cX9_read 141 = .ok (.getfield 64, 3) := by decide +kernel
theorem dX9_read_144 : decode cX9_read 144 = .ok (.ireturn, 1) := by decide +kernel
set_option maxRecDepth 100000 in
set_option maxHeartbeats 4000000 in
theorem mX9_read_L43 {E : goEv} {X : goX} {G : goG} {Q : State → Prop} {R : goMR} {N : Nat} {a1 : Nat} (hc : goCx E X cX9_read RX9 5) (hk : goKn E) (hR : X.2.2.2.1 = goRoom 10 215 0 0) (hr : X.2.2.2.2.2.2.2.2.1.sig.returnType = (Option.some FieldType.int)) (hW : goW G R) (m1 : a1 = 7 ∨ a1 = 37) : ∀ (n : Nat) (v3 : Int32) (v4 : Int32) (M : goMI) (L : goML) (r0 : goMI) (r1 : goML), lX9_read_43 N R n v3 v4 M L = some (r0, r1) → (∀ (d2 d3 d4 : Option Value), goA E X G 0 0 Q 108 [some (.ref 67), some (.ref a1), d2, d3, d4] [] r0 r1 R) → ∀ (d2 : Option Value), goA E X G 0 0 Q 43 [some (.ref 67), some (.ref a1), d2, some (.int v3), some (.int v4)] [] M L R := by
  intro n
  induction n with
  | zero => intro v3 v4 M L r0 r1 h; exact nomatch h
  | succ n ih =>
    intro v3 v4 M L r0 r1 h kx d2
    rw [lX9_read_43] at h
    refine go_iload4 hc dX9_read_43 ?_
    refine go_sipush (v := 1200) hc dX9_read_45 rfl ?_
    refine go_icmp_ge hc 108 dX9_read_48 rfl (fun c26 => ?_) (fun c26 => ?_)
    · replace h := goIfF h c26
      cases h
      exact kx _ _ _
    · replace h := goIfT h c26
      refine go_iload3 hc dX9_read_51 ?_
      refine go_if_eq hc 108 dX9_read_52 rfl (fun c27 => ?_) (fun c27 => ?_)
      · replace h := goIfT h c27
        cases h
        exact kx _ _ _
      · replace h := goIfF h c27
        refine go_aload0 hc dX9_read_55 ?_
        refine go_getR hc lk_RX9_35 dX9_read_56 (sh_67 hW) (rf_67_0 hW) ?_
        refine go_getI hc lk_RX9_81 dX9_read_59 (sh_1 hW) ?_
        replace h := goB3_h h; obtain ⟨x28, M29, L30, e31, h⟩ := h
        have k32 : ∀ (d2 : Option Value), goA E X G 0 0 Q 102 [some (.ref 67), some (.ref a1), d2, some (.int x28), some (.int v4)] [] M29 L30 R := by
          intro d2
          refine go_iinc4 (v := (v4 + 1)) hc dX9_read_102 rfl ?_
          refine go_goto hc 43 dX9_read_105 rfl ?_
          exact ih _ _ _ _ _ _ h kx _
        refine go_if_ne hc 70 dX9_read_62 rfl (fun c33 => ?_) (fun c33 => ?_)
        · replace e31 := goIfF e31 c33
          refine go_aload0 hc dX9_read_70 ?_
          refine go_getR hc lk_RX9_35 dX9_read_71 (sh_67 hW) (rf_67_0 hW) ?_
          refine go_getI hc lk_RX9_81 dX9_read_74 (sh_1 hW) ?_
          refine go_iconst (v := 3) hc dX9_read_77 rfl ?_
          refine go_icmp_ne hc 96 dX9_read_78 rfl (fun c34 => ?_) (fun c34 => ?_)
          · replace e31 := goIfF e31 c34
            refine go_aload0 hc dX9_read_96 ?_
            refine go_iconst (v := 1) hc dX9_read_97 rfl ?_
            replace e31 := goB2_h e31; obtain ⟨x35, M36, e37, e31⟩ := e31
            refine go_callVi hc dX9_read_98 (mX9_fail hk hW e37) ml_RX9_87 yk_X9_fail ⟨wim_X9_fail, wse_X9_fail⟩ hR rfl (sh_67 hW) rfl rfl rfl (Nat.le_of_ble_eq_true rfl) rfl ?_
            refine go_istore3 hc dX9_read_101 ?_
            cases e31
            exact k32 _
          · replace e31 := goIfT e31 c34
            refine go_aload0 hc dX9_read_81 ?_
            refine go_getR hc lk_RX9_35 dX9_read_82 (sh_67 hW) (rf_67_0 hW) ?_
            replace e31 := goB2_h e31; obtain ⟨M38, L39, e40, e31⟩ := e31
            refine go_callVv hc dX9_read_85 (mX11_advance hk hW e40) ml_RX9_84 yk_X11_advance ⟨wim_X11_advance, wse_X11_advance⟩ hR rfl (sh_1 hW) rfl rfl rfl (Nat.le_of_ble_eq_true rfl) rfl ?_
            refine go_aload0 hc dX9_read_88 ?_
            replace e31 := goB3_h e31; obtain ⟨x41, M42, L43, e44, e31⟩ := e31
            refine go_callVi hc dX9_read_89 (mX9_line hk hW e44) ml_RX9_77 yk_X9_line ⟨wim_X9_line, wse_X9_line⟩ hR rfl (sh_67 hW) rfl rfl rfl (Nat.le_of_ble_eq_true rfl) rfl ?_
            refine go_istore3 hc dX9_read_92 ?_
            refine go_goto hc 102 dX9_read_93 rfl ?_
            cases e31
            exact k32 _
        · replace e31 := goIfT e31 c33
          refine go_iconst (v := 0) hc dX9_read_65 rfl ?_
          refine go_istore3 hc dX9_read_66 ?_
          refine go_goto hc 102 dX9_read_67 rfl ?_
          cases e31
          exact k32 _
set_option maxRecDepth 100000 in
set_option maxHeartbeats 4000000 in
theorem mX9_read {E : goEv} {l : Launch} {G : goG} {N : Nat} {M : goMI} {L : goML} {R : goMR} {a1 : Nat} {v2 : Int32} {r0 : Int32} {r1 : goMI} {r2 : goML} (hk : goKn E) (hW : goW G R) (m1 : a1 = 7 ∨ a1 = 37) (h : fX9_read N M L R a1 v2 = some (r0, r1, r2)) : Met l yX9_read (goCd yX9_read cX9_read 5 (Option.some FieldType.int)) (goRoom 10 215 0 0) (goPre E [.ref 67, .ref a1, .int v2] G M L R) (goQi E r0 G r1 r2 (rX9_read R a1)) 0 0 (goSet E) := by
  refine goMet pl_RX9 hk (lv := [some (.ref 67), some (.ref a1), some (.int v2), none, none]) rfl (Nat.le_of_ble_eq_true rfl) ?_
  intro X hc hl hR hr hnm
  subst hl
  unfold fX9_read at h
  refine go_aload0 hc dX9_read_0 ?_
  refine go_aload1 hc dX9_read_1 ?_
  refine go_putR hc (.object "GoatCourt$Hill") lk_RX9_39 (by decide +kernel) (fun _ => ⟨rfl, rfl⟩) dX9_read_2 (sh_67 hW) ?_
  replace hW := pt_67_7 hW m1
  refine go_aload1 hc dX9_read_5 ?_
  replace h := goBind h; obtain ⟨M11, e12, h⟩ := h
  refine go_callVv hc dX9_read_6 (mX6_clear hk hW m1 e12) ml_RX9_55 yk_X6_clear ⟨wim_X6_clear, wse_X6_clear⟩ hR rfl (shHill_0 hW m1) rfl rfl rfl (Nat.le_of_ble_eq_true rfl) rfl ?_
  refine go_aload0 hc dX9_read_9 ?_
  refine go_iconst (v := 0) hc dX9_read_10 rfl ?_
  replace h := goNm_x h; obtain ⟨M13, e14, h⟩ := h
  refine go_ptI hc lk_RX9_60 dX9_read_11 (sh_67 hW) e14 ?_
  refine go_aload0 hc dX9_read_14 ?_
  refine go_iconst (v := 0) hc dX9_read_15 rfl ?_
  replace h := goNm_x h; obtain ⟨M15, e16, h⟩ := h
  refine go_ptI hc lk_RX9_64 dX9_read_16 (sh_67 hW) e16 ?_
  refine go_aload0 hc dX9_read_19 ?_
  refine go_getR hc lk_RX9_22 dX9_read_20 (sh_67 hW) (rf_67_4 hW) ?_
  refine go_iconst (v := 0) hc dX9_read_23 rfl ?_
  replace h := goBind h; obtain ⟨M17, e18, h⟩ := h
  refine go_callSv hc dX9_read_24 (mJ7_fill_53178 hk hW (sh_71 hW) e18) ml_RX9_67 yk_J7_fill_53178 wst_J7_fill_53178 hR rfl rfl rfl (Nat.le_of_ble_eq_true rfl) rfl ?_
  refine go_aload0 hc dX9_read_27 ?_
  refine go_getR hc lk_RX9_35 dX9_read_28 (sh_67 hW) (rf_67_0 hW) ?_
  refine go_iload2 hc dX9_read_31 ?_
  replace h := goB2_h h; obtain ⟨M19, L20, e21, h⟩ := h
  refine go_callVv hc dX9_read_32 (mX11_rewind hk hW e21) ml_RX9_73 yk_X11_rewind ⟨wim_X11_rewind, wse_X11_rewind⟩ hR rfl (sh_1 hW) rfl rfl rfl (Nat.le_of_ble_eq_true rfl) rfl ?_
  refine go_aload0 hc dX9_read_35 ?_
  replace h := goB3_h h; obtain ⟨x22, M23, L24, e25, h⟩ := h
  refine go_callVi hc dX9_read_36 (mX9_line hk hW e25) ml_RX9_77 yk_X9_line ⟨wim_X9_line, wse_X9_line⟩ hR rfl (sh_67 hW) rfl rfl rfl (Nat.le_of_ble_eq_true rfl) rfl ?_
  refine go_istore3 hc dX9_read_39 ?_
  refine go_iconst (v := 0) hc dX9_read_40 rfl ?_
  refine go_istore4 hc dX9_read_41 ?_
  replace h := goB2_h h; obtain ⟨M46, L47, e45, h⟩ := h
  refine mX9_read_L43 hc hk hR hr hW m1 _ _ _ _ _ _ _ e45 (fun d2 d3 d4 => ?_) _
  refine go_aload0 hc dX9_read_108 ?_
  refine go_getI hc lk_RX9_64 dX9_read_109 (sh_67 hW) ?_
  replace h := goBind h; obtain ⟨M48, e49, h⟩ := h
  have k50 : ∀ (d2 d3 d4 : Option Value), goA E X G 0 0 (goMQ X E (goQi E r0 G r1 r2 (rX9_read R a1)) 0 0) 129 [some (.ref 67), some (.ref a1), d2, d3, d4] [] M48 L47 (goWR R 67 7 (some a1)) := by
    intro d2 d3 d4
    refine go_aload0 hc dX9_read_129 ?_
    refine go_getI hc lk_RX9_64 dX9_read_130 (sh_67 hW) ?_
    replace h := goBind h; obtain ⟨M56, e57, h⟩ := h
    have k58 : ∀ (d1 d2 d3 d4 : Option Value), goA E X G 0 0 (goMQ X E (goQi E r0 G r1 r2 (rX9_read R a1)) 0 0) 140 [some (.ref 67), d1, d2, d3, d4] [] M56 L47 (goWR R 67 7 (some a1)) := by
      intro d1 d2 d3 d4
      refine go_aload0 hc dX9_read_140 ?_
      refine go_getI hc lk_RX9_64 dX9_read_141 (sh_67 hW) ?_
      cases h
      exact go_iret hc dX9_read_144 hr
    refine go_if_ne hc 140 dX9_read_133 rfl (fun c59 => ?_) (fun c59 => ?_)
    · replace e57 := goIfF e57 c59
      cases e57
      exact k58 _ _ _ _
    · replace e57 := goIfT e57 c59
      refine go_aload1 hc dX9_read_136 ?_
      replace e57 := goBind e57; obtain ⟨M60, e61, e57⟩ := e57
      refine go_callVv hc dX9_read_137 (mX6_countCases hk hW m1 e61) ml_RX9_94 yk_X6_countCases ⟨wim_X6_countCases, wse_X6_countCases⟩ hR rfl (shHill_0 hW m1) rfl rfl rfl (Nat.le_of_ble_eq_true rfl) rfl ?_
      cases e57
      exact k58 _ _ _ _
  refine go_if_ne hc 129 dX9_read_112 rfl (fun c51 => ?_) (fun c51 => ?_)
  · replace e49 := goIfF e49 c51
    cases e49
    exact k50 _ _ _
  · replace e49 := goIfT e49 c51
    refine go_aload1 hc dX9_read_115 ?_
    refine go_getI hc lk_RX9_91 dX9_read_116 (shHill_0 hW m1) ?_
    refine go_if_ne hc 129 dX9_read_119 rfl (fun c52 => ?_) (fun c52 => ?_)
    · replace e49 := goIfF e49 c52
      cases e49
      exact k50 _ _ _
    · replace e49 := goIfT e49 c52
      refine go_aload0 hc dX9_read_122 ?_
      refine go_bipush (v := 6) hc dX9_read_123 rfl ?_
      replace e49 := goB2_h e49; obtain ⟨x53, M54, e55, e49⟩ := e49
      refine go_callVi hc dX9_read_125 (mX9_fail hk hW e55) ml_RX9_87 yk_X9_fail ⟨wim_X9_fail, wse_X9_fail⟩ hR rfl (sh_67 hW) rfl rfl rfl (Nat.le_of_ble_eq_true rfl) rfl ?_
      refine go_popi hc dX9_read_128 ?_
      cases e49
      exact k50 _ _ _
theorem dX11_add_0 : decode cX11_add 0 = .ok (.bipush 24, 2) := by decide +kernel
theorem dX11_add_2 : decode cX11_add 2 = .ok (.istore_n 2, 1) := by decide +kernel
theorem dX11_add_3 : decode cX11_add 3 = .ok (.iload_n 2, 1) := by decide +kernel
theorem dX11_add_4 : decode cX11_add 4 = .ok (.ifCond .lt 42, 3) := by decide +kernel
theorem dX11_add_7 : decode cX11_add 7 = .ok (.aload_n 0, 1) := by decide +kernel
theorem dX11_add_8 : decode cX11_add 8 = .ok (.getfield 15, 3) := by decide +kernel
theorem dX11_add_11 : decode cX11_add 11 = .ok (.sipush 1200, 3) := by decide +kernel
theorem dX11_add_14 : decode cX11_add 14 = .ok (.if_icmp .ge 26, 3) := by decide +kernel
theorem dX11_add_17 : decode cX11_add 17 = .ok (.aload_n 0, 1) := by decide +kernel
theorem dX11_add_18 : decode cX11_add 18 = .ok (.getfield 9, 3) := by decide +kernel
theorem dX11_add_21 : decode cX11_add 21 = .ok (.aload_n 0, 1) := by decide +kernel
theorem dX11_add_22 : decode cX11_add 22 = .ok (.getfield 15, 3) := by decide +kernel
theorem dX11_add_25 : decode cX11_add 25 = .ok (.iload_n 1, 1) := by decide +kernel
theorem dX11_add_26 : decode cX11_add 26 = .ok (.iload_n 2, 1) := by decide +kernel
theorem dX11_add_27 : decode cX11_add 27 = .ok (.iushr, 1) := by decide +kernel
theorem dX11_add_28 : decode cX11_add 28 = .ok (.i2b, 1) := by decide +kernel
theorem dX11_add_29 : decode cX11_add 29 = .ok (.bastore, 1) := by decide +kernel
theorem dX11_add_30 : decode cX11_add 30 = .ok (.aload_n 0, 1) := by decide +kernel
theorem dX11_add_31 : decode cX11_add 31 = .ok (.dup, 1) := by decide +kernel
theorem dX11_add_32 : decode cX11_add 32 = .ok (.getfield 15, 3) := by decide +kernel
theorem dX11_add_35 : decode cX11_add 35 = .ok (.iconst 1, 1) := by decide +kernel
theorem dX11_add_36 : decode cX11_add 36 = .ok (.iadd, 1) := by decide +kernel
theorem dX11_add_37 : decode cX11_add 37 = .ok (.putfield 15, 3) := by decide +kernel
theorem dX11_add_40 : decode cX11_add 40 = .ok (.iinc 2 (-8), 3) := by decide +kernel
theorem dX11_add_43 : decode cX11_add 43 = .ok (.goto (-40), 3) := by decide +kernel
theorem dX11_add_46 : decode cX11_add 46 = .ok (.return_, 1) := by decide +kernel
set_option maxRecDepth 100000 in
set_option maxHeartbeats 4000000 in
theorem mX11_add_L3 {E : goEv} {X : goX} {G : goG} {Q : State → Prop} {L : goML} {R : goMR} {v1 : Int32} (hc : goCx E X cX11_add RX11 3) (hk : goKn E) (hR : X.2.2.2.1 = goRoom 0 0 0 0) (hr : X.2.2.2.2.2.2.2.2.1.sig.returnType = none) (hW : goW G R) : ∀ (n : Nat) (v2 : Int32) (M : goMI) (r0 : goMI), lX11_add_3 v1 n v2 M = some r0 → (∀ (d0 d1 d2 : Option Value), goA E X G 0 0 Q 46 [d0, d1, d2] [] r0 L R) → goA E X G 0 0 Q 3 [some (.ref 1), some (.int v1), some (.int v2)] [] M L R := by
  intro n
  induction n with
  | zero => intro v2 M r0 h; exact nomatch h
  | succ n ih =>
    intro v2 M r0 h kx
    rw [lX11_add_3] at h
    refine go_iload2 hc dX11_add_3 ?_
    refine go_if_lt hc 46 dX11_add_4 rfl (fun c11 => ?_) (fun c11 => ?_)
    · replace h := goIfF h c11
      cases h
      exact kx _ _ _
    · replace h := goIfT h c11
      refine go_aload0 hc dX11_add_7 ?_
      refine go_getI hc lk_RX11_15 dX11_add_8 (sh_1 hW) ?_
      refine go_sipush (v := 1200) hc dX11_add_11 rfl ?_
      replace h := goBind h; obtain ⟨M12, e13, h⟩ := h
      have k14 : goA E X G 0 0 Q 40 [some (.ref 1), some (.int v1), some (.int v2)] [] M12 L R := by
        refine go_iinc2 (v := (v2 + (-8))) hc dX11_add_40 rfl ?_
        refine go_goto hc 3 dX11_add_43 rfl ?_
        exact ih _ _ _ h kx
      refine go_icmp_ge hc 40 dX11_add_14 rfl (fun c15 => ?_) (fun c15 => ?_)
      · replace e13 := goIfF e13 c15
        cases e13
        exact k14
      · replace e13 := goIfT e13 c15
        refine go_aload0 hc dX11_add_17 ?_
        refine go_getR hc lk_RX11_9 dX11_add_18 (sh_1 hW) (rf_1_0 hW) ?_
        refine go_aload0 hc dX11_add_21 ?_
        refine go_getI hc lk_RX11_15 dX11_add_22 (sh_1 hW) ?_
        refine go_iload1 hc dX11_add_25 ?_
        refine go_iload2 hc dX11_add_26 ?_
        refine go_iushr hc dX11_add_27 ?_
        refine go_i2b hc dX11_add_28 ?_
        replace e13 := goBind e13; obtain ⟨M16, e17, e13⟩ := e13
        refine go_bast hc dX11_add_29 (sh_2 hW) e17 ?_
        refine go_aload0 hc dX11_add_30 ?_
        refine go_dupr hc dX11_add_31 ?_
        refine go_getI hc lk_RX11_15 dX11_add_32 (sh_1 hW) ?_
        refine go_iconst (v := 1) hc dX11_add_35 rfl ?_
        refine go_iadd hc dX11_add_36 ?_
        replace e13 := goNm_x e13; obtain ⟨M18, e19, e13⟩ := e13
        refine go_ptI hc lk_RX11_15 dX11_add_37 (sh_1 hW) e19 ?_
        cases e13
        exact k14
set_option maxRecDepth 100000 in
set_option maxHeartbeats 4000000 in
theorem mX11_add {E : goEv} {l : Launch} {G : goG} {N : Nat} {M : goMI} {L : goML} {R : goMR} {v1 : Int32} {r0 : goMI} (hk : goKn E) (hW : goW G R) (h : fX11_add N M v1 = some r0) : Met l yX11_add (goCd yX11_add cX11_add 3 none) (goRoom 0 0 0 0) (goPre E [.ref 1, .int v1] G M L R) (goQv E G r0 L R) 0 0 (goSet E) := by
  refine goMet pl_RX11 hk (lv := [some (.ref 1), some (.int v1), none]) rfl (Nat.le_of_ble_eq_true rfl) ?_
  intro X hc hl hR hr hnm
  subst hl
  unfold fX11_add at h
  refine go_bipush (v := 24) hc dX11_add_0 rfl ?_
  refine go_istore2 hc dX11_add_2 ?_
  replace h := goBind h; obtain ⟨M21, e20, h⟩ := h
  refine mX11_add_L3 hc hk hR hr hW _ _ _ _ e20 (fun d0 d1 d2 => ?_)
  cases h
  exact go_vret hc dX11_add_46 hr
theorem dX12_feed_0 : decode cX12_feed 0 = .ok (.aload_n 0, 1) := by decide +kernel
theorem dX12_feed_1 : decode cX12_feed 1 = .ok (.getfield 10, 3) := by decide +kernel
theorem dX12_feed_4 : decode cX12_feed 4 = .ok (.getfield 58, 3) := by decide +kernel
theorem dX12_feed_7 : decode cX12_feed 7 = .ok (.bipush 20, 2) := by decide +kernel
theorem dX12_feed_9 : decode cX12_feed 9 = .ok (.iadd, 1) := by decide +kernel
theorem dX12_feed_10 : decode cX12_feed 10 = .ok (.sipush 1200, 3) := by decide +kernel
theorem dX12_feed_13 : decode cX12_feed 13 = .ok (.if_icmp .le 5, 3) := by decide +kernel
theorem dX12_feed_16 : decode cX12_feed 16 = .ok (.iconst (-1), 1) := by decide +kernel
theorem dX12_feed_17 : decode cX12_feed 17 = .ok (.ireturn, 1) := by decide +kernel
theorem dX12_feed_18 : decode cX12_feed 18 = .ok (.aload_n 0, 1) := by decide +kernel
theorem dX12_feed_19 : decode cX12_feed 19 = .ok (.getfield 10, 3) := by decide +kernel
theorem dX12_feed_22 : decode cX12_feed 22 = .ok (.iload_n 1, 1) := by decide +kernel
theorem dX12_feed_23 : decode cX12_feed 23 = .ok (.invokevirtual 62, 3) := by decide +kernel
theorem dX12_feed_26 : decode cX12_feed 26 = .ok (.aload_n 0, 1) := by decide +kernel
theorem dX12_feed_27 : decode cX12_feed 27 = .ok (.getfield 10, 3) := by decide +kernel
theorem dX12_feed_30 : decode cX12_feed 30 = .ok (.iload_n 2, 1) := by decide +kernel
theorem dX12_feed_31 : decode cX12_feed 31 = .ok (.invokevirtual 62, 3) := by decide +kernel
theorem dX12_feed_34 : decode cX12_feed 34 = .ok (.aload_n 0, 1) := by decide +kernel
theorem dX12_feed_35 : decode cX12_feed 35 = .ok (.getfield 10, 3) := by decide +kernel
theorem dX12_feed_38 : decode cX12_feed 38 = .ok (.iload_n 3, 1) := by decide +kernel
theorem dX12_feed_39 : decode cX12_feed 39 = .ok (.invokevirtual 62, 3) := by decide +kernel
theorem dX12_feed_42 : decode cX12_feed 42 = .ok (.aload_n 0, 1) := by decide +kernel
theorem dX12_feed_43 : decode cX12_feed 43 = .ok (.getfield 10, 3) := by decide +kernel
theorem dX12_feed_46 : decode cX12_feed 46 = .ok (.iload 4, 2) := by decide +kernel
theorem dX12_feed_48 : decode cX12_feed 48 = .ok (.invokevirtual 62, 3) := by decide +kernel
theorem dX12_feed_51 : decode cX12_feed 51 = .ok (.aload_n 0, 1) := by decide +kernel
theorem dX12_feed_52 : decode cX12_feed 52 = .ok (.getfield 10, 3) := by decide +kernel
theorem dX12_feed_55 : decode cX12_feed 55 = .ok (.iload 5, 2) := by decide +kernel
theorem dX12_feed_57 : decode cX12_feed 57 = .ok (.invokevirtual 62, 3) := by decide +kernel
theorem dX12_feed_60 : decode cX12_feed 60 = .ok (.aload_n 0, 1) := by decide +kernel
theorem dX12_feed_61 : decode cX12_feed 61 = .ok (.getfield 10, 3) := by decide +kernel
theorem dX12_feed_64 : decode cX12_feed 64 = .ok (.getfield 58, 3) := by decide +kernel
theorem dX12_feed_67 : decode cX12_feed 67 = .ok (.ireturn, 1) := by decide +kernel
set_option maxRecDepth 100000 in
set_option maxHeartbeats 4000000 in
theorem mX12_feed {E : goEv} {l : Launch} {G : goG} {N : Nat} {M : goMI} {L : goML} {R : goMR} {v1 : Int32} {v2 : Int32} {v3 : Int32} {v4 : Int32} {v5 : Int32} {r0 : Int32} {r1 : goMI} (hk : goKn E) (hW : goW G R) (h : fX12_feed N M v1 v2 v3 v4 v5 = some (r0, r1)) : Met l yX12_feed (goCd yX12_feed cX12_feed 6 (Option.some FieldType.int)) (goRoom 1 22 0 0) (goPre E [.ref 0, .int v1, .int v2, .int v3, .int v4, .int v5] G M L R) (goQi E r0 G r1 L R) 0 0 (goSet E) := by
  refine goMet pl_RX12 hk (lv := [some (.ref 0), some (.int v1), some (.int v2), some (.int v3), some (.int v4), some (.int v5)]) rfl (Nat.le_of_ble_eq_true rfl) ?_
  intro X hc hl hR hr hnm
  subst hl
  unfold fX12_feed at h
  refine go_aload0 hc dX12_feed_0 ?_
  refine go_getR hc lk_RX12_10 dX12_feed_1 (sh_0 hW) (rf_0_0 hW) ?_
  refine go_getI hc lk_RX12_58 dX12_feed_4 (sh_1 hW) ?_
  refine go_bipush (v := 20) hc dX12_feed_7 rfl ?_
  refine go_iadd hc dX12_feed_9 ?_
  refine go_sipush (v := 1200) hc dX12_feed_10 rfl ?_
  refine go_icmp_le hc 18 dX12_feed_13 rfl (fun c11 => ?_) (fun c11 => ?_)
  · replace h := goIfF h c11
    refine go_aload0 hc dX12_feed_18 ?_
    refine go_getR hc lk_RX12_10 dX12_feed_19 (sh_0 hW) (rf_0_0 hW) ?_
    refine go_iload1 hc dX12_feed_22 ?_
    replace h := goBind h; obtain ⟨M12, e13, h⟩ := h
    refine go_callVv hc dX12_feed_23 (mX11_add hk hW e13) ml_RX12_62 yk_X11_add ⟨wim_X11_add, wse_X11_add⟩ hR rfl (sh_1 hW) rfl rfl rfl (Nat.le_of_ble_eq_true rfl) rfl ?_
    refine go_aload0 hc dX12_feed_26 ?_
    refine go_getR hc lk_RX12_10 dX12_feed_27 (sh_0 hW) (rf_0_0 hW) ?_
    refine go_iload2 hc dX12_feed_30 ?_
    replace h := goBind h; obtain ⟨M14, e15, h⟩ := h
    refine go_callVv hc dX12_feed_31 (mX11_add hk hW e15) ml_RX12_62 yk_X11_add ⟨wim_X11_add, wse_X11_add⟩ hR rfl (sh_1 hW) rfl rfl rfl (Nat.le_of_ble_eq_true rfl) rfl ?_
    refine go_aload0 hc dX12_feed_34 ?_
    refine go_getR hc lk_RX12_10 dX12_feed_35 (sh_0 hW) (rf_0_0 hW) ?_
    refine go_iload3 hc dX12_feed_38 ?_
    replace h := goBind h; obtain ⟨M16, e17, h⟩ := h
    refine go_callVv hc dX12_feed_39 (mX11_add hk hW e17) ml_RX12_62 yk_X11_add ⟨wim_X11_add, wse_X11_add⟩ hR rfl (sh_1 hW) rfl rfl rfl (Nat.le_of_ble_eq_true rfl) rfl ?_
    refine go_aload0 hc dX12_feed_42 ?_
    refine go_getR hc lk_RX12_10 dX12_feed_43 (sh_0 hW) (rf_0_0 hW) ?_
    refine go_iload4 hc dX12_feed_46 ?_
    replace h := goBind h; obtain ⟨M18, e19, h⟩ := h
    refine go_callVv hc dX12_feed_48 (mX11_add hk hW e19) ml_RX12_62 yk_X11_add ⟨wim_X11_add, wse_X11_add⟩ hR rfl (sh_1 hW) rfl rfl rfl (Nat.le_of_ble_eq_true rfl) rfl ?_
    refine go_aload0 hc dX12_feed_51 ?_
    refine go_getR hc lk_RX12_10 dX12_feed_52 (sh_0 hW) (rf_0_0 hW) ?_
    refine go_iload5 hc dX12_feed_55 ?_
    replace h := goBind h; obtain ⟨M20, e21, h⟩ := h
    refine go_callVv hc dX12_feed_57 (mX11_add hk hW e21) ml_RX12_62 yk_X11_add ⟨wim_X11_add, wse_X11_add⟩ hR rfl (sh_1 hW) rfl rfl rfl (Nat.le_of_ble_eq_true rfl) rfl ?_
    refine go_aload0 hc dX12_feed_60 ?_
    refine go_getR hc lk_RX12_10 dX12_feed_61 (sh_0 hW) (rf_0_0 hW) ?_
    refine go_getI hc lk_RX12_58 dX12_feed_64 (sh_1 hW) ?_
    cases h
    exact go_iret hc dX12_feed_67 hr
  · replace h := goIfT h c11
    refine go_iconst (v := (-1)) hc dX12_feed_16 rfl ?_
    cases h
    exact go_iret hc dX12_feed_17 hr
theorem dX12_refuse_0 : decode cX12_refuse 0 = .ok (.aload_n 0, 1) := by decide +kernel
theorem dX12_refuse_1 : decode cX12_refuse 1 = .ok (.iload_n 1, 1) := by decide +kernel
theorem dX12_refuse_2 : decode cX12_refuse 2 = .ok (.putfield 91, 3) := by decide +kernel
theorem dX12_refuse_5 : decode cX12_refuse 5 = .ok (.iconst (-1), 1) := by decide +kernel
theorem dX12_refuse_6 : decode cX12_refuse 6 = .ok (.ireturn, 1) := by decide +kernel
set_option maxRecDepth 100000 in
set_option maxHeartbeats 4000000 in
theorem mX12_refuse {E : goEv} {l : Launch} {G : goG} {M : goMI} {L : goML} {R : goMR} {v1 : Int32} {r0 : Int32} {r1 : goMI} (hk : goKn E) (hW : goW G R) (h : fX12_refuse M v1 = some (r0, r1)) : Met l yX12_refuse (goCd yX12_refuse cX12_refuse 2 (Option.some FieldType.int)) (goRoom 0 0 0 0) (goPre E [.ref 0, .int v1] G M L R) (goQi E r0 G r1 L R) 0 0 (goSet E) := by
  refine goMet pl_RX12 hk (lv := [some (.ref 0), some (.int v1)]) rfl (Nat.le_of_ble_eq_true rfl) ?_
  intro X hc hl hR hr hnm
  subst hl
  unfold fX12_refuse at h
  refine go_aload0 hc dX12_refuse_0 ?_
  refine go_iload1 hc dX12_refuse_1 ?_
  replace h := goNm_x h; obtain ⟨M11, e12, h⟩ := h
  refine go_ptI hc lk_RX12_91 dX12_refuse_2 (sh_0 hW) e12 ?_
  refine go_iconst (v := (-1)) hc dX12_refuse_5 rfl ?_
  cases h
  exact go_iret hc dX12_refuse_6 hr
theorem dX12_answer_0 : decode cX12_answer 0 = .ok (.aload_n 0, 1) := by decide +kernel
theorem dX12_answer_1 : decode cX12_answer 1 = .ok (.iconst 0, 1) := by decide +kernel
theorem dX12_answer_2 : decode cX12_answer 2 = .ok (.putfield 91, 3) := by decide +kernel
theorem dX12_answer_5 : decode cX12_answer 5 = .ok (.iload_n 1, 1) := by decide +kernel
theorem dX12_answer_6 : decode cX12_answer 6 = .ok (.ireturn, 1) := by decide +kernel
set_option maxRecDepth 100000 in
set_option maxHeartbeats 4000000 in
theorem mX12_answer {E : goEv} {l : Launch} {G : goG} {M : goMI} {L : goML} {R : goMR} {v1 : Int32} {r0 : Int32} {r1 : goMI} (hk : goKn E) (hW : goW G R) (h : fX12_answer M v1 = some (r0, r1)) : Met l yX12_answer (goCd yX12_answer cX12_answer 2 (Option.some FieldType.int)) (goRoom 0 0 0 0) (goPre E [.ref 0, .int v1] G M L R) (goQi E r0 G r1 L R) 0 0 (goSet E) := by
  refine goMet pl_RX12 hk (lv := [some (.ref 0), some (.int v1)]) rfl (Nat.le_of_ble_eq_true rfl) ?_
  intro X hc hl hR hr hnm
  subst hl
  unfold fX12_answer at h
  refine go_aload0 hc dX12_answer_0 ?_
  refine go_iconst (v := 0) hc dX12_answer_1 rfl ?_
  replace h := goNm_x h; obtain ⟨M11, e12, h⟩ := h
  refine go_ptI hc lk_RX12_91 dX12_answer_2 (sh_0 hW) e12 ?_
  refine go_iload1 hc dX12_answer_5 ?_
  cases h
  exact go_iret hc dX12_answer_6 hr
theorem dX12_hill_0 : decode cX12_hill 0 = .ok (.iload_n 1, 1) := by decide +kernel
theorem dX12_hill_1 : decode cX12_hill 1 = .ok (.ifCond .lt 14, 3) := by decide +kernel
theorem dX12_hill_4 : decode cX12_hill 4 = .ok (.iload_n 1, 1) := by decide +kernel
theorem dX12_hill_5 : decode cX12_hill 5 = .ok (.aload_n 0, 1) := by decide +kernel
theorem dX12_hill_6 : decode cX12_hill 6 = .ok (.getfield 10, 3) := by decide +kernel
theorem dX12_hill_9 : decode cX12_hill 9 = .ok (.getfield 58, 3) := by decide +kernel
theorem dX12_hill_12 : decode cX12_hill 12 = .ok (.if_icmp .le 9, 3) := by decide +kernel
theorem dX12_hill_15 : decode cX12_hill 15 = .ok (.aload_n 0, 1) := by decide +kernel
theorem dX12_hill_16 : decode cX12_hill 16 = .ok (.iconst 2, 1) := by decide +kernel
theorem dX12_hill_17 : decode cX12_hill 17 = .ok (.invokevirtual 66, 3) := by decide +kernel
theorem dX12_hill_20 : decode cX12_hill 20 = .ok (.ireturn, 1) := by decide +kernel
theorem dX12_hill_21 : decode cX12_hill 21 = .ok (.aload_n 0, 1) := by decide +kernel
theorem dX12_hill_22 : decode cX12_hill 22 = .ok (.aload_n 0, 1) := by decide +kernel
theorem dX12_hill_23 : decode cX12_hill 23 = .ok (.getfield 38, 3) := by decide +kernel
theorem dX12_hill_26 : decode cX12_hill 26 = .ok (.aload_n 0, 1) := by decide +kernel
theorem dX12_hill_27 : decode cX12_hill 27 = .ok (.getfield 30, 3) := by decide +kernel
theorem dX12_hill_30 : decode cX12_hill 30 = .ok (.iload_n 1, 1) := by decide +kernel
theorem dX12_hill_31 : decode cX12_hill 31 = .ok (.invokevirtual 70, 3) := by decide +kernel
theorem dX12_hill_34 : decode cX12_hill 34 = .ok (.putfield 74, 3) := by decide +kernel
theorem dX12_hill_37 : decode cX12_hill 37 = .ok (.aload_n 0, 1) := by decide +kernel
theorem dX12_hill_38 : decode cX12_hill 38 = .ok (.getfield 10, 3) := by decide +kernel
theorem dX12_hill_41 : decode cX12_hill 41 = .ok (.iconst 0, 1) := by decide +kernel
theorem dX12_hill_42 : decode cX12_hill 42 = .ok (.putfield 58, 3) := by decide +kernel
theorem dX12_hill_45 : decode cX12_hill 45 = .ok (.aload_n 0, 1) := by decide +kernel
theorem dX12_hill_46 : decode cX12_hill 46 = .ok (.getfield 74, 3) := by decide +kernel
theorem dX12_hill_49 : decode cX12_hill 49 = .ok (.ifCond .eq 9, 3) := by decide +kernel
theorem dX12_hill_52 : decode cX12_hill 52 = .ok (.aload_n 0, 1) := by decide +kernel
theorem dX12_hill_53 : decode cX12_hill 53 = .ok (.iconst 4, 1) := by decide +kernel
theorem dX12_hill_54 : decode cX12_hill 54 = .ok (.invokevirtual 66, 3) := by decide +kernel
theorem dX12_hill_57 : decode cX12_hill 57 = .ok (.ireturn, 1) := by decide +kernel
theorem dX12_hill_58 : decode cX12_hill 58 = .ok (.aload_n 0, 1) := by decide +kernel
theorem dX12_hill_59 : decode cX12_hill 59 = .ok (.getfield 26, 3) := by decide +kernel
theorem dX12_hill_62 : decode cX12_hill 62 = .ok (.astore_n 2, 1) := by decide +kernel
theorem dX12_hill_63 : decode cX12_hill 63 = .ok (.aload_n 0, 1) := by decide +kernel
theorem dX12_hill_64 : decode cX12_hill 64 = .ok (.aload_n 0, 1) := by decide +kernel
theorem dX12_hill_65 : decode cX12_hill 65 = .ok (.getfield 30, 3) := by decide +kernel
theorem dX12_hill_68 : decode cX12_hill 68 = .ok (.putfield 26, 3) := by decide +kernel
theorem dX12_hill_71 : decode cX12_hill 71 = .ok (.aload_n 0, 1) := by decide +kernel
theorem dX12_hill_72 : decode cX12_hill 72 = .ok (.aload_n 2, 1) := by decide +kernel
theorem dX12_hill_73 : decode cX12_hill 73 = .ok (.putfield 30, 3) := by decide +kernel
theorem dX12_hill_76 : decode cX12_hill 76 = .ok (.aload_n 0, 1) := by decide +kernel
theorem dX12_hill_77 : decode cX12_hill 77 = .ok (.getfield 19, 3) := by decide +kernel
theorem dX12_hill_80 : decode cX12_hill 80 = .ok (.invokevirtual 77, 3) := by decide +kernel
theorem dX12_hill_83 : decode cX12_hill 83 = .ok (.aload_n 0, 1) := by decide +kernel
theorem dX12_hill_84 : decode cX12_hill 84 = .ok (.getfield 47, 3) := by decide +kernel
theorem dX12_hill_87 : decode cX12_hill 87 = .ok (.aload_n 0, 1) := by decide +kernel
theorem dX12_hill_88 : decode cX12_hill 88 = .ok (.getfield 26, 3) := by decide +kernel
theorem dX12_hill_91 : decode cX12_hill 91 = .ok (.invokevirtual 80, 3) := by decide +kernel
theorem dX12_hill_94 : decode cX12_hill 94 = .ok (.aload_n 0, 1) := by decide +kernel
theorem dX12_hill_95 : decode cX12_hill 95 = .ok (.getfield 54, 3) := by decide +kernel
theorem dX12_hill_98 : decode cX12_hill 98 = .ok (.aload_n 0, 1) := by decide +kernel
theorem dX12_hill_99 : decode cX12_hill 99 = .ok (.getfield 26, 3) := by decide +kernel
theorem dX12_hill_102 : decode cX12_hill 102 = .ok (.invokevirtual 84, 3) := by decide +kernel
theorem dX12_hill_105 : decode cX12_hill 105 = .ok (.aload_n 0, 1) := by decide +kernel
theorem dX12_hill_106 : decode cX12_hill 106 = .ok (.aload_n 0, 1) := by decide +kernel
theorem dX12_hill_107 : decode cX12_hill 107 = .ok (.getfield 26, 3) := by decide +kernel
theorem dX12_hill_110 : decode cX12_hill 110 = .ok (.getfield 85, 3) := by decide +kernel
theorem dX12_hill_113 : decode cX12_hill 113 = .ok (.invokevirtual 88, 3) := by decide +kernel
theorem dX12_hill_116 : decode cX12_hill 116 = .ok (.ireturn, 1) := by decide +kernel
set_option maxRecDepth 100000 in
set_option maxHeartbeats 4000000 in
theorem mX12_hill {E : goEv} {l : Launch} {G : goG} {N : Nat} {M : goMI} {L : goML} {R : goMR} {v1 : Int32} {r0 : Int32} {r1 : goMI} {r2 : goML} {r3 : goMR} (hk : goKn E) (hW : goW G R) (h : fX12_hill N M L R v1 = some (r0, r1, r2, r3)) : Met l yX12_hill (goCd yX12_hill cX12_hill 3 (Option.some FieldType.int)) (goRoom 11 239 0 0) (goPre E [.ref 0, .int v1] G M L R) (goQi E r0 G r1 r2 r3) 0 0 (goSet E) := by
  refine goMet pl_RX12 hk (lv := [some (.ref 0), some (.int v1), none]) rfl (Nat.le_of_ble_eq_true rfl) ?_
  intro X hc hl hR hr hnm
  subst hl
  unfold fX12_hill at h
  refine go_iload1 hc dX12_hill_0 ?_
  refine go_if_lt hc 15 dX12_hill_1 rfl (fun c11 => ?_) (fun c11 => ?_)
  · replace h := goIfF h c11
    refine go_aload0 hc dX12_hill_15 ?_
    refine go_iconst (v := 2) hc dX12_hill_16 rfl ?_
    replace h := goB2_h h; obtain ⟨x12, M13, e14, h⟩ := h
    refine go_callVi hc dX12_hill_17 (mX12_refuse hk hW e14) ml_RX12_66 yk_X12_refuse ⟨wim_X12_refuse, wse_X12_refuse⟩ hR rfl (sh_0 hW) rfl rfl rfl (Nat.le_of_ble_eq_true rfl) rfl ?_
    cases h
    exact go_iret hc dX12_hill_20 hr
  · replace h := goIfT h c11
    refine go_iload1 hc dX12_hill_4 ?_
    refine go_aload0 hc dX12_hill_5 ?_
    refine go_getR hc lk_RX12_10 dX12_hill_6 (sh_0 hW) (rf_0_0 hW) ?_
    refine go_getI hc lk_RX12_58 dX12_hill_9 (sh_1 hW) ?_
    refine go_icmp_le hc 21 dX12_hill_12 rfl (fun c15 => ?_) (fun c15 => ?_)
    · replace h := goIfF h c15
      refine go_aload0 hc dX12_hill_21 ?_
      refine go_aload0 hc dX12_hill_22 ?_
      refine go_getR hc lk_RX12_38 dX12_hill_23 (sh_0 hW) (rf_0_1 hW) ?_
      refine go_aload0 hc dX12_hill_26 ?_
      have m16 := (mm_0_6 hW)
      refine go_getR hc lk_RX12_30 dX12_hill_27 (sh_0 hW) (rm_0_6 hW) ?_
      refine go_iload1 hc dX12_hill_30 ?_
      replace h := goB3_h h; obtain ⟨x17, M18, L19, e20, h⟩ := h
      refine go_callVi hc dX12_hill_31 (mX9_read hk hW m16 e20) ml_RX12_70 yk_X9_read ⟨wim_X9_read, wse_X9_read⟩ hR rfl (sh_67 hW) rfl rfl rfl (Nat.le_of_ble_eq_true rfl) rfl ?_
      replace hW := rX9_read_W hW m16
      replace h := goNm_x h; obtain ⟨M21, e22, h⟩ := h
      refine go_ptI hc lk_RX12_74 dX12_hill_34 (sh_0 hW) e22 ?_
      refine go_aload0 hc dX12_hill_37 ?_
      refine go_getR hc lk_RX12_10 dX12_hill_38 (sh_0 hW) (rf_0_0 hW) ?_
      refine go_iconst (v := 0) hc dX12_hill_41 rfl ?_
      replace h := goNm_x h; obtain ⟨M23, e24, h⟩ := h
      refine go_ptI hc lk_RX12_58 dX12_hill_42 (sh_1 hW) e24 ?_
      refine go_aload0 hc dX12_hill_45 ?_
      refine go_getI hc lk_RX12_74 dX12_hill_46 (sh_0 hW) ?_
      refine go_if_eq hc 58 dX12_hill_49 rfl (fun c25 => ?_) (fun c25 => ?_)
      · replace h := goIfT h c25
        refine go_aload0 hc dX12_hill_58 ?_
        have m26 := (mm_0_5 hW)
        refine go_getR hc lk_RX12_26 dX12_hill_59 (sh_0 hW) (rm_0_5 hW) ?_
        refine go_astore2 hc dX12_hill_62 ?_
        refine go_aload0 hc dX12_hill_63 ?_
        refine go_aload0 hc dX12_hill_64 ?_
        have m27 := (mm_0_6 hW)
        refine go_getR hc lk_RX12_30 dX12_hill_65 (sh_0 hW) (rm_0_6 hW) ?_
        refine go_putR hc (.object "GoatCourt$Hill") lk_RX12_26 (by decide +kernel) (fun _ => ⟨rfl, rfl⟩) dX12_hill_68 (sh_0 hW) ?_
        replace hW := pt_0_5 hW m27
        refine go_aload0 hc dX12_hill_71 ?_
        refine go_aload2 hc dX12_hill_72 ?_
        refine go_putR hc (.object "GoatCourt$Hill") lk_RX12_30 (by decide +kernel) (fun _ => ⟨rfl, rfl⟩) dX12_hill_73 (sh_0 hW) ?_
        replace hW := pt_0_6 hW m26
        refine go_aload0 hc dX12_hill_76 ?_
        refine go_getR hc lk_RX12_19 dX12_hill_77 (sh_0 hW) (rf_0_2 hW) ?_
        replace h := goBind h; obtain ⟨M28, e29, h⟩ := h
        refine go_callVv hc dX12_hill_80 (mX1_clear hk hW e29) ml_RX12_77 yk_X1_clear ⟨wim_X1_clear, wse_X1_clear⟩ hR rfl (sh_3 hW) rfl rfl rfl (Nat.le_of_ble_eq_true rfl) rfl ?_
        refine go_aload0 hc dX12_hill_83 ?_
        refine go_getR hc lk_RX12_47 dX12_hill_84 (sh_0 hW) (rf_0_3 hW) ?_
        refine go_aload0 hc dX12_hill_87 ?_
        have m30 := (mm_0_5 hW)
        refine go_getR hc lk_RX12_26 dX12_hill_88 (sh_0 hW) (rm_0_5 hW) ?_
        replace h := goBind h; obtain ⟨_, e31, h⟩ := h
        refine go_callVv hc dX12_hill_91 (mX4_use hk hW m30 e31) ml_RX12_80 yk_X4_use ⟨wim_X4_use, wse_X4_use⟩ hR rfl (sh_74 hW) rfl rfl rfl (Nat.le_of_ble_eq_true rfl) rfl ?_
        replace hW := rX4_use_W hW m30
        refine go_aload0 hc dX12_hill_94 ?_
        refine go_getR hc lk_RX12_54 dX12_hill_95 (sh_0 hW) (rf_0_4 hW) ?_
        refine go_aload0 hc dX12_hill_98 ?_
        have m32 := (mm_0_5 hW)
        refine go_getR hc lk_RX12_26 dX12_hill_99 (sh_0 hW) (rm_0_5 hW) ?_
        replace h := goBind h; obtain ⟨_, e33, h⟩ := h
        refine go_callVv hc dX12_hill_102 (mX8_use hk hW m32 e33) ml_RX12_84 yk_X8_use ⟨wim_X8_use, wse_X8_use⟩ hR rfl (sh_88 hW) rfl rfl rfl (Nat.le_of_ble_eq_true rfl) rfl ?_
        replace hW := rX8_use_W hW m32
        refine go_aload0 hc dX12_hill_105 ?_
        refine go_aload0 hc dX12_hill_106 ?_
        have m34 := (mm_0_5 hW)
        refine go_getR hc lk_RX12_26 dX12_hill_107 (sh_0 hW) (rm_0_5 hW) ?_
        refine go_getI hc lk_RX12_85 dX12_hill_110 (shHill_0 hW m34) ?_
        replace h := goB2_h h; obtain ⟨x35, M36, e37, h⟩ := h
        refine go_callVi hc dX12_hill_113 (mX12_answer hk hW e37) ml_RX12_88 yk_X12_answer ⟨wim_X12_answer, wse_X12_answer⟩ hR rfl (sh_0 hW) rfl rfl rfl (Nat.le_of_ble_eq_true rfl) rfl ?_
        cases h
        exact go_iret hc dX12_hill_116 hr
      · replace h := goIfF h c25
        refine go_aload0 hc dX12_hill_52 ?_
        refine go_iconst (v := 4) hc dX12_hill_53 rfl ?_
        replace h := goB2_h h; obtain ⟨x38, M39, e40, h⟩ := h
        refine go_callVi hc dX12_hill_54 (mX12_refuse hk hW e40) ml_RX12_66 yk_X12_refuse ⟨wim_X12_refuse, wse_X12_refuse⟩ hR rfl (sh_0 hW) rfl rfl rfl (Nat.le_of_ble_eq_true rfl) rfl ?_
        cases h
        exact go_iret hc dX12_hill_57 hr
    · replace h := goIfT h c15
      refine go_aload0 hc dX12_hill_15 ?_
      refine go_iconst (v := 2) hc dX12_hill_16 rfl ?_
      replace h := goB2_h h; obtain ⟨x41, M42, e43, h⟩ := h
      refine go_callVi hc dX12_hill_17 (mX12_refuse hk hW e43) ml_RX12_66 yk_X12_refuse ⟨wim_X12_refuse, wse_X12_refuse⟩ hR rfl (sh_0 hW) rfl rfl rfl (Nat.le_of_ble_eq_true rfl) rfl ?_
      cases h
      exact go_iret hc dX12_hill_20 hr
theorem dX12_fault_0 : decode cX12_fault 0 = .ok (.aload_n 0, 1) := by decide +kernel
theorem dX12_fault_1 : decode cX12_fault 1 = .ok (.getfield 74, 3) := by decide +kernel
theorem dX12_fault_4 : decode cX12_fault 4 = .ok (.ireturn, 1) := by decide +kernel
set_option maxRecDepth 100000 in
set_option maxHeartbeats 4000000 in
theorem mX12_fault {E : goEv} {l : Launch} {G : goG} {M : goMI} {L : goML} {R : goMR} {r0 : Int32} (hk : goKn E) (hW : goW G R) (h : fX12_fault M = r0) : Met l yX12_fault (goCd yX12_fault cX12_fault 1 (Option.some FieldType.int)) (goRoom 0 0 0 0) (goPre E [.ref 0] G M L R) (goQi E r0 G M L R) 0 0 (goSet E) := by
  refine goMet pl_RX12 hk (lv := [some (.ref 0)]) rfl (Nat.le_of_ble_eq_true rfl) ?_
  intro X hc hl hR hr hnm
  subst hl
  unfold fX12_fault at h
  refine go_aload0 hc dX12_fault_0 ?_
  refine go_getI hc lk_RX12_74 dX12_fault_1 (sh_0 hW) ?_
  subst h
  exact go_iret hc dX12_fault_4 hr
theorem dX12_where_0 : decode cX12_where 0 = .ok (.aload_n 0, 1) := by decide +kernel
theorem dX12_where_1 : decode cX12_where 1 = .ok (.getfield 91, 3) := by decide +kernel
theorem dX12_where_4 : decode cX12_where 4 = .ok (.iconst 4, 1) := by decide +kernel
theorem dX12_where_5 : decode cX12_where 5 = .ok (.if_icmp .ne 13, 3) := by decide +kernel
theorem dX12_where_8 : decode cX12_where 8 = .ok (.aload_n 0, 1) := by decide +kernel
theorem dX12_where_9 : decode cX12_where 9 = .ok (.getfield 38, 3) := by decide +kernel
theorem dX12_where_12 : decode cX12_where 12 = .ok (.getfield 94, 3) := by decide +kernel
theorem dX12_where_15 : decode cX12_where 15 = .ok (.goto 4, 3) := by decide +kernel
theorem dX12_where_18 : decode cX12_where 18 = .ok (.iconst (-1), 1) := by decide +kernel
theorem dX12_where_19 : decode cX12_where 19 = .ok (.ireturn, 1) := by decide +kernel
set_option maxRecDepth 100000 in
set_option maxHeartbeats 4000000 in
theorem mX12_where {E : goEv} {l : Launch} {G : goG} {M : goMI} {L : goML} {R : goMR} {r0 : Int32} (hk : goKn E) (hW : goW G R) (h : fX12_where M = r0) : Met l yX12_where (goCd yX12_where cX12_where 1 (Option.some FieldType.int)) (goRoom 0 0 0 0) (goPre E [.ref 0] G M L R) (goQi E r0 G M L R) 0 0 (goSet E) := by
  refine goMet pl_RX12 hk (lv := [some (.ref 0)]) rfl (Nat.le_of_ble_eq_true rfl) ?_
  intro X hc hl hR hr hnm
  subst hl
  unfold fX12_where at h
  refine go_aload0 hc dX12_where_0 ?_
  refine go_getI hc lk_RX12_91 dX12_where_1 (sh_0 hW) ?_
  refine go_iconst (v := 4) hc dX12_where_4 rfl ?_
  refine go_icmp_ne hc 18 dX12_where_5 rfl (fun c11 => ?_) (fun c11 => ?_)
  · replace h := goIfF h c11
    refine go_iconst (v := (-1)) hc dX12_where_18 rfl ?_
    subst h
    exact go_iret hc dX12_where_19 hr
  · replace h := goIfT h c11
    refine go_aload0 hc dX12_where_8 ?_
    refine go_getR hc lk_RX12_38 dX12_where_9 (sh_0 hW) (rf_0_1 hW) ?_
    refine go_getI hc lk_RX12_94 dX12_where_12 (sh_67 hW) ?_
    refine go_goto hc 19 dX12_where_15 rfl ?_
    subst h
    exact go_iret hc dX12_where_19 hr
theorem dX12_isPlace_0 : decode cX12_isPlace 0 = .ok (.iload_n 1, 1) := by decide +kernel
theorem dX12_isPlace_1 : decode cX12_isPlace 1 = .ok (.aload_n 0, 1) := by decide +kernel
theorem dX12_isPlace_2 : decode cX12_isPlace 2 = .ok (.getfield 26, 3) := by decide +kernel
theorem dX12_isPlace_5 : decode cX12_isPlace 5 = .ok (.getfield 375, 3) := by decide +kernel
theorem dX12_isPlace_8 : decode cX12_isPlace 8 = .ok (.invokestatic 156, 3) := by decide +kernel
theorem dX12_isPlace_11 : decode cX12_isPlace 11 = .ok (.ireturn, 1) := by decide +kernel
theorem zX12_isPlace {M : goMI} {R : goMR} {v1 : Int32} : fX12_isPlace M R v1 = 0 ∨ fX12_isPlace M R v1 = 1 := by
  unfold fX12_isPlace
  first | exact zX12_within | ((repeat' split) <;> simp; done) | (simp only [goNm]; (repeat' split) <;> simp)
set_option maxRecDepth 100000 in
set_option maxHeartbeats 4000000 in
theorem mX12_isPlace {E : goEv} {l : Launch} {G : goG} {M : goMI} {L : goML} {R : goMR} {v1 : Int32} {r0 : Int32} (hk : goKn E) (hW : goW G R) (h : fX12_isPlace M R v1 = r0) : Met l yX12_isPlace (goCd yX12_isPlace cX12_isPlace 2 (Option.some FieldType.boolean)) (goRoom 1 21 0 0) (goPre E [.ref 0, .int v1] G M L R) (goQi E r0 G M L R) 0 0 (goSet E) := by
  refine goMet pl_RX12 hk (lv := [some (.ref 0), some (.int v1)]) rfl (Nat.le_of_ble_eq_true rfl) ?_
  intro X hc hl hR hr hnm
  subst hl
  unfold fX12_isPlace at h
  refine go_iload1 hc dX12_isPlace_0 ?_
  refine go_aload0 hc dX12_isPlace_1 ?_
  refine go_getR hc lk_RX12_26 dX12_isPlace_2 (sh_0 hW) (rm_0_5 hW) ?_
  refine go_getI hc lk_RX12_375 dX12_isPlace_5 (shHill_0 hW (mm_0_5 hW)) ?_
  refine go_callSi hc dX12_isPlace_8 (mX12_within hk hW rfl) ml_RX12_156 yk_X12_within wst_X12_within hR rfl rfl rfl (Nat.le_of_ble_eq_true rfl) rfl ?_
  subst h
  exact go_zret hc dX12_isPlace_11 hr (goZ_n zX12_within)
theorem dX12_isPlant_0 : decode cX12_isPlant 0 = .ok (.iload_n 1, 1) := by decide +kernel
theorem dX12_isPlant_1 : decode cX12_isPlant 1 = .ok (.aload_n 0, 1) := by decide +kernel
theorem dX12_isPlant_2 : decode cX12_isPlant 2 = .ok (.getfield 26, 3) := by decide +kernel
theorem dX12_isPlant_5 : decode cX12_isPlant 5 = .ok (.getfield 372, 3) := by decide +kernel
theorem dX12_isPlant_8 : decode cX12_isPlant 8 = .ok (.invokestatic 156, 3) := by decide +kernel
theorem dX12_isPlant_11 : decode cX12_isPlant 11 = .ok (.ireturn, 1) := by decide +kernel
theorem zX12_isPlant {M : goMI} {R : goMR} {v1 : Int32} : fX12_isPlant M R v1 = 0 ∨ fX12_isPlant M R v1 = 1 := by
  unfold fX12_isPlant
  first | exact zX12_within | ((repeat' split) <;> simp; done) | (simp only [goNm]; (repeat' split) <;> simp)
set_option maxRecDepth 100000 in
set_option maxHeartbeats 4000000 in
theorem mX12_isPlant {E : goEv} {l : Launch} {G : goG} {M : goMI} {L : goML} {R : goMR} {v1 : Int32} {r0 : Int32} (hk : goKn E) (hW : goW G R) (h : fX12_isPlant M R v1 = r0) : Met l yX12_isPlant (goCd yX12_isPlant cX12_isPlant 2 (Option.some FieldType.boolean)) (goRoom 1 21 0 0) (goPre E [.ref 0, .int v1] G M L R) (goQi E r0 G M L R) 0 0 (goSet E) := by
  refine goMet pl_RX12 hk (lv := [some (.ref 0), some (.int v1)]) rfl (Nat.le_of_ble_eq_true rfl) ?_
  intro X hc hl hR hr hnm
  subst hl
  unfold fX12_isPlant at h
  refine go_iload1 hc dX12_isPlant_0 ?_
  refine go_aload0 hc dX12_isPlant_1 ?_
  refine go_getR hc lk_RX12_26 dX12_isPlant_2 (sh_0 hW) (rm_0_5 hW) ?_
  refine go_getI hc lk_RX12_372 dX12_isPlant_5 (shHill_0 hW (mm_0_5 hW)) ?_
  refine go_callSi hc dX12_isPlant_8 (mX12_within hk hW rfl) ml_RX12_156 yk_X12_within wst_X12_within hR rfl rfl rfl (Nat.le_of_ble_eq_true rfl) rfl ?_
  subst h
  exact go_zret hc dX12_isPlant_11 hr (goZ_n zX12_within)
theorem dX12_plants_0 : decode cX12_plants 0 = .ok (.aload_n 0, 1) := by decide +kernel
theorem dX12_plants_1 : decode cX12_plants 1 = .ok (.iload_n 1, 1) := by decide +kernel
theorem dX12_plants_2 : decode cX12_plants 2 = .ok (.invokevirtual 97, 3) := by decide +kernel
theorem dX12_plants_5 : decode cX12_plants 5 = .ok (.ifCond .eq 11, 3) := by decide +kernel
theorem dX12_plants_8 : decode cX12_plants 8 = .ok (.aload_n 0, 1) := by decide +kernel
theorem dX12_plants_9 : decode cX12_plants 9 = .ok (.iload_n 2, 1) := by decide +kernel
theorem dX12_plants_10 : decode cX12_plants 10 = .ok (.invokevirtual 101, 3) := by decide +kernel
theorem dX12_plants_13 : decode cX12_plants 13 = .ok (.ifCond .ne 9, 3) := by decide +kernel
theorem dX12_plants_16 : decode cX12_plants 16 = .ok (.aload_n 0, 1) := by decide +kernel
theorem dX12_plants_17 : decode cX12_plants 17 = .ok (.iconst 1, 1) := by decide +kernel
theorem dX12_plants_18 : decode cX12_plants 18 = .ok (.invokevirtual 66, 3) := by decide +kernel
theorem dX12_plants_21 : decode cX12_plants 21 = .ok (.ireturn, 1) := by decide +kernel
theorem dX12_plants_22 : decode cX12_plants 22 = .ok (.aload_n 0, 1) := by decide +kernel
theorem dX12_plants_23 : decode cX12_plants 23 = .ok (.aload_n 0, 1) := by decide +kernel
theorem dX12_plants_24 : decode cX12_plants 24 = .ok (.getfield 26, 3) := by decide +kernel
theorem dX12_plants_27 : decode cX12_plants 27 = .ok (.getfield 104, 3) := by decide +kernel
theorem dX12_plants_30 : decode cX12_plants 30 = .ok (.iload_n 1, 1) := by decide +kernel
theorem dX12_plants_31 : decode cX12_plants 31 = .ok (.iaload, 1) := by decide +kernel
theorem dX12_plants_32 : decode cX12_plants 32 = .ok (.iload_n 2, 1) := by decide +kernel
theorem dX12_plants_33 : decode cX12_plants 33 = .ok (.invokestatic 108, 3) := by decide +kernel
theorem dX12_plants_36 : decode cX12_plants 36 = .ok (.invokevirtual 88, 3) := by decide +kernel
theorem dX12_plants_39 : decode cX12_plants 39 = .ok (.ireturn, 1) := by decide +kernel
set_option maxRecDepth 100000 in
set_option maxHeartbeats 4000000 in
theorem mX12_plants {E : goEv} {l : Launch} {G : goG} {M : goMI} {L : goML} {R : goMR} {v1 : Int32} {v2 : Int32} {r0 : Int32} {r1 : goMI} (hk : goKn E) (hW : goW G R) (h : fX12_plants M R v1 v2 = some (r0, r1)) : Met l yX12_plants (goCd yX12_plants cX12_plants 3 (Option.some FieldType.int)) (goRoom 2 42 0 0) (goPre E [.ref 0, .int v1, .int v2] G M L R) (goQi E r0 G r1 L R) 0 0 (goSet E) := by
  refine goMet pl_RX12 hk (lv := [some (.ref 0), some (.int v1), some (.int v2)]) rfl (Nat.le_of_ble_eq_true rfl) ?_
  intro X hc hl hR hr hnm
  subst hl
  unfold fX12_plants at h
  refine go_aload0 hc dX12_plants_0 ?_
  refine go_iload1 hc dX12_plants_1 ?_
  refine go_callVi hc dX12_plants_2 (mX12_isPlace hk hW rfl) ml_RX12_97 yk_X12_isPlace ⟨wim_X12_isPlace, wse_X12_isPlace⟩ hR rfl (sh_0 hW) rfl rfl rfl (Nat.le_of_ble_eq_true rfl) rfl ?_
  refine go_if_eq hc 16 dX12_plants_5 rfl (fun c11 => ?_) (fun c11 => ?_)
  · replace h := goIfT h c11
    refine go_aload0 hc dX12_plants_16 ?_
    refine go_iconst (v := 1) hc dX12_plants_17 rfl ?_
    replace h := goB2_h h; obtain ⟨x12, M13, e14, h⟩ := h
    refine go_callVi hc dX12_plants_18 (mX12_refuse hk hW e14) ml_RX12_66 yk_X12_refuse ⟨wim_X12_refuse, wse_X12_refuse⟩ hR rfl (sh_0 hW) rfl rfl rfl (Nat.le_of_ble_eq_true rfl) rfl ?_
    cases h
    exact go_iret hc dX12_plants_21 hr
  · replace h := goIfF h c11
    refine go_aload0 hc dX12_plants_8 ?_
    refine go_iload2 hc dX12_plants_9 ?_
    refine go_callVi hc dX12_plants_10 (mX12_isPlant hk hW rfl) ml_RX12_101 yk_X12_isPlant ⟨wim_X12_isPlant, wse_X12_isPlant⟩ hR rfl (sh_0 hW) rfl rfl rfl (Nat.le_of_ble_eq_true rfl) rfl ?_
    refine go_if_ne hc 22 dX12_plants_13 rfl (fun c15 => ?_) (fun c15 => ?_)
    · replace h := goIfF h c15
      refine go_aload0 hc dX12_plants_22 ?_
      refine go_aload0 hc dX12_plants_23 ?_
      refine go_getR hc lk_RX12_26 dX12_plants_24 (sh_0 hW) (rm_0_5 hW) ?_
      refine go_getR hc lk_RX12_104 dX12_plants_27 (shHill_0 hW (mm_0_5 hW)) (rfHill_7 hW (mm_0_5 hW)) ?_
      refine go_iload1 hc dX12_plants_30 ?_
      replace h := goBind h; obtain ⟨x16, e17, h⟩ := h
      refine go_iald hc dX12_plants_31 (shHill_1 hW (mm_0_5 hW)) e17 ?_
      refine go_iload2 hc dX12_plants_32 ?_
      refine go_callSi hc dX12_plants_33 (mX12_countOf hk hW rfl) ml_RX12_108 yk_X12_countOf wst_X12_countOf hR rfl rfl rfl (Nat.le_of_ble_eq_true rfl) rfl ?_
      replace h := goB2_h h; obtain ⟨x18, M19, e20, h⟩ := h
      refine go_callVi hc dX12_plants_36 (mX12_answer hk hW e20) ml_RX12_88 yk_X12_answer ⟨wim_X12_answer, wse_X12_answer⟩ hR rfl (sh_0 hW) rfl rfl rfl (Nat.le_of_ble_eq_true rfl) rfl ?_
      cases h
      exact go_iret hc dX12_plants_39 hr
    · replace h := goIfT h c15
      refine go_aload0 hc dX12_plants_16 ?_
      refine go_iconst (v := 1) hc dX12_plants_17 rfl ?_
      replace h := goB2_h h; obtain ⟨x21, M22, e23, h⟩ := h
      refine go_callVi hc dX12_plants_18 (mX12_refuse hk hW e23) ml_RX12_66 yk_X12_refuse ⟨wim_X12_refuse, wse_X12_refuse⟩ hR rfl (sh_0 hW) rfl rfl rfl (Nat.le_of_ble_eq_true rfl) rfl ?_
      cases h
      exact go_iret hc dX12_plants_21 hr
theorem dX12_near_0 : decode cX12_near 0 = .ok (.aload_n 0, 1) := by decide +kernel
theorem dX12_near_1 : decode cX12_near 1 = .ok (.iload_n 1, 1) := by decide +kernel
theorem dX12_near_2 : decode cX12_near 2 = .ok (.invokevirtual 97, 3) := by decide +kernel
theorem dX12_near_5 : decode cX12_near 5 = .ok (.ifCond .eq 19, 3) := by decide +kernel
theorem dX12_near_8 : decode cX12_near 8 = .ok (.aload_n 0, 1) := by decide +kernel
theorem dX12_near_9 : decode cX12_near 9 = .ok (.aload_n 0, 1) := by decide +kernel
theorem dX12_near_10 : decode cX12_near 10 = .ok (.getfield 26, 3) := by decide +kernel
theorem dX12_near_13 : decode cX12_near 13 = .ok (.getfield 112, 3) := by decide +kernel
theorem dX12_near_16 : decode cX12_near 16 = .ok (.iload_n 1, 1) := by decide +kernel
theorem dX12_near_17 : decode cX12_near 17 = .ok (.iaload, 1) := by decide +kernel
theorem dX12_near_18 : decode cX12_near 18 = .ok (.invokevirtual 88, 3) := by decide +kernel
theorem dX12_near_21 : decode cX12_near 21 = .ok (.goto 8, 3) := by decide +kernel
theorem dX12_near_24 : decode cX12_near 24 = .ok (.aload_n 0, 1) := by decide +kernel
theorem dX12_near_25 : decode cX12_near 25 = .ok (.iconst 1, 1) := by decide +kernel
theorem dX12_near_26 : decode cX12_near 26 = .ok (.invokevirtual 66, 3) := by decide +kernel
theorem dX12_near_29 : decode cX12_near 29 = .ok (.ireturn, 1) := by decide +kernel
set_option maxRecDepth 100000 in
set_option maxHeartbeats 4000000 in
theorem mX12_near {E : goEv} {l : Launch} {G : goG} {M : goMI} {L : goML} {R : goMR} {v1 : Int32} {r0 : Int32} {r1 : goMI} (hk : goKn E) (hW : goW G R) (h : fX12_near M R v1 = some (r0, r1)) : Met l yX12_near (goCd yX12_near cX12_near 2 (Option.some FieldType.int)) (goRoom 2 42 0 0) (goPre E [.ref 0, .int v1] G M L R) (goQi E r0 G r1 L R) 0 0 (goSet E) := by
  refine goMet pl_RX12 hk (lv := [some (.ref 0), some (.int v1)]) rfl (Nat.le_of_ble_eq_true rfl) ?_
  intro X hc hl hR hr hnm
  subst hl
  unfold fX12_near at h
  refine go_aload0 hc dX12_near_0 ?_
  refine go_iload1 hc dX12_near_1 ?_
  refine go_callVi hc dX12_near_2 (mX12_isPlace hk hW rfl) ml_RX12_97 yk_X12_isPlace ⟨wim_X12_isPlace, wse_X12_isPlace⟩ hR rfl (sh_0 hW) rfl rfl rfl (Nat.le_of_ble_eq_true rfl) rfl ?_
  refine go_if_eq hc 24 dX12_near_5 rfl (fun c11 => ?_) (fun c11 => ?_)
  · replace h := goIfT h c11
    refine go_aload0 hc dX12_near_24 ?_
    refine go_iconst (v := 1) hc dX12_near_25 rfl ?_
    replace h := goB2_h h; obtain ⟨x12, M13, e14, h⟩ := h
    refine go_callVi hc dX12_near_26 (mX12_refuse hk hW e14) ml_RX12_66 yk_X12_refuse ⟨wim_X12_refuse, wse_X12_refuse⟩ hR rfl (sh_0 hW) rfl rfl rfl (Nat.le_of_ble_eq_true rfl) rfl ?_
    cases h
    exact go_iret hc dX12_near_29 hr
  · replace h := goIfF h c11
    refine go_aload0 hc dX12_near_8 ?_
    refine go_aload0 hc dX12_near_9 ?_
    refine go_getR hc lk_RX12_26 dX12_near_10 (sh_0 hW) (rm_0_5 hW) ?_
    refine go_getR hc lk_RX12_112 dX12_near_13 (shHill_0 hW (mm_0_5 hW)) (rfHill_8 hW (mm_0_5 hW)) ?_
    refine go_iload1 hc dX12_near_16 ?_
    replace h := goBind h; obtain ⟨x15, e16, h⟩ := h
    refine go_iald hc dX12_near_17 (shHill_2 hW (mm_0_5 hW)) e16 ?_
    replace h := goB2_h h; obtain ⟨x17, M18, e19, h⟩ := h
    refine go_callVi hc dX12_near_18 (mX12_answer hk hW e19) ml_RX12_88 yk_X12_answer ⟨wim_X12_answer, wse_X12_answer⟩ hR rfl (sh_0 hW) rfl rfl rfl (Nat.le_of_ble_eq_true rfl) rfl ?_
    refine go_goto hc 29 dX12_near_21 rfl ?_
    cases h
    exact go_iret hc dX12_near_29 hr
theorem dX12_isGoat_0 : decode cX12_isGoat 0 = .ok (.iload_n 1, 1) := by decide +kernel
theorem dX12_isGoat_1 : decode cX12_isGoat 1 = .ok (.aload_n 0, 1) := by decide +kernel
theorem dX12_isGoat_2 : decode cX12_isGoat 2 = .ok (.getfield 26, 3) := by decide +kernel
theorem dX12_isGoat_5 : decode cX12_isGoat 5 = .ok (.getfield 118, 3) := by decide +kernel
theorem dX12_isGoat_8 : decode cX12_isGoat 8 = .ok (.getfield 381, 3) := by decide +kernel
theorem dX12_isGoat_11 : decode cX12_isGoat 11 = .ok (.invokestatic 156, 3) := by decide +kernel
theorem dX12_isGoat_14 : decode cX12_isGoat 14 = .ok (.ireturn, 1) := by decide +kernel
theorem zX12_isGoat {M : goMI} {R : goMR} {v1 : Int32} : fX12_isGoat M R v1 = 0 ∨ fX12_isGoat M R v1 = 1 := by
  unfold fX12_isGoat
  first | exact zX12_within | ((repeat' split) <;> simp; done) | (simp only [goNm]; (repeat' split) <;> simp)
set_option maxRecDepth 100000 in
set_option maxHeartbeats 4000000 in
theorem mX12_isGoat {E : goEv} {l : Launch} {G : goG} {M : goMI} {L : goML} {R : goMR} {v1 : Int32} {r0 : Int32} (hk : goKn E) (hW : goW G R) (h : fX12_isGoat M R v1 = r0) : Met l yX12_isGoat (goCd yX12_isGoat cX12_isGoat 2 (Option.some FieldType.boolean)) (goRoom 1 21 0 0) (goPre E [.ref 0, .int v1] G M L R) (goQi E r0 G M L R) 0 0 (goSet E) := by
  refine goMet pl_RX12 hk (lv := [some (.ref 0), some (.int v1)]) rfl (Nat.le_of_ble_eq_true rfl) ?_
  intro X hc hl hR hr hnm
  subst hl
  unfold fX12_isGoat at h
  refine go_iload1 hc dX12_isGoat_0 ?_
  refine go_aload0 hc dX12_isGoat_1 ?_
  refine go_getR hc lk_RX12_26 dX12_isGoat_2 (sh_0 hW) (rm_0_5 hW) ?_
  refine go_getR hc lk_RX12_118 dX12_isGoat_5 (shHill_0 hW (mm_0_5 hW)) (rfHill_15 hW (mm_0_5 hW)) ?_
  refine go_getI hc lk_RX12_381 dX12_isGoat_8 (shHerd_0 hW (subHerd (mm_0_5 hW))) ?_
  refine go_callSi hc dX12_isGoat_11 (mX12_within hk hW rfl) ml_RX12_156 yk_X12_within wst_X12_within hR rfl rfl rfl (Nat.le_of_ble_eq_true rfl) rfl ?_
  subst h
  exact go_zret hc dX12_isGoat_14 hr (goZ_n zX12_within)
theorem dX12_goat_0 : decode cX12_goat 0 = .ok (.aload_n 0, 1) := by decide +kernel
theorem dX12_goat_1 : decode cX12_goat 1 = .ok (.iload_n 1, 1) := by decide +kernel
theorem dX12_goat_2 : decode cX12_goat 2 = .ok (.invokevirtual 115, 3) := by decide +kernel
theorem dX12_goat_5 : decode cX12_goat 5 = .ok (.ifCond .ne 9, 3) := by decide +kernel
theorem dX12_goat_8 : decode cX12_goat 8 = .ok (.aload_n 0, 1) := by decide +kernel
theorem dX12_goat_9 : decode cX12_goat 9 = .ok (.iconst 1, 1) := by decide +kernel
theorem dX12_goat_10 : decode cX12_goat 10 = .ok (.invokevirtual 66, 3) := by decide +kernel
theorem dX12_goat_13 : decode cX12_goat 13 = .ok (.ireturn, 1) := by decide +kernel
theorem dX12_goat_14 : decode cX12_goat 14 = .ok (.aload_n 0, 1) := by decide +kernel
theorem dX12_goat_15 : decode cX12_goat 15 = .ok (.getfield 26, 3) := by decide +kernel
theorem dX12_goat_18 : decode cX12_goat 18 = .ok (.getfield 118, 3) := by decide +kernel
theorem dX12_goat_21 : decode cX12_goat 21 = .ok (.astore_n 3, 1) := by decide +kernel
theorem dX12_goat_22 : decode cX12_goat 22 = .ok (.iload_n 2, 1) := by decide +kernel
theorem dX12_goat_23 : decode cX12_goat 23 = .ok (.tableswitch 130 0 6 #[41, 52, 63, 74, 85, 96, 111], 41) := by decide +kernel
theorem dX12_goat_64 : decode cX12_goat 64 = .ok (.aload_n 0, 1) := by decide +kernel
theorem dX12_goat_65 : decode cX12_goat 65 = .ok (.aload_n 3, 1) := by decide +kernel
theorem dX12_goat_66 : decode cX12_goat 66 = .ok (.getfield 122, 3) := by decide +kernel
theorem dX12_goat_69 : decode cX12_goat 69 = .ok (.iload_n 1, 1) := by decide +kernel
theorem dX12_goat_70 : decode cX12_goat 70 = .ok (.iaload, 1) := by decide +kernel
theorem dX12_goat_71 : decode cX12_goat 71 = .ok (.invokevirtual 88, 3) := by decide +kernel
theorem dX12_goat_74 : decode cX12_goat 74 = .ok (.ireturn, 1) := by decide +kernel
theorem dX12_goat_75 : decode cX12_goat 75 = .ok (.aload_n 0, 1) := by decide +kernel
theorem dX12_goat_76 : decode cX12_goat 76 = .ok (.aload_n 3, 1) := by decide +kernel
theorem dX12_goat_77 : decode cX12_goat 77 = .ok (.getfield 127, 3) := by decide +kernel
theorem dX12_goat_80 : decode cX12_goat 80 = .ok (.iload_n 1, 1) := by decide +kernel
theorem dX12_goat_81 : decode cX12_goat 81 = .ok (.iaload, 1) := by decide +kernel
theorem dX12_goat_82 : decode cX12_goat 82 = .ok (.invokevirtual 88, 3) := by decide +kernel
theorem dX12_goat_85 : decode cX12_goat 85 = .ok (.ireturn, 1) := by decide +kernel
theorem dX12_goat_86 : decode cX12_goat 86 = .ok (.aload_n 0, 1) := by decide +kernel
theorem dX12_goat_87 : decode cX12_goat 87 = .ok (.aload_n 3, 1) := by decide +kernel
theorem dX12_goat_88 : decode cX12_goat 88 = .ok (.getfield 130, 3) := by decide +kernel
theorem dX12_goat_91 : decode cX12_goat 91 = .ok (.iload_n 1, 1) := by decide +kernel
theorem dX12_goat_92 : decode cX12_goat 92 = .ok (.iaload, 1) := by decide +kernel
theorem dX12_goat_93 : decode cX12_goat 93 = .ok (.invokevirtual 88, 3) := by decide +kernel
theorem dX12_goat_96 : decode cX12_goat 96 = .ok (.ireturn, 1) := by decide +kernel
theorem dX12_goat_97 : decode cX12_goat 97 = .ok (.aload_n 0, 1) := by decide +kernel
theorem dX12_goat_98 : decode cX12_goat 98 = .ok (.aload_n 3, 1) := by decide +kernel
theorem dX12_goat_99 : decode cX12_goat 99 = .ok (.getfield 133, 3) := by decide +kernel
theorem dX12_goat_102 : decode cX12_goat 102 = .ok (.iload_n 1, 1) := by decide +kernel
theorem dX12_goat_103 : decode cX12_goat 103 = .ok (.iaload, 1) := by decide +kernel
theorem dX12_goat_104 : decode cX12_goat 104 = .ok (.invokevirtual 88, 3) := by decide +kernel
theorem dX12_goat_107 : decode cX12_goat 107 = .ok (.ireturn, 1) := by decide +kernel
theorem dX12_goat_108 : decode cX12_goat 108 = .ok (.aload_n 0, 1) := by decide +kernel
theorem dX12_goat_109 : decode cX12_goat 109 = .ok (.aload_n 3, 1) := by decide +kernel
theorem dX12_goat_110 : decode cX12_goat 110 = .ok (.getfield 136, 3) := by decide +kernel
theorem dX12_goat_113 : decode cX12_goat 113 = .ok (.iload_n 1, 1) := by decide +kernel
theorem dX12_goat_114 : decode cX12_goat 114 = .ok (.iaload, 1) := by decide +kernel
theorem dX12_goat_115 : decode cX12_goat 115 = .ok (.invokevirtual 88, 3) := by decide +kernel
theorem dX12_goat_118 : decode cX12_goat 118 = .ok (.ireturn, 1) := by decide +kernel
theorem dX12_goat_119 : decode cX12_goat 119 = .ok (.aload_n 0, 1) := by decide +kernel
theorem dX12_goat_120 : decode cX12_goat 120 = .ok (.aload_n 3, 1) := by decide +kernel
theorem dX12_goat_121 : decode cX12_goat 121 = .ok (.iconst 1, 1) := by decide +kernel
theorem dX12_goat_122 : decode cX12_goat 122 = .ok (.iload_n 1, 1) := by decide +kernel
theorem dX12_goat_123 : decode cX12_goat 123 = .ok (.ishl, 1) := by decide +kernel
theorem dX12_goat_124 : decode cX12_goat 124 = .ok (.invokevirtual 139, 3) := by decide +kernel
theorem dX12_goat_127 : decode cX12_goat 127 = .ok (.invokestatic 142, 3) := by decide +kernel
theorem dX12_goat_130 : decode cX12_goat 130 = .ok (.invokevirtual 88, 3) := by decide +kernel
theorem dX12_goat_133 : decode cX12_goat 133 = .ok (.ireturn, 1) := by decide +kernel
theorem dX12_goat_134 : decode cX12_goat 134 = .ok (.aload_n 0, 1) := by decide +kernel
theorem dX12_goat_135 : decode cX12_goat 135 = .ok (.aload_n 0, 1) := by decide +kernel
theorem dX12_goat_136 : decode cX12_goat 136 = .ok (.getfield 19, 3) := by decide +kernel
theorem dX12_goat_139 : decode cX12_goat 139 = .ok (.getfield 147, 3) := by decide +kernel
theorem dX12_goat_142 : decode cX12_goat 142 = .ok (.bipush 25, 2) := by decide +kernel
theorem dX12_goat_144 : decode cX12_goat 144 = .ok (.iaload, 1) := by decide +kernel
theorem dX12_goat_145 : decode cX12_goat 145 = .ok (.iload_n 1, 1) := by decide +kernel
theorem dX12_goat_146 : decode cX12_goat 146 = .ok (.invokestatic 150, 3) := by decide +kernel
theorem dX12_goat_149 : decode cX12_goat 149 = .ok (.invokevirtual 88, 3) := by decide +kernel
theorem dX12_goat_152 : decode cX12_goat 152 = .ok (.ireturn, 1) := by decide +kernel
theorem dX12_goat_153 : decode cX12_goat 153 = .ok (.aload_n 0, 1) := by decide +kernel
theorem dX12_goat_154 : decode cX12_goat 154 = .ok (.iconst 1, 1) := by decide +kernel
theorem dX12_goat_155 : decode cX12_goat 155 = .ok (.invokevirtual 66, 3) := by decide +kernel
theorem dX12_goat_158 : decode cX12_goat 158 = .ok (.ireturn, 1) := by decide +kernel
set_option maxRecDepth 100000 in
set_option maxHeartbeats 4000000 in
theorem mX12_goat {E : goEv} {l : Launch} {G : goG} {N : Nat} {M : goMI} {L : goML} {R : goMR} {v1 : Int32} {v2 : Int32} {r0 : Int32} {r1 : goMI} (hk : goKn E) (hW : goW G R) (h : fX12_goat N M R v1 v2 = some (r0, r1)) : Met l yX12_goat (goCd yX12_goat cX12_goat 4 (Option.some FieldType.int)) (goRoom 2 44 0 0) (goPre E [.ref 0, .int v1, .int v2] G M L R) (goQi E r0 G r1 L R) 0 0 (goSet E) := by
  refine goMet pl_RX12 hk (lv := [some (.ref 0), some (.int v1), some (.int v2), none]) rfl (Nat.le_of_ble_eq_true rfl) ?_
  intro X hc hl hR hr hnm
  subst hl
  unfold fX12_goat at h
  refine go_aload0 hc dX12_goat_0 ?_
  refine go_iload1 hc dX12_goat_1 ?_
  refine go_callVi hc dX12_goat_2 (mX12_isGoat hk hW rfl) ml_RX12_115 yk_X12_isGoat ⟨wim_X12_isGoat, wse_X12_isGoat⟩ hR rfl (sh_0 hW) rfl rfl rfl (Nat.le_of_ble_eq_true rfl) rfl ?_
  refine go_if_ne hc 14 dX12_goat_5 rfl (fun c11 => ?_) (fun c11 => ?_)
  · replace h := goIfF h c11
    refine go_aload0 hc dX12_goat_14 ?_
    refine go_getR hc lk_RX12_26 dX12_goat_15 (sh_0 hW) (rm_0_5 hW) ?_
    refine go_getR hc lk_RX12_118 dX12_goat_18 (shHill_0 hW (mm_0_5 hW)) (rfHill_15 hW (mm_0_5 hW)) ?_
    refine go_astore3 hc dX12_goat_21 ?_
    refine go_iload2 hc dX12_goat_22 ?_
    by_cases c13 : v2 = 0
    · replace h := goIfT h c13
      refine go_tabIn hc 64 dX12_goat_23 (v := 0) c13 (by decide) (by decide) rfl rfl ?_
      refine go_aload0 hc dX12_goat_64 ?_
      refine go_aload3 hc dX12_goat_65 ?_
      refine go_getR hc lk_RX12_122 dX12_goat_66 (shHerd_0 hW (subHerd (mm_0_5 hW))) (rfHerd_2 hW (subHerd (mm_0_5 hW))) ?_
      refine go_iload1 hc dX12_goat_69 ?_
      replace h := goBind h; obtain ⟨x14, e15, h⟩ := h
      refine go_iald hc dX12_goat_70 (shHerd_1 hW (subHerd (mm_0_5 hW))) e15 ?_
      replace h := goB2_h h; obtain ⟨x16, M17, e18, h⟩ := h
      refine go_callVi hc dX12_goat_71 (mX12_answer hk hW e18) ml_RX12_88 yk_X12_answer ⟨wim_X12_answer, wse_X12_answer⟩ hR rfl (sh_0 hW) rfl rfl rfl (Nat.le_of_ble_eq_true rfl) rfl ?_
      cases h
      exact go_iret hc dX12_goat_74 hr
    · replace h := goIfF h c13
      by_cases c19 : v2 = 1
      · replace h := goIfT h c19
        refine go_tabIn hc 75 dX12_goat_23 (v := 1) c19 (by decide) (by decide) rfl rfl ?_
        refine go_aload0 hc dX12_goat_75 ?_
        refine go_aload3 hc dX12_goat_76 ?_
        refine go_getR hc lk_RX12_127 dX12_goat_77 (shHerd_0 hW (subHerd (mm_0_5 hW))) (rfHerd_3 hW (subHerd (mm_0_5 hW))) ?_
        refine go_iload1 hc dX12_goat_80 ?_
        replace h := goBind h; obtain ⟨x20, e21, h⟩ := h
        refine go_iald hc dX12_goat_81 (shHerd_2 hW (subHerd (mm_0_5 hW))) e21 ?_
        replace h := goB2_h h; obtain ⟨x22, M23, e24, h⟩ := h
        refine go_callVi hc dX12_goat_82 (mX12_answer hk hW e24) ml_RX12_88 yk_X12_answer ⟨wim_X12_answer, wse_X12_answer⟩ hR rfl (sh_0 hW) rfl rfl rfl (Nat.le_of_ble_eq_true rfl) rfl ?_
        cases h
        exact go_iret hc dX12_goat_85 hr
      · replace h := goIfF h c19
        by_cases c25 : v2 = 2
        · replace h := goIfT h c25
          refine go_tabIn hc 86 dX12_goat_23 (v := 2) c25 (by decide) (by decide) rfl rfl ?_
          refine go_aload0 hc dX12_goat_86 ?_
          refine go_aload3 hc dX12_goat_87 ?_
          refine go_getR hc lk_RX12_130 dX12_goat_88 (shHerd_0 hW (subHerd (mm_0_5 hW))) (rfHerd_4 hW (subHerd (mm_0_5 hW))) ?_
          refine go_iload1 hc dX12_goat_91 ?_
          replace h := goBind h; obtain ⟨x26, e27, h⟩ := h
          refine go_iald hc dX12_goat_92 (shHerd_3 hW (subHerd (mm_0_5 hW))) e27 ?_
          replace h := goB2_h h; obtain ⟨x28, M29, e30, h⟩ := h
          refine go_callVi hc dX12_goat_93 (mX12_answer hk hW e30) ml_RX12_88 yk_X12_answer ⟨wim_X12_answer, wse_X12_answer⟩ hR rfl (sh_0 hW) rfl rfl rfl (Nat.le_of_ble_eq_true rfl) rfl ?_
          cases h
          exact go_iret hc dX12_goat_96 hr
        · replace h := goIfF h c25
          by_cases c31 : v2 = 3
          · replace h := goIfT h c31
            refine go_tabIn hc 97 dX12_goat_23 (v := 3) c31 (by decide) (by decide) rfl rfl ?_
            refine go_aload0 hc dX12_goat_97 ?_
            refine go_aload3 hc dX12_goat_98 ?_
            refine go_getR hc lk_RX12_133 dX12_goat_99 (shHerd_0 hW (subHerd (mm_0_5 hW))) (rfHerd_5 hW (subHerd (mm_0_5 hW))) ?_
            refine go_iload1 hc dX12_goat_102 ?_
            replace h := goBind h; obtain ⟨x32, e33, h⟩ := h
            refine go_iald hc dX12_goat_103 (shHerd_4 hW (subHerd (mm_0_5 hW))) e33 ?_
            replace h := goB2_h h; obtain ⟨x34, M35, e36, h⟩ := h
            refine go_callVi hc dX12_goat_104 (mX12_answer hk hW e36) ml_RX12_88 yk_X12_answer ⟨wim_X12_answer, wse_X12_answer⟩ hR rfl (sh_0 hW) rfl rfl rfl (Nat.le_of_ble_eq_true rfl) rfl ?_
            cases h
            exact go_iret hc dX12_goat_107 hr
          · replace h := goIfF h c31
            by_cases c37 : v2 = 4
            · replace h := goIfT h c37
              refine go_tabIn hc 108 dX12_goat_23 (v := 4) c37 (by decide) (by decide) rfl rfl ?_
              refine go_aload0 hc dX12_goat_108 ?_
              refine go_aload3 hc dX12_goat_109 ?_
              refine go_getR hc lk_RX12_136 dX12_goat_110 (shHerd_0 hW (subHerd (mm_0_5 hW))) (rfHerd_6 hW (subHerd (mm_0_5 hW))) ?_
              refine go_iload1 hc dX12_goat_113 ?_
              replace h := goBind h; obtain ⟨x38, e39, h⟩ := h
              refine go_iald hc dX12_goat_114 (shHerd_5 hW (subHerd (mm_0_5 hW))) e39 ?_
              replace h := goB2_h h; obtain ⟨x40, M41, e42, h⟩ := h
              refine go_callVi hc dX12_goat_115 (mX12_answer hk hW e42) ml_RX12_88 yk_X12_answer ⟨wim_X12_answer, wse_X12_answer⟩ hR rfl (sh_0 hW) rfl rfl rfl (Nat.le_of_ble_eq_true rfl) rfl ?_
              cases h
              exact go_iret hc dX12_goat_118 hr
            · replace h := goIfF h c37
              by_cases c43 : v2 = 5
              · replace h := goIfT h c43
                refine go_tabIn hc 119 dX12_goat_23 (v := 5) c43 (by decide) (by decide) rfl rfl ?_
                refine go_aload0 hc dX12_goat_119 ?_
                refine go_aload3 hc dX12_goat_120 ?_
                refine go_iconst (v := 1) hc dX12_goat_121 rfl ?_
                refine go_iload1 hc dX12_goat_122 ?_
                refine go_ishl hc dX12_goat_123 ?_
                replace h := goBind h; obtain ⟨x44, e45, h⟩ := h
                refine go_callVi hc dX12_goat_124 (mX5_cluesOf hk hW (subHerd (mm_0_5 hW)) e45) ml_RX12_139 yk_X5_cluesOf ⟨wim_X5_cluesOf, wse_X5_cluesOf⟩ hR rfl (shHerd_0 hW (subHerd (mm_0_5 hW))) rfl rfl rfl (Nat.le_of_ble_eq_true rfl) rfl ?_
                refine go_callSi hc dX12_goat_127 (mJ6_bitCount_0f7a4 hk hW rfl) ml_RX12_142 yk_J6_bitCount_0f7a4 wst_J6_bitCount_0f7a4 hR rfl rfl rfl (Nat.le_of_ble_eq_true rfl) rfl ?_
                replace h := goB2_h h; obtain ⟨x46, M47, e48, h⟩ := h
                refine go_callVi hc dX12_goat_130 (mX12_answer hk hW e48) ml_RX12_88 yk_X12_answer ⟨wim_X12_answer, wse_X12_answer⟩ hR rfl (sh_0 hW) rfl rfl rfl (Nat.le_of_ble_eq_true rfl) rfl ?_
                cases h
                exact go_iret hc dX12_goat_133 hr
              · replace h := goIfF h c43
                by_cases c49 : v2 = 6
                · replace h := goIfT h c49
                  refine go_tabIn hc 134 dX12_goat_23 (v := 6) c49 (by decide) (by decide) rfl rfl ?_
                  refine go_aload0 hc dX12_goat_134 ?_
                  refine go_aload0 hc dX12_goat_135 ?_
                  refine go_getR hc lk_RX12_19 dX12_goat_136 (sh_0 hW) (rf_0_2 hW) ?_
                  refine go_getR hc lk_RX12_147 dX12_goat_139 (sh_3 hW) (rf_3_0 hW) ?_
                  refine go_bipush (v := 25) hc dX12_goat_142 rfl ?_
                  replace h := goBind h; obtain ⟨x50, e51, h⟩ := h
                  refine go_iald hc dX12_goat_144 (sh_4 hW) e51 ?_
                  refine go_iload1 hc dX12_goat_145 ?_
                  refine go_callSi hc dX12_goat_146 (mX12_bit hk hW rfl) ml_RX12_150 yk_X12_bit wst_X12_bit hR rfl rfl rfl (Nat.le_of_ble_eq_true rfl) rfl ?_
                  replace h := goB2_h h; obtain ⟨x52, M53, e54, h⟩ := h
                  refine go_callVi hc dX12_goat_149 (mX12_answer hk hW e54) ml_RX12_88 yk_X12_answer ⟨wim_X12_answer, wse_X12_answer⟩ hR rfl (sh_0 hW) rfl rfl rfl (Nat.le_of_ble_eq_true rfl) rfl ?_
                  cases h
                  exact go_iret hc dX12_goat_152 hr
                · replace h := goIfF h c49
                  refine go_tabOut hc 153 dX12_goat_23 (goTo7 c13 c19 c25 c31 c37 c43 c49) rfl ?_
                  refine go_aload0 hc dX12_goat_153 ?_
                  refine go_iconst (v := 1) hc dX12_goat_154 rfl ?_
                  replace h := goB2_h h; obtain ⟨x55, M56, e57, h⟩ := h
                  refine go_callVi hc dX12_goat_155 (mX12_refuse hk hW e57) ml_RX12_66 yk_X12_refuse ⟨wim_X12_refuse, wse_X12_refuse⟩ hR rfl (sh_0 hW) rfl rfl rfl (Nat.le_of_ble_eq_true rfl) rfl ?_
                  cases h
                  exact go_iret hc dX12_goat_158 hr
  · replace h := goIfT h c11
    refine go_aload0 hc dX12_goat_8 ?_
    refine go_iconst (v := 1) hc dX12_goat_9 rfl ?_
    replace h := goB2_h h; obtain ⟨x58, M59, e60, h⟩ := h
    refine go_callVi hc dX12_goat_10 (mX12_refuse hk hW e60) ml_RX12_66 yk_X12_refuse ⟨wim_X12_refuse, wse_X12_refuse⟩ hR rfl (sh_0 hW) rfl rfl rfl (Nat.le_of_ble_eq_true rfl) rfl ?_
    cases h
    exact go_iret hc dX12_goat_13 hr
theorem dX12_likes_0 : decode cX12_likes 0 = .ok (.aload_n 0, 1) := by decide +kernel
theorem dX12_likes_1 : decode cX12_likes 1 = .ok (.iload_n 1, 1) := by decide +kernel
theorem dX12_likes_2 : decode cX12_likes 2 = .ok (.invokevirtual 115, 3) := by decide +kernel
theorem dX12_likes_5 : decode cX12_likes 5 = .ok (.ifCond .eq 22, 3) := by decide +kernel
theorem dX12_likes_8 : decode cX12_likes 8 = .ok (.iload_n 2, 1) := by decide +kernel
theorem dX12_likes_9 : decode cX12_likes 9 = .ok (.aload_n 0, 1) := by decide +kernel
theorem dX12_likes_10 : decode cX12_likes 10 = .ok (.getfield 26, 3) := by decide +kernel
theorem dX12_likes_13 : decode cX12_likes 13 = .ok (.getfield 118, 3) := by decide +kernel
theorem dX12_likes_16 : decode cX12_likes 16 = .ok (.getfield 153, 3) := by decide +kernel
theorem dX12_likes_19 : decode cX12_likes 19 = .ok (.iload_n 1, 1) := by decide +kernel
theorem dX12_likes_20 : decode cX12_likes 20 = .ok (.iaload, 1) := by decide +kernel
theorem dX12_likes_21 : decode cX12_likes 21 = .ok (.invokestatic 156, 3) := by decide +kernel
theorem dX12_likes_24 : decode cX12_likes 24 = .ok (.ifCond .ne 9, 3) := by decide +kernel
theorem dX12_likes_27 : decode cX12_likes 27 = .ok (.aload_n 0, 1) := by decide +kernel
theorem dX12_likes_28 : decode cX12_likes 28 = .ok (.iconst 1, 1) := by decide +kernel
theorem dX12_likes_29 : decode cX12_likes 29 = .ok (.invokevirtual 66, 3) := by decide +kernel
theorem dX12_likes_32 : decode cX12_likes 32 = .ok (.ireturn, 1) := by decide +kernel
theorem dX12_likes_33 : decode cX12_likes 33 = .ok (.aload_n 0, 1) := by decide +kernel
theorem dX12_likes_34 : decode cX12_likes 34 = .ok (.aload_n 0, 1) := by decide +kernel
theorem dX12_likes_35 : decode cX12_likes 35 = .ok (.getfield 26, 3) := by decide +kernel
theorem dX12_likes_38 : decode cX12_likes 38 = .ok (.getfield 118, 3) := by decide +kernel
theorem dX12_likes_41 : decode cX12_likes 41 = .ok (.getfield 160, 3) := by decide +kernel
theorem dX12_likes_44 : decode cX12_likes 44 = .ok (.iload_n 1, 1) := by decide +kernel
theorem dX12_likes_45 : decode cX12_likes 45 = .ok (.iconst 4, 1) := by decide +kernel
theorem dX12_likes_46 : decode cX12_likes 46 = .ok (.imul, 1) := by decide +kernel
theorem dX12_likes_47 : decode cX12_likes 47 = .ok (.iload_n 2, 1) := by decide +kernel
theorem dX12_likes_48 : decode cX12_likes 48 = .ok (.iadd, 1) := by decide +kernel
theorem dX12_likes_49 : decode cX12_likes 49 = .ok (.iaload, 1) := by decide +kernel
theorem dX12_likes_50 : decode cX12_likes 50 = .ok (.invokevirtual 88, 3) := by decide +kernel
theorem dX12_likes_53 : decode cX12_likes 53 = .ok (.ireturn, 1) := by decide +kernel
set_option maxRecDepth 100000 in
set_option maxHeartbeats 4000000 in
theorem mX12_likes {E : goEv} {l : Launch} {G : goG} {M : goMI} {L : goML} {R : goMR} {v1 : Int32} {v2 : Int32} {r0 : Int32} {r1 : goMI} (hk : goKn E) (hW : goW G R) (h : fX12_likes M R v1 v2 = some (r0, r1)) : Met l yX12_likes (goCd yX12_likes cX12_likes 3 (Option.some FieldType.int)) (goRoom 2 42 0 0) (goPre E [.ref 0, .int v1, .int v2] G M L R) (goQi E r0 G r1 L R) 0 0 (goSet E) := by
  refine goMet pl_RX12 hk (lv := [some (.ref 0), some (.int v1), some (.int v2)]) rfl (Nat.le_of_ble_eq_true rfl) ?_
  intro X hc hl hR hr hnm
  subst hl
  unfold fX12_likes at h
  refine go_aload0 hc dX12_likes_0 ?_
  refine go_iload1 hc dX12_likes_1 ?_
  refine go_callVi hc dX12_likes_2 (mX12_isGoat hk hW rfl) ml_RX12_115 yk_X12_isGoat ⟨wim_X12_isGoat, wse_X12_isGoat⟩ hR rfl (sh_0 hW) rfl rfl rfl (Nat.le_of_ble_eq_true rfl) rfl ?_
  refine go_if_eq hc 27 dX12_likes_5 rfl (fun c11 => ?_) (fun c11 => ?_)
  · replace h := goIfT h c11
    refine go_aload0 hc dX12_likes_27 ?_
    refine go_iconst (v := 1) hc dX12_likes_28 rfl ?_
    replace h := goB2_h h; obtain ⟨x12, M13, e14, h⟩ := h
    refine go_callVi hc dX12_likes_29 (mX12_refuse hk hW e14) ml_RX12_66 yk_X12_refuse ⟨wim_X12_refuse, wse_X12_refuse⟩ hR rfl (sh_0 hW) rfl rfl rfl (Nat.le_of_ble_eq_true rfl) rfl ?_
    cases h
    exact go_iret hc dX12_likes_32 hr
  · replace h := goIfF h c11
    refine go_iload2 hc dX12_likes_8 ?_
    refine go_aload0 hc dX12_likes_9 ?_
    refine go_getR hc lk_RX12_26 dX12_likes_10 (sh_0 hW) (rm_0_5 hW) ?_
    refine go_getR hc lk_RX12_118 dX12_likes_13 (shHill_0 hW (mm_0_5 hW)) (rfHill_15 hW (mm_0_5 hW)) ?_
    refine go_getR hc lk_RX12_153 dX12_likes_16 (shHerd_0 hW (subHerd (mm_0_5 hW))) (rfHerd_8 hW (subHerd (mm_0_5 hW))) ?_
    refine go_iload1 hc dX12_likes_19 ?_
    replace h := goBind h; obtain ⟨x15, e16, h⟩ := h
    refine go_iald hc dX12_likes_20 (shHerd_7 hW (subHerd (mm_0_5 hW))) e16 ?_
    refine go_callSi hc dX12_likes_21 (mX12_within hk hW rfl) ml_RX12_156 yk_X12_within wst_X12_within hR rfl rfl rfl (Nat.le_of_ble_eq_true rfl) rfl ?_
    refine go_if_ne hc 33 dX12_likes_24 rfl (fun c17 => ?_) (fun c17 => ?_)
    · replace h := goIfF h c17
      refine go_aload0 hc dX12_likes_33 ?_
      refine go_aload0 hc dX12_likes_34 ?_
      refine go_getR hc lk_RX12_26 dX12_likes_35 (sh_0 hW) (rm_0_5 hW) ?_
      refine go_getR hc lk_RX12_118 dX12_likes_38 (shHill_0 hW (mm_0_5 hW)) (rfHill_15 hW (mm_0_5 hW)) ?_
      refine go_getR hc lk_RX12_160 dX12_likes_41 (shHerd_0 hW (subHerd (mm_0_5 hW))) (rfHerd_7 hW (subHerd (mm_0_5 hW))) ?_
      refine go_iload1 hc dX12_likes_44 ?_
      refine go_iconst (v := 4) hc dX12_likes_45 rfl ?_
      refine go_imul hc dX12_likes_46 ?_
      refine go_iload2 hc dX12_likes_47 ?_
      refine go_iadd hc dX12_likes_48 ?_
      replace h := goBind h; obtain ⟨x18, e19, h⟩ := h
      refine go_iald hc dX12_likes_49 (shHerd_6 hW (subHerd (mm_0_5 hW))) e19 ?_
      replace h := goB2_h h; obtain ⟨x20, M21, e22, h⟩ := h
      refine go_callVi hc dX12_likes_50 (mX12_answer hk hW e22) ml_RX12_88 yk_X12_answer ⟨wim_X12_answer, wse_X12_answer⟩ hR rfl (sh_0 hW) rfl rfl rfl (Nat.le_of_ble_eq_true rfl) rfl ?_
      cases h
      exact go_iret hc dX12_likes_53 hr
    · replace h := goIfT h c17
      refine go_aload0 hc dX12_likes_27 ?_
      refine go_iconst (v := 1) hc dX12_likes_28 rfl ?_
      replace h := goB2_h h; obtain ⟨x23, M24, e25, h⟩ := h
      refine go_callVi hc dX12_likes_29 (mX12_refuse hk hW e25) ml_RX12_66 yk_X12_refuse ⟨wim_X12_refuse, wse_X12_refuse⟩ hR rfl (sh_0 hW) rfl rfl rfl (Nat.le_of_ble_eq_true rfl) rfl ?_
      cases h
      exact go_iret hc dX12_likes_32 hr
theorem dX12_clue_0 : decode cX12_clue 0 = .ok (.aload_n 0, 1) := by decide +kernel
theorem dX12_clue_1 : decode cX12_clue 1 = .ok (.getfield 26, 3) := by decide +kernel
theorem dX12_clue_4 : decode cX12_clue 4 = .ok (.getfield 118, 3) := by decide +kernel
theorem dX12_clue_7 : decode cX12_clue 7 = .ok (.astore_n 3, 1) := by decide +kernel
theorem dX12_clue_8 : decode cX12_clue 8 = .ok (.iload_n 1, 1) := by decide +kernel
theorem dX12_clue_9 : decode cX12_clue 9 = .ok (.aload_n 3, 1) := by decide +kernel
theorem dX12_clue_10 : decode cX12_clue 10 = .ok (.getfield 163, 3) := by decide +kernel
theorem dX12_clue_13 : decode cX12_clue 13 = .ok (.invokestatic 156, 3) := by decide +kernel
theorem dX12_clue_16 : decode cX12_clue 16 = .ok (.ifCond .ne 9, 3) := by decide +kernel
theorem dX12_clue_19 : decode cX12_clue 19 = .ok (.aload_n 0, 1) := by decide +kernel
theorem dX12_clue_20 : decode cX12_clue 20 = .ok (.iconst 1, 1) := by decide +kernel
theorem dX12_clue_21 : decode cX12_clue 21 = .ok (.invokevirtual 66, 3) := by decide +kernel
theorem dX12_clue_24 : decode cX12_clue 24 = .ok (.ireturn, 1) := by decide +kernel
theorem dX12_clue_25 : decode cX12_clue 25 = .ok (.iload_n 2, 1) := by decide +kernel
theorem dX12_clue_26 : decode cX12_clue 26 = .ok (.tableswitch 74 0 3 #[30, 41, 52, 63], 30) := by decide +kernel
theorem dX12_clue_56 : decode cX12_clue 56 = .ok (.aload_n 0, 1) := by decide +kernel
theorem dX12_clue_57 : decode cX12_clue 57 = .ok (.aload_n 3, 1) := by decide +kernel
theorem dX12_clue_58 : decode cX12_clue 58 = .ok (.getfield 166, 3) := by decide +kernel
theorem dX12_clue_61 : decode cX12_clue 61 = .ok (.iload_n 1, 1) := by decide +kernel
theorem dX12_clue_62 : decode cX12_clue 62 = .ok (.iaload, 1) := by decide +kernel
theorem dX12_clue_63 : decode cX12_clue 63 = .ok (.invokevirtual 88, 3) := by decide +kernel
theorem dX12_clue_66 : decode cX12_clue 66 = .ok (.ireturn, 1) := by decide +kernel
theorem dX12_clue_67 : decode cX12_clue 67 = .ok (.aload_n 0, 1) := by decide +kernel
theorem dX12_clue_68 : decode cX12_clue 68 = .ok (.aload_n 3, 1) := by decide +kernel
theorem dX12_clue_69 : decode cX12_clue 69 = .ok (.getfield 169, 3) := by decide +kernel
theorem dX12_clue_72 : decode cX12_clue 72 = .ok (.iload_n 1, 1) := by decide +kernel
theorem dX12_clue_73 : decode cX12_clue 73 = .ok (.iaload, 1) := by decide +kernel
theorem dX12_clue_74 : decode cX12_clue 74 = .ok (.invokevirtual 88, 3) := by decide +kernel
theorem dX12_clue_77 : decode cX12_clue 77 = .ok (.ireturn, 1) := by decide +kernel
theorem dX12_clue_78 : decode cX12_clue 78 = .ok (.aload_n 0, 1) := by decide +kernel
theorem dX12_clue_79 : decode cX12_clue 79 = .ok (.aload_n 3, 1) := by decide +kernel
theorem dX12_clue_80 : decode cX12_clue 80 = .ok (.getfield 172, 3) := by decide +kernel
theorem dX12_clue_83 : decode cX12_clue 83 = .ok (.iload_n 1, 1) := by decide +kernel
theorem dX12_clue_84 : decode cX12_clue 84 = .ok (.iaload, 1) := by decide +kernel
theorem dX12_clue_85 : decode cX12_clue 85 = .ok (.invokevirtual 88, 3) := by decide +kernel
theorem dX12_clue_88 : decode cX12_clue 88 = .ok (.ireturn, 1) := by decide +kernel
theorem dX12_clue_89 : decode cX12_clue 89 = .ok (.aload_n 0, 1) := by decide +kernel
theorem dX12_clue_90 : decode cX12_clue 90 = .ok (.aload_n 3, 1) := by decide +kernel
theorem dX12_clue_91 : decode cX12_clue 91 = .ok (.getfield 175, 3) := by decide +kernel
theorem dX12_clue_94 : decode cX12_clue 94 = .ok (.iload_n 1, 1) := by decide +kernel
theorem dX12_clue_95 : decode cX12_clue 95 = .ok (.iaload, 1) := by decide +kernel
theorem dX12_clue_96 : decode cX12_clue 96 = .ok (.invokevirtual 88, 3) := by decide +kernel
theorem dX12_clue_99 : decode cX12_clue 99 = .ok (.ireturn, 1) := by decide +kernel
theorem dX12_clue_100 : decode cX12_clue 100 = .ok (.aload_n 0, 1) := by decide +kernel
theorem dX12_clue_101 : decode cX12_clue 101 = .ok (.iconst 1, 1) := by decide +kernel
theorem dX12_clue_102 : decode cX12_clue 102 = .ok (.invokevirtual 66, 3) := by decide +kernel
theorem dX12_clue_105 : decode cX12_clue 105 = .ok (.ireturn, 1) := by decide +kernel
set_option maxRecDepth 100000 in
set_option maxHeartbeats 4000000 in
theorem mX12_clue {E : goEv} {l : Launch} {G : goG} {M : goMI} {L : goML} {R : goMR} {v1 : Int32} {v2 : Int32} {r0 : Int32} {r1 : goMI} (hk : goKn E) (hW : goW G R) (h : fX12_clue M R v1 v2 = some (r0, r1)) : Met l yX12_clue (goCd yX12_clue cX12_clue 4 (Option.some FieldType.int)) (goRoom 1 21 0 0) (goPre E [.ref 0, .int v1, .int v2] G M L R) (goQi E r0 G r1 L R) 0 0 (goSet E) := by
  refine goMet pl_RX12 hk (lv := [some (.ref 0), some (.int v1), some (.int v2), none]) rfl (Nat.le_of_ble_eq_true rfl) ?_
  intro X hc hl hR hr hnm
  subst hl
  unfold fX12_clue at h
  refine go_aload0 hc dX12_clue_0 ?_
  refine go_getR hc lk_RX12_26 dX12_clue_1 (sh_0 hW) (rm_0_5 hW) ?_
  refine go_getR hc lk_RX12_118 dX12_clue_4 (shHill_0 hW (mm_0_5 hW)) (rfHill_15 hW (mm_0_5 hW)) ?_
  refine go_astore3 hc dX12_clue_7 ?_
  refine go_iload1 hc dX12_clue_8 ?_
  refine go_aload3 hc dX12_clue_9 ?_
  refine go_getI hc lk_RX12_163 dX12_clue_10 (shHerd_0 hW (subHerd (mm_0_5 hW))) ?_
  refine go_callSi hc dX12_clue_13 (mX12_within hk hW rfl) ml_RX12_156 yk_X12_within wst_X12_within hR rfl rfl rfl (Nat.le_of_ble_eq_true rfl) rfl ?_
  refine go_if_ne hc 25 dX12_clue_16 rfl (fun c11 => ?_) (fun c11 => ?_)
  · replace h := goIfF h c11
    refine go_iload2 hc dX12_clue_25 ?_
    by_cases c13 : v2 = 0
    · replace h := goIfT h c13
      refine go_tabIn hc 56 dX12_clue_26 (v := 0) c13 (by decide) (by decide) rfl rfl ?_
      refine go_aload0 hc dX12_clue_56 ?_
      refine go_aload3 hc dX12_clue_57 ?_
      refine go_getR hc lk_RX12_166 dX12_clue_58 (shHerd_0 hW (subHerd (mm_0_5 hW))) (rfHerd_9 hW (subHerd (mm_0_5 hW))) ?_
      refine go_iload1 hc dX12_clue_61 ?_
      replace h := goBind h; obtain ⟨x14, e15, h⟩ := h
      refine go_iald hc dX12_clue_62 (shHerd_8 hW (subHerd (mm_0_5 hW))) e15 ?_
      replace h := goB2_h h; obtain ⟨x16, M17, e18, h⟩ := h
      refine go_callVi hc dX12_clue_63 (mX12_answer hk hW e18) ml_RX12_88 yk_X12_answer ⟨wim_X12_answer, wse_X12_answer⟩ hR rfl (sh_0 hW) rfl rfl rfl (Nat.le_of_ble_eq_true rfl) rfl ?_
      cases h
      exact go_iret hc dX12_clue_66 hr
    · replace h := goIfF h c13
      by_cases c19 : v2 = 1
      · replace h := goIfT h c19
        refine go_tabIn hc 67 dX12_clue_26 (v := 1) c19 (by decide) (by decide) rfl rfl ?_
        refine go_aload0 hc dX12_clue_67 ?_
        refine go_aload3 hc dX12_clue_68 ?_
        refine go_getR hc lk_RX12_169 dX12_clue_69 (shHerd_0 hW (subHerd (mm_0_5 hW))) (rfHerd_10 hW (subHerd (mm_0_5 hW))) ?_
        refine go_iload1 hc dX12_clue_72 ?_
        replace h := goBind h; obtain ⟨x20, e21, h⟩ := h
        refine go_iald hc dX12_clue_73 (shHerd_9 hW (subHerd (mm_0_5 hW))) e21 ?_
        replace h := goB2_h h; obtain ⟨x22, M23, e24, h⟩ := h
        refine go_callVi hc dX12_clue_74 (mX12_answer hk hW e24) ml_RX12_88 yk_X12_answer ⟨wim_X12_answer, wse_X12_answer⟩ hR rfl (sh_0 hW) rfl rfl rfl (Nat.le_of_ble_eq_true rfl) rfl ?_
        cases h
        exact go_iret hc dX12_clue_77 hr
      · replace h := goIfF h c19
        by_cases c25 : v2 = 2
        · replace h := goIfT h c25
          refine go_tabIn hc 78 dX12_clue_26 (v := 2) c25 (by decide) (by decide) rfl rfl ?_
          refine go_aload0 hc dX12_clue_78 ?_
          refine go_aload3 hc dX12_clue_79 ?_
          refine go_getR hc lk_RX12_172 dX12_clue_80 (shHerd_0 hW (subHerd (mm_0_5 hW))) (rfHerd_11 hW (subHerd (mm_0_5 hW))) ?_
          refine go_iload1 hc dX12_clue_83 ?_
          replace h := goBind h; obtain ⟨x26, e27, h⟩ := h
          refine go_iald hc dX12_clue_84 (shHerd_10 hW (subHerd (mm_0_5 hW))) e27 ?_
          replace h := goB2_h h; obtain ⟨x28, M29, e30, h⟩ := h
          refine go_callVi hc dX12_clue_85 (mX12_answer hk hW e30) ml_RX12_88 yk_X12_answer ⟨wim_X12_answer, wse_X12_answer⟩ hR rfl (sh_0 hW) rfl rfl rfl (Nat.le_of_ble_eq_true rfl) rfl ?_
          cases h
          exact go_iret hc dX12_clue_88 hr
        · replace h := goIfF h c25
          by_cases c31 : v2 = 3
          · replace h := goIfT h c31
            refine go_tabIn hc 89 dX12_clue_26 (v := 3) c31 (by decide) (by decide) rfl rfl ?_
            refine go_aload0 hc dX12_clue_89 ?_
            refine go_aload3 hc dX12_clue_90 ?_
            refine go_getR hc lk_RX12_175 dX12_clue_91 (shHerd_0 hW (subHerd (mm_0_5 hW))) (rfHerd_12 hW (subHerd (mm_0_5 hW))) ?_
            refine go_iload1 hc dX12_clue_94 ?_
            replace h := goBind h; obtain ⟨x32, e33, h⟩ := h
            refine go_iald hc dX12_clue_95 (shHerd_11 hW (subHerd (mm_0_5 hW))) e33 ?_
            replace h := goB2_h h; obtain ⟨x34, M35, e36, h⟩ := h
            refine go_callVi hc dX12_clue_96 (mX12_answer hk hW e36) ml_RX12_88 yk_X12_answer ⟨wim_X12_answer, wse_X12_answer⟩ hR rfl (sh_0 hW) rfl rfl rfl (Nat.le_of_ble_eq_true rfl) rfl ?_
            cases h
            exact go_iret hc dX12_clue_99 hr
          · replace h := goIfF h c31
            refine go_tabOut hc 100 dX12_clue_26 (goTo4 c13 c19 c25 c31) rfl ?_
            refine go_aload0 hc dX12_clue_100 ?_
            refine go_iconst (v := 1) hc dX12_clue_101 rfl ?_
            replace h := goB2_h h; obtain ⟨x37, M38, e39, h⟩ := h
            refine go_callVi hc dX12_clue_102 (mX12_refuse hk hW e39) ml_RX12_66 yk_X12_refuse ⟨wim_X12_refuse, wse_X12_refuse⟩ hR rfl (sh_0 hW) rfl rfl rfl (Nat.le_of_ble_eq_true rfl) rfl ?_
            cases h
            exact go_iret hc dX12_clue_105 hr
  · replace h := goIfT h c11
    refine go_aload0 hc dX12_clue_19 ?_
    refine go_iconst (v := 1) hc dX12_clue_20 rfl ?_
    replace h := goB2_h h; obtain ⟨x40, M41, e42, h⟩ := h
    refine go_callVi hc dX12_clue_21 (mX12_refuse hk hW e42) ml_RX12_66 yk_X12_refuse ⟨wim_X12_refuse, wse_X12_refuse⟩ hR rfl (sh_0 hW) rfl rfl rfl (Nat.le_of_ble_eq_true rfl) rfl ?_
    cases h
    exact go_iret hc dX12_clue_24 hr
theorem dX12_isPerson_0 : decode cX12_isPerson 0 = .ok (.iload_n 1, 1) := by decide +kernel
theorem dX12_isPerson_1 : decode cX12_isPerson 1 = .ok (.aload_n 0, 1) := by decide +kernel
theorem dX12_isPerson_2 : decode cX12_isPerson 2 = .ok (.getfield 26, 3) := by decide +kernel
theorem dX12_isPerson_5 : decode cX12_isPerson 5 = .ok (.getfield 378, 3) := by decide +kernel
theorem dX12_isPerson_8 : decode cX12_isPerson 8 = .ok (.invokestatic 156, 3) := by decide +kernel
theorem dX12_isPerson_11 : decode cX12_isPerson 11 = .ok (.ireturn, 1) := by decide +kernel
theorem zX12_isPerson {M : goMI} {R : goMR} {v1 : Int32} : fX12_isPerson M R v1 = 0 ∨ fX12_isPerson M R v1 = 1 := by
  unfold fX12_isPerson
  first | exact zX12_within | ((repeat' split) <;> simp; done) | (simp only [goNm]; (repeat' split) <;> simp)
set_option maxRecDepth 100000 in
set_option maxHeartbeats 4000000 in
theorem mX12_isPerson {E : goEv} {l : Launch} {G : goG} {M : goMI} {L : goML} {R : goMR} {v1 : Int32} {r0 : Int32} (hk : goKn E) (hW : goW G R) (h : fX12_isPerson M R v1 = r0) : Met l yX12_isPerson (goCd yX12_isPerson cX12_isPerson 2 (Option.some FieldType.boolean)) (goRoom 1 21 0 0) (goPre E [.ref 0, .int v1] G M L R) (goQi E r0 G M L R) 0 0 (goSet E) := by
  refine goMet pl_RX12 hk (lv := [some (.ref 0), some (.int v1)]) rfl (Nat.le_of_ble_eq_true rfl) ?_
  intro X hc hl hR hr hnm
  subst hl
  unfold fX12_isPerson at h
  refine go_iload1 hc dX12_isPerson_0 ?_
  refine go_aload0 hc dX12_isPerson_1 ?_
  refine go_getR hc lk_RX12_26 dX12_isPerson_2 (sh_0 hW) (rm_0_5 hW) ?_
  refine go_getI hc lk_RX12_378 dX12_isPerson_5 (shHill_0 hW (mm_0_5 hW)) ?_
  refine go_callSi hc dX12_isPerson_8 (mX12_within hk hW rfl) ml_RX12_156 yk_X12_within wst_X12_within hR rfl rfl rfl (Nat.le_of_ble_eq_true rfl) rfl ?_
  subst h
  exact go_zret hc dX12_isPerson_11 hr (goZ_n zX12_within)
theorem dX12_isHour_0 : decode cX12_isHour 0 = .ok (.iload_n 1, 1) := by decide +kernel
theorem dX12_isHour_1 : decode cX12_isHour 1 = .ok (.aload_n 0, 1) := by decide +kernel
theorem dX12_isHour_2 : decode cX12_isHour 2 = .ok (.getfield 26, 3) := by decide +kernel
theorem dX12_isHour_5 : decode cX12_isHour 5 = .ok (.getfield 218, 3) := by decide +kernel
theorem dX12_isHour_8 : decode cX12_isHour 8 = .ok (.invokestatic 156, 3) := by decide +kernel
theorem dX12_isHour_11 : decode cX12_isHour 11 = .ok (.ireturn, 1) := by decide +kernel
theorem zX12_isHour {M : goMI} {R : goMR} {v1 : Int32} : fX12_isHour M R v1 = 0 ∨ fX12_isHour M R v1 = 1 := by
  unfold fX12_isHour
  first | exact zX12_within | ((repeat' split) <;> simp; done) | (simp only [goNm]; (repeat' split) <;> simp)
set_option maxRecDepth 100000 in
set_option maxHeartbeats 4000000 in
theorem mX12_isHour {E : goEv} {l : Launch} {G : goG} {M : goMI} {L : goML} {R : goMR} {v1 : Int32} {r0 : Int32} (hk : goKn E) (hW : goW G R) (h : fX12_isHour M R v1 = r0) : Met l yX12_isHour (goCd yX12_isHour cX12_isHour 2 (Option.some FieldType.boolean)) (goRoom 1 21 0 0) (goPre E [.ref 0, .int v1] G M L R) (goQi E r0 G M L R) 0 0 (goSet E) := by
  refine goMet pl_RX12 hk (lv := [some (.ref 0), some (.int v1)]) rfl (Nat.le_of_ble_eq_true rfl) ?_
  intro X hc hl hR hr hnm
  subst hl
  unfold fX12_isHour at h
  refine go_iload1 hc dX12_isHour_0 ?_
  refine go_aload0 hc dX12_isHour_1 ?_
  refine go_getR hc lk_RX12_26 dX12_isHour_2 (sh_0 hW) (rm_0_5 hW) ?_
  refine go_getI hc lk_RX12_218 dX12_isHour_5 (shHill_0 hW (mm_0_5 hW)) ?_
  refine go_callSi hc dX12_isHour_8 (mX12_within hk hW rfl) ml_RX12_156 yk_X12_within wst_X12_within hR rfl rfl rfl (Nat.le_of_ble_eq_true rfl) rfl ?_
  subst h
  exact go_zret hc dX12_isHour_11 hr (goZ_n zX12_within)
theorem dX12_story_0 : decode cX12_story 0 = .ok (.aload_n 0, 1) := by decide +kernel
theorem dX12_story_1 : decode cX12_story 1 = .ok (.iload_n 1, 1) := by decide +kernel
theorem dX12_story_2 : decode cX12_story 2 = .ok (.invokevirtual 178, 3) := by decide +kernel
theorem dX12_story_5 : decode cX12_story 5 = .ok (.ifCond .eq 19, 3) := by decide +kernel
theorem dX12_story_8 : decode cX12_story 8 = .ok (.iload_n 2, 1) := by decide +kernel
theorem dX12_story_9 : decode cX12_story 9 = .ok (.aload_n 0, 1) := by decide +kernel
theorem dX12_story_10 : decode cX12_story 10 = .ok (.getfield 26, 3) := by decide +kernel
theorem dX12_story_13 : decode cX12_story 13 = .ok (.getfield 181, 3) := by decide +kernel
theorem dX12_story_16 : decode cX12_story 16 = .ok (.iload_n 1, 1) := by decide +kernel
theorem dX12_story_17 : decode cX12_story 17 = .ok (.iaload, 1) := by decide +kernel
theorem dX12_story_18 : decode cX12_story 18 = .ok (.invokestatic 156, 3) := by decide +kernel
theorem dX12_story_21 : decode cX12_story 21 = .ok (.ifCond .ne 9, 3) := by decide +kernel
theorem dX12_story_24 : decode cX12_story 24 = .ok (.aload_n 0, 1) := by decide +kernel
theorem dX12_story_25 : decode cX12_story 25 = .ok (.iconst 1, 1) := by decide +kernel
theorem dX12_story_26 : decode cX12_story 26 = .ok (.invokevirtual 66, 3) := by decide +kernel
theorem dX12_story_29 : decode cX12_story 29 = .ok (.ireturn, 1) := by decide +kernel
theorem dX12_story_30 : decode cX12_story 30 = .ok (.aload_n 0, 1) := by decide +kernel
theorem dX12_story_31 : decode cX12_story 31 = .ok (.iload_n 3, 1) := by decide +kernel
theorem dX12_story_32 : decode cX12_story 32 = .ok (.invokevirtual 184, 3) := by decide +kernel
theorem dX12_story_35 : decode cX12_story 35 = .ok (.ifCond .eq 20, 3) := by decide +kernel
theorem dX12_story_38 : decode cX12_story 38 = .ok (.aload_n 0, 1) := by decide +kernel
theorem dX12_story_39 : decode cX12_story 39 = .ok (.aload_n 0, 1) := by decide +kernel
theorem dX12_story_40 : decode cX12_story 40 = .ok (.getfield 26, 3) := by decide +kernel
theorem dX12_story_43 : decode cX12_story 43 = .ok (.iload_n 1, 1) := by decide +kernel
theorem dX12_story_44 : decode cX12_story 44 = .ok (.iload_n 2, 1) := by decide +kernel
theorem dX12_story_45 : decode cX12_story 45 = .ok (.iload_n 3, 1) := by decide +kernel
theorem dX12_story_46 : decode cX12_story 46 = .ok (.invokevirtual 187, 3) := by decide +kernel
theorem dX12_story_49 : decode cX12_story 49 = .ok (.invokevirtual 88, 3) := by decide +kernel
theorem dX12_story_52 : decode cX12_story 52 = .ok (.goto 8, 3) := by decide +kernel
theorem dX12_story_55 : decode cX12_story 55 = .ok (.aload_n 0, 1) := by decide +kernel
theorem dX12_story_56 : decode cX12_story 56 = .ok (.iconst 2, 1) := by decide +kernel
theorem dX12_story_57 : decode cX12_story 57 = .ok (.invokevirtual 66, 3) := by decide +kernel
theorem dX12_story_60 : decode cX12_story 60 = .ok (.ireturn, 1) := by decide +kernel
set_option maxRecDepth 100000 in
set_option maxHeartbeats 4000000 in
theorem mX12_story {E : goEv} {l : Launch} {G : goG} {M : goMI} {L : goML} {R : goMR} {v1 : Int32} {v2 : Int32} {v3 : Int32} {r0 : Int32} {r1 : goMI} (hk : goKn E) (hW : goW G R) (h : fX12_story M R v1 v2 v3 = some (r0, r1)) : Met l yX12_story (goCd yX12_story cX12_story 4 (Option.some FieldType.int)) (goRoom 2 42 0 0) (goPre E [.ref 0, .int v1, .int v2, .int v3] G M L R) (goQi E r0 G r1 L R) 0 0 (goSet E) := by
  refine goMet pl_RX12 hk (lv := [some (.ref 0), some (.int v1), some (.int v2), some (.int v3)]) rfl (Nat.le_of_ble_eq_true rfl) ?_
  intro X hc hl hR hr hnm
  subst hl
  unfold fX12_story at h
  refine go_aload0 hc dX12_story_0 ?_
  refine go_iload1 hc dX12_story_1 ?_
  refine go_callVi hc dX12_story_2 (mX12_isPerson hk hW rfl) ml_RX12_178 yk_X12_isPerson ⟨wim_X12_isPerson, wse_X12_isPerson⟩ hR rfl (sh_0 hW) rfl rfl rfl (Nat.le_of_ble_eq_true rfl) rfl ?_
  refine go_if_eq hc 24 dX12_story_5 rfl (fun c11 => ?_) (fun c11 => ?_)
  · replace h := goIfT h c11
    refine go_aload0 hc dX12_story_24 ?_
    refine go_iconst (v := 1) hc dX12_story_25 rfl ?_
    replace h := goB2_h h; obtain ⟨x12, M13, e14, h⟩ := h
    refine go_callVi hc dX12_story_26 (mX12_refuse hk hW e14) ml_RX12_66 yk_X12_refuse ⟨wim_X12_refuse, wse_X12_refuse⟩ hR rfl (sh_0 hW) rfl rfl rfl (Nat.le_of_ble_eq_true rfl) rfl ?_
    cases h
    exact go_iret hc dX12_story_29 hr
  · replace h := goIfF h c11
    refine go_iload2 hc dX12_story_8 ?_
    refine go_aload0 hc dX12_story_9 ?_
    refine go_getR hc lk_RX12_26 dX12_story_10 (sh_0 hW) (rm_0_5 hW) ?_
    refine go_getR hc lk_RX12_181 dX12_story_13 (shHill_0 hW (mm_0_5 hW)) (rfHill_11 hW (mm_0_5 hW)) ?_
    refine go_iload1 hc dX12_story_16 ?_
    replace h := goBind h; obtain ⟨x15, e16, h⟩ := h
    refine go_iald hc dX12_story_17 (shHill_5 hW (mm_0_5 hW)) e16 ?_
    refine go_callSi hc dX12_story_18 (mX12_within hk hW rfl) ml_RX12_156 yk_X12_within wst_X12_within hR rfl rfl rfl (Nat.le_of_ble_eq_true rfl) rfl ?_
    refine go_if_ne hc 30 dX12_story_21 rfl (fun c17 => ?_) (fun c17 => ?_)
    · replace h := goIfF h c17
      refine go_aload0 hc dX12_story_30 ?_
      refine go_iload3 hc dX12_story_31 ?_
      refine go_callVi hc dX12_story_32 (mX12_isHour hk hW rfl) ml_RX12_184 yk_X12_isHour ⟨wim_X12_isHour, wse_X12_isHour⟩ hR rfl (sh_0 hW) rfl rfl rfl (Nat.le_of_ble_eq_true rfl) rfl ?_
      refine go_if_eq hc 55 dX12_story_35 rfl (fun c18 => ?_) (fun c18 => ?_)
      · replace h := goIfT h c18
        refine go_aload0 hc dX12_story_55 ?_
        refine go_iconst (v := 2) hc dX12_story_56 rfl ?_
        replace h := goB2_h h; obtain ⟨x19, M20, e21, h⟩ := h
        refine go_callVi hc dX12_story_57 (mX12_refuse hk hW e21) ml_RX12_66 yk_X12_refuse ⟨wim_X12_refuse, wse_X12_refuse⟩ hR rfl (sh_0 hW) rfl rfl rfl (Nat.le_of_ble_eq_true rfl) rfl ?_
        cases h
        exact go_iret hc dX12_story_60 hr
      · replace h := goIfF h c18
        refine go_aload0 hc dX12_story_38 ?_
        refine go_aload0 hc dX12_story_39 ?_
        refine go_getR hc lk_RX12_26 dX12_story_40 (sh_0 hW) (rm_0_5 hW) ?_
        refine go_iload1 hc dX12_story_43 ?_
        refine go_iload2 hc dX12_story_44 ?_
        refine go_iload3 hc dX12_story_45 ?_
        replace h := goBind h; obtain ⟨x22, e23, h⟩ := h
        refine go_callVi hc dX12_story_46 (mX6_toldPlace hk hW (mm_0_5 hW) e23) ml_RX12_187 yk_X6_toldPlace ⟨wim_X6_toldPlace, wse_X6_toldPlace⟩ hR rfl (shHill_0 hW (mm_0_5 hW)) rfl rfl rfl (Nat.le_of_ble_eq_true rfl) rfl ?_
        replace h := goB2_h h; obtain ⟨x24, M25, e26, h⟩ := h
        refine go_callVi hc dX12_story_49 (mX12_answer hk hW e26) ml_RX12_88 yk_X12_answer ⟨wim_X12_answer, wse_X12_answer⟩ hR rfl (sh_0 hW) rfl rfl rfl (Nat.le_of_ble_eq_true rfl) rfl ?_
        refine go_goto hc 60 dX12_story_52 rfl ?_
        cases h
        exact go_iret hc dX12_story_60 hr
    · replace h := goIfT h c17
      refine go_aload0 hc dX12_story_24 ?_
      refine go_iconst (v := 1) hc dX12_story_25 rfl ?_
      replace h := goB2_h h; obtain ⟨x27, M28, e29, h⟩ := h
      refine go_callVi hc dX12_story_26 (mX12_refuse hk hW e29) ml_RX12_66 yk_X12_refuse ⟨wim_X12_refuse, wse_X12_refuse⟩ hR rfl (sh_0 hW) rfl rfl rfl (Nat.le_of_ble_eq_true rfl) rfl ?_
      cases h
      exact go_iret hc dX12_story_29 hr
theorem dX12_stories_0 : decode cX12_stories 0 = .ok (.aload_n 0, 1) := by decide +kernel
theorem dX12_stories_1 : decode cX12_stories 1 = .ok (.iload_n 1, 1) := by decide +kernel
theorem dX12_stories_2 : decode cX12_stories 2 = .ok (.invokevirtual 178, 3) := by decide +kernel
theorem dX12_stories_5 : decode cX12_stories 5 = .ok (.ifCond .eq 19, 3) := by decide +kernel
theorem dX12_stories_8 : decode cX12_stories 8 = .ok (.aload_n 0, 1) := by decide +kernel
theorem dX12_stories_9 : decode cX12_stories 9 = .ok (.aload_n 0, 1) := by decide +kernel
theorem dX12_stories_10 : decode cX12_stories 10 = .ok (.getfield 26, 3) := by decide +kernel
theorem dX12_stories_13 : decode cX12_stories 13 = .ok (.getfield 181, 3) := by decide +kernel
theorem dX12_stories_16 : decode cX12_stories 16 = .ok (.iload_n 1, 1) := by decide +kernel
theorem dX12_stories_17 : decode cX12_stories 17 = .ok (.iaload, 1) := by decide +kernel
theorem dX12_stories_18 : decode cX12_stories 18 = .ok (.invokevirtual 88, 3) := by decide +kernel
theorem dX12_stories_21 : decode cX12_stories 21 = .ok (.goto 8, 3) := by decide +kernel
theorem dX12_stories_24 : decode cX12_stories 24 = .ok (.aload_n 0, 1) := by decide +kernel
theorem dX12_stories_25 : decode cX12_stories 25 = .ok (.iconst 1, 1) := by decide +kernel
theorem dX12_stories_26 : decode cX12_stories 26 = .ok (.invokevirtual 66, 3) := by decide +kernel
theorem dX12_stories_29 : decode cX12_stories 29 = .ok (.ireturn, 1) := by decide +kernel
set_option maxRecDepth 100000 in
set_option maxHeartbeats 4000000 in
theorem mX12_stories {E : goEv} {l : Launch} {G : goG} {M : goMI} {L : goML} {R : goMR} {v1 : Int32} {r0 : Int32} {r1 : goMI} (hk : goKn E) (hW : goW G R) (h : fX12_stories M R v1 = some (r0, r1)) : Met l yX12_stories (goCd yX12_stories cX12_stories 2 (Option.some FieldType.int)) (goRoom 2 42 0 0) (goPre E [.ref 0, .int v1] G M L R) (goQi E r0 G r1 L R) 0 0 (goSet E) := by
  refine goMet pl_RX12 hk (lv := [some (.ref 0), some (.int v1)]) rfl (Nat.le_of_ble_eq_true rfl) ?_
  intro X hc hl hR hr hnm
  subst hl
  unfold fX12_stories at h
  refine go_aload0 hc dX12_stories_0 ?_
  refine go_iload1 hc dX12_stories_1 ?_
  refine go_callVi hc dX12_stories_2 (mX12_isPerson hk hW rfl) ml_RX12_178 yk_X12_isPerson ⟨wim_X12_isPerson, wse_X12_isPerson⟩ hR rfl (sh_0 hW) rfl rfl rfl (Nat.le_of_ble_eq_true rfl) rfl ?_
  refine go_if_eq hc 24 dX12_stories_5 rfl (fun c11 => ?_) (fun c11 => ?_)
  · replace h := goIfT h c11
    refine go_aload0 hc dX12_stories_24 ?_
    refine go_iconst (v := 1) hc dX12_stories_25 rfl ?_
    replace h := goB2_h h; obtain ⟨x12, M13, e14, h⟩ := h
    refine go_callVi hc dX12_stories_26 (mX12_refuse hk hW e14) ml_RX12_66 yk_X12_refuse ⟨wim_X12_refuse, wse_X12_refuse⟩ hR rfl (sh_0 hW) rfl rfl rfl (Nat.le_of_ble_eq_true rfl) rfl ?_
    cases h
    exact go_iret hc dX12_stories_29 hr
  · replace h := goIfF h c11
    refine go_aload0 hc dX12_stories_8 ?_
    refine go_aload0 hc dX12_stories_9 ?_
    refine go_getR hc lk_RX12_26 dX12_stories_10 (sh_0 hW) (rm_0_5 hW) ?_
    refine go_getR hc lk_RX12_181 dX12_stories_13 (shHill_0 hW (mm_0_5 hW)) (rfHill_11 hW (mm_0_5 hW)) ?_
    refine go_iload1 hc dX12_stories_16 ?_
    replace h := goBind h; obtain ⟨x15, e16, h⟩ := h
    refine go_iald hc dX12_stories_17 (shHill_5 hW (mm_0_5 hW)) e16 ?_
    replace h := goB2_h h; obtain ⟨x17, M18, e19, h⟩ := h
    refine go_callVi hc dX12_stories_18 (mX12_answer hk hW e19) ml_RX12_88 yk_X12_answer ⟨wim_X12_answer, wse_X12_answer⟩ hR rfl (sh_0 hW) rfl rfl rfl (Nat.le_of_ble_eq_true rfl) rfl ?_
    refine go_goto hc 29 dX12_stories_21 rfl ?_
    cases h
    exact go_iret hc dX12_stories_29 hr
theorem dX12_isCase_0 : decode cX12_isCase 0 = .ok (.iload_n 1, 1) := by decide +kernel
theorem dX12_isCase_1 : decode cX12_isCase 1 = .ok (.aload_n 0, 1) := by decide +kernel
theorem dX12_isCase_2 : decode cX12_isCase 2 = .ok (.getfield 26, 3) := by decide +kernel
theorem dX12_isCase_5 : decode cX12_isCase 5 = .ok (.getfield 85, 3) := by decide +kernel
theorem dX12_isCase_8 : decode cX12_isCase 8 = .ok (.invokestatic 156, 3) := by decide +kernel
theorem dX12_isCase_11 : decode cX12_isCase 11 = .ok (.ireturn, 1) := by decide +kernel
theorem zX12_isCase {M : goMI} {R : goMR} {v1 : Int32} : fX12_isCase M R v1 = 0 ∨ fX12_isCase M R v1 = 1 := by
  unfold fX12_isCase
  first | exact zX12_within | ((repeat' split) <;> simp; done) | (simp only [goNm]; (repeat' split) <;> simp)
set_option maxRecDepth 100000 in
set_option maxHeartbeats 4000000 in
theorem mX12_isCase {E : goEv} {l : Launch} {G : goG} {M : goMI} {L : goML} {R : goMR} {v1 : Int32} {r0 : Int32} (hk : goKn E) (hW : goW G R) (h : fX12_isCase M R v1 = r0) : Met l yX12_isCase (goCd yX12_isCase cX12_isCase 2 (Option.some FieldType.boolean)) (goRoom 1 21 0 0) (goPre E [.ref 0, .int v1] G M L R) (goQi E r0 G M L R) 0 0 (goSet E) := by
  refine goMet pl_RX12 hk (lv := [some (.ref 0), some (.int v1)]) rfl (Nat.le_of_ble_eq_true rfl) ?_
  intro X hc hl hR hr hnm
  subst hl
  unfold fX12_isCase at h
  refine go_iload1 hc dX12_isCase_0 ?_
  refine go_aload0 hc dX12_isCase_1 ?_
  refine go_getR hc lk_RX12_26 dX12_isCase_2 (sh_0 hW) (rm_0_5 hW) ?_
  refine go_getI hc lk_RX12_85 dX12_isCase_5 (shHill_0 hW (mm_0_5 hW)) ?_
  refine go_callSi hc dX12_isCase_8 (mX12_within hk hW rfl) ml_RX12_156 yk_X12_within wst_X12_within hR rfl rfl rfl (Nat.le_of_ble_eq_true rfl) rfl ?_
  subst h
  exact go_zret hc dX12_isCase_11 hr (goZ_n zX12_within)
theorem dX12_caseOf_0 : decode cX12_caseOf 0 = .ok (.aload_n 0, 1) := by decide +kernel
theorem dX12_caseOf_1 : decode cX12_caseOf 1 = .ok (.iload_n 1, 1) := by decide +kernel
theorem dX12_caseOf_2 : decode cX12_caseOf 2 = .ok (.invokevirtual 191, 3) := by decide +kernel
theorem dX12_caseOf_5 : decode cX12_caseOf 5 = .ok (.ifCond .eq 27, 3) := by decide +kernel
theorem dX12_caseOf_8 : decode cX12_caseOf 8 = .ok (.aload_n 0, 1) := by decide +kernel
theorem dX12_caseOf_9 : decode cX12_caseOf 9 = .ok (.iload_n 2, 1) := by decide +kernel
theorem dX12_caseOf_10 : decode cX12_caseOf 10 = .ok (.invokevirtual 178, 3) := by decide +kernel
theorem dX12_caseOf_13 : decode cX12_caseOf 13 = .ok (.ifCond .eq 19, 3) := by decide +kernel
theorem dX12_caseOf_16 : decode cX12_caseOf 16 = .ok (.aload_n 0, 1) := by decide +kernel
theorem dX12_caseOf_17 : decode cX12_caseOf 17 = .ok (.aload_n 0, 1) := by decide +kernel
theorem dX12_caseOf_18 : decode cX12_caseOf 18 = .ok (.getfield 26, 3) := by decide +kernel
theorem dX12_caseOf_21 : decode cX12_caseOf 21 = .ok (.iload_n 1, 1) := by decide +kernel
theorem dX12_caseOf_22 : decode cX12_caseOf 22 = .ok (.iload_n 2, 1) := by decide +kernel
theorem dX12_caseOf_23 : decode cX12_caseOf 23 = .ok (.invokevirtual 194, 3) := by decide +kernel
theorem dX12_caseOf_26 : decode cX12_caseOf 26 = .ok (.invokevirtual 88, 3) := by decide +kernel
theorem dX12_caseOf_29 : decode cX12_caseOf 29 = .ok (.goto 8, 3) := by decide +kernel
theorem dX12_caseOf_32 : decode cX12_caseOf 32 = .ok (.aload_n 0, 1) := by decide +kernel
theorem dX12_caseOf_33 : decode cX12_caseOf 33 = .ok (.iconst 1, 1) := by decide +kernel
theorem dX12_caseOf_34 : decode cX12_caseOf 34 = .ok (.invokevirtual 66, 3) := by decide +kernel
theorem dX12_caseOf_37 : decode cX12_caseOf 37 = .ok (.ireturn, 1) := by decide +kernel
set_option maxRecDepth 100000 in
set_option maxHeartbeats 4000000 in
theorem mX12_caseOf {E : goEv} {l : Launch} {G : goG} {M : goMI} {L : goML} {R : goMR} {v1 : Int32} {v2 : Int32} {r0 : Int32} {r1 : goMI} (hk : goKn E) (hW : goW G R) (h : fX12_caseOf M R v1 v2 = some (r0, r1)) : Met l yX12_caseOf (goCd yX12_caseOf cX12_caseOf 3 (Option.some FieldType.int)) (goRoom 2 42 0 0) (goPre E [.ref 0, .int v1, .int v2] G M L R) (goQi E r0 G r1 L R) 0 0 (goSet E) := by
  refine goMet pl_RX12 hk (lv := [some (.ref 0), some (.int v1), some (.int v2)]) rfl (Nat.le_of_ble_eq_true rfl) ?_
  intro X hc hl hR hr hnm
  subst hl
  unfold fX12_caseOf at h
  refine go_aload0 hc dX12_caseOf_0 ?_
  refine go_iload1 hc dX12_caseOf_1 ?_
  refine go_callVi hc dX12_caseOf_2 (mX12_isCase hk hW rfl) ml_RX12_191 yk_X12_isCase ⟨wim_X12_isCase, wse_X12_isCase⟩ hR rfl (sh_0 hW) rfl rfl rfl (Nat.le_of_ble_eq_true rfl) rfl ?_
  refine go_if_eq hc 32 dX12_caseOf_5 rfl (fun c11 => ?_) (fun c11 => ?_)
  · replace h := goIfT h c11
    refine go_aload0 hc dX12_caseOf_32 ?_
    refine go_iconst (v := 1) hc dX12_caseOf_33 rfl ?_
    replace h := goB2_h h; obtain ⟨x12, M13, e14, h⟩ := h
    refine go_callVi hc dX12_caseOf_34 (mX12_refuse hk hW e14) ml_RX12_66 yk_X12_refuse ⟨wim_X12_refuse, wse_X12_refuse⟩ hR rfl (sh_0 hW) rfl rfl rfl (Nat.le_of_ble_eq_true rfl) rfl ?_
    cases h
    exact go_iret hc dX12_caseOf_37 hr
  · replace h := goIfF h c11
    refine go_aload0 hc dX12_caseOf_8 ?_
    refine go_iload2 hc dX12_caseOf_9 ?_
    refine go_callVi hc dX12_caseOf_10 (mX12_isPerson hk hW rfl) ml_RX12_178 yk_X12_isPerson ⟨wim_X12_isPerson, wse_X12_isPerson⟩ hR rfl (sh_0 hW) rfl rfl rfl (Nat.le_of_ble_eq_true rfl) rfl ?_
    refine go_if_eq hc 32 dX12_caseOf_13 rfl (fun c15 => ?_) (fun c15 => ?_)
    · replace h := goIfT h c15
      refine go_aload0 hc dX12_caseOf_32 ?_
      refine go_iconst (v := 1) hc dX12_caseOf_33 rfl ?_
      replace h := goB2_h h; obtain ⟨x16, M17, e18, h⟩ := h
      refine go_callVi hc dX12_caseOf_34 (mX12_refuse hk hW e18) ml_RX12_66 yk_X12_refuse ⟨wim_X12_refuse, wse_X12_refuse⟩ hR rfl (sh_0 hW) rfl rfl rfl (Nat.le_of_ble_eq_true rfl) rfl ?_
      cases h
      exact go_iret hc dX12_caseOf_37 hr
    · replace h := goIfF h c15
      refine go_aload0 hc dX12_caseOf_16 ?_
      refine go_aload0 hc dX12_caseOf_17 ?_
      refine go_getR hc lk_RX12_26 dX12_caseOf_18 (sh_0 hW) (rm_0_5 hW) ?_
      refine go_iload1 hc dX12_caseOf_21 ?_
      refine go_iload2 hc dX12_caseOf_22 ?_
      replace h := goBind h; obtain ⟨x19, e20, h⟩ := h
      refine go_callVi hc dX12_caseOf_23 (mX6_storyIn hk hW (mm_0_5 hW) e20) ml_RX12_194 yk_X6_storyIn ⟨wim_X6_storyIn, wse_X6_storyIn⟩ hR rfl (shHill_0 hW (mm_0_5 hW)) rfl rfl rfl (Nat.le_of_ble_eq_true rfl) rfl ?_
      replace h := goB2_h h; obtain ⟨x21, M22, e23, h⟩ := h
      refine go_callVi hc dX12_caseOf_26 (mX12_answer hk hW e23) ml_RX12_88 yk_X12_answer ⟨wim_X12_answer, wse_X12_answer⟩ hR rfl (sh_0 hW) rfl rfl rfl (Nat.le_of_ble_eq_true rfl) rfl ?_
      refine go_goto hc 37 dX12_caseOf_29 rfl ?_
      cases h
      exact go_iret hc dX12_caseOf_37 hr
theorem dX12_at_0 : decode cX12_at 0 = .ok (.aload_n 0, 1) := by decide +kernel
theorem dX12_at_1 : decode cX12_at 1 = .ok (.iload_n 1, 1) := by decide +kernel
theorem dX12_at_2 : decode cX12_at 2 = .ok (.invokevirtual 191, 3) := by decide +kernel
theorem dX12_at_5 : decode cX12_at 5 = .ok (.ifCond .eq 11, 3) := by decide +kernel
theorem dX12_at_8 : decode cX12_at 8 = .ok (.aload_n 0, 1) := by decide +kernel
theorem dX12_at_9 : decode cX12_at 9 = .ok (.iload_n 2, 1) := by decide +kernel
theorem dX12_at_10 : decode cX12_at 10 = .ok (.invokevirtual 115, 3) := by decide +kernel
theorem dX12_at_13 : decode cX12_at 13 = .ok (.ifCond .ne 9, 3) := by decide +kernel
theorem dX12_at_16 : decode cX12_at 16 = .ok (.aload_n 0, 1) := by decide +kernel
theorem dX12_at_17 : decode cX12_at 17 = .ok (.iconst 1, 1) := by decide +kernel
theorem dX12_at_18 : decode cX12_at 18 = .ok (.invokevirtual 66, 3) := by decide +kernel
theorem dX12_at_21 : decode cX12_at 21 = .ok (.ireturn, 1) := by decide +kernel
theorem dX12_at_22 : decode cX12_at 22 = .ok (.aload_n 0, 1) := by decide +kernel
theorem dX12_at_23 : decode cX12_at 23 = .ok (.iload_n 3, 1) := by decide +kernel
theorem dX12_at_24 : decode cX12_at 24 = .ok (.invokevirtual 184, 3) := by decide +kernel
theorem dX12_at_27 : decode cX12_at 27 = .ok (.ifCond .eq 28, 3) := by decide +kernel
theorem dX12_at_30 : decode cX12_at 30 = .ok (.aload_n 0, 1) := by decide +kernel
theorem dX12_at_31 : decode cX12_at 31 = .ok (.aload_n 0, 1) := by decide +kernel
theorem dX12_at_32 : decode cX12_at 32 = .ok (.getfield 47, 3) := by decide +kernel
theorem dX12_at_35 : decode cX12_at 35 = .ok (.iload_n 1, 1) := by decide +kernel
theorem dX12_at_36 : decode cX12_at 36 = .ok (.invokevirtual 197, 3) := by decide +kernel
theorem dX12_at_39 : decode cX12_at 39 = .ok (.getfield 201, 3) := by decide +kernel
theorem dX12_at_42 : decode cX12_at 42 = .ok (.iload_n 2, 1) := by decide +kernel
theorem dX12_at_43 : decode cX12_at 43 = .ok (.bipush 12, 2) := by decide +kernel
theorem dX12_at_45 : decode cX12_at 45 = .ok (.imul, 1) := by decide +kernel
theorem dX12_at_46 : decode cX12_at 46 = .ok (.iload_n 3, 1) := by decide +kernel
theorem dX12_at_47 : decode cX12_at 47 = .ok (.iadd, 1) := by decide +kernel
theorem dX12_at_48 : decode cX12_at 48 = .ok (.iaload, 1) := by decide +kernel
theorem dX12_at_49 : decode cX12_at 49 = .ok (.invokevirtual 88, 3) := by decide +kernel
theorem dX12_at_52 : decode cX12_at 52 = .ok (.goto 8, 3) := by decide +kernel
theorem dX12_at_55 : decode cX12_at 55 = .ok (.aload_n 0, 1) := by decide +kernel
theorem dX12_at_56 : decode cX12_at 56 = .ok (.iconst 2, 1) := by decide +kernel
theorem dX12_at_57 : decode cX12_at 57 = .ok (.invokevirtual 66, 3) := by decide +kernel
theorem dX12_at_60 : decode cX12_at 60 = .ok (.ireturn, 1) := by decide +kernel
set_option maxRecDepth 100000 in
set_option maxHeartbeats 4000000 in
theorem mX12_at {E : goEv} {l : Launch} {G : goG} {N : Nat} {M : goMI} {L : goML} {R : goMR} {v1 : Int32} {v2 : Int32} {v3 : Int32} {r0 : Int32} {r1 : goMI} (hk : goKn E) (hW : goW G R) (h : fX12_at N M R v1 v2 v3 = some (r0, r1)) : Met l yX12_at (goCd yX12_at cX12_at 4 (Option.some FieldType.int)) (goRoom 5 126 0 0) (goPre E [.ref 0, .int v1, .int v2, .int v3] G M L R) (goQi E r0 G r1 L R) 0 0 (goSet E) := by
  refine goMet pl_RX12 hk (lv := [some (.ref 0), some (.int v1), some (.int v2), some (.int v3)]) rfl (Nat.le_of_ble_eq_true rfl) ?_
  intro X hc hl hR hr hnm
  subst hl
  unfold fX12_at at h
  refine go_aload0 hc dX12_at_0 ?_
  refine go_iload1 hc dX12_at_1 ?_
  refine go_callVi hc dX12_at_2 (mX12_isCase hk hW rfl) ml_RX12_191 yk_X12_isCase ⟨wim_X12_isCase, wse_X12_isCase⟩ hR rfl (sh_0 hW) rfl rfl rfl (Nat.le_of_ble_eq_true rfl) rfl ?_
  refine go_if_eq hc 16 dX12_at_5 rfl (fun c11 => ?_) (fun c11 => ?_)
  · replace h := goIfT h c11
    refine go_aload0 hc dX12_at_16 ?_
    refine go_iconst (v := 1) hc dX12_at_17 rfl ?_
    replace h := goB2_h h; obtain ⟨x12, M13, e14, h⟩ := h
    refine go_callVi hc dX12_at_18 (mX12_refuse hk hW e14) ml_RX12_66 yk_X12_refuse ⟨wim_X12_refuse, wse_X12_refuse⟩ hR rfl (sh_0 hW) rfl rfl rfl (Nat.le_of_ble_eq_true rfl) rfl ?_
    cases h
    exact go_iret hc dX12_at_21 hr
  · replace h := goIfF h c11
    refine go_aload0 hc dX12_at_8 ?_
    refine go_iload2 hc dX12_at_9 ?_
    refine go_callVi hc dX12_at_10 (mX12_isGoat hk hW rfl) ml_RX12_115 yk_X12_isGoat ⟨wim_X12_isGoat, wse_X12_isGoat⟩ hR rfl (sh_0 hW) rfl rfl rfl (Nat.le_of_ble_eq_true rfl) rfl ?_
    refine go_if_ne hc 22 dX12_at_13 rfl (fun c15 => ?_) (fun c15 => ?_)
    · replace h := goIfF h c15
      refine go_aload0 hc dX12_at_22 ?_
      refine go_iload3 hc dX12_at_23 ?_
      refine go_callVi hc dX12_at_24 (mX12_isHour hk hW rfl) ml_RX12_184 yk_X12_isHour ⟨wim_X12_isHour, wse_X12_isHour⟩ hR rfl (sh_0 hW) rfl rfl rfl (Nat.le_of_ble_eq_true rfl) rfl ?_
      refine go_if_eq hc 55 dX12_at_27 rfl (fun c16 => ?_) (fun c16 => ?_)
      · replace h := goIfT h c16
        refine go_aload0 hc dX12_at_55 ?_
        refine go_iconst (v := 2) hc dX12_at_56 rfl ?_
        replace h := goB2_h h; obtain ⟨x17, M18, e19, h⟩ := h
        refine go_callVi hc dX12_at_57 (mX12_refuse hk hW e19) ml_RX12_66 yk_X12_refuse ⟨wim_X12_refuse, wse_X12_refuse⟩ hR rfl (sh_0 hW) rfl rfl rfl (Nat.le_of_ble_eq_true rfl) rfl ?_
        cases h
        exact go_iret hc dX12_at_60 hr
      · replace h := goIfF h c16
        refine go_aload0 hc dX12_at_30 ?_
        refine go_aload0 hc dX12_at_31 ?_
        refine go_getR hc lk_RX12_47 dX12_at_32 (sh_0 hW) (rf_0_3 hW) ?_
        refine go_iload1 hc dX12_at_35 ?_
        replace h := goBind h; obtain ⟨M20, e21, h⟩ := h
        refine go_callVr hc dX12_at_36 (mX4_dayOf hk hW e21) ml_RX12_197 yk_X4_dayOf ⟨wim_X4_dayOf, wse_X4_dayOf⟩ hR rfl (sh_74 hW) rfl rfl rfl (Nat.le_of_ble_eq_true rfl) rfl ?_
        refine go_getR hc lk_RX12_201 dX12_at_39 (shDay_0 hW mb_78) (rfDay_6 hW mb_78) ?_
        refine go_iload2 hc dX12_at_42 ?_
        refine go_bipush (v := 12) hc dX12_at_43 rfl ?_
        refine go_imul hc dX12_at_45 ?_
        refine go_iload3 hc dX12_at_46 ?_
        refine go_iadd hc dX12_at_47 ?_
        replace h := goBind h; obtain ⟨x22, e23, h⟩ := h
        refine go_iald hc dX12_at_48 (shDay_5 hW mb_78) e23 ?_
        replace h := goB2_h h; obtain ⟨x24, M25, e26, h⟩ := h
        refine go_callVi hc dX12_at_49 (mX12_answer hk hW e26) ml_RX12_88 yk_X12_answer ⟨wim_X12_answer, wse_X12_answer⟩ hR rfl (sh_0 hW) rfl rfl rfl (Nat.le_of_ble_eq_true rfl) rfl ?_
        refine go_goto hc 60 dX12_at_52 rfl ?_
        cases h
        exact go_iret hc dX12_at_60 hr
    · replace h := goIfT h c15
      refine go_aload0 hc dX12_at_16 ?_
      refine go_iconst (v := 1) hc dX12_at_17 rfl ?_
      replace h := goB2_h h; obtain ⟨x27, M28, e29, h⟩ := h
      refine go_callVi hc dX12_at_18 (mX12_refuse hk hW e29) ml_RX12_66 yk_X12_refuse ⟨wim_X12_refuse, wse_X12_refuse⟩ hR rfl (sh_0 hW) rfl rfl rfl (Nat.le_of_ble_eq_true rfl) rfl ?_
      cases h
      exact go_iret hc dX12_at_21 hr
theorem dX12_ate_0 : decode cX12_ate 0 = .ok (.aload_n 0, 1) := by decide +kernel
theorem dX12_ate_1 : decode cX12_ate 1 = .ok (.iload_n 1, 1) := by decide +kernel
theorem dX12_ate_2 : decode cX12_ate 2 = .ok (.invokevirtual 191, 3) := by decide +kernel
theorem dX12_ate_5 : decode cX12_ate 5 = .ok (.ifCond .eq 19, 3) := by decide +kernel
theorem dX12_ate_8 : decode cX12_ate 8 = .ok (.aload_n 0, 1) := by decide +kernel
theorem dX12_ate_9 : decode cX12_ate 9 = .ok (.iload_n 2, 1) := by decide +kernel
theorem dX12_ate_10 : decode cX12_ate 10 = .ok (.invokevirtual 115, 3) := by decide +kernel
theorem dX12_ate_13 : decode cX12_ate 13 = .ok (.ifCond .eq 11, 3) := by decide +kernel
theorem dX12_ate_16 : decode cX12_ate 16 = .ok (.aload_n 0, 1) := by decide +kernel
theorem dX12_ate_17 : decode cX12_ate 17 = .ok (.iload_n 3, 1) := by decide +kernel
theorem dX12_ate_18 : decode cX12_ate 18 = .ok (.invokevirtual 101, 3) := by decide +kernel
theorem dX12_ate_21 : decode cX12_ate 21 = .ok (.ifCond .ne 9, 3) := by decide +kernel
theorem dX12_ate_24 : decode cX12_ate 24 = .ok (.aload_n 0, 1) := by decide +kernel
theorem dX12_ate_25 : decode cX12_ate 25 = .ok (.iconst 1, 1) := by decide +kernel
theorem dX12_ate_26 : decode cX12_ate 26 = .ok (.invokevirtual 66, 3) := by decide +kernel
theorem dX12_ate_29 : decode cX12_ate 29 = .ok (.ireturn, 1) := by decide +kernel
theorem dX12_ate_30 : decode cX12_ate 30 = .ok (.aload_n 0, 1) := by decide +kernel
theorem dX12_ate_31 : decode cX12_ate 31 = .ok (.aload_n 0, 1) := by decide +kernel
theorem dX12_ate_32 : decode cX12_ate 32 = .ok (.getfield 47, 3) := by decide +kernel
theorem dX12_ate_35 : decode cX12_ate 35 = .ok (.iload_n 1, 1) := by decide +kernel
theorem dX12_ate_36 : decode cX12_ate 36 = .ok (.invokevirtual 197, 3) := by decide +kernel
theorem dX12_ate_39 : decode cX12_ate 39 = .ok (.getfield 206, 3) := by decide +kernel
theorem dX12_ate_42 : decode cX12_ate 42 = .ok (.iload_n 2, 1) := by decide +kernel
theorem dX12_ate_43 : decode cX12_ate 43 = .ok (.iconst 4, 1) := by decide +kernel
theorem dX12_ate_44 : decode cX12_ate 44 = .ok (.imul, 1) := by decide +kernel
theorem dX12_ate_45 : decode cX12_ate 45 = .ok (.iload_n 3, 1) := by decide +kernel
theorem dX12_ate_46 : decode cX12_ate 46 = .ok (.iadd, 1) := by decide +kernel
theorem dX12_ate_47 : decode cX12_ate 47 = .ok (.iaload, 1) := by decide +kernel
theorem dX12_ate_48 : decode cX12_ate 48 = .ok (.invokevirtual 88, 3) := by decide +kernel
theorem dX12_ate_51 : decode cX12_ate 51 = .ok (.ireturn, 1) := by decide +kernel
set_option maxRecDepth 100000 in
set_option maxHeartbeats 4000000 in
theorem mX12_ate {E : goEv} {l : Launch} {G : goG} {N : Nat} {M : goMI} {L : goML} {R : goMR} {v1 : Int32} {v2 : Int32} {v3 : Int32} {r0 : Int32} {r1 : goMI} (hk : goKn E) (hW : goW G R) (h : fX12_ate N M R v1 v2 v3 = some (r0, r1)) : Met l yX12_ate (goCd yX12_ate cX12_ate 4 (Option.some FieldType.int)) (goRoom 5 126 0 0) (goPre E [.ref 0, .int v1, .int v2, .int v3] G M L R) (goQi E r0 G r1 L R) 0 0 (goSet E) := by
  refine goMet pl_RX12 hk (lv := [some (.ref 0), some (.int v1), some (.int v2), some (.int v3)]) rfl (Nat.le_of_ble_eq_true rfl) ?_
  intro X hc hl hR hr hnm
  subst hl
  unfold fX12_ate at h
  refine go_aload0 hc dX12_ate_0 ?_
  refine go_iload1 hc dX12_ate_1 ?_
  refine go_callVi hc dX12_ate_2 (mX12_isCase hk hW rfl) ml_RX12_191 yk_X12_isCase ⟨wim_X12_isCase, wse_X12_isCase⟩ hR rfl (sh_0 hW) rfl rfl rfl (Nat.le_of_ble_eq_true rfl) rfl ?_
  refine go_if_eq hc 24 dX12_ate_5 rfl (fun c11 => ?_) (fun c11 => ?_)
  · replace h := goIfT h c11
    refine go_aload0 hc dX12_ate_24 ?_
    refine go_iconst (v := 1) hc dX12_ate_25 rfl ?_
    replace h := goB2_h h; obtain ⟨x12, M13, e14, h⟩ := h
    refine go_callVi hc dX12_ate_26 (mX12_refuse hk hW e14) ml_RX12_66 yk_X12_refuse ⟨wim_X12_refuse, wse_X12_refuse⟩ hR rfl (sh_0 hW) rfl rfl rfl (Nat.le_of_ble_eq_true rfl) rfl ?_
    cases h
    exact go_iret hc dX12_ate_29 hr
  · replace h := goIfF h c11
    refine go_aload0 hc dX12_ate_8 ?_
    refine go_iload2 hc dX12_ate_9 ?_
    refine go_callVi hc dX12_ate_10 (mX12_isGoat hk hW rfl) ml_RX12_115 yk_X12_isGoat ⟨wim_X12_isGoat, wse_X12_isGoat⟩ hR rfl (sh_0 hW) rfl rfl rfl (Nat.le_of_ble_eq_true rfl) rfl ?_
    refine go_if_eq hc 24 dX12_ate_13 rfl (fun c15 => ?_) (fun c15 => ?_)
    · replace h := goIfT h c15
      refine go_aload0 hc dX12_ate_24 ?_
      refine go_iconst (v := 1) hc dX12_ate_25 rfl ?_
      replace h := goB2_h h; obtain ⟨x16, M17, e18, h⟩ := h
      refine go_callVi hc dX12_ate_26 (mX12_refuse hk hW e18) ml_RX12_66 yk_X12_refuse ⟨wim_X12_refuse, wse_X12_refuse⟩ hR rfl (sh_0 hW) rfl rfl rfl (Nat.le_of_ble_eq_true rfl) rfl ?_
      cases h
      exact go_iret hc dX12_ate_29 hr
    · replace h := goIfF h c15
      refine go_aload0 hc dX12_ate_16 ?_
      refine go_iload3 hc dX12_ate_17 ?_
      refine go_callVi hc dX12_ate_18 (mX12_isPlant hk hW rfl) ml_RX12_101 yk_X12_isPlant ⟨wim_X12_isPlant, wse_X12_isPlant⟩ hR rfl (sh_0 hW) rfl rfl rfl (Nat.le_of_ble_eq_true rfl) rfl ?_
      refine go_if_ne hc 30 dX12_ate_21 rfl (fun c19 => ?_) (fun c19 => ?_)
      · replace h := goIfF h c19
        refine go_aload0 hc dX12_ate_30 ?_
        refine go_aload0 hc dX12_ate_31 ?_
        refine go_getR hc lk_RX12_47 dX12_ate_32 (sh_0 hW) (rf_0_3 hW) ?_
        refine go_iload1 hc dX12_ate_35 ?_
        replace h := goBind h; obtain ⟨M20, e21, h⟩ := h
        refine go_callVr hc dX12_ate_36 (mX4_dayOf hk hW e21) ml_RX12_197 yk_X4_dayOf ⟨wim_X4_dayOf, wse_X4_dayOf⟩ hR rfl (sh_74 hW) rfl rfl rfl (Nat.le_of_ble_eq_true rfl) rfl ?_
        refine go_getR hc lk_RX12_206 dX12_ate_39 (shDay_0 hW mb_78) (rfDay_8 hW mb_78) ?_
        refine go_iload2 hc dX12_ate_42 ?_
        refine go_iconst (v := 4) hc dX12_ate_43 rfl ?_
        refine go_imul hc dX12_ate_44 ?_
        refine go_iload3 hc dX12_ate_45 ?_
        refine go_iadd hc dX12_ate_46 ?_
        replace h := goBind h; obtain ⟨x22, e23, h⟩ := h
        refine go_iald hc dX12_ate_47 (shDay_7 hW mb_78) e23 ?_
        replace h := goB2_h h; obtain ⟨x24, M25, e26, h⟩ := h
        refine go_callVi hc dX12_ate_48 (mX12_answer hk hW e26) ml_RX12_88 yk_X12_answer ⟨wim_X12_answer, wse_X12_answer⟩ hR rfl (sh_0 hW) rfl rfl rfl (Nat.le_of_ble_eq_true rfl) rfl ?_
        cases h
        exact go_iret hc dX12_ate_51 hr
      · replace h := goIfT h c19
        refine go_aload0 hc dX12_ate_24 ?_
        refine go_iconst (v := 1) hc dX12_ate_25 rfl ?_
        replace h := goB2_h h; obtain ⟨x27, M28, e29, h⟩ := h
        refine go_callVi hc dX12_ate_26 (mX12_refuse hk hW e29) ml_RX12_66 yk_X12_refuse ⟨wim_X12_refuse, wse_X12_refuse⟩ hR rfl (sh_0 hW) rfl rfl rfl (Nat.le_of_ble_eq_true rfl) rfl ?_
        cases h
        exact go_iret hc dX12_ate_29 hr
theorem dX12_drops_0 : decode cX12_drops 0 = .ok (.aload_n 0, 1) := by decide +kernel
theorem dX12_drops_1 : decode cX12_drops 1 = .ok (.iload_n 1, 1) := by decide +kernel
theorem dX12_drops_2 : decode cX12_drops 2 = .ok (.invokevirtual 191, 3) := by decide +kernel
theorem dX12_drops_5 : decode cX12_drops 5 = .ok (.ifCond .eq 28, 3) := by decide +kernel
theorem dX12_drops_8 : decode cX12_drops 8 = .ok (.aload_n 0, 1) := by decide +kernel
theorem dX12_drops_9 : decode cX12_drops 9 = .ok (.iload_n 2, 1) := by decide +kernel
theorem dX12_drops_10 : decode cX12_drops 10 = .ok (.invokevirtual 115, 3) := by decide +kernel
theorem dX12_drops_13 : decode cX12_drops 13 = .ok (.ifCond .eq 20, 3) := by decide +kernel
theorem dX12_drops_16 : decode cX12_drops 16 = .ok (.aload_n 0, 1) := by decide +kernel
theorem dX12_drops_17 : decode cX12_drops 17 = .ok (.iload_n 3, 1) := by decide +kernel
theorem dX12_drops_18 : decode cX12_drops 18 = .ok (.invokevirtual 101, 3) := by decide +kernel
theorem dX12_drops_21 : decode cX12_drops 21 = .ok (.ifCond .eq 12, 3) := by decide +kernel
theorem dX12_drops_24 : decode cX12_drops 24 = .ok (.aload_n 0, 1) := by decide +kernel
theorem dX12_drops_25 : decode cX12_drops 25 = .ok (.iload 4, 2) := by decide +kernel
theorem dX12_drops_27 : decode cX12_drops 27 = .ok (.invokevirtual 97, 3) := by decide +kernel
theorem dX12_drops_30 : decode cX12_drops 30 = .ok (.ifCond .ne 9, 3) := by decide +kernel
theorem dX12_drops_33 : decode cX12_drops 33 = .ok (.aload_n 0, 1) := by decide +kernel
theorem dX12_drops_34 : decode cX12_drops 34 = .ok (.iconst 1, 1) := by decide +kernel
theorem dX12_drops_35 : decode cX12_drops 35 = .ok (.invokevirtual 66, 3) := by decide +kernel
theorem dX12_drops_38 : decode cX12_drops 38 = .ok (.ireturn, 1) := by decide +kernel
theorem dX12_drops_39 : decode cX12_drops 39 = .ok (.aload_n 0, 1) := by decide +kernel
theorem dX12_drops_40 : decode cX12_drops 40 = .ok (.aload_n 0, 1) := by decide +kernel
theorem dX12_drops_41 : decode cX12_drops 41 = .ok (.getfield 47, 3) := by decide +kernel
theorem dX12_drops_44 : decode cX12_drops 44 = .ok (.iload_n 1, 1) := by decide +kernel
theorem dX12_drops_45 : decode cX12_drops 45 = .ok (.invokevirtual 197, 3) := by decide +kernel
theorem dX12_drops_48 : decode cX12_drops 48 = .ok (.getfield 209, 3) := by decide +kernel
theorem dX12_drops_51 : decode cX12_drops 51 = .ok (.iload_n 2, 1) := by decide +kernel
theorem dX12_drops_52 : decode cX12_drops 52 = .ok (.iconst 4, 1) := by decide +kernel
theorem dX12_drops_53 : decode cX12_drops 53 = .ok (.imul, 1) := by decide +kernel
theorem dX12_drops_54 : decode cX12_drops 54 = .ok (.iload_n 3, 1) := by decide +kernel
theorem dX12_drops_55 : decode cX12_drops 55 = .ok (.iadd, 1) := by decide +kernel
theorem dX12_drops_56 : decode cX12_drops 56 = .ok (.bipush 8, 2) := by decide +kernel
theorem dX12_drops_58 : decode cX12_drops 58 = .ok (.imul, 1) := by decide +kernel
theorem dX12_drops_59 : decode cX12_drops 59 = .ok (.iload 4, 2) := by decide +kernel
theorem dX12_drops_61 : decode cX12_drops 61 = .ok (.iadd, 1) := by decide +kernel
theorem dX12_drops_62 : decode cX12_drops 62 = .ok (.iaload, 1) := by decide +kernel
theorem dX12_drops_63 : decode cX12_drops 63 = .ok (.invokevirtual 88, 3) := by decide +kernel
theorem dX12_drops_66 : decode cX12_drops 66 = .ok (.ireturn, 1) := by decide +kernel
set_option maxRecDepth 100000 in
set_option maxHeartbeats 4000000 in
theorem mX12_drops {E : goEv} {l : Launch} {G : goG} {N : Nat} {M : goMI} {L : goML} {R : goMR} {v1 : Int32} {v2 : Int32} {v3 : Int32} {v4 : Int32} {r0 : Int32} {r1 : goMI} (hk : goKn E) (hW : goW G R) (h : fX12_drops N M R v1 v2 v3 v4 = some (r0, r1)) : Met l yX12_drops (goCd yX12_drops cX12_drops 5 (Option.some FieldType.int)) (goRoom 5 126 0 0) (goPre E [.ref 0, .int v1, .int v2, .int v3, .int v4] G M L R) (goQi E r0 G r1 L R) 0 0 (goSet E) := by
  refine goMet pl_RX12 hk (lv := [some (.ref 0), some (.int v1), some (.int v2), some (.int v3), some (.int v4)]) rfl (Nat.le_of_ble_eq_true rfl) ?_
  intro X hc hl hR hr hnm
  subst hl
  unfold fX12_drops at h
  refine go_aload0 hc dX12_drops_0 ?_
  refine go_iload1 hc dX12_drops_1 ?_
  refine go_callVi hc dX12_drops_2 (mX12_isCase hk hW rfl) ml_RX12_191 yk_X12_isCase ⟨wim_X12_isCase, wse_X12_isCase⟩ hR rfl (sh_0 hW) rfl rfl rfl (Nat.le_of_ble_eq_true rfl) rfl ?_
  refine go_if_eq hc 33 dX12_drops_5 rfl (fun c11 => ?_) (fun c11 => ?_)
  · replace h := goIfT h c11
    refine go_aload0 hc dX12_drops_33 ?_
    refine go_iconst (v := 1) hc dX12_drops_34 rfl ?_
    replace h := goB2_h h; obtain ⟨x12, M13, e14, h⟩ := h
    refine go_callVi hc dX12_drops_35 (mX12_refuse hk hW e14) ml_RX12_66 yk_X12_refuse ⟨wim_X12_refuse, wse_X12_refuse⟩ hR rfl (sh_0 hW) rfl rfl rfl (Nat.le_of_ble_eq_true rfl) rfl ?_
    cases h
    exact go_iret hc dX12_drops_38 hr
  · replace h := goIfF h c11
    refine go_aload0 hc dX12_drops_8 ?_
    refine go_iload2 hc dX12_drops_9 ?_
    refine go_callVi hc dX12_drops_10 (mX12_isGoat hk hW rfl) ml_RX12_115 yk_X12_isGoat ⟨wim_X12_isGoat, wse_X12_isGoat⟩ hR rfl (sh_0 hW) rfl rfl rfl (Nat.le_of_ble_eq_true rfl) rfl ?_
    refine go_if_eq hc 33 dX12_drops_13 rfl (fun c15 => ?_) (fun c15 => ?_)
    · replace h := goIfT h c15
      refine go_aload0 hc dX12_drops_33 ?_
      refine go_iconst (v := 1) hc dX12_drops_34 rfl ?_
      replace h := goB2_h h; obtain ⟨x16, M17, e18, h⟩ := h
      refine go_callVi hc dX12_drops_35 (mX12_refuse hk hW e18) ml_RX12_66 yk_X12_refuse ⟨wim_X12_refuse, wse_X12_refuse⟩ hR rfl (sh_0 hW) rfl rfl rfl (Nat.le_of_ble_eq_true rfl) rfl ?_
      cases h
      exact go_iret hc dX12_drops_38 hr
    · replace h := goIfF h c15
      refine go_aload0 hc dX12_drops_16 ?_
      refine go_iload3 hc dX12_drops_17 ?_
      refine go_callVi hc dX12_drops_18 (mX12_isPlant hk hW rfl) ml_RX12_101 yk_X12_isPlant ⟨wim_X12_isPlant, wse_X12_isPlant⟩ hR rfl (sh_0 hW) rfl rfl rfl (Nat.le_of_ble_eq_true rfl) rfl ?_
      refine go_if_eq hc 33 dX12_drops_21 rfl (fun c19 => ?_) (fun c19 => ?_)
      · replace h := goIfT h c19
        refine go_aload0 hc dX12_drops_33 ?_
        refine go_iconst (v := 1) hc dX12_drops_34 rfl ?_
        replace h := goB2_h h; obtain ⟨x20, M21, e22, h⟩ := h
        refine go_callVi hc dX12_drops_35 (mX12_refuse hk hW e22) ml_RX12_66 yk_X12_refuse ⟨wim_X12_refuse, wse_X12_refuse⟩ hR rfl (sh_0 hW) rfl rfl rfl (Nat.le_of_ble_eq_true rfl) rfl ?_
        cases h
        exact go_iret hc dX12_drops_38 hr
      · replace h := goIfF h c19
        refine go_aload0 hc dX12_drops_24 ?_
        refine go_iload4 hc dX12_drops_25 ?_
        refine go_callVi hc dX12_drops_27 (mX12_isPlace hk hW rfl) ml_RX12_97 yk_X12_isPlace ⟨wim_X12_isPlace, wse_X12_isPlace⟩ hR rfl (sh_0 hW) rfl rfl rfl (Nat.le_of_ble_eq_true rfl) rfl ?_
        refine go_if_ne hc 39 dX12_drops_30 rfl (fun c23 => ?_) (fun c23 => ?_)
        · replace h := goIfF h c23
          refine go_aload0 hc dX12_drops_39 ?_
          refine go_aload0 hc dX12_drops_40 ?_
          refine go_getR hc lk_RX12_47 dX12_drops_41 (sh_0 hW) (rf_0_3 hW) ?_
          refine go_iload1 hc dX12_drops_44 ?_
          replace h := goBind h; obtain ⟨M24, e25, h⟩ := h
          refine go_callVr hc dX12_drops_45 (mX4_dayOf hk hW e25) ml_RX12_197 yk_X4_dayOf ⟨wim_X4_dayOf, wse_X4_dayOf⟩ hR rfl (sh_74 hW) rfl rfl rfl (Nat.le_of_ble_eq_true rfl) rfl ?_
          refine go_getR hc lk_RX12_209 dX12_drops_48 (shDay_0 hW mb_78) (rfDay_9 hW mb_78) ?_
          refine go_iload2 hc dX12_drops_51 ?_
          refine go_iconst (v := 4) hc dX12_drops_52 rfl ?_
          refine go_imul hc dX12_drops_53 ?_
          refine go_iload3 hc dX12_drops_54 ?_
          refine go_iadd hc dX12_drops_55 ?_
          refine go_bipush (v := 8) hc dX12_drops_56 rfl ?_
          refine go_imul hc dX12_drops_58 ?_
          refine go_iload4 hc dX12_drops_59 ?_
          refine go_iadd hc dX12_drops_61 ?_
          replace h := goBind h; obtain ⟨x26, e27, h⟩ := h
          refine go_iald hc dX12_drops_62 (shDay_8 hW mb_78) e27 ?_
          replace h := goB2_h h; obtain ⟨x28, M29, e30, h⟩ := h
          refine go_callVi hc dX12_drops_63 (mX12_answer hk hW e30) ml_RX12_88 yk_X12_answer ⟨wim_X12_answer, wse_X12_answer⟩ hR rfl (sh_0 hW) rfl rfl rfl (Nat.le_of_ble_eq_true rfl) rfl ?_
          cases h
          exact go_iret hc dX12_drops_66 hr
        · replace h := goIfT h c23
          refine go_aload0 hc dX12_drops_33 ?_
          refine go_iconst (v := 1) hc dX12_drops_34 rfl ?_
          replace h := goB2_h h; obtain ⟨x31, M32, e33, h⟩ := h
          refine go_callVi hc dX12_drops_35 (mX12_refuse hk hW e33) ml_RX12_66 yk_X12_refuse ⟨wim_X12_refuse, wse_X12_refuse⟩ hR rfl (sh_0 hW) rfl rfl rfl (Nat.le_of_ble_eq_true rfl) rfl ?_
          cases h
          exact go_iret hc dX12_drops_38 hr
theorem dX12_flees_0 : decode cX12_flees 0 = .ok (.aload_n 0, 1) := by decide +kernel
theorem dX12_flees_1 : decode cX12_flees 1 = .ok (.iload_n 1, 1) := by decide +kernel
theorem dX12_flees_2 : decode cX12_flees 2 = .ok (.invokevirtual 191, 3) := by decide +kernel
theorem dX12_flees_5 : decode cX12_flees 5 = .ok (.ifCond .eq 31, 3) := by decide +kernel
theorem dX12_flees_8 : decode cX12_flees 8 = .ok (.aload_n 0, 1) := by decide +kernel
theorem dX12_flees_9 : decode cX12_flees 9 = .ok (.iload_n 2, 1) := by decide +kernel
theorem dX12_flees_10 : decode cX12_flees 10 = .ok (.invokevirtual 115, 3) := by decide +kernel
theorem dX12_flees_13 : decode cX12_flees 13 = .ok (.ifCond .eq 23, 3) := by decide +kernel
theorem dX12_flees_16 : decode cX12_flees 16 = .ok (.aload_n 0, 1) := by decide +kernel
theorem dX12_flees_17 : decode cX12_flees 17 = .ok (.aload_n 0, 1) := by decide +kernel
theorem dX12_flees_18 : decode cX12_flees 18 = .ok (.getfield 47, 3) := by decide +kernel
theorem dX12_flees_21 : decode cX12_flees 21 = .ok (.iload_n 1, 1) := by decide +kernel
theorem dX12_flees_22 : decode cX12_flees 22 = .ok (.invokevirtual 197, 3) := by decide +kernel
theorem dX12_flees_25 : decode cX12_flees 25 = .ok (.getfield 212, 3) := by decide +kernel
theorem dX12_flees_28 : decode cX12_flees 28 = .ok (.iload_n 2, 1) := by decide +kernel
theorem dX12_flees_29 : decode cX12_flees 29 = .ok (.iaload, 1) := by decide +kernel
theorem dX12_flees_30 : decode cX12_flees 30 = .ok (.invokevirtual 88, 3) := by decide +kernel
theorem dX12_flees_33 : decode cX12_flees 33 = .ok (.goto 8, 3) := by decide +kernel
theorem dX12_flees_36 : decode cX12_flees 36 = .ok (.aload_n 0, 1) := by decide +kernel
theorem dX12_flees_37 : decode cX12_flees 37 = .ok (.iconst 1, 1) := by decide +kernel
theorem dX12_flees_38 : decode cX12_flees 38 = .ok (.invokevirtual 66, 3) := by decide +kernel
theorem dX12_flees_41 : decode cX12_flees 41 = .ok (.ireturn, 1) := by decide +kernel
set_option maxRecDepth 100000 in
set_option maxHeartbeats 4000000 in
theorem mX12_flees {E : goEv} {l : Launch} {G : goG} {N : Nat} {M : goMI} {L : goML} {R : goMR} {v1 : Int32} {v2 : Int32} {r0 : Int32} {r1 : goMI} (hk : goKn E) (hW : goW G R) (h : fX12_flees N M R v1 v2 = some (r0, r1)) : Met l yX12_flees (goCd yX12_flees cX12_flees 3 (Option.some FieldType.int)) (goRoom 5 126 0 0) (goPre E [.ref 0, .int v1, .int v2] G M L R) (goQi E r0 G r1 L R) 0 0 (goSet E) := by
  refine goMet pl_RX12 hk (lv := [some (.ref 0), some (.int v1), some (.int v2)]) rfl (Nat.le_of_ble_eq_true rfl) ?_
  intro X hc hl hR hr hnm
  subst hl
  unfold fX12_flees at h
  refine go_aload0 hc dX12_flees_0 ?_
  refine go_iload1 hc dX12_flees_1 ?_
  refine go_callVi hc dX12_flees_2 (mX12_isCase hk hW rfl) ml_RX12_191 yk_X12_isCase ⟨wim_X12_isCase, wse_X12_isCase⟩ hR rfl (sh_0 hW) rfl rfl rfl (Nat.le_of_ble_eq_true rfl) rfl ?_
  refine go_if_eq hc 36 dX12_flees_5 rfl (fun c11 => ?_) (fun c11 => ?_)
  · replace h := goIfT h c11
    refine go_aload0 hc dX12_flees_36 ?_
    refine go_iconst (v := 1) hc dX12_flees_37 rfl ?_
    replace h := goB2_h h; obtain ⟨x12, M13, e14, h⟩ := h
    refine go_callVi hc dX12_flees_38 (mX12_refuse hk hW e14) ml_RX12_66 yk_X12_refuse ⟨wim_X12_refuse, wse_X12_refuse⟩ hR rfl (sh_0 hW) rfl rfl rfl (Nat.le_of_ble_eq_true rfl) rfl ?_
    cases h
    exact go_iret hc dX12_flees_41 hr
  · replace h := goIfF h c11
    refine go_aload0 hc dX12_flees_8 ?_
    refine go_iload2 hc dX12_flees_9 ?_
    refine go_callVi hc dX12_flees_10 (mX12_isGoat hk hW rfl) ml_RX12_115 yk_X12_isGoat ⟨wim_X12_isGoat, wse_X12_isGoat⟩ hR rfl (sh_0 hW) rfl rfl rfl (Nat.le_of_ble_eq_true rfl) rfl ?_
    refine go_if_eq hc 36 dX12_flees_13 rfl (fun c15 => ?_) (fun c15 => ?_)
    · replace h := goIfT h c15
      refine go_aload0 hc dX12_flees_36 ?_
      refine go_iconst (v := 1) hc dX12_flees_37 rfl ?_
      replace h := goB2_h h; obtain ⟨x16, M17, e18, h⟩ := h
      refine go_callVi hc dX12_flees_38 (mX12_refuse hk hW e18) ml_RX12_66 yk_X12_refuse ⟨wim_X12_refuse, wse_X12_refuse⟩ hR rfl (sh_0 hW) rfl rfl rfl (Nat.le_of_ble_eq_true rfl) rfl ?_
      cases h
      exact go_iret hc dX12_flees_41 hr
    · replace h := goIfF h c15
      refine go_aload0 hc dX12_flees_16 ?_
      refine go_aload0 hc dX12_flees_17 ?_
      refine go_getR hc lk_RX12_47 dX12_flees_18 (sh_0 hW) (rf_0_3 hW) ?_
      refine go_iload1 hc dX12_flees_21 ?_
      replace h := goBind h; obtain ⟨M19, e20, h⟩ := h
      refine go_callVr hc dX12_flees_22 (mX4_dayOf hk hW e20) ml_RX12_197 yk_X4_dayOf ⟨wim_X4_dayOf, wse_X4_dayOf⟩ hR rfl (sh_74 hW) rfl rfl rfl (Nat.le_of_ble_eq_true rfl) rfl ?_
      refine go_getR hc lk_RX12_212 dX12_flees_25 (shDay_0 hW mb_78) (rfDay_10 hW mb_78) ?_
      refine go_iload2 hc dX12_flees_28 ?_
      replace h := goBind h; obtain ⟨x21, e22, h⟩ := h
      refine go_iald hc dX12_flees_29 (shDay_9 hW mb_78) e22 ?_
      replace h := goB2_h h; obtain ⟨x23, M24, e25, h⟩ := h
      refine go_callVi hc dX12_flees_30 (mX12_answer hk hW e25) ml_RX12_88 yk_X12_answer ⟨wim_X12_answer, wse_X12_answer⟩ hR rfl (sh_0 hW) rfl rfl rfl (Nat.le_of_ble_eq_true rfl) rfl ?_
      refine go_goto hc 41 dX12_flees_33 rfl ?_
      cases h
      exact go_iret hc dX12_flees_41 hr
theorem dX12_left_0 : decode cX12_left 0 = .ok (.aload_n 0, 1) := by decide +kernel
theorem dX12_left_1 : decode cX12_left 1 = .ok (.iload_n 1, 1) := by decide +kernel
theorem dX12_left_2 : decode cX12_left 2 = .ok (.invokevirtual 191, 3) := by decide +kernel
theorem dX12_left_5 : decode cX12_left 5 = .ok (.ifCond .eq 19, 3) := by decide +kernel
theorem dX12_left_8 : decode cX12_left 8 = .ok (.aload_n 0, 1) := by decide +kernel
theorem dX12_left_9 : decode cX12_left 9 = .ok (.iload_n 2, 1) := by decide +kernel
theorem dX12_left_10 : decode cX12_left 10 = .ok (.invokevirtual 97, 3) := by decide +kernel
theorem dX12_left_13 : decode cX12_left 13 = .ok (.ifCond .eq 11, 3) := by decide +kernel
theorem dX12_left_16 : decode cX12_left 16 = .ok (.aload_n 0, 1) := by decide +kernel
theorem dX12_left_17 : decode cX12_left 17 = .ok (.iload_n 3, 1) := by decide +kernel
theorem dX12_left_18 : decode cX12_left 18 = .ok (.invokevirtual 101, 3) := by decide +kernel
theorem dX12_left_21 : decode cX12_left 21 = .ok (.ifCond .ne 9, 3) := by decide +kernel
theorem dX12_left_24 : decode cX12_left 24 = .ok (.aload_n 0, 1) := by decide +kernel
theorem dX12_left_25 : decode cX12_left 25 = .ok (.iconst 1, 1) := by decide +kernel
theorem dX12_left_26 : decode cX12_left 26 = .ok (.invokevirtual 66, 3) := by decide +kernel
theorem dX12_left_29 : decode cX12_left 29 = .ok (.ireturn, 1) := by decide +kernel
theorem dX12_left_30 : decode cX12_left 30 = .ok (.aload_n 0, 1) := by decide +kernel
theorem dX12_left_31 : decode cX12_left 31 = .ok (.aload_n 0, 1) := by decide +kernel
theorem dX12_left_32 : decode cX12_left 32 = .ok (.getfield 47, 3) := by decide +kernel
theorem dX12_left_35 : decode cX12_left 35 = .ok (.iload_n 1, 1) := by decide +kernel
theorem dX12_left_36 : decode cX12_left 36 = .ok (.invokevirtual 197, 3) := by decide +kernel
theorem dX12_left_39 : decode cX12_left 39 = .ok (.getfield 215, 3) := by decide +kernel
theorem dX12_left_42 : decode cX12_left 42 = .ok (.iload_n 2, 1) := by decide +kernel
theorem dX12_left_43 : decode cX12_left 43 = .ok (.iaload, 1) := by decide +kernel
theorem dX12_left_44 : decode cX12_left 44 = .ok (.iload_n 3, 1) := by decide +kernel
theorem dX12_left_45 : decode cX12_left 45 = .ok (.invokestatic 108, 3) := by decide +kernel
theorem dX12_left_48 : decode cX12_left 48 = .ok (.invokevirtual 88, 3) := by decide +kernel
theorem dX12_left_51 : decode cX12_left 51 = .ok (.ireturn, 1) := by decide +kernel
set_option maxRecDepth 100000 in
set_option maxHeartbeats 4000000 in
theorem mX12_left {E : goEv} {l : Launch} {G : goG} {N : Nat} {M : goMI} {L : goML} {R : goMR} {v1 : Int32} {v2 : Int32} {v3 : Int32} {r0 : Int32} {r1 : goMI} (hk : goKn E) (hW : goW G R) (h : fX12_left N M R v1 v2 v3 = some (r0, r1)) : Met l yX12_left (goCd yX12_left cX12_left 4 (Option.some FieldType.int)) (goRoom 5 126 0 0) (goPre E [.ref 0, .int v1, .int v2, .int v3] G M L R) (goQi E r0 G r1 L R) 0 0 (goSet E) := by
  refine goMet pl_RX12 hk (lv := [some (.ref 0), some (.int v1), some (.int v2), some (.int v3)]) rfl (Nat.le_of_ble_eq_true rfl) ?_
  intro X hc hl hR hr hnm
  subst hl
  unfold fX12_left at h
  refine go_aload0 hc dX12_left_0 ?_
  refine go_iload1 hc dX12_left_1 ?_
  refine go_callVi hc dX12_left_2 (mX12_isCase hk hW rfl) ml_RX12_191 yk_X12_isCase ⟨wim_X12_isCase, wse_X12_isCase⟩ hR rfl (sh_0 hW) rfl rfl rfl (Nat.le_of_ble_eq_true rfl) rfl ?_
  refine go_if_eq hc 24 dX12_left_5 rfl (fun c11 => ?_) (fun c11 => ?_)
  · replace h := goIfT h c11
    refine go_aload0 hc dX12_left_24 ?_
    refine go_iconst (v := 1) hc dX12_left_25 rfl ?_
    replace h := goB2_h h; obtain ⟨x12, M13, e14, h⟩ := h
    refine go_callVi hc dX12_left_26 (mX12_refuse hk hW e14) ml_RX12_66 yk_X12_refuse ⟨wim_X12_refuse, wse_X12_refuse⟩ hR rfl (sh_0 hW) rfl rfl rfl (Nat.le_of_ble_eq_true rfl) rfl ?_
    cases h
    exact go_iret hc dX12_left_29 hr
  · replace h := goIfF h c11
    refine go_aload0 hc dX12_left_8 ?_
    refine go_iload2 hc dX12_left_9 ?_
    refine go_callVi hc dX12_left_10 (mX12_isPlace hk hW rfl) ml_RX12_97 yk_X12_isPlace ⟨wim_X12_isPlace, wse_X12_isPlace⟩ hR rfl (sh_0 hW) rfl rfl rfl (Nat.le_of_ble_eq_true rfl) rfl ?_
    refine go_if_eq hc 24 dX12_left_13 rfl (fun c15 => ?_) (fun c15 => ?_)
    · replace h := goIfT h c15
      refine go_aload0 hc dX12_left_24 ?_
      refine go_iconst (v := 1) hc dX12_left_25 rfl ?_
      replace h := goB2_h h; obtain ⟨x16, M17, e18, h⟩ := h
      refine go_callVi hc dX12_left_26 (mX12_refuse hk hW e18) ml_RX12_66 yk_X12_refuse ⟨wim_X12_refuse, wse_X12_refuse⟩ hR rfl (sh_0 hW) rfl rfl rfl (Nat.le_of_ble_eq_true rfl) rfl ?_
      cases h
      exact go_iret hc dX12_left_29 hr
    · replace h := goIfF h c15
      refine go_aload0 hc dX12_left_16 ?_
      refine go_iload3 hc dX12_left_17 ?_
      refine go_callVi hc dX12_left_18 (mX12_isPlant hk hW rfl) ml_RX12_101 yk_X12_isPlant ⟨wim_X12_isPlant, wse_X12_isPlant⟩ hR rfl (sh_0 hW) rfl rfl rfl (Nat.le_of_ble_eq_true rfl) rfl ?_
      refine go_if_ne hc 30 dX12_left_21 rfl (fun c19 => ?_) (fun c19 => ?_)
      · replace h := goIfF h c19
        refine go_aload0 hc dX12_left_30 ?_
        refine go_aload0 hc dX12_left_31 ?_
        refine go_getR hc lk_RX12_47 dX12_left_32 (sh_0 hW) (rf_0_3 hW) ?_
        refine go_iload1 hc dX12_left_35 ?_
        replace h := goBind h; obtain ⟨M20, e21, h⟩ := h
        refine go_callVr hc dX12_left_36 (mX4_dayOf hk hW e21) ml_RX12_197 yk_X4_dayOf ⟨wim_X4_dayOf, wse_X4_dayOf⟩ hR rfl (sh_74 hW) rfl rfl rfl (Nat.le_of_ble_eq_true rfl) rfl ?_
        refine go_getR hc lk_RX12_215 dX12_left_39 (shDay_0 hW mb_78) (rfDay_2 hW mb_78) ?_
        refine go_iload2 hc dX12_left_42 ?_
        replace h := goBind h; obtain ⟨x22, e23, h⟩ := h
        refine go_iald hc dX12_left_43 (shDay_1 hW mb_78) e23 ?_
        refine go_iload3 hc dX12_left_44 ?_
        refine go_callSi hc dX12_left_45 (mX12_countOf hk hW rfl) ml_RX12_108 yk_X12_countOf wst_X12_countOf hR rfl rfl rfl (Nat.le_of_ble_eq_true rfl) rfl ?_
        replace h := goB2_h h; obtain ⟨x24, M25, e26, h⟩ := h
        refine go_callVi hc dX12_left_48 (mX12_answer hk hW e26) ml_RX12_88 yk_X12_answer ⟨wim_X12_answer, wse_X12_answer⟩ hR rfl (sh_0 hW) rfl rfl rfl (Nat.le_of_ble_eq_true rfl) rfl ?_
        cases h
        exact go_iret hc dX12_left_51 hr
      · replace h := goIfT h c19
        refine go_aload0 hc dX12_left_24 ?_
        refine go_iconst (v := 1) hc dX12_left_25 rfl ?_
        replace h := goB2_h h; obtain ⟨x27, M28, e29, h⟩ := h
        refine go_callVi hc dX12_left_26 (mX12_refuse hk hW e29) ml_RX12_66 yk_X12_refuse ⟨wim_X12_refuse, wse_X12_refuse⟩ hR rfl (sh_0 hW) rfl rfl rfl (Nat.le_of_ble_eq_true rfl) rfl ?_
        cases h
        exact go_iret hc dX12_left_29 hr
theorem dX12_met_0 : decode cX12_met 0 = .ok (.aload_n 0, 1) := by decide +kernel
theorem dX12_met_1 : decode cX12_met 1 = .ok (.iload_n 1, 1) := by decide +kernel
theorem dX12_met_2 : decode cX12_met 2 = .ok (.invokevirtual 191, 3) := by decide +kernel
theorem dX12_met_5 : decode cX12_met 5 = .ok (.ifCond .eq 19, 3) := by decide +kernel
theorem dX12_met_8 : decode cX12_met 8 = .ok (.aload_n 0, 1) := by decide +kernel
theorem dX12_met_9 : decode cX12_met 9 = .ok (.iload_n 2, 1) := by decide +kernel
theorem dX12_met_10 : decode cX12_met 10 = .ok (.invokevirtual 115, 3) := by decide +kernel
theorem dX12_met_13 : decode cX12_met 13 = .ok (.ifCond .eq 11, 3) := by decide +kernel
theorem dX12_met_16 : decode cX12_met 16 = .ok (.aload_n 0, 1) := by decide +kernel
theorem dX12_met_17 : decode cX12_met 17 = .ok (.iload_n 3, 1) := by decide +kernel
theorem dX12_met_18 : decode cX12_met 18 = .ok (.invokevirtual 178, 3) := by decide +kernel
theorem dX12_met_21 : decode cX12_met 21 = .ok (.ifCond .ne 9, 3) := by decide +kernel
theorem dX12_met_24 : decode cX12_met 24 = .ok (.aload_n 0, 1) := by decide +kernel
theorem dX12_met_25 : decode cX12_met 25 = .ok (.iconst 1, 1) := by decide +kernel
theorem dX12_met_26 : decode cX12_met 26 = .ok (.invokevirtual 66, 3) := by decide +kernel
theorem dX12_met_29 : decode cX12_met 29 = .ok (.ireturn, 1) := by decide +kernel
theorem dX12_met_30 : decode cX12_met 30 = .ok (.aload_n 0, 1) := by decide +kernel
theorem dX12_met_31 : decode cX12_met 31 = .ok (.getfield 47, 3) := by decide +kernel
theorem dX12_met_34 : decode cX12_met 34 = .ok (.iload_n 1, 1) := by decide +kernel
theorem dX12_met_35 : decode cX12_met 35 = .ok (.invokevirtual 197, 3) := by decide +kernel
theorem dX12_met_38 : decode cX12_met 38 = .ok (.astore 4, 2) := by decide +kernel
theorem dX12_met_40 : decode cX12_met 40 = .ok (.iconst 0, 1) := by decide +kernel
theorem dX12_met_41 : decode cX12_met 41 = .ok (.istore 5, 2) := by decide +kernel
theorem dX12_met_43 : decode cX12_met 43 = .ok (.iconst 0, 1) := by decide +kernel
theorem dX12_met_44 : decode cX12_met 44 = .ok (.istore 6, 2) := by decide +kernel
theorem dX12_met_46 : decode cX12_met 46 = .ok (.iload 6, 2) := by decide +kernel
theorem dX12_met_48 : decode cX12_met 48 = .ok (.aload_n 0, 1) := by decide +kernel
theorem dX12_met_49 : decode cX12_met 49 = .ok (.getfield 26, 3) := by decide +kernel
theorem dX12_met_52 : decode cX12_met 52 = .ok (.getfield 218, 3) := by decide +kernel
theorem dX12_met_55 : decode cX12_met 55 = .ok (.if_icmp .ge 39, 3) := by decide +kernel
theorem dX12_met_58 : decode cX12_met 58 = .ok (.aload 4, 2) := by decide +kernel
theorem dX12_met_60 : decode cX12_met 60 = .ok (.getfield 201, 3) := by decide +kernel
theorem dX12_met_63 : decode cX12_met 63 = .ok (.iload_n 2, 1) := by decide +kernel
theorem dX12_met_64 : decode cX12_met 64 = .ok (.bipush 12, 2) := by decide +kernel
theorem dX12_met_66 : decode cX12_met 66 = .ok (.imul, 1) := by decide +kernel
theorem dX12_met_67 : decode cX12_met 67 = .ok (.iload 6, 2) := by decide +kernel
theorem dX12_met_69 : decode cX12_met 69 = .ok (.iadd, 1) := by decide +kernel
theorem dX12_met_70 : decode cX12_met 70 = .ok (.iaload, 1) := by decide +kernel
theorem dX12_met_71 : decode cX12_met 71 = .ok (.aload_n 0, 1) := by decide +kernel
theorem dX12_met_72 : decode cX12_met 72 = .ok (.getfield 26, 3) := by decide +kernel
theorem dX12_met_75 : decode cX12_met 75 = .ok (.iload_n 1, 1) := by decide +kernel
theorem dX12_met_76 : decode cX12_met 76 = .ok (.iload_n 3, 1) := by decide +kernel
theorem dX12_met_77 : decode cX12_met 77 = .ok (.iload 6, 2) := by decide +kernel
theorem dX12_met_79 : decode cX12_met 79 = .ok (.invokevirtual 221, 3) := by decide +kernel
theorem dX12_met_82 : decode cX12_met 82 = .ok (.if_icmp .ne 6, 3) := by decide +kernel
theorem dX12_met_85 : decode cX12_met 85 = .ok (.iinc 5 1, 3) := by decide +kernel
theorem dX12_met_88 : decode cX12_met 88 = .ok (.iinc 6 1, 3) := by decide +kernel
theorem dX12_met_91 : decode cX12_met 91 = .ok (.goto (-45), 3) := by decide +kernel
theorem dX12_met_94 : decode cX12_met 94 = .ok (.aload_n 0, 1) := by decide +kernel
theorem dX12_met_95 : decode cX12_met 95 = .ok (.iload 5, 2) := by decide +kernel
theorem dX12_met_97 : decode cX12_met 97 = .ok (.invokevirtual 88, 3) := by decide +kernel
theorem dX12_met_100 : decode cX12_met 100 = .ok (.ireturn, 1) := by decide +kernel
set_option maxRecDepth 100000 in
set_option maxHeartbeats 4000000 in
theorem mX12_met_L46 {E : goEv} {X : goX} {G : goG} {Q : State → Prop} {M : goMI} {L : goML} {R : goMR} {v1 : Int32} {v2 : Int32} {v3 : Int32} (hc : goCx E X cX12_met RX12 7) (hk : goKn E) (hR : X.2.2.2.1 = goRoom 5 126 0 0) (hr : X.2.2.2.2.2.2.2.2.1.sig.returnType = (Option.some FieldType.int)) (hW : goW G R) : ∀ (n : Nat) (v5 : Int32) (v6 : Int32) (r0 : Int32), lX12_met_46 v1 v2 v3 M R n v5 v6 = some r0 → (∀ (d1 d2 d3 d4 d6 : Option Value), goA E X G 0 0 Q 94 [some (.ref 0), d1, d2, d3, d4, some (.int r0), d6] [] M L R) → goA E X G 0 0 Q 46 [some (.ref 0), some (.int v1), some (.int v2), some (.int v3), some (.ref 78), some (.int v5), some (.int v6)] [] M L R := by
  intro n
  induction n with
  | zero => intro v5 v6 r0 h; exact nomatch h
  | succ n ih =>
    intro v5 v6 r0 h kx
    rw [lX12_met_46] at h
    refine go_iload6 hc dX12_met_46 ?_
    refine go_aload0 hc dX12_met_48 ?_
    refine go_getR hc lk_RX12_26 dX12_met_49 (sh_0 hW) (rm_0_5 hW) ?_
    refine go_getI hc lk_RX12_218 dX12_met_52 (shHill_0 hW (mm_0_5 hW)) ?_
    refine go_icmp_ge hc 94 dX12_met_55 rfl (fun c22 => ?_) (fun c22 => ?_)
    · replace h := goIfF h c22
      cases h
      exact kx _ _ _ _ _
    · replace h := goIfT h c22
      refine go_aload4 hc dX12_met_58 ?_
      refine go_getR hc lk_RX12_201 dX12_met_60 (shDay_0 hW mb_78) (rfDay_6 hW mb_78) ?_
      refine go_iload2 hc dX12_met_63 ?_
      refine go_bipush (v := 12) hc dX12_met_64 rfl ?_
      refine go_imul hc dX12_met_66 ?_
      refine go_iload6 hc dX12_met_67 ?_
      refine go_iadd hc dX12_met_69 ?_
      replace h := goBind h; obtain ⟨x23, e24, h⟩ := h
      refine go_iald hc dX12_met_70 (shDay_5 hW mb_78) e24 ?_
      refine go_aload0 hc dX12_met_71 ?_
      refine go_getR hc lk_RX12_26 dX12_met_72 (sh_0 hW) (rm_0_5 hW) ?_
      refine go_iload1 hc dX12_met_75 ?_
      refine go_iload3 hc dX12_met_76 ?_
      refine go_iload6 hc dX12_met_77 ?_
      replace h := goBind h; obtain ⟨x25, e26, h⟩ := h
      refine go_callVi hc dX12_met_79 (mX6_placeIn hk hW (mm_0_5 hW) e26) ml_RX12_221 yk_X6_placeIn ⟨wim_X6_placeIn, wse_X6_placeIn⟩ hR rfl (shHill_0 hW (mm_0_5 hW)) rfl rfl rfl (Nat.le_of_ble_eq_true rfl) rfl ?_
      replace h := goNm_y h; obtain ⟨x27, e28, h⟩ := h
      have k29 : goA E X G 0 0 Q 88 [some (.ref 0), some (.int v1), some (.int v2), some (.int v3), some (.ref 78), some (.int x27), some (.int v6)] [] M L R := by
        refine go_iinc6 (v := (v6 + 1)) hc dX12_met_88 rfl ?_
        refine go_goto hc 46 dX12_met_91 rfl ?_
        exact ih _ _ _ h kx
      refine go_icmp_ne hc 88 dX12_met_82 rfl (fun c30 => ?_) (fun c30 => ?_)
      · replace e28 := goIfF e28 c30
        subst e28
        exact k29
      · replace e28 := goIfT e28 c30
        refine go_iinc5 (v := (v5 + 1)) hc dX12_met_85 rfl ?_
        subst e28
        exact k29
set_option maxRecDepth 100000 in
set_option maxHeartbeats 4000000 in
theorem mX12_met {E : goEv} {l : Launch} {G : goG} {N : Nat} {M : goMI} {L : goML} {R : goMR} {v1 : Int32} {v2 : Int32} {v3 : Int32} {r0 : Int32} {r1 : goMI} (hk : goKn E) (hW : goW G R) (h : fX12_met N M R v1 v2 v3 = some (r0, r1)) : Met l yX12_met (goCd yX12_met cX12_met 7 (Option.some FieldType.int)) (goRoom 5 126 0 0) (goPre E [.ref 0, .int v1, .int v2, .int v3] G M L R) (goQi E r0 G r1 L R) 0 0 (goSet E) := by
  refine goMet pl_RX12 hk (lv := [some (.ref 0), some (.int v1), some (.int v2), some (.int v3), none, none, none]) rfl (Nat.le_of_ble_eq_true rfl) ?_
  intro X hc hl hR hr hnm
  subst hl
  unfold fX12_met at h
  refine go_aload0 hc dX12_met_0 ?_
  refine go_iload1 hc dX12_met_1 ?_
  refine go_callVi hc dX12_met_2 (mX12_isCase hk hW rfl) ml_RX12_191 yk_X12_isCase ⟨wim_X12_isCase, wse_X12_isCase⟩ hR rfl (sh_0 hW) rfl rfl rfl (Nat.le_of_ble_eq_true rfl) rfl ?_
  refine go_if_eq hc 24 dX12_met_5 rfl (fun c11 => ?_) (fun c11 => ?_)
  · replace h := goIfT h c11
    refine go_aload0 hc dX12_met_24 ?_
    refine go_iconst (v := 1) hc dX12_met_25 rfl ?_
    replace h := goB2_h h; obtain ⟨x12, M13, e14, h⟩ := h
    refine go_callVi hc dX12_met_26 (mX12_refuse hk hW e14) ml_RX12_66 yk_X12_refuse ⟨wim_X12_refuse, wse_X12_refuse⟩ hR rfl (sh_0 hW) rfl rfl rfl (Nat.le_of_ble_eq_true rfl) rfl ?_
    cases h
    exact go_iret hc dX12_met_29 hr
  · replace h := goIfF h c11
    refine go_aload0 hc dX12_met_8 ?_
    refine go_iload2 hc dX12_met_9 ?_
    refine go_callVi hc dX12_met_10 (mX12_isGoat hk hW rfl) ml_RX12_115 yk_X12_isGoat ⟨wim_X12_isGoat, wse_X12_isGoat⟩ hR rfl (sh_0 hW) rfl rfl rfl (Nat.le_of_ble_eq_true rfl) rfl ?_
    refine go_if_eq hc 24 dX12_met_13 rfl (fun c15 => ?_) (fun c15 => ?_)
    · replace h := goIfT h c15
      refine go_aload0 hc dX12_met_24 ?_
      refine go_iconst (v := 1) hc dX12_met_25 rfl ?_
      replace h := goB2_h h; obtain ⟨x16, M17, e18, h⟩ := h
      refine go_callVi hc dX12_met_26 (mX12_refuse hk hW e18) ml_RX12_66 yk_X12_refuse ⟨wim_X12_refuse, wse_X12_refuse⟩ hR rfl (sh_0 hW) rfl rfl rfl (Nat.le_of_ble_eq_true rfl) rfl ?_
      cases h
      exact go_iret hc dX12_met_29 hr
    · replace h := goIfF h c15
      refine go_aload0 hc dX12_met_16 ?_
      refine go_iload3 hc dX12_met_17 ?_
      refine go_callVi hc dX12_met_18 (mX12_isPerson hk hW rfl) ml_RX12_178 yk_X12_isPerson ⟨wim_X12_isPerson, wse_X12_isPerson⟩ hR rfl (sh_0 hW) rfl rfl rfl (Nat.le_of_ble_eq_true rfl) rfl ?_
      refine go_if_ne hc 30 dX12_met_21 rfl (fun c19 => ?_) (fun c19 => ?_)
      · replace h := goIfF h c19
        refine go_aload0 hc dX12_met_30 ?_
        refine go_getR hc lk_RX12_47 dX12_met_31 (sh_0 hW) (rf_0_3 hW) ?_
        refine go_iload1 hc dX12_met_34 ?_
        replace h := goBind h; obtain ⟨M20, e21, h⟩ := h
        refine go_callVr hc dX12_met_35 (mX4_dayOf hk hW e21) ml_RX12_197 yk_X4_dayOf ⟨wim_X4_dayOf, wse_X4_dayOf⟩ hR rfl (sh_74 hW) rfl rfl rfl (Nat.le_of_ble_eq_true rfl) rfl ?_
        refine go_astore4 hc dX12_met_38 ?_
        refine go_iconst (v := 0) hc dX12_met_40 rfl ?_
        refine go_istore5 hc dX12_met_41 ?_
        refine go_iconst (v := 0) hc dX12_met_43 rfl ?_
        refine go_istore6 hc dX12_met_44 ?_
        replace h := goBind h; obtain ⟨x32, e31, h⟩ := h
        refine mX12_met_L46 hc hk hR hr hW _ _ _ _ e31 (fun d1 d2 d3 d4 d6 => ?_)
        refine go_aload0 hc dX12_met_94 ?_
        refine go_iload5 hc dX12_met_95 ?_
        replace h := goB2_h h; obtain ⟨x33, M34, e35, h⟩ := h
        refine go_callVi hc dX12_met_97 (mX12_answer hk hW e35) ml_RX12_88 yk_X12_answer ⟨wim_X12_answer, wse_X12_answer⟩ hR rfl (sh_0 hW) rfl rfl rfl (Nat.le_of_ble_eq_true rfl) rfl ?_
        cases h
        exact go_iret hc dX12_met_100 hr
      · replace h := goIfT h c19
        refine go_aload0 hc dX12_met_24 ?_
        refine go_iconst (v := 1) hc dX12_met_25 rfl ?_
        replace h := goB2_h h; obtain ⟨x36, M37, e38, h⟩ := h
        refine go_callVi hc dX12_met_26 (mX12_refuse hk hW e38) ml_RX12_66 yk_X12_refuse ⟨wim_X12_refuse, wse_X12_refuse⟩ hR rfl (sh_0 hW) rfl rfl rfl (Nat.le_of_ble_eq_true rfl) rfl ?_
        cases h
        exact go_iret hc dX12_met_29 hr
