theorem dX11_isDigit_0 : decode cX11_isDigit 0 = .ok (.iload_n 0, 1) := by decide +kernel
theorem dX11_isDigit_1 : decode cX11_isDigit 1 = .ok (.bipush 48, 2) := by decide +kernel
theorem dX11_isDigit_3 : decode cX11_isDigit 3 = .ok (.if_icmp .lt 13, 3) := by decide +kernel
theorem dX11_isDigit_6 : decode cX11_isDigit 6 = .ok (.iload_n 0, 1) := by decide +kernel
theorem dX11_isDigit_7 : decode cX11_isDigit 7 = .ok (.bipush 57, 2) := by decide +kernel
theorem dX11_isDigit_9 : decode cX11_isDigit 9 = .ok (.if_icmp .gt 7, 3) := by decide +kernel
theorem dX11_isDigit_12 : decode cX11_isDigit 12 = .ok (.iconst 1, 1) := by decide +kernel
theorem dX11_isDigit_13 : decode cX11_isDigit 13 = .ok (.goto 4, 3) := by decide +kernel
theorem dX11_isDigit_16 : decode cX11_isDigit 16 = .ok (.iconst 0, 1) := by decide +kernel
theorem dX11_isDigit_17 : decode cX11_isDigit 17 = .ok (.ireturn, 1) := by decide +kernel
theorem zX11_isDigit {v0 : Int32} : fX11_isDigit v0 = 0 ∨ fX11_isDigit v0 = 1 := by
  unfold fX11_isDigit
  first | exact rfl | ((repeat' split) <;> simp; done) | (simp only [goNm]; (repeat' split) <;> simp)
set_option maxRecDepth 100000 in
set_option maxHeartbeats 4000000 in
theorem mX11_isDigit {E : goEv} {l : Launch} {G : goG} {M : goMI} {L : goML} {R : goMR} {v0 : Int32} {r0 : Int32} (hk : goKn E) (hW : goW G R) (h : fX11_isDigit v0 = r0) : Met l yX11_isDigit (goCd yX11_isDigit cX11_isDigit 1 (Option.some FieldType.boolean)) (goRoom 0 0 0 0) (goPre E [.int v0] G M L R) (goQi E r0 G M L R) 0 0 (goSet E) := by
  refine goMet pl_RX11 hk (lv := [some (.int v0)]) rfl (Nat.le_of_ble_eq_true rfl) ?_
  intro X hc hl hR hr hnm
  subst hl
  unfold fX11_isDigit at h
  refine go_iload0 hc dX11_isDigit_0 ?_
  refine go_bipush (v := 48) hc dX11_isDigit_1 rfl ?_
  refine go_icmp_lt hc 16 dX11_isDigit_3 rfl (fun c11 => ?_) (fun c11 => ?_)
  · replace h := goIfF h c11
    refine go_iconst (v := 0) hc dX11_isDigit_16 rfl ?_
    subst h
    exact go_zret hc dX11_isDigit_17 hr rfl
  · replace h := goIfT h c11
    refine go_iload0 hc dX11_isDigit_6 ?_
    refine go_bipush (v := 57) hc dX11_isDigit_7 rfl ?_
    refine go_icmp_gt hc 16 dX11_isDigit_9 rfl (fun c12 => ?_) (fun c12 => ?_)
    · replace h := goIfF h c12
      refine go_iconst (v := 0) hc dX11_isDigit_16 rfl ?_
      subst h
      exact go_zret hc dX11_isDigit_17 hr rfl
    · replace h := goIfT h c12
      refine go_iconst (v := 1) hc dX11_isDigit_12 rfl ?_
      refine go_goto hc 17 dX11_isDigit_13 rfl ?_
      subst h
      exact go_zret hc dX11_isDigit_17 hr rfl
theorem dX11_readWhole_0 : decode cX11_readWhole 0 = .ok (.aload_n 0, 1) := by decide +kernel
theorem dX11_readWhole_1 : decode cX11_readWhole 1 = .ok (.iconst 0, 1) := by decide +kernel
theorem dX11_readWhole_2 : decode cX11_readWhole 2 = .ok (.putfield 64, 3) := by decide +kernel
theorem dX11_readWhole_5 : decode cX11_readWhole 5 = .ok (.aload_n 0, 1) := by decide +kernel
theorem dX11_readWhole_6 : decode cX11_readWhole 6 = .ok (.getfield 28, 3) := by decide +kernel
theorem dX11_readWhole_9 : decode cX11_readWhole 9 = .ok (.aload_n 0, 1) := by decide +kernel
theorem dX11_readWhole_10 : decode cX11_readWhole 10 = .ok (.getfield 25, 3) := by decide +kernel
theorem dX11_readWhole_13 : decode cX11_readWhole 13 = .ok (.if_icmp .ge 55, 3) := by decide +kernel
theorem dX11_readWhole_16 : decode cX11_readWhole 16 = .ok (.aload_n 0, 1) := by decide +kernel
theorem dX11_readWhole_17 : decode cX11_readWhole 17 = .ok (.getfield 9, 3) := by decide +kernel
theorem dX11_readWhole_20 : decode cX11_readWhole 20 = .ok (.aload_n 0, 1) := by decide +kernel
theorem dX11_readWhole_21 : decode cX11_readWhole 21 = .ok (.getfield 28, 3) := by decide +kernel
theorem dX11_readWhole_24 : decode cX11_readWhole 24 = .ok (.baload, 1) := by decide +kernel
theorem dX11_readWhole_25 : decode cX11_readWhole 25 = .ok (.invokestatic 47, 3) := by decide +kernel
theorem dX11_readWhole_28 : decode cX11_readWhole 28 = .ok (.ifCond .eq 40, 3) := by decide +kernel
theorem dX11_readWhole_31 : decode cX11_readWhole 31 = .ok (.aload_n 0, 1) := by decide +kernel
theorem dX11_readWhole_32 : decode cX11_readWhole 32 = .ok (.aload_n 0, 1) := by decide +kernel
theorem dX11_readWhole_33 : decode cX11_readWhole 33 = .ok (.getfield 64, 3) := by decide +kernel
theorem dX11_readWhole_36 : decode cX11_readWhole 36 = .ok (.bipush 10, 2) := by decide +kernel
theorem dX11_readWhole_38 : decode cX11_readWhole 38 = .ok (.imul, 1) := by decide +kernel
theorem dX11_readWhole_39 : decode cX11_readWhole 39 = .ok (.aload_n 0, 1) := by decide +kernel
theorem dX11_readWhole_40 : decode cX11_readWhole 40 = .ok (.getfield 9, 3) := by decide +kernel
theorem dX11_readWhole_43 : decode cX11_readWhole 43 = .ok (.aload_n 0, 1) := by decide +kernel
theorem dX11_readWhole_44 : decode cX11_readWhole 44 = .ok (.getfield 28, 3) := by decide +kernel
theorem dX11_readWhole_47 : decode cX11_readWhole 47 = .ok (.baload, 1) := by decide +kernel
theorem dX11_readWhole_48 : decode cX11_readWhole 48 = .ok (.iadd, 1) := by decide +kernel
theorem dX11_readWhole_49 : decode cX11_readWhole 49 = .ok (.bipush 48, 2) := by decide +kernel
theorem dX11_readWhole_51 : decode cX11_readWhole 51 = .ok (.isub, 1) := by decide +kernel
theorem dX11_readWhole_52 : decode cX11_readWhole 52 = .ok (.putfield 64, 3) := by decide +kernel
theorem dX11_readWhole_55 : decode cX11_readWhole 55 = .ok (.aload_n 0, 1) := by decide +kernel
theorem dX11_readWhole_56 : decode cX11_readWhole 56 = .ok (.dup, 1) := by decide +kernel
theorem dX11_readWhole_57 : decode cX11_readWhole 57 = .ok (.getfield 28, 3) := by decide +kernel
theorem dX11_readWhole_60 : decode cX11_readWhole 60 = .ok (.iconst 1, 1) := by decide +kernel
theorem dX11_readWhole_61 : decode cX11_readWhole 61 = .ok (.iadd, 1) := by decide +kernel
theorem dX11_readWhole_62 : decode cX11_readWhole 62 = .ok (.putfield 28, 3) := by decide +kernel
theorem dX11_readWhole_65 : decode cX11_readWhole 65 = .ok (.goto (-60), 3) := by decide +kernel
theorem dX11_readWhole_68 : decode cX11_readWhole 68 = .ok (.aload_n 0, 1) := by decide +kernel
theorem dX11_readWhole_69 : decode cX11_readWhole 69 = .ok (.aload_n 0, 1) := by decide +kernel
theorem dX11_readWhole_70 : decode cX11_readWhole 70 = .ok (.getfield 28, 3) := by decide +kernel
theorem dX11_readWhole_73 : decode cX11_readWhole 73 = .ok (.aload_n 0, 1) := by decide +kernel
theorem dX11_readWhole_74 : decode cX11_readWhole 74 = .ok (.getfield 34, 3) := by decide +kernel
theorem dX11_readWhole_77 : decode cX11_readWhole 77 = .ok (.isub, 1) := by decide +kernel
theorem dX11_readWhole_78 : decode cX11_readWhole 78 = .ok (.iconst 3, 1) := by decide +kernel
theorem dX11_readWhole_79 : decode cX11_readWhole 79 = .ok (.if_icmp .gt 7, 3) := by decide +kernel
theorem dX11_readWhole_82 : decode cX11_readWhole 82 = .ok (.iconst 2, 1) := by decide +kernel
theorem dX11_readWhole_83 : decode cX11_readWhole 83 = .ok (.goto 4, 3) := by decide +kernel
theorem dX11_readWhole_86 : decode cX11_readWhole 86 = .ok (.iconst 5, 1) := by decide +kernel
theorem dX11_readWhole_87 : decode cX11_readWhole 87 = .ok (.putfield 37, 3) := by decide +kernel
theorem dX11_readWhole_90 : decode cX11_readWhole 90 = .ok (.return_, 1) := by decide +kernel
set_option maxRecDepth 100000 in
set_option maxHeartbeats 4000000 in
theorem mX11_readWhole_L5 {E : goEv} {X : goX} {G : goG} {Q : State → Prop} {L : goML} {R : goMR} (hc : goCx E X cX11_readWhole RX11 1) (hk : goKn E) (hR : X.2.2.2.1 = goRoom 1 20 0 0) (hr : X.2.2.2.2.2.2.2.2.1.sig.returnType = none) (hW : goW G R) : ∀ (n : Nat) (M : goMI) (r0 : goMI), lX11_readWhole_5 n M = some r0 → (goA E X G 0 0 Q 68 [some (.ref 1)] [] r0 L R) → goA E X G 0 0 Q 5 [some (.ref 1)] [] M L R := by
  intro n
  induction n with
  | zero => intro M r0 h; exact nomatch h
  | succ n ih =>
    intro M r0 h kx
    rw [lX11_readWhole_5] at h
    refine go_aload0 hc dX11_readWhole_5 ?_
    refine go_getI hc lk_RX11_28 dX11_readWhole_6 (sh_1 hW) ?_
    refine go_aload0 hc dX11_readWhole_9 ?_
    refine go_getI hc lk_RX11_25 dX11_readWhole_10 (sh_1 hW) ?_
    refine go_icmp_ge hc 68 dX11_readWhole_13 rfl (fun c13 => ?_) (fun c13 => ?_)
    · replace h := goIfF h c13
      cases h
      exact kx
    · replace h := goIfT h c13
      refine go_aload0 hc dX11_readWhole_16 ?_
      refine go_getR hc lk_RX11_9 dX11_readWhole_17 (sh_1 hW) (rf_1_0 hW) ?_
      refine go_aload0 hc dX11_readWhole_20 ?_
      refine go_getI hc lk_RX11_28 dX11_readWhole_21 (sh_1 hW) ?_
      replace h := goBind h; obtain ⟨x14, e15, h⟩ := h
      refine go_bald hc dX11_readWhole_24 (sh_2 hW) e15 ?_
      refine go_callSi hc dX11_readWhole_25 (mX11_isDigit hk hW rfl) ml_RX11_47 yk_X11_isDigit wst_X11_isDigit hR rfl rfl rfl (Nat.le_of_ble_eq_true rfl) rfl ?_
      refine go_if_eq hc 68 dX11_readWhole_28 rfl (fun c16 => ?_) (fun c16 => ?_)
      · replace h := goIfT h c16
        cases h
        exact kx
      · replace h := goIfF h c16
        refine go_aload0 hc dX11_readWhole_31 ?_
        refine go_aload0 hc dX11_readWhole_32 ?_
        refine go_getI hc lk_RX11_64 dX11_readWhole_33 (sh_1 hW) ?_
        refine go_bipush (v := 10) hc dX11_readWhole_36 rfl ?_
        refine go_imul hc dX11_readWhole_38 ?_
        refine go_aload0 hc dX11_readWhole_39 ?_
        refine go_getR hc lk_RX11_9 dX11_readWhole_40 (sh_1 hW) (rf_1_0 hW) ?_
        refine go_aload0 hc dX11_readWhole_43 ?_
        refine go_getI hc lk_RX11_28 dX11_readWhole_44 (sh_1 hW) ?_
        replace h := goBind h; obtain ⟨x17, e18, h⟩ := h
        refine go_bald hc dX11_readWhole_47 (sh_2 hW) e18 ?_
        refine go_iadd hc dX11_readWhole_48 ?_
        refine go_bipush (v := 48) hc dX11_readWhole_49 rfl ?_
        refine go_isub hc dX11_readWhole_51 ?_
        replace h := goNm_x h; obtain ⟨M19, e20, h⟩ := h
        refine go_ptI hc lk_RX11_64 dX11_readWhole_52 (sh_1 hW) e20 ?_
        refine go_aload0 hc dX11_readWhole_55 ?_
        refine go_dupr hc dX11_readWhole_56 ?_
        refine go_getI hc lk_RX11_28 dX11_readWhole_57 (sh_1 hW) ?_
        refine go_iconst (v := 1) hc dX11_readWhole_60 rfl ?_
        refine go_iadd hc dX11_readWhole_61 ?_
        replace h := goNm_x h; obtain ⟨M21, e22, h⟩ := h
        refine go_ptI hc lk_RX11_28 dX11_readWhole_62 (sh_1 hW) e22 ?_
        refine go_goto hc 5 dX11_readWhole_65 rfl ?_
        exact ih _ _ h kx
set_option maxRecDepth 100000 in
set_option maxHeartbeats 4000000 in
theorem mX11_readWhole {E : goEv} {l : Launch} {G : goG} {N : Nat} {M : goMI} {L : goML} {R : goMR} {r0 : goMI} (hk : goKn E) (hW : goW G R) (h : fX11_readWhole N M = some r0) : Met l yX11_readWhole (goCd yX11_readWhole cX11_readWhole 1 none) (goRoom 1 20 0 0) (goPre E [.ref 1] G M L R) (goQv E G r0 L R) 0 0 (goSet E) := by
  refine goMet pl_RX11 hk (lv := [some (.ref 1)]) rfl (Nat.le_of_ble_eq_true rfl) ?_
  intro X hc hl hR hr hnm
  subst hl
  unfold fX11_readWhole at h
  refine go_aload0 hc dX11_readWhole_0 ?_
  refine go_iconst (v := 0) hc dX11_readWhole_1 rfl ?_
  replace h := goNm_x h; obtain ⟨M11, e12, h⟩ := h
  refine go_ptI hc lk_RX11_64 dX11_readWhole_2 (sh_1 hW) e12 ?_
  replace h := goBind h; obtain ⟨M24, e23, h⟩ := h
  refine mX11_readWhole_L5 hc hk hR hr hW _ _ _ e23 (?_)
  refine go_aload0 hc dX11_readWhole_68 ?_
  refine go_aload0 hc dX11_readWhole_69 ?_
  refine go_getI hc lk_RX11_28 dX11_readWhole_70 (sh_1 hW) ?_
  refine go_aload0 hc dX11_readWhole_73 ?_
  refine go_getI hc lk_RX11_34 dX11_readWhole_74 (sh_1 hW) ?_
  refine go_isub hc dX11_readWhole_77 ?_
  refine go_iconst (v := 3) hc dX11_readWhole_78 rfl ?_
  replace h := goNm_y h; obtain ⟨x25, e26, h⟩ := h
  have k27 : ∀ (d0 : Option Value), goA E X G 0 0 (goMQ X E (goQv E G r0 L R) 0 0) 87 [d0] [.int x25, .ref 1] M24 L R := by
    intro d0
    replace h := goNm_x h; obtain ⟨M29, e30, h⟩ := h
    refine go_ptI hc lk_RX11_37 dX11_readWhole_87 (sh_1 hW) e30 ?_
    cases h
    exact go_vret hc dX11_readWhole_90 hr
  refine go_icmp_gt hc 86 dX11_readWhole_79 rfl (fun c28 => ?_) (fun c28 => ?_)
  · replace e26 := goIfF e26 c28
    refine go_iconst (v := 5) hc dX11_readWhole_86 rfl ?_
    subst e26
    exact k27 _
  · replace e26 := goIfT e26 c28
    refine go_iconst (v := 2) hc dX11_readWhole_82 rfl ?_
    refine go_goto hc 87 dX11_readWhole_83 rfl ?_
    subst e26
    exact k27 _
theorem dX11_advance_0 : decode cX11_advance 0 = .ok (.aload_n 0, 1) := by decide +kernel
theorem dX11_advance_1 : decode cX11_advance 1 = .ok (.getfield 28, 3) := by decide +kernel
theorem dX11_advance_4 : decode cX11_advance 4 = .ok (.aload_n 0, 1) := by decide +kernel
theorem dX11_advance_5 : decode cX11_advance 5 = .ok (.getfield 25, 3) := by decide +kernel
theorem dX11_advance_8 : decode cX11_advance 8 = .ok (.if_icmp .ge 30, 3) := by decide +kernel
theorem dX11_advance_11 : decode cX11_advance 11 = .ok (.aload_n 0, 1) := by decide +kernel
theorem dX11_advance_12 : decode cX11_advance 12 = .ok (.getfield 9, 3) := by decide +kernel
theorem dX11_advance_15 : decode cX11_advance 15 = .ok (.aload_n 0, 1) := by decide +kernel
theorem dX11_advance_16 : decode cX11_advance 16 = .ok (.getfield 28, 3) := by decide +kernel
theorem dX11_advance_19 : decode cX11_advance 19 = .ok (.baload, 1) := by decide +kernel
theorem dX11_advance_20 : decode cX11_advance 20 = .ok (.bipush 32, 2) := by decide +kernel
theorem dX11_advance_22 : decode cX11_advance 22 = .ok (.if_icmp .ne 16, 3) := by decide +kernel
theorem dX11_advance_25 : decode cX11_advance 25 = .ok (.aload_n 0, 1) := by decide +kernel
theorem dX11_advance_26 : decode cX11_advance 26 = .ok (.dup, 1) := by decide +kernel
theorem dX11_advance_27 : decode cX11_advance 27 = .ok (.getfield 28, 3) := by decide +kernel
theorem dX11_advance_30 : decode cX11_advance 30 = .ok (.iconst 1, 1) := by decide +kernel
theorem dX11_advance_31 : decode cX11_advance 31 = .ok (.iadd, 1) := by decide +kernel
theorem dX11_advance_32 : decode cX11_advance 32 = .ok (.putfield 28, 3) := by decide +kernel
theorem dX11_advance_35 : decode cX11_advance 35 = .ok (.goto (-35), 3) := by decide +kernel
theorem dX11_advance_38 : decode cX11_advance 38 = .ok (.aload_n 0, 1) := by decide +kernel
theorem dX11_advance_39 : decode cX11_advance 39 = .ok (.aload_n 0, 1) := by decide +kernel
theorem dX11_advance_40 : decode cX11_advance 40 = .ok (.getfield 28, 3) := by decide +kernel
theorem dX11_advance_43 : decode cX11_advance 43 = .ok (.putfield 34, 3) := by decide +kernel
theorem dX11_advance_46 : decode cX11_advance 46 = .ok (.aload_n 0, 1) := by decide +kernel
theorem dX11_advance_47 : decode cX11_advance 47 = .ok (.getfield 28, 3) := by decide +kernel
theorem dX11_advance_50 : decode cX11_advance 50 = .ok (.aload_n 0, 1) := by decide +kernel
theorem dX11_advance_51 : decode cX11_advance 51 = .ok (.getfield 25, 3) := by decide +kernel
theorem dX11_advance_54 : decode cX11_advance 54 = .ok (.if_icmp .lt 9, 3) := by decide +kernel
theorem dX11_advance_57 : decode cX11_advance 57 = .ok (.aload_n 0, 1) := by decide +kernel
theorem dX11_advance_58 : decode cX11_advance 58 = .ok (.iconst 0, 1) := by decide +kernel
theorem dX11_advance_59 : decode cX11_advance 59 = .ok (.putfield 37, 3) := by decide +kernel
theorem dX11_advance_62 : decode cX11_advance 62 = .ok (.return_, 1) := by decide +kernel
theorem dX11_advance_63 : decode cX11_advance 63 = .ok (.aload_n 0, 1) := by decide +kernel
theorem dX11_advance_64 : decode cX11_advance 64 = .ok (.getfield 9, 3) := by decide +kernel
theorem dX11_advance_67 : decode cX11_advance 67 = .ok (.aload_n 0, 1) := by decide +kernel
theorem dX11_advance_68 : decode cX11_advance 68 = .ok (.getfield 28, 3) := by decide +kernel
theorem dX11_advance_71 : decode cX11_advance 71 = .ok (.baload, 1) := by decide +kernel
theorem dX11_advance_72 : decode cX11_advance 72 = .ok (.istore_n 1, 1) := by decide +kernel
theorem dX11_advance_73 : decode cX11_advance 73 = .ok (.iload_n 1, 1) := by decide +kernel
theorem dX11_advance_74 : decode cX11_advance 74 = .ok (.invokestatic 40, 3) := by decide +kernel
theorem dX11_advance_77 : decode cX11_advance 77 = .ok (.ifCond .eq 10, 3) := by decide +kernel
theorem dX11_advance_80 : decode cX11_advance 80 = .ok (.aload_n 0, 1) := by decide +kernel
theorem dX11_advance_81 : decode cX11_advance 81 = .ok (.invokevirtual 44, 3) := by decide +kernel
theorem dX11_advance_84 : decode cX11_advance 84 = .ok (.goto 52, 3) := by decide +kernel
theorem dX11_advance_87 : decode cX11_advance 87 = .ok (.iload_n 1, 1) := by decide +kernel
theorem dX11_advance_88 : decode cX11_advance 88 = .ok (.invokestatic 47, 3) := by decide +kernel
theorem dX11_advance_91 : decode cX11_advance 91 = .ok (.ifCond .eq 10, 3) := by decide +kernel
theorem dX11_advance_94 : decode cX11_advance 94 = .ok (.aload_n 0, 1) := by decide +kernel
theorem dX11_advance_95 : decode cX11_advance 95 = .ok (.invokevirtual 50, 3) := by decide +kernel
theorem dX11_advance_98 : decode cX11_advance 98 = .ok (.goto 38, 3) := by decide +kernel
theorem dX11_advance_101 : decode cX11_advance 101 = .ok (.aload_n 0, 1) := by decide +kernel
theorem dX11_advance_102 : decode cX11_advance 102 = .ok (.iload_n 1, 1) := by decide +kernel
theorem dX11_advance_103 : decode cX11_advance 103 = .ok (.bipush 59, 2) := by decide +kernel
theorem dX11_advance_105 : decode cX11_advance 105 = .ok (.if_icmp .ne 7, 3) := by decide +kernel
theorem dX11_advance_108 : decode cX11_advance 108 = .ok (.iconst 3, 1) := by decide +kernel
theorem dX11_advance_109 : decode cX11_advance 109 = .ok (.goto 14, 3) := by decide +kernel
theorem dX11_advance_112 : decode cX11_advance 112 = .ok (.iload_n 1, 1) := by decide +kernel
theorem dX11_advance_113 : decode cX11_advance 113 = .ok (.bipush 44, 2) := by decide +kernel
theorem dX11_advance_115 : decode cX11_advance 115 = .ok (.if_icmp .ne 7, 3) := by decide +kernel
theorem dX11_advance_118 : decode cX11_advance 118 = .ok (.iconst 4, 1) := by decide +kernel
theorem dX11_advance_119 : decode cX11_advance 119 = .ok (.goto 4, 3) := by decide +kernel
theorem dX11_advance_122 : decode cX11_advance 122 = .ok (.iconst 5, 1) := by decide +kernel
theorem dX11_advance_123 : decode cX11_advance 123 = .ok (.putfield 37, 3) := by decide +kernel
theorem dX11_advance_126 : decode cX11_advance 126 = .ok (.aload_n 0, 1) := by decide +kernel
theorem dX11_advance_127 : decode cX11_advance 127 = .ok (.dup, 1) := by decide +kernel
theorem dX11_advance_128 : decode cX11_advance 128 = .ok (.getfield 28, 3) := by decide +kernel
theorem dX11_advance_131 : decode cX11_advance 131 = .ok (.iconst 1, 1) := by decide +kernel
theorem dX11_advance_132 : decode cX11_advance 132 = .ok (.iadd, 1) := by decide +kernel
theorem dX11_advance_133 : decode cX11_advance 133 = .ok (.putfield 28, 3) := by decide +kernel
theorem dX11_advance_136 : decode cX11_advance 136 = .ok (.return_, 1) := by decide +kernel
set_option maxRecDepth 100000 in
set_option maxHeartbeats 4000000 in
theorem mX11_advance_L0 {E : goEv} {X : goX} {G : goG} {Q : State → Prop} {L : goML} {R : goMR} (hc : goCx E X cX11_advance RX11 2) (hk : goKn E) (hR : X.2.2.2.1 = goRoom 2 40 0 0) (hr : X.2.2.2.2.2.2.2.2.1.sig.returnType = none) (hW : goW G R) : ∀ (n : Nat) (M : goMI) (r0 : goMI), lX11_advance_0 n M = some r0 → (∀ (d1 : Option Value), goA E X G 0 0 Q 38 [some (.ref 1), d1] [] r0 L R) → ∀ (d1 : Option Value), goA E X G 0 0 Q 0 [some (.ref 1), d1] [] M L R := by
  intro n
  induction n with
  | zero => intro M r0 h; exact nomatch h
  | succ n ih =>
    intro M r0 h kx d1
    rw [lX11_advance_0] at h
    refine go_aload0 hc dX11_advance_0 ?_
    refine go_getI hc lk_RX11_28 dX11_advance_1 (sh_1 hW) ?_
    refine go_aload0 hc dX11_advance_4 ?_
    refine go_getI hc lk_RX11_25 dX11_advance_5 (sh_1 hW) ?_
    refine go_icmp_ge hc 38 dX11_advance_8 rfl (fun c11 => ?_) (fun c11 => ?_)
    · replace h := goIfF h c11
      cases h
      exact kx _
    · replace h := goIfT h c11
      refine go_aload0 hc dX11_advance_11 ?_
      refine go_getR hc lk_RX11_9 dX11_advance_12 (sh_1 hW) (rf_1_0 hW) ?_
      refine go_aload0 hc dX11_advance_15 ?_
      refine go_getI hc lk_RX11_28 dX11_advance_16 (sh_1 hW) ?_
      replace h := goBind h; obtain ⟨x12, e13, h⟩ := h
      refine go_bald hc dX11_advance_19 (sh_2 hW) e13 ?_
      refine go_bipush (v := 32) hc dX11_advance_20 rfl ?_
      refine go_icmp_ne hc 38 dX11_advance_22 rfl (fun c14 => ?_) (fun c14 => ?_)
      · replace h := goIfF h c14
        cases h
        exact kx _
      · replace h := goIfT h c14
        refine go_aload0 hc dX11_advance_25 ?_
        refine go_dupr hc dX11_advance_26 ?_
        refine go_getI hc lk_RX11_28 dX11_advance_27 (sh_1 hW) ?_
        refine go_iconst (v := 1) hc dX11_advance_30 rfl ?_
        refine go_iadd hc dX11_advance_31 ?_
        replace h := goNm_x h; obtain ⟨M15, e16, h⟩ := h
        refine go_ptI hc lk_RX11_28 dX11_advance_32 (sh_1 hW) e16 ?_
        refine go_goto hc 0 dX11_advance_35 rfl ?_
        exact ih _ _ h kx _
set_option maxRecDepth 100000 in
set_option maxHeartbeats 4000000 in
theorem mX11_advance {E : goEv} {l : Launch} {G : goG} {N : Nat} {M : goMI} {L : goML} {R : goMR} {r0 : goMI} {r1 : goML} (hk : goKn E) (hW : goW G R) (h : fX11_advance N M L = some (r0, r1)) : Met l yX11_advance (goCd yX11_advance cX11_advance 2 none) (goRoom 2 40 0 0) (goPre E [.ref 1] G M L R) (goQv E G r0 r1 R) 0 0 (goSet E) := by
  refine goMet pl_RX11 hk (lv := [some (.ref 1), none]) rfl (Nat.le_of_ble_eq_true rfl) ?_
  intro X hc hl hR hr hnm
  subst hl
  unfold fX11_advance at h
  replace h := goBind h; obtain ⟨M18, e17, h⟩ := h
  refine mX11_advance_L0 hc hk hR hr hW _ _ _ e17 (fun d1 => ?_) _
  refine go_aload0 hc dX11_advance_38 ?_
  refine go_aload0 hc dX11_advance_39 ?_
  refine go_getI hc lk_RX11_28 dX11_advance_40 (sh_1 hW) ?_
  replace h := goNm_x h; obtain ⟨M19, e20, h⟩ := h
  refine go_ptI hc lk_RX11_34 dX11_advance_43 (sh_1 hW) e20 ?_
  refine go_aload0 hc dX11_advance_46 ?_
  refine go_getI hc lk_RX11_28 dX11_advance_47 (sh_1 hW) ?_
  refine go_aload0 hc dX11_advance_50 ?_
  refine go_getI hc lk_RX11_25 dX11_advance_51 (sh_1 hW) ?_
  refine go_icmp_lt hc 63 dX11_advance_54 rfl (fun c21 => ?_) (fun c21 => ?_)
  · replace h := goIfF h c21
    refine go_aload0 hc dX11_advance_63 ?_
    refine go_getR hc lk_RX11_9 dX11_advance_64 (sh_1 hW) (rf_1_0 hW) ?_
    refine go_aload0 hc dX11_advance_67 ?_
    refine go_getI hc lk_RX11_28 dX11_advance_68 (sh_1 hW) ?_
    replace h := goBind h; obtain ⟨x22, e23, h⟩ := h
    refine go_bald hc dX11_advance_71 (sh_2 hW) e23 ?_
    refine go_istore1 hc dX11_advance_72 ?_
    refine go_iload1 hc dX11_advance_73 ?_
    refine go_callSi hc dX11_advance_74 (mX11_isLetter hk hW rfl) ml_RX11_40 yk_X11_isLetter wst_X11_isLetter hR rfl rfl rfl (Nat.le_of_ble_eq_true rfl) rfl ?_
    refine go_if_eq hc 87 dX11_advance_77 rfl (fun c24 => ?_) (fun c24 => ?_)
    · replace h := goIfT h c24
      refine go_iload1 hc dX11_advance_87 ?_
      refine go_callSi hc dX11_advance_88 (mX11_isDigit hk hW rfl) ml_RX11_47 yk_X11_isDigit wst_X11_isDigit hR rfl rfl rfl (Nat.le_of_ble_eq_true rfl) rfl ?_
      refine go_if_eq hc 101 dX11_advance_91 rfl (fun c25 => ?_) (fun c25 => ?_)
      · replace h := goIfT h c25
        refine go_aload0 hc dX11_advance_101 ?_
        refine go_iload1 hc dX11_advance_102 ?_
        refine go_bipush (v := 59) hc dX11_advance_103 rfl ?_
        replace h := goNm_y h; obtain ⟨x26, e27, h⟩ := h
        have k28 : ∀ (d1 : Option Value), goA E X G 0 0 (goMQ X E (goQv E G r0 r1 R) 0 0) 123 [some (.ref 1), d1] [.int x26, .ref 1] M19 L R := by
          intro d1
          replace h := goNm_x h; obtain ⟨M31, e32, h⟩ := h
          refine go_ptI hc lk_RX11_37 dX11_advance_123 (sh_1 hW) e32 ?_
          refine go_aload0 hc dX11_advance_126 ?_
          refine go_dupr hc dX11_advance_127 ?_
          refine go_getI hc lk_RX11_28 dX11_advance_128 (sh_1 hW) ?_
          refine go_iconst (v := 1) hc dX11_advance_131 rfl ?_
          refine go_iadd hc dX11_advance_132 ?_
          replace h := goNm_x h; obtain ⟨M33, e34, h⟩ := h
          refine go_ptI hc lk_RX11_28 dX11_advance_133 (sh_1 hW) e34 ?_
          cases h
          exact go_vret hc dX11_advance_136 hr
        refine go_icmp_ne hc 112 dX11_advance_105 rfl (fun c29 => ?_) (fun c29 => ?_)
        · replace e27 := goIfF e27 c29
          refine go_iload1 hc dX11_advance_112 ?_
          refine go_bipush (v := 44) hc dX11_advance_113 rfl ?_
          refine go_icmp_ne hc 122 dX11_advance_115 rfl (fun c30 => ?_) (fun c30 => ?_)
          · replace e27 := goIfF e27 c30
            refine go_iconst (v := 5) hc dX11_advance_122 rfl ?_
            subst e27
            exact k28 _
          · replace e27 := goIfT e27 c30
            refine go_iconst (v := 4) hc dX11_advance_118 rfl ?_
            refine go_goto hc 123 dX11_advance_119 rfl ?_
            subst e27
            exact k28 _
        · replace e27 := goIfT e27 c29
          refine go_iconst (v := 3) hc dX11_advance_108 rfl ?_
          refine go_goto hc 123 dX11_advance_109 rfl ?_
          subst e27
          exact k28 _
      · replace h := goIfF h c25
        refine go_aload0 hc dX11_advance_94 ?_
        replace h := goBind h; obtain ⟨M35, e36, h⟩ := h
        refine go_callVv hc dX11_advance_95 (mX11_readWhole hk hW e36) ml_RX11_50 yk_X11_readWhole ⟨wim_X11_readWhole, wse_X11_readWhole⟩ hR rfl (sh_1 hW) rfl rfl rfl (Nat.le_of_ble_eq_true rfl) rfl ?_
        refine go_goto hc 136 dX11_advance_98 rfl ?_
        cases h
        exact go_vret hc dX11_advance_136 hr
    · replace h := goIfF h c24
      refine go_aload0 hc dX11_advance_80 ?_
      replace h := goB2_h h; obtain ⟨M37, L38, e39, h⟩ := h
      refine go_callVv hc dX11_advance_81 (mX11_readWord hk hW e39) ml_RX11_44 yk_X11_readWord ⟨wim_X11_readWord, wse_X11_readWord⟩ hR rfl (sh_1 hW) rfl rfl rfl (Nat.le_of_ble_eq_true rfl) rfl ?_
      refine go_goto hc 136 dX11_advance_84 rfl ?_
      cases h
      exact go_vret hc dX11_advance_136 hr
  · replace h := goIfT h c21
    refine go_aload0 hc dX11_advance_57 ?_
    refine go_iconst (v := 0) hc dX11_advance_58 rfl ?_
    replace h := goNm_x h; obtain ⟨M40, e41, h⟩ := h
    refine go_ptI hc lk_RX11_37 dX11_advance_59 (sh_1 hW) e41 ?_
    cases h
    exact go_vret hc dX11_advance_62 hr
theorem dX11_rewind_0 : decode cX11_rewind 0 = .ok (.aload_n 0, 1) := by decide +kernel
theorem dX11_rewind_1 : decode cX11_rewind 1 = .ok (.iload_n 1, 1) := by decide +kernel
theorem dX11_rewind_2 : decode cX11_rewind 2 = .ok (.aload_n 0, 1) := by decide +kernel
theorem dX11_rewind_3 : decode cX11_rewind 3 = .ok (.getfield 15, 3) := by decide +kernel
theorem dX11_rewind_6 : decode cX11_rewind 6 = .ok (.invokestatic 19, 3) := by decide +kernel
theorem dX11_rewind_9 : decode cX11_rewind 9 = .ok (.putfield 25, 3) := by decide +kernel
theorem dX11_rewind_12 : decode cX11_rewind 12 = .ok (.aload_n 0, 1) := by decide +kernel
theorem dX11_rewind_13 : decode cX11_rewind 13 = .ok (.iconst 0, 1) := by decide +kernel
theorem dX11_rewind_14 : decode cX11_rewind 14 = .ok (.putfield 28, 3) := by decide +kernel
theorem dX11_rewind_17 : decode cX11_rewind 17 = .ok (.aload_n 0, 1) := by decide +kernel
theorem dX11_rewind_18 : decode cX11_rewind 18 = .ok (.invokevirtual 31, 3) := by decide +kernel
theorem dX11_rewind_21 : decode cX11_rewind 21 = .ok (.return_, 1) := by decide +kernel
set_option maxRecDepth 100000 in
set_option maxHeartbeats 4000000 in
theorem mX11_rewind {E : goEv} {l : Launch} {G : goG} {N : Nat} {M : goMI} {L : goML} {R : goMR} {v1 : Int32} {r0 : goMI} {r1 : goML} (hk : goKn E) (hW : goW G R) (h : fX11_rewind N M L v1 = some (r0, r1)) : Met l yX11_rewind (goCd yX11_rewind cX11_rewind 2 none) (goRoom 3 61 0 0) (goPre E [.ref 1, .int v1] G M L R) (goQv E G r0 r1 R) 0 0 (goSet E) := by
  refine goMet pl_RX11 hk (lv := [some (.ref 1), some (.int v1)]) rfl (Nat.le_of_ble_eq_true rfl) ?_
  intro X hc hl hR hr hnm
  subst hl
  unfold fX11_rewind at h
  refine go_aload0 hc dX11_rewind_0 ?_
  refine go_iload1 hc dX11_rewind_1 ?_
  refine go_aload0 hc dX11_rewind_2 ?_
  refine go_getI hc lk_RX11_15 dX11_rewind_3 (sh_1 hW) ?_
  refine go_mmin hc dX11_rewind_6 wml_RX11_19 hR rfl rfl (Nat.le_of_ble_eq_true rfl) ?_
  replace h := goNm_x h; obtain ⟨M11, e12, h⟩ := h
  refine go_ptI hc lk_RX11_25 dX11_rewind_9 (sh_1 hW) e12 ?_
  refine go_aload0 hc dX11_rewind_12 ?_
  refine go_iconst (v := 0) hc dX11_rewind_13 rfl ?_
  replace h := goNm_x h; obtain ⟨M13, e14, h⟩ := h
  refine go_ptI hc lk_RX11_28 dX11_rewind_14 (sh_1 hW) e14 ?_
  refine go_aload0 hc dX11_rewind_17 ?_
  replace h := goB2_h h; obtain ⟨M15, L16, e17, h⟩ := h
  refine go_callVv hc dX11_rewind_18 (mX11_advance hk hW e17) ml_RX11_31 yk_X11_advance ⟨wim_X11_advance, wse_X11_advance⟩ hR rfl (sh_1 hW) rfl rfl rfl (Nat.le_of_ble_eq_true rfl) rfl ?_
  cases h
  exact go_vret hc dX11_rewind_21 hr
theorem dX9_reservedHere_0 : decode cX9_reservedHere 0 = .ok (.iconst 0, 1) := by decide +kernel
theorem dX9_reservedHere_1 : decode cX9_reservedHere 1 = .ok (.istore_n 1, 1) := by decide +kernel
theorem dX9_reservedHere_2 : decode cX9_reservedHere 2 = .ok (.iload_n 1, 1) := by decide +kernel
theorem dX9_reservedHere_3 : decode cX9_reservedHere 3 = .ok (.getstatic 28, 3) := by decide +kernel
theorem dX9_reservedHere_6 : decode cX9_reservedHere 6 = .ok (.arraylength, 1) := by decide +kernel
theorem dX9_reservedHere_7 : decode cX9_reservedHere 7 = .ok (.if_icmp .ge 43, 3) := by decide +kernel
theorem dX9_reservedHere_10 : decode cX9_reservedHere 10 = .ok (.aload_n 0, 1) := by decide +kernel
theorem dX9_reservedHere_11 : decode cX9_reservedHere 11 = .ok (.getfield 35, 3) := by decide +kernel
theorem dX9_reservedHere_14 : decode cX9_reservedHere 14 = .ok (.getfield 81, 3) := by decide +kernel
theorem dX9_reservedHere_17 : decode cX9_reservedHere 17 = .ok (.iconst 1, 1) := by decide +kernel
theorem dX9_reservedHere_18 : decode cX9_reservedHere 18 = .ok (.if_icmp .ne 26, 3) := by decide +kernel
theorem dX9_reservedHere_21 : decode cX9_reservedHere 21 = .ok (.aload_n 0, 1) := by decide +kernel
theorem dX9_reservedHere_22 : decode cX9_reservedHere 22 = .ok (.getfield 35, 3) := by decide +kernel
theorem dX9_reservedHere_25 : decode cX9_reservedHere 25 = .ok (.getfield 335, 3) := by decide +kernel
theorem dX9_reservedHere_28 : decode cX9_reservedHere 28 = .ok (.aload_n 0, 1) := by decide +kernel
theorem dX9_reservedHere_29 : decode cX9_reservedHere 29 = .ok (.getfield 32, 3) := by decide +kernel
theorem dX9_reservedHere_32 : decode cX9_reservedHere 32 = .ok (.iload_n 1, 1) := by decide +kernel
theorem dX9_reservedHere_33 : decode cX9_reservedHere 33 = .ok (.laload, 1) := by decide +kernel
theorem dX9_reservedHere_34 : decode cX9_reservedHere 34 = .ok (.lcmp, 1) := by decide +kernel
theorem dX9_reservedHere_35 : decode cX9_reservedHere 35 = .ok (.ifCond .ne 9, 3) := by decide +kernel
theorem dX9_reservedHere_38 : decode cX9_reservedHere 38 = .ok (.getstatic 28, 3) := by decide +kernel
theorem dX9_reservedHere_41 : decode cX9_reservedHere 41 = .ok (.iload_n 1, 1) := by decide +kernel
theorem dX9_reservedHere_42 : decode cX9_reservedHere 42 = .ok (.aaload, 1) := by decide +kernel
theorem dX9_reservedHere_43 : decode cX9_reservedHere 43 = .ok (.areturn, 1) := by decide +kernel
theorem dX9_reservedHere_44 : decode cX9_reservedHere 44 = .ok (.iinc 1 1, 3) := by decide +kernel
theorem dX9_reservedHere_47 : decode cX9_reservedHere 47 = .ok (.goto (-45), 3) := by decide +kernel
theorem dX9_reservedHere_50 : decode cX9_reservedHere 50 = .ok (.getstatic 339, 3) := by decide +kernel
theorem dX9_reservedHere_53 : decode cX9_reservedHere 53 = .ok (.areturn, 1) := by decide +kernel
set_option maxRecDepth 100000 in
set_option maxHeartbeats 4000000 in
theorem mX9_reservedHere_L2 {E : goEv} {X : goX} {G : goG} {M : goMI} {L : goML} {R : goMR} {r0 : Nat} (hc : goCx E X cX9_reservedHere RX9 2) (hk : goKn E) (hR : X.2.2.2.1 = goRoom 0 0 0 0) (hr : X.2.2.2.2.2.2.2.2.1.sig.returnType = (Option.some (FieldType.object "GoatCourt$Reserved"))) (hW : goW G R) : ∀ (n : Nat) (v1 : Int32), lX9_reservedHere_2 M L n v1 = some r0 → goA E X G 0 0 (goMQ X E (goQr E r0 G M L R) 0 0) 2 [some (.ref 67), some (.int v1)] [] M L R := by
  intro n
  induction n with
  | zero => intro v1 h; exact nomatch h
  | succ n ih =>
    intro v1 h
    rw [lX9_reservedHere_2] at h
    refine go_iload1 hc dX9_reservedHere_2 ?_
    refine go_getsRA hc dX9_reservedHere_3 ?_
    refine go_raLen hc dX9_reservedHere_6 ?_
    refine go_icmp_ge hc 50 dX9_reservedHere_7 rfl (fun c11 => ?_) (fun c11 => ?_)
    · replace h := goIfF h c11
      refine go_getsE_OTHER hc dX9_reservedHere_50 ?_
      cases h
      exact go_aret hc dX9_reservedHere_53 hr
    · replace h := goIfT h c11
      refine go_aload0 hc dX9_reservedHere_10 ?_
      refine go_getR hc lk_RX9_35 dX9_reservedHere_11 (sh_67 hW) (rf_67_0 hW) ?_
      refine go_getI hc lk_RX9_81 dX9_reservedHere_14 (sh_1 hW) ?_
      refine go_iconst (v := 1) hc dX9_reservedHere_17 rfl ?_
      refine go_icmp_ne hc 44 dX9_reservedHere_18 rfl (fun c12 => ?_) (fun c12 => ?_)
      · replace h := goIfF h c12
        refine go_iinc1 (v := (v1 + 1)) hc dX9_reservedHere_44 rfl ?_
        refine go_goto hc 2 dX9_reservedHere_47 rfl ?_
        exact ih _ h
      · replace h := goIfT h c12
        refine go_aload0 hc dX9_reservedHere_21 ?_
        refine go_getR hc lk_RX9_35 dX9_reservedHere_22 (sh_67 hW) (rf_67_0 hW) ?_
        refine go_getL hc lk_RX9_335 dX9_reservedHere_25 (sh_1 hW) ?_
        refine go_aload0 hc dX9_reservedHere_28 ?_
        refine go_getR hc lk_RX9_32 dX9_reservedHere_29 (sh_67 hW) (rf_67_6 hW) ?_
        refine go_iload1 hc dX9_reservedHere_32 ?_
        replace h := goBind h; obtain ⟨x13, e14, h⟩ := h
        refine go_lald hc dX9_reservedHere_33 (sh_73 hW) e14 ?_
        refine go_lcmp hc dX9_reservedHere_34 ?_
        refine go_if_ne hc 44 dX9_reservedHere_35 rfl (fun c15 => ?_) (fun c15 => ?_)
        · replace h := goIfF h c15
          refine go_iinc1 (v := (v1 + 1)) hc dX9_reservedHere_44 rfl ?_
          refine go_goto hc 2 dX9_reservedHere_47 rfl ?_
          exact ih _ h
        · replace h := goIfT h c15
          refine go_getsRA hc dX9_reservedHere_38 ?_
          refine go_iload1 hc dX9_reservedHere_41 ?_
          replace h := goBind h; obtain ⟨x16, e17, h⟩ := h
          refine go_raLd hc dX9_reservedHere_42 e17 ?_
          cases h
          exact go_aret hc dX9_reservedHere_43 hr
set_option maxRecDepth 100000 in
set_option maxHeartbeats 4000000 in
theorem mX9_reservedHere {E : goEv} {l : Launch} {G : goG} {N : Nat} {M : goMI} {L : goML} {R : goMR} {r0 : Nat} (hk : goKn E) (hW : goW G R) (h : fX9_reservedHere N M L = some r0) : Met l yX9_reservedHere (goCd yX9_reservedHere cX9_reservedHere 2 (Option.some (FieldType.object "GoatCourt$Reserved"))) (goRoom 0 0 0 0) (goPre E [.ref 67] G M L R) (goQr E r0 G M L R) 0 0 (goSet E) := by
  refine goMet pl_RX9 hk (lv := [some (.ref 67), none]) rfl (Nat.le_of_ble_eq_true rfl) ?_
  intro X hc hl hR hr hnm
  subst hl
  unfold fX9_reservedHere at h
  refine go_iconst (v := 0) hc dX9_reservedHere_0 rfl ?_
  refine go_istore1 hc dX9_reservedHere_1 ?_
  exact mX9_reservedHere_L2 hc hk hR hr hW _ _ h
theorem dX9_fail_0 : decode cX9_fail 0 = .ok (.aload_n 0, 1) := by decide +kernel
theorem dX9_fail_1 : decode cX9_fail 1 = .ok (.iload_n 1, 1) := by decide +kernel
theorem dX9_fail_2 : decode cX9_fail 2 = .ok (.putfield 64, 3) := by decide +kernel
theorem dX9_fail_5 : decode cX9_fail 5 = .ok (.aload_n 0, 1) := by decide +kernel
theorem dX9_fail_6 : decode cX9_fail 6 = .ok (.aload_n 0, 1) := by decide +kernel
theorem dX9_fail_7 : decode cX9_fail 7 = .ok (.getfield 35, 3) := by decide +kernel
theorem dX9_fail_10 : decode cX9_fail 10 = .ok (.getfield 330, 3) := by decide +kernel
theorem dX9_fail_13 : decode cX9_fail 13 = .ok (.putfield 332, 3) := by decide +kernel
theorem dX9_fail_16 : decode cX9_fail 16 = .ok (.iconst 0, 1) := by decide +kernel
theorem dX9_fail_17 : decode cX9_fail 17 = .ok (.ireturn, 1) := by decide +kernel
set_option maxRecDepth 100000 in
set_option maxHeartbeats 4000000 in
theorem mX9_fail {E : goEv} {l : Launch} {G : goG} {M : goMI} {L : goML} {R : goMR} {v1 : Int32} {r0 : Int32} {r1 : goMI} (hk : goKn E) (hW : goW G R) (h : fX9_fail M v1 = some (r0, r1)) : Met l yX9_fail (goCd yX9_fail cX9_fail 2 (Option.some FieldType.boolean)) (goRoom 0 0 0 0) (goPre E [.ref 67, .int v1] G M L R) (goQi E r0 G r1 L R) 0 0 (goSet E) := by
  refine goMet pl_RX9 hk (lv := [some (.ref 67), some (.int v1)]) rfl (Nat.le_of_ble_eq_true rfl) ?_
  intro X hc hl hR hr hnm
  subst hl
  unfold fX9_fail at h
  refine go_aload0 hc dX9_fail_0 ?_
  refine go_iload1 hc dX9_fail_1 ?_
  replace h := goNm_x h; obtain ⟨M11, e12, h⟩ := h
  refine go_ptI hc lk_RX9_64 dX9_fail_2 (sh_67 hW) e12 ?_
  refine go_aload0 hc dX9_fail_5 ?_
  refine go_aload0 hc dX9_fail_6 ?_
  refine go_getR hc lk_RX9_35 dX9_fail_7 (sh_67 hW) (rf_67_0 hW) ?_
  refine go_getI hc lk_RX9_330 dX9_fail_10 (sh_1 hW) ?_
  replace h := goNm_x h; obtain ⟨M13, e14, h⟩ := h
  refine go_ptI hc lk_RX9_332 dX9_fail_13 (sh_67 hW) e14 ?_
  refine go_iconst (v := 0) hc dX9_fail_16 rfl ?_
  cases h
  exact go_zret hc dX9_fail_17 hr rfl
theorem dX11_codeOf_0 : decode cX11_codeOf 0 = .ok (.lconst 0, 1) := by decide +kernel
theorem dX11_codeOf_1 : decode cX11_codeOf 1 = .ok (.lstore_n 1, 1) := by decide +kernel
theorem dX11_codeOf_2 : decode cX11_codeOf 2 = .ok (.iconst 0, 1) := by decide +kernel
theorem dX11_codeOf_3 : decode cX11_codeOf 3 = .ok (.istore_n 3, 1) := by decide +kernel
theorem dX11_codeOf_4 : decode cX11_codeOf 4 = .ok (.iload_n 3, 1) := by decide +kernel
theorem dX11_codeOf_5 : decode cX11_codeOf 5 = .ok (.aload_n 0, 1) := by decide +kernel
theorem dX11_codeOf_6 : decode cX11_codeOf 6 = .ok (.invokevirtual 71, 3) := by decide +kernel
theorem dX11_codeOf_9 : decode cX11_codeOf 9 = .ok (.if_icmp .ge 28, 3) := by decide +kernel
theorem dX11_codeOf_12 : decode cX11_codeOf 12 = .ok (.lload_n 1, 1) := by decide +kernel
theorem dX11_codeOf_13 : decode cX11_codeOf 13 = .ok (.ldc2_w 57, 3) := by decide +kernel
theorem dX11_codeOf_16 : decode cX11_codeOf 16 = .ok (.lmul, 1) := by decide +kernel
theorem dX11_codeOf_17 : decode cX11_codeOf 17 = .ok (.aload_n 0, 1) := by decide +kernel
theorem dX11_codeOf_18 : decode cX11_codeOf 18 = .ok (.iload_n 3, 1) := by decide +kernel
theorem dX11_codeOf_19 : decode cX11_codeOf 19 = .ok (.invokevirtual 77, 3) := by decide +kernel
theorem dX11_codeOf_22 : decode cX11_codeOf 22 = .ok (.i2l, 1) := by decide +kernel
theorem dX11_codeOf_23 : decode cX11_codeOf 23 = .ok (.ladd, 1) := by decide +kernel
theorem dX11_codeOf_24 : decode cX11_codeOf 24 = .ok (.ldc2_w 59, 3) := by decide +kernel
theorem dX11_codeOf_27 : decode cX11_codeOf 27 = .ok (.lsub, 1) := by decide +kernel
theorem dX11_codeOf_28 : decode cX11_codeOf 28 = .ok (.lconst 1, 1) := by decide +kernel
theorem dX11_codeOf_29 : decode cX11_codeOf 29 = .ok (.ladd, 1) := by decide +kernel
theorem dX11_codeOf_30 : decode cX11_codeOf 30 = .ok (.lstore_n 1, 1) := by decide +kernel
theorem dX11_codeOf_31 : decode cX11_codeOf 31 = .ok (.iinc 3 1, 3) := by decide +kernel
theorem dX11_codeOf_34 : decode cX11_codeOf 34 = .ok (.goto (-30), 3) := by decide +kernel
theorem dX11_codeOf_37 : decode cX11_codeOf 37 = .ok (.lload_n 1, 1) := by decide +kernel
theorem dX11_codeOf_38 : decode cX11_codeOf 38 = .ok (.lreturn, 1) := by decide +kernel
set_option maxRecDepth 100000 in
set_option maxHeartbeats 4000000 in
theorem mX11_codeOf_L4 {E : goEv} {X : goX} {G : goG} {Q : State → Prop} {M : goMI} {L : goML} {R : goMR} {a0 : Nat} (hc : goCx E X cX11_codeOf RX11 4) (hk : goKn E) (hR : X.2.2.2.1 = goRoom 5 106 0 0) (hr : X.2.2.2.2.2.2.2.2.1.sig.returnType = (Option.some FieldType.long)) : ∀ (n : Nat) (w1 : Int64) (v3 : Int32) (r0 : Int64), lX11_codeOf_4 a0 n w1 v3 = some r0 → (∀ (d0 d3 : Option Value), goA E X G 0 0 Q 37 [d0, some (.long r0), none, d3] [] M L R) → goA E X G 0 0 Q 4 [some (.ref a0), some (.long w1), none, some (.int v3)] [] M L R := by
  intro n
  induction n with
  | zero => intro w1 v3 r0 h; exact nomatch h
  | succ n ih =>
    intro w1 v3 r0 h kx
    rw [lX11_codeOf_4] at h
    refine go_iload3 hc dX11_codeOf_4 ?_
    refine go_aload0 hc dX11_codeOf_5 ?_
    replace h := goBind h; obtain ⟨x11, e12, h⟩ := h
    refine go_slen hk hc dX11_codeOf_6 wml_RX11_71 hR rfl rfl (Nat.le_of_ble_eq_true rfl) e12 ?_
    refine go_icmp_ge hc 37 dX11_codeOf_9 rfl (fun c13 => ?_) (fun c13 => ?_)
    · replace h := goIfF h c13
      cases h
      exact kx _ _
    · replace h := goIfT h c13
      refine go_lload1 hc dX11_codeOf_12 ?_
      refine go_ldc2 hc dX11_codeOf_13 wcJ_RX11_57 ?_
      refine go_lmul hc dX11_codeOf_16 ?_
      refine go_aload0 hc dX11_codeOf_17 ?_
      refine go_iload3 hc dX11_codeOf_18 ?_
      replace h := goBind h; obtain ⟨x14, e15, h⟩ := h
      refine go_schr hk hc dX11_codeOf_19 wml_RX11_77 hR rfl rfl (Nat.le_of_ble_eq_true rfl) e15 ?_
      refine go_i2l hc dX11_codeOf_22 ?_
      refine go_ladd hc dX11_codeOf_23 ?_
      refine go_ldc2 hc dX11_codeOf_24 wcJ_RX11_59 ?_
      refine go_lsub hc dX11_codeOf_27 ?_
      refine go_lconst (v := 1) hc dX11_codeOf_28 rfl ?_
      refine go_ladd hc dX11_codeOf_29 ?_
      replace h := goNm_x h; obtain ⟨x16, e17, h⟩ := h
      refine go_nmJ e17 ?_
      refine go_lstore1 hc dX11_codeOf_30 ?_
      refine go_iinc3 (v := (v3 + 1)) hc dX11_codeOf_31 rfl ?_
      refine go_goto hc 4 dX11_codeOf_34 rfl ?_
      exact ih _ _ _ h kx
set_option maxRecDepth 100000 in
set_option maxHeartbeats 4000000 in
theorem mX11_codeOf {E : goEv} {l : Launch} {G : goG} {N : Nat} {M : goMI} {L : goML} {R : goMR} {a0 : Nat} {r0 : Int64} (hk : goKn E) (h : fX11_codeOf N a0 = some r0) : Met l yX11_codeOf (goCd yX11_codeOf cX11_codeOf 4 (Option.some FieldType.long)) (goRoom 5 106 0 0) (goPre E [.ref a0] G M L R) (goQl E r0 G M L R) 0 0 (goSet E) := by
  refine goMet pl_RX11 hk (lv := [some (.ref a0), none, none, none]) rfl (Nat.le_of_ble_eq_true rfl) ?_
  intro X hc hl hR hr hnm
  subst hl
  unfold fX11_codeOf at h
  refine go_lconst (v := 0) hc dX11_codeOf_0 rfl ?_
  refine go_lstore1 hc dX11_codeOf_1 ?_
  refine go_iconst (v := 0) hc dX11_codeOf_2 rfl ?_
  refine go_istore3 hc dX11_codeOf_3 ?_
  replace h := goBind h; obtain ⟨x19, e18, h⟩ := h
  refine mX11_codeOf_L4 hc hk hR hr _ _ _ _ e18 (fun d0 d3 => ?_)
  refine go_lload1 hc dX11_codeOf_37 ?_
  cases h
  exact go_lret hc dX11_codeOf_38 hr
theorem dX11_spells_0 : decode cX11_spells 0 = .ok (.aload_n 0, 1) := by decide +kernel
theorem dX11_spells_1 : decode cX11_spells 1 = .ok (.getfield 37, 3) := by decide +kernel
theorem dX11_spells_4 : decode cX11_spells 4 = .ok (.iconst 1, 1) := by decide +kernel
theorem dX11_spells_5 : decode cX11_spells 5 = .ok (.if_icmp .ne 19, 3) := by decide +kernel
theorem dX11_spells_8 : decode cX11_spells 8 = .ok (.aload_n 0, 1) := by decide +kernel
theorem dX11_spells_9 : decode cX11_spells 9 = .ok (.getfield 53, 3) := by decide +kernel
theorem dX11_spells_12 : decode cX11_spells 12 = .ok (.aload_n 1, 1) := by decide +kernel
theorem dX11_spells_13 : decode cX11_spells 13 = .ok (.invokestatic 67, 3) := by decide +kernel
theorem dX11_spells_16 : decode cX11_spells 16 = .ok (.lcmp, 1) := by decide +kernel
theorem dX11_spells_17 : decode cX11_spells 17 = .ok (.ifCond .ne 7, 3) := by decide +kernel
theorem dX11_spells_20 : decode cX11_spells 20 = .ok (.iconst 1, 1) := by decide +kernel
theorem dX11_spells_21 : decode cX11_spells 21 = .ok (.goto 4, 3) := by decide +kernel
theorem dX11_spells_24 : decode cX11_spells 24 = .ok (.iconst 0, 1) := by decide +kernel
theorem dX11_spells_25 : decode cX11_spells 25 = .ok (.ireturn, 1) := by decide +kernel
set_option maxRecDepth 100000 in
set_option maxHeartbeats 4000000 in
theorem mX11_spells {E : goEv} {l : Launch} {G : goG} {N : Nat} {M : goMI} {L : goML} {R : goMR} {a1 : Nat} {r0 : Int32} (hk : goKn E) (hW : goW G R) (h : fX11_spells N M L a1 = some r0) : Met l yX11_spells (goCd yX11_spells cX11_spells 2 (Option.some FieldType.boolean)) (goRoom 6 129 0 0) (goPre E [.ref 1, .ref a1] G M L R) (goQi E r0 G M L R) 0 0 (goSet E) := by
  refine goMet pl_RX11 hk (lv := [some (.ref 1), some (.ref a1)]) rfl (Nat.le_of_ble_eq_true rfl) ?_
  intro X hc hl hR hr hnm
  subst hl
  unfold fX11_spells at h
  refine go_aload0 hc dX11_spells_0 ?_
  refine go_getI hc lk_RX11_37 dX11_spells_1 (sh_1 hW) ?_
  refine go_iconst (v := 1) hc dX11_spells_4 rfl ?_
  refine go_icmp_ne hc 24 dX11_spells_5 rfl (fun c11 => ?_) (fun c11 => ?_)
  · replace h := goIfF h c11
    refine go_iconst (v := 0) hc dX11_spells_24 rfl ?_
    cases h
    exact go_zret hc dX11_spells_25 hr rfl
  · replace h := goIfT h c11
    refine go_aload0 hc dX11_spells_8 ?_
    refine go_getL hc lk_RX11_53 dX11_spells_9 (sh_1 hW) ?_
    refine go_aload1 hc dX11_spells_12 ?_
    replace h := goBind h; obtain ⟨x12, e13, h⟩ := h
    refine go_callSl hc dX11_spells_13 (mX11_codeOf hk e13) ml_RX11_67 yk_X11_codeOf wst_X11_codeOf hR rfl rfl rfl (Nat.le_of_ble_eq_true rfl) rfl ?_
    refine go_lcmp hc dX11_spells_16 ?_
    refine go_if_ne hc 24 dX11_spells_17 rfl (fun c14 => ?_) (fun c14 => ?_)
    · replace h := goIfF h c14
      refine go_iconst (v := 0) hc dX11_spells_24 rfl ?_
      cases h
      exact go_zret hc dX11_spells_25 hr rfl
    · replace h := goIfT h c14
      refine go_iconst (v := 1) hc dX11_spells_20 rfl ?_
      refine go_goto hc 25 dX11_spells_21 rfl ?_
      cases h
      exact go_zret hc dX11_spells_25 hr rfl
theorem dX9_word_0 : decode cX9_word 0 = .ok (.aload_n 0, 1) := by decide +kernel
theorem dX9_word_1 : decode cX9_word 1 = .ok (.getfield 35, 3) := by decide +kernel
theorem dX9_word_4 : decode cX9_word 4 = .ok (.aload_n 1, 1) := by decide +kernel
theorem dX9_word_5 : decode cX9_word 5 = .ok (.invokevirtual 251, 3) := by decide +kernel
theorem dX9_word_8 : decode cX9_word 8 = .ok (.ifCond .ne 9, 3) := by decide +kernel
theorem dX9_word_11 : decode cX9_word 11 = .ok (.aload_n 0, 1) := by decide +kernel
theorem dX9_word_12 : decode cX9_word 12 = .ok (.iconst 1, 1) := by decide +kernel
theorem dX9_word_13 : decode cX9_word 13 = .ok (.invokevirtual 87, 3) := by decide +kernel
theorem dX9_word_16 : decode cX9_word 16 = .ok (.ireturn, 1) := by decide +kernel
theorem dX9_word_17 : decode cX9_word 17 = .ok (.aload_n 0, 1) := by decide +kernel
theorem dX9_word_18 : decode cX9_word 18 = .ok (.getfield 35, 3) := by decide +kernel
theorem dX9_word_21 : decode cX9_word 21 = .ok (.invokevirtual 84, 3) := by decide +kernel
theorem dX9_word_24 : decode cX9_word 24 = .ok (.iconst 1, 1) := by decide +kernel
theorem dX9_word_25 : decode cX9_word 25 = .ok (.ireturn, 1) := by decide +kernel
set_option maxRecDepth 100000 in
set_option maxHeartbeats 4000000 in
theorem mX9_word {E : goEv} {l : Launch} {G : goG} {N : Nat} {M : goMI} {L : goML} {R : goMR} {a1 : Nat} {r0 : Int32} {r1 : goMI} {r2 : goML} (hk : goKn E) (hW : goW G R) (h : fX9_word N M L a1 = some (r0, r1, r2)) : Met l yX9_word (goCd yX9_word cX9_word 2 (Option.some FieldType.boolean)) (goRoom 7 150 0 0) (goPre E [.ref 67, .ref a1] G M L R) (goQi E r0 G r1 r2 R) 0 0 (goSet E) := by
  refine goMet pl_RX9 hk (lv := [some (.ref 67), some (.ref a1)]) rfl (Nat.le_of_ble_eq_true rfl) ?_
  intro X hc hl hR hr hnm
  subst hl
  unfold fX9_word at h
  refine go_aload0 hc dX9_word_0 ?_
  refine go_getR hc lk_RX9_35 dX9_word_1 (sh_67 hW) (rf_67_0 hW) ?_
  refine go_aload1 hc dX9_word_4 ?_
  replace h := goBind h; obtain ⟨x11, e12, h⟩ := h
  refine go_callVi hc dX9_word_5 (mX11_spells hk hW e12) ml_RX9_251 yk_X11_spells ⟨wim_X11_spells, wse_X11_spells⟩ hR rfl (sh_1 hW) rfl rfl rfl (Nat.le_of_ble_eq_true rfl) rfl ?_
  refine go_if_ne hc 17 dX9_word_8 rfl (fun c13 => ?_) (fun c13 => ?_)
  · replace h := goIfF h c13
    refine go_aload0 hc dX9_word_17 ?_
    refine go_getR hc lk_RX9_35 dX9_word_18 (sh_67 hW) (rf_67_0 hW) ?_
    replace h := goB2_h h; obtain ⟨M14, L15, e16, h⟩ := h
    refine go_callVv hc dX9_word_21 (mX11_advance hk hW e16) ml_RX9_84 yk_X11_advance ⟨wim_X11_advance, wse_X11_advance⟩ hR rfl (sh_1 hW) rfl rfl rfl (Nat.le_of_ble_eq_true rfl) rfl ?_
    refine go_iconst (v := 1) hc dX9_word_24 rfl ?_
    cases h
    exact go_zret hc dX9_word_25 hr rfl
  · replace h := goIfT h c13
    refine go_aload0 hc dX9_word_11 ?_
    refine go_iconst (v := 1) hc dX9_word_12 rfl ?_
    replace h := goB2_h h; obtain ⟨x17, M18, e19, h⟩ := h
    refine go_callVi hc dX9_word_13 (mX9_fail hk hW e19) ml_RX9_87 yk_X9_fail ⟨wim_X9_fail, wse_X9_fail⟩ hR rfl (sh_67 hW) rfl rfl rfl (Nat.le_of_ble_eq_true rfl) rfl ?_
    replace h := goBind h; obtain ⟨x20, e21, h⟩ := h
    obtain ⟨ze21, rfl⟩ := goZr_h e21
    cases h
    exact go_zret hc dX9_word_16 hr (goZ_n ze21)
theorem dX9_wholeIn_0 : decode cX9_wholeIn 0 = .ok (.aload_n 0, 1) := by decide +kernel
theorem dX9_wholeIn_1 : decode cX9_wholeIn 1 = .ok (.getfield 35, 3) := by decide +kernel
theorem dX9_wholeIn_4 : decode cX9_wholeIn 4 = .ok (.getfield 81, 3) := by decide +kernel
theorem dX9_wholeIn_7 : decode cX9_wholeIn 7 = .ok (.iconst 2, 1) := by decide +kernel
theorem dX9_wholeIn_8 : decode cX9_wholeIn 8 = .ok (.if_icmp .eq 9, 3) := by decide +kernel
theorem dX9_wholeIn_11 : decode cX9_wholeIn 11 = .ok (.aload_n 0, 1) := by decide +kernel
theorem dX9_wholeIn_12 : decode cX9_wholeIn 12 = .ok (.iconst 1, 1) := by decide +kernel
theorem dX9_wholeIn_13 : decode cX9_wholeIn 13 = .ok (.invokevirtual 87, 3) := by decide +kernel
theorem dX9_wholeIn_16 : decode cX9_wholeIn 16 = .ok (.ireturn, 1) := by decide +kernel
theorem dX9_wholeIn_17 : decode cX9_wholeIn 17 = .ok (.aload_n 0, 1) := by decide +kernel
theorem dX9_wholeIn_18 : decode cX9_wholeIn 18 = .ok (.getfield 35, 3) := by decide +kernel
theorem dX9_wholeIn_21 : decode cX9_wholeIn 21 = .ok (.getfield 176, 3) := by decide +kernel
theorem dX9_wholeIn_24 : decode cX9_wholeIn 24 = .ok (.iload_n 1, 1) := by decide +kernel
theorem dX9_wholeIn_25 : decode cX9_wholeIn 25 = .ok (.if_icmp .lt 14, 3) := by decide +kernel
theorem dX9_wholeIn_28 : decode cX9_wholeIn 28 = .ok (.aload_n 0, 1) := by decide +kernel
theorem dX9_wholeIn_29 : decode cX9_wholeIn 29 = .ok (.getfield 35, 3) := by decide +kernel
theorem dX9_wholeIn_32 : decode cX9_wholeIn 32 = .ok (.getfield 176, 3) := by decide +kernel
theorem dX9_wholeIn_35 : decode cX9_wholeIn 35 = .ok (.iload_n 2, 1) := by decide +kernel
theorem dX9_wholeIn_36 : decode cX9_wholeIn 36 = .ok (.if_icmp .le 11, 3) := by decide +kernel
theorem dX9_wholeIn_39 : decode cX9_wholeIn 39 = .ok (.aload_n 0, 1) := by decide +kernel
theorem dX9_wholeIn_40 : decode cX9_wholeIn 40 = .ok (.iconst 4, 1) := by decide +kernel
theorem dX9_wholeIn_41 : decode cX9_wholeIn 41 = .ok (.invokevirtual 87, 3) := by decide +kernel
theorem dX9_wholeIn_44 : decode cX9_wholeIn 44 = .ok (.ifCond .eq 7, 3) := by decide +kernel
theorem dX9_wholeIn_47 : decode cX9_wholeIn 47 = .ok (.iconst 1, 1) := by decide +kernel
theorem dX9_wholeIn_48 : decode cX9_wholeIn 48 = .ok (.goto 4, 3) := by decide +kernel
theorem dX9_wholeIn_51 : decode cX9_wholeIn 51 = .ok (.iconst 0, 1) := by decide +kernel
theorem dX9_wholeIn_52 : decode cX9_wholeIn 52 = .ok (.ireturn, 1) := by decide +kernel
set_option maxRecDepth 100000 in
set_option maxHeartbeats 4000000 in
theorem mX9_wholeIn {E : goEv} {l : Launch} {G : goG} {M : goMI} {L : goML} {R : goMR} {v1 : Int32} {v2 : Int32} {r0 : Int32} {r1 : goMI} (hk : goKn E) (hW : goW G R) (h : fX9_wholeIn M v1 v2 = some (r0, r1)) : Met l yX9_wholeIn (goCd yX9_wholeIn cX9_wholeIn 3 (Option.some FieldType.boolean)) (goRoom 1 21 0 0) (goPre E [.ref 67, .int v1, .int v2] G M L R) (goQi E r0 G r1 L R) 0 0 (goSet E) := by
  refine goMet pl_RX9 hk (lv := [some (.ref 67), some (.int v1), some (.int v2)]) rfl (Nat.le_of_ble_eq_true rfl) ?_
  intro X hc hl hR hr hnm
  subst hl
  unfold fX9_wholeIn at h
  refine go_aload0 hc dX9_wholeIn_0 ?_
  refine go_getR hc lk_RX9_35 dX9_wholeIn_1 (sh_67 hW) (rf_67_0 hW) ?_
  refine go_getI hc lk_RX9_81 dX9_wholeIn_4 (sh_1 hW) ?_
  refine go_iconst (v := 2) hc dX9_wholeIn_7 rfl ?_
  refine go_icmp_eq hc 17 dX9_wholeIn_8 rfl (fun c11 => ?_) (fun c11 => ?_)
  · replace h := goIfT h c11
    refine go_aload0 hc dX9_wholeIn_17 ?_
    refine go_getR hc lk_RX9_35 dX9_wholeIn_18 (sh_67 hW) (rf_67_0 hW) ?_
    refine go_getI hc lk_RX9_176 dX9_wholeIn_21 (sh_1 hW) ?_
    refine go_iload1 hc dX9_wholeIn_24 ?_
    refine go_icmp_lt hc 39 dX9_wholeIn_25 rfl (fun c12 => ?_) (fun c12 => ?_)
    · replace h := goIfF h c12
      refine go_aload0 hc dX9_wholeIn_39 ?_
      refine go_iconst (v := 4) hc dX9_wholeIn_40 rfl ?_
      replace h := goB2_h h; obtain ⟨x13, M14, e15, h⟩ := h
      refine go_callVi hc dX9_wholeIn_41 (mX9_fail hk hW e15) ml_RX9_87 yk_X9_fail ⟨wim_X9_fail, wse_X9_fail⟩ hR rfl (sh_67 hW) rfl rfl rfl (Nat.le_of_ble_eq_true rfl) rfl ?_
      refine go_if_eq hc 51 dX9_wholeIn_44 rfl (fun c16 => ?_) (fun c16 => ?_)
      · replace h := goIfT h c16
        refine go_iconst (v := 0) hc dX9_wholeIn_51 rfl ?_
        cases h
        exact go_zret hc dX9_wholeIn_52 hr rfl
      · replace h := goIfF h c16
        refine go_iconst (v := 1) hc dX9_wholeIn_47 rfl ?_
        refine go_goto hc 52 dX9_wholeIn_48 rfl ?_
        cases h
        exact go_zret hc dX9_wholeIn_52 hr rfl
    · replace h := goIfT h c12
      refine go_aload0 hc dX9_wholeIn_28 ?_
      refine go_getR hc lk_RX9_35 dX9_wholeIn_29 (sh_67 hW) (rf_67_0 hW) ?_
      refine go_getI hc lk_RX9_176 dX9_wholeIn_32 (sh_1 hW) ?_
      refine go_iload2 hc dX9_wholeIn_35 ?_
      refine go_icmp_le hc 47 dX9_wholeIn_36 rfl (fun c17 => ?_) (fun c17 => ?_)
      · replace h := goIfF h c17
        refine go_iconst (v := 1) hc dX9_wholeIn_47 rfl ?_
        refine go_goto hc 52 dX9_wholeIn_48 rfl ?_
        cases h
        exact go_zret hc dX9_wholeIn_52 hr rfl
      · replace h := goIfT h c17
        refine go_aload0 hc dX9_wholeIn_39 ?_
        refine go_iconst (v := 4) hc dX9_wholeIn_40 rfl ?_
        replace h := goB2_h h; obtain ⟨x18, M19, e20, h⟩ := h
        refine go_callVi hc dX9_wholeIn_41 (mX9_fail hk hW e20) ml_RX9_87 yk_X9_fail ⟨wim_X9_fail, wse_X9_fail⟩ hR rfl (sh_67 hW) rfl rfl rfl (Nat.le_of_ble_eq_true rfl) rfl ?_
        refine go_if_eq hc 51 dX9_wholeIn_44 rfl (fun c21 => ?_) (fun c21 => ?_)
        · replace h := goIfT h c21
          refine go_iconst (v := 0) hc dX9_wholeIn_51 rfl ?_
          cases h
          exact go_zret hc dX9_wholeIn_52 hr rfl
        · replace h := goIfF h c21
          refine go_iconst (v := 1) hc dX9_wholeIn_47 rfl ?_
          refine go_goto hc 52 dX9_wholeIn_48 rfl ?_
          cases h
          exact go_zret hc dX9_wholeIn_52 hr rfl
  · replace h := goIfF h c11
    refine go_aload0 hc dX9_wholeIn_11 ?_
    refine go_iconst (v := 1) hc dX9_wholeIn_12 rfl ?_
    replace h := goB2_h h; obtain ⟨x22, M23, e24, h⟩ := h
    refine go_callVi hc dX9_wholeIn_13 (mX9_fail hk hW e24) ml_RX9_87 yk_X9_fail ⟨wim_X9_fail, wse_X9_fail⟩ hR rfl (sh_67 hW) rfl rfl rfl (Nat.le_of_ble_eq_true rfl) rfl ?_
    replace h := goBind h; obtain ⟨x25, e26, h⟩ := h
    obtain ⟨ze26, rfl⟩ := goZr_h e26
    cases h
    exact go_zret hc dX9_wholeIn_16 hr (goZ_n ze26)
theorem dX9_hillLine_0 : decode cX9_hillLine 0 = .ok (.aload_n 0, 1) := by decide +kernel
theorem dX9_hillLine_1 : decode cX9_hillLine 1 = .ok (.ldc 167, 2) := by decide +kernel
theorem dX9_hillLine_3 : decode cX9_hillLine 3 = .ok (.invokevirtual 169, 3) := by decide +kernel
theorem dX9_hillLine_6 : decode cX9_hillLine 6 = .ok (.ifCond .eq 13, 3) := by decide +kernel
theorem dX9_hillLine_9 : decode cX9_hillLine 9 = .ok (.aload_n 0, 1) := by decide +kernel
theorem dX9_hillLine_10 : decode cX9_hillLine 10 = .ok (.iconst 2, 1) := by decide +kernel
theorem dX9_hillLine_11 : decode cX9_hillLine 11 = .ok (.bipush 12, 2) := by decide +kernel
theorem dX9_hillLine_13 : decode cX9_hillLine 13 = .ok (.invokevirtual 172, 3) := by decide +kernel
theorem dX9_hillLine_16 : decode cX9_hillLine 16 = .ok (.ifCond .ne 5, 3) := by decide +kernel
theorem dX9_hillLine_19 : decode cX9_hillLine 19 = .ok (.iconst 0, 1) := by decide +kernel
theorem dX9_hillLine_20 : decode cX9_hillLine 20 = .ok (.ireturn, 1) := by decide +kernel
theorem dX9_hillLine_21 : decode cX9_hillLine 21 = .ok (.aload_n 0, 1) := by decide +kernel
theorem dX9_hillLine_22 : decode cX9_hillLine 22 = .ok (.getfield 39, 3) := by decide +kernel
theorem dX9_hillLine_25 : decode cX9_hillLine 25 = .ok (.aload_n 0, 1) := by decide +kernel
theorem dX9_hillLine_26 : decode cX9_hillLine 26 = .ok (.getfield 35, 3) := by decide +kernel
theorem dX9_hillLine_29 : decode cX9_hillLine 29 = .ok (.getfield 176, 3) := by decide +kernel
theorem dX9_hillLine_32 : decode cX9_hillLine 32 = .ok (.putfield 179, 3) := by decide +kernel
theorem dX9_hillLine_35 : decode cX9_hillLine 35 = .ok (.aload_n 0, 1) := by decide +kernel
theorem dX9_hillLine_36 : decode cX9_hillLine 36 = .ok (.getfield 35, 3) := by decide +kernel
theorem dX9_hillLine_39 : decode cX9_hillLine 39 = .ok (.invokevirtual 84, 3) := by decide +kernel
theorem dX9_hillLine_42 : decode cX9_hillLine 42 = .ok (.aload_n 0, 1) := by decide +kernel
theorem dX9_hillLine_43 : decode cX9_hillLine 43 = .ok (.ldc 181, 2) := by decide +kernel
theorem dX9_hillLine_45 : decode cX9_hillLine 45 = .ok (.invokevirtual 169, 3) := by decide +kernel
theorem dX9_hillLine_48 : decode cX9_hillLine 48 = .ok (.ifCond .eq 12, 3) := by decide +kernel
theorem dX9_hillLine_51 : decode cX9_hillLine 51 = .ok (.aload_n 0, 1) := by decide +kernel
theorem dX9_hillLine_52 : decode cX9_hillLine 52 = .ok (.iconst 1, 1) := by decide +kernel
theorem dX9_hillLine_53 : decode cX9_hillLine 53 = .ok (.iconst 4, 1) := by decide +kernel
theorem dX9_hillLine_54 : decode cX9_hillLine 54 = .ok (.invokevirtual 172, 3) := by decide +kernel
theorem dX9_hillLine_57 : decode cX9_hillLine 57 = .ok (.ifCond .ne 5, 3) := by decide +kernel
theorem dX9_hillLine_60 : decode cX9_hillLine 60 = .ok (.iconst 0, 1) := by decide +kernel
theorem dX9_hillLine_61 : decode cX9_hillLine 61 = .ok (.ireturn, 1) := by decide +kernel
theorem dX9_hillLine_62 : decode cX9_hillLine 62 = .ok (.aload_n 0, 1) := by decide +kernel
theorem dX9_hillLine_63 : decode cX9_hillLine 63 = .ok (.getfield 39, 3) := by decide +kernel
theorem dX9_hillLine_66 : decode cX9_hillLine 66 = .ok (.aload_n 0, 1) := by decide +kernel
theorem dX9_hillLine_67 : decode cX9_hillLine 67 = .ok (.getfield 35, 3) := by decide +kernel
theorem dX9_hillLine_70 : decode cX9_hillLine 70 = .ok (.getfield 176, 3) := by decide +kernel
theorem dX9_hillLine_73 : decode cX9_hillLine 73 = .ok (.putfield 183, 3) := by decide +kernel
theorem dX9_hillLine_76 : decode cX9_hillLine 76 = .ok (.aload_n 0, 1) := by decide +kernel
theorem dX9_hillLine_77 : decode cX9_hillLine 77 = .ok (.getfield 35, 3) := by decide +kernel
theorem dX9_hillLine_80 : decode cX9_hillLine 80 = .ok (.invokevirtual 84, 3) := by decide +kernel
theorem dX9_hillLine_83 : decode cX9_hillLine 83 = .ok (.iconst 1, 1) := by decide +kernel
theorem dX9_hillLine_84 : decode cX9_hillLine 84 = .ok (.ireturn, 1) := by decide +kernel
set_option maxRecDepth 100000 in
set_option maxHeartbeats 4000000 in
theorem mX9_hillLine {E : goEv} {l : Launch} {G : goG} {N : Nat} {M : goMI} {L : goML} {R : goMR} {r0 : Int32} {r1 : goMI} {r2 : goML} (hk : goKn E) (hW : goW G R) (h : fX9_hillLine N M L R = some (r0, r1, r2)) : Met l yX9_hillLine (goCd yX9_hillLine cX9_hillLine 1 (Option.some FieldType.boolean)) (goRoom 8 171 0 0) (goPre E [.ref 67] G M L R) (goQi E r0 G r1 r2 R) 0 0 (goSet E) := by
  refine goMet pl_RX9 hk (lv := [some (.ref 67)]) rfl (Nat.le_of_ble_eq_true rfl) ?_
  intro X hc hl hR hr hnm
  subst hl
  unfold fX9_hillLine at h
  refine go_aload0 hc dX9_hillLine_0 ?_
  refine go_ldcS hc (i := 0) (q := 1000100) (Nat.le_of_ble_eq_true rfl) rfl rfl rfl dX9_hillLine_1 ?_
  replace h := goB3_h h; obtain ⟨x11, M12, L13, e14, h⟩ := h
  refine go_callVi hc dX9_hillLine_3 (mX9_word hk hW e14) ml_RX9_169 yk_X9_word ⟨wim_X9_word, wse_X9_word⟩ hR rfl (sh_67 hW) rfl rfl rfl (Nat.le_of_ble_eq_true rfl) rfl ?_
  refine go_if_eq hc 19 dX9_hillLine_6 rfl (fun c15 => ?_) (fun c15 => ?_)
  · replace h := goIfT h c15
    refine go_iconst (v := 0) hc dX9_hillLine_19 rfl ?_
    cases h
    exact go_zret hc dX9_hillLine_20 hr rfl
  · replace h := goIfF h c15
    refine go_aload0 hc dX9_hillLine_9 ?_
    refine go_iconst (v := 2) hc dX9_hillLine_10 rfl ?_
    refine go_bipush (v := 12) hc dX9_hillLine_11 rfl ?_
    replace h := goB2_h h; obtain ⟨x16, M17, e18, h⟩ := h
    refine go_callVi hc dX9_hillLine_13 (mX9_wholeIn hk hW e18) ml_RX9_172 yk_X9_wholeIn ⟨wim_X9_wholeIn, wse_X9_wholeIn⟩ hR rfl (sh_67 hW) rfl rfl rfl (Nat.le_of_ble_eq_true rfl) rfl ?_
    refine go_if_ne hc 21 dX9_hillLine_16 rfl (fun c19 => ?_) (fun c19 => ?_)
    · replace h := goIfF h c19
      refine go_aload0 hc dX9_hillLine_21 ?_
      refine go_getR hc lk_RX9_39 dX9_hillLine_22 (sh_67 hW) (rm_67_7 hW) ?_
      refine go_aload0 hc dX9_hillLine_25 ?_
      refine go_getR hc lk_RX9_35 dX9_hillLine_26 (sh_67 hW) (rf_67_0 hW) ?_
      refine go_getI hc lk_RX9_176 dX9_hillLine_29 (sh_1 hW) ?_
      replace h := goNm_x h; obtain ⟨M20, e21, h⟩ := h
      refine go_ptI hc lk_RX9_179 dX9_hillLine_32 (shHill_0 hW (mm_67_7 hW)) e21 ?_
      refine go_aload0 hc dX9_hillLine_35 ?_
      refine go_getR hc lk_RX9_35 dX9_hillLine_36 (sh_67 hW) (rf_67_0 hW) ?_
      replace h := goB2_h h; obtain ⟨M22, L23, e24, h⟩ := h
      refine go_callVv hc dX9_hillLine_39 (mX11_advance hk hW e24) ml_RX9_84 yk_X11_advance ⟨wim_X11_advance, wse_X11_advance⟩ hR rfl (sh_1 hW) rfl rfl rfl (Nat.le_of_ble_eq_true rfl) rfl ?_
      refine go_aload0 hc dX9_hillLine_42 ?_
      refine go_ldcS hc (i := 1) (q := 1000101) (Nat.le_of_ble_eq_true rfl) rfl rfl rfl dX9_hillLine_43 ?_
      replace h := goB3_h h; obtain ⟨x25, M26, L27, e28, h⟩ := h
      refine go_callVi hc dX9_hillLine_45 (mX9_word hk hW e28) ml_RX9_169 yk_X9_word ⟨wim_X9_word, wse_X9_word⟩ hR rfl (sh_67 hW) rfl rfl rfl (Nat.le_of_ble_eq_true rfl) rfl ?_
      refine go_if_eq hc 60 dX9_hillLine_48 rfl (fun c29 => ?_) (fun c29 => ?_)
      · replace h := goIfT h c29
        refine go_iconst (v := 0) hc dX9_hillLine_60 rfl ?_
        cases h
        exact go_zret hc dX9_hillLine_61 hr rfl
      · replace h := goIfF h c29
        refine go_aload0 hc dX9_hillLine_51 ?_
        refine go_iconst (v := 1) hc dX9_hillLine_52 rfl ?_
        refine go_iconst (v := 4) hc dX9_hillLine_53 rfl ?_
        replace h := goB2_h h; obtain ⟨x30, M31, e32, h⟩ := h
        refine go_callVi hc dX9_hillLine_54 (mX9_wholeIn hk hW e32) ml_RX9_172 yk_X9_wholeIn ⟨wim_X9_wholeIn, wse_X9_wholeIn⟩ hR rfl (sh_67 hW) rfl rfl rfl (Nat.le_of_ble_eq_true rfl) rfl ?_
        refine go_if_ne hc 62 dX9_hillLine_57 rfl (fun c33 => ?_) (fun c33 => ?_)
        · replace h := goIfF h c33
          refine go_aload0 hc dX9_hillLine_62 ?_
          refine go_getR hc lk_RX9_39 dX9_hillLine_63 (sh_67 hW) (rm_67_7 hW) ?_
          refine go_aload0 hc dX9_hillLine_66 ?_
          refine go_getR hc lk_RX9_35 dX9_hillLine_67 (sh_67 hW) (rf_67_0 hW) ?_
          refine go_getI hc lk_RX9_176 dX9_hillLine_70 (sh_1 hW) ?_
          replace h := goNm_x h; obtain ⟨M34, e35, h⟩ := h
          refine go_ptI hc lk_RX9_183 dX9_hillLine_73 (shHill_0 hW (mm_67_7 hW)) e35 ?_
          refine go_aload0 hc dX9_hillLine_76 ?_
          refine go_getR hc lk_RX9_35 dX9_hillLine_77 (sh_67 hW) (rf_67_0 hW) ?_
          replace h := goB2_h h; obtain ⟨M36, L37, e38, h⟩ := h
          refine go_callVv hc dX9_hillLine_80 (mX11_advance hk hW e38) ml_RX9_84 yk_X11_advance ⟨wim_X11_advance, wse_X11_advance⟩ hR rfl (sh_1 hW) rfl rfl rfl (Nat.le_of_ble_eq_true rfl) rfl ?_
          refine go_iconst (v := 1) hc dX9_hillLine_83 rfl ?_
          cases h
          exact go_zret hc dX9_hillLine_84 hr rfl
        · replace h := goIfT h c33
          refine go_iconst (v := 0) hc dX9_hillLine_60 rfl ?_
          cases h
          exact go_zret hc dX9_hillLine_61 hr rfl
    · replace h := goIfT h c19
      refine go_iconst (v := 0) hc dX9_hillLine_19 rfl ?_
      cases h
      exact go_zret hc dX9_hillLine_20 hr rfl
theorem dX9_find_0 : decode cX9_find 0 = .ok (.iconst 0, 1) := by decide +kernel
theorem dX9_find_1 : decode cX9_find 1 = .ok (.istore_n 1, 1) := by decide +kernel
theorem dX9_find_2 : decode cX9_find 2 = .ok (.iload_n 1, 1) := by decide +kernel
theorem dX9_find_3 : decode cX9_find 3 = .ok (.aload_n 0, 1) := by decide +kernel
theorem dX9_find_4 : decode cX9_find 4 = .ok (.getfield 60, 3) := by decide +kernel
theorem dX9_find_7 : decode cX9_find 7 = .ok (.if_icmp .ge 28, 3) := by decide +kernel
theorem dX9_find_10 : decode cX9_find 10 = .ok (.aload_n 0, 1) := by decide +kernel
theorem dX9_find_11 : decode cX9_find 11 = .ok (.getfield 11, 3) := by decide +kernel
theorem dX9_find_14 : decode cX9_find 14 = .ok (.iload_n 1, 1) := by decide +kernel
theorem dX9_find_15 : decode cX9_find 15 = .ok (.laload, 1) := by decide +kernel
theorem dX9_find_16 : decode cX9_find 16 = .ok (.aload_n 0, 1) := by decide +kernel
theorem dX9_find_17 : decode cX9_find 17 = .ok (.getfield 35, 3) := by decide +kernel
theorem dX9_find_20 : decode cX9_find 20 = .ok (.getfield 335, 3) := by decide +kernel
theorem dX9_find_23 : decode cX9_find 23 = .ok (.lcmp, 1) := by decide +kernel
theorem dX9_find_24 : decode cX9_find 24 = .ok (.ifCond .ne 5, 3) := by decide +kernel
theorem dX9_find_27 : decode cX9_find 27 = .ok (.iload_n 1, 1) := by decide +kernel
theorem dX9_find_28 : decode cX9_find 28 = .ok (.ireturn, 1) := by decide +kernel
theorem dX9_find_29 : decode cX9_find 29 = .ok (.iinc 1 1, 3) := by decide +kernel
theorem dX9_find_32 : decode cX9_find 32 = .ok (.goto (-30), 3) := by decide +kernel
theorem dX9_find_35 : decode cX9_find 35 = .ok (.iconst (-1), 1) := by decide +kernel
theorem dX9_find_36 : decode cX9_find 36 = .ok (.ireturn, 1) := by decide +kernel
set_option maxRecDepth 100000 in
set_option maxHeartbeats 4000000 in
theorem mX9_find_L2 {E : goEv} {X : goX} {G : goG} {M : goMI} {L : goML} {R : goMR} {r0 : Int32} (hc : goCx E X cX9_find RX9 2) (hk : goKn E) (hR : X.2.2.2.1 = goRoom 0 0 0 0) (hr : X.2.2.2.2.2.2.2.2.1.sig.returnType = (Option.some FieldType.int)) (hW : goW G R) : ∀ (n : Nat) (v1 : Int32), lX9_find_2 M L n v1 = some r0 → goA E X G 0 0 (goMQ X E (goQi E r0 G M L R) 0 0) 2 [some (.ref 67), some (.int v1)] [] M L R := by
  intro n
  induction n with
  | zero => intro v1 h; exact nomatch h
  | succ n ih =>
    intro v1 h
    rw [lX9_find_2] at h
    refine go_iload1 hc dX9_find_2 ?_
    refine go_aload0 hc dX9_find_3 ?_
    refine go_getI hc lk_RX9_60 dX9_find_4 (sh_67 hW) ?_
    refine go_icmp_ge hc 35 dX9_find_7 rfl (fun c11 => ?_) (fun c11 => ?_)
    · replace h := goIfF h c11
      refine go_iconst (v := (-1)) hc dX9_find_35 rfl ?_
      cases h
      exact go_iret hc dX9_find_36 hr
    · replace h := goIfT h c11
      refine go_aload0 hc dX9_find_10 ?_
      refine go_getR hc lk_RX9_11 dX9_find_11 (sh_67 hW) (rf_67_1 hW) ?_
      refine go_iload1 hc dX9_find_14 ?_
      replace h := goBind h; obtain ⟨x12, e13, h⟩ := h
      refine go_lald hc dX9_find_15 (sh_68 hW) e13 ?_
      refine go_aload0 hc dX9_find_16 ?_
      refine go_getR hc lk_RX9_35 dX9_find_17 (sh_67 hW) (rf_67_0 hW) ?_
      refine go_getL hc lk_RX9_335 dX9_find_20 (sh_1 hW) ?_
      refine go_lcmp hc dX9_find_23 ?_
      refine go_if_ne hc 29 dX9_find_24 rfl (fun c14 => ?_) (fun c14 => ?_)
      · replace h := goIfF h c14
        refine go_iinc1 (v := (v1 + 1)) hc dX9_find_29 rfl ?_
        refine go_goto hc 2 dX9_find_32 rfl ?_
        exact ih _ h
      · replace h := goIfT h c14
        refine go_iload1 hc dX9_find_27 ?_
        cases h
        exact go_iret hc dX9_find_28 hr
set_option maxRecDepth 100000 in
set_option maxHeartbeats 4000000 in
theorem mX9_find {E : goEv} {l : Launch} {G : goG} {N : Nat} {M : goMI} {L : goML} {R : goMR} {r0 : Int32} (hk : goKn E) (hW : goW G R) (h : fX9_find N M L = some r0) : Met l yX9_find (goCd yX9_find cX9_find 2 (Option.some FieldType.int)) (goRoom 0 0 0 0) (goPre E [.ref 67] G M L R) (goQi E r0 G M L R) 0 0 (goSet E) := by
  refine goMet pl_RX9 hk (lv := [some (.ref 67), none]) rfl (Nat.le_of_ble_eq_true rfl) ?_
  intro X hc hl hR hr hnm
  subst hl
  unfold fX9_find at h
  refine go_iconst (v := 0) hc dX9_find_0 rfl ?_
  refine go_istore1 hc dX9_find_1 ?_
  exact mX9_find_L2 hc hk hR hr hW _ _ h
theorem dX9_freshName_0 : decode cX9_freshName 0 = .ok (.aload_n 0, 1) := by decide +kernel
theorem dX9_freshName_1 : decode cX9_freshName 1 = .ok (.getfield 35, 3) := by decide +kernel
theorem dX9_freshName_4 : decode cX9_freshName 4 = .ok (.getfield 81, 3) := by decide +kernel
theorem dX9_freshName_7 : decode cX9_freshName 7 = .ok (.iconst 1, 1) := by decide +kernel
theorem dX9_freshName_8 : decode cX9_freshName 8 = .ok (.if_icmp .ne 13, 3) := by decide +kernel
theorem dX9_freshName_11 : decode cX9_freshName 11 = .ok (.aload_n 0, 1) := by decide +kernel
theorem dX9_freshName_12 : decode cX9_freshName 12 = .ok (.invokevirtual 97, 3) := by decide +kernel
theorem dX9_freshName_15 : decode cX9_freshName 15 = .ok (.getstatic 339, 3) := by decide +kernel
theorem dX9_freshName_18 : decode cX9_freshName 18 = .ok (.if_acmp .eq 9, 3) := by decide +kernel
theorem dX9_freshName_21 : decode cX9_freshName 21 = .ok (.aload_n 0, 1) := by decide +kernel
theorem dX9_freshName_22 : decode cX9_freshName 22 = .ok (.iconst 1, 1) := by decide +kernel
theorem dX9_freshName_23 : decode cX9_freshName 23 = .ok (.invokevirtual 87, 3) := by decide +kernel
theorem dX9_freshName_26 : decode cX9_freshName 26 = .ok (.ireturn, 1) := by decide +kernel
theorem dX9_freshName_27 : decode cX9_freshName 27 = .ok (.aload_n 0, 1) := by decide +kernel
theorem dX9_freshName_28 : decode cX9_freshName 28 = .ok (.invokevirtual 342, 3) := by decide +kernel
theorem dX9_freshName_31 : decode cX9_freshName 31 = .ok (.ifCond .lt 9, 3) := by decide +kernel
theorem dX9_freshName_34 : decode cX9_freshName 34 = .ok (.aload_n 0, 1) := by decide +kernel
theorem dX9_freshName_35 : decode cX9_freshName 35 = .ok (.iconst 3, 1) := by decide +kernel
theorem dX9_freshName_36 : decode cX9_freshName 36 = .ok (.invokevirtual 87, 3) := by decide +kernel
theorem dX9_freshName_39 : decode cX9_freshName 39 = .ok (.ireturn, 1) := by decide +kernel
theorem dX9_freshName_40 : decode cX9_freshName 40 = .ok (.aload_n 0, 1) := by decide +kernel
theorem dX9_freshName_41 : decode cX9_freshName 41 = .ok (.aload_n 0, 1) := by decide +kernel
theorem dX9_freshName_42 : decode cX9_freshName 42 = .ok (.getfield 35, 3) := by decide +kernel
theorem dX9_freshName_45 : decode cX9_freshName 45 = .ok (.getfield 335, 3) := by decide +kernel
theorem dX9_freshName_48 : decode cX9_freshName 48 = .ok (.putfield 345, 3) := by decide +kernel
theorem dX9_freshName_51 : decode cX9_freshName 51 = .ok (.aload_n 0, 1) := by decide +kernel
theorem dX9_freshName_52 : decode cX9_freshName 52 = .ok (.getfield 35, 3) := by decide +kernel
theorem dX9_freshName_55 : decode cX9_freshName 55 = .ok (.invokevirtual 84, 3) := by decide +kernel
theorem dX9_freshName_58 : decode cX9_freshName 58 = .ok (.iconst 1, 1) := by decide +kernel
theorem dX9_freshName_59 : decode cX9_freshName 59 = .ok (.ireturn, 1) := by decide +kernel
set_option maxRecDepth 100000 in
set_option maxHeartbeats 4000000 in
theorem mX9_freshName {E : goEv} {l : Launch} {G : goG} {N : Nat} {M : goMI} {L : goML} {R : goMR} {r0 : Int32} {r1 : goMI} {r2 : goML} (hk : goKn E) (hW : goW G R) (h : fX9_freshName N M L = some (r0, r1, r2)) : Met l yX9_freshName (goCd yX9_freshName cX9_freshName 1 (Option.some FieldType.boolean)) (goRoom 3 61 0 0) (goPre E [.ref 67] G M L R) (goQi E r0 G r1 r2 R) 0 0 (goSet E) := by
  refine goMet pl_RX9 hk (lv := [some (.ref 67)]) rfl (Nat.le_of_ble_eq_true rfl) ?_
  intro X hc hl hR hr hnm
  subst hl
  unfold fX9_freshName at h
  refine go_aload0 hc dX9_freshName_0 ?_
  refine go_getR hc lk_RX9_35 dX9_freshName_1 (sh_67 hW) (rf_67_0 hW) ?_
  refine go_getI hc lk_RX9_81 dX9_freshName_4 (sh_1 hW) ?_
  refine go_iconst (v := 1) hc dX9_freshName_7 rfl ?_
  refine go_icmp_ne hc 21 dX9_freshName_8 rfl (fun c11 => ?_) (fun c11 => ?_)
  · replace h := goIfF h c11
    refine go_aload0 hc dX9_freshName_21 ?_
    refine go_iconst (v := 1) hc dX9_freshName_22 rfl ?_
    replace h := goB2_h h; obtain ⟨x12, M13, e14, h⟩ := h
    refine go_callVi hc dX9_freshName_23 (mX9_fail hk hW e14) ml_RX9_87 yk_X9_fail ⟨wim_X9_fail, wse_X9_fail⟩ hR rfl (sh_67 hW) rfl rfl rfl (Nat.le_of_ble_eq_true rfl) rfl ?_
    replace h := goBind h; obtain ⟨x15, e16, h⟩ := h
    obtain ⟨ze16, rfl⟩ := goZr_h e16
    cases h
    exact go_zret hc dX9_freshName_26 hr (goZ_n ze16)
  · replace h := goIfT h c11
    refine go_aload0 hc dX9_freshName_11 ?_
    replace h := goBind h; obtain ⟨x17, e18, h⟩ := h
    refine go_callVr hc dX9_freshName_12 (mX9_reservedHere hk hW e18) ml_RX9_97 yk_X9_reservedHere ⟨wim_X9_reservedHere, wse_X9_reservedHere⟩ hR rfl (sh_67 hW) rfl rfl rfl (Nat.le_of_ble_eq_true rfl) rfl ?_
    refine go_getsE_OTHER hc dX9_freshName_15 ?_
    replace h := goBind h; obtain ⟨_, e20, h⟩ := h
    refine go_acmp_eq hc 27 dX9_freshName_18 rfl e20 (v := ()) rfl (fun c19 => ?_) (fun c19 => ?_)
    · replace h := goIfT h c19
      refine go_aload0 hc dX9_freshName_27 ?_
      replace h := goBind h; obtain ⟨x21, e22, h⟩ := h
      refine go_callVi hc dX9_freshName_28 (mX9_find hk hW e22) ml_RX9_342 yk_X9_find ⟨wim_X9_find, wse_X9_find⟩ hR rfl (sh_67 hW) rfl rfl rfl (Nat.le_of_ble_eq_true rfl) rfl ?_
      refine go_if_lt hc 40 dX9_freshName_31 rfl (fun c23 => ?_) (fun c23 => ?_)
      · replace h := goIfF h c23
        refine go_aload0 hc dX9_freshName_40 ?_
        refine go_aload0 hc dX9_freshName_41 ?_
        refine go_getR hc lk_RX9_35 dX9_freshName_42 (sh_67 hW) (rf_67_0 hW) ?_
        refine go_getL hc lk_RX9_335 dX9_freshName_45 (sh_1 hW) ?_
        replace h := goNm_x h; obtain ⟨L24, e25, h⟩ := h
        refine go_ptL hc lk_RX9_345 dX9_freshName_48 (sh_67 hW) e25 ?_
        refine go_aload0 hc dX9_freshName_51 ?_
        refine go_getR hc lk_RX9_35 dX9_freshName_52 (sh_67 hW) (rf_67_0 hW) ?_
        replace h := goB2_h h; obtain ⟨M26, L27, e28, h⟩ := h
        refine go_callVv hc dX9_freshName_55 (mX11_advance hk hW e28) ml_RX9_84 yk_X11_advance ⟨wim_X11_advance, wse_X11_advance⟩ hR rfl (sh_1 hW) rfl rfl rfl (Nat.le_of_ble_eq_true rfl) rfl ?_
        refine go_iconst (v := 1) hc dX9_freshName_58 rfl ?_
        cases h
        exact go_zret hc dX9_freshName_59 hr rfl
      · replace h := goIfT h c23
        refine go_aload0 hc dX9_freshName_34 ?_
        refine go_iconst (v := 3) hc dX9_freshName_35 rfl ?_
        replace h := goB2_h h; obtain ⟨x29, M30, e31, h⟩ := h
        refine go_callVi hc dX9_freshName_36 (mX9_fail hk hW e31) ml_RX9_87 yk_X9_fail ⟨wim_X9_fail, wse_X9_fail⟩ hR rfl (sh_67 hW) rfl rfl rfl (Nat.le_of_ble_eq_true rfl) rfl ?_
        replace h := goBind h; obtain ⟨x32, e33, h⟩ := h
        obtain ⟨ze33, rfl⟩ := goZr_h e33
        cases h
        exact go_zret hc dX9_freshName_39 hr (goZ_n ze33)
    · replace h := goIfF h c19
      refine go_aload0 hc dX9_freshName_21 ?_
      refine go_iconst (v := 1) hc dX9_freshName_22 rfl ?_
      replace h := goB2_h h; obtain ⟨x34, M35, e36, h⟩ := h
      refine go_callVi hc dX9_freshName_23 (mX9_fail hk hW e36) ml_RX9_87 yk_X9_fail ⟨wim_X9_fail, wse_X9_fail⟩ hR rfl (sh_67 hW) rfl rfl rfl (Nat.le_of_ble_eq_true rfl) rfl ?_
      replace h := goBind h; obtain ⟨x37, e38, h⟩ := h
      obtain ⟨ze38, rfl⟩ := goZr_h e38
      cases h
      exact go_zret hc dX9_freshName_26 hr (goZ_n ze38)
theorem dX9_partIn_0 : decode cX9_partIn 0 = .ok (.iload_n 1, 1) := by decide +kernel
theorem dX9_partIn_1 : decode cX9_partIn 1 = .ok (.ifCond .le 27, 3) := by decide +kernel
theorem dX9_partIn_4 : decode cX9_partIn 4 = .ok (.aload_n 0, 1) := by decide +kernel
theorem dX9_partIn_5 : decode cX9_partIn 5 = .ok (.getfield 35, 3) := by decide +kernel
theorem dX9_partIn_8 : decode cX9_partIn 8 = .ok (.getfield 81, 3) := by decide +kernel
theorem dX9_partIn_11 : decode cX9_partIn 11 = .ok (.iconst 4, 1) := by decide +kernel
theorem dX9_partIn_12 : decode cX9_partIn 12 = .ok (.if_icmp .eq 9, 3) := by decide +kernel
theorem dX9_partIn_15 : decode cX9_partIn 15 = .ok (.aload_n 0, 1) := by decide +kernel
theorem dX9_partIn_16 : decode cX9_partIn 16 = .ok (.iconst 1, 1) := by decide +kernel
theorem dX9_partIn_17 : decode cX9_partIn 17 = .ok (.invokevirtual 87, 3) := by decide +kernel
theorem dX9_partIn_20 : decode cX9_partIn 20 = .ok (.ireturn, 1) := by decide +kernel
theorem dX9_partIn_21 : decode cX9_partIn 21 = .ok (.aload_n 0, 1) := by decide +kernel
theorem dX9_partIn_22 : decode cX9_partIn 22 = .ok (.getfield 35, 3) := by decide +kernel
theorem dX9_partIn_25 : decode cX9_partIn 25 = .ok (.invokevirtual 84, 3) := by decide +kernel
theorem dX9_partIn_28 : decode cX9_partIn 28 = .ok (.aload_n 0, 1) := by decide +kernel
theorem dX9_partIn_29 : decode cX9_partIn 29 = .ok (.iconst 0, 1) := by decide +kernel
theorem dX9_partIn_30 : decode cX9_partIn 30 = .ok (.iload_n 2, 1) := by decide +kernel
theorem dX9_partIn_31 : decode cX9_partIn 31 = .ok (.invokevirtual 172, 3) := by decide +kernel
theorem dX9_partIn_34 : decode cX9_partIn 34 = .ok (.ireturn, 1) := by decide +kernel
set_option maxRecDepth 100000 in
set_option maxHeartbeats 4000000 in
theorem mX9_partIn {E : goEv} {l : Launch} {G : goG} {N : Nat} {M : goMI} {L : goML} {R : goMR} {v1 : Int32} {v2 : Int32} {r0 : Int32} {r1 : goMI} {r2 : goML} (hk : goKn E) (hW : goW G R) (h : fX9_partIn N M L v1 v2 = some (r0, r1, r2)) : Met l yX9_partIn (goCd yX9_partIn cX9_partIn 3 (Option.some FieldType.boolean)) (goRoom 3 61 0 0) (goPre E [.ref 67, .int v1, .int v2] G M L R) (goQi E r0 G r1 r2 R) 0 0 (goSet E) := by
  refine goMet pl_RX9 hk (lv := [some (.ref 67), some (.int v1), some (.int v2)]) rfl (Nat.le_of_ble_eq_true rfl) ?_
  intro X hc hl hR hr hnm
  subst hl
  unfold fX9_partIn at h
  refine go_iload1 hc dX9_partIn_0 ?_
  refine go_if_le hc 28 dX9_partIn_1 rfl (fun c11 => ?_) (fun c11 => ?_)
  · replace h := goIfF h c11
    refine go_aload0 hc dX9_partIn_28 ?_
    refine go_iconst (v := 0) hc dX9_partIn_29 rfl ?_
    refine go_iload2 hc dX9_partIn_30 ?_
    replace h := goB2_h h; obtain ⟨x12, M13, e14, h⟩ := h
    refine go_callVi hc dX9_partIn_31 (mX9_wholeIn hk hW e14) ml_RX9_172 yk_X9_wholeIn ⟨wim_X9_wholeIn, wse_X9_wholeIn⟩ hR rfl (sh_67 hW) rfl rfl rfl (Nat.le_of_ble_eq_true rfl) rfl ?_
    replace h := goBind h; obtain ⟨x15, e16, h⟩ := h
    obtain ⟨ze16, rfl⟩ := goZr_h e16
    cases h
    exact go_zret hc dX9_partIn_34 hr (goZ_n ze16)
  · replace h := goIfT h c11
    refine go_aload0 hc dX9_partIn_4 ?_
    refine go_getR hc lk_RX9_35 dX9_partIn_5 (sh_67 hW) (rf_67_0 hW) ?_
    refine go_getI hc lk_RX9_81 dX9_partIn_8 (sh_1 hW) ?_
    refine go_iconst (v := 4) hc dX9_partIn_11 rfl ?_
    refine go_icmp_eq hc 21 dX9_partIn_12 rfl (fun c17 => ?_) (fun c17 => ?_)
    · replace h := goIfT h c17
      refine go_aload0 hc dX9_partIn_21 ?_
      refine go_getR hc lk_RX9_35 dX9_partIn_22 (sh_67 hW) (rf_67_0 hW) ?_
      replace h := goB2_h h; obtain ⟨M18, L19, e20, h⟩ := h
      refine go_callVv hc dX9_partIn_25 (mX11_advance hk hW e20) ml_RX9_84 yk_X11_advance ⟨wim_X11_advance, wse_X11_advance⟩ hR rfl (sh_1 hW) rfl rfl rfl (Nat.le_of_ble_eq_true rfl) rfl ?_
      refine go_aload0 hc dX9_partIn_28 ?_
      refine go_iconst (v := 0) hc dX9_partIn_29 rfl ?_
      refine go_iload2 hc dX9_partIn_30 ?_
      replace h := goB2_h h; obtain ⟨x21, M22, e23, h⟩ := h
      refine go_callVi hc dX9_partIn_31 (mX9_wholeIn hk hW e23) ml_RX9_172 yk_X9_wholeIn ⟨wim_X9_wholeIn, wse_X9_wholeIn⟩ hR rfl (sh_67 hW) rfl rfl rfl (Nat.le_of_ble_eq_true rfl) rfl ?_
      replace h := goBind h; obtain ⟨x24, e25, h⟩ := h
      obtain ⟨ze25, rfl⟩ := goZr_h e25
      cases h
      exact go_zret hc dX9_partIn_34 hr (goZ_n ze25)
    · replace h := goIfF h c17
      refine go_aload0 hc dX9_partIn_15 ?_
      refine go_iconst (v := 1) hc dX9_partIn_16 rfl ?_
      replace h := goB2_h h; obtain ⟨x26, M27, e28, h⟩ := h
      refine go_callVi hc dX9_partIn_17 (mX9_fail hk hW e28) ml_RX9_87 yk_X9_fail ⟨wim_X9_fail, wse_X9_fail⟩ hR rfl (sh_67 hW) rfl rfl rfl (Nat.le_of_ble_eq_true rfl) rfl ?_
      replace h := goBind h; obtain ⟨x29, e30, h⟩ := h
      obtain ⟨ze30, rfl⟩ := goZr_h e30
      cases h
      exact go_zret hc dX9_partIn_20 hr (goZ_n ze30)
theorem dX9_tell_0 : decode cX9_tell 0 = .ok (.aload_n 0, 1) := by decide +kernel
theorem dX9_tell_1 : decode cX9_tell 1 = .ok (.getfield 60, 3) := by decide +kernel
theorem dX9_tell_4 : decode cX9_tell 4 = .ok (.bipush 32, 2) := by decide +kernel
theorem dX9_tell_6 : decode cX9_tell 6 = .ok (.if_icmp .ge 46, 3) := by decide +kernel
theorem dX9_tell_9 : decode cX9_tell 9 = .ok (.aload_n 0, 1) := by decide +kernel
theorem dX9_tell_10 : decode cX9_tell 10 = .ok (.getfield 11, 3) := by decide +kernel
theorem dX9_tell_13 : decode cX9_tell 13 = .ok (.aload_n 0, 1) := by decide +kernel
theorem dX9_tell_14 : decode cX9_tell 14 = .ok (.getfield 60, 3) := by decide +kernel
theorem dX9_tell_17 : decode cX9_tell 17 = .ok (.aload_n 0, 1) := by decide +kernel
theorem dX9_tell_18 : decode cX9_tell 18 = .ok (.getfield 345, 3) := by decide +kernel
theorem dX9_tell_21 : decode cX9_tell 21 = .ok (.lastore, 1) := by decide +kernel
theorem dX9_tell_22 : decode cX9_tell 22 = .ok (.aload_n 0, 1) := by decide +kernel
theorem dX9_tell_23 : decode cX9_tell 23 = .ok (.getfield 15, 3) := by decide +kernel
theorem dX9_tell_26 : decode cX9_tell 26 = .ok (.aload_n 0, 1) := by decide +kernel
theorem dX9_tell_27 : decode cX9_tell 27 = .ok (.getfield 60, 3) := by decide +kernel
theorem dX9_tell_30 : decode cX9_tell 30 = .ok (.iload_n 1, 1) := by decide +kernel
theorem dX9_tell_31 : decode cX9_tell 31 = .ok (.iastore, 1) := by decide +kernel
theorem dX9_tell_32 : decode cX9_tell 32 = .ok (.aload_n 0, 1) := by decide +kernel
theorem dX9_tell_33 : decode cX9_tell 33 = .ok (.getfield 19, 3) := by decide +kernel
theorem dX9_tell_36 : decode cX9_tell 36 = .ok (.aload_n 0, 1) := by decide +kernel
theorem dX9_tell_37 : decode cX9_tell 37 = .ok (.getfield 60, 3) := by decide +kernel
theorem dX9_tell_40 : decode cX9_tell 40 = .ok (.iload_n 2, 1) := by decide +kernel
theorem dX9_tell_41 : decode cX9_tell 41 = .ok (.iastore, 1) := by decide +kernel
theorem dX9_tell_42 : decode cX9_tell 42 = .ok (.aload_n 0, 1) := by decide +kernel
theorem dX9_tell_43 : decode cX9_tell 43 = .ok (.dup, 1) := by decide +kernel
theorem dX9_tell_44 : decode cX9_tell 44 = .ok (.getfield 60, 3) := by decide +kernel
theorem dX9_tell_47 : decode cX9_tell 47 = .ok (.iconst 1, 1) := by decide +kernel
theorem dX9_tell_48 : decode cX9_tell 48 = .ok (.iadd, 1) := by decide +kernel
theorem dX9_tell_49 : decode cX9_tell 49 = .ok (.putfield 60, 3) := by decide +kernel
theorem dX9_tell_52 : decode cX9_tell 52 = .ok (.iconst 1, 1) := by decide +kernel
theorem dX9_tell_53 : decode cX9_tell 53 = .ok (.ireturn, 1) := by decide +kernel
set_option maxRecDepth 100000 in
set_option maxHeartbeats 4000000 in
theorem mX9_tell {E : goEv} {l : Launch} {G : goG} {M : goMI} {L : goML} {R : goMR} {v1 : Int32} {v2 : Int32} {r0 : Int32} {r1 : goMI} {r2 : goML} (hk : goKn E) (hW : goW G R) (h : fX9_tell M L v1 v2 = some (r0, r1, r2)) : Met l yX9_tell (goCd yX9_tell cX9_tell 3 (Option.some FieldType.boolean)) (goRoom 0 0 0 0) (goPre E [.ref 67, .int v1, .int v2] G M L R) (goQi E r0 G r1 r2 R) 0 0 (goSet E) := by
  refine goMet pl_RX9 hk (lv := [some (.ref 67), some (.int v1), some (.int v2)]) rfl (Nat.le_of_ble_eq_true rfl) ?_
  intro X hc hl hR hr hnm
  subst hl
  unfold fX9_tell at h
  refine go_aload0 hc dX9_tell_0 ?_
  refine go_getI hc lk_RX9_60 dX9_tell_1 (sh_67 hW) ?_
  refine go_bipush (v := 32) hc dX9_tell_4 rfl ?_
  replace h := goB2_h h; obtain ⟨M11, L12, e13, h⟩ := h
  have k14 : ∀ (d0 d1 d2 : Option Value), goA E X G 0 0 (goMQ X E (goQi E r0 G r1 r2 R) 0 0) 52 [d0, d1, d2] [] M11 L12 R := by
    intro d0 d1 d2
    refine go_iconst (v := 1) hc dX9_tell_52 rfl ?_
    cases h
    exact go_zret hc dX9_tell_53 hr rfl
  refine go_icmp_ge hc 52 dX9_tell_6 rfl (fun c15 => ?_) (fun c15 => ?_)
  · replace e13 := goIfF e13 c15
    cases e13
    exact k14 _ _ _
  · replace e13 := goIfT e13 c15
    refine go_aload0 hc dX9_tell_9 ?_
    refine go_getR hc lk_RX9_11 dX9_tell_10 (sh_67 hW) (rf_67_1 hW) ?_
    refine go_aload0 hc dX9_tell_13 ?_
    refine go_getI hc lk_RX9_60 dX9_tell_14 (sh_67 hW) ?_
    refine go_aload0 hc dX9_tell_17 ?_
    refine go_getL hc lk_RX9_345 dX9_tell_18 (sh_67 hW) ?_
    replace e13 := goBind e13; obtain ⟨L16, e17, e13⟩ := e13
    refine go_last hc dX9_tell_21 (sh_68 hW) e17 ?_
    refine go_aload0 hc dX9_tell_22 ?_
    refine go_getR hc lk_RX9_15 dX9_tell_23 (sh_67 hW) (rf_67_2 hW) ?_
    refine go_aload0 hc dX9_tell_26 ?_
    refine go_getI hc lk_RX9_60 dX9_tell_27 (sh_67 hW) ?_
    refine go_iload1 hc dX9_tell_30 ?_
    replace e13 := goBind e13; obtain ⟨M18, e19, e13⟩ := e13
    refine go_iast hc dX9_tell_31 (sh_69 hW) e19 ?_
    refine go_aload0 hc dX9_tell_32 ?_
    refine go_getR hc lk_RX9_19 dX9_tell_33 (sh_67 hW) (rf_67_3 hW) ?_
    refine go_aload0 hc dX9_tell_36 ?_
    refine go_getI hc lk_RX9_60 dX9_tell_37 (sh_67 hW) ?_
    refine go_iload2 hc dX9_tell_40 ?_
    replace e13 := goBind e13; obtain ⟨M20, e21, e13⟩ := e13
    refine go_iast hc dX9_tell_41 (sh_70 hW) e21 ?_
    refine go_aload0 hc dX9_tell_42 ?_
    refine go_dupr hc dX9_tell_43 ?_
    refine go_getI hc lk_RX9_60 dX9_tell_44 (sh_67 hW) ?_
    refine go_iconst (v := 1) hc dX9_tell_47 rfl ?_
    refine go_iadd hc dX9_tell_48 ?_
    replace e13 := goNm_x e13; obtain ⟨M22, e23, e13⟩ := e13
    refine go_ptI hc lk_RX9_60 dX9_tell_49 (sh_67 hW) e23 ?_
    cases e13
    exact k14 _ _ _
theorem dX9_placeLine_0 : decode cX9_placeLine 0 = .ok (.aload_n 0, 1) := by decide +kernel
theorem dX9_placeLine_1 : decode cX9_placeLine 1 = .ok (.getfield 39, 3) := by decide +kernel
theorem dX9_placeLine_4 : decode cX9_placeLine 4 = .ok (.getfield 91, 3) := by decide +kernel
theorem dX9_placeLine_7 : decode cX9_placeLine 7 = .ok (.istore_n 1, 1) := by decide +kernel
theorem dX9_placeLine_8 : decode cX9_placeLine 8 = .ok (.iload_n 1, 1) := by decide +kernel
theorem dX9_placeLine_9 : decode cX9_placeLine 9 = .ok (.bipush 8, 2) := by decide +kernel
theorem dX9_placeLine_11 : decode cX9_placeLine 11 = .ok (.if_icmp .ge 10, 3) := by decide +kernel
theorem dX9_placeLine_14 : decode cX9_placeLine 14 = .ok (.aload_n 0, 1) := by decide +kernel
theorem dX9_placeLine_15 : decode cX9_placeLine 15 = .ok (.invokevirtual 185, 3) := by decide +kernel
theorem dX9_placeLine_18 : decode cX9_placeLine 18 = .ok (.ifCond .ne 5, 3) := by decide +kernel
theorem dX9_placeLine_21 : decode cX9_placeLine 21 = .ok (.iconst 0, 1) := by decide +kernel
theorem dX9_placeLine_22 : decode cX9_placeLine 22 = .ok (.ireturn, 1) := by decide +kernel
theorem dX9_placeLine_23 : decode cX9_placeLine 23 = .ok (.iconst 0, 1) := by decide +kernel
theorem dX9_placeLine_24 : decode cX9_placeLine 24 = .ok (.istore_n 2, 1) := by decide +kernel
theorem dX9_placeLine_25 : decode cX9_placeLine 25 = .ok (.iload_n 2, 1) := by decide +kernel
theorem dX9_placeLine_26 : decode cX9_placeLine 26 = .ok (.aload_n 0, 1) := by decide +kernel
theorem dX9_placeLine_27 : decode cX9_placeLine 27 = .ok (.getfield 39, 3) := by decide +kernel
theorem dX9_placeLine_30 : decode cX9_placeLine 30 = .ok (.getfield 183, 3) := by decide +kernel
theorem dX9_placeLine_33 : decode cX9_placeLine 33 = .ok (.if_icmp .ge 51, 3) := by decide +kernel
theorem dX9_placeLine_36 : decode cX9_placeLine 36 = .ok (.aload_n 0, 1) := by decide +kernel
theorem dX9_placeLine_37 : decode cX9_placeLine 37 = .ok (.iload_n 2, 1) := by decide +kernel
theorem dX9_placeLine_38 : decode cX9_placeLine 38 = .ok (.bipush 9, 2) := by decide +kernel
theorem dX9_placeLine_40 : decode cX9_placeLine 40 = .ok (.invokevirtual 188, 3) := by decide +kernel
theorem dX9_placeLine_43 : decode cX9_placeLine 43 = .ok (.ifCond .ne 5, 3) := by decide +kernel
theorem dX9_placeLine_46 : decode cX9_placeLine 46 = .ok (.iconst 0, 1) := by decide +kernel
theorem dX9_placeLine_47 : decode cX9_placeLine 47 = .ok (.ireturn, 1) := by decide +kernel
theorem dX9_placeLine_48 : decode cX9_placeLine 48 = .ok (.aload_n 0, 1) := by decide +kernel
theorem dX9_placeLine_49 : decode cX9_placeLine 49 = .ok (.getfield 39, 3) := by decide +kernel
theorem dX9_placeLine_52 : decode cX9_placeLine 52 = .ok (.getfield 191, 3) := by decide +kernel
theorem dX9_placeLine_55 : decode cX9_placeLine 55 = .ok (.iload_n 1, 1) := by decide +kernel
theorem dX9_placeLine_56 : decode cX9_placeLine 56 = .ok (.dup2, 1) := by decide +kernel
theorem dX9_placeLine_57 : decode cX9_placeLine 57 = .ok (.iaload, 1) := by decide +kernel
theorem dX9_placeLine_58 : decode cX9_placeLine 58 = .ok (.aload_n 0, 1) := by decide +kernel
theorem dX9_placeLine_59 : decode cX9_placeLine 59 = .ok (.getfield 35, 3) := by decide +kernel
theorem dX9_placeLine_62 : decode cX9_placeLine 62 = .ok (.getfield 176, 3) := by decide +kernel
theorem dX9_placeLine_65 : decode cX9_placeLine 65 = .ok (.iconst 4, 1) := by decide +kernel
theorem dX9_placeLine_66 : decode cX9_placeLine 66 = .ok (.iload_n 2, 1) := by decide +kernel
theorem dX9_placeLine_67 : decode cX9_placeLine 67 = .ok (.imul, 1) := by decide +kernel
theorem dX9_placeLine_68 : decode cX9_placeLine 68 = .ok (.ishl, 1) := by decide +kernel
theorem dX9_placeLine_69 : decode cX9_placeLine 69 = .ok (.ior, 1) := by decide +kernel
theorem dX9_placeLine_70 : decode cX9_placeLine 70 = .ok (.iastore, 1) := by decide +kernel
theorem dX9_placeLine_71 : decode cX9_placeLine 71 = .ok (.aload_n 0, 1) := by decide +kernel
theorem dX9_placeLine_72 : decode cX9_placeLine 72 = .ok (.getfield 35, 3) := by decide +kernel
theorem dX9_placeLine_75 : decode cX9_placeLine 75 = .ok (.invokevirtual 84, 3) := by decide +kernel
theorem dX9_placeLine_78 : decode cX9_placeLine 78 = .ok (.iinc 2 1, 3) := by decide +kernel
theorem dX9_placeLine_81 : decode cX9_placeLine 81 = .ok (.goto (-56), 3) := by decide +kernel
theorem dX9_placeLine_84 : decode cX9_placeLine 84 = .ok (.aload_n 0, 1) := by decide +kernel
theorem dX9_placeLine_85 : decode cX9_placeLine 85 = .ok (.getfield 39, 3) := by decide +kernel
theorem dX9_placeLine_88 : decode cX9_placeLine 88 = .ok (.dup, 1) := by decide +kernel
theorem dX9_placeLine_89 : decode cX9_placeLine 89 = .ok (.getfield 91, 3) := by decide +kernel
theorem dX9_placeLine_92 : decode cX9_placeLine 92 = .ok (.iconst 1, 1) := by decide +kernel
theorem dX9_placeLine_93 : decode cX9_placeLine 93 = .ok (.iadd, 1) := by decide +kernel
theorem dX9_placeLine_94 : decode cX9_placeLine 94 = .ok (.putfield 91, 3) := by decide +kernel
theorem dX9_placeLine_97 : decode cX9_placeLine 97 = .ok (.aload_n 0, 1) := by decide +kernel
theorem dX9_placeLine_98 : decode cX9_placeLine 98 = .ok (.iconst 0, 1) := by decide +kernel
theorem dX9_placeLine_99 : decode cX9_placeLine 99 = .ok (.iload_n 1, 1) := by decide +kernel
theorem dX9_placeLine_100 : decode cX9_placeLine 100 = .ok (.invokevirtual 194, 3) := by decide +kernel
theorem dX9_placeLine_103 : decode cX9_placeLine 103 = .ok (.ireturn, 1) := by decide +kernel
set_option maxRecDepth 100000 in
set_option maxHeartbeats 4000000 in
theorem mX9_placeLine_L25 {E : goEv} {X : goX} {G : goG} {R : goMR} {N : Nat} {v1 : Int32} {r0 : Int32} {r1 : goMI} {r2 : goML} (hc : goCx E X cX9_placeLine RX9 3) (hk : goKn E) (hR : X.2.2.2.1 = goRoom 4 83 0 0) (hr : X.2.2.2.2.2.2.2.2.1.sig.returnType = (Option.some FieldType.boolean)) (hW : goW G R) : ∀ (n : Nat) (v2 : Int32) (M : goMI) (L : goML), lX9_placeLine_25 N v1 R n v2 M L = some (r0, r1, r2) → goA E X G 0 0 (goMQ X E (goQi E r0 G r1 r2 R) 0 0) 25 [some (.ref 67), some (.int v1), some (.int v2)] [] M L R := by
  intro n
  induction n with
  | zero => intro v2 M L h; exact nomatch h
  | succ n ih =>
    intro v2 M L h
    rw [lX9_placeLine_25] at h
    refine go_iload2 hc dX9_placeLine_25 ?_
    refine go_aload0 hc dX9_placeLine_26 ?_
    refine go_getR hc lk_RX9_39 dX9_placeLine_27 (sh_67 hW) (rm_67_7 hW) ?_
    refine go_getI hc lk_RX9_183 dX9_placeLine_30 (shHill_0 hW (mm_67_7 hW)) ?_
    refine go_icmp_ge hc 84 dX9_placeLine_33 rfl (fun c19 => ?_) (fun c19 => ?_)
    · replace h := goIfF h c19
      refine go_aload0 hc dX9_placeLine_84 ?_
      refine go_getR hc lk_RX9_39 dX9_placeLine_85 (sh_67 hW) (rm_67_7 hW) ?_
      refine go_dupr hc dX9_placeLine_88 ?_
      refine go_getI hc lk_RX9_91 dX9_placeLine_89 (shHill_0 hW (mm_67_7 hW)) ?_
      refine go_iconst (v := 1) hc dX9_placeLine_92 rfl ?_
      refine go_iadd hc dX9_placeLine_93 ?_
      replace h := goNm_x h; obtain ⟨M20, e21, h⟩ := h
      refine go_ptI hc lk_RX9_91 dX9_placeLine_94 (shHill_0 hW (mm_67_7 hW)) e21 ?_
      refine go_aload0 hc dX9_placeLine_97 ?_
      refine go_iconst (v := 0) hc dX9_placeLine_98 rfl ?_
      refine go_iload1 hc dX9_placeLine_99 ?_
      replace h := goB3_h h; obtain ⟨x22, M23, L24, e25, h⟩ := h
      refine go_callVi hc dX9_placeLine_100 (mX9_tell hk hW e25) ml_RX9_194 yk_X9_tell ⟨wim_X9_tell, wse_X9_tell⟩ hR rfl (sh_67 hW) rfl rfl rfl (Nat.le_of_ble_eq_true rfl) rfl ?_
      replace h := goBind h; obtain ⟨x26, e27, h⟩ := h
      obtain ⟨ze27, rfl⟩ := goZr_h e27
      cases h
      exact go_zret hc dX9_placeLine_103 hr (goZ_n ze27)
    · replace h := goIfT h c19
      refine go_aload0 hc dX9_placeLine_36 ?_
      refine go_iload2 hc dX9_placeLine_37 ?_
      refine go_bipush (v := 9) hc dX9_placeLine_38 rfl ?_
      replace h := goB3_h h; obtain ⟨x28, M29, L30, e31, h⟩ := h
      refine go_callVi hc dX9_placeLine_40 (mX9_partIn hk hW e31) ml_RX9_188 yk_X9_partIn ⟨wim_X9_partIn, wse_X9_partIn⟩ hR rfl (sh_67 hW) rfl rfl rfl (Nat.le_of_ble_eq_true rfl) rfl ?_
      refine go_if_ne hc 48 dX9_placeLine_43 rfl (fun c32 => ?_) (fun c32 => ?_)
      · replace h := goIfF h c32
        refine go_aload0 hc dX9_placeLine_48 ?_
        refine go_getR hc lk_RX9_39 dX9_placeLine_49 (sh_67 hW) (rm_67_7 hW) ?_
        refine go_getR hc lk_RX9_191 dX9_placeLine_52 (shHill_0 hW (mm_67_7 hW)) (rfHill_7 hW (mm_67_7 hW)) ?_
        refine go_iload1 hc dX9_placeLine_55 ?_
        refine go_dup2 hc dX9_placeLine_56 ?_
        replace h := goBind h; obtain ⟨x33, e34, h⟩ := h
        refine go_iald hc dX9_placeLine_57 (shHill_1 hW (mm_67_7 hW)) e34 ?_
        refine go_aload0 hc dX9_placeLine_58 ?_
        refine go_getR hc lk_RX9_35 dX9_placeLine_59 (sh_67 hW) (rf_67_0 hW) ?_
        refine go_getI hc lk_RX9_176 dX9_placeLine_62 (sh_1 hW) ?_
        refine go_iconst (v := 4) hc dX9_placeLine_65 rfl ?_
        refine go_iload2 hc dX9_placeLine_66 ?_
        refine go_imul hc dX9_placeLine_67 ?_
        refine go_ishl hc dX9_placeLine_68 ?_
        refine go_ior hc dX9_placeLine_69 ?_
        replace h := goBind h; obtain ⟨M35, e36, h⟩ := h
        refine go_iast hc dX9_placeLine_70 (shHill_1 hW (mm_67_7 hW)) e36 ?_
        refine go_aload0 hc dX9_placeLine_71 ?_
        refine go_getR hc lk_RX9_35 dX9_placeLine_72 (sh_67 hW) (rf_67_0 hW) ?_
        replace h := goB2_h h; obtain ⟨M37, L38, e39, h⟩ := h
        refine go_callVv hc dX9_placeLine_75 (mX11_advance hk hW e39) ml_RX9_84 yk_X11_advance ⟨wim_X11_advance, wse_X11_advance⟩ hR rfl (sh_1 hW) rfl rfl rfl (Nat.le_of_ble_eq_true rfl) rfl ?_
        refine go_iinc2 (v := (v2 + 1)) hc dX9_placeLine_78 rfl ?_
        refine go_goto hc 25 dX9_placeLine_81 rfl ?_
        exact ih _ _ _ h
      · replace h := goIfT h c32
        refine go_iconst (v := 0) hc dX9_placeLine_46 rfl ?_
        cases h
        exact go_zret hc dX9_placeLine_47 hr rfl
set_option maxRecDepth 100000 in
set_option maxHeartbeats 4000000 in
theorem mX9_placeLine {E : goEv} {l : Launch} {G : goG} {N : Nat} {M : goMI} {L : goML} {R : goMR} {r0 : Int32} {r1 : goMI} {r2 : goML} (hk : goKn E) (hW : goW G R) (h : fX9_placeLine N M L R = some (r0, r1, r2)) : Met l yX9_placeLine (goCd yX9_placeLine cX9_placeLine 3 (Option.some FieldType.boolean)) (goRoom 4 83 0 0) (goPre E [.ref 67] G M L R) (goQi E r0 G r1 r2 R) 0 0 (goSet E) := by
  refine goMet pl_RX9 hk (lv := [some (.ref 67), none, none]) rfl (Nat.le_of_ble_eq_true rfl) ?_
  intro X hc hl hR hr hnm
  subst hl
  unfold fX9_placeLine at h
  refine go_aload0 hc dX9_placeLine_0 ?_
  refine go_getR hc lk_RX9_39 dX9_placeLine_1 (sh_67 hW) (rm_67_7 hW) ?_
  refine go_getI hc lk_RX9_91 dX9_placeLine_4 (shHill_0 hW (mm_67_7 hW)) ?_
  replace h := goNm_x h; obtain ⟨x11, e12, h⟩ := h
  refine go_nmI e12 ?_
  refine go_istore1 hc dX9_placeLine_7 ?_
  refine go_iload1 hc dX9_placeLine_8 ?_
  refine go_bipush (v := 8) hc dX9_placeLine_9 rfl ?_
  refine go_icmp_ge hc 21 dX9_placeLine_11 rfl (fun c13 => ?_) (fun c13 => ?_)
  · replace h := goIfF h c13
    refine go_iconst (v := 0) hc dX9_placeLine_21 rfl ?_
    cases h
    exact go_zret hc dX9_placeLine_22 hr rfl
  · replace h := goIfT h c13
    refine go_aload0 hc dX9_placeLine_14 ?_
    replace h := goB3_h h; obtain ⟨x14, M15, L16, e17, h⟩ := h
    refine go_callVi hc dX9_placeLine_15 (mX9_freshName hk hW e17) ml_RX9_185 yk_X9_freshName ⟨wim_X9_freshName, wse_X9_freshName⟩ hR rfl (sh_67 hW) rfl rfl rfl (Nat.le_of_ble_eq_true rfl) rfl ?_
    refine go_if_ne hc 23 dX9_placeLine_18 rfl (fun c18 => ?_) (fun c18 => ?_)
    · replace h := goIfF h c18
      refine go_iconst (v := 0) hc dX9_placeLine_23 rfl ?_
      refine go_istore2 hc dX9_placeLine_24 ?_
      exact mX9_placeLine_L25 hc hk hR hr hW _ _ _ _ h
    · replace h := goIfT h c18
      refine go_iconst (v := 0) hc dX9_placeLine_21 rfl ?_
      cases h
      exact go_zret hc dX9_placeLine_22 hr rfl
theorem dX9_named_0 : decode cX9_named 0 = .ok (.aload_n 0, 1) := by decide +kernel
theorem dX9_named_1 : decode cX9_named 1 = .ok (.getfield 35, 3) := by decide +kernel
theorem dX9_named_4 : decode cX9_named 4 = .ok (.getfield 81, 3) := by decide +kernel
theorem dX9_named_7 : decode cX9_named 7 = .ok (.iconst 1, 1) := by decide +kernel
theorem dX9_named_8 : decode cX9_named 8 = .ok (.if_icmp .ne 13, 3) := by decide +kernel
theorem dX9_named_11 : decode cX9_named 11 = .ok (.aload_n 0, 1) := by decide +kernel
theorem dX9_named_12 : decode cX9_named 12 = .ok (.invokevirtual 97, 3) := by decide +kernel
theorem dX9_named_15 : decode cX9_named 15 = .ok (.getstatic 339, 3) := by decide +kernel
theorem dX9_named_18 : decode cX9_named 18 = .ok (.if_acmp .eq 11, 3) := by decide +kernel
theorem dX9_named_21 : decode cX9_named 21 = .ok (.aload_n 0, 1) := by decide +kernel
theorem dX9_named_22 : decode cX9_named 22 = .ok (.iconst 1, 1) := by decide +kernel
theorem dX9_named_23 : decode cX9_named 23 = .ok (.invokevirtual 87, 3) := by decide +kernel
theorem dX9_named_26 : decode cX9_named 26 = .ok (.pop, 1) := by decide +kernel
theorem dX9_named_27 : decode cX9_named 27 = .ok (.iconst (-1), 1) := by decide +kernel
theorem dX9_named_28 : decode cX9_named 28 = .ok (.ireturn, 1) := by decide +kernel
theorem dX9_named_29 : decode cX9_named 29 = .ok (.aload_n 0, 1) := by decide +kernel
theorem dX9_named_30 : decode cX9_named 30 = .ok (.invokevirtual 342, 3) := by decide +kernel
theorem dX9_named_33 : decode cX9_named 33 = .ok (.istore_n 2, 1) := by decide +kernel
theorem dX9_named_34 : decode cX9_named 34 = .ok (.iload_n 2, 1) := by decide +kernel
theorem dX9_named_35 : decode cX9_named 35 = .ok (.ifCond .lt 13, 3) := by decide +kernel
theorem dX9_named_38 : decode cX9_named 38 = .ok (.aload_n 0, 1) := by decide +kernel
theorem dX9_named_39 : decode cX9_named 39 = .ok (.getfield 15, 3) := by decide +kernel
theorem dX9_named_42 : decode cX9_named 42 = .ok (.iload_n 2, 1) := by decide +kernel
theorem dX9_named_43 : decode cX9_named 43 = .ok (.iaload, 1) := by decide +kernel
theorem dX9_named_44 : decode cX9_named 44 = .ok (.iload_n 1, 1) := by decide +kernel
theorem dX9_named_45 : decode cX9_named 45 = .ok (.if_icmp .eq 11, 3) := by decide +kernel
theorem dX9_named_48 : decode cX9_named 48 = .ok (.aload_n 0, 1) := by decide +kernel
theorem dX9_named_49 : decode cX9_named 49 = .ok (.iconst 2, 1) := by decide +kernel
theorem dX9_named_50 : decode cX9_named 50 = .ok (.invokevirtual 87, 3) := by decide +kernel
theorem dX9_named_53 : decode cX9_named 53 = .ok (.pop, 1) := by decide +kernel
theorem dX9_named_54 : decode cX9_named 54 = .ok (.iconst (-1), 1) := by decide +kernel
theorem dX9_named_55 : decode cX9_named 55 = .ok (.ireturn, 1) := by decide +kernel
theorem dX9_named_56 : decode cX9_named 56 = .ok (.aload_n 0, 1) := by decide +kernel
theorem dX9_named_57 : decode cX9_named 57 = .ok (.getfield 19, 3) := by decide +kernel
theorem dX9_named_60 : decode cX9_named 60 = .ok (.iload_n 2, 1) := by decide +kernel
theorem dX9_named_61 : decode cX9_named 61 = .ok (.iaload, 1) := by decide +kernel
theorem dX9_named_62 : decode cX9_named 62 = .ok (.ireturn, 1) := by decide +kernel
set_option maxRecDepth 100000 in
set_option maxHeartbeats 4000000 in
theorem mX9_named {E : goEv} {l : Launch} {G : goG} {N : Nat} {M : goMI} {L : goML} {R : goMR} {v1 : Int32} {r0 : Int32} {r1 : goMI} (hk : goKn E) (hW : goW G R) (h : fX9_named N M L v1 = some (r0, r1)) : Met l yX9_named (goCd yX9_named cX9_named 3 (Option.some FieldType.int)) (goRoom 1 21 0 0) (goPre E [.ref 67, .int v1] G M L R) (goQi E r0 G r1 L R) 0 0 (goSet E) := by
  refine goMet pl_RX9 hk (lv := [some (.ref 67), some (.int v1), none]) rfl (Nat.le_of_ble_eq_true rfl) ?_
  intro X hc hl hR hr hnm
  subst hl
  unfold fX9_named at h
  refine go_aload0 hc dX9_named_0 ?_
  refine go_getR hc lk_RX9_35 dX9_named_1 (sh_67 hW) (rf_67_0 hW) ?_
  refine go_getI hc lk_RX9_81 dX9_named_4 (sh_1 hW) ?_
  refine go_iconst (v := 1) hc dX9_named_7 rfl ?_
  refine go_icmp_ne hc 21 dX9_named_8 rfl (fun c11 => ?_) (fun c11 => ?_)
  · replace h := goIfF h c11
    refine go_aload0 hc dX9_named_21 ?_
    refine go_iconst (v := 1) hc dX9_named_22 rfl ?_
    replace h := goB2_h h; obtain ⟨x12, M13, e14, h⟩ := h
    refine go_callVi hc dX9_named_23 (mX9_fail hk hW e14) ml_RX9_87 yk_X9_fail ⟨wim_X9_fail, wse_X9_fail⟩ hR rfl (sh_67 hW) rfl rfl rfl (Nat.le_of_ble_eq_true rfl) rfl ?_
    refine go_popi hc dX9_named_26 ?_
    refine go_iconst (v := (-1)) hc dX9_named_27 rfl ?_
    cases h
    exact go_iret hc dX9_named_28 hr
  · replace h := goIfT h c11
    refine go_aload0 hc dX9_named_11 ?_
    replace h := goBind h; obtain ⟨x15, e16, h⟩ := h
    refine go_callVr hc dX9_named_12 (mX9_reservedHere hk hW e16) ml_RX9_97 yk_X9_reservedHere ⟨wim_X9_reservedHere, wse_X9_reservedHere⟩ hR rfl (sh_67 hW) rfl rfl rfl (Nat.le_of_ble_eq_true rfl) rfl ?_
    refine go_getsE_OTHER hc dX9_named_15 ?_
    replace h := goBind h; obtain ⟨_, e18, h⟩ := h
    refine go_acmp_eq hc 29 dX9_named_18 rfl e18 (v := ()) rfl (fun c17 => ?_) (fun c17 => ?_)
    · replace h := goIfT h c17
      refine go_aload0 hc dX9_named_29 ?_
      replace h := goBind h; obtain ⟨x19, e20, h⟩ := h
      refine go_callVi hc dX9_named_30 (mX9_find hk hW e20) ml_RX9_342 yk_X9_find ⟨wim_X9_find, wse_X9_find⟩ hR rfl (sh_67 hW) rfl rfl rfl (Nat.le_of_ble_eq_true rfl) rfl ?_
      refine go_istore2 hc dX9_named_33 ?_
      refine go_iload2 hc dX9_named_34 ?_
      refine go_if_lt hc 48 dX9_named_35 rfl (fun c21 => ?_) (fun c21 => ?_)
      · replace h := goIfF h c21
        refine go_aload0 hc dX9_named_48 ?_
        refine go_iconst (v := 2) hc dX9_named_49 rfl ?_
        replace h := goB2_h h; obtain ⟨x22, M23, e24, h⟩ := h
        refine go_callVi hc dX9_named_50 (mX9_fail hk hW e24) ml_RX9_87 yk_X9_fail ⟨wim_X9_fail, wse_X9_fail⟩ hR rfl (sh_67 hW) rfl rfl rfl (Nat.le_of_ble_eq_true rfl) rfl ?_
        refine go_popi hc dX9_named_53 ?_
        refine go_iconst (v := (-1)) hc dX9_named_54 rfl ?_
        cases h
        exact go_iret hc dX9_named_55 hr
      · replace h := goIfT h c21
        refine go_aload0 hc dX9_named_38 ?_
        refine go_getR hc lk_RX9_15 dX9_named_39 (sh_67 hW) (rf_67_2 hW) ?_
        refine go_iload2 hc dX9_named_42 ?_
        replace h := goBind h; obtain ⟨x25, e26, h⟩ := h
        refine go_iald hc dX9_named_43 (sh_69 hW) e26 ?_
        refine go_iload1 hc dX9_named_44 ?_
        refine go_icmp_eq hc 56 dX9_named_45 rfl (fun c27 => ?_) (fun c27 => ?_)
        · replace h := goIfT h c27
          refine go_aload0 hc dX9_named_56 ?_
          refine go_getR hc lk_RX9_19 dX9_named_57 (sh_67 hW) (rf_67_3 hW) ?_
          refine go_iload2 hc dX9_named_60 ?_
          replace h := goBind h; obtain ⟨x28, e29, h⟩ := h
          refine go_iald hc dX9_named_61 (sh_70 hW) e29 ?_
          cases h
          exact go_iret hc dX9_named_62 hr
        · replace h := goIfF h c27
          refine go_aload0 hc dX9_named_48 ?_
          refine go_iconst (v := 2) hc dX9_named_49 rfl ?_
          replace h := goB2_h h; obtain ⟨x30, M31, e32, h⟩ := h
          refine go_callVi hc dX9_named_50 (mX9_fail hk hW e32) ml_RX9_87 yk_X9_fail ⟨wim_X9_fail, wse_X9_fail⟩ hR rfl (sh_67 hW) rfl rfl rfl (Nat.le_of_ble_eq_true rfl) rfl ?_
          refine go_popi hc dX9_named_53 ?_
          refine go_iconst (v := (-1)) hc dX9_named_54 rfl ?_
          cases h
          exact go_iret hc dX9_named_55 hr
    · replace h := goIfF h c17
      refine go_aload0 hc dX9_named_21 ?_
      refine go_iconst (v := 1) hc dX9_named_22 rfl ?_
      replace h := goB2_h h; obtain ⟨x33, M34, e35, h⟩ := h
      refine go_callVi hc dX9_named_23 (mX9_fail hk hW e35) ml_RX9_87 yk_X9_fail ⟨wim_X9_fail, wse_X9_fail⟩ hR rfl (sh_67 hW) rfl rfl rfl (Nat.le_of_ble_eq_true rfl) rfl ?_
      refine go_popi hc dX9_named_26 ?_
      refine go_iconst (v := (-1)) hc dX9_named_27 rfl ?_
      cases h
      exact go_iret hc dX9_named_28 hr
theorem dX9_pathLine_0 : decode cX9_pathLine 0 = .ok (.aload_n 0, 1) := by decide +kernel
theorem dX9_pathLine_1 : decode cX9_pathLine 1 = .ok (.iconst 0, 1) := by decide +kernel
theorem dX9_pathLine_2 : decode cX9_pathLine 2 = .ok (.invokevirtual 197, 3) := by decide +kernel
theorem dX9_pathLine_5 : decode cX9_pathLine 5 = .ok (.istore_n 1, 1) := by decide +kernel
theorem dX9_pathLine_6 : decode cX9_pathLine 6 = .ok (.iload_n 1, 1) := by decide +kernel
theorem dX9_pathLine_7 : decode cX9_pathLine 7 = .ok (.ifCond .ge 5, 3) := by decide +kernel
theorem dX9_pathLine_10 : decode cX9_pathLine 10 = .ok (.iconst 0, 1) := by decide +kernel
theorem dX9_pathLine_11 : decode cX9_pathLine 11 = .ok (.ireturn, 1) := by decide +kernel
theorem dX9_pathLine_12 : decode cX9_pathLine 12 = .ok (.aload_n 0, 1) := by decide +kernel
theorem dX9_pathLine_13 : decode cX9_pathLine 13 = .ok (.getfield 35, 3) := by decide +kernel
theorem dX9_pathLine_16 : decode cX9_pathLine 16 = .ok (.invokevirtual 84, 3) := by decide +kernel
theorem dX9_pathLine_19 : decode cX9_pathLine 19 = .ok (.aload_n 0, 1) := by decide +kernel
theorem dX9_pathLine_20 : decode cX9_pathLine 20 = .ok (.iconst 0, 1) := by decide +kernel
theorem dX9_pathLine_21 : decode cX9_pathLine 21 = .ok (.invokevirtual 197, 3) := by decide +kernel
theorem dX9_pathLine_24 : decode cX9_pathLine 24 = .ok (.istore_n 2, 1) := by decide +kernel
theorem dX9_pathLine_25 : decode cX9_pathLine 25 = .ok (.iload_n 2, 1) := by decide +kernel
theorem dX9_pathLine_26 : decode cX9_pathLine 26 = .ok (.ifCond .ge 5, 3) := by decide +kernel
theorem dX9_pathLine_29 : decode cX9_pathLine 29 = .ok (.iconst 0, 1) := by decide +kernel
theorem dX9_pathLine_30 : decode cX9_pathLine 30 = .ok (.ireturn, 1) := by decide +kernel
theorem dX9_pathLine_31 : decode cX9_pathLine 31 = .ok (.iload_n 2, 1) := by decide +kernel
theorem dX9_pathLine_32 : decode cX9_pathLine 32 = .ok (.iload_n 1, 1) := by decide +kernel
theorem dX9_pathLine_33 : decode cX9_pathLine 33 = .ok (.if_icmp .eq 20, 3) := by decide +kernel
theorem dX9_pathLine_36 : decode cX9_pathLine 36 = .ok (.aload_n 0, 1) := by decide +kernel
theorem dX9_pathLine_37 : decode cX9_pathLine 37 = .ok (.getfield 39, 3) := by decide +kernel
theorem dX9_pathLine_40 : decode cX9_pathLine 40 = .ok (.getfield 201, 3) := by decide +kernel
theorem dX9_pathLine_43 : decode cX9_pathLine 43 = .ok (.iload_n 1, 1) := by decide +kernel
theorem dX9_pathLine_44 : decode cX9_pathLine 44 = .ok (.iaload, 1) := by decide +kernel
theorem dX9_pathLine_45 : decode cX9_pathLine 45 = .ok (.iload_n 2, 1) := by decide +kernel
theorem dX9_pathLine_46 : decode cX9_pathLine 46 = .ok (.invokestatic 204, 3) := by decide +kernel
theorem dX9_pathLine_49 : decode cX9_pathLine 49 = .ok (.iconst 1, 1) := by decide +kernel
theorem dX9_pathLine_50 : decode cX9_pathLine 50 = .ok (.if_icmp .ne 9, 3) := by decide +kernel
theorem dX9_pathLine_53 : decode cX9_pathLine 53 = .ok (.aload_n 0, 1) := by decide +kernel
theorem dX9_pathLine_54 : decode cX9_pathLine 54 = .ok (.iconst 3, 1) := by decide +kernel
theorem dX9_pathLine_55 : decode cX9_pathLine 55 = .ok (.invokevirtual 87, 3) := by decide +kernel
theorem dX9_pathLine_58 : decode cX9_pathLine 58 = .ok (.ireturn, 1) := by decide +kernel
theorem dX9_pathLine_59 : decode cX9_pathLine 59 = .ok (.aload_n 0, 1) := by decide +kernel
theorem dX9_pathLine_60 : decode cX9_pathLine 60 = .ok (.getfield 39, 3) := by decide +kernel
theorem dX9_pathLine_63 : decode cX9_pathLine 63 = .ok (.iload_n 1, 1) := by decide +kernel
theorem dX9_pathLine_64 : decode cX9_pathLine 64 = .ok (.iload_n 2, 1) := by decide +kernel
theorem dX9_pathLine_65 : decode cX9_pathLine 65 = .ok (.invokevirtual 208, 3) := by decide +kernel
theorem dX9_pathLine_68 : decode cX9_pathLine 68 = .ok (.aload_n 0, 1) := by decide +kernel
theorem dX9_pathLine_69 : decode cX9_pathLine 69 = .ok (.getfield 35, 3) := by decide +kernel
theorem dX9_pathLine_72 : decode cX9_pathLine 72 = .ok (.invokevirtual 84, 3) := by decide +kernel
theorem dX9_pathLine_75 : decode cX9_pathLine 75 = .ok (.iconst 1, 1) := by decide +kernel
theorem dX9_pathLine_76 : decode cX9_pathLine 76 = .ok (.ireturn, 1) := by decide +kernel
set_option maxRecDepth 100000 in
set_option maxHeartbeats 4000000 in
theorem mX9_pathLine {E : goEv} {l : Launch} {G : goG} {N : Nat} {M : goMI} {L : goML} {R : goMR} {r0 : Int32} {r1 : goMI} {r2 : goML} (hk : goKn E) (hW : goW G R) (h : fX9_pathLine N M L R = some (r0, r1, r2)) : Met l yX9_pathLine (goCd yX9_pathLine cX9_pathLine 3 (Option.some FieldType.boolean)) (goRoom 3 61 0 0) (goPre E [.ref 67] G M L R) (goQi E r0 G r1 r2 R) 0 0 (goSet E) := by
  refine goMet pl_RX9 hk (lv := [some (.ref 67), none, none]) rfl (Nat.le_of_ble_eq_true rfl) ?_
  intro X hc hl hR hr hnm
  subst hl
  unfold fX9_pathLine at h
  refine go_aload0 hc dX9_pathLine_0 ?_
  refine go_iconst (v := 0) hc dX9_pathLine_1 rfl ?_
  replace h := goB2_h h; obtain ⟨x11, M12, e13, h⟩ := h
  refine go_callVi hc dX9_pathLine_2 (mX9_named hk hW e13) ml_RX9_197 yk_X9_named ⟨wim_X9_named, wse_X9_named⟩ hR rfl (sh_67 hW) rfl rfl rfl (Nat.le_of_ble_eq_true rfl) rfl ?_
  refine go_istore1 hc dX9_pathLine_5 ?_
  refine go_iload1 hc dX9_pathLine_6 ?_
  refine go_if_ge hc 12 dX9_pathLine_7 rfl (fun c14 => ?_) (fun c14 => ?_)
  · replace h := goIfF h c14
    refine go_aload0 hc dX9_pathLine_12 ?_
    refine go_getR hc lk_RX9_35 dX9_pathLine_13 (sh_67 hW) (rf_67_0 hW) ?_
    replace h := goB2_h h; obtain ⟨M15, L16, e17, h⟩ := h
    refine go_callVv hc dX9_pathLine_16 (mX11_advance hk hW e17) ml_RX9_84 yk_X11_advance ⟨wim_X11_advance, wse_X11_advance⟩ hR rfl (sh_1 hW) rfl rfl rfl (Nat.le_of_ble_eq_true rfl) rfl ?_
    refine go_aload0 hc dX9_pathLine_19 ?_
    refine go_iconst (v := 0) hc dX9_pathLine_20 rfl ?_
    replace h := goB2_h h; obtain ⟨x18, M19, e20, h⟩ := h
    refine go_callVi hc dX9_pathLine_21 (mX9_named hk hW e20) ml_RX9_197 yk_X9_named ⟨wim_X9_named, wse_X9_named⟩ hR rfl (sh_67 hW) rfl rfl rfl (Nat.le_of_ble_eq_true rfl) rfl ?_
    refine go_istore2 hc dX9_pathLine_24 ?_
    refine go_iload2 hc dX9_pathLine_25 ?_
    refine go_if_ge hc 31 dX9_pathLine_26 rfl (fun c21 => ?_) (fun c21 => ?_)
    · replace h := goIfF h c21
      refine go_iload2 hc dX9_pathLine_31 ?_
      refine go_iload1 hc dX9_pathLine_32 ?_
      refine go_icmp_eq hc 53 dX9_pathLine_33 rfl (fun c22 => ?_) (fun c22 => ?_)
      · replace h := goIfT h c22
        refine go_aload0 hc dX9_pathLine_53 ?_
        refine go_iconst (v := 3) hc dX9_pathLine_54 rfl ?_
        replace h := goB2_h h; obtain ⟨x23, M24, e25, h⟩ := h
        refine go_callVi hc dX9_pathLine_55 (mX9_fail hk hW e25) ml_RX9_87 yk_X9_fail ⟨wim_X9_fail, wse_X9_fail⟩ hR rfl (sh_67 hW) rfl rfl rfl (Nat.le_of_ble_eq_true rfl) rfl ?_
        replace h := goBind h; obtain ⟨x26, e27, h⟩ := h
        obtain ⟨ze27, rfl⟩ := goZr_h e27
        cases h
        exact go_zret hc dX9_pathLine_58 hr (goZ_n ze27)
      · replace h := goIfF h c22
        refine go_aload0 hc dX9_pathLine_36 ?_
        refine go_getR hc lk_RX9_39 dX9_pathLine_37 (sh_67 hW) (rm_67_7 hW) ?_
        refine go_getR hc lk_RX9_201 dX9_pathLine_40 (shHill_0 hW (mm_67_7 hW)) (rfHill_8 hW (mm_67_7 hW)) ?_
        refine go_iload1 hc dX9_pathLine_43 ?_
        replace h := goBind h; obtain ⟨x28, e29, h⟩ := h
        refine go_iald hc dX9_pathLine_44 (shHill_2 hW (mm_67_7 hW)) e29 ?_
        refine go_iload2 hc dX9_pathLine_45 ?_
        refine go_callSi hc dX9_pathLine_46 (mX12_bit hk hW rfl) ml_RX9_204 yk_X12_bit wst_X12_bit hR rfl rfl rfl (Nat.le_of_ble_eq_true rfl) rfl ?_
        refine go_iconst (v := 1) hc dX9_pathLine_49 rfl ?_
        refine go_icmp_ne hc 59 dX9_pathLine_50 rfl (fun c30 => ?_) (fun c30 => ?_)
        · replace h := goIfF h c30
          refine go_aload0 hc dX9_pathLine_59 ?_
          refine go_getR hc lk_RX9_39 dX9_pathLine_60 (sh_67 hW) (rm_67_7 hW) ?_
          refine go_iload1 hc dX9_pathLine_63 ?_
          refine go_iload2 hc dX9_pathLine_64 ?_
          replace h := goBind h; obtain ⟨M31, e32, h⟩ := h
          refine go_callVv hc dX9_pathLine_65 (mX6_addPath hk hW (mm_67_7 hW) e32) ml_RX9_208 yk_X6_addPath ⟨wim_X6_addPath, wse_X6_addPath⟩ hR rfl (shHill_0 hW (mm_67_7 hW)) rfl rfl rfl (Nat.le_of_ble_eq_true rfl) rfl ?_
          refine go_aload0 hc dX9_pathLine_68 ?_
          refine go_getR hc lk_RX9_35 dX9_pathLine_69 (sh_67 hW) (rf_67_0 hW) ?_
          replace h := goB2_h h; obtain ⟨M33, L34, e35, h⟩ := h
          refine go_callVv hc dX9_pathLine_72 (mX11_advance hk hW e35) ml_RX9_84 yk_X11_advance ⟨wim_X11_advance, wse_X11_advance⟩ hR rfl (sh_1 hW) rfl rfl rfl (Nat.le_of_ble_eq_true rfl) rfl ?_
          refine go_iconst (v := 1) hc dX9_pathLine_75 rfl ?_
          cases h
          exact go_zret hc dX9_pathLine_76 hr rfl
        · replace h := goIfT h c30
          refine go_aload0 hc dX9_pathLine_53 ?_
          refine go_iconst (v := 3) hc dX9_pathLine_54 rfl ?_
          replace h := goB2_h h; obtain ⟨x36, M37, e38, h⟩ := h
          refine go_callVi hc dX9_pathLine_55 (mX9_fail hk hW e38) ml_RX9_87 yk_X9_fail ⟨wim_X9_fail, wse_X9_fail⟩ hR rfl (sh_67 hW) rfl rfl rfl (Nat.le_of_ble_eq_true rfl) rfl ?_
          replace h := goBind h; obtain ⟨x39, e40, h⟩ := h
          obtain ⟨ze40, rfl⟩ := goZr_h e40
          cases h
          exact go_zret hc dX9_pathLine_58 hr (goZ_n ze40)
    · replace h := goIfT h c21
      refine go_iconst (v := 0) hc dX9_pathLine_29 rfl ?_
      cases h
      exact go_zret hc dX9_pathLine_30 hr rfl
  · replace h := goIfT h c14
    refine go_iconst (v := 0) hc dX9_pathLine_10 rfl ?_
    cases h
    exact go_zret hc dX9_pathLine_11 hr rfl
theorem dX9_personLine_0 : decode cX9_personLine 0 = .ok (.aload_n 0, 1) := by decide +kernel
theorem dX9_personLine_1 : decode cX9_personLine 1 = .ok (.invokevirtual 185, 3) := by decide +kernel
theorem dX9_personLine_4 : decode cX9_personLine 4 = .ok (.ifCond .ne 5, 3) := by decide +kernel
theorem dX9_personLine_7 : decode cX9_personLine 7 = .ok (.iconst 0, 1) := by decide +kernel
theorem dX9_personLine_8 : decode cX9_personLine 8 = .ok (.ireturn, 1) := by decide +kernel
theorem dX9_personLine_9 : decode cX9_personLine 9 = .ok (.aload_n 0, 1) := by decide +kernel
theorem dX9_personLine_10 : decode cX9_personLine 10 = .ok (.getfield 39, 3) := by decide +kernel
theorem dX9_personLine_13 : decode cX9_personLine 13 = .ok (.dup, 1) := by decide +kernel
theorem dX9_personLine_14 : decode cX9_personLine 14 = .ok (.getfield 212, 3) := by decide +kernel
theorem dX9_personLine_17 : decode cX9_personLine 17 = .ok (.iconst 1, 1) := by decide +kernel
theorem dX9_personLine_18 : decode cX9_personLine 18 = .ok (.iadd, 1) := by decide +kernel
theorem dX9_personLine_19 : decode cX9_personLine 19 = .ok (.putfield 212, 3) := by decide +kernel
theorem dX9_personLine_22 : decode cX9_personLine 22 = .ok (.aload_n 0, 1) := by decide +kernel
theorem dX9_personLine_23 : decode cX9_personLine 23 = .ok (.iconst 1, 1) := by decide +kernel
theorem dX9_personLine_24 : decode cX9_personLine 24 = .ok (.aload_n 0, 1) := by decide +kernel
theorem dX9_personLine_25 : decode cX9_personLine 25 = .ok (.getfield 39, 3) := by decide +kernel
theorem dX9_personLine_28 : decode cX9_personLine 28 = .ok (.getfield 212, 3) := by decide +kernel
theorem dX9_personLine_31 : decode cX9_personLine 31 = .ok (.iconst 1, 1) := by decide +kernel
theorem dX9_personLine_32 : decode cX9_personLine 32 = .ok (.isub, 1) := by decide +kernel
theorem dX9_personLine_33 : decode cX9_personLine 33 = .ok (.invokevirtual 194, 3) := by decide +kernel
theorem dX9_personLine_36 : decode cX9_personLine 36 = .ok (.ireturn, 1) := by decide +kernel
set_option maxRecDepth 100000 in
set_option maxHeartbeats 4000000 in
theorem mX9_personLine {E : goEv} {l : Launch} {G : goG} {N : Nat} {M : goMI} {L : goML} {R : goMR} {r0 : Int32} {r1 : goMI} {r2 : goML} (hk : goKn E) (hW : goW G R) (h : fX9_personLine N M L R = some (r0, r1, r2)) : Met l yX9_personLine (goCd yX9_personLine cX9_personLine 1 (Option.some FieldType.boolean)) (goRoom 4 81 0 0) (goPre E [.ref 67] G M L R) (goQi E r0 G r1 r2 R) 0 0 (goSet E) := by
  refine goMet pl_RX9 hk (lv := [some (.ref 67)]) rfl (Nat.le_of_ble_eq_true rfl) ?_
  intro X hc hl hR hr hnm
  subst hl
  unfold fX9_personLine at h
  refine go_aload0 hc dX9_personLine_0 ?_
  replace h := goB3_h h; obtain ⟨x11, M12, L13, e14, h⟩ := h
  refine go_callVi hc dX9_personLine_1 (mX9_freshName hk hW e14) ml_RX9_185 yk_X9_freshName ⟨wim_X9_freshName, wse_X9_freshName⟩ hR rfl (sh_67 hW) rfl rfl rfl (Nat.le_of_ble_eq_true rfl) rfl ?_
  refine go_if_ne hc 9 dX9_personLine_4 rfl (fun c15 => ?_) (fun c15 => ?_)
  · replace h := goIfF h c15
    refine go_aload0 hc dX9_personLine_9 ?_
    refine go_getR hc lk_RX9_39 dX9_personLine_10 (sh_67 hW) (rm_67_7 hW) ?_
    refine go_dupr hc dX9_personLine_13 ?_
    refine go_getI hc lk_RX9_212 dX9_personLine_14 (shHill_0 hW (mm_67_7 hW)) ?_
    refine go_iconst (v := 1) hc dX9_personLine_17 rfl ?_
    refine go_iadd hc dX9_personLine_18 ?_
    replace h := goNm_x h; obtain ⟨M16, e17, h⟩ := h
    refine go_ptI hc lk_RX9_212 dX9_personLine_19 (shHill_0 hW (mm_67_7 hW)) e17 ?_
    refine go_aload0 hc dX9_personLine_22 ?_
    refine go_iconst (v := 1) hc dX9_personLine_23 rfl ?_
    refine go_aload0 hc dX9_personLine_24 ?_
    refine go_getR hc lk_RX9_39 dX9_personLine_25 (sh_67 hW) (rm_67_7 hW) ?_
    refine go_getI hc lk_RX9_212 dX9_personLine_28 (shHill_0 hW (mm_67_7 hW)) ?_
    refine go_iconst (v := 1) hc dX9_personLine_31 rfl ?_
    refine go_isub hc dX9_personLine_32 ?_
    replace h := goB3_h h; obtain ⟨x18, M19, L20, e21, h⟩ := h
    refine go_callVi hc dX9_personLine_33 (mX9_tell hk hW e21) ml_RX9_194 yk_X9_tell ⟨wim_X9_tell, wse_X9_tell⟩ hR rfl (sh_67 hW) rfl rfl rfl (Nat.le_of_ble_eq_true rfl) rfl ?_
    replace h := goBind h; obtain ⟨x22, e23, h⟩ := h
    obtain ⟨ze23, rfl⟩ := goZr_h e23
    cases h
    exact go_zret hc dX9_personLine_36 hr (goZ_n ze23)
  · replace h := goIfT h c15
    refine go_iconst (v := 0) hc dX9_personLine_7 rfl ?_
    cases h
    exact go_zret hc dX9_personLine_8 hr rfl
theorem dX9_storyLine_0 : decode cX9_storyLine 0 = .ok (.aload_n 0, 1) := by decide +kernel
theorem dX9_storyLine_1 : decode cX9_storyLine 1 = .ok (.iconst 1, 1) := by decide +kernel
theorem dX9_storyLine_2 : decode cX9_storyLine 2 = .ok (.invokevirtual 197, 3) := by decide +kernel
theorem dX9_storyLine_5 : decode cX9_storyLine 5 = .ok (.istore_n 1, 1) := by decide +kernel
theorem dX9_storyLine_6 : decode cX9_storyLine 6 = .ok (.iload_n 1, 1) := by decide +kernel
theorem dX9_storyLine_7 : decode cX9_storyLine 7 = .ok (.ifCond .ge 5, 3) := by decide +kernel
theorem dX9_storyLine_10 : decode cX9_storyLine 10 = .ok (.iconst 0, 1) := by decide +kernel
theorem dX9_storyLine_11 : decode cX9_storyLine 11 = .ok (.ireturn, 1) := by decide +kernel
theorem dX9_storyLine_12 : decode cX9_storyLine 12 = .ok (.aload_n 0, 1) := by decide +kernel
theorem dX9_storyLine_13 : decode cX9_storyLine 13 = .ok (.getfield 39, 3) := by decide +kernel
theorem dX9_storyLine_16 : decode cX9_storyLine 16 = .ok (.getfield 215, 3) := by decide +kernel
theorem dX9_storyLine_19 : decode cX9_storyLine 19 = .ok (.iload_n 1, 1) := by decide +kernel
theorem dX9_storyLine_20 : decode cX9_storyLine 20 = .ok (.iaload, 1) := by decide +kernel
theorem dX9_storyLine_21 : decode cX9_storyLine 21 = .ok (.iconst 3, 1) := by decide +kernel
theorem dX9_storyLine_22 : decode cX9_storyLine 22 = .ok (.if_icmp .lt 9, 3) := by decide +kernel
theorem dX9_storyLine_25 : decode cX9_storyLine 25 = .ok (.aload_n 0, 1) := by decide +kernel
theorem dX9_storyLine_26 : decode cX9_storyLine 26 = .ok (.iconst 5, 1) := by decide +kernel
theorem dX9_storyLine_27 : decode cX9_storyLine 27 = .ok (.invokevirtual 87, 3) := by decide +kernel
theorem dX9_storyLine_30 : decode cX9_storyLine 30 = .ok (.ireturn, 1) := by decide +kernel
theorem dX9_storyLine_31 : decode cX9_storyLine 31 = .ok (.aload_n 0, 1) := by decide +kernel
theorem dX9_storyLine_32 : decode cX9_storyLine 32 = .ok (.getfield 35, 3) := by decide +kernel
theorem dX9_storyLine_35 : decode cX9_storyLine 35 = .ok (.invokevirtual 84, 3) := by decide +kernel
theorem dX9_storyLine_38 : decode cX9_storyLine 38 = .ok (.iconst 0, 1) := by decide +kernel
theorem dX9_storyLine_39 : decode cX9_storyLine 39 = .ok (.istore_n 2, 1) := by decide +kernel
theorem dX9_storyLine_40 : decode cX9_storyLine 40 = .ok (.iload_n 2, 1) := by decide +kernel
theorem dX9_storyLine_41 : decode cX9_storyLine 41 = .ok (.aload_n 0, 1) := by decide +kernel
theorem dX9_storyLine_42 : decode cX9_storyLine 42 = .ok (.getfield 39, 3) := by decide +kernel
theorem dX9_storyLine_45 : decode cX9_storyLine 45 = .ok (.getfield 179, 3) := by decide +kernel
theorem dX9_storyLine_48 : decode cX9_storyLine 48 = .ok (.if_icmp .gt 80, 3) := by decide +kernel
theorem dX9_storyLine_51 : decode cX9_storyLine 51 = .ok (.iload_n 2, 1) := by decide +kernel
theorem dX9_storyLine_52 : decode cX9_storyLine 52 = .ok (.ifCond .le 24, 3) := by decide +kernel
theorem dX9_storyLine_55 : decode cX9_storyLine 55 = .ok (.aload_n 0, 1) := by decide +kernel
theorem dX9_storyLine_56 : decode cX9_storyLine 56 = .ok (.getfield 35, 3) := by decide +kernel
theorem dX9_storyLine_59 : decode cX9_storyLine 59 = .ok (.getfield 81, 3) := by decide +kernel
theorem dX9_storyLine_62 : decode cX9_storyLine 62 = .ok (.iconst 4, 1) := by decide +kernel
theorem dX9_storyLine_63 : decode cX9_storyLine 63 = .ok (.if_icmp .eq 6, 3) := by decide +kernel
theorem dX9_storyLine_66 : decode cX9_storyLine 66 = .ok (.goto 62, 3) := by decide +kernel
theorem dX9_storyLine_69 : decode cX9_storyLine 69 = .ok (.aload_n 0, 1) := by decide +kernel
theorem dX9_storyLine_70 : decode cX9_storyLine 70 = .ok (.getfield 35, 3) := by decide +kernel
theorem dX9_storyLine_73 : decode cX9_storyLine 73 = .ok (.invokevirtual 84, 3) := by decide +kernel
theorem dX9_storyLine_76 : decode cX9_storyLine 76 = .ok (.aload_n 0, 1) := by decide +kernel
theorem dX9_storyLine_77 : decode cX9_storyLine 77 = .ok (.iconst 0, 1) := by decide +kernel
theorem dX9_storyLine_78 : decode cX9_storyLine 78 = .ok (.invokevirtual 197, 3) := by decide +kernel
theorem dX9_storyLine_81 : decode cX9_storyLine 81 = .ok (.istore_n 3, 1) := by decide +kernel
theorem dX9_storyLine_82 : decode cX9_storyLine 82 = .ok (.iload_n 3, 1) := by decide +kernel
theorem dX9_storyLine_83 : decode cX9_storyLine 83 = .ok (.ifCond .ge 5, 3) := by decide +kernel
theorem dX9_storyLine_86 : decode cX9_storyLine 86 = .ok (.iconst 0, 1) := by decide +kernel
theorem dX9_storyLine_87 : decode cX9_storyLine 87 = .ok (.ireturn, 1) := by decide +kernel
theorem dX9_storyLine_88 : decode cX9_storyLine 88 = .ok (.iload_n 2, 1) := by decide +kernel
theorem dX9_storyLine_89 : decode cX9_storyLine 89 = .ok (.aload_n 0, 1) := by decide +kernel
theorem dX9_storyLine_90 : decode cX9_storyLine 90 = .ok (.getfield 39, 3) := by decide +kernel
theorem dX9_storyLine_93 : decode cX9_storyLine 93 = .ok (.getfield 179, 3) := by decide +kernel
theorem dX9_storyLine_96 : decode cX9_storyLine 96 = .ok (.if_icmp .lt 9, 3) := by decide +kernel
theorem dX9_storyLine_99 : decode cX9_storyLine 99 = .ok (.aload_n 0, 1) := by decide +kernel
theorem dX9_storyLine_100 : decode cX9_storyLine 100 = .ok (.iconst 5, 1) := by decide +kernel
theorem dX9_storyLine_101 : decode cX9_storyLine 101 = .ok (.invokevirtual 87, 3) := by decide +kernel
theorem dX9_storyLine_104 : decode cX9_storyLine 104 = .ok (.ireturn, 1) := by decide +kernel
theorem dX9_storyLine_105 : decode cX9_storyLine 105 = .ok (.aload_n 0, 1) := by decide +kernel
theorem dX9_storyLine_106 : decode cX9_storyLine 106 = .ok (.getfield 39, 3) := by decide +kernel
theorem dX9_storyLine_109 : decode cX9_storyLine 109 = .ok (.iload_n 1, 1) := by decide +kernel
theorem dX9_storyLine_110 : decode cX9_storyLine 110 = .ok (.iload_n 2, 1) := by decide +kernel
theorem dX9_storyLine_111 : decode cX9_storyLine 111 = .ok (.iload_n 3, 1) := by decide +kernel
theorem dX9_storyLine_112 : decode cX9_storyLine 112 = .ok (.invokevirtual 218, 3) := by decide +kernel
theorem dX9_storyLine_115 : decode cX9_storyLine 115 = .ok (.aload_n 0, 1) := by decide +kernel
theorem dX9_storyLine_116 : decode cX9_storyLine 116 = .ok (.getfield 35, 3) := by decide +kernel
theorem dX9_storyLine_119 : decode cX9_storyLine 119 = .ok (.invokevirtual 84, 3) := by decide +kernel
theorem dX9_storyLine_122 : decode cX9_storyLine 122 = .ok (.iinc 2 1, 3) := by decide +kernel
theorem dX9_storyLine_125 : decode cX9_storyLine 125 = .ok (.goto (-85), 3) := by decide +kernel
theorem dX9_storyLine_128 : decode cX9_storyLine 128 = .ok (.aload_n 0, 1) := by decide +kernel
theorem dX9_storyLine_129 : decode cX9_storyLine 129 = .ok (.getfield 39, 3) := by decide +kernel
theorem dX9_storyLine_132 : decode cX9_storyLine 132 = .ok (.getfield 215, 3) := by decide +kernel
theorem dX9_storyLine_135 : decode cX9_storyLine 135 = .ok (.iload_n 1, 1) := by decide +kernel
theorem dX9_storyLine_136 : decode cX9_storyLine 136 = .ok (.dup2, 1) := by decide +kernel
theorem dX9_storyLine_137 : decode cX9_storyLine 137 = .ok (.iaload, 1) := by decide +kernel
theorem dX9_storyLine_138 : decode cX9_storyLine 138 = .ok (.iconst 1, 1) := by decide +kernel
theorem dX9_storyLine_139 : decode cX9_storyLine 139 = .ok (.iadd, 1) := by decide +kernel
theorem dX9_storyLine_140 : decode cX9_storyLine 140 = .ok (.iastore, 1) := by decide +kernel
theorem dX9_storyLine_141 : decode cX9_storyLine 141 = .ok (.iconst 1, 1) := by decide +kernel
theorem dX9_storyLine_142 : decode cX9_storyLine 142 = .ok (.ireturn, 1) := by decide +kernel
set_option maxRecDepth 100000 in
set_option maxHeartbeats 4000000 in
theorem mX9_storyLine_L40 {E : goEv} {X : goX} {G : goG} {R : goMR} {N : Nat} {v1 : Int32} {r0 : Int32} {r1 : goMI} {r2 : goML} (hc : goCx E X cX9_storyLine RX9 4) (hk : goKn E) (hR : X.2.2.2.1 = goRoom 3 61 0 0) (hr : X.2.2.2.2.2.2.2.2.1.sig.returnType = (Option.some FieldType.boolean)) (hW : goW G R) : ∀ (n : Nat) (v2 : Int32) (M : goMI) (L : goML), lX9_storyLine_40 N v1 R n v2 M L = some (r0, r1, r2) → ∀ (d3 : Option Value), goA E X G 0 0 (goMQ X E (goQi E r0 G r1 r2 R) 0 0) 40 [some (.ref 67), some (.int v1), some (.int v2), d3] [] M L R := by
  intro n
  induction n with
  | zero => intro v2 M L h; exact nomatch h
  | succ n ih =>
    intro v2 M L h d3
    rw [lX9_storyLine_40] at h
    refine go_iload2 hc dX9_storyLine_40 ?_
    refine go_aload0 hc dX9_storyLine_41 ?_
    refine go_getR hc lk_RX9_39 dX9_storyLine_42 (sh_67 hW) (rm_67_7 hW) ?_
    refine go_getI hc lk_RX9_179 dX9_storyLine_45 (shHill_0 hW (mm_67_7 hW)) ?_
    refine go_icmp_gt hc 128 dX9_storyLine_48 rfl (fun c21 => ?_) (fun c21 => ?_)
    · replace h := goIfF h c21
      refine go_aload0 hc dX9_storyLine_128 ?_
      refine go_getR hc lk_RX9_39 dX9_storyLine_129 (sh_67 hW) (rm_67_7 hW) ?_
      refine go_getR hc lk_RX9_215 dX9_storyLine_132 (shHill_0 hW (mm_67_7 hW)) (rfHill_11 hW (mm_67_7 hW)) ?_
      refine go_iload1 hc dX9_storyLine_135 ?_
      refine go_dup2 hc dX9_storyLine_136 ?_
      replace h := goBind h; obtain ⟨x22, e23, h⟩ := h
      refine go_iald hc dX9_storyLine_137 (shHill_5 hW (mm_67_7 hW)) e23 ?_
      refine go_iconst (v := 1) hc dX9_storyLine_138 rfl ?_
      refine go_iadd hc dX9_storyLine_139 ?_
      replace h := goBind h; obtain ⟨M24, e25, h⟩ := h
      refine go_iast hc dX9_storyLine_140 (shHill_5 hW (mm_67_7 hW)) e25 ?_
      refine go_iconst (v := 1) hc dX9_storyLine_141 rfl ?_
      cases h
      exact go_zret hc dX9_storyLine_142 hr rfl
    · replace h := goIfT h c21
      refine go_iload2 hc dX9_storyLine_51 ?_
      refine go_if_le hc 76 dX9_storyLine_52 rfl (fun c26 => ?_) (fun c26 => ?_)
      · replace h := goIfF h c26
        refine go_aload0 hc dX9_storyLine_76 ?_
        refine go_iconst (v := 0) hc dX9_storyLine_77 rfl ?_
        replace h := goB2_h h; obtain ⟨x27, M28, e29, h⟩ := h
        refine go_callVi hc dX9_storyLine_78 (mX9_named hk hW e29) ml_RX9_197 yk_X9_named ⟨wim_X9_named, wse_X9_named⟩ hR rfl (sh_67 hW) rfl rfl rfl (Nat.le_of_ble_eq_true rfl) rfl ?_
        refine go_istore3 hc dX9_storyLine_81 ?_
        refine go_iload3 hc dX9_storyLine_82 ?_
        refine go_if_ge hc 88 dX9_storyLine_83 rfl (fun c30 => ?_) (fun c30 => ?_)
        · replace h := goIfF h c30
          refine go_iload2 hc dX9_storyLine_88 ?_
          refine go_aload0 hc dX9_storyLine_89 ?_
          refine go_getR hc lk_RX9_39 dX9_storyLine_90 (sh_67 hW) (rm_67_7 hW) ?_
          refine go_getI hc lk_RX9_179 dX9_storyLine_93 (shHill_0 hW (mm_67_7 hW)) ?_
          refine go_icmp_lt hc 105 dX9_storyLine_96 rfl (fun c31 => ?_) (fun c31 => ?_)
          · replace h := goIfF h c31
            refine go_aload0 hc dX9_storyLine_105 ?_
            refine go_getR hc lk_RX9_39 dX9_storyLine_106 (sh_67 hW) (rm_67_7 hW) ?_
            refine go_iload1 hc dX9_storyLine_109 ?_
            refine go_iload2 hc dX9_storyLine_110 ?_
            refine go_iload3 hc dX9_storyLine_111 ?_
            replace h := goBind h; obtain ⟨M32, e33, h⟩ := h
            refine go_callVv hc dX9_storyLine_112 (mX6_tellFrom hk hW (mm_67_7 hW) e33) ml_RX9_218 yk_X6_tellFrom ⟨wim_X6_tellFrom, wse_X6_tellFrom⟩ hR rfl (shHill_0 hW (mm_67_7 hW)) rfl rfl rfl (Nat.le_of_ble_eq_true rfl) rfl ?_
            refine go_aload0 hc dX9_storyLine_115 ?_
            refine go_getR hc lk_RX9_35 dX9_storyLine_116 (sh_67 hW) (rf_67_0 hW) ?_
            replace h := goB2_h h; obtain ⟨M34, L35, e36, h⟩ := h
            refine go_callVv hc dX9_storyLine_119 (mX11_advance hk hW e36) ml_RX9_84 yk_X11_advance ⟨wim_X11_advance, wse_X11_advance⟩ hR rfl (sh_1 hW) rfl rfl rfl (Nat.le_of_ble_eq_true rfl) rfl ?_
            refine go_iinc2 (v := (v2 + 1)) hc dX9_storyLine_122 rfl ?_
            refine go_goto hc 40 dX9_storyLine_125 rfl ?_
            exact ih _ _ _ h _
          · replace h := goIfT h c31
            refine go_aload0 hc dX9_storyLine_99 ?_
            refine go_iconst (v := 5) hc dX9_storyLine_100 rfl ?_
            replace h := goB2_h h; obtain ⟨x37, M38, e39, h⟩ := h
            refine go_callVi hc dX9_storyLine_101 (mX9_fail hk hW e39) ml_RX9_87 yk_X9_fail ⟨wim_X9_fail, wse_X9_fail⟩ hR rfl (sh_67 hW) rfl rfl rfl (Nat.le_of_ble_eq_true rfl) rfl ?_
            replace h := goBind h; obtain ⟨x40, e41, h⟩ := h
            obtain ⟨ze41, rfl⟩ := goZr_h e41
            cases h
            exact go_zret hc dX9_storyLine_104 hr (goZ_n ze41)
        · replace h := goIfT h c30
          refine go_iconst (v := 0) hc dX9_storyLine_86 rfl ?_
          cases h
          exact go_zret hc dX9_storyLine_87 hr rfl
      · replace h := goIfT h c26
        refine go_aload0 hc dX9_storyLine_55 ?_
        refine go_getR hc lk_RX9_35 dX9_storyLine_56 (sh_67 hW) (rf_67_0 hW) ?_
        refine go_getI hc lk_RX9_81 dX9_storyLine_59 (sh_1 hW) ?_
        refine go_iconst (v := 4) hc dX9_storyLine_62 rfl ?_
        refine go_icmp_eq hc 69 dX9_storyLine_63 rfl (fun c42 => ?_) (fun c42 => ?_)
        · replace h := goIfT h c42
          refine go_aload0 hc dX9_storyLine_69 ?_
          refine go_getR hc lk_RX9_35 dX9_storyLine_70 (sh_67 hW) (rf_67_0 hW) ?_
          replace h := goB2_h h; obtain ⟨M43, L44, e45, h⟩ := h
          refine go_callVv hc dX9_storyLine_73 (mX11_advance hk hW e45) ml_RX9_84 yk_X11_advance ⟨wim_X11_advance, wse_X11_advance⟩ hR rfl (sh_1 hW) rfl rfl rfl (Nat.le_of_ble_eq_true rfl) rfl ?_
          refine go_aload0 hc dX9_storyLine_76 ?_
          refine go_iconst (v := 0) hc dX9_storyLine_77 rfl ?_
          replace h := goB2_h h; obtain ⟨x46, M47, e48, h⟩ := h
          refine go_callVi hc dX9_storyLine_78 (mX9_named hk hW e48) ml_RX9_197 yk_X9_named ⟨wim_X9_named, wse_X9_named⟩ hR rfl (sh_67 hW) rfl rfl rfl (Nat.le_of_ble_eq_true rfl) rfl ?_
          refine go_istore3 hc dX9_storyLine_81 ?_
          refine go_iload3 hc dX9_storyLine_82 ?_
          refine go_if_ge hc 88 dX9_storyLine_83 rfl (fun c49 => ?_) (fun c49 => ?_)
          · replace h := goIfF h c49
            refine go_iload2 hc dX9_storyLine_88 ?_
            refine go_aload0 hc dX9_storyLine_89 ?_
            refine go_getR hc lk_RX9_39 dX9_storyLine_90 (sh_67 hW) (rm_67_7 hW) ?_
            refine go_getI hc lk_RX9_179 dX9_storyLine_93 (shHill_0 hW (mm_67_7 hW)) ?_
            refine go_icmp_lt hc 105 dX9_storyLine_96 rfl (fun c50 => ?_) (fun c50 => ?_)
            · replace h := goIfF h c50
              refine go_aload0 hc dX9_storyLine_105 ?_
              refine go_getR hc lk_RX9_39 dX9_storyLine_106 (sh_67 hW) (rm_67_7 hW) ?_
              refine go_iload1 hc dX9_storyLine_109 ?_
              refine go_iload2 hc dX9_storyLine_110 ?_
              refine go_iload3 hc dX9_storyLine_111 ?_
              replace h := goBind h; obtain ⟨M51, e52, h⟩ := h
              refine go_callVv hc dX9_storyLine_112 (mX6_tellFrom hk hW (mm_67_7 hW) e52) ml_RX9_218 yk_X6_tellFrom ⟨wim_X6_tellFrom, wse_X6_tellFrom⟩ hR rfl (shHill_0 hW (mm_67_7 hW)) rfl rfl rfl (Nat.le_of_ble_eq_true rfl) rfl ?_
              refine go_aload0 hc dX9_storyLine_115 ?_
              refine go_getR hc lk_RX9_35 dX9_storyLine_116 (sh_67 hW) (rf_67_0 hW) ?_
              replace h := goB2_h h; obtain ⟨M53, L54, e55, h⟩ := h
              refine go_callVv hc dX9_storyLine_119 (mX11_advance hk hW e55) ml_RX9_84 yk_X11_advance ⟨wim_X11_advance, wse_X11_advance⟩ hR rfl (sh_1 hW) rfl rfl rfl (Nat.le_of_ble_eq_true rfl) rfl ?_
              refine go_iinc2 (v := (v2 + 1)) hc dX9_storyLine_122 rfl ?_
              refine go_goto hc 40 dX9_storyLine_125 rfl ?_
              exact ih _ _ _ h _
            · replace h := goIfT h c50
              refine go_aload0 hc dX9_storyLine_99 ?_
              refine go_iconst (v := 5) hc dX9_storyLine_100 rfl ?_
              replace h := goB2_h h; obtain ⟨x56, M57, e58, h⟩ := h
              refine go_callVi hc dX9_storyLine_101 (mX9_fail hk hW e58) ml_RX9_87 yk_X9_fail ⟨wim_X9_fail, wse_X9_fail⟩ hR rfl (sh_67 hW) rfl rfl rfl (Nat.le_of_ble_eq_true rfl) rfl ?_
              replace h := goBind h; obtain ⟨x59, e60, h⟩ := h
              obtain ⟨ze60, rfl⟩ := goZr_h e60
              cases h
              exact go_zret hc dX9_storyLine_104 hr (goZ_n ze60)
          · replace h := goIfT h c49
            refine go_iconst (v := 0) hc dX9_storyLine_86 rfl ?_
            cases h
            exact go_zret hc dX9_storyLine_87 hr rfl
        · replace h := goIfF h c42
          refine go_goto hc 128 dX9_storyLine_66 rfl ?_
          refine go_aload0 hc dX9_storyLine_128 ?_
          refine go_getR hc lk_RX9_39 dX9_storyLine_129 (sh_67 hW) (rm_67_7 hW) ?_
          refine go_getR hc lk_RX9_215 dX9_storyLine_132 (shHill_0 hW (mm_67_7 hW)) (rfHill_11 hW (mm_67_7 hW)) ?_
          refine go_iload1 hc dX9_storyLine_135 ?_
          refine go_dup2 hc dX9_storyLine_136 ?_
          replace h := goBind h; obtain ⟨x61, e62, h⟩ := h
          refine go_iald hc dX9_storyLine_137 (shHill_5 hW (mm_67_7 hW)) e62 ?_
          refine go_iconst (v := 1) hc dX9_storyLine_138 rfl ?_
          refine go_iadd hc dX9_storyLine_139 ?_
          replace h := goBind h; obtain ⟨M63, e64, h⟩ := h
          refine go_iast hc dX9_storyLine_140 (shHill_5 hW (mm_67_7 hW)) e64 ?_
          refine go_iconst (v := 1) hc dX9_storyLine_141 rfl ?_
          cases h
          exact go_zret hc dX9_storyLine_142 hr rfl
set_option maxRecDepth 100000 in
set_option maxHeartbeats 4000000 in
theorem mX9_storyLine {E : goEv} {l : Launch} {G : goG} {N : Nat} {M : goMI} {L : goML} {R : goMR} {r0 : Int32} {r1 : goMI} {r2 : goML} (hk : goKn E) (hW : goW G R) (h : fX9_storyLine N M L R = some (r0, r1, r2)) : Met l yX9_storyLine (goCd yX9_storyLine cX9_storyLine 4 (Option.some FieldType.boolean)) (goRoom 3 61 0 0) (goPre E [.ref 67] G M L R) (goQi E r0 G r1 r2 R) 0 0 (goSet E) := by
  refine goMet pl_RX9 hk (lv := [some (.ref 67), none, none, none]) rfl (Nat.le_of_ble_eq_true rfl) ?_
  intro X hc hl hR hr hnm
  subst hl
  unfold fX9_storyLine at h
  refine go_aload0 hc dX9_storyLine_0 ?_
  refine go_iconst (v := 1) hc dX9_storyLine_1 rfl ?_
  replace h := goB2_h h; obtain ⟨x11, M12, e13, h⟩ := h
  refine go_callVi hc dX9_storyLine_2 (mX9_named hk hW e13) ml_RX9_197 yk_X9_named ⟨wim_X9_named, wse_X9_named⟩ hR rfl (sh_67 hW) rfl rfl rfl (Nat.le_of_ble_eq_true rfl) rfl ?_
  refine go_istore1 hc dX9_storyLine_5 ?_
  refine go_iload1 hc dX9_storyLine_6 ?_
  refine go_if_ge hc 12 dX9_storyLine_7 rfl (fun c14 => ?_) (fun c14 => ?_)
  · replace h := goIfF h c14
    refine go_aload0 hc dX9_storyLine_12 ?_
    refine go_getR hc lk_RX9_39 dX9_storyLine_13 (sh_67 hW) (rm_67_7 hW) ?_
    refine go_getR hc lk_RX9_215 dX9_storyLine_16 (shHill_0 hW (mm_67_7 hW)) (rfHill_11 hW (mm_67_7 hW)) ?_
    refine go_iload1 hc dX9_storyLine_19 ?_
    replace h := goBind h; obtain ⟨x15, e16, h⟩ := h
    refine go_iald hc dX9_storyLine_20 (shHill_5 hW (mm_67_7 hW)) e16 ?_
    refine go_iconst (v := 3) hc dX9_storyLine_21 rfl ?_
    refine go_icmp_lt hc 31 dX9_storyLine_22 rfl (fun c17 => ?_) (fun c17 => ?_)
    · replace h := goIfF h c17
      refine go_aload0 hc dX9_storyLine_31 ?_
      refine go_getR hc lk_RX9_35 dX9_storyLine_32 (sh_67 hW) (rf_67_0 hW) ?_
      replace h := goB2_h h; obtain ⟨M18, L19, e20, h⟩ := h
      refine go_callVv hc dX9_storyLine_35 (mX11_advance hk hW e20) ml_RX9_84 yk_X11_advance ⟨wim_X11_advance, wse_X11_advance⟩ hR rfl (sh_1 hW) rfl rfl rfl (Nat.le_of_ble_eq_true rfl) rfl ?_
      refine go_iconst (v := 0) hc dX9_storyLine_38 rfl ?_
      refine go_istore2 hc dX9_storyLine_39 ?_
      exact mX9_storyLine_L40 hc hk hR hr hW _ _ _ _ h _
    · replace h := goIfT h c17
      refine go_aload0 hc dX9_storyLine_25 ?_
      refine go_iconst (v := 5) hc dX9_storyLine_26 rfl ?_
      replace h := goB2_h h; obtain ⟨x65, M66, e67, h⟩ := h
      refine go_callVi hc dX9_storyLine_27 (mX9_fail hk hW e67) ml_RX9_87 yk_X9_fail ⟨wim_X9_fail, wse_X9_fail⟩ hR rfl (sh_67 hW) rfl rfl rfl (Nat.le_of_ble_eq_true rfl) rfl ?_
      replace h := goBind h; obtain ⟨x68, e69, h⟩ := h
      obtain ⟨ze69, rfl⟩ := goZr_h e69
      cases h
      exact go_zret hc dX9_storyLine_30 hr (goZ_n ze69)
  · replace h := goIfT h c14
    refine go_iconst (v := 0) hc dX9_storyLine_10 rfl ?_
    cases h
    exact go_zret hc dX9_storyLine_11 hr rfl
theorem dX9_kindOf_0 : decode cX9_kindOf 0 = .ok (.aload_n 0, 1) := by decide +kernel
theorem dX9_kindOf_1 : decode cX9_kindOf 1 = .ok (.getfield 39, 3) := by decide +kernel
theorem dX9_kindOf_4 : decode cX9_kindOf 4 = .ok (.getfield 222, 3) := by decide +kernel
theorem dX9_kindOf_7 : decode cX9_kindOf 7 = .ok (.astore_n 2, 1) := by decide +kernel
theorem dX9_kindOf_8 : decode cX9_kindOf 8 = .ok (.aload_n 2, 1) := by decide +kernel
theorem dX9_kindOf_9 : decode cX9_kindOf 9 = .ok (.getfield 246, 3) := by decide +kernel
theorem dX9_kindOf_12 : decode cX9_kindOf 12 = .ok (.iload_n 1, 1) := by decide +kernel
theorem dX9_kindOf_13 : decode cX9_kindOf 13 = .ok (.bipush (-2), 2) := by decide +kernel
theorem dX9_kindOf_15 : decode cX9_kindOf 15 = .ok (.iastore, 1) := by decide +kernel
theorem dX9_kindOf_16 : decode cX9_kindOf 16 = .ok (.aload_n 0, 1) := by decide +kernel
theorem dX9_kindOf_17 : decode cX9_kindOf 17 = .ok (.getfield 35, 3) := by decide +kernel
theorem dX9_kindOf_20 : decode cX9_kindOf 20 = .ok (.ldc 249, 2) := by decide +kernel
theorem dX9_kindOf_22 : decode cX9_kindOf 22 = .ok (.invokevirtual 251, 3) := by decide +kernel
theorem dX9_kindOf_25 : decode cX9_kindOf 25 = .ok (.ifCond .eq 13, 3) := by decide +kernel
theorem dX9_kindOf_28 : decode cX9_kindOf 28 = .ok (.aload_n 2, 1) := by decide +kernel
theorem dX9_kindOf_29 : decode cX9_kindOf 29 = .ok (.getfield 254, 3) := by decide +kernel
theorem dX9_kindOf_32 : decode cX9_kindOf 32 = .ok (.iload_n 1, 1) := by decide +kernel
theorem dX9_kindOf_33 : decode cX9_kindOf 33 = .ok (.iconst 0, 1) := by decide +kernel
theorem dX9_kindOf_34 : decode cX9_kindOf 34 = .ok (.iastore, 1) := by decide +kernel
theorem dX9_kindOf_35 : decode cX9_kindOf 35 = .ok (.goto 104, 3) := by decide +kernel
theorem dX9_kindOf_38 : decode cX9_kindOf 38 = .ok (.aload_n 0, 1) := by decide +kernel
theorem dX9_kindOf_39 : decode cX9_kindOf 39 = .ok (.getfield 35, 3) := by decide +kernel
theorem dX9_kindOf_42 : decode cX9_kindOf 42 = .ok (.ldc_w 256, 3) := by decide +kernel
theorem dX9_kindOf_45 : decode cX9_kindOf 45 = .ok (.invokevirtual 251, 3) := by decide +kernel
theorem dX9_kindOf_48 : decode cX9_kindOf 48 = .ok (.ifCond .eq 13, 3) := by decide +kernel
theorem dX9_kindOf_51 : decode cX9_kindOf 51 = .ok (.aload_n 2, 1) := by decide +kernel
theorem dX9_kindOf_52 : decode cX9_kindOf 52 = .ok (.getfield 254, 3) := by decide +kernel
theorem dX9_kindOf_55 : decode cX9_kindOf 55 = .ok (.iload_n 1, 1) := by decide +kernel
theorem dX9_kindOf_56 : decode cX9_kindOf 56 = .ok (.iconst 1, 1) := by decide +kernel
theorem dX9_kindOf_57 : decode cX9_kindOf 57 = .ok (.iastore, 1) := by decide +kernel
theorem dX9_kindOf_58 : decode cX9_kindOf 58 = .ok (.goto 81, 3) := by decide +kernel
theorem dX9_kindOf_61 : decode cX9_kindOf 61 = .ok (.aload_n 0, 1) := by decide +kernel
theorem dX9_kindOf_62 : decode cX9_kindOf 62 = .ok (.getfield 35, 3) := by decide +kernel
theorem dX9_kindOf_65 : decode cX9_kindOf 65 = .ok (.ldc_w 258, 3) := by decide +kernel
theorem dX9_kindOf_68 : decode cX9_kindOf 68 = .ok (.invokevirtual 251, 3) := by decide +kernel
theorem dX9_kindOf_71 : decode cX9_kindOf 71 = .ok (.ifCond .eq 13, 3) := by decide +kernel
theorem dX9_kindOf_74 : decode cX9_kindOf 74 = .ok (.aload_n 2, 1) := by decide +kernel
theorem dX9_kindOf_75 : decode cX9_kindOf 75 = .ok (.getfield 254, 3) := by decide +kernel
theorem dX9_kindOf_78 : decode cX9_kindOf 78 = .ok (.iload_n 1, 1) := by decide +kernel
theorem dX9_kindOf_79 : decode cX9_kindOf 79 = .ok (.iconst 2, 1) := by decide +kernel
theorem dX9_kindOf_80 : decode cX9_kindOf 80 = .ok (.iastore, 1) := by decide +kernel
theorem dX9_kindOf_81 : decode cX9_kindOf 81 = .ok (.goto 58, 3) := by decide +kernel
theorem dX9_kindOf_84 : decode cX9_kindOf 84 = .ok (.aload_n 0, 1) := by decide +kernel
theorem dX9_kindOf_85 : decode cX9_kindOf 85 = .ok (.getfield 35, 3) := by decide +kernel
theorem dX9_kindOf_88 : decode cX9_kindOf 88 = .ok (.ldc_w 260, 3) := by decide +kernel
theorem dX9_kindOf_91 : decode cX9_kindOf 91 = .ok (.invokevirtual 251, 3) := by decide +kernel
theorem dX9_kindOf_94 : decode cX9_kindOf 94 = .ok (.ifCond .eq 39, 3) := by decide +kernel
theorem dX9_kindOf_97 : decode cX9_kindOf 97 = .ok (.aload_n 2, 1) := by decide +kernel
theorem dX9_kindOf_98 : decode cX9_kindOf 98 = .ok (.getfield 254, 3) := by decide +kernel
theorem dX9_kindOf_101 : decode cX9_kindOf 101 = .ok (.iload_n 1, 1) := by decide +kernel
theorem dX9_kindOf_102 : decode cX9_kindOf 102 = .ok (.iconst 3, 1) := by decide +kernel
theorem dX9_kindOf_103 : decode cX9_kindOf 103 = .ok (.iastore, 1) := by decide +kernel
theorem dX9_kindOf_104 : decode cX9_kindOf 104 = .ok (.aload_n 0, 1) := by decide +kernel
theorem dX9_kindOf_105 : decode cX9_kindOf 105 = .ok (.getfield 35, 3) := by decide +kernel
theorem dX9_kindOf_108 : decode cX9_kindOf 108 = .ok (.invokevirtual 84, 3) := by decide +kernel
theorem dX9_kindOf_111 : decode cX9_kindOf 111 = .ok (.aload_n 2, 1) := by decide +kernel
theorem dX9_kindOf_112 : decode cX9_kindOf 112 = .ok (.getfield 246, 3) := by decide +kernel
theorem dX9_kindOf_115 : decode cX9_kindOf 115 = .ok (.iload_n 1, 1) := by decide +kernel
theorem dX9_kindOf_116 : decode cX9_kindOf 116 = .ok (.aload_n 0, 1) := by decide +kernel
theorem dX9_kindOf_117 : decode cX9_kindOf 117 = .ok (.iconst 2, 1) := by decide +kernel
theorem dX9_kindOf_118 : decode cX9_kindOf 118 = .ok (.invokevirtual 197, 3) := by decide +kernel
theorem dX9_kindOf_121 : decode cX9_kindOf 121 = .ok (.iastore, 1) := by decide +kernel
theorem dX9_kindOf_122 : decode cX9_kindOf 122 = .ok (.aload_n 2, 1) := by decide +kernel
theorem dX9_kindOf_123 : decode cX9_kindOf 123 = .ok (.getfield 246, 3) := by decide +kernel
theorem dX9_kindOf_126 : decode cX9_kindOf 126 = .ok (.iload_n 1, 1) := by decide +kernel
theorem dX9_kindOf_127 : decode cX9_kindOf 127 = .ok (.iaload, 1) := by decide +kernel
theorem dX9_kindOf_128 : decode cX9_kindOf 128 = .ok (.ifCond .ge 11, 3) := by decide +kernel
theorem dX9_kindOf_131 : decode cX9_kindOf 131 = .ok (.iconst 0, 1) := by decide +kernel
theorem dX9_kindOf_132 : decode cX9_kindOf 132 = .ok (.ireturn, 1) := by decide +kernel
theorem dX9_kindOf_133 : decode cX9_kindOf 133 = .ok (.aload_n 0, 1) := by decide +kernel
theorem dX9_kindOf_134 : decode cX9_kindOf 134 = .ok (.iconst 1, 1) := by decide +kernel
theorem dX9_kindOf_135 : decode cX9_kindOf 135 = .ok (.invokevirtual 87, 3) := by decide +kernel
theorem dX9_kindOf_138 : decode cX9_kindOf 138 = .ok (.ireturn, 1) := by decide +kernel
theorem dX9_kindOf_139 : decode cX9_kindOf 139 = .ok (.aload_n 0, 1) := by decide +kernel
theorem dX9_kindOf_140 : decode cX9_kindOf 140 = .ok (.getfield 35, 3) := by decide +kernel
theorem dX9_kindOf_143 : decode cX9_kindOf 143 = .ok (.invokevirtual 84, 3) := by decide +kernel
theorem dX9_kindOf_146 : decode cX9_kindOf 146 = .ok (.iconst 1, 1) := by decide +kernel
theorem dX9_kindOf_147 : decode cX9_kindOf 147 = .ok (.ireturn, 1) := by decide +kernel
set_option maxRecDepth 100000 in
set_option maxHeartbeats 4000000 in
theorem mX9_kindOf {E : goEv} {l : Launch} {G : goG} {N : Nat} {M : goMI} {L : goML} {R : goMR} {v1 : Int32} {r0 : Int32} {r1 : goMI} {r2 : goML} (hk : goKn E) (hW : goW G R) (h : fX9_kindOf N M L R v1 = some (r0, r1, r2)) : Met l yX9_kindOf (goCd yX9_kindOf cX9_kindOf 3 (Option.some FieldType.boolean)) (goRoom 7 150 0 0) (goPre E [.ref 67, .int v1] G M L R) (goQi E r0 G r1 r2 R) 0 0 (goSet E) := by
  refine goMet pl_RX9 hk (lv := [some (.ref 67), some (.int v1), none]) rfl (Nat.le_of_ble_eq_true rfl) ?_
  intro X hc hl hR hr hnm
  subst hl
  unfold fX9_kindOf at h
  refine go_aload0 hc dX9_kindOf_0 ?_
  refine go_getR hc lk_RX9_39 dX9_kindOf_1 (sh_67 hW) (rm_67_7 hW) ?_
  refine go_getR hc lk_RX9_222 dX9_kindOf_4 (shHill_0 hW (mm_67_7 hW)) (rfHill_15 hW (mm_67_7 hW)) ?_
  refine go_astore2 hc dX9_kindOf_7 ?_
  refine go_aload2 hc dX9_kindOf_8 ?_
  refine go_getR hc lk_RX9_246 dX9_kindOf_9 (shHerd_0 hW (subHerd (mm_67_7 hW))) (rfHerd_3 hW (subHerd (mm_67_7 hW))) ?_
  refine go_iload1 hc dX9_kindOf_12 ?_
  refine go_bipush (v := (-2)) hc dX9_kindOf_13 rfl ?_
  replace h := goBind h; obtain ⟨M11, e12, h⟩ := h
  refine go_iast hc dX9_kindOf_15 (shHerd_2 hW (subHerd (mm_67_7 hW))) e12 ?_
  refine go_aload0 hc dX9_kindOf_16 ?_
  refine go_getR hc lk_RX9_35 dX9_kindOf_17 (sh_67 hW) (rf_67_0 hW) ?_
  refine go_ldcS hc (i := 5) (q := 1000105) (Nat.le_of_ble_eq_true rfl) rfl rfl rfl dX9_kindOf_20 ?_
  replace h := goBind h; obtain ⟨x13, e14, h⟩ := h
  refine go_callVi hc dX9_kindOf_22 (mX11_spells hk hW e14) ml_RX9_251 yk_X11_spells ⟨wim_X11_spells, wse_X11_spells⟩ hR rfl (sh_1 hW) rfl rfl rfl (Nat.le_of_ble_eq_true rfl) rfl ?_
  refine go_if_eq hc 38 dX9_kindOf_25 rfl (fun c15 => ?_) (fun c15 => ?_)
  · replace h := goIfT h c15
    refine go_aload0 hc dX9_kindOf_38 ?_
    refine go_getR hc lk_RX9_35 dX9_kindOf_39 (sh_67 hW) (rf_67_0 hW) ?_
    refine go_ldcwS hc (i := 6) (q := 1000106) (Nat.le_of_ble_eq_true rfl) rfl rfl rfl dX9_kindOf_42 ?_
    replace h := goBind h; obtain ⟨x16, e17, h⟩ := h
    refine go_callVi hc dX9_kindOf_45 (mX11_spells hk hW e17) ml_RX9_251 yk_X11_spells ⟨wim_X11_spells, wse_X11_spells⟩ hR rfl (sh_1 hW) rfl rfl rfl (Nat.le_of_ble_eq_true rfl) rfl ?_
    refine go_if_eq hc 61 dX9_kindOf_48 rfl (fun c18 => ?_) (fun c18 => ?_)
    · replace h := goIfT h c18
      refine go_aload0 hc dX9_kindOf_61 ?_
      refine go_getR hc lk_RX9_35 dX9_kindOf_62 (sh_67 hW) (rf_67_0 hW) ?_
      refine go_ldcwS hc (i := 7) (q := 1000107) (Nat.le_of_ble_eq_true rfl) rfl rfl rfl dX9_kindOf_65 ?_
      replace h := goBind h; obtain ⟨x19, e20, h⟩ := h
      refine go_callVi hc dX9_kindOf_68 (mX11_spells hk hW e20) ml_RX9_251 yk_X11_spells ⟨wim_X11_spells, wse_X11_spells⟩ hR rfl (sh_1 hW) rfl rfl rfl (Nat.le_of_ble_eq_true rfl) rfl ?_
      refine go_if_eq hc 84 dX9_kindOf_71 rfl (fun c21 => ?_) (fun c21 => ?_)
      · replace h := goIfT h c21
        refine go_aload0 hc dX9_kindOf_84 ?_
        refine go_getR hc lk_RX9_35 dX9_kindOf_85 (sh_67 hW) (rf_67_0 hW) ?_
        refine go_ldcwS hc (i := 8) (q := 1000108) (Nat.le_of_ble_eq_true rfl) rfl rfl rfl dX9_kindOf_88 ?_
        replace h := goBind h; obtain ⟨x22, e23, h⟩ := h
        refine go_callVi hc dX9_kindOf_91 (mX11_spells hk hW e23) ml_RX9_251 yk_X11_spells ⟨wim_X11_spells, wse_X11_spells⟩ hR rfl (sh_1 hW) rfl rfl rfl (Nat.le_of_ble_eq_true rfl) rfl ?_
        refine go_if_eq hc 133 dX9_kindOf_94 rfl (fun c24 => ?_) (fun c24 => ?_)
        · replace h := goIfT h c24
          refine go_aload0 hc dX9_kindOf_133 ?_
          refine go_iconst (v := 1) hc dX9_kindOf_134 rfl ?_
          replace h := goB2_h h; obtain ⟨x25, M26, e27, h⟩ := h
          refine go_callVi hc dX9_kindOf_135 (mX9_fail hk hW e27) ml_RX9_87 yk_X9_fail ⟨wim_X9_fail, wse_X9_fail⟩ hR rfl (sh_67 hW) rfl rfl rfl (Nat.le_of_ble_eq_true rfl) rfl ?_
          replace h := goBind h; obtain ⟨x28, e29, h⟩ := h
          obtain ⟨ze29, rfl⟩ := goZr_h e29
          cases h
          exact go_zret hc dX9_kindOf_138 hr (goZ_n ze29)
        · replace h := goIfF h c24
          refine go_aload2 hc dX9_kindOf_97 ?_
          refine go_getR hc lk_RX9_254 dX9_kindOf_98 (shHerd_0 hW (subHerd (mm_67_7 hW))) (rfHerd_2 hW (subHerd (mm_67_7 hW))) ?_
          refine go_iload1 hc dX9_kindOf_101 ?_
          refine go_iconst (v := 3) hc dX9_kindOf_102 rfl ?_
          replace h := goBind h; obtain ⟨M30, e31, h⟩ := h
          refine go_iast hc dX9_kindOf_103 (shHerd_1 hW (subHerd (mm_67_7 hW))) e31 ?_
          refine go_aload0 hc dX9_kindOf_104 ?_
          refine go_getR hc lk_RX9_35 dX9_kindOf_105 (sh_67 hW) (rf_67_0 hW) ?_
          replace h := goB2_h h; obtain ⟨M32, L33, e34, h⟩ := h
          refine go_callVv hc dX9_kindOf_108 (mX11_advance hk hW e34) ml_RX9_84 yk_X11_advance ⟨wim_X11_advance, wse_X11_advance⟩ hR rfl (sh_1 hW) rfl rfl rfl (Nat.le_of_ble_eq_true rfl) rfl ?_
          refine go_aload2 hc dX9_kindOf_111 ?_
          refine go_getR hc lk_RX9_246 dX9_kindOf_112 (shHerd_0 hW (subHerd (mm_67_7 hW))) (rfHerd_3 hW (subHerd (mm_67_7 hW))) ?_
          refine go_iload1 hc dX9_kindOf_115 ?_
          refine go_aload0 hc dX9_kindOf_116 ?_
          refine go_iconst (v := 2) hc dX9_kindOf_117 rfl ?_
          replace h := goB2_h h; obtain ⟨x35, M36, e37, h⟩ := h
          refine go_callVi hc dX9_kindOf_118 (mX9_named hk hW e37) ml_RX9_197 yk_X9_named ⟨wim_X9_named, wse_X9_named⟩ hR rfl (sh_67 hW) rfl rfl rfl (Nat.le_of_ble_eq_true rfl) rfl ?_
          replace h := goBind h; obtain ⟨M38, e39, h⟩ := h
          refine go_iast hc dX9_kindOf_121 (shHerd_2 hW (subHerd (mm_67_7 hW))) e39 ?_
          refine go_aload2 hc dX9_kindOf_122 ?_
          refine go_getR hc lk_RX9_246 dX9_kindOf_123 (shHerd_0 hW (subHerd (mm_67_7 hW))) (rfHerd_3 hW (subHerd (mm_67_7 hW))) ?_
          refine go_iload1 hc dX9_kindOf_126 ?_
          replace h := goBind h; obtain ⟨x40, e41, h⟩ := h
          refine go_iald hc dX9_kindOf_127 (shHerd_2 hW (subHerd (mm_67_7 hW))) e41 ?_
          refine go_if_ge hc 139 dX9_kindOf_128 rfl (fun c42 => ?_) (fun c42 => ?_)
          · replace h := goIfF h c42
            refine go_aload0 hc dX9_kindOf_139 ?_
            refine go_getR hc lk_RX9_35 dX9_kindOf_140 (sh_67 hW) (rf_67_0 hW) ?_
            replace h := goB2_h h; obtain ⟨M43, L44, e45, h⟩ := h
            refine go_callVv hc dX9_kindOf_143 (mX11_advance hk hW e45) ml_RX9_84 yk_X11_advance ⟨wim_X11_advance, wse_X11_advance⟩ hR rfl (sh_1 hW) rfl rfl rfl (Nat.le_of_ble_eq_true rfl) rfl ?_
            refine go_iconst (v := 1) hc dX9_kindOf_146 rfl ?_
            cases h
            exact go_zret hc dX9_kindOf_147 hr rfl
          · replace h := goIfT h c42
            refine go_iconst (v := 0) hc dX9_kindOf_131 rfl ?_
            cases h
            exact go_zret hc dX9_kindOf_132 hr rfl
      · replace h := goIfF h c21
        refine go_aload2 hc dX9_kindOf_74 ?_
        refine go_getR hc lk_RX9_254 dX9_kindOf_75 (shHerd_0 hW (subHerd (mm_67_7 hW))) (rfHerd_2 hW (subHerd (mm_67_7 hW))) ?_
        refine go_iload1 hc dX9_kindOf_78 ?_
        refine go_iconst (v := 2) hc dX9_kindOf_79 rfl ?_
        replace h := goBind h; obtain ⟨M46, e47, h⟩ := h
        refine go_iast hc dX9_kindOf_80 (shHerd_1 hW (subHerd (mm_67_7 hW))) e47 ?_
        refine go_goto hc 139 dX9_kindOf_81 rfl ?_
        refine go_aload0 hc dX9_kindOf_139 ?_
        refine go_getR hc lk_RX9_35 dX9_kindOf_140 (sh_67 hW) (rf_67_0 hW) ?_
        replace h := goB2_h h; obtain ⟨M48, L49, e50, h⟩ := h
        refine go_callVv hc dX9_kindOf_143 (mX11_advance hk hW e50) ml_RX9_84 yk_X11_advance ⟨wim_X11_advance, wse_X11_advance⟩ hR rfl (sh_1 hW) rfl rfl rfl (Nat.le_of_ble_eq_true rfl) rfl ?_
        refine go_iconst (v := 1) hc dX9_kindOf_146 rfl ?_
        cases h
        exact go_zret hc dX9_kindOf_147 hr rfl
    · replace h := goIfF h c18
      refine go_aload2 hc dX9_kindOf_51 ?_
      refine go_getR hc lk_RX9_254 dX9_kindOf_52 (shHerd_0 hW (subHerd (mm_67_7 hW))) (rfHerd_2 hW (subHerd (mm_67_7 hW))) ?_
      refine go_iload1 hc dX9_kindOf_55 ?_
      refine go_iconst (v := 1) hc dX9_kindOf_56 rfl ?_
      replace h := goBind h; obtain ⟨M51, e52, h⟩ := h
      refine go_iast hc dX9_kindOf_57 (shHerd_1 hW (subHerd (mm_67_7 hW))) e52 ?_
      refine go_goto hc 139 dX9_kindOf_58 rfl ?_
      refine go_aload0 hc dX9_kindOf_139 ?_
      refine go_getR hc lk_RX9_35 dX9_kindOf_140 (sh_67 hW) (rf_67_0 hW) ?_
      replace h := goB2_h h; obtain ⟨M53, L54, e55, h⟩ := h
      refine go_callVv hc dX9_kindOf_143 (mX11_advance hk hW e55) ml_RX9_84 yk_X11_advance ⟨wim_X11_advance, wse_X11_advance⟩ hR rfl (sh_1 hW) rfl rfl rfl (Nat.le_of_ble_eq_true rfl) rfl ?_
      refine go_iconst (v := 1) hc dX9_kindOf_146 rfl ?_
      cases h
      exact go_zret hc dX9_kindOf_147 hr rfl
  · replace h := goIfF h c15
    refine go_aload2 hc dX9_kindOf_28 ?_
    refine go_getR hc lk_RX9_254 dX9_kindOf_29 (shHerd_0 hW (subHerd (mm_67_7 hW))) (rfHerd_2 hW (subHerd (mm_67_7 hW))) ?_
    refine go_iload1 hc dX9_kindOf_32 ?_
    refine go_iconst (v := 0) hc dX9_kindOf_33 rfl ?_
    replace h := goBind h; obtain ⟨M56, e57, h⟩ := h
    refine go_iast hc dX9_kindOf_34 (shHerd_1 hW (subHerd (mm_67_7 hW))) e57 ?_
    refine go_goto hc 139 dX9_kindOf_35 rfl ?_
    refine go_aload0 hc dX9_kindOf_139 ?_
    refine go_getR hc lk_RX9_35 dX9_kindOf_140 (sh_67 hW) (rf_67_0 hW) ?_
    replace h := goB2_h h; obtain ⟨M58, L59, e60, h⟩ := h
    refine go_callVv hc dX9_kindOf_143 (mX11_advance hk hW e60) ml_RX9_84 yk_X11_advance ⟨wim_X11_advance, wse_X11_advance⟩ hR rfl (sh_1 hW) rfl rfl rfl (Nat.le_of_ble_eq_true rfl) rfl ?_
    refine go_iconst (v := 1) hc dX9_kindOf_146 rfl ?_
    cases h
    exact go_zret hc dX9_kindOf_147 hr rfl
