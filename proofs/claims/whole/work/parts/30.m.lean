theorem dJ7_fill_53178_0 : decode cJ7_fill_53178 0 = .ok (.iconst 0, 1) := by decide +kernel
theorem dJ7_fill_53178_1 : decode cJ7_fill_53178 1 = .ok (.istore_n 2, 1) := by decide +kernel
theorem dJ7_fill_53178_2 : decode cJ7_fill_53178 2 = .ok (.aload_n 0, 1) := by decide +kernel
theorem dJ7_fill_53178_3 : decode cJ7_fill_53178 3 = .ok (.arraylength, 1) := by decide +kernel
theorem dJ7_fill_53178_4 : decode cJ7_fill_53178 4 = .ok (.istore_n 3, 1) := by decide +kernel
theorem dJ7_fill_53178_5 : decode cJ7_fill_53178 5 = .ok (.iload_n 2, 1) := by decide +kernel
theorem dJ7_fill_53178_6 : decode cJ7_fill_53178 6 = .ok (.iload_n 3, 1) := by decide +kernel
theorem dJ7_fill_53178_7 : decode cJ7_fill_53178 7 = .ok (.if_icmp .ge 13, 3) := by decide +kernel
theorem dJ7_fill_53178_10 : decode cJ7_fill_53178 10 = .ok (.aload_n 0, 1) := by decide +kernel
theorem dJ7_fill_53178_11 : decode cJ7_fill_53178 11 = .ok (.iload_n 2, 1) := by decide +kernel
theorem dJ7_fill_53178_12 : decode cJ7_fill_53178 12 = .ok (.iload_n 1, 1) := by decide +kernel
theorem dJ7_fill_53178_13 : decode cJ7_fill_53178 13 = .ok (.iastore, 1) := by decide +kernel
theorem dJ7_fill_53178_14 : decode cJ7_fill_53178 14 = .ok (.iinc 2 1, 3) := by decide +kernel
theorem dJ7_fill_53178_17 : decode cJ7_fill_53178 17 = .ok (.goto (-12), 3) := by decide +kernel
theorem dJ7_fill_53178_20 : decode cJ7_fill_53178 20 = .ok (.return_, 1) := by decide +kernel
set_option maxRecDepth 100000 in
set_option maxHeartbeats 4000000 in
theorem mJ7_fill_53178_L5 {E : goEv} {X : goX} {G : goG} {Q : State → Prop} {L : goML} {R : goMR} {v1 : Int32} {v3 : Int32} {a0 : Nat} {n0 : Nat} (hc : goCx E X cJ7_fill_53178 RJ7 4) (hk : goKn E) (hR : X.2.2.2.1 = goRoom 0 0 0 0) (hr : X.2.2.2.2.2.2.2.2.1.sig.returnType = none) (hW : goW G R) (m0 : a0 < G.2 ∧ G.1 a0 = (1, n0)) : ∀ (n : Nat) (v2 : Int32) (M : goMI) (r0 : goMI), lJ7_fill_53178_5 v1 v3 a0 n0 n v2 M = some r0 → (∀ (d0 d1 d2 d3 : Option Value), goA E X G 0 0 Q 20 [d0, d1, d2, d3] [] r0 L R) → goA E X G 0 0 Q 5 [some (.ref a0), some (.int v1), some (.int v2), some (.int v3)] [] M L R := by
  intro n
  induction n with
  | zero => intro v2 M r0 h; exact nomatch h
  | succ n ih =>
    intro v2 M r0 h kx
    rw [lJ7_fill_53178_5] at h
    refine go_iload2 hc dJ7_fill_53178_5 ?_
    refine go_iload3 hc dJ7_fill_53178_6 ?_
    refine go_icmp_ge hc 20 dJ7_fill_53178_7 rfl (fun c13 => ?_) (fun c13 => ?_)
    · replace h := goIfF h c13
      cases h
      exact kx _ _ _ _
    · replace h := goIfT h c13
      refine go_aload0 hc dJ7_fill_53178_10 ?_
      refine go_iload2 hc dJ7_fill_53178_11 ?_
      refine go_iload1 hc dJ7_fill_53178_12 ?_
      replace h := goBind h; obtain ⟨M14, e15, h⟩ := h
      refine go_iast hc dJ7_fill_53178_13 m0 e15 ?_
      refine go_iinc2 (v := (v2 + 1)) hc dJ7_fill_53178_14 rfl ?_
      refine go_goto hc 5 dJ7_fill_53178_17 rfl ?_
      exact ih _ _ _ h kx
set_option maxRecDepth 100000 in
set_option maxHeartbeats 4000000 in
theorem mJ7_fill_53178 {E : goEv} {l : Launch} {G : goG} {N : Nat} {M : goMI} {L : goML} {R : goMR} {a0 n0 : Nat} {v1 : Int32} {r0 : goMI} (hk : goKn E) (hW : goW G R) (m0 : a0 < G.2 ∧ G.1 a0 = (1, n0)) (h : fJ7_fill_53178 N M a0 n0 v1 = some r0) : Met l yJ7_fill_53178 (goCd yJ7_fill_53178 cJ7_fill_53178 4 none) (goRoom 0 0 0 0) (goPre E [.ref a0, .int v1] G M L R) (goQv E G r0 L R) 0 0 (goSet E) := by
  refine goMet pl_RJ7 hk (lv := [some (.ref a0), some (.int v1), none, none]) rfl (Nat.le_of_ble_eq_true rfl) ?_
  intro X hc hl hR hr hnm
  subst hl
  unfold fJ7_fill_53178 at h
  refine go_iconst (v := 0) hc dJ7_fill_53178_0 rfl ?_
  refine go_istore2 hc dJ7_fill_53178_1 ?_
  refine go_aload0 hc dJ7_fill_53178_2 ?_
  refine go_alen hc dJ7_fill_53178_3 m0 ?_
  replace h := goNm_x h; obtain ⟨x11, e12, h⟩ := h
  refine go_nmI e12 ?_
  refine go_istore3 hc dJ7_fill_53178_4 ?_
  replace h := goBind h; obtain ⟨M17, e16, h⟩ := h
  refine mJ7_fill_53178_L5 hc hk hR hr hW m0 _ _ _ _ e16 (fun d0 d1 d2 d3 => ?_)
  cases h
  exact go_vret hc dJ7_fill_53178_20 hr
theorem dX1_clear_0 : decode cX1_clear 0 = .ok (.aload_n 0, 1) := by decide +kernel
theorem dX1_clear_1 : decode cX1_clear 1 = .ok (.getfield 11, 3) := by decide +kernel
theorem dX1_clear_4 : decode cX1_clear 4 = .ok (.iconst 0, 1) := by decide +kernel
theorem dX1_clear_5 : decode cX1_clear 5 = .ok (.invokestatic 21, 3) := by decide +kernel
theorem dX1_clear_8 : decode cX1_clear 8 = .ok (.aload_n 0, 1) := by decide +kernel
theorem dX1_clear_9 : decode cX1_clear 9 = .ok (.getfield 11, 3) := by decide +kernel
theorem dX1_clear_12 : decode cX1_clear 12 = .ok (.bipush 25, 2) := by decide +kernel
theorem dX1_clear_14 : decode cX1_clear 14 = .ok (.bipush 63, 2) := by decide +kernel
theorem dX1_clear_16 : decode cX1_clear 16 = .ok (.iastore, 1) := by decide +kernel
theorem dX1_clear_17 : decode cX1_clear 17 = .ok (.aload_n 0, 1) := by decide +kernel
theorem dX1_clear_18 : decode cX1_clear 18 = .ok (.iconst 0, 1) := by decide +kernel
theorem dX1_clear_19 : decode cX1_clear 19 = .ok (.putfield 27, 3) := by decide +kernel
theorem dX1_clear_22 : decode cX1_clear 22 = .ok (.aload_n 0, 1) := by decide +kernel
theorem dX1_clear_23 : decode cX1_clear 23 = .ok (.iconst 0, 1) := by decide +kernel
theorem dX1_clear_24 : decode cX1_clear 24 = .ok (.putfield 31, 3) := by decide +kernel
theorem dX1_clear_27 : decode cX1_clear 27 = .ok (.aload_n 0, 1) := by decide +kernel
theorem dX1_clear_28 : decode cX1_clear 28 = .ok (.dup, 1) := by decide +kernel
theorem dX1_clear_29 : decode cX1_clear 29 = .ok (.getfield 34, 3) := by decide +kernel
theorem dX1_clear_32 : decode cX1_clear 32 = .ok (.iconst 1, 1) := by decide +kernel
theorem dX1_clear_33 : decode cX1_clear 33 = .ok (.iadd, 1) := by decide +kernel
theorem dX1_clear_34 : decode cX1_clear 34 = .ok (.putfield 34, 3) := by decide +kernel
theorem dX1_clear_37 : decode cX1_clear 37 = .ok (.return_, 1) := by decide +kernel
set_option maxRecDepth 100000 in
set_option maxHeartbeats 4000000 in
theorem mX1_clear {E : goEv} {l : Launch} {G : goG} {N : Nat} {M : goMI} {L : goML} {R : goMR} {r0 : goMI} (hk : goKn E) (hW : goW G R) (h : fX1_clear N M = some r0) : Met l yX1_clear (goCd yX1_clear cX1_clear 1 none) (goRoom 1 23 0 0) (goPre E [.ref 3] G M L R) (goQv E G r0 L R) 0 0 (goSet E) := by
  refine goMet pl_RX1 hk (lv := [some (.ref 3)]) rfl (Nat.le_of_ble_eq_true rfl) ?_
  intro X hc hl hR hr hnm
  subst hl
  unfold fX1_clear at h
  refine go_aload0 hc dX1_clear_0 ?_
  refine go_getR hc lk_RX1_11 dX1_clear_1 (sh_3 hW) (rf_3_0 hW) ?_
  refine go_iconst (v := 0) hc dX1_clear_4 rfl ?_
  replace h := goBind h; obtain ⟨M11, e12, h⟩ := h
  refine go_callSv hc dX1_clear_5 (mJ7_fill_53178 hk hW (sh_4 hW) e12) ml_RX1_21 yk_J7_fill_53178 wst_J7_fill_53178 hR rfl rfl rfl (Nat.le_of_ble_eq_true rfl) rfl ?_
  refine go_aload0 hc dX1_clear_8 ?_
  refine go_getR hc lk_RX1_11 dX1_clear_9 (sh_3 hW) (rf_3_0 hW) ?_
  refine go_bipush (v := 25) hc dX1_clear_12 rfl ?_
  refine go_bipush (v := 63) hc dX1_clear_14 rfl ?_
  replace h := goBind h; obtain ⟨M13, e14, h⟩ := h
  refine go_iast hc dX1_clear_16 (sh_4 hW) e14 ?_
  refine go_aload0 hc dX1_clear_17 ?_
  refine go_iconst (v := 0) hc dX1_clear_18 rfl ?_
  replace h := goNm_x h; obtain ⟨M15, e16, h⟩ := h
  refine go_ptI hc lk_RX1_27 dX1_clear_19 (sh_3 hW) e16 ?_
  refine go_aload0 hc dX1_clear_22 ?_
  refine go_iconst (v := 0) hc dX1_clear_23 rfl ?_
  replace h := goNm_x h; obtain ⟨M17, e18, h⟩ := h
  refine go_ptI hc lk_RX1_31 dX1_clear_24 (sh_3 hW) e18 ?_
  refine go_aload0 hc dX1_clear_27 ?_
  refine go_dupr hc dX1_clear_28 ?_
  refine go_getI hc lk_RX1_34 dX1_clear_29 (sh_3 hW) ?_
  refine go_iconst (v := 1) hc dX1_clear_32 rfl ?_
  refine go_iadd hc dX1_clear_33 ?_
  replace h := goNm_x h; obtain ⟨M19, e20, h⟩ := h
  refine go_ptI hc lk_RX1_34 dX1_clear_34 (sh_3 hW) e20 ?_
  cases h
  exact go_vret hc dX1_clear_37 hr
theorem dX12_bit_0 : decode cX12_bit 0 = .ok (.iload_n 0, 1) := by decide +kernel
theorem dX12_bit_1 : decode cX12_bit 1 = .ok (.iload_n 1, 1) := by decide +kernel
theorem dX12_bit_2 : decode cX12_bit 2 = .ok (.ishr, 1) := by decide +kernel
theorem dX12_bit_3 : decode cX12_bit 3 = .ok (.iconst 1, 1) := by decide +kernel
theorem dX12_bit_4 : decode cX12_bit 4 = .ok (.iand, 1) := by decide +kernel
theorem dX12_bit_5 : decode cX12_bit 5 = .ok (.ireturn, 1) := by decide +kernel
set_option maxRecDepth 100000 in
set_option maxHeartbeats 4000000 in
theorem mX12_bit {E : goEv} {l : Launch} {G : goG} {M : goMI} {L : goML} {R : goMR} {v0 : Int32} {v1 : Int32} {r0 : Int32} (hk : goKn E) (hW : goW G R) (h : fX12_bit v0 v1 = r0) : Met l yX12_bit (goCd yX12_bit cX12_bit 2 (Option.some FieldType.int)) (goRoom 0 0 0 0) (goPre E [.int v0, .int v1] G M L R) (goQi E r0 G M L R) 0 0 (goSet E) := by
  refine goMet pl_RX12 hk (lv := [some (.int v0), some (.int v1)]) rfl (Nat.le_of_ble_eq_true rfl) ?_
  intro X hc hl hR hr hnm
  subst hl
  unfold fX12_bit at h
  refine go_iload0 hc dX12_bit_0 ?_
  refine go_iload1 hc dX12_bit_1 ?_
  refine go_ishr hc dX12_bit_2 ?_
  refine go_iconst (v := 1) hc dX12_bit_3 rfl ?_
  refine go_iand hc dX12_bit_4 ?_
  subst h
  exact go_iret hc dX12_bit_5 hr
theorem dX1_turn_0 : decode cX1_turn 0 = .ok (.aload_n 0, 1) := by decide +kernel
theorem dX1_turn_1 : decode cX1_turn 1 = .ok (.getfield 11, 3) := by decide +kernel
theorem dX1_turn_4 : decode cX1_turn 4 = .ok (.iload_n 1, 1) := by decide +kernel
theorem dX1_turn_5 : decode cX1_turn 5 = .ok (.dup2, 1) := by decide +kernel
theorem dX1_turn_6 : decode cX1_turn 6 = .ok (.iaload, 1) := by decide +kernel
theorem dX1_turn_7 : decode cX1_turn 7 = .ok (.iconst 1, 1) := by decide +kernel
theorem dX1_turn_8 : decode cX1_turn 8 = .ok (.iload_n 2, 1) := by decide +kernel
theorem dX1_turn_9 : decode cX1_turn 9 = .ok (.ishl, 1) := by decide +kernel
theorem dX1_turn_10 : decode cX1_turn 10 = .ok (.ixor, 1) := by decide +kernel
theorem dX1_turn_11 : decode cX1_turn 11 = .ok (.iastore, 1) := by decide +kernel
theorem dX1_turn_12 : decode cX1_turn 12 = .ok (.iload_n 1, 1) := by decide +kernel
theorem dX1_turn_13 : decode cX1_turn 13 = .ok (.bipush 25, 2) := by decide +kernel
theorem dX1_turn_15 : decode cX1_turn 15 = .ok (.if_icmp .eq 13, 3) := by decide +kernel
theorem dX1_turn_18 : decode cX1_turn 18 = .ok (.aload_n 0, 1) := by decide +kernel
theorem dX1_turn_19 : decode cX1_turn 19 = .ok (.dup, 1) := by decide +kernel
theorem dX1_turn_20 : decode cX1_turn 20 = .ok (.getfield 34, 3) := by decide +kernel
theorem dX1_turn_23 : decode cX1_turn 23 = .ok (.iconst 1, 1) := by decide +kernel
theorem dX1_turn_24 : decode cX1_turn 24 = .ok (.iadd, 1) := by decide +kernel
theorem dX1_turn_25 : decode cX1_turn 25 = .ok (.putfield 34, 3) := by decide +kernel
theorem dX1_turn_28 : decode cX1_turn 28 = .ok (.return_, 1) := by decide +kernel
set_option maxRecDepth 100000 in
set_option maxHeartbeats 4000000 in
theorem mX1_turn {E : goEv} {l : Launch} {G : goG} {M : goMI} {L : goML} {R : goMR} {v1 : Int32} {v2 : Int32} {r0 : goMI} (hk : goKn E) (hW : goW G R) (h : fX1_turn M v1 v2 = some r0) : Met l yX1_turn (goCd yX1_turn cX1_turn 3 none) (goRoom 0 0 0 0) (goPre E [.ref 3, .int v1, .int v2] G M L R) (goQv E G r0 L R) 0 0 (goSet E) := by
  refine goMet pl_RX1 hk (lv := [some (.ref 3), some (.int v1), some (.int v2)]) rfl (Nat.le_of_ble_eq_true rfl) ?_
  intro X hc hl hR hr hnm
  subst hl
  unfold fX1_turn at h
  refine go_aload0 hc dX1_turn_0 ?_
  refine go_getR hc lk_RX1_11 dX1_turn_1 (sh_3 hW) (rf_3_0 hW) ?_
  refine go_iload1 hc dX1_turn_4 ?_
  refine go_dup2 hc dX1_turn_5 ?_
  replace h := goBind h; obtain ⟨x11, e12, h⟩ := h
  refine go_iald hc dX1_turn_6 (sh_4 hW) e12 ?_
  refine go_iconst (v := 1) hc dX1_turn_7 rfl ?_
  refine go_iload2 hc dX1_turn_8 ?_
  refine go_ishl hc dX1_turn_9 ?_
  refine go_ixor hc dX1_turn_10 ?_
  replace h := goBind h; obtain ⟨M13, e14, h⟩ := h
  refine go_iast hc dX1_turn_11 (sh_4 hW) e14 ?_
  refine go_iload1 hc dX1_turn_12 ?_
  refine go_bipush (v := 25) hc dX1_turn_13 rfl ?_
  refine go_icmp_eq hc 28 dX1_turn_15 rfl (fun c15 => ?_) (fun c15 => ?_)
  · replace h := goIfT h c15
    cases h
    exact go_vret hc dX1_turn_28 hr
  · replace h := goIfF h c15
    refine go_aload0 hc dX1_turn_18 ?_
    refine go_dupr hc dX1_turn_19 ?_
    refine go_getI hc lk_RX1_34 dX1_turn_20 (sh_3 hW) ?_
    refine go_iconst (v := 1) hc dX1_turn_23 rfl ?_
    refine go_iadd hc dX1_turn_24 ?_
    replace h := goNm_x h; obtain ⟨M16, e17, h⟩ := h
    refine go_ptI hc lk_RX1_34 dX1_turn_25 (sh_3 hW) e17 ?_
    cases h
    exact go_vret hc dX1_turn_28 hr
theorem dX1_change_0 : decode cX1_change 0 = .ok (.aload_n 0, 1) := by decide +kernel
theorem dX1_change_1 : decode cX1_change 1 = .ok (.getfield 11, 3) := by decide +kernel
theorem dX1_change_4 : decode cX1_change 4 = .ok (.iload_n 1, 1) := by decide +kernel
theorem dX1_change_5 : decode cX1_change 5 = .ok (.iaload, 1) := by decide +kernel
theorem dX1_change_6 : decode cX1_change 6 = .ok (.iload_n 2, 1) := by decide +kernel
theorem dX1_change_7 : decode cX1_change 7 = .ok (.invokestatic 37, 3) := by decide +kernel
theorem dX1_change_10 : decode cX1_change 10 = .ok (.iload_n 3, 1) := by decide +kernel
theorem dX1_change_11 : decode cX1_change 11 = .ok (.ifCond .eq 7, 3) := by decide +kernel
theorem dX1_change_14 : decode cX1_change 14 = .ok (.iconst 1, 1) := by decide +kernel
theorem dX1_change_15 : decode cX1_change 15 = .ok (.goto 4, 3) := by decide +kernel
theorem dX1_change_18 : decode cX1_change 18 = .ok (.iconst 0, 1) := by decide +kernel
theorem dX1_change_19 : decode cX1_change 19 = .ok (.if_icmp .ne 5, 3) := by decide +kernel
theorem dX1_change_22 : decode cX1_change 22 = .ok (.iconst 5, 1) := by decide +kernel
theorem dX1_change_23 : decode cX1_change 23 = .ok (.ireturn, 1) := by decide +kernel
theorem dX1_change_24 : decode cX1_change 24 = .ok (.aload_n 0, 1) := by decide +kernel
theorem dX1_change_25 : decode cX1_change 25 = .ok (.getfield 27, 3) := by decide +kernel
theorem dX1_change_28 : decode cX1_change 28 = .ok (.bipush 16, 2) := by decide +kernel
theorem dX1_change_30 : decode cX1_change 30 = .ok (.if_icmp .ne 28, 3) := by decide +kernel
theorem dX1_change_33 : decode cX1_change 33 = .ok (.aload_n 0, 1) := by decide +kernel
theorem dX1_change_34 : decode cX1_change 34 = .ok (.getfield 15, 3) := by decide +kernel
theorem dX1_change_37 : decode cX1_change 37 = .ok (.iconst 1, 1) := by decide +kernel
theorem dX1_change_38 : decode cX1_change 38 = .ok (.aload_n 0, 1) := by decide +kernel
theorem dX1_change_39 : decode cX1_change 39 = .ok (.getfield 15, 3) := by decide +kernel
theorem dX1_change_42 : decode cX1_change 42 = .ok (.iconst 0, 1) := by decide +kernel
theorem dX1_change_43 : decode cX1_change 43 = .ok (.bipush 15, 2) := by decide +kernel
theorem dX1_change_45 : decode cX1_change 45 = .ok (.invokestatic 41, 3) := by decide +kernel
theorem dX1_change_48 : decode cX1_change 48 = .ok (.aload_n 0, 1) := by decide +kernel
theorem dX1_change_49 : decode cX1_change 49 = .ok (.dup, 1) := by decide +kernel
theorem dX1_change_50 : decode cX1_change 50 = .ok (.getfield 27, 3) := by decide +kernel
theorem dX1_change_53 : decode cX1_change 53 = .ok (.iconst 1, 1) := by decide +kernel
theorem dX1_change_54 : decode cX1_change 54 = .ok (.isub, 1) := by decide +kernel
theorem dX1_change_55 : decode cX1_change 55 = .ok (.putfield 27, 3) := by decide +kernel
theorem dX1_change_58 : decode cX1_change 58 = .ok (.aload_n 0, 1) := by decide +kernel
theorem dX1_change_59 : decode cX1_change 59 = .ok (.getfield 15, 3) := by decide +kernel
theorem dX1_change_62 : decode cX1_change 62 = .ok (.aload_n 0, 1) := by decide +kernel
theorem dX1_change_63 : decode cX1_change 63 = .ok (.getfield 27, 3) := by decide +kernel
theorem dX1_change_66 : decode cX1_change 66 = .ok (.iload_n 1, 1) := by decide +kernel
theorem dX1_change_67 : decode cX1_change 67 = .ok (.bipush 16, 2) := by decide +kernel
theorem dX1_change_69 : decode cX1_change 69 = .ok (.imul, 1) := by decide +kernel
theorem dX1_change_70 : decode cX1_change 70 = .ok (.iload_n 2, 1) := by decide +kernel
theorem dX1_change_71 : decode cX1_change 71 = .ok (.iadd, 1) := by decide +kernel
theorem dX1_change_72 : decode cX1_change 72 = .ok (.iastore, 1) := by decide +kernel
theorem dX1_change_73 : decode cX1_change 73 = .ok (.aload_n 0, 1) := by decide +kernel
theorem dX1_change_74 : decode cX1_change 74 = .ok (.dup, 1) := by decide +kernel
theorem dX1_change_75 : decode cX1_change 75 = .ok (.getfield 27, 3) := by decide +kernel
theorem dX1_change_78 : decode cX1_change 78 = .ok (.iconst 1, 1) := by decide +kernel
theorem dX1_change_79 : decode cX1_change 79 = .ok (.iadd, 1) := by decide +kernel
theorem dX1_change_80 : decode cX1_change 80 = .ok (.putfield 27, 3) := by decide +kernel
theorem dX1_change_83 : decode cX1_change 83 = .ok (.aload_n 0, 1) := by decide +kernel
theorem dX1_change_84 : decode cX1_change 84 = .ok (.iload_n 1, 1) := by decide +kernel
theorem dX1_change_85 : decode cX1_change 85 = .ok (.iload_n 2, 1) := by decide +kernel
theorem dX1_change_86 : decode cX1_change 86 = .ok (.invokevirtual 47, 3) := by decide +kernel
theorem dX1_change_89 : decode cX1_change 89 = .ok (.iconst 0, 1) := by decide +kernel
theorem dX1_change_90 : decode cX1_change 90 = .ok (.ireturn, 1) := by decide +kernel
set_option maxRecDepth 100000 in
set_option maxHeartbeats 4000000 in
theorem mX1_change {E : goEv} {l : Launch} {G : goG} {M : goMI} {L : goML} {R : goMR} {v1 : Int32} {v2 : Int32} {v3 : Int32} {r0 : Int32} {r1 : goMI} (hk : goKn E) (hW : goW G R) (h : fX1_change M v1 v2 v3 = some (r0, r1)) : Met l yX1_change (goCd yX1_change cX1_change 4 (Option.some FieldType.int)) (goRoom 1 40 0 0) (goPre E [.ref 3, .int v1, .int v2, .int v3] G M L R) (goQi E r0 G r1 L R) 0 0 (goSet E) := by
  refine goMet pl_RX1 hk (lv := [some (.ref 3), some (.int v1), some (.int v2), some (.int v3)]) rfl (Nat.le_of_ble_eq_true rfl) ?_
  intro X hc hl hR hr hnm
  subst hl
  unfold fX1_change at h
  refine go_aload0 hc dX1_change_0 ?_
  refine go_getR hc lk_RX1_11 dX1_change_1 (sh_3 hW) (rf_3_0 hW) ?_
  refine go_iload1 hc dX1_change_4 ?_
  replace h := goBind h; obtain ⟨x11, e12, h⟩ := h
  refine go_iald hc dX1_change_5 (sh_4 hW) e12 ?_
  refine go_iload2 hc dX1_change_6 ?_
  refine go_callSi hc dX1_change_7 (mX12_bit hk hW rfl) ml_RX1_37 yk_X12_bit wst_X12_bit hR rfl rfl rfl (Nat.le_of_ble_eq_true rfl) rfl ?_
  refine go_iload3 hc dX1_change_10 ?_
  replace h := goNm_y h; obtain ⟨x13, e14, h⟩ := h
  have k15 : ∀ (d3 : Option Value), goA E X G 0 0 (goMQ X E (goQi E r0 G r1 L R) 0 0) 19 [some (.ref 3), some (.int v1), some (.int v2), d3] [.int x13, .int (fX12_bit x11 v2)] M L R := by
    intro d3
    refine go_icmp_ne hc 24 dX1_change_19 rfl (fun c17 => ?_) (fun c17 => ?_)
    · replace h := goIfF h c17
      refine go_aload0 hc dX1_change_24 ?_
      refine go_getI hc lk_RX1_27 dX1_change_25 (sh_3 hW) ?_
      refine go_bipush (v := 16) hc dX1_change_28 rfl ?_
      replace h := goBind h; obtain ⟨M18, e19, h⟩ := h
      have k20 : ∀ (d3 : Option Value), goA E X G 0 0 (goMQ X E (goQi E r0 G r1 L R) 0 0) 58 [some (.ref 3), some (.int v1), some (.int v2), d3] [] M18 L R := by
        intro d3
        refine go_aload0 hc dX1_change_58 ?_
        refine go_getR hc lk_RX1_15 dX1_change_59 (sh_3 hW) (rf_3_1 hW) ?_
        refine go_aload0 hc dX1_change_62 ?_
        refine go_getI hc lk_RX1_27 dX1_change_63 (sh_3 hW) ?_
        refine go_iload1 hc dX1_change_66 ?_
        refine go_bipush (v := 16) hc dX1_change_67 rfl ?_
        refine go_imul hc dX1_change_69 ?_
        refine go_iload2 hc dX1_change_70 ?_
        refine go_iadd hc dX1_change_71 ?_
        replace h := goBind h; obtain ⟨M26, e27, h⟩ := h
        refine go_iast hc dX1_change_72 (sh_5 hW) e27 ?_
        refine go_aload0 hc dX1_change_73 ?_
        refine go_dupr hc dX1_change_74 ?_
        refine go_getI hc lk_RX1_27 dX1_change_75 (sh_3 hW) ?_
        refine go_iconst (v := 1) hc dX1_change_78 rfl ?_
        refine go_iadd hc dX1_change_79 ?_
        replace h := goNm_x h; obtain ⟨M28, e29, h⟩ := h
        refine go_ptI hc lk_RX1_27 dX1_change_80 (sh_3 hW) e29 ?_
        refine go_aload0 hc dX1_change_83 ?_
        refine go_iload1 hc dX1_change_84 ?_
        refine go_iload2 hc dX1_change_85 ?_
        replace h := goBind h; obtain ⟨M30, e31, h⟩ := h
        refine go_callVv hc dX1_change_86 (mX1_turn hk hW e31) ml_RX1_47 yk_X1_turn ⟨wim_X1_turn, wse_X1_turn⟩ hR rfl (sh_3 hW) rfl rfl rfl (Nat.le_of_ble_eq_true rfl) rfl ?_
        refine go_iconst (v := 0) hc dX1_change_89 rfl ?_
        cases h
        exact go_iret hc dX1_change_90 hr
      refine go_icmp_ne hc 58 dX1_change_30 rfl (fun c21 => ?_) (fun c21 => ?_)
      · replace e19 := goIfF e19 c21
        cases e19
        exact k20 _
      · replace e19 := goIfT e19 c21
        refine go_aload0 hc dX1_change_33 ?_
        refine go_getR hc lk_RX1_15 dX1_change_34 (sh_3 hW) (rf_3_1 hW) ?_
        refine go_iconst (v := 1) hc dX1_change_37 rfl ?_
        refine go_aload0 hc dX1_change_38 ?_
        refine go_getR hc lk_RX1_15 dX1_change_39 (sh_3 hW) (rf_3_1 hW) ?_
        refine go_iconst (v := 0) hc dX1_change_42 rfl ?_
        refine go_bipush (v := 15) hc dX1_change_43 rfl ?_
        replace e19 := goBind e19; obtain ⟨M22, e23, e19⟩ := e19
        refine go_copy hc dX1_change_45 wml_RX1_41 hR rfl (sh_5 hW) (sh_5 hW) rfl (Nat.le_of_ble_eq_true rfl) e23 ?_
        refine go_aload0 hc dX1_change_48 ?_
        refine go_dupr hc dX1_change_49 ?_
        refine go_getI hc lk_RX1_27 dX1_change_50 (sh_3 hW) ?_
        refine go_iconst (v := 1) hc dX1_change_53 rfl ?_
        refine go_isub hc dX1_change_54 ?_
        replace e19 := goNm_x e19; obtain ⟨M24, e25, e19⟩ := e19
        refine go_ptI hc lk_RX1_27 dX1_change_55 (sh_3 hW) e25 ?_
        cases e19
        exact k20 _
    · replace h := goIfT h c17
      refine go_iconst (v := 5) hc dX1_change_22 rfl ?_
      cases h
      exact go_iret hc dX1_change_23 hr
  refine go_if_eq hc 18 dX1_change_11 rfl (fun c16 => ?_) (fun c16 => ?_)
  · replace e14 := goIfT e14 c16
    refine go_iconst (v := 0) hc dX1_change_18 rfl ?_
    subst e14
    exact k15 _
  · replace e14 := goIfF e14 c16
    refine go_iconst (v := 1) hc dX1_change_14 rfl ?_
    refine go_goto hc 19 dX1_change_15 rfl ?_
    subst e14
    exact k15 _
theorem dX1_takeBack_0 : decode cX1_takeBack 0 = .ok (.aload_n 0, 1) := by decide +kernel
theorem dX1_takeBack_1 : decode cX1_takeBack 1 = .ok (.getfield 27, 3) := by decide +kernel
theorem dX1_takeBack_4 : decode cX1_takeBack 4 = .ok (.ifCond .gt 5, 3) := by decide +kernel
theorem dX1_takeBack_7 : decode cX1_takeBack 7 = .ok (.iconst 0, 1) := by decide +kernel
theorem dX1_takeBack_8 : decode cX1_takeBack 8 = .ok (.ireturn, 1) := by decide +kernel
theorem dX1_takeBack_9 : decode cX1_takeBack 9 = .ok (.aload_n 0, 1) := by decide +kernel
theorem dX1_takeBack_10 : decode cX1_takeBack 10 = .ok (.dup, 1) := by decide +kernel
theorem dX1_takeBack_11 : decode cX1_takeBack 11 = .ok (.getfield 27, 3) := by decide +kernel
theorem dX1_takeBack_14 : decode cX1_takeBack 14 = .ok (.iconst 1, 1) := by decide +kernel
theorem dX1_takeBack_15 : decode cX1_takeBack 15 = .ok (.isub, 1) := by decide +kernel
theorem dX1_takeBack_16 : decode cX1_takeBack 16 = .ok (.putfield 27, 3) := by decide +kernel
theorem dX1_takeBack_19 : decode cX1_takeBack 19 = .ok (.aload_n 0, 1) := by decide +kernel
theorem dX1_takeBack_20 : decode cX1_takeBack 20 = .ok (.aload_n 0, 1) := by decide +kernel
theorem dX1_takeBack_21 : decode cX1_takeBack 21 = .ok (.getfield 15, 3) := by decide +kernel
theorem dX1_takeBack_24 : decode cX1_takeBack 24 = .ok (.aload_n 0, 1) := by decide +kernel
theorem dX1_takeBack_25 : decode cX1_takeBack 25 = .ok (.getfield 27, 3) := by decide +kernel
theorem dX1_takeBack_28 : decode cX1_takeBack 28 = .ok (.iaload, 1) := by decide +kernel
theorem dX1_takeBack_29 : decode cX1_takeBack 29 = .ok (.bipush 16, 2) := by decide +kernel
theorem dX1_takeBack_31 : decode cX1_takeBack 31 = .ok (.idiv, 1) := by decide +kernel
theorem dX1_takeBack_32 : decode cX1_takeBack 32 = .ok (.aload_n 0, 1) := by decide +kernel
theorem dX1_takeBack_33 : decode cX1_takeBack 33 = .ok (.getfield 15, 3) := by decide +kernel
theorem dX1_takeBack_36 : decode cX1_takeBack 36 = .ok (.aload_n 0, 1) := by decide +kernel
theorem dX1_takeBack_37 : decode cX1_takeBack 37 = .ok (.getfield 27, 3) := by decide +kernel
theorem dX1_takeBack_40 : decode cX1_takeBack 40 = .ok (.iaload, 1) := by decide +kernel
theorem dX1_takeBack_41 : decode cX1_takeBack 41 = .ok (.bipush 16, 2) := by decide +kernel
theorem dX1_takeBack_43 : decode cX1_takeBack 43 = .ok (.irem, 1) := by decide +kernel
theorem dX1_takeBack_44 : decode cX1_takeBack 44 = .ok (.invokevirtual 47, 3) := by decide +kernel
theorem dX1_takeBack_47 : decode cX1_takeBack 47 = .ok (.iconst 1, 1) := by decide +kernel
theorem dX1_takeBack_48 : decode cX1_takeBack 48 = .ok (.ireturn, 1) := by decide +kernel
set_option maxRecDepth 100000 in
set_option maxHeartbeats 4000000 in
theorem mX1_takeBack {E : goEv} {l : Launch} {G : goG} {M : goMI} {L : goML} {R : goMR} {r0 : Int32} {r1 : goMI} (hk : goKn E) (hW : goW G R) (h : fX1_takeBack M = some (r0, r1)) : Met l yX1_takeBack (goCd yX1_takeBack cX1_takeBack 1 (Option.some FieldType.boolean)) (goRoom 1 22 0 0) (goPre E [.ref 3] G M L R) (goQi E r0 G r1 L R) 0 0 (goSet E) := by
  refine goMet pl_RX1 hk (lv := [some (.ref 3)]) rfl (Nat.le_of_ble_eq_true rfl) ?_
  intro X hc hl hR hr hnm
  subst hl
  unfold fX1_takeBack at h
  refine go_aload0 hc dX1_takeBack_0 ?_
  refine go_getI hc lk_RX1_27 dX1_takeBack_1 (sh_3 hW) ?_
  refine go_if_gt hc 9 dX1_takeBack_4 rfl (fun c11 => ?_) (fun c11 => ?_)
  · replace h := goIfF h c11
    refine go_aload0 hc dX1_takeBack_9 ?_
    refine go_dupr hc dX1_takeBack_10 ?_
    refine go_getI hc lk_RX1_27 dX1_takeBack_11 (sh_3 hW) ?_
    refine go_iconst (v := 1) hc dX1_takeBack_14 rfl ?_
    refine go_isub hc dX1_takeBack_15 ?_
    replace h := goNm_x h; obtain ⟨M12, e13, h⟩ := h
    refine go_ptI hc lk_RX1_27 dX1_takeBack_16 (sh_3 hW) e13 ?_
    refine go_aload0 hc dX1_takeBack_19 ?_
    refine go_aload0 hc dX1_takeBack_20 ?_
    refine go_getR hc lk_RX1_15 dX1_takeBack_21 (sh_3 hW) (rf_3_1 hW) ?_
    refine go_aload0 hc dX1_takeBack_24 ?_
    refine go_getI hc lk_RX1_27 dX1_takeBack_25 (sh_3 hW) ?_
    replace h := goBind h; obtain ⟨x14, e15, h⟩ := h
    refine go_iald hc dX1_takeBack_28 (sh_5 hW) e15 ?_
    refine go_bipush (v := 16) hc dX1_takeBack_29 rfl ?_
    refine go_idiv hc dX1_takeBack_31 (by decide) ?_
    refine go_aload0 hc dX1_takeBack_32 ?_
    refine go_getR hc lk_RX1_15 dX1_takeBack_33 (sh_3 hW) (rf_3_1 hW) ?_
    refine go_aload0 hc dX1_takeBack_36 ?_
    refine go_getI hc lk_RX1_27 dX1_takeBack_37 (sh_3 hW) ?_
    replace h := goBind h; obtain ⟨x16, e17, h⟩ := h
    refine go_iald hc dX1_takeBack_40 (sh_5 hW) e17 ?_
    refine go_bipush (v := 16) hc dX1_takeBack_41 rfl ?_
    refine go_irem hc dX1_takeBack_43 (by decide) ?_
    replace h := goBind h; obtain ⟨M18, e19, h⟩ := h
    refine go_callVv hc dX1_takeBack_44 (mX1_turn hk hW e19) ml_RX1_47 yk_X1_turn ⟨wim_X1_turn, wse_X1_turn⟩ hR rfl (sh_3 hW) rfl rfl rfl (Nat.le_of_ble_eq_true rfl) rfl ?_
    refine go_iconst (v := 1) hc dX1_takeBack_47 rfl ?_
    cases h
    exact go_zret hc dX1_takeBack_48 hr rfl
  · replace h := goIfT h c11
    refine go_iconst (v := 0) hc dX1_takeBack_7 rfl ?_
    cases h
    exact go_zret hc dX1_takeBack_8 hr rfl
theorem dX1_keep_0 : decode cX1_keep 0 = .ok (.aload_n 0, 1) := by decide +kernel
theorem dX1_keep_1 : decode cX1_keep 1 = .ok (.getfield 31, 3) := by decide +kernel
theorem dX1_keep_4 : decode cX1_keep 4 = .ok (.iconst 3, 1) := by decide +kernel
theorem dX1_keep_5 : decode cX1_keep 5 = .ok (.if_icmp .lt 5, 3) := by decide +kernel
theorem dX1_keep_8 : decode cX1_keep 8 = .ok (.iconst (-1), 1) := by decide +kernel
theorem dX1_keep_9 : decode cX1_keep 9 = .ok (.ireturn, 1) := by decide +kernel
theorem dX1_keep_10 : decode cX1_keep 10 = .ok (.aload_n 0, 1) := by decide +kernel
theorem dX1_keep_11 : decode cX1_keep 11 = .ok (.getfield 11, 3) := by decide +kernel
theorem dX1_keep_14 : decode cX1_keep 14 = .ok (.iconst 0, 1) := by decide +kernel
theorem dX1_keep_15 : decode cX1_keep 15 = .ok (.aload_n 0, 1) := by decide +kernel
theorem dX1_keep_16 : decode cX1_keep 16 = .ok (.getfield 18, 3) := by decide +kernel
theorem dX1_keep_19 : decode cX1_keep 19 = .ok (.aload_n 0, 1) := by decide +kernel
theorem dX1_keep_20 : decode cX1_keep 20 = .ok (.getfield 31, 3) := by decide +kernel
theorem dX1_keep_23 : decode cX1_keep 23 = .ok (.bipush 26, 2) := by decide +kernel
theorem dX1_keep_25 : decode cX1_keep 25 = .ok (.imul, 1) := by decide +kernel
theorem dX1_keep_26 : decode cX1_keep 26 = .ok (.bipush 26, 2) := by decide +kernel
theorem dX1_keep_28 : decode cX1_keep 28 = .ok (.invokestatic 41, 3) := by decide +kernel
theorem dX1_keep_31 : decode cX1_keep 31 = .ok (.aload_n 0, 1) := by decide +kernel
theorem dX1_keep_32 : decode cX1_keep 32 = .ok (.dup, 1) := by decide +kernel
theorem dX1_keep_33 : decode cX1_keep 33 = .ok (.getfield 31, 3) := by decide +kernel
theorem dX1_keep_36 : decode cX1_keep 36 = .ok (.iconst 1, 1) := by decide +kernel
theorem dX1_keep_37 : decode cX1_keep 37 = .ok (.iadd, 1) := by decide +kernel
theorem dX1_keep_38 : decode cX1_keep 38 = .ok (.putfield 31, 3) := by decide +kernel
theorem dX1_keep_41 : decode cX1_keep 41 = .ok (.aload_n 0, 1) := by decide +kernel
theorem dX1_keep_42 : decode cX1_keep 42 = .ok (.getfield 31, 3) := by decide +kernel
theorem dX1_keep_45 : decode cX1_keep 45 = .ok (.iconst 1, 1) := by decide +kernel
theorem dX1_keep_46 : decode cX1_keep 46 = .ok (.isub, 1) := by decide +kernel
theorem dX1_keep_47 : decode cX1_keep 47 = .ok (.ireturn, 1) := by decide +kernel
set_option maxRecDepth 100000 in
set_option maxHeartbeats 4000000 in
theorem mX1_keep {E : goEv} {l : Launch} {G : goG} {M : goMI} {L : goML} {R : goMR} {r0 : Int32} {r1 : goMI} (hk : goKn E) (hW : goW G R) (h : fX1_keep M = some (r0, r1)) : Met l yX1_keep (goCd yX1_keep cX1_keep 1 (Option.some FieldType.int)) (goRoom 1 40 0 0) (goPre E [.ref 3] G M L R) (goQi E r0 G r1 L R) 0 0 (goSet E) := by
  refine goMet pl_RX1 hk (lv := [some (.ref 3)]) rfl (Nat.le_of_ble_eq_true rfl) ?_
  intro X hc hl hR hr hnm
  subst hl
  unfold fX1_keep at h
  refine go_aload0 hc dX1_keep_0 ?_
  refine go_getI hc lk_RX1_31 dX1_keep_1 (sh_3 hW) ?_
  refine go_iconst (v := 3) hc dX1_keep_4 rfl ?_
  refine go_icmp_lt hc 10 dX1_keep_5 rfl (fun c11 => ?_) (fun c11 => ?_)
  · replace h := goIfF h c11
    refine go_aload0 hc dX1_keep_10 ?_
    refine go_getR hc lk_RX1_11 dX1_keep_11 (sh_3 hW) (rf_3_0 hW) ?_
    refine go_iconst (v := 0) hc dX1_keep_14 rfl ?_
    refine go_aload0 hc dX1_keep_15 ?_
    refine go_getR hc lk_RX1_18 dX1_keep_16 (sh_3 hW) (rf_3_2 hW) ?_
    refine go_aload0 hc dX1_keep_19 ?_
    refine go_getI hc lk_RX1_31 dX1_keep_20 (sh_3 hW) ?_
    refine go_bipush (v := 26) hc dX1_keep_23 rfl ?_
    refine go_imul hc dX1_keep_25 ?_
    refine go_bipush (v := 26) hc dX1_keep_26 rfl ?_
    replace h := goBind h; obtain ⟨M12, e13, h⟩ := h
    refine go_copy hc dX1_keep_28 wml_RX1_41 hR rfl (sh_4 hW) (sh_6 hW) rfl (Nat.le_of_ble_eq_true rfl) e13 ?_
    refine go_aload0 hc dX1_keep_31 ?_
    refine go_dupr hc dX1_keep_32 ?_
    refine go_getI hc lk_RX1_31 dX1_keep_33 (sh_3 hW) ?_
    refine go_iconst (v := 1) hc dX1_keep_36 rfl ?_
    refine go_iadd hc dX1_keep_37 ?_
    replace h := goNm_x h; obtain ⟨M14, e15, h⟩ := h
    refine go_ptI hc lk_RX1_31 dX1_keep_38 (sh_3 hW) e15 ?_
    refine go_aload0 hc dX1_keep_41 ?_
    refine go_getI hc lk_RX1_31 dX1_keep_42 (sh_3 hW) ?_
    refine go_iconst (v := 1) hc dX1_keep_45 rfl ?_
    refine go_isub hc dX1_keep_46 ?_
    cases h
    exact go_iret hc dX1_keep_47 hr
  · replace h := goIfT h c11
    refine go_iconst (v := (-1)) hc dX1_keep_8 rfl ?_
    cases h
    exact go_iret hc dX1_keep_9 hr
theorem dX12_within_0 : decode cX12_within 0 = .ok (.iload_n 0, 1) := by decide +kernel
theorem dX12_within_1 : decode cX12_within 1 = .ok (.ifCond .lt 12, 3) := by decide +kernel
theorem dX12_within_4 : decode cX12_within 4 = .ok (.iload_n 0, 1) := by decide +kernel
theorem dX12_within_5 : decode cX12_within 5 = .ok (.iload_n 1, 1) := by decide +kernel
theorem dX12_within_6 : decode cX12_within 6 = .ok (.if_icmp .ge 7, 3) := by decide +kernel
theorem dX12_within_9 : decode cX12_within 9 = .ok (.iconst 1, 1) := by decide +kernel
theorem dX12_within_10 : decode cX12_within 10 = .ok (.goto 4, 3) := by decide +kernel
theorem dX12_within_13 : decode cX12_within 13 = .ok (.iconst 0, 1) := by decide +kernel
theorem dX12_within_14 : decode cX12_within 14 = .ok (.ireturn, 1) := by decide +kernel
theorem zX12_within {v0 : Int32} {v1 : Int32} : fX12_within v0 v1 = 0 ∨ fX12_within v0 v1 = 1 := by
  unfold fX12_within
  first | exact rfl | ((repeat' split) <;> simp; done) | (simp only [goNm]; (repeat' split) <;> simp)
set_option maxRecDepth 100000 in
set_option maxHeartbeats 4000000 in
theorem mX12_within {E : goEv} {l : Launch} {G : goG} {M : goMI} {L : goML} {R : goMR} {v0 : Int32} {v1 : Int32} {r0 : Int32} (hk : goKn E) (hW : goW G R) (h : fX12_within v0 v1 = r0) : Met l yX12_within (goCd yX12_within cX12_within 2 (Option.some FieldType.boolean)) (goRoom 0 0 0 0) (goPre E [.int v0, .int v1] G M L R) (goQi E r0 G M L R) 0 0 (goSet E) := by
  refine goMet pl_RX12 hk (lv := [some (.int v0), some (.int v1)]) rfl (Nat.le_of_ble_eq_true rfl) ?_
  intro X hc hl hR hr hnm
  subst hl
  unfold fX12_within at h
  refine go_iload0 hc dX12_within_0 ?_
  refine go_if_lt hc 13 dX12_within_1 rfl (fun c11 => ?_) (fun c11 => ?_)
  · replace h := goIfF h c11
    refine go_iconst (v := 0) hc dX12_within_13 rfl ?_
    subst h
    exact go_zret hc dX12_within_14 hr rfl
  · replace h := goIfT h c11
    refine go_iload0 hc dX12_within_4 ?_
    refine go_iload1 hc dX12_within_5 ?_
    refine go_icmp_ge hc 13 dX12_within_6 rfl (fun c12 => ?_) (fun c12 => ?_)
    · replace h := goIfF h c12
      refine go_iconst (v := 0) hc dX12_within_13 rfl ?_
      subst h
      exact go_zret hc dX12_within_14 hr rfl
    · replace h := goIfT h c12
      refine go_iconst (v := 1) hc dX12_within_9 rfl ?_
      refine go_goto hc 14 dX12_within_10 rfl ?_
      subst h
      exact go_zret hc dX12_within_14 hr rfl
theorem dX1_restore_0 : decode cX1_restore 0 = .ok (.iload_n 1, 1) := by decide +kernel
theorem dX1_restore_1 : decode cX1_restore 1 = .ok (.aload_n 0, 1) := by decide +kernel
theorem dX1_restore_2 : decode cX1_restore 2 = .ok (.getfield 31, 3) := by decide +kernel
theorem dX1_restore_5 : decode cX1_restore 5 = .ok (.invokestatic 51, 3) := by decide +kernel
theorem dX1_restore_8 : decode cX1_restore 8 = .ok (.ifCond .ne 5, 3) := by decide +kernel
theorem dX1_restore_11 : decode cX1_restore 11 = .ok (.iconst 0, 1) := by decide +kernel
theorem dX1_restore_12 : decode cX1_restore 12 = .ok (.ireturn, 1) := by decide +kernel
theorem dX1_restore_13 : decode cX1_restore 13 = .ok (.aload_n 0, 1) := by decide +kernel
theorem dX1_restore_14 : decode cX1_restore 14 = .ok (.getfield 18, 3) := by decide +kernel
theorem dX1_restore_17 : decode cX1_restore 17 = .ok (.iload_n 1, 1) := by decide +kernel
theorem dX1_restore_18 : decode cX1_restore 18 = .ok (.bipush 26, 2) := by decide +kernel
theorem dX1_restore_20 : decode cX1_restore 20 = .ok (.imul, 1) := by decide +kernel
theorem dX1_restore_21 : decode cX1_restore 21 = .ok (.aload_n 0, 1) := by decide +kernel
theorem dX1_restore_22 : decode cX1_restore 22 = .ok (.getfield 11, 3) := by decide +kernel
theorem dX1_restore_25 : decode cX1_restore 25 = .ok (.iconst 0, 1) := by decide +kernel
theorem dX1_restore_26 : decode cX1_restore 26 = .ok (.bipush 26, 2) := by decide +kernel
theorem dX1_restore_28 : decode cX1_restore 28 = .ok (.invokestatic 41, 3) := by decide +kernel
theorem dX1_restore_31 : decode cX1_restore 31 = .ok (.aload_n 0, 1) := by decide +kernel
theorem dX1_restore_32 : decode cX1_restore 32 = .ok (.iconst 0, 1) := by decide +kernel
theorem dX1_restore_33 : decode cX1_restore 33 = .ok (.putfield 27, 3) := by decide +kernel
theorem dX1_restore_36 : decode cX1_restore 36 = .ok (.aload_n 0, 1) := by decide +kernel
theorem dX1_restore_37 : decode cX1_restore 37 = .ok (.dup, 1) := by decide +kernel
theorem dX1_restore_38 : decode cX1_restore 38 = .ok (.getfield 34, 3) := by decide +kernel
theorem dX1_restore_41 : decode cX1_restore 41 = .ok (.iconst 1, 1) := by decide +kernel
theorem dX1_restore_42 : decode cX1_restore 42 = .ok (.iadd, 1) := by decide +kernel
theorem dX1_restore_43 : decode cX1_restore 43 = .ok (.putfield 34, 3) := by decide +kernel
theorem dX1_restore_46 : decode cX1_restore 46 = .ok (.iconst 1, 1) := by decide +kernel
theorem dX1_restore_47 : decode cX1_restore 47 = .ok (.ireturn, 1) := by decide +kernel
set_option maxRecDepth 100000 in
set_option maxHeartbeats 4000000 in
theorem mX1_restore {E : goEv} {l : Launch} {G : goG} {M : goMI} {L : goML} {R : goMR} {v1 : Int32} {r0 : Int32} {r1 : goMI} (hk : goKn E) (hW : goW G R) (h : fX1_restore M v1 = some (r0, r1)) : Met l yX1_restore (goCd yX1_restore cX1_restore 2 (Option.some FieldType.boolean)) (goRoom 1 40 0 0) (goPre E [.ref 3, .int v1] G M L R) (goQi E r0 G r1 L R) 0 0 (goSet E) := by
  refine goMet pl_RX1 hk (lv := [some (.ref 3), some (.int v1)]) rfl (Nat.le_of_ble_eq_true rfl) ?_
  intro X hc hl hR hr hnm
  subst hl
  unfold fX1_restore at h
  refine go_iload1 hc dX1_restore_0 ?_
  refine go_aload0 hc dX1_restore_1 ?_
  refine go_getI hc lk_RX1_31 dX1_restore_2 (sh_3 hW) ?_
  refine go_callSi hc dX1_restore_5 (mX12_within hk hW rfl) ml_RX1_51 yk_X12_within wst_X12_within hR rfl rfl rfl (Nat.le_of_ble_eq_true rfl) rfl ?_
  refine go_if_ne hc 13 dX1_restore_8 rfl (fun c11 => ?_) (fun c11 => ?_)
  · replace h := goIfF h c11
    refine go_aload0 hc dX1_restore_13 ?_
    refine go_getR hc lk_RX1_18 dX1_restore_14 (sh_3 hW) (rf_3_2 hW) ?_
    refine go_iload1 hc dX1_restore_17 ?_
    refine go_bipush (v := 26) hc dX1_restore_18 rfl ?_
    refine go_imul hc dX1_restore_20 ?_
    refine go_aload0 hc dX1_restore_21 ?_
    refine go_getR hc lk_RX1_11 dX1_restore_22 (sh_3 hW) (rf_3_0 hW) ?_
    refine go_iconst (v := 0) hc dX1_restore_25 rfl ?_
    refine go_bipush (v := 26) hc dX1_restore_26 rfl ?_
    replace h := goBind h; obtain ⟨M12, e13, h⟩ := h
    refine go_copy hc dX1_restore_28 wml_RX1_41 hR rfl (sh_6 hW) (sh_4 hW) rfl (Nat.le_of_ble_eq_true rfl) e13 ?_
    refine go_aload0 hc dX1_restore_31 ?_
    refine go_iconst (v := 0) hc dX1_restore_32 rfl ?_
    replace h := goNm_x h; obtain ⟨M14, e15, h⟩ := h
    refine go_ptI hc lk_RX1_27 dX1_restore_33 (sh_3 hW) e15 ?_
    refine go_aload0 hc dX1_restore_36 ?_
    refine go_dupr hc dX1_restore_37 ?_
    refine go_getI hc lk_RX1_34 dX1_restore_38 (sh_3 hW) ?_
    refine go_iconst (v := 1) hc dX1_restore_41 rfl ?_
    refine go_iadd hc dX1_restore_42 ?_
    replace h := goNm_x h; obtain ⟨M16, e17, h⟩ := h
    refine go_ptI hc lk_RX1_34 dX1_restore_43 (sh_3 hW) e17 ?_
    refine go_iconst (v := 1) hc dX1_restore_46 rfl ?_
    cases h
    exact go_zret hc dX1_restore_47 hr rfl
  · replace h := goIfT h c11
    refine go_iconst (v := 0) hc dX1_restore_11 rfl ?_
    cases h
    exact go_zret hc dX1_restore_12 hr rfl
theorem dJ6_bitCount_0f7a4_0 : decode cJ6_bitCount_0f7a4 0 = .ok (.iload_n 0, 1) := by decide +kernel
theorem dJ6_bitCount_0f7a4_1 : decode cJ6_bitCount_0f7a4 1 = .ok (.iload_n 0, 1) := by decide +kernel
theorem dJ6_bitCount_0f7a4_2 : decode cJ6_bitCount_0f7a4 2 = .ok (.iconst 1, 1) := by decide +kernel
theorem dJ6_bitCount_0f7a4_3 : decode cJ6_bitCount_0f7a4 3 = .ok (.iushr, 1) := by decide +kernel
theorem dJ6_bitCount_0f7a4_4 : decode cJ6_bitCount_0f7a4 4 = .ok (.ldc_w 265, 3) := by decide +kernel
theorem dJ6_bitCount_0f7a4_7 : decode cJ6_bitCount_0f7a4 7 = .ok (.iand, 1) := by decide +kernel
theorem dJ6_bitCount_0f7a4_8 : decode cJ6_bitCount_0f7a4 8 = .ok (.isub, 1) := by decide +kernel
theorem dJ6_bitCount_0f7a4_9 : decode cJ6_bitCount_0f7a4 9 = .ok (.istore_n 0, 1) := by decide +kernel
theorem dJ6_bitCount_0f7a4_10 : decode cJ6_bitCount_0f7a4 10 = .ok (.iload_n 0, 1) := by decide +kernel
theorem dJ6_bitCount_0f7a4_11 : decode cJ6_bitCount_0f7a4 11 = .ok (.ldc_w 266, 3) := by decide +kernel
theorem dJ6_bitCount_0f7a4_14 : decode cJ6_bitCount_0f7a4 14 = .ok (.iand, 1) := by decide +kernel
theorem dJ6_bitCount_0f7a4_15 : decode cJ6_bitCount_0f7a4 15 = .ok (.iload_n 0, 1) := by decide +kernel
theorem dJ6_bitCount_0f7a4_16 : decode cJ6_bitCount_0f7a4 16 = .ok (.iconst 2, 1) := by decide +kernel
theorem dJ6_bitCount_0f7a4_17 : decode cJ6_bitCount_0f7a4 17 = .ok (.iushr, 1) := by decide +kernel
theorem dJ6_bitCount_0f7a4_18 : decode cJ6_bitCount_0f7a4 18 = .ok (.ldc_w 266, 3) := by decide +kernel
theorem dJ6_bitCount_0f7a4_21 : decode cJ6_bitCount_0f7a4 21 = .ok (.iand, 1) := by decide +kernel
theorem dJ6_bitCount_0f7a4_22 : decode cJ6_bitCount_0f7a4 22 = .ok (.iadd, 1) := by decide +kernel
theorem dJ6_bitCount_0f7a4_23 : decode cJ6_bitCount_0f7a4 23 = .ok (.istore_n 0, 1) := by decide +kernel
theorem dJ6_bitCount_0f7a4_24 : decode cJ6_bitCount_0f7a4 24 = .ok (.iload_n 0, 1) := by decide +kernel
theorem dJ6_bitCount_0f7a4_25 : decode cJ6_bitCount_0f7a4 25 = .ok (.iload_n 0, 1) := by decide +kernel
theorem dJ6_bitCount_0f7a4_26 : decode cJ6_bitCount_0f7a4 26 = .ok (.iconst 4, 1) := by decide +kernel
theorem dJ6_bitCount_0f7a4_27 : decode cJ6_bitCount_0f7a4 27 = .ok (.iushr, 1) := by decide +kernel
theorem dJ6_bitCount_0f7a4_28 : decode cJ6_bitCount_0f7a4 28 = .ok (.iadd, 1) := by decide +kernel
theorem dJ6_bitCount_0f7a4_29 : decode cJ6_bitCount_0f7a4 29 = .ok (.ldc_w 267, 3) := by decide +kernel
theorem dJ6_bitCount_0f7a4_32 : decode cJ6_bitCount_0f7a4 32 = .ok (.iand, 1) := by decide +kernel
theorem dJ6_bitCount_0f7a4_33 : decode cJ6_bitCount_0f7a4 33 = .ok (.istore_n 0, 1) := by decide +kernel
theorem dJ6_bitCount_0f7a4_34 : decode cJ6_bitCount_0f7a4 34 = .ok (.iload_n 0, 1) := by decide +kernel
theorem dJ6_bitCount_0f7a4_35 : decode cJ6_bitCount_0f7a4 35 = .ok (.iload_n 0, 1) := by decide +kernel
theorem dJ6_bitCount_0f7a4_36 : decode cJ6_bitCount_0f7a4 36 = .ok (.bipush 8, 2) := by decide +kernel
theorem dJ6_bitCount_0f7a4_38 : decode cJ6_bitCount_0f7a4 38 = .ok (.iushr, 1) := by decide +kernel
theorem dJ6_bitCount_0f7a4_39 : decode cJ6_bitCount_0f7a4 39 = .ok (.iadd, 1) := by decide +kernel
theorem dJ6_bitCount_0f7a4_40 : decode cJ6_bitCount_0f7a4 40 = .ok (.istore_n 0, 1) := by decide +kernel
theorem dJ6_bitCount_0f7a4_41 : decode cJ6_bitCount_0f7a4 41 = .ok (.iload_n 0, 1) := by decide +kernel
theorem dJ6_bitCount_0f7a4_42 : decode cJ6_bitCount_0f7a4 42 = .ok (.iload_n 0, 1) := by decide +kernel
theorem dJ6_bitCount_0f7a4_43 : decode cJ6_bitCount_0f7a4 43 = .ok (.bipush 16, 2) := by decide +kernel
theorem dJ6_bitCount_0f7a4_45 : decode cJ6_bitCount_0f7a4 45 = .ok (.iushr, 1) := by decide +kernel
theorem dJ6_bitCount_0f7a4_46 : decode cJ6_bitCount_0f7a4 46 = .ok (.iadd, 1) := by decide +kernel
theorem dJ6_bitCount_0f7a4_47 : decode cJ6_bitCount_0f7a4 47 = .ok (.istore_n 0, 1) := by decide +kernel
theorem dJ6_bitCount_0f7a4_48 : decode cJ6_bitCount_0f7a4 48 = .ok (.iload_n 0, 1) := by decide +kernel
theorem dJ6_bitCount_0f7a4_49 : decode cJ6_bitCount_0f7a4 49 = .ok (.bipush 63, 2) := by decide +kernel
theorem dJ6_bitCount_0f7a4_51 : decode cJ6_bitCount_0f7a4 51 = .ok (.iand, 1) := by decide +kernel
theorem dJ6_bitCount_0f7a4_52 : decode cJ6_bitCount_0f7a4 52 = .ok (.ireturn, 1) := by decide +kernel
set_option maxRecDepth 100000 in
set_option maxHeartbeats 4000000 in
theorem mJ6_bitCount_0f7a4 {E : goEv} {l : Launch} {G : goG} {M : goMI} {L : goML} {R : goMR} {v0 : Int32} {r0 : Int32} (hk : goKn E) (hW : goW G R) (h : fJ6_bitCount_0f7a4 v0 = r0) : Met l yJ6_bitCount_0f7a4 (goCd yJ6_bitCount_0f7a4 cJ6_bitCount_0f7a4 1 (Option.some FieldType.int)) (goRoom 0 0 0 0) (goPre E [.int v0] G M L R) (goQi E r0 G M L R) 0 0 (goSet E) := by
  refine goMet pl_RJ6 hk (lv := [some (.int v0)]) rfl (Nat.le_of_ble_eq_true rfl) ?_
  intro X hc hl hR hr hnm
  subst hl
  unfold fJ6_bitCount_0f7a4 at h
  refine go_iload0 hc dJ6_bitCount_0f7a4_0 ?_
  refine go_iload0 hc dJ6_bitCount_0f7a4_1 ?_
  refine go_iconst (v := 1) hc dJ6_bitCount_0f7a4_2 rfl ?_
  refine go_iushr hc dJ6_bitCount_0f7a4_3 ?_
  refine go_ldcw hc dJ6_bitCount_0f7a4_4 wct_RJ6_265 ?_
  refine go_iand hc dJ6_bitCount_0f7a4_7 ?_
  refine go_isub hc dJ6_bitCount_0f7a4_8 ?_
  replace h := goNm_x h; obtain ⟨x11, e12, h⟩ := h
  refine go_nmI e12 ?_
  refine go_istore0 hc dJ6_bitCount_0f7a4_9 ?_
  refine go_iload0 hc dJ6_bitCount_0f7a4_10 ?_
  refine go_ldcw hc dJ6_bitCount_0f7a4_11 wct_RJ6_266 ?_
  refine go_iand hc dJ6_bitCount_0f7a4_14 ?_
  refine go_iload0 hc dJ6_bitCount_0f7a4_15 ?_
  refine go_iconst (v := 2) hc dJ6_bitCount_0f7a4_16 rfl ?_
  refine go_iushr hc dJ6_bitCount_0f7a4_17 ?_
  refine go_ldcw hc dJ6_bitCount_0f7a4_18 wct_RJ6_266 ?_
  refine go_iand hc dJ6_bitCount_0f7a4_21 ?_
  refine go_iadd hc dJ6_bitCount_0f7a4_22 ?_
  replace h := goNm_x h; obtain ⟨x13, e14, h⟩ := h
  refine go_nmI e14 ?_
  refine go_istore0 hc dJ6_bitCount_0f7a4_23 ?_
  refine go_iload0 hc dJ6_bitCount_0f7a4_24 ?_
  refine go_iload0 hc dJ6_bitCount_0f7a4_25 ?_
  refine go_iconst (v := 4) hc dJ6_bitCount_0f7a4_26 rfl ?_
  refine go_iushr hc dJ6_bitCount_0f7a4_27 ?_
  refine go_iadd hc dJ6_bitCount_0f7a4_28 ?_
  refine go_ldcw hc dJ6_bitCount_0f7a4_29 wct_RJ6_267 ?_
  refine go_iand hc dJ6_bitCount_0f7a4_32 ?_
  replace h := goNm_x h; obtain ⟨x15, e16, h⟩ := h
  refine go_nmI e16 ?_
  refine go_istore0 hc dJ6_bitCount_0f7a4_33 ?_
  refine go_iload0 hc dJ6_bitCount_0f7a4_34 ?_
  refine go_iload0 hc dJ6_bitCount_0f7a4_35 ?_
  refine go_bipush (v := 8) hc dJ6_bitCount_0f7a4_36 rfl ?_
  refine go_iushr hc dJ6_bitCount_0f7a4_38 ?_
  refine go_iadd hc dJ6_bitCount_0f7a4_39 ?_
  replace h := goNm_x h; obtain ⟨x17, e18, h⟩ := h
  refine go_nmI e18 ?_
  refine go_istore0 hc dJ6_bitCount_0f7a4_40 ?_
  refine go_iload0 hc dJ6_bitCount_0f7a4_41 ?_
  refine go_iload0 hc dJ6_bitCount_0f7a4_42 ?_
  refine go_bipush (v := 16) hc dJ6_bitCount_0f7a4_43 rfl ?_
  refine go_iushr hc dJ6_bitCount_0f7a4_45 ?_
  refine go_iadd hc dJ6_bitCount_0f7a4_46 ?_
  replace h := goNm_x h; obtain ⟨x19, e20, h⟩ := h
  refine go_nmI e20 ?_
  refine go_istore0 hc dJ6_bitCount_0f7a4_47 ?_
  refine go_iload0 hc dJ6_bitCount_0f7a4_48 ?_
  refine go_bipush (v := 63) hc dJ6_bitCount_0f7a4_49 rfl ?_
  refine go_iand hc dJ6_bitCount_0f7a4_51 ?_
  subst h
  exact go_iret hc dJ6_bitCount_0f7a4_52 hr
theorem dX1_countPut_0 : decode cX1_countPut 0 = .ok (.iconst 0, 1) := by decide +kernel
theorem dX1_countPut_1 : decode cX1_countPut 1 = .ok (.istore_n 2, 1) := by decide +kernel
theorem dX1_countPut_2 : decode cX1_countPut 2 = .ok (.iconst 0, 1) := by decide +kernel
theorem dX1_countPut_3 : decode cX1_countPut 3 = .ok (.istore_n 3, 1) := by decide +kernel
theorem dX1_countPut_4 : decode cX1_countPut 4 = .ok (.iload_n 3, 1) := by decide +kernel
theorem dX1_countPut_5 : decode cX1_countPut 5 = .ok (.bipush 12, 2) := by decide +kernel
theorem dX1_countPut_7 : decode cX1_countPut 7 = .ok (.if_icmp .ge 23, 3) := by decide +kernel
theorem dX1_countPut_10 : decode cX1_countPut 10 = .ok (.iload_n 2, 1) := by decide +kernel
theorem dX1_countPut_11 : decode cX1_countPut 11 = .ok (.aload_n 0, 1) := by decide +kernel
theorem dX1_countPut_12 : decode cX1_countPut 12 = .ok (.getfield 11, 3) := by decide +kernel
theorem dX1_countPut_15 : decode cX1_countPut 15 = .ok (.iload_n 1, 1) := by decide +kernel
theorem dX1_countPut_16 : decode cX1_countPut 16 = .ok (.iload_n 3, 1) := by decide +kernel
theorem dX1_countPut_17 : decode cX1_countPut 17 = .ok (.iadd, 1) := by decide +kernel
theorem dX1_countPut_18 : decode cX1_countPut 18 = .ok (.iaload, 1) := by decide +kernel
theorem dX1_countPut_19 : decode cX1_countPut 19 = .ok (.invokestatic 55, 3) := by decide +kernel
theorem dX1_countPut_22 : decode cX1_countPut 22 = .ok (.iadd, 1) := by decide +kernel
theorem dX1_countPut_23 : decode cX1_countPut 23 = .ok (.istore_n 2, 1) := by decide +kernel
theorem dX1_countPut_24 : decode cX1_countPut 24 = .ok (.iinc 3 1, 3) := by decide +kernel
theorem dX1_countPut_27 : decode cX1_countPut 27 = .ok (.goto (-23), 3) := by decide +kernel
theorem dX1_countPut_30 : decode cX1_countPut 30 = .ok (.iload_n 2, 1) := by decide +kernel
theorem dX1_countPut_31 : decode cX1_countPut 31 = .ok (.ireturn, 1) := by decide +kernel
set_option maxRecDepth 100000 in
set_option maxHeartbeats 4000000 in
theorem mX1_countPut_L4 {E : goEv} {X : goX} {G : goG} {Q : State → Prop} {M : goMI} {L : goML} {R : goMR} {v1 : Int32} (hc : goCx E X cX1_countPut RX1 4) (hk : goKn E) (hR : X.2.2.2.1 = goRoom 1 20 0 0) (hr : X.2.2.2.2.2.2.2.2.1.sig.returnType = (Option.some FieldType.int)) (hW : goW G R) : ∀ (n : Nat) (v2 : Int32) (v3 : Int32) (r0 : Int32), lX1_countPut_4 v1 M n v2 v3 = some r0 → (∀ (d0 d1 d3 : Option Value), goA E X G 0 0 Q 30 [d0, d1, some (.int r0), d3] [] M L R) → goA E X G 0 0 Q 4 [some (.ref 3), some (.int v1), some (.int v2), some (.int v3)] [] M L R := by
  intro n
  induction n with
  | zero => intro v2 v3 r0 h; exact nomatch h
  | succ n ih =>
    intro v2 v3 r0 h kx
    rw [lX1_countPut_4] at h
    refine go_iload3 hc dX1_countPut_4 ?_
    refine go_bipush (v := 12) hc dX1_countPut_5 rfl ?_
    refine go_icmp_ge hc 30 dX1_countPut_7 rfl (fun c11 => ?_) (fun c11 => ?_)
    · replace h := goIfF h c11
      cases h
      exact kx _ _ _
    · replace h := goIfT h c11
      refine go_iload2 hc dX1_countPut_10 ?_
      refine go_aload0 hc dX1_countPut_11 ?_
      refine go_getR hc lk_RX1_11 dX1_countPut_12 (sh_3 hW) (rf_3_0 hW) ?_
      refine go_iload1 hc dX1_countPut_15 ?_
      refine go_iload3 hc dX1_countPut_16 ?_
      refine go_iadd hc dX1_countPut_17 ?_
      replace h := goBind h; obtain ⟨x12, e13, h⟩ := h
      refine go_iald hc dX1_countPut_18 (sh_4 hW) e13 ?_
      refine go_callSi hc dX1_countPut_19 (mJ6_bitCount_0f7a4 hk hW rfl) ml_RX1_55 yk_J6_bitCount_0f7a4 wst_J6_bitCount_0f7a4 hR rfl rfl rfl (Nat.le_of_ble_eq_true rfl) rfl ?_
      refine go_iadd hc dX1_countPut_22 ?_
      replace h := goNm_x h; obtain ⟨x14, e15, h⟩ := h
      refine go_nmI e15 ?_
      refine go_istore2 hc dX1_countPut_23 ?_
      refine go_iinc3 (v := (v3 + 1)) hc dX1_countPut_24 rfl ?_
      refine go_goto hc 4 dX1_countPut_27 rfl ?_
      exact ih _ _ _ h kx
set_option maxRecDepth 100000 in
set_option maxHeartbeats 4000000 in
theorem mX1_countPut {E : goEv} {l : Launch} {G : goG} {N : Nat} {M : goMI} {L : goML} {R : goMR} {v1 : Int32} {r0 : Int32} (hk : goKn E) (hW : goW G R) (h : fX1_countPut N M v1 = some r0) : Met l yX1_countPut (goCd yX1_countPut cX1_countPut 4 (Option.some FieldType.int)) (goRoom 1 20 0 0) (goPre E [.ref 3, .int v1] G M L R) (goQi E r0 G M L R) 0 0 (goSet E) := by
  refine goMet pl_RX1 hk (lv := [some (.ref 3), some (.int v1), none, none]) rfl (Nat.le_of_ble_eq_true rfl) ?_
  intro X hc hl hR hr hnm
  subst hl
  unfold fX1_countPut at h
  refine go_iconst (v := 0) hc dX1_countPut_0 rfl ?_
  refine go_istore2 hc dX1_countPut_1 ?_
  refine go_iconst (v := 0) hc dX1_countPut_2 rfl ?_
  refine go_istore3 hc dX1_countPut_3 ?_
  replace h := goBind h; obtain ⟨x17, e16, h⟩ := h
  refine mX1_countPut_L4 hc hk hR hr hW _ _ _ _ e16 (fun d0 d1 d3 => ?_)
  refine go_iload2 hc dX1_countPut_30 ?_
  cases h
  exact go_iret hc dX1_countPut_31 hr
theorem dX1_spot_0 : decode cX1_spot 0 = .ok (.iconst 0, 1) := by decide +kernel
theorem dX1_spot_1 : decode cX1_spot 1 = .ok (.istore_n 3, 1) := by decide +kernel
theorem dX1_spot_2 : decode cX1_spot 2 = .ok (.iconst 0, 1) := by decide +kernel
theorem dX1_spot_3 : decode cX1_spot 3 = .ok (.istore 4, 2) := by decide +kernel
theorem dX1_spot_5 : decode cX1_spot 5 = .ok (.iload 4, 2) := by decide +kernel
theorem dX1_spot_7 : decode cX1_spot 7 = .ok (.bipush 96, 2) := by decide +kernel
theorem dX1_spot_9 : decode cX1_spot 9 = .ok (.if_icmp .ge 44, 3) := by decide +kernel
theorem dX1_spot_12 : decode cX1_spot 12 = .ok (.aload_n 0, 1) := by decide +kernel
theorem dX1_spot_13 : decode cX1_spot 13 = .ok (.getfield 11, 3) := by decide +kernel
theorem dX1_spot_16 : decode cX1_spot 16 = .ok (.iload_n 1, 1) := by decide +kernel
theorem dX1_spot_17 : decode cX1_spot 17 = .ok (.iload 4, 2) := by decide +kernel
theorem dX1_spot_19 : decode cX1_spot 19 = .ok (.bipush 12, 2) := by decide +kernel
theorem dX1_spot_21 : decode cX1_spot 21 = .ok (.irem, 1) := by decide +kernel
theorem dX1_spot_22 : decode cX1_spot 22 = .ok (.iadd, 1) := by decide +kernel
theorem dX1_spot_23 : decode cX1_spot 23 = .ok (.iaload, 1) := by decide +kernel
theorem dX1_spot_24 : decode cX1_spot 24 = .ok (.iload 4, 2) := by decide +kernel
theorem dX1_spot_26 : decode cX1_spot 26 = .ok (.bipush 12, 2) := by decide +kernel
theorem dX1_spot_28 : decode cX1_spot 28 = .ok (.idiv, 1) := by decide +kernel
theorem dX1_spot_29 : decode cX1_spot 29 = .ok (.invokestatic 37, 3) := by decide +kernel
theorem dX1_spot_32 : decode cX1_spot 32 = .ok (.iconst 1, 1) := by decide +kernel
theorem dX1_spot_33 : decode cX1_spot 33 = .ok (.if_icmp .ne 14, 3) := by decide +kernel
theorem dX1_spot_36 : decode cX1_spot 36 = .ok (.iload_n 3, 1) := by decide +kernel
theorem dX1_spot_37 : decode cX1_spot 37 = .ok (.iload_n 2, 1) := by decide +kernel
theorem dX1_spot_38 : decode cX1_spot 38 = .ok (.if_icmp .ne 6, 3) := by decide +kernel
theorem dX1_spot_41 : decode cX1_spot 41 = .ok (.iload 4, 2) := by decide +kernel
theorem dX1_spot_43 : decode cX1_spot 43 = .ok (.ireturn, 1) := by decide +kernel
theorem dX1_spot_44 : decode cX1_spot 44 = .ok (.iinc 3 1, 3) := by decide +kernel
theorem dX1_spot_47 : decode cX1_spot 47 = .ok (.iinc 4 1, 3) := by decide +kernel
theorem dX1_spot_50 : decode cX1_spot 50 = .ok (.goto (-45), 3) := by decide +kernel
theorem dX1_spot_53 : decode cX1_spot 53 = .ok (.iconst (-1), 1) := by decide +kernel
theorem dX1_spot_54 : decode cX1_spot 54 = .ok (.ireturn, 1) := by decide +kernel
set_option maxRecDepth 100000 in
set_option maxHeartbeats 4000000 in
theorem mX1_spot_L5 {E : goEv} {X : goX} {G : goG} {M : goMI} {L : goML} {R : goMR} {v1 : Int32} {v2 : Int32} {r0 : Int32} (hc : goCx E X cX1_spot RX1 5) (hk : goKn E) (hR : X.2.2.2.1 = goRoom 1 21 0 0) (hr : X.2.2.2.2.2.2.2.2.1.sig.returnType = (Option.some FieldType.int)) (hW : goW G R) : ∀ (n : Nat) (v3 : Int32) (v4 : Int32), lX1_spot_5 v1 v2 M n v3 v4 = some r0 → goA E X G 0 0 (goMQ X E (goQi E r0 G M L R) 0 0) 5 [some (.ref 3), some (.int v1), some (.int v2), some (.int v3), some (.int v4)] [] M L R := by
  intro n
  induction n with
  | zero => intro v3 v4 h; exact nomatch h
  | succ n ih =>
    intro v3 v4 h
    rw [lX1_spot_5] at h
    refine go_iload4 hc dX1_spot_5 ?_
    refine go_bipush (v := 96) hc dX1_spot_7 rfl ?_
    refine go_icmp_ge hc 53 dX1_spot_9 rfl (fun c11 => ?_) (fun c11 => ?_)
    · replace h := goIfF h c11
      refine go_iconst (v := (-1)) hc dX1_spot_53 rfl ?_
      cases h
      exact go_iret hc dX1_spot_54 hr
    · replace h := goIfT h c11
      refine go_aload0 hc dX1_spot_12 ?_
      refine go_getR hc lk_RX1_11 dX1_spot_13 (sh_3 hW) (rf_3_0 hW) ?_
      refine go_iload1 hc dX1_spot_16 ?_
      refine go_iload4 hc dX1_spot_17 ?_
      refine go_bipush (v := 12) hc dX1_spot_19 rfl ?_
      refine go_irem hc dX1_spot_21 (by decide) ?_
      refine go_iadd hc dX1_spot_22 ?_
      replace h := goBind h; obtain ⟨x12, e13, h⟩ := h
      refine go_iald hc dX1_spot_23 (sh_4 hW) e13 ?_
      refine go_iload4 hc dX1_spot_24 ?_
      refine go_bipush (v := 12) hc dX1_spot_26 rfl ?_
      refine go_idiv hc dX1_spot_28 (by decide) ?_
      refine go_callSi hc dX1_spot_29 (mX12_bit hk hW rfl) ml_RX1_37 yk_X12_bit wst_X12_bit hR rfl rfl rfl (Nat.le_of_ble_eq_true rfl) rfl ?_
      refine go_iconst (v := 1) hc dX1_spot_32 rfl ?_
      refine go_icmp_ne hc 47 dX1_spot_33 rfl (fun c14 => ?_) (fun c14 => ?_)
      · replace h := goIfF h c14
        refine go_iinc4 (v := (v4 + 1)) hc dX1_spot_47 rfl ?_
        refine go_goto hc 5 dX1_spot_50 rfl ?_
        exact ih _ _ h
      · replace h := goIfT h c14
        refine go_iload3 hc dX1_spot_36 ?_
        refine go_iload2 hc dX1_spot_37 ?_
        refine go_icmp_ne hc 44 dX1_spot_38 rfl (fun c15 => ?_) (fun c15 => ?_)
        · replace h := goIfF h c15
          refine go_iinc3 (v := (v3 + 1)) hc dX1_spot_44 rfl ?_
          refine go_iinc4 (v := (v4 + 1)) hc dX1_spot_47 rfl ?_
          refine go_goto hc 5 dX1_spot_50 rfl ?_
          exact ih _ _ h
        · replace h := goIfT h c15
          refine go_iload4 hc dX1_spot_41 ?_
          cases h
          exact go_iret hc dX1_spot_43 hr
set_option maxRecDepth 100000 in
set_option maxHeartbeats 4000000 in
theorem mX1_spot {E : goEv} {l : Launch} {G : goG} {N : Nat} {M : goMI} {L : goML} {R : goMR} {v1 : Int32} {v2 : Int32} {r0 : Int32} (hk : goKn E) (hW : goW G R) (h : fX1_spot N M v1 v2 = some r0) : Met l yX1_spot (goCd yX1_spot cX1_spot 5 (Option.some FieldType.int)) (goRoom 1 21 0 0) (goPre E [.ref 3, .int v1, .int v2] G M L R) (goQi E r0 G M L R) 0 0 (goSet E) := by
  refine goMet pl_RX1 hk (lv := [some (.ref 3), some (.int v1), some (.int v2), none, none]) rfl (Nat.le_of_ble_eq_true rfl) ?_
  intro X hc hl hR hr hnm
  subst hl
  unfold fX1_spot at h
  refine go_iconst (v := 0) hc dX1_spot_0 rfl ?_
  refine go_istore3 hc dX1_spot_1 ?_
  refine go_iconst (v := 0) hc dX1_spot_2 rfl ?_
  refine go_istore4 hc dX1_spot_3 ?_
  exact mX1_spot_L5 hc hk hR hr hW _ _ _ h
theorem dX2_weigh_0 : decode cX2_weigh 0 = .ok (.aload_n 0, 1) := by decide +kernel
theorem dX2_weigh_1 : decode cX2_weigh 1 = .ok (.getfield 18, 3) := by decide +kernel
theorem dX2_weigh_4 : decode cX2_weigh 4 = .ok (.iconst 0, 1) := by decide +kernel
theorem dX2_weigh_5 : decode cX2_weigh 5 = .ok (.lconst 0, 1) := by decide +kernel
theorem dX2_weigh_6 : decode cX2_weigh 6 = .ok (.lastore, 1) := by decide +kernel
theorem dX2_weigh_7 : decode cX2_weigh 7 = .ok (.aload_n 0, 1) := by decide +kernel
theorem dX2_weigh_8 : decode cX2_weigh 8 = .ok (.getfield 22, 3) := by decide +kernel
theorem dX2_weigh_11 : decode cX2_weigh 11 = .ok (.iconst 0, 1) := by decide +kernel
theorem dX2_weigh_12 : decode cX2_weigh 12 = .ok (.iconst 0, 1) := by decide +kernel
theorem dX2_weigh_13 : decode cX2_weigh 13 = .ok (.iastore, 1) := by decide +kernel
theorem dX2_weigh_14 : decode cX2_weigh 14 = .ok (.iconst 1, 1) := by decide +kernel
theorem dX2_weigh_15 : decode cX2_weigh 15 = .ok (.istore_n 1, 1) := by decide +kernel
theorem dX2_weigh_16 : decode cX2_weigh 16 = .ok (.iload_n 1, 1) := by decide +kernel
theorem dX2_weigh_17 : decode cX2_weigh 17 = .ok (.iconst 1, 1) := by decide +kernel
theorem dX2_weigh_18 : decode cX2_weigh 18 = .ok (.aload_n 0, 1) := by decide +kernel
theorem dX2_weigh_19 : decode cX2_weigh 19 = .ok (.getfield 28, 3) := by decide +kernel
theorem dX2_weigh_22 : decode cX2_weigh 22 = .ok (.ishl, 1) := by decide +kernel
theorem dX2_weigh_23 : decode cX2_weigh 23 = .ok (.if_icmp .ge 150, 3) := by decide +kernel
theorem dX2_weigh_26 : decode cX2_weigh 26 = .ok (.lconst 1, 1) := by decide +kernel
theorem dX2_weigh_27 : decode cX2_weigh 27 = .ok (.lstore_n 2, 1) := by decide +kernel
theorem dX2_weigh_28 : decode cX2_weigh 28 = .ok (.iload_n 1, 1) := by decide +kernel
theorem dX2_weigh_29 : decode cX2_weigh 29 = .ok (.invokestatic 32, 3) := by decide +kernel
theorem dX2_weigh_32 : decode cX2_weigh 32 = .ok (.istore 4, 2) := by decide +kernel
theorem dX2_weigh_34 : decode cX2_weigh 34 = .ok (.iload 4, 2) := by decide +kernel
theorem dX2_weigh_36 : decode cX2_weigh 36 = .ok (.ifCond .le 15, 3) := by decide +kernel
theorem dX2_weigh_39 : decode cX2_weigh 39 = .ok (.lload_n 2, 1) := by decide +kernel
theorem dX2_weigh_40 : decode cX2_weigh 40 = .ok (.ldc2_w 38, 3) := by decide +kernel
theorem dX2_weigh_43 : decode cX2_weigh 43 = .ok (.lmul, 1) := by decide +kernel
theorem dX2_weigh_44 : decode cX2_weigh 44 = .ok (.lstore_n 2, 1) := by decide +kernel
theorem dX2_weigh_45 : decode cX2_weigh 45 = .ok (.iinc 4 (-1), 3) := by decide +kernel
theorem dX2_weigh_48 : decode cX2_weigh 48 = .ok (.goto (-14), 3) := by decide +kernel
theorem dX2_weigh_51 : decode cX2_weigh 51 = .ok (.aload_n 0, 1) := by decide +kernel
theorem dX2_weigh_52 : decode cX2_weigh 52 = .ok (.getfield 18, 3) := by decide +kernel
theorem dX2_weigh_55 : decode cX2_weigh 55 = .ok (.iload_n 1, 1) := by decide +kernel
theorem dX2_weigh_56 : decode cX2_weigh 56 = .ok (.ldc2_w 40, 3) := by decide +kernel
theorem dX2_weigh_59 : decode cX2_weigh 59 = .ok (.lastore, 1) := by decide +kernel
theorem dX2_weigh_60 : decode cX2_weigh 60 = .ok (.iconst 0, 1) := by decide +kernel
theorem dX2_weigh_61 : decode cX2_weigh 61 = .ok (.istore 4, 2) := by decide +kernel
theorem dX2_weigh_63 : decode cX2_weigh 63 = .ok (.iload 4, 2) := by decide +kernel
theorem dX2_weigh_65 : decode cX2_weigh 65 = .ok (.aload_n 0, 1) := by decide +kernel
theorem dX2_weigh_66 : decode cX2_weigh 66 = .ok (.getfield 28, 3) := by decide +kernel
theorem dX2_weigh_69 : decode cX2_weigh 69 = .ok (.if_icmp .ge 98, 3) := by decide +kernel
theorem dX2_weigh_72 : decode cX2_weigh 72 = .ok (.iload_n 1, 1) := by decide +kernel
theorem dX2_weigh_73 : decode cX2_weigh 73 = .ok (.iload 4, 2) := by decide +kernel
theorem dX2_weigh_75 : decode cX2_weigh 75 = .ok (.invokestatic 42, 3) := by decide +kernel
theorem dX2_weigh_78 : decode cX2_weigh 78 = .ok (.iconst 1, 1) := by decide +kernel
theorem dX2_weigh_79 : decode cX2_weigh 79 = .ok (.if_icmp .ne 82, 3) := by decide +kernel
theorem dX2_weigh_82 : decode cX2_weigh 82 = .ok (.aload_n 0, 1) := by decide +kernel
theorem dX2_weigh_83 : decode cX2_weigh 83 = .ok (.getfield 9, 3) := by decide +kernel
theorem dX2_weigh_86 : decode cX2_weigh 86 = .ok (.iload 4, 2) := by decide +kernel
theorem dX2_weigh_88 : decode cX2_weigh 88 = .ok (.iaload, 1) := by decide +kernel
theorem dX2_weigh_89 : decode cX2_weigh 89 = .ok (.i2l, 1) := by decide +kernel
theorem dX2_weigh_90 : decode cX2_weigh 90 = .ok (.lload_n 2, 1) := by decide +kernel
theorem dX2_weigh_91 : decode cX2_weigh 91 = .ok (.lmul, 1) := by decide +kernel
theorem dX2_weigh_92 : decode cX2_weigh 92 = .ok (.bipush 10, 2) := by decide +kernel
theorem dX2_weigh_94 : decode cX2_weigh 94 = .ok (.aload_n 0, 1) := by decide +kernel
theorem dX2_weigh_95 : decode cX2_weigh 95 = .ok (.getfield 15, 3) := by decide +kernel
theorem dX2_weigh_98 : decode cX2_weigh 98 = .ok (.iload 4, 2) := by decide +kernel
theorem dX2_weigh_100 : decode cX2_weigh 100 = .ok (.iaload, 1) := by decide +kernel
theorem dX2_weigh_101 : decode cX2_weigh 101 = .ok (.isub, 1) := by decide +kernel
theorem dX2_weigh_102 : decode cX2_weigh 102 = .ok (.i2l, 1) := by decide +kernel
theorem dX2_weigh_103 : decode cX2_weigh 103 = .ok (.aload_n 0, 1) := by decide +kernel
theorem dX2_weigh_104 : decode cX2_weigh 104 = .ok (.getfield 18, 3) := by decide +kernel
theorem dX2_weigh_107 : decode cX2_weigh 107 = .ok (.iload_n 1, 1) := by decide +kernel
theorem dX2_weigh_108 : decode cX2_weigh 108 = .ok (.iconst 1, 1) := by decide +kernel
theorem dX2_weigh_109 : decode cX2_weigh 109 = .ok (.iload 4, 2) := by decide +kernel
theorem dX2_weigh_111 : decode cX2_weigh 111 = .ok (.ishl, 1) := by decide +kernel
theorem dX2_weigh_112 : decode cX2_weigh 112 = .ok (.iconst (-1), 1) := by decide +kernel
theorem dX2_weigh_113 : decode cX2_weigh 113 = .ok (.ixor, 1) := by decide +kernel
theorem dX2_weigh_114 : decode cX2_weigh 114 = .ok (.iand, 1) := by decide +kernel
theorem dX2_weigh_115 : decode cX2_weigh 115 = .ok (.laload, 1) := by decide +kernel
theorem dX2_weigh_116 : decode cX2_weigh 116 = .ok (.lmul, 1) := by decide +kernel
theorem dX2_weigh_117 : decode cX2_weigh 117 = .ok (.ladd, 1) := by decide +kernel
theorem dX2_weigh_118 : decode cX2_weigh 118 = .ok (.lstore 5, 2) := by decide +kernel
theorem dX2_weigh_120 : decode cX2_weigh 120 = .ok (.aload_n 0, 1) := by decide +kernel
theorem dX2_weigh_121 : decode cX2_weigh 121 = .ok (.getfield 18, 3) := by decide +kernel
theorem dX2_weigh_124 : decode cX2_weigh 124 = .ok (.iload_n 1, 1) := by decide +kernel
theorem dX2_weigh_125 : decode cX2_weigh 125 = .ok (.laload, 1) := by decide +kernel
theorem dX2_weigh_126 : decode cX2_weigh 126 = .ok (.ldc2_w 40, 3) := by decide +kernel
theorem dX2_weigh_129 : decode cX2_weigh 129 = .ok (.lcmp, 1) := by decide +kernel
theorem dX2_weigh_130 : decode cX2_weigh 130 = .ok (.ifCond .eq 15, 3) := by decide +kernel
theorem dX2_weigh_133 : decode cX2_weigh 133 = .ok (.lload 5, 2) := by decide +kernel
theorem dX2_weigh_135 : decode cX2_weigh 135 = .ok (.aload_n 0, 1) := by decide +kernel
theorem dX2_weigh_136 : decode cX2_weigh 136 = .ok (.getfield 18, 3) := by decide +kernel
theorem dX2_weigh_139 : decode cX2_weigh 139 = .ok (.iload_n 1, 1) := by decide +kernel
theorem dX2_weigh_140 : decode cX2_weigh 140 = .ok (.laload, 1) := by decide +kernel
theorem dX2_weigh_141 : decode cX2_weigh 141 = .ok (.lcmp, 1) := by decide +kernel
theorem dX2_weigh_142 : decode cX2_weigh 142 = .ok (.ifCond .ge 19, 3) := by decide +kernel
theorem dX2_weigh_145 : decode cX2_weigh 145 = .ok (.aload_n 0, 1) := by decide +kernel
theorem dX2_weigh_146 : decode cX2_weigh 146 = .ok (.getfield 18, 3) := by decide +kernel
theorem dX2_weigh_149 : decode cX2_weigh 149 = .ok (.iload_n 1, 1) := by decide +kernel
theorem dX2_weigh_150 : decode cX2_weigh 150 = .ok (.lload 5, 2) := by decide +kernel
theorem dX2_weigh_152 : decode cX2_weigh 152 = .ok (.lastore, 1) := by decide +kernel
theorem dX2_weigh_153 : decode cX2_weigh 153 = .ok (.aload_n 0, 1) := by decide +kernel
theorem dX2_weigh_154 : decode cX2_weigh 154 = .ok (.getfield 22, 3) := by decide +kernel
theorem dX2_weigh_157 : decode cX2_weigh 157 = .ok (.iload_n 1, 1) := by decide +kernel
theorem dX2_weigh_158 : decode cX2_weigh 158 = .ok (.iload 4, 2) := by decide +kernel
theorem dX2_weigh_160 : decode cX2_weigh 160 = .ok (.iastore, 1) := by decide +kernel
theorem dX2_weigh_161 : decode cX2_weigh 161 = .ok (.iinc 4 1, 3) := by decide +kernel
theorem dX2_weigh_164 : decode cX2_weigh 164 = .ok (.goto (-101), 3) := by decide +kernel
theorem dX2_weigh_167 : decode cX2_weigh 167 = .ok (.iinc 1 1, 3) := by decide +kernel
theorem dX2_weigh_170 : decode cX2_weigh 170 = .ok (.goto (-154), 3) := by decide +kernel
theorem dX2_weigh_173 : decode cX2_weigh 173 = .ok (.return_, 1) := by decide +kernel
set_option maxRecDepth 100000 in
set_option maxHeartbeats 4000000 in
theorem mX2_weigh_L34 {E : goEv} {X : goX} {G : goG} {Q : State → Prop} {M : goMI} {L : goML} {R : goMR} {v1 : Int32} {a0 : Nat} (hc : goCx E X cX2_weigh RX2 7) (hk : goKn E) (hR : X.2.2.2.1 = goRoom 1 21 0 0) (hr : X.2.2.2.2.2.2.2.2.1.sig.returnType = none) (hW : goW G R) (m0 : a0 = 32 ∨ a0 = 62) : ∀ (n : Nat) (w2 : Int64) (v4 : Int32) (r0 : Int64), lX2_weigh_34 n w2 v4 = some r0 → (∀ (d4 d5 d6 : Option Value), goA E X G 0 0 Q 51 [some (.ref a0), some (.int v1), some (.long r0), none, d4, d5, d6] [] M L R) → ∀ (d5 d6 : Option Value), goA E X G 0 0 Q 34 [some (.ref a0), some (.int v1), some (.long w2), none, some (.int v4), d5, d6] [] M L R := by
  intro n
  induction n with
  | zero => intro w2 v4 r0 h; exact nomatch h
  | succ n ih =>
    intro w2 v4 r0 h kx d5 d6
    rw [lX2_weigh_34] at h
    refine go_iload4 hc dX2_weigh_34 ?_
    refine go_if_le hc 51 dX2_weigh_36 rfl (fun c18 => ?_) (fun c18 => ?_)
    · replace h := goIfF h c18
      cases h
      exact kx _ _ _
    · replace h := goIfT h c18
      refine go_lload2 hc dX2_weigh_39 ?_
      refine go_ldc2 hc dX2_weigh_40 wcJ_RX2_38 ?_
      refine go_lmul hc dX2_weigh_43 ?_
      replace h := goNm_x h; obtain ⟨x19, e20, h⟩ := h
      refine go_nmJ e20 ?_
      refine go_lstore2 hc dX2_weigh_44 ?_
      refine go_iinc4 (v := (v4 + (-1))) hc dX2_weigh_45 rfl ?_
      refine go_goto hc 34 dX2_weigh_48 rfl ?_
      exact ih _ _ _ h kx _ _
set_option maxRecDepth 100000 in
set_option maxHeartbeats 4000000 in
theorem mX2_weigh_L63 {E : goEv} {X : goX} {G : goG} {Q : State → Prop} {R : goMR} {v1 : Int32} {w2 : Int64} {a0 : Nat} (hc : goCx E X cX2_weigh RX2 7) (hk : goKn E) (hR : X.2.2.2.1 = goRoom 1 21 0 0) (hr : X.2.2.2.2.2.2.2.2.1.sig.returnType = none) (hW : goW G R) (m0 : a0 = 32 ∨ a0 = 62) : ∀ (n : Nat) (v4 : Int32) (M : goMI) (L : goML) (r0 : goMI) (r1 : goML), lX2_weigh_63 v1 w2 a0 n v4 M L = some (r0, r1) → (∀ (d2 d3 d4 d5 d6 : Option Value), goA E X G 0 0 Q 167 [some (.ref a0), some (.int v1), d2, d3, d4, d5, d6] [] r0 r1 R) → ∀ (d5 d6 : Option Value), goA E X G 0 0 Q 63 [some (.ref a0), some (.int v1), some (.long w2), none, some (.int v4), d5, d6] [] M L R := by
  intro n
  induction n with
  | zero => intro v4 M L r0 r1 h; exact nomatch h
  | succ n ih =>
    intro v4 M L r0 r1 h kx d5 d6
    rw [lX2_weigh_63] at h
    refine go_iload4 hc dX2_weigh_63 ?_
    refine go_aload0 hc dX2_weigh_65 ?_
    refine go_getI hc lk_RX2_28 dX2_weigh_66 (shCourts_0 hW m0) ?_
    refine go_icmp_ge hc 167 dX2_weigh_69 rfl (fun c25 => ?_) (fun c25 => ?_)
    · replace h := goIfF h c25
      cases h
      exact kx _ _ _ _ _
    · replace h := goIfT h c25
      refine go_iload1 hc dX2_weigh_72 ?_
      refine go_iload4 hc dX2_weigh_73 ?_
      refine go_callSi hc dX2_weigh_75 (mX12_bit hk hW rfl) ml_RX2_42 yk_X12_bit wst_X12_bit hR rfl rfl rfl (Nat.le_of_ble_eq_true rfl) rfl ?_
      refine go_iconst (v := 1) hc dX2_weigh_78 rfl ?_
      replace h := goB2_h h; obtain ⟨M26, L27, e28, h⟩ := h
      have k29 : ∀ (d5 d6 : Option Value), goA E X G 0 0 Q 161 [some (.ref a0), some (.int v1), some (.long w2), none, some (.int v4), d5, d6] [] M26 L27 R := by
        intro d5 d6
        refine go_iinc4 (v := (v4 + 1)) hc dX2_weigh_161 rfl ?_
        refine go_goto hc 63 dX2_weigh_164 rfl ?_
        exact ih _ _ _ _ _ h kx _ _
      refine go_icmp_ne hc 161 dX2_weigh_79 rfl (fun c30 => ?_) (fun c30 => ?_)
      · replace e28 := goIfF e28 c30
        cases e28
        exact k29 _ _
      · replace e28 := goIfT e28 c30
        refine go_aload0 hc dX2_weigh_82 ?_
        refine go_getR hc lk_RX2_9 dX2_weigh_83 (shCourts_0 hW m0) (rfCourts_1 hW m0) ?_
        refine go_iload4 hc dX2_weigh_86 ?_
        replace e28 := goBind e28; obtain ⟨x31, e32, e28⟩ := e28
        refine go_iald hc dX2_weigh_88 (shCourts_1 hW m0) e32 ?_
        refine go_i2l hc dX2_weigh_89 ?_
        refine go_lload2 hc dX2_weigh_90 ?_
        refine go_lmul hc dX2_weigh_91 ?_
        refine go_bipush (v := 10) hc dX2_weigh_92 rfl ?_
        refine go_aload0 hc dX2_weigh_94 ?_
        refine go_getR hc lk_RX2_15 dX2_weigh_95 (shCourts_0 hW m0) (rfCourts_2 hW m0) ?_
        refine go_iload4 hc dX2_weigh_98 ?_
        replace e28 := goBind e28; obtain ⟨x33, e34, e28⟩ := e28
        refine go_iald hc dX2_weigh_100 (shCourts_2 hW m0) e34 ?_
        refine go_isub hc dX2_weigh_101 ?_
        refine go_i2l hc dX2_weigh_102 ?_
        refine go_aload0 hc dX2_weigh_103 ?_
        refine go_getR hc lk_RX2_18 dX2_weigh_104 (shCourts_0 hW m0) (rfCourts_3 hW m0) ?_
        refine go_iload1 hc dX2_weigh_107 ?_
        refine go_iconst (v := 1) hc dX2_weigh_108 rfl ?_
        refine go_iload4 hc dX2_weigh_109 ?_
        refine go_ishl hc dX2_weigh_111 ?_
        refine go_iconst (v := (-1)) hc dX2_weigh_112 rfl ?_
        refine go_ixor hc dX2_weigh_113 ?_
        refine go_iand hc dX2_weigh_114 ?_
        replace e28 := goBind e28; obtain ⟨x35, e36, e28⟩ := e28
        refine go_lald hc dX2_weigh_115 (shCourts_3 hW m0) e36 ?_
        refine go_lmul hc dX2_weigh_116 ?_
        refine go_ladd hc dX2_weigh_117 ?_
        replace e28 := goNm_x e28; obtain ⟨x37, e38, e28⟩ := e28
        refine go_nmJ e38 ?_
        refine go_lstore5 hc dX2_weigh_118 ?_
        refine go_aload0 hc dX2_weigh_120 ?_
        refine go_getR hc lk_RX2_18 dX2_weigh_121 (shCourts_0 hW m0) (rfCourts_3 hW m0) ?_
        refine go_iload1 hc dX2_weigh_124 ?_
        replace e28 := goBind e28; obtain ⟨x39, e40, e28⟩ := e28
        refine go_lald hc dX2_weigh_125 (shCourts_3 hW m0) e40 ?_
        refine go_ldc2 hc dX2_weigh_126 wcJ_RX2_40 ?_
        refine go_lcmp hc dX2_weigh_129 ?_
        refine go_if_eq hc 145 dX2_weigh_130 rfl (fun c41 => ?_) (fun c41 => ?_)
        · replace e28 := goIfT e28 c41
          refine go_aload0 hc dX2_weigh_145 ?_
          refine go_getR hc lk_RX2_18 dX2_weigh_146 (shCourts_0 hW m0) (rfCourts_3 hW m0) ?_
          refine go_iload1 hc dX2_weigh_149 ?_
          refine go_lload5 hc dX2_weigh_150 ?_
          replace e28 := goBind e28; obtain ⟨L42, e43, e28⟩ := e28
          refine go_last hc dX2_weigh_152 (shCourts_3 hW m0) e43 ?_
          refine go_aload0 hc dX2_weigh_153 ?_
          refine go_getR hc lk_RX2_22 dX2_weigh_154 (shCourts_0 hW m0) (rfCourts_4 hW m0) ?_
          refine go_iload1 hc dX2_weigh_157 ?_
          refine go_iload4 hc dX2_weigh_158 ?_
          replace e28 := goBind e28; obtain ⟨M44, e45, e28⟩ := e28
          refine go_iast hc dX2_weigh_160 (shCourts_4 hW m0) e45 ?_
          cases e28
          exact k29 _ _
        · replace e28 := goIfF e28 c41
          refine go_lload5 hc dX2_weigh_133 ?_
          refine go_aload0 hc dX2_weigh_135 ?_
          refine go_getR hc lk_RX2_18 dX2_weigh_136 (shCourts_0 hW m0) (rfCourts_3 hW m0) ?_
          refine go_iload1 hc dX2_weigh_139 ?_
          replace e28 := goBind e28; obtain ⟨x46, e47, e28⟩ := e28
          refine go_lald hc dX2_weigh_140 (shCourts_3 hW m0) e47 ?_
          refine go_lcmp hc dX2_weigh_141 ?_
          refine go_if_ge hc 161 dX2_weigh_142 rfl (fun c48 => ?_) (fun c48 => ?_)
          · replace e28 := goIfF e28 c48
            cases e28
            exact k29 _ _
          · replace e28 := goIfT e28 c48
            refine go_aload0 hc dX2_weigh_145 ?_
            refine go_getR hc lk_RX2_18 dX2_weigh_146 (shCourts_0 hW m0) (rfCourts_3 hW m0) ?_
            refine go_iload1 hc dX2_weigh_149 ?_
            refine go_lload5 hc dX2_weigh_150 ?_
            replace e28 := goBind e28; obtain ⟨L49, e50, e28⟩ := e28
            refine go_last hc dX2_weigh_152 (shCourts_3 hW m0) e50 ?_
            refine go_aload0 hc dX2_weigh_153 ?_
            refine go_getR hc lk_RX2_22 dX2_weigh_154 (shCourts_0 hW m0) (rfCourts_4 hW m0) ?_
            refine go_iload1 hc dX2_weigh_157 ?_
            refine go_iload4 hc dX2_weigh_158 ?_
            replace e28 := goBind e28; obtain ⟨M51, e52, e28⟩ := e28
            refine go_iast hc dX2_weigh_160 (shCourts_4 hW m0) e52 ?_
            cases e28
            exact k29 _ _
set_option maxRecDepth 100000 in
set_option maxHeartbeats 4000000 in
theorem mX2_weigh_L16 {E : goEv} {X : goX} {G : goG} {Q : State → Prop} {R : goMR} {N : Nat} {a0 : Nat} (hc : goCx E X cX2_weigh RX2 7) (hk : goKn E) (hR : X.2.2.2.1 = goRoom 1 21 0 0) (hr : X.2.2.2.2.2.2.2.2.1.sig.returnType = none) (hW : goW G R) (m0 : a0 = 32 ∨ a0 = 62) : ∀ (n : Nat) (v1 : Int32) (M : goMI) (L : goML) (r0 : goMI) (r1 : goML), lX2_weigh_16 N a0 n v1 M L = some (r0, r1) → (∀ (d0 d1 d2 d3 d4 d5 d6 : Option Value), goA E X G 0 0 Q 173 [d0, d1, d2, d3, d4, d5, d6] [] r0 r1 R) → ∀ (d2 d3 d4 d5 d6 : Option Value), goA E X G 0 0 Q 16 [some (.ref a0), some (.int v1), d2, d3, d4, d5, d6] [] M L R := by
  intro n
  induction n with
  | zero => intro v1 M L r0 r1 h; exact nomatch h
  | succ n ih =>
    intro v1 M L r0 r1 h kx d2 d3 d4 d5 d6
    rw [lX2_weigh_16] at h
    refine go_iload1 hc dX2_weigh_16 ?_
    refine go_iconst (v := 1) hc dX2_weigh_17 rfl ?_
    refine go_aload0 hc dX2_weigh_18 ?_
    refine go_getI hc lk_RX2_28 dX2_weigh_19 (shCourts_0 hW m0) ?_
    refine go_ishl hc dX2_weigh_22 ?_
    refine go_icmp_ge hc 173 dX2_weigh_23 rfl (fun c15 => ?_) (fun c15 => ?_)
    · replace h := goIfF h c15
      cases h
      exact kx _ _ _ _ _ _ _
    · replace h := goIfT h c15
      refine go_lconst (v := 1) hc dX2_weigh_26 rfl ?_
      refine go_lstore2 hc dX2_weigh_27 ?_
      refine go_iload1 hc dX2_weigh_28 ?_
      refine go_callSi hc dX2_weigh_29 (mJ6_bitCount_0f7a4 hk hW rfl) ml_RX2_32 yk_J6_bitCount_0f7a4 wst_J6_bitCount_0f7a4 hR rfl rfl rfl (Nat.le_of_ble_eq_true rfl) rfl ?_
      replace h := goNm_x h; obtain ⟨x16, e17, h⟩ := h
      refine go_nmI e17 ?_
      refine go_istore4 hc dX2_weigh_32 ?_
      replace h := goBind h; obtain ⟨x22, e21, h⟩ := h
      refine mX2_weigh_L34 hc hk hR hr hW m0 _ _ _ _ e21 (fun d4 d5 d6 => ?_) _ _
      refine go_aload0 hc dX2_weigh_51 ?_
      refine go_getR hc lk_RX2_18 dX2_weigh_52 (shCourts_0 hW m0) (rfCourts_3 hW m0) ?_
      refine go_iload1 hc dX2_weigh_55 ?_
      refine go_ldc2 hc dX2_weigh_56 wcJ_RX2_40 ?_
      replace h := goBind h; obtain ⟨L23, e24, h⟩ := h
      refine go_last hc dX2_weigh_59 (shCourts_3 hW m0) e24 ?_
      refine go_iconst (v := 0) hc dX2_weigh_60 rfl ?_
      refine go_istore4 hc dX2_weigh_61 ?_
      replace h := goB2_h h; obtain ⟨M54, L55, e53, h⟩ := h
      refine mX2_weigh_L63 hc hk hR hr hW m0 _ _ _ _ _ _ e53 (fun d2 d3 d4 d5 d6 => ?_) _ _
      refine go_iinc1 (v := (v1 + 1)) hc dX2_weigh_167 rfl ?_
      refine go_goto hc 16 dX2_weigh_170 rfl ?_
      exact ih _ _ _ _ _ h kx _ _ _ _ _
set_option maxRecDepth 100000 in
set_option maxHeartbeats 4000000 in
theorem mX2_weigh {E : goEv} {l : Launch} {G : goG} {N : Nat} {M : goMI} {L : goML} {R : goMR} {a0 : Nat} {r0 : goMI} {r1 : goML} (hk : goKn E) (hW : goW G R) (m0 : a0 = 32 ∨ a0 = 62) (h : fX2_weigh N M L a0 = some (r0, r1)) : Met l yX2_weigh (goCd yX2_weigh cX2_weigh 7 none) (goRoom 1 21 0 0) (goPre E [.ref a0] G M L R) (goQv E G r0 r1 R) 0 0 (goSet E) := by
  refine goMet pl_RX2 hk (lv := [some (.ref a0), none, none, none, none, none, none]) rfl (Nat.le_of_ble_eq_true rfl) ?_
  intro X hc hl hR hr hnm
  subst hl
  unfold fX2_weigh at h
  refine go_aload0 hc dX2_weigh_0 ?_
  refine go_getR hc lk_RX2_18 dX2_weigh_1 (shCourts_0 hW m0) (rfCourts_3 hW m0) ?_
  refine go_iconst (v := 0) hc dX2_weigh_4 rfl ?_
  refine go_lconst (v := 0) hc dX2_weigh_5 rfl ?_
  replace h := goBind h; obtain ⟨L11, e12, h⟩ := h
  refine go_last hc dX2_weigh_6 (shCourts_3 hW m0) e12 ?_
  refine go_aload0 hc dX2_weigh_7 ?_
  refine go_getR hc lk_RX2_22 dX2_weigh_8 (shCourts_0 hW m0) (rfCourts_4 hW m0) ?_
  refine go_iconst (v := 0) hc dX2_weigh_11 rfl ?_
  refine go_iconst (v := 0) hc dX2_weigh_12 rfl ?_
  replace h := goBind h; obtain ⟨M13, e14, h⟩ := h
  refine go_iast hc dX2_weigh_13 (shCourts_4 hW m0) e14 ?_
  refine go_iconst (v := 1) hc dX2_weigh_14 rfl ?_
  refine go_istore1 hc dX2_weigh_15 ?_
  replace h := goB2_h h; obtain ⟨M57, L58, e56, h⟩ := h
  refine mX2_weigh_L16 hc hk hR hr hW m0 _ _ _ _ _ _ e56 (fun d0 d1 d2 d3 d4 d5 d6 => ?_) _ _ _ _ _
  cases h
  exact go_vret hc dX2_weigh_173 hr
theorem dX2_leastCosts_0 : decode cX2_leastCosts 0 = .ok (.aload_n 0, 1) := by decide +kernel
theorem dX2_leastCosts_1 : decode cX2_leastCosts 1 = .ok (.invokevirtual 25, 3) := by decide +kernel
theorem dX2_leastCosts_4 : decode cX2_leastCosts 4 = .ok (.aload_n 0, 1) := by decide +kernel
theorem dX2_leastCosts_5 : decode cX2_leastCosts 5 = .ok (.getfield 18, 3) := by decide +kernel
theorem dX2_leastCosts_8 : decode cX2_leastCosts 8 = .ok (.iconst 1, 1) := by decide +kernel
theorem dX2_leastCosts_9 : decode cX2_leastCosts 9 = .ok (.aload_n 0, 1) := by decide +kernel
theorem dX2_leastCosts_10 : decode cX2_leastCosts 10 = .ok (.getfield 28, 3) := by decide +kernel
theorem dX2_leastCosts_13 : decode cX2_leastCosts 13 = .ok (.ishl, 1) := by decide +kernel
theorem dX2_leastCosts_14 : decode cX2_leastCosts 14 = .ok (.iconst 1, 1) := by decide +kernel
theorem dX2_leastCosts_15 : decode cX2_leastCosts 15 = .ok (.isub, 1) := by decide +kernel
theorem dX2_leastCosts_16 : decode cX2_leastCosts 16 = .ok (.laload, 1) := by decide +kernel
theorem dX2_leastCosts_17 : decode cX2_leastCosts 17 = .ok (.lreturn, 1) := by decide +kernel
set_option maxRecDepth 100000 in
set_option maxHeartbeats 4000000 in
theorem mX2_leastCosts {E : goEv} {l : Launch} {G : goG} {N : Nat} {M : goMI} {L : goML} {R : goMR} {a0 : Nat} {r0 : Int64} {r1 : goMI} {r2 : goML} (hk : goKn E) (hW : goW G R) (m0 : a0 = 32 ∨ a0 = 62) (h : fX2_leastCosts N M L a0 = some (r0, r1, r2)) : Met l yX2_leastCosts (goCd yX2_leastCosts cX2_leastCosts 1 (Option.some FieldType.long)) (goRoom 2 47 0 0) (goPre E [.ref a0] G M L R) (goQl E r0 G r1 r2 R) 0 0 (goSet E) := by
  refine goMet pl_RX2 hk (lv := [some (.ref a0)]) rfl (Nat.le_of_ble_eq_true rfl) ?_
  intro X hc hl hR hr hnm
  subst hl
  unfold fX2_leastCosts at h
  refine go_aload0 hc dX2_leastCosts_0 ?_
  replace h := goB2_h h; obtain ⟨M11, L12, e13, h⟩ := h
  refine go_callVv hc dX2_leastCosts_1 (mX2_weigh hk hW m0 e13) ml_RX2_25 yk_X2_weigh ⟨wim_X2_weigh, wse_X2_weigh⟩ hR rfl (shCourts_0 hW m0) rfl rfl rfl (Nat.le_of_ble_eq_true rfl) rfl ?_
  refine go_aload0 hc dX2_leastCosts_4 ?_
  refine go_getR hc lk_RX2_18 dX2_leastCosts_5 (shCourts_0 hW m0) (rfCourts_3 hW m0) ?_
  refine go_iconst (v := 1) hc dX2_leastCosts_8 rfl ?_
  refine go_aload0 hc dX2_leastCosts_9 ?_
  refine go_getI hc lk_RX2_28 dX2_leastCosts_10 (shCourts_0 hW m0) ?_
  refine go_ishl hc dX2_leastCosts_13 ?_
  refine go_iconst (v := 1) hc dX2_leastCosts_14 rfl ?_
  refine go_isub hc dX2_leastCosts_15 ?_
  replace h := goBind h; obtain ⟨x14, e15, h⟩ := h
  refine go_lald hc dX2_leastCosts_16 (shCourts_3 hW m0) e15 ?_
  cases h
  exact go_lret hc dX2_leastCosts_17 hr
theorem dX2_inBestOrder_0 : decode cX2_inBestOrder 0 = .ok (.aload_n 0, 1) := by decide +kernel
theorem dX2_inBestOrder_1 : decode cX2_inBestOrder 1 = .ok (.invokevirtual 25, 3) := by decide +kernel
theorem dX2_inBestOrder_4 : decode cX2_inBestOrder 4 = .ok (.iconst 1, 1) := by decide +kernel
theorem dX2_inBestOrder_5 : decode cX2_inBestOrder 5 = .ok (.aload_n 0, 1) := by decide +kernel
theorem dX2_inBestOrder_6 : decode cX2_inBestOrder 6 = .ok (.getfield 28, 3) := by decide +kernel
theorem dX2_inBestOrder_9 : decode cX2_inBestOrder 9 = .ok (.ishl, 1) := by decide +kernel
theorem dX2_inBestOrder_10 : decode cX2_inBestOrder 10 = .ok (.iconst 1, 1) := by decide +kernel
theorem dX2_inBestOrder_11 : decode cX2_inBestOrder 11 = .ok (.isub, 1) := by decide +kernel
theorem dX2_inBestOrder_12 : decode cX2_inBestOrder 12 = .ok (.istore_n 2, 1) := by decide +kernel
theorem dX2_inBestOrder_13 : decode cX2_inBestOrder 13 = .ok (.iconst 0, 1) := by decide +kernel
theorem dX2_inBestOrder_14 : decode cX2_inBestOrder 14 = .ok (.istore_n 3, 1) := by decide +kernel
theorem dX2_inBestOrder_15 : decode cX2_inBestOrder 15 = .ok (.iload_n 3, 1) := by decide +kernel
theorem dX2_inBestOrder_16 : decode cX2_inBestOrder 16 = .ok (.iload_n 1, 1) := by decide +kernel
theorem dX2_inBestOrder_17 : decode cX2_inBestOrder 17 = .ok (.if_icmp .ge 22, 3) := by decide +kernel
theorem dX2_inBestOrder_20 : decode cX2_inBestOrder 20 = .ok (.iload_n 2, 1) := by decide +kernel
theorem dX2_inBestOrder_21 : decode cX2_inBestOrder 21 = .ok (.iconst 1, 1) := by decide +kernel
theorem dX2_inBestOrder_22 : decode cX2_inBestOrder 22 = .ok (.aload_n 0, 1) := by decide +kernel
theorem dX2_inBestOrder_23 : decode cX2_inBestOrder 23 = .ok (.getfield 22, 3) := by decide +kernel
theorem dX2_inBestOrder_26 : decode cX2_inBestOrder 26 = .ok (.iload_n 2, 1) := by decide +kernel
theorem dX2_inBestOrder_27 : decode cX2_inBestOrder 27 = .ok (.iaload, 1) := by decide +kernel
theorem dX2_inBestOrder_28 : decode cX2_inBestOrder 28 = .ok (.ishl, 1) := by decide +kernel
theorem dX2_inBestOrder_29 : decode cX2_inBestOrder 29 = .ok (.iconst (-1), 1) := by decide +kernel
theorem dX2_inBestOrder_30 : decode cX2_inBestOrder 30 = .ok (.ixor, 1) := by decide +kernel
theorem dX2_inBestOrder_31 : decode cX2_inBestOrder 31 = .ok (.iand, 1) := by decide +kernel
theorem dX2_inBestOrder_32 : decode cX2_inBestOrder 32 = .ok (.istore_n 2, 1) := by decide +kernel
theorem dX2_inBestOrder_33 : decode cX2_inBestOrder 33 = .ok (.iinc 3 1, 3) := by decide +kernel
theorem dX2_inBestOrder_36 : decode cX2_inBestOrder 36 = .ok (.goto (-21), 3) := by decide +kernel
theorem dX2_inBestOrder_39 : decode cX2_inBestOrder 39 = .ok (.aload_n 0, 1) := by decide +kernel
theorem dX2_inBestOrder_40 : decode cX2_inBestOrder 40 = .ok (.getfield 22, 3) := by decide +kernel
theorem dX2_inBestOrder_43 : decode cX2_inBestOrder 43 = .ok (.iload_n 2, 1) := by decide +kernel
theorem dX2_inBestOrder_44 : decode cX2_inBestOrder 44 = .ok (.iaload, 1) := by decide +kernel
theorem dX2_inBestOrder_45 : decode cX2_inBestOrder 45 = .ok (.ireturn, 1) := by decide +kernel
set_option maxRecDepth 100000 in
set_option maxHeartbeats 4000000 in
theorem mX2_inBestOrder_L15 {E : goEv} {X : goX} {G : goG} {Q : State → Prop} {M : goMI} {L : goML} {R : goMR} {v1 : Int32} {a0 : Nat} (hc : goCx E X cX2_inBestOrder RX2 4) (hk : goKn E) (hR : X.2.2.2.1 = goRoom 2 47 0 0) (hr : X.2.2.2.2.2.2.2.2.1.sig.returnType = (Option.some FieldType.int)) (hW : goW G R) (m0 : a0 = 32 ∨ a0 = 62) : ∀ (n : Nat) (v2 : Int32) (v3 : Int32) (r0 : Int32), lX2_inBestOrder_15 v1 M a0 n v2 v3 = some r0 → (∀ (d1 d3 : Option Value), goA E X G 0 0 Q 39 [some (.ref a0), d1, some (.int r0), d3] [] M L R) → goA E X G 0 0 Q 15 [some (.ref a0), some (.int v1), some (.int v2), some (.int v3)] [] M L R := by
  intro n
  induction n with
  | zero => intro v2 v3 r0 h; exact nomatch h
  | succ n ih =>
    intro v2 v3 r0 h kx
    rw [lX2_inBestOrder_15] at h
    refine go_iload3 hc dX2_inBestOrder_15 ?_
    refine go_iload1 hc dX2_inBestOrder_16 ?_
    refine go_icmp_ge hc 39 dX2_inBestOrder_17 rfl (fun c16 => ?_) (fun c16 => ?_)
    · replace h := goIfF h c16
      cases h
      exact kx _ _
    · replace h := goIfT h c16
      refine go_iload2 hc dX2_inBestOrder_20 ?_
      refine go_iconst (v := 1) hc dX2_inBestOrder_21 rfl ?_
      refine go_aload0 hc dX2_inBestOrder_22 ?_
      refine go_getR hc lk_RX2_22 dX2_inBestOrder_23 (shCourts_0 hW m0) (rfCourts_4 hW m0) ?_
      refine go_iload2 hc dX2_inBestOrder_26 ?_
      replace h := goBind h; obtain ⟨x17, e18, h⟩ := h
      refine go_iald hc dX2_inBestOrder_27 (shCourts_4 hW m0) e18 ?_
      refine go_ishl hc dX2_inBestOrder_28 ?_
      refine go_iconst (v := (-1)) hc dX2_inBestOrder_29 rfl ?_
      refine go_ixor hc dX2_inBestOrder_30 ?_
      refine go_iand hc dX2_inBestOrder_31 ?_
      replace h := goNm_x h; obtain ⟨x19, e20, h⟩ := h
      refine go_nmI e20 ?_
      refine go_istore2 hc dX2_inBestOrder_32 ?_
      refine go_iinc3 (v := (v3 + 1)) hc dX2_inBestOrder_33 rfl ?_
      refine go_goto hc 15 dX2_inBestOrder_36 rfl ?_
      exact ih _ _ _ h kx
set_option maxRecDepth 100000 in
set_option maxHeartbeats 4000000 in
theorem mX2_inBestOrder {E : goEv} {l : Launch} {G : goG} {N : Nat} {M : goMI} {L : goML} {R : goMR} {a0 : Nat} {v1 : Int32} {r0 : Int32} {r1 : goMI} {r2 : goML} (hk : goKn E) (hW : goW G R) (m0 : a0 = 32 ∨ a0 = 62) (h : fX2_inBestOrder N M L a0 v1 = some (r0, r1, r2)) : Met l yX2_inBestOrder (goCd yX2_inBestOrder cX2_inBestOrder 4 (Option.some FieldType.int)) (goRoom 2 47 0 0) (goPre E [.ref a0, .int v1] G M L R) (goQi E r0 G r1 r2 R) 0 0 (goSet E) := by
  refine goMet pl_RX2 hk (lv := [some (.ref a0), some (.int v1), none, none]) rfl (Nat.le_of_ble_eq_true rfl) ?_
  intro X hc hl hR hr hnm
  subst hl
  unfold fX2_inBestOrder at h
  refine go_aload0 hc dX2_inBestOrder_0 ?_
  replace h := goB2_h h; obtain ⟨M11, L12, e13, h⟩ := h
  refine go_callVv hc dX2_inBestOrder_1 (mX2_weigh hk hW m0 e13) ml_RX2_25 yk_X2_weigh ⟨wim_X2_weigh, wse_X2_weigh⟩ hR rfl (shCourts_0 hW m0) rfl rfl rfl (Nat.le_of_ble_eq_true rfl) rfl ?_
  refine go_iconst (v := 1) hc dX2_inBestOrder_4 rfl ?_
  refine go_aload0 hc dX2_inBestOrder_5 ?_
  refine go_getI hc lk_RX2_28 dX2_inBestOrder_6 (shCourts_0 hW m0) ?_
  refine go_ishl hc dX2_inBestOrder_9 ?_
  refine go_iconst (v := 1) hc dX2_inBestOrder_10 rfl ?_
  refine go_isub hc dX2_inBestOrder_11 ?_
  replace h := goNm_x h; obtain ⟨x14, e15, h⟩ := h
  refine go_nmI e15 ?_
  refine go_istore2 hc dX2_inBestOrder_12 ?_
  refine go_iconst (v := 0) hc dX2_inBestOrder_13 rfl ?_
  refine go_istore3 hc dX2_inBestOrder_14 ?_
  replace h := goBind h; obtain ⟨x22, e21, h⟩ := h
  refine mX2_inBestOrder_L15 hc hk hR hr hW m0 _ _ _ _ e21 (fun d1 d3 => ?_)
  refine go_aload0 hc dX2_inBestOrder_39 ?_
  refine go_getR hc lk_RX2_22 dX2_inBestOrder_40 (shCourts_0 hW m0) (rfCourts_4 hW m0) ?_
  refine go_iload2 hc dX2_inBestOrder_43 ?_
  replace h := goBind h; obtain ⟨x23, e24, h⟩ := h
  refine go_iald hc dX2_inBestOrder_44 (shCourts_4 hW m0) e24 ?_
  cases h
  exact go_iret hc dX2_inBestOrder_45 hr
theorem dX3_openPaths_0 : decode cX3_openPaths 0 = .ok (.aload_n 0, 1) := by decide +kernel
theorem dX3_openPaths_1 : decode cX3_openPaths 1 = .ok (.getfield 18, 3) := by decide +kernel
theorem dX3_openPaths_4 : decode cX3_openPaths 4 = .ok (.iconst 0, 1) := by decide +kernel
theorem dX3_openPaths_5 : decode cX3_openPaths 5 = .ok (.invokestatic 58, 3) := by decide +kernel
theorem dX3_openPaths_8 : decode cX3_openPaths 8 = .ok (.iconst 0, 1) := by decide +kernel
theorem dX3_openPaths_9 : decode cX3_openPaths 9 = .ok (.istore_n 1, 1) := by decide +kernel
theorem dX3_openPaths_10 : decode cX3_openPaths 10 = .ok (.iload_n 1, 1) := by decide +kernel
theorem dX3_openPaths_11 : decode cX3_openPaths 11 = .ok (.aload_n 0, 1) := by decide +kernel
theorem dX3_openPaths_12 : decode cX3_openPaths 12 = .ok (.getfield 43, 3) := by decide +kernel
theorem dX3_openPaths_15 : decode cX3_openPaths 15 = .ok (.getfield 107, 3) := by decide +kernel
theorem dX3_openPaths_18 : decode cX3_openPaths 18 = .ok (.if_icmp .ge 82, 3) := by decide +kernel
theorem dX3_openPaths_21 : decode cX3_openPaths 21 = .ok (.aload_n 0, 1) := by decide +kernel
theorem dX3_openPaths_22 : decode cX3_openPaths 22 = .ok (.getfield 39, 3) := by decide +kernel
theorem dX3_openPaths_25 : decode cX3_openPaths 25 = .ok (.getfield 47, 3) := by decide +kernel
theorem dX3_openPaths_28 : decode cX3_openPaths 28 = .ok (.bipush 24, 2) := by decide +kernel
theorem dX3_openPaths_30 : decode cX3_openPaths 30 = .ok (.iaload, 1) := by decide +kernel
theorem dX3_openPaths_31 : decode cX3_openPaths 31 = .ok (.iload_n 1, 1) := by decide +kernel
theorem dX3_openPaths_32 : decode cX3_openPaths 32 = .ok (.invokestatic 110, 3) := by decide +kernel
theorem dX3_openPaths_35 : decode cX3_openPaths 35 = .ok (.ifCond .ne 59, 3) := by decide +kernel
theorem dX3_openPaths_38 : decode cX3_openPaths 38 = .ok (.aload_n 0, 1) := by decide +kernel
theorem dX3_openPaths_39 : decode cX3_openPaths 39 = .ok (.getfield 18, 3) := by decide +kernel
theorem dX3_openPaths_42 : decode cX3_openPaths 42 = .ok (.aload_n 0, 1) := by decide +kernel
theorem dX3_openPaths_43 : decode cX3_openPaths 43 = .ok (.getfield 43, 3) := by decide +kernel
theorem dX3_openPaths_46 : decode cX3_openPaths 46 = .ok (.getfield 113, 3) := by decide +kernel
theorem dX3_openPaths_49 : decode cX3_openPaths 49 = .ok (.iload_n 1, 1) := by decide +kernel
theorem dX3_openPaths_50 : decode cX3_openPaths 50 = .ok (.iaload, 1) := by decide +kernel
theorem dX3_openPaths_51 : decode cX3_openPaths 51 = .ok (.dup2, 1) := by decide +kernel
theorem dX3_openPaths_52 : decode cX3_openPaths 52 = .ok (.iaload, 1) := by decide +kernel
theorem dX3_openPaths_53 : decode cX3_openPaths 53 = .ok (.iconst 1, 1) := by decide +kernel
theorem dX3_openPaths_54 : decode cX3_openPaths 54 = .ok (.aload_n 0, 1) := by decide +kernel
theorem dX3_openPaths_55 : decode cX3_openPaths 55 = .ok (.getfield 43, 3) := by decide +kernel
theorem dX3_openPaths_58 : decode cX3_openPaths 58 = .ok (.getfield 116, 3) := by decide +kernel
theorem dX3_openPaths_61 : decode cX3_openPaths 61 = .ok (.iload_n 1, 1) := by decide +kernel
theorem dX3_openPaths_62 : decode cX3_openPaths 62 = .ok (.iaload, 1) := by decide +kernel
theorem dX3_openPaths_63 : decode cX3_openPaths 63 = .ok (.ishl, 1) := by decide +kernel
theorem dX3_openPaths_64 : decode cX3_openPaths 64 = .ok (.ior, 1) := by decide +kernel
theorem dX3_openPaths_65 : decode cX3_openPaths 65 = .ok (.iastore, 1) := by decide +kernel
theorem dX3_openPaths_66 : decode cX3_openPaths 66 = .ok (.aload_n 0, 1) := by decide +kernel
theorem dX3_openPaths_67 : decode cX3_openPaths 67 = .ok (.getfield 18, 3) := by decide +kernel
theorem dX3_openPaths_70 : decode cX3_openPaths 70 = .ok (.aload_n 0, 1) := by decide +kernel
theorem dX3_openPaths_71 : decode cX3_openPaths 71 = .ok (.getfield 43, 3) := by decide +kernel
theorem dX3_openPaths_74 : decode cX3_openPaths 74 = .ok (.getfield 116, 3) := by decide +kernel
theorem dX3_openPaths_77 : decode cX3_openPaths 77 = .ok (.iload_n 1, 1) := by decide +kernel
theorem dX3_openPaths_78 : decode cX3_openPaths 78 = .ok (.iaload, 1) := by decide +kernel
theorem dX3_openPaths_79 : decode cX3_openPaths 79 = .ok (.dup2, 1) := by decide +kernel
theorem dX3_openPaths_80 : decode cX3_openPaths 80 = .ok (.iaload, 1) := by decide +kernel
theorem dX3_openPaths_81 : decode cX3_openPaths 81 = .ok (.iconst 1, 1) := by decide +kernel
theorem dX3_openPaths_82 : decode cX3_openPaths 82 = .ok (.aload_n 0, 1) := by decide +kernel
theorem dX3_openPaths_83 : decode cX3_openPaths 83 = .ok (.getfield 43, 3) := by decide +kernel
theorem dX3_openPaths_86 : decode cX3_openPaths 86 = .ok (.getfield 113, 3) := by decide +kernel
theorem dX3_openPaths_89 : decode cX3_openPaths 89 = .ok (.iload_n 1, 1) := by decide +kernel
theorem dX3_openPaths_90 : decode cX3_openPaths 90 = .ok (.iaload, 1) := by decide +kernel
theorem dX3_openPaths_91 : decode cX3_openPaths 91 = .ok (.ishl, 1) := by decide +kernel
theorem dX3_openPaths_92 : decode cX3_openPaths 92 = .ok (.ior, 1) := by decide +kernel
theorem dX3_openPaths_93 : decode cX3_openPaths 93 = .ok (.iastore, 1) := by decide +kernel
theorem dX3_openPaths_94 : decode cX3_openPaths 94 = .ok (.iinc 1 1, 3) := by decide +kernel
theorem dX3_openPaths_97 : decode cX3_openPaths 97 = .ok (.goto (-87), 3) := by decide +kernel
theorem dX3_openPaths_100 : decode cX3_openPaths 100 = .ok (.return_, 1) := by decide +kernel
set_option maxRecDepth 100000 in
set_option maxHeartbeats 4000000 in
theorem mX3_openPaths_L10 {E : goEv} {X : goX} {G : goG} {Q : State → Prop} {L : goML} {R : goMR} {a0 : Nat} (hc : goCx E X cX3_openPaths RX3 2) (hk : goKn E) (hR : X.2.2.2.1 = goRoom 1 23 0 0) (hr : X.2.2.2.2.2.2.2.2.1.sig.returnType = none) (hW : goW G R) (m0 : a0 = 78 ∨ a0 = 92) : ∀ (n : Nat) (v1 : Int32) (M : goMI) (r0 : goMI), lX3_openPaths_10 R a0 n v1 M = some r0 → (∀ (d0 d1 : Option Value), goA E X G 0 0 Q 100 [d0, d1] [] r0 L R) → goA E X G 0 0 Q 10 [some (.ref a0), some (.int v1)] [] M L R := by
  intro n
  induction n with
  | zero => intro v1 M r0 h; exact nomatch h
  | succ n ih =>
    intro v1 M r0 h kx
    rw [lX3_openPaths_10] at h
    refine go_iload1 hc dX3_openPaths_10 ?_
    refine go_aload0 hc dX3_openPaths_11 ?_
    refine go_getR hc lk_RX3_43 dX3_openPaths_12 (shDay_0 hW m0) (rmDay_1 hW m0) ?_
    refine go_getI hc lk_RX3_107 dX3_openPaths_15 (shHill_0 hW (mmDay_1 hW m0)) ?_
    refine go_icmp_ge hc 100 dX3_openPaths_18 rfl (fun c13 => ?_) (fun c13 => ?_)
    · replace h := goIfF h c13
      cases h
      exact kx _ _
    · replace h := goIfT h c13
      refine go_aload0 hc dX3_openPaths_21 ?_
      refine go_getR hc lk_RX3_39 dX3_openPaths_22 (shDay_0 hW m0) (rfDay_0 hW m0) ?_
      refine go_getR hc lk_RX3_47 dX3_openPaths_25 (sh_3 hW) (rf_3_0 hW) ?_
      refine go_bipush (v := 24) hc dX3_openPaths_28 rfl ?_
      replace h := goBind h; obtain ⟨x14, e15, h⟩ := h
      refine go_iald hc dX3_openPaths_30 (sh_4 hW) e15 ?_
      refine go_iload1 hc dX3_openPaths_31 ?_
      refine go_callSi hc dX3_openPaths_32 (mX12_bit hk hW rfl) ml_RX3_110 yk_X12_bit wst_X12_bit hR rfl rfl rfl (Nat.le_of_ble_eq_true rfl) rfl ?_
      replace h := goBind h; obtain ⟨M16, e17, h⟩ := h
      have k18 : goA E X G 0 0 Q 94 [some (.ref a0), some (.int v1)] [] M16 L R := by
        refine go_iinc1 (v := (v1 + 1)) hc dX3_openPaths_94 rfl ?_
        refine go_goto hc 10 dX3_openPaths_97 rfl ?_
        exact ih _ _ _ h kx
      refine go_if_ne hc 94 dX3_openPaths_35 rfl (fun c19 => ?_) (fun c19 => ?_)
      · replace e17 := goIfF e17 c19
        cases e17
        exact k18
      · replace e17 := goIfT e17 c19
        refine go_aload0 hc dX3_openPaths_38 ?_
        refine go_getR hc lk_RX3_18 dX3_openPaths_39 (shDay_0 hW m0) (rfDay_4 hW m0) ?_
        refine go_aload0 hc dX3_openPaths_42 ?_
        refine go_getR hc lk_RX3_43 dX3_openPaths_43 (shDay_0 hW m0) (rmDay_1 hW m0) ?_
        refine go_getR hc lk_RX3_113 dX3_openPaths_46 (shHill_0 hW (mmDay_1 hW m0)) (rfHill_9 hW (mmDay_1 hW m0)) ?_
        refine go_iload1 hc dX3_openPaths_49 ?_
        replace e17 := goBind e17; obtain ⟨x20, e21, e17⟩ := e17
        refine go_iald hc dX3_openPaths_50 (shHill_3 hW (mmDay_1 hW m0)) e21 ?_
        refine go_dup2 hc dX3_openPaths_51 ?_
        replace e17 := goBind e17; obtain ⟨x22, e23, e17⟩ := e17
        refine go_iald hc dX3_openPaths_52 (shDay_3 hW m0) e23 ?_
        refine go_iconst (v := 1) hc dX3_openPaths_53 rfl ?_
        refine go_aload0 hc dX3_openPaths_54 ?_
        refine go_getR hc lk_RX3_43 dX3_openPaths_55 (shDay_0 hW m0) (rmDay_1 hW m0) ?_
        refine go_getR hc lk_RX3_116 dX3_openPaths_58 (shHill_0 hW (mmDay_1 hW m0)) (rfHill_10 hW (mmDay_1 hW m0)) ?_
        refine go_iload1 hc dX3_openPaths_61 ?_
        replace e17 := goBind e17; obtain ⟨x24, e25, e17⟩ := e17
        refine go_iald hc dX3_openPaths_62 (shHill_4 hW (mmDay_1 hW m0)) e25 ?_
        refine go_ishl hc dX3_openPaths_63 ?_
        refine go_ior hc dX3_openPaths_64 ?_
        replace e17 := goBind e17; obtain ⟨M26, e27, e17⟩ := e17
        refine go_iast hc dX3_openPaths_65 (shDay_3 hW m0) e27 ?_
        refine go_aload0 hc dX3_openPaths_66 ?_
        refine go_getR hc lk_RX3_18 dX3_openPaths_67 (shDay_0 hW m0) (rfDay_4 hW m0) ?_
        refine go_aload0 hc dX3_openPaths_70 ?_
        refine go_getR hc lk_RX3_43 dX3_openPaths_71 (shDay_0 hW m0) (rmDay_1 hW m0) ?_
        refine go_getR hc lk_RX3_116 dX3_openPaths_74 (shHill_0 hW (mmDay_1 hW m0)) (rfHill_10 hW (mmDay_1 hW m0)) ?_
        refine go_iload1 hc dX3_openPaths_77 ?_
        replace e17 := goBind e17; obtain ⟨x28, e29, e17⟩ := e17
        refine go_iald hc dX3_openPaths_78 (shHill_4 hW (mmDay_1 hW m0)) e29 ?_
        refine go_dup2 hc dX3_openPaths_79 ?_
        replace e17 := goBind e17; obtain ⟨x30, e31, e17⟩ := e17
        refine go_iald hc dX3_openPaths_80 (shDay_3 hW m0) e31 ?_
        refine go_iconst (v := 1) hc dX3_openPaths_81 rfl ?_
        refine go_aload0 hc dX3_openPaths_82 ?_
        refine go_getR hc lk_RX3_43 dX3_openPaths_83 (shDay_0 hW m0) (rmDay_1 hW m0) ?_
        refine go_getR hc lk_RX3_113 dX3_openPaths_86 (shHill_0 hW (mmDay_1 hW m0)) (rfHill_9 hW (mmDay_1 hW m0)) ?_
        refine go_iload1 hc dX3_openPaths_89 ?_
        replace e17 := goBind e17; obtain ⟨x32, e33, e17⟩ := e17
        refine go_iald hc dX3_openPaths_90 (shHill_3 hW (mmDay_1 hW m0)) e33 ?_
        refine go_ishl hc dX3_openPaths_91 ?_
        refine go_ior hc dX3_openPaths_92 ?_
        replace e17 := goBind e17; obtain ⟨M34, e35, e17⟩ := e17
        refine go_iast hc dX3_openPaths_93 (shDay_3 hW m0) e35 ?_
        cases e17
        exact k18
set_option maxRecDepth 100000 in
set_option maxHeartbeats 4000000 in
theorem mX3_openPaths {E : goEv} {l : Launch} {G : goG} {N : Nat} {M : goMI} {L : goML} {R : goMR} {a0 : Nat} {r0 : goMI} (hk : goKn E) (hW : goW G R) (m0 : a0 = 78 ∨ a0 = 92) (h : fX3_openPaths N M R a0 = some r0) : Met l yX3_openPaths (goCd yX3_openPaths cX3_openPaths 2 none) (goRoom 1 23 0 0) (goPre E [.ref a0] G M L R) (goQv E G r0 L R) 0 0 (goSet E) := by
  refine goMet pl_RX3 hk (lv := [some (.ref a0), none]) rfl (Nat.le_of_ble_eq_true rfl) ?_
  intro X hc hl hR hr hnm
  subst hl
  unfold fX3_openPaths at h
  refine go_aload0 hc dX3_openPaths_0 ?_
  refine go_getR hc lk_RX3_18 dX3_openPaths_1 (shDay_0 hW m0) (rfDay_4 hW m0) ?_
  refine go_iconst (v := 0) hc dX3_openPaths_4 rfl ?_
  replace h := goBind h; obtain ⟨M11, e12, h⟩ := h
  refine go_callSv hc dX3_openPaths_5 (mJ7_fill_53178 hk hW (shDay_3 hW m0) e12) ml_RX3_58 yk_J7_fill_53178 wst_J7_fill_53178 hR rfl rfl rfl (Nat.le_of_ble_eq_true rfl) rfl ?_
  refine go_iconst (v := 0) hc dX3_openPaths_8 rfl ?_
  refine go_istore1 hc dX3_openPaths_9 ?_
  replace h := goBind h; obtain ⟨M37, e36, h⟩ := h
  refine mX3_openPaths_L10 hc hk hR hr hW m0 _ _ _ _ e36 (fun d0 d1 => ?_)
  cases h
  exact go_vret hc dX3_openPaths_100 hr
theorem dX6_storyIn_0 : decode cX6_storyIn 0 = .ok (.aload_n 0, 1) := by decide +kernel
theorem dX6_storyIn_1 : decode cX6_storyIn 1 = .ok (.getfield 24, 3) := by decide +kernel
theorem dX6_storyIn_4 : decode cX6_storyIn 4 = .ok (.iload_n 2, 1) := by decide +kernel
theorem dX6_storyIn_5 : decode cX6_storyIn 5 = .ok (.iaload, 1) := by decide +kernel
theorem dX6_storyIn_6 : decode cX6_storyIn 6 = .ok (.ifCond .le 12, 3) := by decide +kernel
theorem dX6_storyIn_9 : decode cX6_storyIn 9 = .ok (.aload_n 0, 1) := by decide +kernel
theorem dX6_storyIn_10 : decode cX6_storyIn 10 = .ok (.getfield 27, 3) := by decide +kernel
theorem dX6_storyIn_13 : decode cX6_storyIn 13 = .ok (.iload_n 2, 1) := by decide +kernel
theorem dX6_storyIn_14 : decode cX6_storyIn 14 = .ok (.iaload, 1) := by decide +kernel
theorem dX6_storyIn_15 : decode cX6_storyIn 15 = .ok (.ifCond .gt 6, 3) := by decide +kernel
theorem dX6_storyIn_18 : decode cX6_storyIn 18 = .ok (.bipush (-2), 2) := by decide +kernel
theorem dX6_storyIn_20 : decode cX6_storyIn 20 = .ok (.ireturn, 1) := by decide +kernel
theorem dX6_storyIn_21 : decode cX6_storyIn 21 = .ok (.iload_n 1, 1) := by decide +kernel
theorem dX6_storyIn_22 : decode cX6_storyIn 22 = .ok (.aload_n 0, 1) := by decide +kernel
theorem dX6_storyIn_23 : decode cX6_storyIn 23 = .ok (.getfield 27, 3) := by decide +kernel
theorem dX6_storyIn_26 : decode cX6_storyIn 26 = .ok (.iload_n 2, 1) := by decide +kernel
theorem dX6_storyIn_27 : decode cX6_storyIn 27 = .ok (.iaload, 1) := by decide +kernel
theorem dX6_storyIn_28 : decode cX6_storyIn 28 = .ok (.idiv, 1) := by decide +kernel
theorem dX6_storyIn_29 : decode cX6_storyIn 29 = .ok (.aload_n 0, 1) := by decide +kernel
theorem dX6_storyIn_30 : decode cX6_storyIn 30 = .ok (.getfield 24, 3) := by decide +kernel
theorem dX6_storyIn_33 : decode cX6_storyIn 33 = .ok (.iload_n 2, 1) := by decide +kernel
theorem dX6_storyIn_34 : decode cX6_storyIn 34 = .ok (.iaload, 1) := by decide +kernel
theorem dX6_storyIn_35 : decode cX6_storyIn 35 = .ok (.irem, 1) := by decide +kernel
theorem dX6_storyIn_36 : decode cX6_storyIn 36 = .ok (.ireturn, 1) := by decide +kernel
set_option maxRecDepth 100000 in
set_option maxHeartbeats 4000000 in
theorem mX6_storyIn {E : goEv} {l : Launch} {G : goG} {M : goMI} {L : goML} {R : goMR} {a0 : Nat} {v1 : Int32} {v2 : Int32} {r0 : Int32} (hk : goKn E) (hW : goW G R) (m0 : a0 = 7 ∨ a0 = 37) (h : fX6_storyIn M a0 v1 v2 = some r0) : Met l yX6_storyIn (goCd yX6_storyIn cX6_storyIn 3 (Option.some FieldType.int)) (goRoom 0 0 0 0) (goPre E [.ref a0, .int v1, .int v2] G M L R) (goQi E r0 G M L R) 0 0 (goSet E) := by
  refine goMet pl_RX6 hk (lv := [some (.ref a0), some (.int v1), some (.int v2)]) rfl (Nat.le_of_ble_eq_true rfl) ?_
  intro X hc hl hR hr hnm
  subst hl
  unfold fX6_storyIn at h
  refine go_aload0 hc dX6_storyIn_0 ?_
  refine go_getR hc lk_RX6_24 dX6_storyIn_1 (shHill_0 hW m0) (rfHill_11 hW m0) ?_
  refine go_iload2 hc dX6_storyIn_4 ?_
  replace h := goBind h; obtain ⟨x11, e12, h⟩ := h
  refine go_iald hc dX6_storyIn_5 (shHill_5 hW m0) e12 ?_
  refine go_if_le hc 18 dX6_storyIn_6 rfl (fun c13 => ?_) (fun c13 => ?_)
  · replace h := goIfF h c13
    refine go_bipush (v := (-2)) hc dX6_storyIn_18 rfl ?_
    cases h
    exact go_iret hc dX6_storyIn_20 hr
  · replace h := goIfT h c13
    refine go_aload0 hc dX6_storyIn_9 ?_
    refine go_getR hc lk_RX6_27 dX6_storyIn_10 (shHill_0 hW m0) (rfHill_12 hW m0) ?_
    refine go_iload2 hc dX6_storyIn_13 ?_
    replace h := goBind h; obtain ⟨x14, e15, h⟩ := h
    refine go_iald hc dX6_storyIn_14 (shHill_6 hW m0) e15 ?_
    refine go_if_gt hc 21 dX6_storyIn_15 rfl (fun c16 => ?_) (fun c16 => ?_)
    · replace h := goIfF h c16
      refine go_iload1 hc dX6_storyIn_21 ?_
      refine go_aload0 hc dX6_storyIn_22 ?_
      refine go_getR hc lk_RX6_27 dX6_storyIn_23 (shHill_0 hW m0) (rfHill_12 hW m0) ?_
      refine go_iload2 hc dX6_storyIn_26 ?_
      replace h := goBind h; obtain ⟨x17, e18, h⟩ := h
      refine go_iald hc dX6_storyIn_27 (shHill_6 hW m0) e18 ?_
      replace h := goBind h; obtain ⟨_, e19, h⟩ := h
      refine go_idiv hc dX6_storyIn_28 (goNz_h e19) ?_
      refine go_aload0 hc dX6_storyIn_29 ?_
      refine go_getR hc lk_RX6_24 dX6_storyIn_30 (shHill_0 hW m0) (rfHill_11 hW m0) ?_
      refine go_iload2 hc dX6_storyIn_33 ?_
      replace h := goBind h; obtain ⟨x21, e22, h⟩ := h
      refine go_iald hc dX6_storyIn_34 (shHill_5 hW m0) e22 ?_
      replace h := goBind h; obtain ⟨_, e23, h⟩ := h
      refine go_irem hc dX6_storyIn_35 (goNz_h e23) ?_
      cases h
      exact go_iret hc dX6_storyIn_36 hr
    · replace h := goIfT h c16
      refine go_bipush (v := (-2)) hc dX6_storyIn_18 rfl ?_
      cases h
      exact go_iret hc dX6_storyIn_20 hr
theorem dX5_minds_0 : decode cX5_minds 0 = .ok (.aload_n 0, 1) := by decide +kernel
theorem dX5_minds_1 : decode cX5_minds 1 = .ok (.getfield 9, 3) := by decide +kernel
theorem dX5_minds_4 : decode cX5_minds 4 = .ok (.iload_n 1, 1) := by decide +kernel
theorem dX5_minds_5 : decode cX5_minds 5 = .ok (.iaload, 1) := by decide +kernel
theorem dX5_minds_6 : decode cX5_minds 6 = .ok (.iconst 1, 1) := by decide +kernel
theorem dX5_minds_7 : decode cX5_minds 7 = .ok (.if_icmp .eq 27, 3) := by decide +kernel
theorem dX5_minds_10 : decode cX5_minds 10 = .ok (.aload_n 0, 1) := by decide +kernel
theorem dX5_minds_11 : decode cX5_minds 11 = .ok (.getfield 9, 3) := by decide +kernel
theorem dX5_minds_14 : decode cX5_minds 14 = .ok (.iload_n 1, 1) := by decide +kernel
theorem dX5_minds_15 : decode cX5_minds 15 = .ok (.iaload, 1) := by decide +kernel
theorem dX5_minds_16 : decode cX5_minds 16 = .ok (.iconst 2, 1) := by decide +kernel
theorem dX5_minds_17 : decode cX5_minds 17 = .ok (.if_icmp .eq 21, 3) := by decide +kernel
theorem dX5_minds_20 : decode cX5_minds 20 = .ok (.aload_n 0, 1) := by decide +kernel
theorem dX5_minds_21 : decode cX5_minds 21 = .ok (.getfield 24, 3) := by decide +kernel
theorem dX5_minds_24 : decode cX5_minds 24 = .ok (.iload_n 1, 1) := by decide +kernel
theorem dX5_minds_25 : decode cX5_minds 25 = .ok (.iaload, 1) := by decide +kernel
theorem dX5_minds_26 : decode cX5_minds 26 = .ok (.iload_n 2, 1) := by decide +kernel
theorem dX5_minds_27 : decode cX5_minds 27 = .ok (.invokestatic 58, 3) := by decide +kernel
theorem dX5_minds_30 : decode cX5_minds 30 = .ok (.iconst 1, 1) := by decide +kernel
theorem dX5_minds_31 : decode cX5_minds 31 = .ok (.if_icmp .ne 7, 3) := by decide +kernel
theorem dX5_minds_34 : decode cX5_minds 34 = .ok (.iconst 1, 1) := by decide +kernel
theorem dX5_minds_35 : decode cX5_minds 35 = .ok (.goto 4, 3) := by decide +kernel
theorem dX5_minds_38 : decode cX5_minds 38 = .ok (.iconst 0, 1) := by decide +kernel
theorem dX5_minds_39 : decode cX5_minds 39 = .ok (.ireturn, 1) := by decide +kernel
set_option maxRecDepth 100000 in
set_option maxHeartbeats 4000000 in
theorem mX5_minds {E : goEv} {l : Launch} {G : goG} {M : goMI} {L : goML} {R : goMR} {a0 : Nat} {v1 : Int32} {v2 : Int32} {r0 : Int32} (hk : goKn E) (hW : goW G R) (m0 : a0 = 16 ∨ a0 = 46) (h : fX5_minds M a0 v1 v2 = some r0) : Met l yX5_minds (goCd yX5_minds cX5_minds 3 (Option.some FieldType.boolean)) (goRoom 1 21 0 0) (goPre E [.ref a0, .int v1, .int v2] G M L R) (goQi E r0 G M L R) 0 0 (goSet E) := by
  refine goMet pl_RX5 hk (lv := [some (.ref a0), some (.int v1), some (.int v2)]) rfl (Nat.le_of_ble_eq_true rfl) ?_
  intro X hc hl hR hr hnm
  subst hl
  unfold fX5_minds at h
  refine go_aload0 hc dX5_minds_0 ?_
  refine go_getR hc lk_RX5_9 dX5_minds_1 (shHerd_0 hW m0) (rfHerd_2 hW m0) ?_
  refine go_iload1 hc dX5_minds_4 ?_
  replace h := goBind h; obtain ⟨x11, e12, h⟩ := h
  refine go_iald hc dX5_minds_5 (shHerd_1 hW m0) e12 ?_
  refine go_iconst (v := 1) hc dX5_minds_6 rfl ?_
  refine go_icmp_eq hc 34 dX5_minds_7 rfl (fun c13 => ?_) (fun c13 => ?_)
  · replace h := goIfT h c13
    refine go_iconst (v := 1) hc dX5_minds_34 rfl ?_
    refine go_goto hc 39 dX5_minds_35 rfl ?_
    cases h
    exact go_zret hc dX5_minds_39 hr rfl
  · replace h := goIfF h c13
    refine go_aload0 hc dX5_minds_10 ?_
    refine go_getR hc lk_RX5_9 dX5_minds_11 (shHerd_0 hW m0) (rfHerd_2 hW m0) ?_
    refine go_iload1 hc dX5_minds_14 ?_
    replace h := goBind h; obtain ⟨x14, e15, h⟩ := h
    refine go_iald hc dX5_minds_15 (shHerd_1 hW m0) e15 ?_
    refine go_iconst (v := 2) hc dX5_minds_16 rfl ?_
    refine go_icmp_eq hc 38 dX5_minds_17 rfl (fun c16 => ?_) (fun c16 => ?_)
    · replace h := goIfT h c16
      refine go_iconst (v := 0) hc dX5_minds_38 rfl ?_
      cases h
      exact go_zret hc dX5_minds_39 hr rfl
    · replace h := goIfF h c16
      refine go_aload0 hc dX5_minds_20 ?_
      refine go_getR hc lk_RX5_24 dX5_minds_21 (shHerd_0 hW m0) (rfHerd_6 hW m0) ?_
      refine go_iload1 hc dX5_minds_24 ?_
      replace h := goBind h; obtain ⟨x17, e18, h⟩ := h
      refine go_iald hc dX5_minds_25 (shHerd_5 hW m0) e18 ?_
      refine go_iload2 hc dX5_minds_26 ?_
      refine go_callSi hc dX5_minds_27 (mX12_bit hk hW rfl) ml_RX5_58 yk_X12_bit wst_X12_bit hR rfl rfl rfl (Nat.le_of_ble_eq_true rfl) rfl ?_
      refine go_iconst (v := 1) hc dX5_minds_30 rfl ?_
      refine go_icmp_ne hc 38 dX5_minds_31 rfl (fun c19 => ?_) (fun c19 => ?_)
      · replace h := goIfF h c19
        refine go_iconst (v := 0) hc dX5_minds_38 rfl ?_
        cases h
        exact go_zret hc dX5_minds_39 hr rfl
      · replace h := goIfT h c19
        refine go_iconst (v := 1) hc dX5_minds_34 rfl ?_
        refine go_goto hc 39 dX5_minds_35 rfl ?_
        cases h
        exact go_zret hc dX5_minds_39 hr rfl
theorem dX6_toldPlace_0 : decode cX6_toldPlace 0 = .ok (.aload_n 0, 1) := by decide +kernel
theorem dX6_toldPlace_1 : decode cX6_toldPlace 1 = .ok (.getfield 30, 3) := by decide +kernel
theorem dX6_toldPlace_4 : decode cX6_toldPlace 4 = .ok (.iload_n 1, 1) := by decide +kernel
theorem dX6_toldPlace_5 : decode cX6_toldPlace 5 = .ok (.iconst 3, 1) := by decide +kernel
theorem dX6_toldPlace_6 : decode cX6_toldPlace 6 = .ok (.imul, 1) := by decide +kernel
theorem dX6_toldPlace_7 : decode cX6_toldPlace 7 = .ok (.iload_n 2, 1) := by decide +kernel
theorem dX6_toldPlace_8 : decode cX6_toldPlace 8 = .ok (.iadd, 1) := by decide +kernel
theorem dX6_toldPlace_9 : decode cX6_toldPlace 9 = .ok (.bipush 12, 2) := by decide +kernel
theorem dX6_toldPlace_11 : decode cX6_toldPlace 11 = .ok (.imul, 1) := by decide +kernel
theorem dX6_toldPlace_12 : decode cX6_toldPlace 12 = .ok (.iload_n 3, 1) := by decide +kernel
theorem dX6_toldPlace_13 : decode cX6_toldPlace 13 = .ok (.iadd, 1) := by decide +kernel
theorem dX6_toldPlace_14 : decode cX6_toldPlace 14 = .ok (.iaload, 1) := by decide +kernel
theorem dX6_toldPlace_15 : decode cX6_toldPlace 15 = .ok (.ireturn, 1) := by decide +kernel
set_option maxRecDepth 100000 in
set_option maxHeartbeats 4000000 in
theorem mX6_toldPlace {E : goEv} {l : Launch} {G : goG} {M : goMI} {L : goML} {R : goMR} {a0 : Nat} {v1 : Int32} {v2 : Int32} {v3 : Int32} {r0 : Int32} (hk : goKn E) (hW : goW G R) (m0 : a0 = 7 ∨ a0 = 37) (h : fX6_toldPlace M a0 v1 v2 v3 = some r0) : Met l yX6_toldPlace (goCd yX6_toldPlace cX6_toldPlace 4 (Option.some FieldType.int)) (goRoom 0 0 0 0) (goPre E [.ref a0, .int v1, .int v2, .int v3] G M L R) (goQi E r0 G M L R) 0 0 (goSet E) := by
  refine goMet pl_RX6 hk (lv := [some (.ref a0), some (.int v1), some (.int v2), some (.int v3)]) rfl (Nat.le_of_ble_eq_true rfl) ?_
  intro X hc hl hR hr hnm
  subst hl
  unfold fX6_toldPlace at h
  refine go_aload0 hc dX6_toldPlace_0 ?_
  refine go_getR hc lk_RX6_30 dX6_toldPlace_1 (shHill_0 hW m0) (rfHill_13 hW m0) ?_
  refine go_iload1 hc dX6_toldPlace_4 ?_
  refine go_iconst (v := 3) hc dX6_toldPlace_5 rfl ?_
  refine go_imul hc dX6_toldPlace_6 ?_
  refine go_iload2 hc dX6_toldPlace_7 ?_
  refine go_iadd hc dX6_toldPlace_8 ?_
  refine go_bipush (v := 12) hc dX6_toldPlace_9 rfl ?_
  refine go_imul hc dX6_toldPlace_11 ?_
  refine go_iload3 hc dX6_toldPlace_12 ?_
  refine go_iadd hc dX6_toldPlace_13 ?_
  replace h := goBind h; obtain ⟨x11, e12, h⟩ := h
  refine go_iald hc dX6_toldPlace_14 (shHill_7 hW m0) e12 ?_
  cases h
  exact go_iret hc dX6_toldPlace_15 hr
theorem dX3_fearPerson_0 : decode cX3_fearPerson 0 = .ok (.iconst 0, 1) := by decide +kernel
theorem dX3_fearPerson_1 : decode cX3_fearPerson 1 = .ok (.istore 4, 2) := by decide +kernel
theorem dX3_fearPerson_3 : decode cX3_fearPerson 3 = .ok (.iload 4, 2) := by decide +kernel
theorem dX3_fearPerson_5 : decode cX3_fearPerson 5 = .ok (.aload_n 0, 1) := by decide +kernel
theorem dX3_fearPerson_6 : decode cX3_fearPerson 6 = .ok (.getfield 43, 3) := by decide +kernel
theorem dX3_fearPerson_9 : decode cX3_fearPerson 9 = .ok (.getfield 100, 3) := by decide +kernel
theorem dX3_fearPerson_12 : decode cX3_fearPerson 12 = .ok (.if_icmp .ge 37, 3) := by decide +kernel
theorem dX3_fearPerson_15 : decode cX3_fearPerson 15 = .ok (.aload_n 0, 1) := by decide +kernel
theorem dX3_fearPerson_16 : decode cX3_fearPerson 16 = .ok (.getfield 21, 3) := by decide +kernel
theorem dX3_fearPerson_19 : decode cX3_fearPerson 19 = .ok (.iload_n 1, 1) := by decide +kernel
theorem dX3_fearPerson_20 : decode cX3_fearPerson 20 = .ok (.bipush 12, 2) := by decide +kernel
theorem dX3_fearPerson_22 : decode cX3_fearPerson 22 = .ok (.imul, 1) := by decide +kernel
theorem dX3_fearPerson_23 : decode cX3_fearPerson 23 = .ok (.iload 4, 2) := by decide +kernel
theorem dX3_fearPerson_25 : decode cX3_fearPerson 25 = .ok (.iadd, 1) := by decide +kernel
theorem dX3_fearPerson_26 : decode cX3_fearPerson 26 = .ok (.dup2, 1) := by decide +kernel
theorem dX3_fearPerson_27 : decode cX3_fearPerson 27 = .ok (.iaload, 1) := by decide +kernel
theorem dX3_fearPerson_28 : decode cX3_fearPerson 28 = .ok (.iconst 1, 1) := by decide +kernel
theorem dX3_fearPerson_29 : decode cX3_fearPerson 29 = .ok (.aload_n 0, 1) := by decide +kernel
theorem dX3_fearPerson_30 : decode cX3_fearPerson 30 = .ok (.getfield 43, 3) := by decide +kernel
theorem dX3_fearPerson_33 : decode cX3_fearPerson 33 = .ok (.iload_n 2, 1) := by decide +kernel
theorem dX3_fearPerson_34 : decode cX3_fearPerson 34 = .ok (.iload_n 3, 1) := by decide +kernel
theorem dX3_fearPerson_35 : decode cX3_fearPerson 35 = .ok (.iload 4, 2) := by decide +kernel
theorem dX3_fearPerson_37 : decode cX3_fearPerson 37 = .ok (.invokevirtual 103, 3) := by decide +kernel
theorem dX3_fearPerson_40 : decode cX3_fearPerson 40 = .ok (.ishl, 1) := by decide +kernel
theorem dX3_fearPerson_41 : decode cX3_fearPerson 41 = .ok (.ior, 1) := by decide +kernel
theorem dX3_fearPerson_42 : decode cX3_fearPerson 42 = .ok (.iastore, 1) := by decide +kernel
theorem dX3_fearPerson_43 : decode cX3_fearPerson 43 = .ok (.iinc 4 1, 3) := by decide +kernel
theorem dX3_fearPerson_46 : decode cX3_fearPerson 46 = .ok (.goto (-43), 3) := by decide +kernel
theorem dX3_fearPerson_49 : decode cX3_fearPerson 49 = .ok (.return_, 1) := by decide +kernel
set_option maxRecDepth 100000 in
set_option maxHeartbeats 4000000 in
theorem mX3_fearPerson_L3 {E : goEv} {X : goX} {G : goG} {Q : State → Prop} {L : goML} {R : goMR} {v1 : Int32} {v2 : Int32} {v3 : Int32} {a0 : Nat} (hc : goCx E X cX3_fearPerson RX3 5) (hk : goKn E) (hR : X.2.2.2.1 = goRoom 1 23 0 0) (hr : X.2.2.2.2.2.2.2.2.1.sig.returnType = none) (hW : goW G R) (m0 : a0 = 78 ∨ a0 = 92) : ∀ (n : Nat) (v4 : Int32) (M : goMI) (r0 : goMI), lX3_fearPerson_3 v1 v2 v3 R a0 n v4 M = some r0 → (∀ (d0 d1 d2 d3 d4 : Option Value), goA E X G 0 0 Q 49 [d0, d1, d2, d3, d4] [] r0 L R) → goA E X G 0 0 Q 3 [some (.ref a0), some (.int v1), some (.int v2), some (.int v3), some (.int v4)] [] M L R := by
  intro n
  induction n with
  | zero => intro v4 M r0 h; exact nomatch h
  | succ n ih =>
    intro v4 M r0 h kx
    rw [lX3_fearPerson_3] at h
    refine go_iload4 hc dX3_fearPerson_3 ?_
    refine go_aload0 hc dX3_fearPerson_5 ?_
    refine go_getR hc lk_RX3_43 dX3_fearPerson_6 (shDay_0 hW m0) (rmDay_1 hW m0) ?_
    refine go_getI hc lk_RX3_100 dX3_fearPerson_9 (shHill_0 hW (mmDay_1 hW m0)) ?_
    refine go_icmp_ge hc 49 dX3_fearPerson_12 rfl (fun c11 => ?_) (fun c11 => ?_)
    · replace h := goIfF h c11
      cases h
      exact kx _ _ _ _ _
    · replace h := goIfT h c11
      refine go_aload0 hc dX3_fearPerson_15 ?_
      refine go_getR hc lk_RX3_21 dX3_fearPerson_16 (shDay_0 hW m0) (rfDay_5 hW m0) ?_
      refine go_iload1 hc dX3_fearPerson_19 ?_
      refine go_bipush (v := 12) hc dX3_fearPerson_20 rfl ?_
      refine go_imul hc dX3_fearPerson_22 ?_
      refine go_iload4 hc dX3_fearPerson_23 ?_
      refine go_iadd hc dX3_fearPerson_25 ?_
      refine go_dup2 hc dX3_fearPerson_26 ?_
      replace h := goBind h; obtain ⟨x12, e13, h⟩ := h
      refine go_iald hc dX3_fearPerson_27 (shDay_4 hW m0) e13 ?_
      refine go_iconst (v := 1) hc dX3_fearPerson_28 rfl ?_
      refine go_aload0 hc dX3_fearPerson_29 ?_
      refine go_getR hc lk_RX3_43 dX3_fearPerson_30 (shDay_0 hW m0) (rmDay_1 hW m0) ?_
      refine go_iload2 hc dX3_fearPerson_33 ?_
      refine go_iload3 hc dX3_fearPerson_34 ?_
      refine go_iload4 hc dX3_fearPerson_35 ?_
      replace h := goBind h; obtain ⟨x14, e15, h⟩ := h
      refine go_callVi hc dX3_fearPerson_37 (mX6_toldPlace hk hW (mmDay_1 hW m0) e15) ml_RX3_103 yk_X6_toldPlace ⟨wim_X6_toldPlace, wse_X6_toldPlace⟩ hR rfl (shHill_0 hW (mmDay_1 hW m0)) rfl rfl rfl (Nat.le_of_ble_eq_true rfl) rfl ?_
      refine go_ishl hc dX3_fearPerson_40 ?_
      refine go_ior hc dX3_fearPerson_41 ?_
      replace h := goBind h; obtain ⟨M16, e17, h⟩ := h
      refine go_iast hc dX3_fearPerson_42 (shDay_4 hW m0) e17 ?_
      refine go_iinc4 (v := (v4 + 1)) hc dX3_fearPerson_43 rfl ?_
      refine go_goto hc 3 dX3_fearPerson_46 rfl ?_
      exact ih _ _ _ h kx
set_option maxRecDepth 100000 in
set_option maxHeartbeats 4000000 in
theorem mX3_fearPerson {E : goEv} {l : Launch} {G : goG} {N : Nat} {M : goMI} {L : goML} {R : goMR} {a0 : Nat} {v1 : Int32} {v2 : Int32} {v3 : Int32} {r0 : goMI} (hk : goKn E) (hW : goW G R) (m0 : a0 = 78 ∨ a0 = 92) (h : fX3_fearPerson N M R a0 v1 v2 v3 = some r0) : Met l yX3_fearPerson (goCd yX3_fearPerson cX3_fearPerson 5 none) (goRoom 1 23 0 0) (goPre E [.ref a0, .int v1, .int v2, .int v3] G M L R) (goQv E G r0 L R) 0 0 (goSet E) := by
  refine goMet pl_RX3 hk (lv := [some (.ref a0), some (.int v1), some (.int v2), some (.int v3), none]) rfl (Nat.le_of_ble_eq_true rfl) ?_
  intro X hc hl hR hr hnm
  subst hl
  unfold fX3_fearPerson at h
  refine go_iconst (v := 0) hc dX3_fearPerson_0 rfl ?_
  refine go_istore4 hc dX3_fearPerson_1 ?_
  replace h := goBind h; obtain ⟨M19, e18, h⟩ := h
  refine mX3_fearPerson_L3 hc hk hR hr hW m0 _ _ _ _ e18 (fun d0 d1 d2 d3 d4 => ?_)
  cases h
  exact go_vret hc dX3_fearPerson_49 hr
theorem dX3_prepare_0 : decode cX3_prepare 0 = .ok (.aload_n 0, 1) := by decide +kernel
theorem dX3_prepare_1 : decode cX3_prepare 1 = .ok (.getfield 39, 3) := by decide +kernel
theorem dX3_prepare_4 : decode cX3_prepare 4 = .ok (.getfield 47, 3) := by decide +kernel
theorem dX3_prepare_7 : decode cX3_prepare 7 = .ok (.iconst 0, 1) := by decide +kernel
theorem dX3_prepare_8 : decode cX3_prepare 8 = .ok (.aload_n 0, 1) := by decide +kernel
theorem dX3_prepare_9 : decode cX3_prepare 9 = .ok (.getfield 15, 3) := by decide +kernel
theorem dX3_prepare_12 : decode cX3_prepare 12 = .ok (.iconst 0, 1) := by decide +kernel
theorem dX3_prepare_13 : decode cX3_prepare 13 = .ok (.bipush 24, 2) := by decide +kernel
theorem dX3_prepare_15 : decode cX3_prepare 15 = .ok (.invokestatic 52, 3) := by decide +kernel
theorem dX3_prepare_18 : decode cX3_prepare 18 = .ok (.aload_n 0, 1) := by decide +kernel
theorem dX3_prepare_19 : decode cX3_prepare 19 = .ok (.getfield 30, 3) := by decide +kernel
theorem dX3_prepare_22 : decode cX3_prepare 22 = .ok (.iconst 0, 1) := by decide +kernel
theorem dX3_prepare_23 : decode cX3_prepare 23 = .ok (.invokestatic 58, 3) := by decide +kernel
theorem dX3_prepare_26 : decode cX3_prepare 26 = .ok (.aload_n 0, 1) := by decide +kernel
theorem dX3_prepare_27 : decode cX3_prepare 27 = .ok (.getfield 33, 3) := by decide +kernel
theorem dX3_prepare_30 : decode cX3_prepare 30 = .ok (.iconst 0, 1) := by decide +kernel
theorem dX3_prepare_31 : decode cX3_prepare 31 = .ok (.invokestatic 58, 3) := by decide +kernel
theorem dX3_prepare_34 : decode cX3_prepare 34 = .ok (.aload_n 0, 1) := by decide +kernel
theorem dX3_prepare_35 : decode cX3_prepare 35 = .ok (.getfield 36, 3) := by decide +kernel
theorem dX3_prepare_38 : decode cX3_prepare 38 = .ok (.iconst 0, 1) := by decide +kernel
theorem dX3_prepare_39 : decode cX3_prepare 39 = .ok (.invokestatic 58, 3) := by decide +kernel
theorem dX3_prepare_42 : decode cX3_prepare 42 = .ok (.aload_n 0, 1) := by decide +kernel
theorem dX3_prepare_43 : decode cX3_prepare 43 = .ok (.getfield 43, 3) := by decide +kernel
theorem dX3_prepare_46 : decode cX3_prepare 46 = .ok (.getfield 64, 3) := by decide +kernel
theorem dX3_prepare_49 : decode cX3_prepare 49 = .ok (.iconst 0, 1) := by decide +kernel
theorem dX3_prepare_50 : decode cX3_prepare 50 = .ok (.aload_n 0, 1) := by decide +kernel
theorem dX3_prepare_51 : decode cX3_prepare 51 = .ok (.getfield 11, 3) := by decide +kernel
theorem dX3_prepare_54 : decode cX3_prepare 54 = .ok (.iconst 0, 1) := by decide +kernel
theorem dX3_prepare_55 : decode cX3_prepare 55 = .ok (.bipush 8, 2) := by decide +kernel
theorem dX3_prepare_57 : decode cX3_prepare 57 = .ok (.invokestatic 52, 3) := by decide +kernel
theorem dX3_prepare_60 : decode cX3_prepare 60 = .ok (.aload_n 0, 1) := by decide +kernel
theorem dX3_prepare_61 : decode cX3_prepare 61 = .ok (.getfield 43, 3) := by decide +kernel
theorem dX3_prepare_64 : decode cX3_prepare 64 = .ok (.getfield 69, 3) := by decide +kernel
theorem dX3_prepare_67 : decode cX3_prepare 67 = .ok (.getfield 73, 3) := by decide +kernel
theorem dX3_prepare_70 : decode cX3_prepare 70 = .ok (.iconst 0, 1) := by decide +kernel
theorem dX3_prepare_71 : decode cX3_prepare 71 = .ok (.aload_n 0, 1) := by decide +kernel
theorem dX3_prepare_72 : decode cX3_prepare 72 = .ok (.getfield 11, 3) := by decide +kernel
theorem dX3_prepare_75 : decode cX3_prepare 75 = .ok (.bipush 8, 2) := by decide +kernel
theorem dX3_prepare_77 : decode cX3_prepare 77 = .ok (.bipush 6, 2) := by decide +kernel
theorem dX3_prepare_79 : decode cX3_prepare 79 = .ok (.invokestatic 52, 3) := by decide +kernel
theorem dX3_prepare_82 : decode cX3_prepare 82 = .ok (.aload_n 0, 1) := by decide +kernel
theorem dX3_prepare_83 : decode cX3_prepare 83 = .ok (.invokevirtual 78, 3) := by decide +kernel
theorem dX3_prepare_86 : decode cX3_prepare 86 = .ok (.aload_n 0, 1) := by decide +kernel
theorem dX3_prepare_87 : decode cX3_prepare 87 = .ok (.getfield 21, 3) := by decide +kernel
theorem dX3_prepare_90 : decode cX3_prepare 90 = .ok (.iconst 0, 1) := by decide +kernel
theorem dX3_prepare_91 : decode cX3_prepare 91 = .ok (.invokestatic 58, 3) := by decide +kernel
theorem dX3_prepare_94 : decode cX3_prepare 94 = .ok (.iconst 0, 1) := by decide +kernel
theorem dX3_prepare_95 : decode cX3_prepare 95 = .ok (.istore_n 2, 1) := by decide +kernel
theorem dX3_prepare_96 : decode cX3_prepare 96 = .ok (.iload_n 2, 1) := by decide +kernel
theorem dX3_prepare_97 : decode cX3_prepare 97 = .ok (.aload_n 0, 1) := by decide +kernel
theorem dX3_prepare_98 : decode cX3_prepare 98 = .ok (.getfield 43, 3) := by decide +kernel
theorem dX3_prepare_101 : decode cX3_prepare 101 = .ok (.getfield 81, 3) := by decide +kernel
theorem dX3_prepare_104 : decode cX3_prepare 104 = .ok (.if_icmp .ge 71, 3) := by decide +kernel
theorem dX3_prepare_107 : decode cX3_prepare 107 = .ok (.aload_n 0, 1) := by decide +kernel
theorem dX3_prepare_108 : decode cX3_prepare 108 = .ok (.getfield 43, 3) := by decide +kernel
theorem dX3_prepare_111 : decode cX3_prepare 111 = .ok (.iload_n 1, 1) := by decide +kernel
theorem dX3_prepare_112 : decode cX3_prepare 112 = .ok (.iload_n 2, 1) := by decide +kernel
theorem dX3_prepare_113 : decode cX3_prepare 113 = .ok (.invokevirtual 85, 3) := by decide +kernel
theorem dX3_prepare_116 : decode cX3_prepare 116 = .ok (.istore_n 3, 1) := by decide +kernel
theorem dX3_prepare_117 : decode cX3_prepare 117 = .ok (.iconst 0, 1) := by decide +kernel
theorem dX3_prepare_118 : decode cX3_prepare 118 = .ok (.istore 4, 2) := by decide +kernel
theorem dX3_prepare_120 : decode cX3_prepare 120 = .ok (.iload 4, 2) := by decide +kernel
theorem dX3_prepare_122 : decode cX3_prepare 122 = .ok (.aload_n 0, 1) := by decide +kernel
theorem dX3_prepare_123 : decode cX3_prepare 123 = .ok (.getfield 43, 3) := by decide +kernel
theorem dX3_prepare_126 : decode cX3_prepare 126 = .ok (.getfield 69, 3) := by decide +kernel
theorem dX3_prepare_129 : decode cX3_prepare 129 = .ok (.getfield 89, 3) := by decide +kernel
theorem dX3_prepare_132 : decode cX3_prepare 132 = .ok (.if_icmp .ge 37, 3) := by decide +kernel
theorem dX3_prepare_135 : decode cX3_prepare 135 = .ok (.iload_n 3, 1) := by decide +kernel
theorem dX3_prepare_136 : decode cX3_prepare 136 = .ok (.ifCond .lt 27, 3) := by decide +kernel
theorem dX3_prepare_139 : decode cX3_prepare 139 = .ok (.aload_n 0, 1) := by decide +kernel
theorem dX3_prepare_140 : decode cX3_prepare 140 = .ok (.getfield 43, 3) := by decide +kernel
theorem dX3_prepare_143 : decode cX3_prepare 143 = .ok (.getfield 69, 3) := by decide +kernel
theorem dX3_prepare_146 : decode cX3_prepare 146 = .ok (.iload 4, 2) := by decide +kernel
theorem dX3_prepare_148 : decode cX3_prepare 148 = .ok (.iload_n 2, 1) := by decide +kernel
theorem dX3_prepare_149 : decode cX3_prepare 149 = .ok (.invokevirtual 92, 3) := by decide +kernel
theorem dX3_prepare_152 : decode cX3_prepare 152 = .ok (.ifCond .eq 11, 3) := by decide +kernel
theorem dX3_prepare_155 : decode cX3_prepare 155 = .ok (.aload_n 0, 1) := by decide +kernel
theorem dX3_prepare_156 : decode cX3_prepare 156 = .ok (.iload 4, 2) := by decide +kernel
theorem dX3_prepare_158 : decode cX3_prepare 158 = .ok (.iload_n 2, 1) := by decide +kernel
theorem dX3_prepare_159 : decode cX3_prepare 159 = .ok (.iload_n 3, 1) := by decide +kernel
theorem dX3_prepare_160 : decode cX3_prepare 160 = .ok (.invokevirtual 96, 3) := by decide +kernel
theorem dX3_prepare_163 : decode cX3_prepare 163 = .ok (.iinc 4 1, 3) := by decide +kernel
theorem dX3_prepare_166 : decode cX3_prepare 166 = .ok (.goto (-46), 3) := by decide +kernel
theorem dX3_prepare_169 : decode cX3_prepare 169 = .ok (.iinc 2 1, 3) := by decide +kernel
theorem dX3_prepare_172 : decode cX3_prepare 172 = .ok (.goto (-76), 3) := by decide +kernel
theorem dX3_prepare_175 : decode cX3_prepare 175 = .ok (.return_, 1) := by decide +kernel
set_option maxRecDepth 100000 in
set_option maxHeartbeats 4000000 in
theorem mX3_prepare_L120 {E : goEv} {X : goX} {G : goG} {Q : State → Prop} {L : goML} {R : goMR} {N : Nat} {v2 : Int32} {v3 : Int32} {a0 : Nat} {v1 : Int32} (hc : goCx E X cX3_prepare RX3 5) (hk : goKn E) (hR : X.2.2.2.1 = goRoom 2 47 0 0) (hr : X.2.2.2.2.2.2.2.2.1.sig.returnType = none) (hW : goW G R) (m0 : a0 = 78 ∨ a0 = 92) : ∀ (n : Nat) (v4 : Int32) (M : goMI) (r0 : goMI), lX3_prepare_120 N v2 v3 R a0 n v4 M = some r0 → (∀ (d3 d4 : Option Value), goA E X G 0 0 Q 169 [some (.ref a0), some (.int v1), some (.int v2), d3, d4] [] r0 L R) → goA E X G 0 0 Q 120 [some (.ref a0), some (.int v1), some (.int v2), some (.int v3), some (.int v4)] [] M L R := by
  intro n
  induction n with
  | zero => intro v4 M r0 h; exact nomatch h
  | succ n ih =>
    intro v4 M r0 h kx
    rw [lX3_prepare_120] at h
    refine go_iload4 hc dX3_prepare_120 ?_
    refine go_aload0 hc dX3_prepare_122 ?_
    refine go_getR hc lk_RX3_43 dX3_prepare_123 (shDay_0 hW m0) (rmDay_1 hW m0) ?_
    refine go_getR hc lk_RX3_69 dX3_prepare_126 (shHill_0 hW (mmDay_1 hW m0)) (rfHill_15 hW (mmDay_1 hW m0)) ?_
    refine go_getI hc lk_RX3_89 dX3_prepare_129 (shHerd_0 hW (subHerd (mmDay_1 hW m0))) ?_
    refine go_icmp_ge hc 169 dX3_prepare_132 rfl (fun c30 => ?_) (fun c30 => ?_)
    · replace h := goIfF h c30
      cases h
      exact kx _ _
    · replace h := goIfT h c30
      refine go_iload3 hc dX3_prepare_135 ?_
      replace h := goBind h; obtain ⟨M31, e32, h⟩ := h
      have k33 : goA E X G 0 0 Q 163 [some (.ref a0), some (.int v1), some (.int v2), some (.int v3), some (.int v4)] [] M31 L R := by
        refine go_iinc4 (v := (v4 + 1)) hc dX3_prepare_163 rfl ?_
        refine go_goto hc 120 dX3_prepare_166 rfl ?_
        exact ih _ _ _ h kx
      refine go_if_lt hc 163 dX3_prepare_136 rfl (fun c34 => ?_) (fun c34 => ?_)
      · replace e32 := goIfF e32 c34
        cases e32
        exact k33
      · replace e32 := goIfT e32 c34
        refine go_aload0 hc dX3_prepare_139 ?_
        refine go_getR hc lk_RX3_43 dX3_prepare_140 (shDay_0 hW m0) (rmDay_1 hW m0) ?_
        refine go_getR hc lk_RX3_69 dX3_prepare_143 (shHill_0 hW (mmDay_1 hW m0)) (rfHill_15 hW (mmDay_1 hW m0)) ?_
        refine go_iload4 hc dX3_prepare_146 ?_
        refine go_iload2 hc dX3_prepare_148 ?_
        replace e32 := goBind e32; obtain ⟨x35, e36, e32⟩ := e32
        refine go_callVi hc dX3_prepare_149 (mX5_minds hk hW (subHerd (mmDay_1 hW m0)) e36) ml_RX3_92 yk_X5_minds ⟨wim_X5_minds, wse_X5_minds⟩ hR rfl (shHerd_0 hW (subHerd (mmDay_1 hW m0))) rfl rfl rfl (Nat.le_of_ble_eq_true rfl) rfl ?_
        refine go_if_eq hc 163 dX3_prepare_152 rfl (fun c37 => ?_) (fun c37 => ?_)
        · replace e32 := goIfT e32 c37
          cases e32
          exact k33
        · replace e32 := goIfF e32 c37
          refine go_aload0 hc dX3_prepare_155 ?_
          refine go_iload4 hc dX3_prepare_156 ?_
          refine go_iload2 hc dX3_prepare_158 ?_
          refine go_iload3 hc dX3_prepare_159 ?_
          replace e32 := goBind e32; obtain ⟨M38, e39, e32⟩ := e32
          refine go_callVv hc dX3_prepare_160 (mX3_fearPerson hk hW m0 e39) ml_RX3_96 yk_X3_fearPerson ⟨wim_X3_fearPerson, wse_X3_fearPerson⟩ hR rfl (shDay_0 hW m0) rfl rfl rfl (Nat.le_of_ble_eq_true rfl) rfl ?_
          cases e32
          exact k33
set_option maxRecDepth 100000 in
set_option maxHeartbeats 4000000 in
theorem mX3_prepare_L96 {E : goEv} {X : goX} {G : goG} {Q : State → Prop} {L : goML} {R : goMR} {N : Nat} {v1 : Int32} {a0 : Nat} (hc : goCx E X cX3_prepare RX3 5) (hk : goKn E) (hR : X.2.2.2.1 = goRoom 2 47 0 0) (hr : X.2.2.2.2.2.2.2.2.1.sig.returnType = none) (hW : goW G R) (m0 : a0 = 78 ∨ a0 = 92) : ∀ (n : Nat) (v2 : Int32) (M : goMI) (r0 : goMI), lX3_prepare_96 N v1 R a0 n v2 M = some r0 → (∀ (d0 d1 d2 d3 d4 : Option Value), goA E X G 0 0 Q 175 [d0, d1, d2, d3, d4] [] r0 L R) → ∀ (d3 d4 : Option Value), goA E X G 0 0 Q 96 [some (.ref a0), some (.int v1), some (.int v2), d3, d4] [] M L R := by
  intro n
  induction n with
  | zero => intro v2 M r0 h; exact nomatch h
  | succ n ih =>
    intro v2 M r0 h kx d3 d4
    rw [lX3_prepare_96] at h
    refine go_iload2 hc dX3_prepare_96 ?_
    refine go_aload0 hc dX3_prepare_97 ?_
    refine go_getR hc lk_RX3_43 dX3_prepare_98 (shDay_0 hW m0) (rmDay_1 hW m0) ?_
    refine go_getI hc lk_RX3_81 dX3_prepare_101 (shHill_0 hW (mmDay_1 hW m0)) ?_
    refine go_icmp_ge hc 175 dX3_prepare_104 rfl (fun c27 => ?_) (fun c27 => ?_)
    · replace h := goIfF h c27
      cases h
      exact kx _ _ _ _ _
    · replace h := goIfT h c27
      refine go_aload0 hc dX3_prepare_107 ?_
      refine go_getR hc lk_RX3_43 dX3_prepare_108 (shDay_0 hW m0) (rmDay_1 hW m0) ?_
      refine go_iload1 hc dX3_prepare_111 ?_
      refine go_iload2 hc dX3_prepare_112 ?_
      replace h := goBind h; obtain ⟨x28, e29, h⟩ := h
      refine go_callVi hc dX3_prepare_113 (mX6_storyIn hk hW (mmDay_1 hW m0) e29) ml_RX3_85 yk_X6_storyIn ⟨wim_X6_storyIn, wse_X6_storyIn⟩ hR rfl (shHill_0 hW (mmDay_1 hW m0)) rfl rfl rfl (Nat.le_of_ble_eq_true rfl) rfl ?_
      refine go_istore3 hc dX3_prepare_116 ?_
      refine go_iconst (v := 0) hc dX3_prepare_117 rfl ?_
      refine go_istore4 hc dX3_prepare_118 ?_
      replace h := goBind h; obtain ⟨M41, e40, h⟩ := h
      refine mX3_prepare_L120 hc hk hR hr hW m0 _ _ _ _ e40 (fun d3 d4 => ?_)
      refine go_iinc2 (v := (v2 + 1)) hc dX3_prepare_169 rfl ?_
      refine go_goto hc 96 dX3_prepare_172 rfl ?_
      exact ih _ _ _ h kx _ _
set_option maxRecDepth 100000 in
set_option maxHeartbeats 4000000 in
theorem mX3_prepare {E : goEv} {l : Launch} {G : goG} {N : Nat} {M : goMI} {L : goML} {R : goMR} {a0 : Nat} {v1 : Int32} {r0 : goMI} (hk : goKn E) (hW : goW G R) (m0 : a0 = 78 ∨ a0 = 92) (h : fX3_prepare N M R a0 v1 = some r0) : Met l yX3_prepare (goCd yX3_prepare cX3_prepare 5 none) (goRoom 2 47 0 0) (goPre E [.ref a0, .int v1] G M L R) (goQv E G r0 L R) 0 0 (goSet E) := by
  refine goMet pl_RX3 hk (lv := [some (.ref a0), some (.int v1), none, none, none]) rfl (Nat.le_of_ble_eq_true rfl) ?_
  intro X hc hl hR hr hnm
  subst hl
  unfold fX3_prepare at h
  refine go_aload0 hc dX3_prepare_0 ?_
  refine go_getR hc lk_RX3_39 dX3_prepare_1 (shDay_0 hW m0) (rfDay_0 hW m0) ?_
  refine go_getR hc lk_RX3_47 dX3_prepare_4 (sh_3 hW) (rf_3_0 hW) ?_
  refine go_iconst (v := 0) hc dX3_prepare_7 rfl ?_
  refine go_aload0 hc dX3_prepare_8 ?_
  refine go_getR hc lk_RX3_15 dX3_prepare_9 (shDay_0 hW m0) (rfDay_3 hW m0) ?_
  refine go_iconst (v := 0) hc dX3_prepare_12 rfl ?_
  refine go_bipush (v := 24) hc dX3_prepare_13 rfl ?_
  replace h := goBind h; obtain ⟨M11, e12, h⟩ := h
  refine go_copy hc dX3_prepare_15 wml_RX3_52 hR rfl (sh_4 hW) (shDay_2 hW m0) rfl (Nat.le_of_ble_eq_true rfl) e12 ?_
  refine go_aload0 hc dX3_prepare_18 ?_
  refine go_getR hc lk_RX3_30 dX3_prepare_19 (shDay_0 hW m0) (rfDay_8 hW m0) ?_
  refine go_iconst (v := 0) hc dX3_prepare_22 rfl ?_
  replace h := goBind h; obtain ⟨M13, e14, h⟩ := h
  refine go_callSv hc dX3_prepare_23 (mJ7_fill_53178 hk hW (shDay_7 hW m0) e14) ml_RX3_58 yk_J7_fill_53178 wst_J7_fill_53178 hR rfl rfl rfl (Nat.le_of_ble_eq_true rfl) rfl ?_
  refine go_aload0 hc dX3_prepare_26 ?_
  refine go_getR hc lk_RX3_33 dX3_prepare_27 (shDay_0 hW m0) (rfDay_9 hW m0) ?_
  refine go_iconst (v := 0) hc dX3_prepare_30 rfl ?_
  replace h := goBind h; obtain ⟨M15, e16, h⟩ := h
  refine go_callSv hc dX3_prepare_31 (mJ7_fill_53178 hk hW (shDay_8 hW m0) e16) ml_RX3_58 yk_J7_fill_53178 wst_J7_fill_53178 hR rfl rfl rfl (Nat.le_of_ble_eq_true rfl) rfl ?_
  refine go_aload0 hc dX3_prepare_34 ?_
  refine go_getR hc lk_RX3_36 dX3_prepare_35 (shDay_0 hW m0) (rfDay_10 hW m0) ?_
  refine go_iconst (v := 0) hc dX3_prepare_38 rfl ?_
  replace h := goBind h; obtain ⟨M17, e18, h⟩ := h
  refine go_callSv hc dX3_prepare_39 (mJ7_fill_53178 hk hW (shDay_9 hW m0) e18) ml_RX3_58 yk_J7_fill_53178 wst_J7_fill_53178 hR rfl rfl rfl (Nat.le_of_ble_eq_true rfl) rfl ?_
  refine go_aload0 hc dX3_prepare_42 ?_
  refine go_getR hc lk_RX3_43 dX3_prepare_43 (shDay_0 hW m0) (rmDay_1 hW m0) ?_
  refine go_getR hc lk_RX3_64 dX3_prepare_46 (shHill_0 hW (mmDay_1 hW m0)) (rfHill_7 hW (mmDay_1 hW m0)) ?_
  refine go_iconst (v := 0) hc dX3_prepare_49 rfl ?_
  refine go_aload0 hc dX3_prepare_50 ?_
  refine go_getR hc lk_RX3_11 dX3_prepare_51 (shDay_0 hW m0) (rfDay_2 hW m0) ?_
  refine go_iconst (v := 0) hc dX3_prepare_54 rfl ?_
  refine go_bipush (v := 8) hc dX3_prepare_55 rfl ?_
  replace h := goBind h; obtain ⟨M19, e20, h⟩ := h
  refine go_copy hc dX3_prepare_57 wml_RX3_52 hR rfl (shHill_1 hW (mmDay_1 hW m0)) (shDay_1 hW m0) rfl (Nat.le_of_ble_eq_true rfl) e20 ?_
  refine go_aload0 hc dX3_prepare_60 ?_
  refine go_getR hc lk_RX3_43 dX3_prepare_61 (shDay_0 hW m0) (rmDay_1 hW m0) ?_
  refine go_getR hc lk_RX3_69 dX3_prepare_64 (shHill_0 hW (mmDay_1 hW m0)) (rfHill_15 hW (mmDay_1 hW m0)) ?_
  refine go_getR hc lk_RX3_73 dX3_prepare_67 (shHerd_0 hW (subHerd (mmDay_1 hW m0))) (rfHerd_4 hW (subHerd (mmDay_1 hW m0))) ?_
  refine go_iconst (v := 0) hc dX3_prepare_70 rfl ?_
  refine go_aload0 hc dX3_prepare_71 ?_
  refine go_getR hc lk_RX3_11 dX3_prepare_72 (shDay_0 hW m0) (rfDay_2 hW m0) ?_
  refine go_bipush (v := 8) hc dX3_prepare_75 rfl ?_
  refine go_bipush (v := 6) hc dX3_prepare_77 rfl ?_
  replace h := goBind h; obtain ⟨M21, e22, h⟩ := h
  refine go_copy hc dX3_prepare_79 wml_RX3_52 hR rfl (shHerd_3 hW (subHerd (mmDay_1 hW m0))) (shDay_1 hW m0) rfl (Nat.le_of_ble_eq_true rfl) e22 ?_
  refine go_aload0 hc dX3_prepare_82 ?_
  replace h := goBind h; obtain ⟨M23, e24, h⟩ := h
  refine go_callVv hc dX3_prepare_83 (mX3_openPaths hk hW m0 e24) ml_RX3_78 yk_X3_openPaths ⟨wim_X3_openPaths, wse_X3_openPaths⟩ hR rfl (shDay_0 hW m0) rfl rfl rfl (Nat.le_of_ble_eq_true rfl) rfl ?_
  refine go_aload0 hc dX3_prepare_86 ?_
  refine go_getR hc lk_RX3_21 dX3_prepare_87 (shDay_0 hW m0) (rfDay_5 hW m0) ?_
  refine go_iconst (v := 0) hc dX3_prepare_90 rfl ?_
  replace h := goBind h; obtain ⟨M25, e26, h⟩ := h
  refine go_callSv hc dX3_prepare_91 (mJ7_fill_53178 hk hW (shDay_4 hW m0) e26) ml_RX3_58 yk_J7_fill_53178 wst_J7_fill_53178 hR rfl rfl rfl (Nat.le_of_ble_eq_true rfl) rfl ?_
  refine go_iconst (v := 0) hc dX3_prepare_94 rfl ?_
  refine go_istore2 hc dX3_prepare_95 ?_
  replace h := goBind h; obtain ⟨M43, e42, h⟩ := h
  refine mX3_prepare_L96 hc hk hR hr hW m0 _ _ _ _ e42 (fun d0 d1 d2 d3 d4 => ?_) _ _
  cases h
  exact go_vret hc dX3_prepare_175 hr
theorem dX3_followsMother_0 : decode cX3_followsMother 0 = .ok (.aload_n 0, 1) := by decide +kernel
theorem dX3_followsMother_1 : decode cX3_followsMother 1 = .ok (.getfield 43, 3) := by decide +kernel
theorem dX3_followsMother_4 : decode cX3_followsMother 4 = .ok (.getfield 69, 3) := by decide +kernel
theorem dX3_followsMother_7 : decode cX3_followsMother 7 = .ok (.getfield 132, 3) := by decide +kernel
theorem dX3_followsMother_10 : decode cX3_followsMother 10 = .ok (.iload_n 1, 1) := by decide +kernel
theorem dX3_followsMother_11 : decode cX3_followsMother 11 = .ok (.iaload, 1) := by decide +kernel
theorem dX3_followsMother_12 : decode cX3_followsMother 12 = .ok (.istore_n 3, 1) := by decide +kernel
theorem dX3_followsMother_13 : decode cX3_followsMother 13 = .ok (.iload_n 3, 1) := by decide +kernel
theorem dX3_followsMother_14 : decode cX3_followsMother 14 = .ok (.ifCond .lt 29, 3) := by decide +kernel
theorem dX3_followsMother_17 : decode cX3_followsMother 17 = .ok (.aload_n 0, 1) := by decide +kernel
theorem dX3_followsMother_18 : decode cX3_followsMother 18 = .ok (.getfield 18, 3) := by decide +kernel
theorem dX3_followsMother_21 : decode cX3_followsMother 21 = .ok (.iload_n 2, 1) := by decide +kernel
theorem dX3_followsMother_22 : decode cX3_followsMother 22 = .ok (.iaload, 1) := by decide +kernel
theorem dX3_followsMother_23 : decode cX3_followsMother 23 = .ok (.aload_n 0, 1) := by decide +kernel
theorem dX3_followsMother_24 : decode cX3_followsMother 24 = .ok (.getfield 11, 3) := by decide +kernel
theorem dX3_followsMother_27 : decode cX3_followsMother 27 = .ok (.bipush 8, 2) := by decide +kernel
theorem dX3_followsMother_29 : decode cX3_followsMother 29 = .ok (.iload_n 3, 1) := by decide +kernel
theorem dX3_followsMother_30 : decode cX3_followsMother 30 = .ok (.iadd, 1) := by decide +kernel
theorem dX3_followsMother_31 : decode cX3_followsMother 31 = .ok (.iaload, 1) := by decide +kernel
theorem dX3_followsMother_32 : decode cX3_followsMother 32 = .ok (.invokestatic 110, 3) := by decide +kernel
theorem dX3_followsMother_35 : decode cX3_followsMother 35 = .ok (.iconst 1, 1) := by decide +kernel
theorem dX3_followsMother_36 : decode cX3_followsMother 36 = .ok (.if_icmp .ne 7, 3) := by decide +kernel
theorem dX3_followsMother_39 : decode cX3_followsMother 39 = .ok (.iconst 1, 1) := by decide +kernel
theorem dX3_followsMother_40 : decode cX3_followsMother 40 = .ok (.goto 4, 3) := by decide +kernel
theorem dX3_followsMother_43 : decode cX3_followsMother 43 = .ok (.iconst 0, 1) := by decide +kernel
theorem dX3_followsMother_44 : decode cX3_followsMother 44 = .ok (.ireturn, 1) := by decide +kernel
set_option maxRecDepth 100000 in
set_option maxHeartbeats 4000000 in
theorem mX3_followsMother {E : goEv} {l : Launch} {G : goG} {M : goMI} {L : goML} {R : goMR} {a0 : Nat} {v1 : Int32} {v2 : Int32} {r0 : Int32} (hk : goKn E) (hW : goW G R) (m0 : a0 = 78 ∨ a0 = 92) (h : fX3_followsMother M R a0 v1 v2 = some r0) : Met l yX3_followsMother (goCd yX3_followsMother cX3_followsMother 4 (Option.some FieldType.boolean)) (goRoom 1 21 0 0) (goPre E [.ref a0, .int v1, .int v2] G M L R) (goQi E r0 G M L R) 0 0 (goSet E) := by
  refine goMet pl_RX3 hk (lv := [some (.ref a0), some (.int v1), some (.int v2), none]) rfl (Nat.le_of_ble_eq_true rfl) ?_
  intro X hc hl hR hr hnm
  subst hl
  unfold fX3_followsMother at h
  refine go_aload0 hc dX3_followsMother_0 ?_
  refine go_getR hc lk_RX3_43 dX3_followsMother_1 (shDay_0 hW m0) (rmDay_1 hW m0) ?_
  refine go_getR hc lk_RX3_69 dX3_followsMother_4 (shHill_0 hW (mmDay_1 hW m0)) (rfHill_15 hW (mmDay_1 hW m0)) ?_
  refine go_getR hc lk_RX3_132 dX3_followsMother_7 (shHerd_0 hW (subHerd (mmDay_1 hW m0))) (rfHerd_3 hW (subHerd (mmDay_1 hW m0))) ?_
  refine go_iload1 hc dX3_followsMother_10 ?_
  replace h := goBind h; obtain ⟨x11, e12, h⟩ := h
  refine go_iald hc dX3_followsMother_11 (shHerd_2 hW (subHerd (mmDay_1 hW m0))) e12 ?_
  refine go_istore3 hc dX3_followsMother_12 ?_
  refine go_iload3 hc dX3_followsMother_13 ?_
  refine go_if_lt hc 43 dX3_followsMother_14 rfl (fun c13 => ?_) (fun c13 => ?_)
  · replace h := goIfF h c13
    refine go_iconst (v := 0) hc dX3_followsMother_43 rfl ?_
    cases h
    exact go_zret hc dX3_followsMother_44 hr rfl
  · replace h := goIfT h c13
    refine go_aload0 hc dX3_followsMother_17 ?_
    refine go_getR hc lk_RX3_18 dX3_followsMother_18 (shDay_0 hW m0) (rfDay_4 hW m0) ?_
    refine go_iload2 hc dX3_followsMother_21 ?_
    replace h := goBind h; obtain ⟨x14, e15, h⟩ := h
    refine go_iald hc dX3_followsMother_22 (shDay_3 hW m0) e15 ?_
    refine go_aload0 hc dX3_followsMother_23 ?_
    refine go_getR hc lk_RX3_11 dX3_followsMother_24 (shDay_0 hW m0) (rfDay_2 hW m0) ?_
    refine go_bipush (v := 8) hc dX3_followsMother_27 rfl ?_
    refine go_iload3 hc dX3_followsMother_29 ?_
    refine go_iadd hc dX3_followsMother_30 ?_
    replace h := goBind h; obtain ⟨x16, e17, h⟩ := h
    refine go_iald hc dX3_followsMother_31 (shDay_1 hW m0) e17 ?_
    refine go_callSi hc dX3_followsMother_32 (mX12_bit hk hW rfl) ml_RX3_110 yk_X12_bit wst_X12_bit hR rfl rfl rfl (Nat.le_of_ble_eq_true rfl) rfl ?_
    refine go_iconst (v := 1) hc dX3_followsMother_35 rfl ?_
    refine go_icmp_ne hc 43 dX3_followsMother_36 rfl (fun c18 => ?_) (fun c18 => ?_)
    · replace h := goIfF h c18
      refine go_iconst (v := 0) hc dX3_followsMother_43 rfl ?_
      cases h
      exact go_zret hc dX3_followsMother_44 hr rfl
    · replace h := goIfT h c18
      refine go_iconst (v := 1) hc dX3_followsMother_39 rfl ?_
      refine go_goto hc 44 dX3_followsMother_40 rfl ?_
      cases h
      exact go_zret hc dX3_followsMother_44 hr rfl
