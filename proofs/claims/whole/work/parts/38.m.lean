theorem dX12_trouble_0 : decode cX12_trouble 0 = .ok (.aload_n 0, 1) := by decide +kernel
theorem dX12_trouble_1 : decode cX12_trouble 1 = .ok (.getfield 91, 3) := by decide +kernel
theorem dX12_trouble_4 : decode cX12_trouble 4 = .ok (.ireturn, 1) := by decide +kernel
set_option maxRecDepth 100000 in
set_option maxHeartbeats 4000000 in
theorem mX12_trouble {E : goEv} {l : Launch} {G : goG} {M : goMI} {L : goML} {R : goMR} {r0 : Int32} (hk : goKn E) (hW : goW G R) (h : fX12_trouble M = r0) : Met l yX12_trouble (goCd yX12_trouble cX12_trouble 1 (Option.some FieldType.int)) (goRoom 0 0 0 0) (goPre E [.ref 0] G M L R) (goQi E r0 G M L R) 0 0 (goSet E) := by
  refine goMet pl_RX12 hk (lv := [some (.ref 0)]) rfl (Nat.le_of_ble_eq_true rfl) ?_
  intro X hc hl hR hr hnm
  subst hl
  unfold fX12_trouble at h
  refine go_aload0 hc dX12_trouble_0 ?_
  refine go_getI hc lk_RX12_91 dX12_trouble_1 (sh_0 hW) ?_
  subst h
  exact go_iret hc dX12_trouble_4 hr
theorem dX13_find_0 : decode cX13_find 0 = .ok (.iconst 0, 1) := by decide +kernel
theorem dX13_find_1 : decode cX13_find 1 = .ok (.istore_n 3, 1) := by decide +kernel
theorem dX13_find_2 : decode cX13_find 2 = .ok (.iload_n 3, 1) := by decide +kernel
theorem dX13_find_3 : decode cX13_find 3 = .ok (.aload_n 0, 1) := by decide +kernel
theorem dX13_find_4 : decode cX13_find 4 = .ok (.getfield 88, 3) := by decide +kernel
theorem dX13_find_7 : decode cX13_find 7 = .ok (.if_icmp .ge 22, 3) := by decide +kernel
theorem dX13_find_10 : decode cX13_find 10 = .ok (.aload_n 0, 1) := by decide +kernel
theorem dX13_find_11 : decode cX13_find 11 = .ok (.getfield 78, 3) := by decide +kernel
theorem dX13_find_14 : decode cX13_find 14 = .ok (.iload_n 3, 1) := by decide +kernel
theorem dX13_find_15 : decode cX13_find 15 = .ok (.laload, 1) := by decide +kernel
theorem dX13_find_16 : decode cX13_find 16 = .ok (.lload_n 1, 1) := by decide +kernel
theorem dX13_find_17 : decode cX13_find 17 = .ok (.lcmp, 1) := by decide +kernel
theorem dX13_find_18 : decode cX13_find 18 = .ok (.ifCond .ne 5, 3) := by decide +kernel
theorem dX13_find_21 : decode cX13_find 21 = .ok (.iload_n 3, 1) := by decide +kernel
theorem dX13_find_22 : decode cX13_find 22 = .ok (.ireturn, 1) := by decide +kernel
theorem dX13_find_23 : decode cX13_find 23 = .ok (.iinc 3 1, 3) := by decide +kernel
theorem dX13_find_26 : decode cX13_find 26 = .ok (.goto (-24), 3) := by decide +kernel
theorem dX13_find_29 : decode cX13_find 29 = .ok (.iconst (-1), 1) := by decide +kernel
theorem dX13_find_30 : decode cX13_find 30 = .ok (.ireturn, 1) := by decide +kernel
set_option maxRecDepth 100000 in
set_option maxHeartbeats 4000000 in
theorem mX13_find_L2 {E : goEv} {X : goX} {G : goG} {M : goMI} {L : goML} {R : goMR} {w1 : Int64} {a0 : Nat} {r0 : Int32} (hc : goCx E X cX13_find RX13 4) (hk : goKn E) (hR : X.2.2.2.1 = goRoom 0 0 0 0) (hr : X.2.2.2.2.2.2.2.2.1.sig.returnType = (Option.some FieldType.int)) (hW : goW G R) (m0 : goIsM G R a0) : ∀ (n : Nat) (v3 : Int32), lX13_find_2 w1 M L a0 n v3 = some r0 → goA E X G 0 0 (goMQ X E (goQi E r0 G M L R) 0 0) 2 [some (.ref a0), some (.long w1), none, some (.int v3)] [] M L R := by
  intro n
  induction n with
  | zero => intro v3 h; exact nomatch h
  | succ n ih =>
    intro v3 h
    rw [lX13_find_2] at h
    refine go_iload3 hc dX13_find_2 ?_
    refine go_aload0 hc dX13_find_3 ?_
    refine go_getI hc lk_RX13_88 dX13_find_4 (shM_0 m0) ?_
    refine go_icmp_ge hc 29 dX13_find_7 rfl (fun c11 => ?_) (fun c11 => ?_)
    · replace h := goIfF h c11
      refine go_iconst (v := (-1)) hc dX13_find_29 rfl ?_
      cases h
      exact go_iret hc dX13_find_30 hr
    · replace h := goIfT h c11
      refine go_aload0 hc dX13_find_10 ?_
      refine go_getR hc lk_RX13_78 dX13_find_11 (shM_0 m0) (rfM_38 m0) ?_
      refine go_iload3 hc dX13_find_14 ?_
      replace h := goBind h; obtain ⟨x12, e13, h⟩ := h
      refine go_lald hc dX13_find_15 (shM_23 m0) e13 ?_
      refine go_lload1 hc dX13_find_16 ?_
      refine go_lcmp hc dX13_find_17 ?_
      refine go_if_ne hc 23 dX13_find_18 rfl (fun c14 => ?_) (fun c14 => ?_)
      · replace h := goIfF h c14
        refine go_iinc3 (v := (v3 + 1)) hc dX13_find_23 rfl ?_
        refine go_goto hc 2 dX13_find_26 rfl ?_
        exact ih _ h
      · replace h := goIfT h c14
        refine go_iload3 hc dX13_find_21 ?_
        cases h
        exact go_iret hc dX13_find_22 hr
set_option maxRecDepth 100000 in
set_option maxHeartbeats 4000000 in
theorem mX13_find {E : goEv} {l : Launch} {G : goG} {N : Nat} {M : goMI} {L : goML} {R : goMR} {a0 : Nat} {w1 : Int64} {r0 : Int32} (hk : goKn E) (hW : goW G R) (m0 : goIsM G R a0) (h : fX13_find N M L a0 w1 = some r0) : Met l yX13_find (goCd yX13_find cX13_find 4 (Option.some FieldType.int)) (goRoom 0 0 0 0) (goPre E [.ref a0, .long w1] G M L R) (goQi E r0 G M L R) 0 0 (goSet E) := by
  refine goMet pl_RX13 hk (lv := [some (.ref a0), some (.long w1), none, none]) rfl (Nat.le_of_ble_eq_true rfl) ?_
  intro X hc hl hR hr hnm
  subst hl
  unfold fX13_find at h
  refine go_iconst (v := 0) hc dX13_find_0 rfl ?_
  refine go_istore3 hc dX13_find_1 ?_
  exact mX13_find_L2 hc hk hR hr hW m0 _ _ h
theorem dX13_path_0 : decode cX13_path 0 = .ok (.iconst 0, 1) := by decide +kernel
theorem dX13_path_1 : decode cX13_path 1 = .ok (.istore_n 3, 1) := by decide +kernel
theorem dX13_path_2 : decode cX13_path 2 = .ok (.iload_n 3, 1) := by decide +kernel
theorem dX13_path_3 : decode cX13_path 3 = .ok (.aload_n 0, 1) := by decide +kernel
theorem dX13_path_4 : decode cX13_path 4 = .ok (.getfield 92, 3) := by decide +kernel
theorem dX13_path_7 : decode cX13_path 7 = .ok (.if_icmp .ge 51, 3) := by decide +kernel
theorem dX13_path_10 : decode cX13_path 10 = .ok (.aload_n 0, 1) := by decide +kernel
theorem dX13_path_11 : decode cX13_path 11 = .ok (.getfield 15, 3) := by decide +kernel
theorem dX13_path_14 : decode cX13_path 14 = .ok (.iload_n 3, 1) := by decide +kernel
theorem dX13_path_15 : decode cX13_path 15 = .ok (.iaload, 1) := by decide +kernel
theorem dX13_path_16 : decode cX13_path 16 = .ok (.iload_n 1, 1) := by decide +kernel
theorem dX13_path_17 : decode cX13_path 17 = .ok (.if_icmp .ne 13, 3) := by decide +kernel
theorem dX13_path_20 : decode cX13_path 20 = .ok (.aload_n 0, 1) := by decide +kernel
theorem dX13_path_21 : decode cX13_path 21 = .ok (.getfield 18, 3) := by decide +kernel
theorem dX13_path_24 : decode cX13_path 24 = .ok (.iload_n 3, 1) := by decide +kernel
theorem dX13_path_25 : decode cX13_path 25 = .ok (.iaload, 1) := by decide +kernel
theorem dX13_path_26 : decode cX13_path 26 = .ok (.iload_n 2, 1) := by decide +kernel
theorem dX13_path_27 : decode cX13_path 27 = .ok (.if_icmp .eq 23, 3) := by decide +kernel
theorem dX13_path_30 : decode cX13_path 30 = .ok (.aload_n 0, 1) := by decide +kernel
theorem dX13_path_31 : decode cX13_path 31 = .ok (.getfield 15, 3) := by decide +kernel
theorem dX13_path_34 : decode cX13_path 34 = .ok (.iload_n 3, 1) := by decide +kernel
theorem dX13_path_35 : decode cX13_path 35 = .ok (.iaload, 1) := by decide +kernel
theorem dX13_path_36 : decode cX13_path 36 = .ok (.iload_n 2, 1) := by decide +kernel
theorem dX13_path_37 : decode cX13_path 37 = .ok (.if_icmp .ne 15, 3) := by decide +kernel
theorem dX13_path_40 : decode cX13_path 40 = .ok (.aload_n 0, 1) := by decide +kernel
theorem dX13_path_41 : decode cX13_path 41 = .ok (.getfield 18, 3) := by decide +kernel
theorem dX13_path_44 : decode cX13_path 44 = .ok (.iload_n 3, 1) := by decide +kernel
theorem dX13_path_45 : decode cX13_path 45 = .ok (.iaload, 1) := by decide +kernel
theorem dX13_path_46 : decode cX13_path 46 = .ok (.iload_n 1, 1) := by decide +kernel
theorem dX13_path_47 : decode cX13_path 47 = .ok (.if_icmp .ne 5, 3) := by decide +kernel
theorem dX13_path_50 : decode cX13_path 50 = .ok (.iload_n 3, 1) := by decide +kernel
theorem dX13_path_51 : decode cX13_path 51 = .ok (.ireturn, 1) := by decide +kernel
theorem dX13_path_52 : decode cX13_path 52 = .ok (.iinc 3 1, 3) := by decide +kernel
theorem dX13_path_55 : decode cX13_path 55 = .ok (.goto (-53), 3) := by decide +kernel
theorem dX13_path_58 : decode cX13_path 58 = .ok (.iconst (-1), 1) := by decide +kernel
theorem dX13_path_59 : decode cX13_path 59 = .ok (.ireturn, 1) := by decide +kernel
set_option maxRecDepth 100000 in
set_option maxHeartbeats 4000000 in
theorem mX13_path_L2 {E : goEv} {X : goX} {G : goG} {M : goMI} {L : goML} {R : goMR} {v1 : Int32} {v2 : Int32} {a0 : Nat} {r0 : Int32} (hc : goCx E X cX13_path RX13 4) (hk : goKn E) (hR : X.2.2.2.1 = goRoom 0 0 0 0) (hr : X.2.2.2.2.2.2.2.2.1.sig.returnType = (Option.some FieldType.int)) (hW : goW G R) (m0 : goIsM G R a0) : ∀ (n : Nat) (v3 : Int32), lX13_path_2 v1 v2 M a0 n v3 = some r0 → goA E X G 0 0 (goMQ X E (goQi E r0 G M L R) 0 0) 2 [some (.ref a0), some (.int v1), some (.int v2), some (.int v3)] [] M L R := by
  intro n
  induction n with
  | zero => intro v3 h; exact nomatch h
  | succ n ih =>
    intro v3 h
    rw [lX13_path_2] at h
    refine go_iload3 hc dX13_path_2 ?_
    refine go_aload0 hc dX13_path_3 ?_
    refine go_getI hc lk_RX13_92 dX13_path_4 (shM_0 m0) ?_
    refine go_icmp_ge hc 58 dX13_path_7 rfl (fun c11 => ?_) (fun c11 => ?_)
    · replace h := goIfF h c11
      refine go_iconst (v := (-1)) hc dX13_path_58 rfl ?_
      cases h
      exact go_iret hc dX13_path_59 hr
    · replace h := goIfT h c11
      refine go_aload0 hc dX13_path_10 ?_
      refine go_getR hc lk_RX13_15 dX13_path_11 (shM_0 m0) (rfM_17 m0) ?_
      refine go_iload3 hc dX13_path_14 ?_
      replace h := goBind h; obtain ⟨x12, e13, h⟩ := h
      refine go_iald hc dX13_path_15 (shM_2 m0) e13 ?_
      refine go_iload1 hc dX13_path_16 ?_
      refine go_icmp_ne hc 30 dX13_path_17 rfl (fun c14 => ?_) (fun c14 => ?_)
      · replace h := goIfF h c14
        refine go_aload0 hc dX13_path_30 ?_
        refine go_getR hc lk_RX13_15 dX13_path_31 (shM_0 m0) (rfM_17 m0) ?_
        refine go_iload3 hc dX13_path_34 ?_
        replace h := goBind h; obtain ⟨x15, e16, h⟩ := h
        refine go_iald hc dX13_path_35 (shM_2 m0) e16 ?_
        refine go_iload2 hc dX13_path_36 ?_
        refine go_icmp_ne hc 52 dX13_path_37 rfl (fun c17 => ?_) (fun c17 => ?_)
        · replace h := goIfF h c17
          refine go_iinc3 (v := (v3 + 1)) hc dX13_path_52 rfl ?_
          refine go_goto hc 2 dX13_path_55 rfl ?_
          exact ih _ h
        · replace h := goIfT h c17
          refine go_aload0 hc dX13_path_40 ?_
          refine go_getR hc lk_RX13_18 dX13_path_41 (shM_0 m0) (rfM_18 m0) ?_
          refine go_iload3 hc dX13_path_44 ?_
          replace h := goBind h; obtain ⟨x18, e19, h⟩ := h
          refine go_iald hc dX13_path_45 (shM_3 m0) e19 ?_
          refine go_iload1 hc dX13_path_46 ?_
          refine go_icmp_ne hc 52 dX13_path_47 rfl (fun c20 => ?_) (fun c20 => ?_)
          · replace h := goIfF h c20
            refine go_iinc3 (v := (v3 + 1)) hc dX13_path_52 rfl ?_
            refine go_goto hc 2 dX13_path_55 rfl ?_
            exact ih _ h
          · replace h := goIfT h c20
            refine go_iload3 hc dX13_path_50 ?_
            cases h
            exact go_iret hc dX13_path_51 hr
      · replace h := goIfT h c14
        refine go_aload0 hc dX13_path_20 ?_
        refine go_getR hc lk_RX13_18 dX13_path_21 (shM_0 m0) (rfM_18 m0) ?_
        refine go_iload3 hc dX13_path_24 ?_
        replace h := goBind h; obtain ⟨x21, e22, h⟩ := h
        refine go_iald hc dX13_path_25 (shM_3 m0) e22 ?_
        refine go_iload2 hc dX13_path_26 ?_
        refine go_icmp_eq hc 50 dX13_path_27 rfl (fun c23 => ?_) (fun c23 => ?_)
        · replace h := goIfT h c23
          refine go_iload3 hc dX13_path_50 ?_
          cases h
          exact go_iret hc dX13_path_51 hr
        · replace h := goIfF h c23
          refine go_aload0 hc dX13_path_30 ?_
          refine go_getR hc lk_RX13_15 dX13_path_31 (shM_0 m0) (rfM_17 m0) ?_
          refine go_iload3 hc dX13_path_34 ?_
          replace h := goBind h; obtain ⟨x24, e25, h⟩ := h
          refine go_iald hc dX13_path_35 (shM_2 m0) e25 ?_
          refine go_iload2 hc dX13_path_36 ?_
          refine go_icmp_ne hc 52 dX13_path_37 rfl (fun c26 => ?_) (fun c26 => ?_)
          · replace h := goIfF h c26
            refine go_iinc3 (v := (v3 + 1)) hc dX13_path_52 rfl ?_
            refine go_goto hc 2 dX13_path_55 rfl ?_
            exact ih _ h
          · replace h := goIfT h c26
            refine go_aload0 hc dX13_path_40 ?_
            refine go_getR hc lk_RX13_18 dX13_path_41 (shM_0 m0) (rfM_18 m0) ?_
            refine go_iload3 hc dX13_path_44 ?_
            replace h := goBind h; obtain ⟨x27, e28, h⟩ := h
            refine go_iald hc dX13_path_45 (shM_3 m0) e28 ?_
            refine go_iload1 hc dX13_path_46 ?_
            refine go_icmp_ne hc 52 dX13_path_47 rfl (fun c29 => ?_) (fun c29 => ?_)
            · replace h := goIfF h c29
              refine go_iinc3 (v := (v3 + 1)) hc dX13_path_52 rfl ?_
              refine go_goto hc 2 dX13_path_55 rfl ?_
              exact ih _ h
            · replace h := goIfT h c29
              refine go_iload3 hc dX13_path_50 ?_
              cases h
              exact go_iret hc dX13_path_51 hr
set_option maxRecDepth 100000 in
set_option maxHeartbeats 4000000 in
theorem mX13_path {E : goEv} {l : Launch} {G : goG} {N : Nat} {M : goMI} {L : goML} {R : goMR} {a0 : Nat} {v1 : Int32} {v2 : Int32} {r0 : Int32} (hk : goKn E) (hW : goW G R) (m0 : goIsM G R a0) (h : fX13_path N M a0 v1 v2 = some r0) : Met l yX13_path (goCd yX13_path cX13_path 4 (Option.some FieldType.int)) (goRoom 0 0 0 0) (goPre E [.ref a0, .int v1, .int v2] G M L R) (goQi E r0 G M L R) 0 0 (goSet E) := by
  refine goMet pl_RX13 hk (lv := [some (.ref a0), some (.int v1), some (.int v2), none]) rfl (Nat.le_of_ble_eq_true rfl) ?_
  intro X hc hl hR hr hnm
  subst hl
  unfold fX13_path at h
  refine go_iconst (v := 0) hc dX13_path_0 rfl ?_
  refine go_istore3 hc dX13_path_1 ?_
  exact mX13_path_L2 hc hk hR hr hW m0 _ _ h
theorem dX13_cases_0 : decode cX13_cases 0 = .ok (.iconst 1, 1) := by decide +kernel
theorem dX13_cases_1 : decode cX13_cases 1 = .ok (.istore_n 1, 1) := by decide +kernel
theorem dX13_cases_2 : decode cX13_cases 2 = .ok (.iconst 0, 1) := by decide +kernel
theorem dX13_cases_3 : decode cX13_cases 3 = .ok (.istore_n 2, 1) := by decide +kernel
theorem dX13_cases_4 : decode cX13_cases 4 = .ok (.iload_n 2, 1) := by decide +kernel
theorem dX13_cases_5 : decode cX13_cases 5 = .ok (.aload_n 0, 1) := by decide +kernel
theorem dX13_cases_6 : decode cX13_cases 6 = .ok (.getfield 95, 3) := by decide +kernel
theorem dX13_cases_9 : decode cX13_cases 9 = .ok (.if_icmp .ge 31, 3) := by decide +kernel
theorem dX13_cases_12 : decode cX13_cases 12 = .ok (.iload_n 1, 1) := by decide +kernel
theorem dX13_cases_13 : decode cX13_cases 13 = .ok (.aload_n 0, 1) := by decide +kernel
theorem dX13_cases_14 : decode cX13_cases 14 = .ok (.getfield 21, 3) := by decide +kernel
theorem dX13_cases_17 : decode cX13_cases 17 = .ok (.iload_n 2, 1) := by decide +kernel
theorem dX13_cases_18 : decode cX13_cases 18 = .ok (.iaload, 1) := by decide +kernel
theorem dX13_cases_19 : decode cX13_cases 19 = .ok (.ifCond .le 12, 3) := by decide +kernel
theorem dX13_cases_22 : decode cX13_cases 22 = .ok (.aload_n 0, 1) := by decide +kernel
theorem dX13_cases_23 : decode cX13_cases 23 = .ok (.getfield 21, 3) := by decide +kernel
theorem dX13_cases_26 : decode cX13_cases 26 = .ok (.iload_n 2, 1) := by decide +kernel
theorem dX13_cases_27 : decode cX13_cases 27 = .ok (.iaload, 1) := by decide +kernel
theorem dX13_cases_28 : decode cX13_cases 28 = .ok (.goto 4, 3) := by decide +kernel
theorem dX13_cases_31 : decode cX13_cases 31 = .ok (.iconst 1, 1) := by decide +kernel
theorem dX13_cases_32 : decode cX13_cases 32 = .ok (.imul, 1) := by decide +kernel
theorem dX13_cases_33 : decode cX13_cases 33 = .ok (.istore_n 1, 1) := by decide +kernel
theorem dX13_cases_34 : decode cX13_cases 34 = .ok (.iinc 2 1, 3) := by decide +kernel
theorem dX13_cases_37 : decode cX13_cases 37 = .ok (.goto (-33), 3) := by decide +kernel
theorem dX13_cases_40 : decode cX13_cases 40 = .ok (.iload_n 1, 1) := by decide +kernel
theorem dX13_cases_41 : decode cX13_cases 41 = .ok (.ireturn, 1) := by decide +kernel
set_option maxRecDepth 100000 in
set_option maxHeartbeats 4000000 in
theorem mX13_cases_L4 {E : goEv} {X : goX} {G : goG} {Q : State → Prop} {M : goMI} {L : goML} {R : goMR} {a0 : Nat} (hc : goCx E X cX13_cases RX13 3) (hk : goKn E) (hR : X.2.2.2.1 = goRoom 0 0 0 0) (hr : X.2.2.2.2.2.2.2.2.1.sig.returnType = (Option.some FieldType.int)) (hW : goW G R) (m0 : goIsM G R a0) : ∀ (n : Nat) (v1 : Int32) (v2 : Int32) (r0 : Int32), lX13_cases_4 M a0 n v1 v2 = some r0 → (∀ (d0 d2 : Option Value), goA E X G 0 0 Q 40 [d0, some (.int r0), d2] [] M L R) → goA E X G 0 0 Q 4 [some (.ref a0), some (.int v1), some (.int v2)] [] M L R := by
  intro n
  induction n with
  | zero => intro v1 v2 r0 h; exact nomatch h
  | succ n ih =>
    intro v1 v2 r0 h kx
    rw [lX13_cases_4] at h
    refine go_iload2 hc dX13_cases_4 ?_
    refine go_aload0 hc dX13_cases_5 ?_
    refine go_getI hc lk_RX13_95 dX13_cases_6 (shM_0 m0) ?_
    refine go_icmp_ge hc 40 dX13_cases_9 rfl (fun c11 => ?_) (fun c11 => ?_)
    · replace h := goIfF h c11
      cases h
      exact kx _ _
    · replace h := goIfT h c11
      refine go_iload1 hc dX13_cases_12 ?_
      refine go_aload0 hc dX13_cases_13 ?_
      refine go_getR hc lk_RX13_21 dX13_cases_14 (shM_0 m0) (rfM_19 m0) ?_
      refine go_iload2 hc dX13_cases_17 ?_
      replace h := goBind h; obtain ⟨x12, e13, h⟩ := h
      refine go_iald hc dX13_cases_18 (shM_4 m0) e13 ?_
      replace h := goBind h; obtain ⟨x14, e15, h⟩ := h
      have k16 : ∀ (d1 : Option Value), goA E X G 0 0 Q 32 [some (.ref a0), d1, some (.int v2)] [.int x14, .int v1] M L R := by
        intro d1
        refine go_imul hc dX13_cases_32 ?_
        replace h := goNm_x h; obtain ⟨x20, e21, h⟩ := h
        refine go_nmI e21 ?_
        refine go_istore1 hc dX13_cases_33 ?_
        refine go_iinc2 (v := (v2 + 1)) hc dX13_cases_34 rfl ?_
        refine go_goto hc 4 dX13_cases_37 rfl ?_
        exact ih _ _ _ h kx
      refine go_if_le hc 31 dX13_cases_19 rfl (fun c17 => ?_) (fun c17 => ?_)
      · replace e15 := goIfF e15 c17
        refine go_iconst (v := 1) hc dX13_cases_31 rfl ?_
        cases e15
        exact k16 _
      · replace e15 := goIfT e15 c17
        refine go_aload0 hc dX13_cases_22 ?_
        refine go_getR hc lk_RX13_21 dX13_cases_23 (shM_0 m0) (rfM_19 m0) ?_
        refine go_iload2 hc dX13_cases_26 ?_
        replace e15 := goBind e15; obtain ⟨x18, e19, e15⟩ := e15
        refine go_iald hc dX13_cases_27 (shM_4 m0) e19 ?_
        refine go_goto hc 32 dX13_cases_28 rfl ?_
        cases e15
        exact k16 _
set_option maxRecDepth 100000 in
set_option maxHeartbeats 4000000 in
theorem mX13_cases {E : goEv} {l : Launch} {G : goG} {N : Nat} {M : goMI} {L : goML} {R : goMR} {a0 : Nat} {r0 : Int32} (hk : goKn E) (hW : goW G R) (m0 : goIsM G R a0) (h : fX13_cases N M a0 = some r0) : Met l yX13_cases (goCd yX13_cases cX13_cases 3 (Option.some FieldType.int)) (goRoom 0 0 0 0) (goPre E [.ref a0] G M L R) (goQi E r0 G M L R) 0 0 (goSet E) := by
  refine goMet pl_RX13 hk (lv := [some (.ref a0), none, none]) rfl (Nat.le_of_ble_eq_true rfl) ?_
  intro X hc hl hR hr hnm
  subst hl
  unfold fX13_cases at h
  refine go_iconst (v := 1) hc dX13_cases_0 rfl ?_
  refine go_istore1 hc dX13_cases_1 ?_
  refine go_iconst (v := 0) hc dX13_cases_2 rfl ?_
  refine go_istore2 hc dX13_cases_3 ?_
  replace h := goBind h; obtain ⟨x23, e22, h⟩ := h
  refine mX13_cases_L4 hc hk hR hr hW m0 _ _ _ _ e22 (fun d0 d2 => ?_)
  refine go_iload1 hc dX13_cases_40 ?_
  cases h
  exact go_iret hc dX13_cases_41 hr
theorem dX13_storyOf_0 : decode cX13_storyOf 0 = .ok (.aload_n 0, 1) := by decide +kernel
theorem dX13_storyOf_1 : decode cX13_storyOf 1 = .ok (.getfield 21, 3) := by decide +kernel
theorem dX13_storyOf_4 : decode cX13_storyOf 4 = .ok (.iload_n 2, 1) := by decide +kernel
theorem dX13_storyOf_5 : decode cX13_storyOf 5 = .ok (.iaload, 1) := by decide +kernel
theorem dX13_storyOf_6 : decode cX13_storyOf 6 = .ok (.ifCond .ne 6, 3) := by decide +kernel
theorem dX13_storyOf_9 : decode cX13_storyOf 9 = .ok (.bipush (-2), 2) := by decide +kernel
theorem dX13_storyOf_11 : decode cX13_storyOf 11 = .ok (.ireturn, 1) := by decide +kernel
theorem dX13_storyOf_12 : decode cX13_storyOf 12 = .ok (.iconst 1, 1) := by decide +kernel
theorem dX13_storyOf_13 : decode cX13_storyOf 13 = .ok (.istore_n 3, 1) := by decide +kernel
theorem dX13_storyOf_14 : decode cX13_storyOf 14 = .ok (.iload_n 2, 1) := by decide +kernel
theorem dX13_storyOf_15 : decode cX13_storyOf 15 = .ok (.iconst 1, 1) := by decide +kernel
theorem dX13_storyOf_16 : decode cX13_storyOf 16 = .ok (.iadd, 1) := by decide +kernel
theorem dX13_storyOf_17 : decode cX13_storyOf 17 = .ok (.istore 4, 2) := by decide +kernel
theorem dX13_storyOf_19 : decode cX13_storyOf 19 = .ok (.iload 4, 2) := by decide +kernel
theorem dX13_storyOf_21 : decode cX13_storyOf 21 = .ok (.aload_n 0, 1) := by decide +kernel
theorem dX13_storyOf_22 : decode cX13_storyOf 22 = .ok (.getfield 95, 3) := by decide +kernel
theorem dX13_storyOf_25 : decode cX13_storyOf 25 = .ok (.if_icmp .ge 33, 3) := by decide +kernel
theorem dX13_storyOf_28 : decode cX13_storyOf 28 = .ok (.iload_n 3, 1) := by decide +kernel
theorem dX13_storyOf_29 : decode cX13_storyOf 29 = .ok (.aload_n 0, 1) := by decide +kernel
theorem dX13_storyOf_30 : decode cX13_storyOf 30 = .ok (.getfield 21, 3) := by decide +kernel
theorem dX13_storyOf_33 : decode cX13_storyOf 33 = .ok (.iload 4, 2) := by decide +kernel
theorem dX13_storyOf_35 : decode cX13_storyOf 35 = .ok (.iaload, 1) := by decide +kernel
theorem dX13_storyOf_36 : decode cX13_storyOf 36 = .ok (.ifCond .le 13, 3) := by decide +kernel
theorem dX13_storyOf_39 : decode cX13_storyOf 39 = .ok (.aload_n 0, 1) := by decide +kernel
theorem dX13_storyOf_40 : decode cX13_storyOf 40 = .ok (.getfield 21, 3) := by decide +kernel
theorem dX13_storyOf_43 : decode cX13_storyOf 43 = .ok (.iload 4, 2) := by decide +kernel
theorem dX13_storyOf_45 : decode cX13_storyOf 45 = .ok (.iaload, 1) := by decide +kernel
theorem dX13_storyOf_46 : decode cX13_storyOf 46 = .ok (.goto 4, 3) := by decide +kernel
theorem dX13_storyOf_49 : decode cX13_storyOf 49 = .ok (.iconst 1, 1) := by decide +kernel
theorem dX13_storyOf_50 : decode cX13_storyOf 50 = .ok (.imul, 1) := by decide +kernel
theorem dX13_storyOf_51 : decode cX13_storyOf 51 = .ok (.istore_n 3, 1) := by decide +kernel
theorem dX13_storyOf_52 : decode cX13_storyOf 52 = .ok (.iinc 4 1, 3) := by decide +kernel
theorem dX13_storyOf_55 : decode cX13_storyOf 55 = .ok (.goto (-36), 3) := by decide +kernel
theorem dX13_storyOf_58 : decode cX13_storyOf 58 = .ok (.iload_n 1, 1) := by decide +kernel
theorem dX13_storyOf_59 : decode cX13_storyOf 59 = .ok (.iload_n 3, 1) := by decide +kernel
theorem dX13_storyOf_60 : decode cX13_storyOf 60 = .ok (.idiv, 1) := by decide +kernel
theorem dX13_storyOf_61 : decode cX13_storyOf 61 = .ok (.aload_n 0, 1) := by decide +kernel
theorem dX13_storyOf_62 : decode cX13_storyOf 62 = .ok (.getfield 21, 3) := by decide +kernel
theorem dX13_storyOf_65 : decode cX13_storyOf 65 = .ok (.iload_n 2, 1) := by decide +kernel
theorem dX13_storyOf_66 : decode cX13_storyOf 66 = .ok (.iaload, 1) := by decide +kernel
theorem dX13_storyOf_67 : decode cX13_storyOf 67 = .ok (.irem, 1) := by decide +kernel
theorem dX13_storyOf_68 : decode cX13_storyOf 68 = .ok (.ireturn, 1) := by decide +kernel
set_option maxRecDepth 100000 in
set_option maxHeartbeats 4000000 in
theorem mX13_storyOf_L19 {E : goEv} {X : goX} {G : goG} {Q : State → Prop} {M : goMI} {L : goML} {R : goMR} {a0 : Nat} {v1 : Int32} {v2 : Int32} (hc : goCx E X cX13_storyOf RX13 5) (hk : goKn E) (hR : X.2.2.2.1 = goRoom 0 0 0 0) (hr : X.2.2.2.2.2.2.2.2.1.sig.returnType = (Option.some FieldType.int)) (hW : goW G R) (m0 : goIsM G R a0) : ∀ (n : Nat) (v3 : Int32) (v4 : Int32) (r0 : Int32), lX13_storyOf_19 M a0 n v3 v4 = some r0 → (∀ (d4 : Option Value), goA E X G 0 0 Q 58 [some (.ref a0), some (.int v1), some (.int v2), some (.int r0), d4] [] M L R) → goA E X G 0 0 Q 19 [some (.ref a0), some (.int v1), some (.int v2), some (.int v3), some (.int v4)] [] M L R := by
  intro n
  induction n with
  | zero => intro v3 v4 r0 h; exact nomatch h
  | succ n ih =>
    intro v3 v4 r0 h kx
    rw [lX13_storyOf_19] at h
    refine go_iload4 hc dX13_storyOf_19 ?_
    refine go_aload0 hc dX13_storyOf_21 ?_
    refine go_getI hc lk_RX13_95 dX13_storyOf_22 (shM_0 m0) ?_
    refine go_icmp_ge hc 58 dX13_storyOf_25 rfl (fun c16 => ?_) (fun c16 => ?_)
    · replace h := goIfF h c16
      cases h
      exact kx _
    · replace h := goIfT h c16
      refine go_iload3 hc dX13_storyOf_28 ?_
      refine go_aload0 hc dX13_storyOf_29 ?_
      refine go_getR hc lk_RX13_21 dX13_storyOf_30 (shM_0 m0) (rfM_19 m0) ?_
      refine go_iload4 hc dX13_storyOf_33 ?_
      replace h := goBind h; obtain ⟨x17, e18, h⟩ := h
      refine go_iald hc dX13_storyOf_35 (shM_4 m0) e18 ?_
      replace h := goBind h; obtain ⟨x19, e20, h⟩ := h
      have k21 : ∀ (d3 : Option Value), goA E X G 0 0 Q 50 [some (.ref a0), some (.int v1), some (.int v2), d3, some (.int v4)] [.int x19, .int v3] M L R := by
        intro d3
        refine go_imul hc dX13_storyOf_50 ?_
        replace h := goNm_x h; obtain ⟨x25, e26, h⟩ := h
        refine go_nmI e26 ?_
        refine go_istore3 hc dX13_storyOf_51 ?_
        refine go_iinc4 (v := (v4 + 1)) hc dX13_storyOf_52 rfl ?_
        refine go_goto hc 19 dX13_storyOf_55 rfl ?_
        exact ih _ _ _ h kx
      refine go_if_le hc 49 dX13_storyOf_36 rfl (fun c22 => ?_) (fun c22 => ?_)
      · replace e20 := goIfF e20 c22
        refine go_iconst (v := 1) hc dX13_storyOf_49 rfl ?_
        cases e20
        exact k21 _
      · replace e20 := goIfT e20 c22
        refine go_aload0 hc dX13_storyOf_39 ?_
        refine go_getR hc lk_RX13_21 dX13_storyOf_40 (shM_0 m0) (rfM_19 m0) ?_
        refine go_iload4 hc dX13_storyOf_43 ?_
        replace e20 := goBind e20; obtain ⟨x23, e24, e20⟩ := e20
        refine go_iald hc dX13_storyOf_45 (shM_4 m0) e24 ?_
        refine go_goto hc 50 dX13_storyOf_46 rfl ?_
        cases e20
        exact k21 _
set_option maxRecDepth 100000 in
set_option maxHeartbeats 4000000 in
theorem mX13_storyOf {E : goEv} {l : Launch} {G : goG} {N : Nat} {M : goMI} {L : goML} {R : goMR} {a0 : Nat} {v1 : Int32} {v2 : Int32} {r0 : Int32} (hk : goKn E) (hW : goW G R) (m0 : goIsM G R a0) (h : fX13_storyOf N M a0 v1 v2 = some r0) : Met l yX13_storyOf (goCd yX13_storyOf cX13_storyOf 5 (Option.some FieldType.int)) (goRoom 0 0 0 0) (goPre E [.ref a0, .int v1, .int v2] G M L R) (goQi E r0 G M L R) 0 0 (goSet E) := by
  refine goMet pl_RX13 hk (lv := [some (.ref a0), some (.int v1), some (.int v2), none, none]) rfl (Nat.le_of_ble_eq_true rfl) ?_
  intro X hc hl hR hr hnm
  subst hl
  unfold fX13_storyOf at h
  refine go_aload0 hc dX13_storyOf_0 ?_
  refine go_getR hc lk_RX13_21 dX13_storyOf_1 (shM_0 m0) (rfM_19 m0) ?_
  refine go_iload2 hc dX13_storyOf_4 ?_
  replace h := goBind h; obtain ⟨x11, e12, h⟩ := h
  refine go_iald hc dX13_storyOf_5 (shM_4 m0) e12 ?_
  refine go_if_ne hc 12 dX13_storyOf_6 rfl (fun c13 => ?_) (fun c13 => ?_)
  · replace h := goIfF h c13
    refine go_iconst (v := 1) hc dX13_storyOf_12 rfl ?_
    refine go_istore3 hc dX13_storyOf_13 ?_
    refine go_iload2 hc dX13_storyOf_14 ?_
    refine go_iconst (v := 1) hc dX13_storyOf_15 rfl ?_
    refine go_iadd hc dX13_storyOf_16 ?_
    replace h := goNm_x h; obtain ⟨x14, e15, h⟩ := h
    refine go_nmI e15 ?_
    refine go_istore4 hc dX13_storyOf_17 ?_
    replace h := goBind h; obtain ⟨x28, e27, h⟩ := h
    refine mX13_storyOf_L19 hc hk hR hr hW m0 _ _ _ _ e27 (fun d4 => ?_)
    refine go_iload1 hc dX13_storyOf_58 ?_
    refine go_iload3 hc dX13_storyOf_59 ?_
    replace h := goBind h; obtain ⟨_, e29, h⟩ := h
    refine go_idiv hc dX13_storyOf_60 (goNz_h e29) ?_
    refine go_aload0 hc dX13_storyOf_61 ?_
    refine go_getR hc lk_RX13_21 dX13_storyOf_62 (shM_0 m0) (rfM_19 m0) ?_
    refine go_iload2 hc dX13_storyOf_65 ?_
    replace h := goBind h; obtain ⟨x31, e32, h⟩ := h
    refine go_iald hc dX13_storyOf_66 (shM_4 m0) e32 ?_
    replace h := goBind h; obtain ⟨_, e33, h⟩ := h
    refine go_irem hc dX13_storyOf_67 (goNz_h e33) ?_
    cases h
    exact go_iret hc dX13_storyOf_68 hr
  · replace h := goIfT h c13
    refine go_bipush (v := (-2)) hc dX13_storyOf_9 rfl ?_
    cases h
    exact go_iret hc dX13_storyOf_11 hr
theorem dX13_place_0 : decode cX13_place 0 = .ok (.aload_n 0, 1) := by decide +kernel
theorem dX13_place_1 : decode cX13_place 1 = .ok (.getfield 24, 3) := by decide +kernel
theorem dX13_place_4 : decode cX13_place 4 = .ok (.iconst 3, 1) := by decide +kernel
theorem dX13_place_5 : decode cX13_place 5 = .ok (.iload_n 1, 1) := by decide +kernel
theorem dX13_place_6 : decode cX13_place 6 = .ok (.imul, 1) := by decide +kernel
theorem dX13_place_7 : decode cX13_place 7 = .ok (.iload_n 2, 1) := by decide +kernel
theorem dX13_place_8 : decode cX13_place 8 = .ok (.iadd, 1) := by decide +kernel
theorem dX13_place_9 : decode cX13_place 9 = .ok (.bipush 12, 2) := by decide +kernel
theorem dX13_place_11 : decode cX13_place 11 = .ok (.imul, 1) := by decide +kernel
theorem dX13_place_12 : decode cX13_place 12 = .ok (.iload_n 3, 1) := by decide +kernel
theorem dX13_place_13 : decode cX13_place 13 = .ok (.iadd, 1) := by decide +kernel
theorem dX13_place_14 : decode cX13_place 14 = .ok (.iaload, 1) := by decide +kernel
theorem dX13_place_15 : decode cX13_place 15 = .ok (.ireturn, 1) := by decide +kernel
set_option maxRecDepth 100000 in
set_option maxHeartbeats 4000000 in
theorem mX13_place {E : goEv} {l : Launch} {G : goG} {M : goMI} {L : goML} {R : goMR} {a0 : Nat} {v1 : Int32} {v2 : Int32} {v3 : Int32} {r0 : Int32} (hk : goKn E) (hW : goW G R) (m0 : goIsM G R a0) (h : fX13_place M a0 v1 v2 v3 = some r0) : Met l yX13_place (goCd yX13_place cX13_place 4 (Option.some FieldType.int)) (goRoom 0 0 0 0) (goPre E [.ref a0, .int v1, .int v2, .int v3] G M L R) (goQi E r0 G M L R) 0 0 (goSet E) := by
  refine goMet pl_RX13 hk (lv := [some (.ref a0), some (.int v1), some (.int v2), some (.int v3)]) rfl (Nat.le_of_ble_eq_true rfl) ?_
  intro X hc hl hR hr hnm
  subst hl
  unfold fX13_place at h
  refine go_aload0 hc dX13_place_0 ?_
  refine go_getR hc lk_RX13_24 dX13_place_1 (shM_0 m0) (rfM_20 m0) ?_
  refine go_iconst (v := 3) hc dX13_place_4 rfl ?_
  refine go_iload1 hc dX13_place_5 ?_
  refine go_imul hc dX13_place_6 ?_
  refine go_iload2 hc dX13_place_7 ?_
  refine go_iadd hc dX13_place_8 ?_
  refine go_bipush (v := 12) hc dX13_place_9 rfl ?_
  refine go_imul hc dX13_place_11 ?_
  refine go_iload3 hc dX13_place_12 ?_
  refine go_iadd hc dX13_place_13 ?_
  replace h := goBind h; obtain ⟨x11, e12, h⟩ := h
  refine go_iald hc dX13_place_14 (shM_5 m0) e12 ?_
  cases h
  exact go_iret hc dX13_place_15 hr
theorem dX13_placeIn_0 : decode cX13_placeIn 0 = .ok (.aload_n 0, 1) := by decide +kernel
theorem dX13_placeIn_1 : decode cX13_placeIn 1 = .ok (.getfield 21, 3) := by decide +kernel
theorem dX13_placeIn_4 : decode cX13_placeIn 4 = .ok (.iload_n 2, 1) := by decide +kernel
theorem dX13_placeIn_5 : decode cX13_placeIn 5 = .ok (.iaload, 1) := by decide +kernel
theorem dX13_placeIn_6 : decode cX13_placeIn 6 = .ok (.ifCond .ne 8, 3) := by decide +kernel
theorem dX13_placeIn_9 : decode cX13_placeIn 9 = .ok (.bipush (-2), 2) := by decide +kernel
theorem dX13_placeIn_11 : decode cX13_placeIn 11 = .ok (.goto 15, 3) := by decide +kernel
theorem dX13_placeIn_14 : decode cX13_placeIn 14 = .ok (.aload_n 0, 1) := by decide +kernel
theorem dX13_placeIn_15 : decode cX13_placeIn 15 = .ok (.iload_n 2, 1) := by decide +kernel
theorem dX13_placeIn_16 : decode cX13_placeIn 16 = .ok (.aload_n 0, 1) := by decide +kernel
theorem dX13_placeIn_17 : decode cX13_placeIn 17 = .ok (.iload_n 1, 1) := by decide +kernel
theorem dX13_placeIn_18 : decode cX13_placeIn 18 = .ok (.iload_n 2, 1) := by decide +kernel
theorem dX13_placeIn_19 : decode cX13_placeIn 19 = .ok (.invokevirtual 98, 3) := by decide +kernel
theorem dX13_placeIn_22 : decode cX13_placeIn 22 = .ok (.iload_n 3, 1) := by decide +kernel
theorem dX13_placeIn_23 : decode cX13_placeIn 23 = .ok (.invokevirtual 102, 3) := by decide +kernel
theorem dX13_placeIn_26 : decode cX13_placeIn 26 = .ok (.ireturn, 1) := by decide +kernel
set_option maxRecDepth 100000 in
set_option maxHeartbeats 4000000 in
theorem mX13_placeIn {E : goEv} {l : Launch} {G : goG} {N : Nat} {M : goMI} {L : goML} {R : goMR} {a0 : Nat} {v1 : Int32} {v2 : Int32} {v3 : Int32} {r0 : Int32} (hk : goKn E) (hW : goW G R) (m0 : goIsM G R a0) (h : fX13_placeIn N M a0 v1 v2 v3 = some r0) : Met l yX13_placeIn (goCd yX13_placeIn cX13_placeIn 4 (Option.some FieldType.int)) (goRoom 1 24 0 0) (goPre E [.ref a0, .int v1, .int v2, .int v3] G M L R) (goQi E r0 G M L R) 0 0 (goSet E) := by
  refine goMet pl_RX13 hk (lv := [some (.ref a0), some (.int v1), some (.int v2), some (.int v3)]) rfl (Nat.le_of_ble_eq_true rfl) ?_
  intro X hc hl hR hr hnm
  subst hl
  unfold fX13_placeIn at h
  refine go_aload0 hc dX13_placeIn_0 ?_
  refine go_getR hc lk_RX13_21 dX13_placeIn_1 (shM_0 m0) (rfM_19 m0) ?_
  refine go_iload2 hc dX13_placeIn_4 ?_
  replace h := goBind h; obtain ⟨x11, e12, h⟩ := h
  refine go_iald hc dX13_placeIn_5 (shM_4 m0) e12 ?_
  refine go_if_ne hc 14 dX13_placeIn_6 rfl (fun c13 => ?_) (fun c13 => ?_)
  · replace h := goIfF h c13
    refine go_aload0 hc dX13_placeIn_14 ?_
    refine go_iload2 hc dX13_placeIn_15 ?_
    refine go_aload0 hc dX13_placeIn_16 ?_
    refine go_iload1 hc dX13_placeIn_17 ?_
    refine go_iload2 hc dX13_placeIn_18 ?_
    replace h := goBind h; obtain ⟨x14, e15, h⟩ := h
    refine go_callVi hc dX13_placeIn_19 (mX13_storyOf hk hW m0 e15) ml_RX13_98 yk_X13_storyOf ⟨wim_X13_storyOf, wse_X13_storyOf⟩ hR rfl (shM_0 m0) rfl rfl rfl (Nat.le_of_ble_eq_true rfl) rfl ?_
    refine go_iload3 hc dX13_placeIn_22 ?_
    replace h := goBind h; obtain ⟨x16, e17, h⟩ := h
    refine go_callVi hc dX13_placeIn_23 (mX13_place hk hW m0 e17) ml_RX13_102 yk_X13_place ⟨wim_X13_place, wse_X13_place⟩ hR rfl (shM_0 m0) rfl rfl rfl (Nat.le_of_ble_eq_true rfl) rfl ?_
    cases h
    exact go_iret hc dX13_placeIn_26 hr
  · replace h := goIfT h c13
    refine go_bipush (v := (-2)) hc dX13_placeIn_9 rfl ?_
    refine go_goto hc 26 dX13_placeIn_11 rfl ?_
    cases h
    exact go_iret hc dX13_placeIn_26 hr
theorem dX14_thrown_0 : decode cX14_thrown 0 = .ok (.aload_n 0, 1) := by decide +kernel
theorem dX14_thrown_1 : decode cX14_thrown 1 = .ok (.getfield 66, 3) := by decide +kernel
theorem dX14_thrown_4 : decode cX14_thrown 4 = .ok (.ireturn, 1) := by decide +kernel
set_option maxRecDepth 100000 in
set_option maxHeartbeats 4000000 in
theorem mX14_thrown {E : goEv} {l : Launch} {G : goG} {M : goMI} {L : goML} {R : goMR} {r0 : Int32} (hk : goKn E) (hW : goW G R) (h : fX14_thrown M = r0) : Met l yX14_thrown (goCd yX14_thrown cX14_thrown 1 (Option.some FieldType.int)) (goRoom 0 0 0 0) (goPre E [.ref 102] G M L R) (goQi E r0 G M L R) 0 0 (goSet E) := by
  refine goMet pl_RX14 hk (lv := [some (.ref 102)]) rfl (Nat.le_of_ble_eq_true rfl) ?_
  intro X hc hl hR hr hnm
  subst hl
  unfold fX14_thrown at h
  refine go_aload0 hc dX14_thrown_0 ?_
  refine go_getI hc lk_RX14_66 dX14_thrown_1 (sh_102 hW) ?_
  subst h
  exact go_iret hc dX14_thrown_4 hr
theorem dX14_refused_0 : decode cX14_refused 0 = .ok (.aload_n 0, 1) := by decide +kernel
theorem dX14_refused_1 : decode cX14_refused 1 = .ok (.iload_n 1, 1) := by decide +kernel
theorem dX14_refused_2 : decode cX14_refused 2 = .ok (.putfield 69, 3) := by decide +kernel
theorem dX14_refused_5 : decode cX14_refused 5 = .ok (.aload_n 0, 1) := by decide +kernel
theorem dX14_refused_6 : decode cX14_refused 6 = .ok (.iconst (-1), 1) := by decide +kernel
theorem dX14_refused_7 : decode cX14_refused 7 = .ok (.putfield 9, 3) := by decide +kernel
theorem dX14_refused_10 : decode cX14_refused 10 = .ok (.iconst (-1), 1) := by decide +kernel
theorem dX14_refused_11 : decode cX14_refused 11 = .ok (.ireturn, 1) := by decide +kernel
set_option maxRecDepth 100000 in
set_option maxHeartbeats 4000000 in
theorem mX14_refused {E : goEv} {l : Launch} {G : goG} {M : goMI} {L : goML} {R : goMR} {v1 : Int32} {r0 : Int32} {r1 : goMI} (hk : goKn E) (hW : goW G R) (h : fX14_refused M v1 = some (r0, r1)) : Met l yX14_refused (goCd yX14_refused cX14_refused 2 (Option.some FieldType.int)) (goRoom 0 0 0 0) (goPre E [.ref 102, .int v1] G M L R) (goQi E r0 G r1 L R) 0 0 (goSet E) := by
  refine goMet pl_RX14 hk (lv := [some (.ref 102), some (.int v1)]) rfl (Nat.le_of_ble_eq_true rfl) ?_
  intro X hc hl hR hr hnm
  subst hl
  unfold fX14_refused at h
  refine go_aload0 hc dX14_refused_0 ?_
  refine go_iload1 hc dX14_refused_1 ?_
  replace h := goNm_x h; obtain ⟨M11, e12, h⟩ := h
  refine go_ptI hc lk_RX14_69 dX14_refused_2 (sh_102 hW) e12 ?_
  refine go_aload0 hc dX14_refused_5 ?_
  refine go_iconst (v := (-1)) hc dX14_refused_6 rfl ?_
  replace h := goNm_x h; obtain ⟨M13, e14, h⟩ := h
  refine go_ptI hc lk_RX14_9 dX14_refused_7 (sh_102 hW) e14 ?_
  refine go_iconst (v := (-1)) hc dX14_refused_10 rfl ?_
  cases h
  exact go_iret hc dX14_refused_11 hr
theorem dX14_denied_0 : decode cX14_denied 0 = .ok (.aload_n 0, 1) := by decide +kernel
theorem dX14_denied_1 : decode cX14_denied 1 = .ok (.iload_n 1, 1) := by decide +kernel
theorem dX14_denied_2 : decode cX14_denied 2 = .ok (.invokevirtual 72, 3) := by decide +kernel
theorem dX14_denied_5 : decode cX14_denied 5 = .ok (.pop, 1) := by decide +kernel
theorem dX14_denied_6 : decode cX14_denied 6 = .ok (.iconst 0, 1) := by decide +kernel
theorem dX14_denied_7 : decode cX14_denied 7 = .ok (.ireturn, 1) := by decide +kernel
set_option maxRecDepth 100000 in
set_option maxHeartbeats 4000000 in
theorem mX14_denied {E : goEv} {l : Launch} {G : goG} {M : goMI} {L : goML} {R : goMR} {v1 : Int32} {r0 : Int32} {r1 : goMI} (hk : goKn E) (hW : goW G R) (h : fX14_denied M v1 = some (r0, r1)) : Met l yX14_denied (goCd yX14_denied cX14_denied 2 (Option.some FieldType.boolean)) (goRoom 1 21 0 0) (goPre E [.ref 102, .int v1] G M L R) (goQi E r0 G r1 L R) 0 0 (goSet E) := by
  refine goMet pl_RX14 hk (lv := [some (.ref 102), some (.int v1)]) rfl (Nat.le_of_ble_eq_true rfl) ?_
  intro X hc hl hR hr hnm
  subst hl
  unfold fX14_denied at h
  refine go_aload0 hc dX14_denied_0 ?_
  refine go_iload1 hc dX14_denied_1 ?_
  replace h := goB2_h h; obtain ⟨x11, M12, e13, h⟩ := h
  refine go_callVi hc dX14_denied_2 (mX14_refused hk hW e13) ml_RX14_72 yk_X14_refused ⟨wim_X14_refused, wse_X14_refused⟩ hR rfl (sh_102 hW) rfl rfl rfl (Nat.le_of_ble_eq_true rfl) rfl ?_
  refine go_popi hc dX14_denied_5 ?_
  refine go_iconst (v := 0) hc dX14_denied_6 rfl ?_
  cases h
  exact go_zret hc dX14_denied_7 hr rfl
theorem dX14_good_0 : decode cX14_good 0 = .ok (.aload_n 0, 1) := by decide +kernel
theorem dX14_good_1 : decode cX14_good 1 = .ok (.iconst 0, 1) := by decide +kernel
theorem dX14_good_2 : decode cX14_good 2 = .ok (.putfield 69, 3) := by decide +kernel
theorem dX14_good_5 : decode cX14_good 5 = .ok (.aload_n 0, 1) := by decide +kernel
theorem dX14_good_6 : decode cX14_good 6 = .ok (.iconst (-1), 1) := by decide +kernel
theorem dX14_good_7 : decode cX14_good 7 = .ok (.putfield 9, 3) := by decide +kernel
theorem dX14_good_10 : decode cX14_good 10 = .ok (.iload_n 1, 1) := by decide +kernel
theorem dX14_good_11 : decode cX14_good 11 = .ok (.ireturn, 1) := by decide +kernel
set_option maxRecDepth 100000 in
set_option maxHeartbeats 4000000 in
theorem mX14_good {E : goEv} {l : Launch} {G : goG} {M : goMI} {L : goML} {R : goMR} {v1 : Int32} {r0 : Int32} {r1 : goMI} (hk : goKn E) (hW : goW G R) (h : fX14_good M v1 = some (r0, r1)) : Met l yX14_good (goCd yX14_good cX14_good 2 (Option.some FieldType.int)) (goRoom 0 0 0 0) (goPre E [.ref 102, .int v1] G M L R) (goQi E r0 G r1 L R) 0 0 (goSet E) := by
  refine goMet pl_RX14 hk (lv := [some (.ref 102), some (.int v1)]) rfl (Nat.le_of_ble_eq_true rfl) ?_
  intro X hc hl hR hr hnm
  subst hl
  unfold fX14_good at h
  refine go_aload0 hc dX14_good_0 ?_
  refine go_iconst (v := 0) hc dX14_good_1 rfl ?_
  replace h := goNm_x h; obtain ⟨M11, e12, h⟩ := h
  refine go_ptI hc lk_RX14_69 dX14_good_2 (sh_102 hW) e12 ?_
  refine go_aload0 hc dX14_good_5 ?_
  refine go_iconst (v := (-1)) hc dX14_good_6 rfl ?_
  replace h := goNm_x h; obtain ⟨M13, e14, h⟩ := h
  refine go_ptI hc lk_RX14_9 dX14_good_7 (sh_102 hW) e14 ?_
  refine go_iload1 hc dX14_good_10 ?_
  cases h
  exact go_iret hc dX14_good_11 hr
theorem dX14_granted_0 : decode cX14_granted 0 = .ok (.aload_n 0, 1) := by decide +kernel
theorem dX14_granted_1 : decode cX14_granted 1 = .ok (.iconst 0, 1) := by decide +kernel
theorem dX14_granted_2 : decode cX14_granted 2 = .ok (.invokevirtual 76, 3) := by decide +kernel
theorem dX14_granted_5 : decode cX14_granted 5 = .ok (.pop, 1) := by decide +kernel
theorem dX14_granted_6 : decode cX14_granted 6 = .ok (.iconst 1, 1) := by decide +kernel
theorem dX14_granted_7 : decode cX14_granted 7 = .ok (.ireturn, 1) := by decide +kernel
set_option maxRecDepth 100000 in
set_option maxHeartbeats 4000000 in
theorem mX14_granted {E : goEv} {l : Launch} {G : goG} {M : goMI} {L : goML} {R : goMR} {r0 : Int32} {r1 : goMI} (hk : goKn E) (hW : goW G R) (h : fX14_granted M = some (r0, r1)) : Met l yX14_granted (goCd yX14_granted cX14_granted 1 (Option.some FieldType.boolean)) (goRoom 1 21 0 0) (goPre E [.ref 102] G M L R) (goQi E r0 G r1 L R) 0 0 (goSet E) := by
  refine goMet pl_RX14 hk (lv := [some (.ref 102)]) rfl (Nat.le_of_ble_eq_true rfl) ?_
  intro X hc hl hR hr hnm
  subst hl
  unfold fX14_granted at h
  refine go_aload0 hc dX14_granted_0 ?_
  refine go_iconst (v := 0) hc dX14_granted_1 rfl ?_
  replace h := goB2_h h; obtain ⟨x11, M12, e13, h⟩ := h
  refine go_callVi hc dX14_granted_2 (mX14_good hk hW e13) ml_RX14_76 yk_X14_good ⟨wim_X14_good, wse_X14_good⟩ hR rfl (sh_102 hW) rfl rfl rfl (Nat.le_of_ble_eq_true rfl) rfl ?_
  refine go_popi hc dX14_granted_5 ?_
  refine go_iconst (v := 1) hc dX14_granted_6 rfl ?_
  cases h
  exact go_zret hc dX14_granted_7 hr rfl
theorem dX14_within_0 : decode cX14_within 0 = .ok (.iload_n 0, 1) := by decide +kernel
theorem dX14_within_1 : decode cX14_within 1 = .ok (.iload_n 1, 1) := by decide +kernel
theorem dX14_within_2 : decode cX14_within 2 = .ok (.if_icmp .lt 12, 3) := by decide +kernel
theorem dX14_within_5 : decode cX14_within 5 = .ok (.iload_n 0, 1) := by decide +kernel
theorem dX14_within_6 : decode cX14_within 6 = .ok (.iload_n 2, 1) := by decide +kernel
theorem dX14_within_7 : decode cX14_within 7 = .ok (.if_icmp .gt 7, 3) := by decide +kernel
theorem dX14_within_10 : decode cX14_within 10 = .ok (.iconst 1, 1) := by decide +kernel
theorem dX14_within_11 : decode cX14_within 11 = .ok (.goto 4, 3) := by decide +kernel
theorem dX14_within_14 : decode cX14_within 14 = .ok (.iconst 0, 1) := by decide +kernel
theorem dX14_within_15 : decode cX14_within 15 = .ok (.ireturn, 1) := by decide +kernel
theorem zX14_within {v0 : Int32} {v1 : Int32} {v2 : Int32} : fX14_within v0 v1 v2 = 0 ∨ fX14_within v0 v1 v2 = 1 := by
  unfold fX14_within
  first | exact rfl | ((repeat' split) <;> simp; done) | (simp only [goNm]; (repeat' split) <;> simp)
set_option maxRecDepth 100000 in
set_option maxHeartbeats 4000000 in
theorem mX14_within {E : goEv} {l : Launch} {G : goG} {M : goMI} {L : goML} {R : goMR} {v0 : Int32} {v1 : Int32} {v2 : Int32} {r0 : Int32} (hk : goKn E) (hW : goW G R) (h : fX14_within v0 v1 v2 = r0) : Met l yX14_within (goCd yX14_within cX14_within 3 (Option.some FieldType.boolean)) (goRoom 0 0 0 0) (goPre E [.int v0, .int v1, .int v2] G M L R) (goQi E r0 G M L R) 0 0 (goSet E) := by
  refine goMet pl_RX14 hk (lv := [some (.int v0), some (.int v1), some (.int v2)]) rfl (Nat.le_of_ble_eq_true rfl) ?_
  intro X hc hl hR hr hnm
  subst hl
  unfold fX14_within at h
  refine go_iload0 hc dX14_within_0 ?_
  refine go_iload1 hc dX14_within_1 ?_
  refine go_icmp_lt hc 14 dX14_within_2 rfl (fun c11 => ?_) (fun c11 => ?_)
  · replace h := goIfF h c11
    refine go_iconst (v := 0) hc dX14_within_14 rfl ?_
    subst h
    exact go_zret hc dX14_within_15 hr rfl
  · replace h := goIfT h c11
    refine go_iload0 hc dX14_within_5 ?_
    refine go_iload2 hc dX14_within_6 ?_
    refine go_icmp_gt hc 14 dX14_within_7 rfl (fun c12 => ?_) (fun c12 => ?_)
    · replace h := goIfF h c12
      refine go_iconst (v := 0) hc dX14_within_14 rfl ?_
      subst h
      exact go_zret hc dX14_within_15 hr rfl
    · replace h := goIfT h c12
      refine go_iconst (v := 1) hc dX14_within_10 rfl ?_
      refine go_goto hc 15 dX14_within_11 rfl ?_
      subst h
      exact go_zret hc dX14_within_15 hr rfl
theorem dX14_bit_0 : decode cX14_bit 0 = .ok (.iload_n 0, 1) := by decide +kernel
theorem dX14_bit_1 : decode cX14_bit 1 = .ok (.iload_n 1, 1) := by decide +kernel
theorem dX14_bit_2 : decode cX14_bit 2 = .ok (.ishr, 1) := by decide +kernel
theorem dX14_bit_3 : decode cX14_bit 3 = .ok (.iconst 1, 1) := by decide +kernel
theorem dX14_bit_4 : decode cX14_bit 4 = .ok (.iand, 1) := by decide +kernel
theorem dX14_bit_5 : decode cX14_bit 5 = .ok (.iconst 1, 1) := by decide +kernel
theorem dX14_bit_6 : decode cX14_bit 6 = .ok (.if_icmp .ne 7, 3) := by decide +kernel
theorem dX14_bit_9 : decode cX14_bit 9 = .ok (.iconst 1, 1) := by decide +kernel
theorem dX14_bit_10 : decode cX14_bit 10 = .ok (.goto 4, 3) := by decide +kernel
theorem dX14_bit_13 : decode cX14_bit 13 = .ok (.iconst 0, 1) := by decide +kernel
theorem dX14_bit_14 : decode cX14_bit 14 = .ok (.ireturn, 1) := by decide +kernel
theorem zX14_bit {v0 : Int32} {v1 : Int32} : fX14_bit v0 v1 = 0 ∨ fX14_bit v0 v1 = 1 := by
  unfold fX14_bit
  first | exact rfl | ((repeat' split) <;> simp; done) | (simp only [goNm]; (repeat' split) <;> simp)
set_option maxRecDepth 100000 in
set_option maxHeartbeats 4000000 in
theorem mX14_bit {E : goEv} {l : Launch} {G : goG} {M : goMI} {L : goML} {R : goMR} {v0 : Int32} {v1 : Int32} {r0 : Int32} (hk : goKn E) (hW : goW G R) (h : fX14_bit v0 v1 = r0) : Met l yX14_bit (goCd yX14_bit cX14_bit 2 (Option.some FieldType.boolean)) (goRoom 0 0 0 0) (goPre E [.int v0, .int v1] G M L R) (goQi E r0 G M L R) 0 0 (goSet E) := by
  refine goMet pl_RX14 hk (lv := [some (.int v0), some (.int v1)]) rfl (Nat.le_of_ble_eq_true rfl) ?_
  intro X hc hl hR hr hnm
  subst hl
  unfold fX14_bit at h
  refine go_iload0 hc dX14_bit_0 ?_
  refine go_iload1 hc dX14_bit_1 ?_
  refine go_ishr hc dX14_bit_2 ?_
  refine go_iconst (v := 1) hc dX14_bit_3 rfl ?_
  refine go_iand hc dX14_bit_4 ?_
  refine go_iconst (v := 1) hc dX14_bit_5 rfl ?_
  refine go_icmp_ne hc 13 dX14_bit_6 rfl (fun c11 => ?_) (fun c11 => ?_)
  · replace h := goIfF h c11
    refine go_iconst (v := 0) hc dX14_bit_13 rfl ?_
    subst h
    exact go_zret hc dX14_bit_14 hr rfl
  · replace h := goIfT h c11
    refine go_iconst (v := 1) hc dX14_bit_9 rfl ?_
    refine go_goto hc 14 dX14_bit_10 rfl ?_
    subst h
    exact go_zret hc dX14_bit_14 hr rfl
theorem dX14_bits_0 : decode cX14_bits 0 = .ok (.iconst 0, 1) := by decide +kernel
theorem dX14_bits_1 : decode cX14_bits 1 = .ok (.istore_n 1, 1) := by decide +kernel
theorem dX14_bits_2 : decode cX14_bits 2 = .ok (.iload_n 0, 1) := by decide +kernel
theorem dX14_bits_3 : decode cX14_bits 3 = .ok (.istore_n 2, 1) := by decide +kernel
theorem dX14_bits_4 : decode cX14_bits 4 = .ok (.iload_n 2, 1) := by decide +kernel
theorem dX14_bits_5 : decode cX14_bits 5 = .ok (.ifCond .eq 15, 3) := by decide +kernel
theorem dX14_bits_8 : decode cX14_bits 8 = .ok (.iinc 1 1, 3) := by decide +kernel
theorem dX14_bits_11 : decode cX14_bits 11 = .ok (.iload_n 2, 1) := by decide +kernel
theorem dX14_bits_12 : decode cX14_bits 12 = .ok (.iload_n 2, 1) := by decide +kernel
theorem dX14_bits_13 : decode cX14_bits 13 = .ok (.iconst 1, 1) := by decide +kernel
theorem dX14_bits_14 : decode cX14_bits 14 = .ok (.isub, 1) := by decide +kernel
theorem dX14_bits_15 : decode cX14_bits 15 = .ok (.iand, 1) := by decide +kernel
theorem dX14_bits_16 : decode cX14_bits 16 = .ok (.istore_n 2, 1) := by decide +kernel
theorem dX14_bits_17 : decode cX14_bits 17 = .ok (.goto (-13), 3) := by decide +kernel
theorem dX14_bits_20 : decode cX14_bits 20 = .ok (.iload_n 1, 1) := by decide +kernel
theorem dX14_bits_21 : decode cX14_bits 21 = .ok (.ireturn, 1) := by decide +kernel
set_option maxRecDepth 100000 in
set_option maxHeartbeats 4000000 in
theorem mX14_bits_L4 {E : goEv} {X : goX} {G : goG} {Q : State → Prop} {M : goMI} {L : goML} {R : goMR} (hc : goCx E X cX14_bits RX14 3) (hk : goKn E) (hR : X.2.2.2.1 = goRoom 0 0 0 0) (hr : X.2.2.2.2.2.2.2.2.1.sig.returnType = (Option.some FieldType.int)) (hW : goW G R) : ∀ (n : Nat) (v1 : Int32) (v2 : Int32) (r0 : Int32), lX14_bits_4 n v1 v2 = some r0 → (∀ (d0 d2 : Option Value), goA E X G 0 0 Q 20 [d0, some (.int r0), d2] [] M L R) → ∀ (d0 : Option Value), goA E X G 0 0 Q 4 [d0, some (.int v1), some (.int v2)] [] M L R := by
  intro n
  induction n with
  | zero => intro v1 v2 r0 h; exact nomatch h
  | succ n ih =>
    intro v1 v2 r0 h kx d0
    rw [lX14_bits_4] at h
    refine go_iload2 hc dX14_bits_4 ?_
    refine go_if_eq hc 20 dX14_bits_5 rfl (fun c11 => ?_) (fun c11 => ?_)
    · replace h := goIfT h c11
      cases h
      exact kx _ _
    · replace h := goIfF h c11
      refine go_iinc1 (v := (v1 + 1)) hc dX14_bits_8 rfl ?_
      refine go_iload2 hc dX14_bits_11 ?_
      refine go_iload2 hc dX14_bits_12 ?_
      refine go_iconst (v := 1) hc dX14_bits_13 rfl ?_
      refine go_isub hc dX14_bits_14 ?_
      refine go_iand hc dX14_bits_15 ?_
      replace h := goNm_x h; obtain ⟨x12, e13, h⟩ := h
      refine go_nmI e13 ?_
      refine go_istore2 hc dX14_bits_16 ?_
      refine go_goto hc 4 dX14_bits_17 rfl ?_
      exact ih _ _ _ h kx _
set_option maxRecDepth 100000 in
set_option maxHeartbeats 4000000 in
theorem mX14_bits {E : goEv} {l : Launch} {G : goG} {N : Nat} {M : goMI} {L : goML} {R : goMR} {v0 : Int32} {r0 : Int32} (hk : goKn E) (hW : goW G R) (h : fX14_bits N v0 = some r0) : Met l yX14_bits (goCd yX14_bits cX14_bits 3 (Option.some FieldType.int)) (goRoom 0 0 0 0) (goPre E [.int v0] G M L R) (goQi E r0 G M L R) 0 0 (goSet E) := by
  refine goMet pl_RX14 hk (lv := [some (.int v0), none, none]) rfl (Nat.le_of_ble_eq_true rfl) ?_
  intro X hc hl hR hr hnm
  subst hl
  unfold fX14_bits at h
  refine go_iconst (v := 0) hc dX14_bits_0 rfl ?_
  refine go_istore1 hc dX14_bits_1 ?_
  refine go_iload0 hc dX14_bits_2 ?_
  refine go_istore2 hc dX14_bits_3 ?_
  replace h := goBind h; obtain ⟨x15, e14, h⟩ := h
  refine mX14_bits_L4 hc hk hR hr hW _ _ _ _ e14 (fun d0 d2 => ?_) _
  refine go_iload1 hc dX14_bits_20 ?_
  cases h
  exact go_iret hc dX14_bits_21 hr
theorem dX14_byteAt_0 : decode cX14_byteAt 0 = .ok (.iload_n 1, 1) := by decide +kernel
theorem dX14_byteAt_1 : decode cX14_byteAt 1 = .ok (.aload_n 0, 1) := by decide +kernel
theorem dX14_byteAt_2 : decode cX14_byteAt 2 = .ok (.getfield 79, 3) := by decide +kernel
theorem dX14_byteAt_5 : decode cX14_byteAt 5 = .ok (.if_icmp .ge 16, 3) := by decide +kernel
theorem dX14_byteAt_8 : decode cX14_byteAt 8 = .ok (.aload_n 0, 1) := by decide +kernel
theorem dX14_byteAt_9 : decode cX14_byteAt 9 = .ok (.getfield 13, 3) := by decide +kernel
theorem dX14_byteAt_12 : decode cX14_byteAt 12 = .ok (.iload_n 1, 1) := by decide +kernel
theorem dX14_byteAt_13 : decode cX14_byteAt 13 = .ok (.baload, 1) := by decide +kernel
theorem dX14_byteAt_14 : decode cX14_byteAt 14 = .ok (.sipush 255, 3) := by decide +kernel
theorem dX14_byteAt_17 : decode cX14_byteAt 17 = .ok (.iand, 1) := by decide +kernel
theorem dX14_byteAt_18 : decode cX14_byteAt 18 = .ok (.goto 4, 3) := by decide +kernel
theorem dX14_byteAt_21 : decode cX14_byteAt 21 = .ok (.iconst (-1), 1) := by decide +kernel
theorem dX14_byteAt_22 : decode cX14_byteAt 22 = .ok (.ireturn, 1) := by decide +kernel
set_option maxRecDepth 100000 in
set_option maxHeartbeats 4000000 in
theorem mX14_byteAt {E : goEv} {l : Launch} {G : goG} {M : goMI} {L : goML} {R : goMR} {v1 : Int32} {r0 : Int32} (hk : goKn E) (hW : goW G R) (h : fX14_byteAt M v1 = some r0) : Met l yX14_byteAt (goCd yX14_byteAt cX14_byteAt 2 (Option.some FieldType.int)) (goRoom 0 0 0 0) (goPre E [.ref 102, .int v1] G M L R) (goQi E r0 G M L R) 0 0 (goSet E) := by
  refine goMet pl_RX14 hk (lv := [some (.ref 102), some (.int v1)]) rfl (Nat.le_of_ble_eq_true rfl) ?_
  intro X hc hl hR hr hnm
  subst hl
  unfold fX14_byteAt at h
  refine go_iload1 hc dX14_byteAt_0 ?_
  refine go_aload0 hc dX14_byteAt_1 ?_
  refine go_getI hc lk_RX14_79 dX14_byteAt_2 (sh_102 hW) ?_
  refine go_icmp_ge hc 21 dX14_byteAt_5 rfl (fun c11 => ?_) (fun c11 => ?_)
  · replace h := goIfF h c11
    refine go_iconst (v := (-1)) hc dX14_byteAt_21 rfl ?_
    cases h
    exact go_iret hc dX14_byteAt_22 hr
  · replace h := goIfT h c11
    refine go_aload0 hc dX14_byteAt_8 ?_
    refine go_getR hc lk_RX14_13 dX14_byteAt_9 (sh_102 hW) (rf_102_5 hW) ?_
    refine go_iload1 hc dX14_byteAt_12 ?_
    replace h := goBind h; obtain ⟨x12, e13, h⟩ := h
    refine go_bald hc dX14_byteAt_13 (sh_103 hW) e13 ?_
    refine go_sipush (v := 255) hc dX14_byteAt_14 rfl ?_
    refine go_iand hc dX14_byteAt_17 ?_
    refine go_goto hc 22 dX14_byteAt_18 rfl ?_
    cases h
    exact go_iret hc dX14_byteAt_22 hr
theorem dX14_isLetter_0 : decode cX14_isLetter 0 = .ok (.iload_n 0, 1) := by decide +kernel
theorem dX14_isLetter_1 : decode cX14_isLetter 1 = .ok (.bipush 97, 2) := by decide +kernel
theorem dX14_isLetter_3 : decode cX14_isLetter 3 = .ok (.if_icmp .lt 13, 3) := by decide +kernel
theorem dX14_isLetter_6 : decode cX14_isLetter 6 = .ok (.iload_n 0, 1) := by decide +kernel
theorem dX14_isLetter_7 : decode cX14_isLetter 7 = .ok (.bipush 122, 2) := by decide +kernel
theorem dX14_isLetter_9 : decode cX14_isLetter 9 = .ok (.if_icmp .gt 7, 3) := by decide +kernel
theorem dX14_isLetter_12 : decode cX14_isLetter 12 = .ok (.iconst 1, 1) := by decide +kernel
theorem dX14_isLetter_13 : decode cX14_isLetter 13 = .ok (.goto 4, 3) := by decide +kernel
theorem dX14_isLetter_16 : decode cX14_isLetter 16 = .ok (.iconst 0, 1) := by decide +kernel
theorem dX14_isLetter_17 : decode cX14_isLetter 17 = .ok (.ireturn, 1) := by decide +kernel
theorem zX14_isLetter {v0 : Int32} : fX14_isLetter v0 = 0 ∨ fX14_isLetter v0 = 1 := by
  unfold fX14_isLetter
  first | exact rfl | ((repeat' split) <;> simp; done) | (simp only [goNm]; (repeat' split) <;> simp)
set_option maxRecDepth 100000 in
set_option maxHeartbeats 4000000 in
theorem mX14_isLetter {E : goEv} {l : Launch} {G : goG} {M : goMI} {L : goML} {R : goMR} {v0 : Int32} {r0 : Int32} (hk : goKn E) (hW : goW G R) (h : fX14_isLetter v0 = r0) : Met l yX14_isLetter (goCd yX14_isLetter cX14_isLetter 1 (Option.some FieldType.boolean)) (goRoom 0 0 0 0) (goPre E [.int v0] G M L R) (goQi E r0 G M L R) 0 0 (goSet E) := by
  refine goMet pl_RX14 hk (lv := [some (.int v0)]) rfl (Nat.le_of_ble_eq_true rfl) ?_
  intro X hc hl hR hr hnm
  subst hl
  unfold fX14_isLetter at h
  refine go_iload0 hc dX14_isLetter_0 ?_
  refine go_bipush (v := 97) hc dX14_isLetter_1 rfl ?_
  refine go_icmp_lt hc 16 dX14_isLetter_3 rfl (fun c11 => ?_) (fun c11 => ?_)
  · replace h := goIfF h c11
    refine go_iconst (v := 0) hc dX14_isLetter_16 rfl ?_
    subst h
    exact go_zret hc dX14_isLetter_17 hr rfl
  · replace h := goIfT h c11
    refine go_iload0 hc dX14_isLetter_6 ?_
    refine go_bipush (v := 122) hc dX14_isLetter_7 rfl ?_
    refine go_icmp_gt hc 16 dX14_isLetter_9 rfl (fun c12 => ?_) (fun c12 => ?_)
    · replace h := goIfF h c12
      refine go_iconst (v := 0) hc dX14_isLetter_16 rfl ?_
      subst h
      exact go_zret hc dX14_isLetter_17 hr rfl
    · replace h := goIfT h c12
      refine go_iconst (v := 1) hc dX14_isLetter_12 rfl ?_
      refine go_goto hc 17 dX14_isLetter_13 rfl ?_
      subst h
      exact go_zret hc dX14_isLetter_17 hr rfl
theorem dX14_isDigit_0 : decode cX14_isDigit 0 = .ok (.iload_n 0, 1) := by decide +kernel
theorem dX14_isDigit_1 : decode cX14_isDigit 1 = .ok (.bipush 48, 2) := by decide +kernel
theorem dX14_isDigit_3 : decode cX14_isDigit 3 = .ok (.if_icmp .lt 13, 3) := by decide +kernel
theorem dX14_isDigit_6 : decode cX14_isDigit 6 = .ok (.iload_n 0, 1) := by decide +kernel
theorem dX14_isDigit_7 : decode cX14_isDigit 7 = .ok (.bipush 57, 2) := by decide +kernel
theorem dX14_isDigit_9 : decode cX14_isDigit 9 = .ok (.if_icmp .gt 7, 3) := by decide +kernel
theorem dX14_isDigit_12 : decode cX14_isDigit 12 = .ok (.iconst 1, 1) := by decide +kernel
theorem dX14_isDigit_13 : decode cX14_isDigit 13 = .ok (.goto 4, 3) := by decide +kernel
theorem dX14_isDigit_16 : decode cX14_isDigit 16 = .ok (.iconst 0, 1) := by decide +kernel
theorem dX14_isDigit_17 : decode cX14_isDigit 17 = .ok (.ireturn, 1) := by decide +kernel
theorem zX14_isDigit {v0 : Int32} : fX14_isDigit v0 = 0 ∨ fX14_isDigit v0 = 1 := by
  unfold fX14_isDigit
  first | exact rfl | ((repeat' split) <;> simp; done) | (simp only [goNm]; (repeat' split) <;> simp)
set_option maxRecDepth 100000 in
set_option maxHeartbeats 4000000 in
theorem mX14_isDigit {E : goEv} {l : Launch} {G : goG} {M : goMI} {L : goML} {R : goMR} {v0 : Int32} {r0 : Int32} (hk : goKn E) (hW : goW G R) (h : fX14_isDigit v0 = r0) : Met l yX14_isDigit (goCd yX14_isDigit cX14_isDigit 1 (Option.some FieldType.boolean)) (goRoom 0 0 0 0) (goPre E [.int v0] G M L R) (goQi E r0 G M L R) 0 0 (goSet E) := by
  refine goMet pl_RX14 hk (lv := [some (.int v0)]) rfl (Nat.le_of_ble_eq_true rfl) ?_
  intro X hc hl hR hr hnm
  subst hl
  unfold fX14_isDigit at h
  refine go_iload0 hc dX14_isDigit_0 ?_
  refine go_bipush (v := 48) hc dX14_isDigit_1 rfl ?_
  refine go_icmp_lt hc 16 dX14_isDigit_3 rfl (fun c11 => ?_) (fun c11 => ?_)
  · replace h := goIfF h c11
    refine go_iconst (v := 0) hc dX14_isDigit_16 rfl ?_
    subst h
    exact go_zret hc dX14_isDigit_17 hr rfl
  · replace h := goIfT h c11
    refine go_iload0 hc dX14_isDigit_6 ?_
    refine go_bipush (v := 57) hc dX14_isDigit_7 rfl ?_
    refine go_icmp_gt hc 16 dX14_isDigit_9 rfl (fun c12 => ?_) (fun c12 => ?_)
    · replace h := goIfF h c12
      refine go_iconst (v := 0) hc dX14_isDigit_16 rfl ?_
      subst h
      exact go_zret hc dX14_isDigit_17 hr rfl
    · replace h := goIfT h c12
      refine go_iconst (v := 1) hc dX14_isDigit_12 rfl ?_
      refine go_goto hc 17 dX14_isDigit_13 rfl ?_
      subst h
      exact go_zret hc dX14_isDigit_17 hr rfl
theorem dX14_wordOf_0 : decode cX14_wordOf 0 = .ok (.lconst 0, 1) := by decide +kernel
theorem dX14_wordOf_1 : decode cX14_wordOf 1 = .ok (.lstore_n 1, 1) := by decide +kernel
theorem dX14_wordOf_2 : decode cX14_wordOf 2 = .ok (.iconst 0, 1) := by decide +kernel
theorem dX14_wordOf_3 : decode cX14_wordOf 3 = .ok (.istore_n 3, 1) := by decide +kernel
theorem dX14_wordOf_4 : decode cX14_wordOf 4 = .ok (.iload_n 3, 1) := by decide +kernel
theorem dX14_wordOf_5 : decode cX14_wordOf 5 = .ok (.aload_n 0, 1) := by decide +kernel
theorem dX14_wordOf_6 : decode cX14_wordOf 6 = .ok (.invokevirtual 82, 3) := by decide +kernel
theorem dX14_wordOf_9 : decode cX14_wordOf 9 = .ok (.if_icmp .ge 27, 3) := by decide +kernel
theorem dX14_wordOf_12 : decode cX14_wordOf 12 = .ok (.ldc2_w 88, 3) := by decide +kernel
theorem dX14_wordOf_15 : decode cX14_wordOf 15 = .ok (.lload_n 1, 1) := by decide +kernel
theorem dX14_wordOf_16 : decode cX14_wordOf 16 = .ok (.lmul, 1) := by decide +kernel
theorem dX14_wordOf_17 : decode cX14_wordOf 17 = .ok (.aload_n 0, 1) := by decide +kernel
theorem dX14_wordOf_18 : decode cX14_wordOf 18 = .ok (.iload_n 3, 1) := by decide +kernel
theorem dX14_wordOf_19 : decode cX14_wordOf 19 = .ok (.invokevirtual 90, 3) := by decide +kernel
theorem dX14_wordOf_22 : decode cX14_wordOf 22 = .ok (.bipush 97, 2) := by decide +kernel
theorem dX14_wordOf_24 : decode cX14_wordOf 24 = .ok (.isub, 1) := by decide +kernel
theorem dX14_wordOf_25 : decode cX14_wordOf 25 = .ok (.iconst 1, 1) := by decide +kernel
theorem dX14_wordOf_26 : decode cX14_wordOf 26 = .ok (.iadd, 1) := by decide +kernel
theorem dX14_wordOf_27 : decode cX14_wordOf 27 = .ok (.i2l, 1) := by decide +kernel
theorem dX14_wordOf_28 : decode cX14_wordOf 28 = .ok (.ladd, 1) := by decide +kernel
theorem dX14_wordOf_29 : decode cX14_wordOf 29 = .ok (.lstore_n 1, 1) := by decide +kernel
theorem dX14_wordOf_30 : decode cX14_wordOf 30 = .ok (.iinc 3 1, 3) := by decide +kernel
theorem dX14_wordOf_33 : decode cX14_wordOf 33 = .ok (.goto (-29), 3) := by decide +kernel
theorem dX14_wordOf_36 : decode cX14_wordOf 36 = .ok (.lload_n 1, 1) := by decide +kernel
theorem dX14_wordOf_37 : decode cX14_wordOf 37 = .ok (.lreturn, 1) := by decide +kernel
set_option maxRecDepth 100000 in
set_option maxHeartbeats 4000000 in
theorem mX14_wordOf_L4 {E : goEv} {X : goX} {G : goG} {Q : State → Prop} {M : goMI} {L : goML} {R : goMR} {a0 : Nat} (hc : goCx E X cX14_wordOf RX14 4) (hk : goKn E) (hR : X.2.2.2.1 = goRoom 5 106 0 0) (hr : X.2.2.2.2.2.2.2.2.1.sig.returnType = (Option.some FieldType.long)) (hW : goW G R) : ∀ (n : Nat) (w1 : Int64) (v3 : Int32) (r0 : Int64), lX14_wordOf_4 a0 n w1 v3 = some r0 → (∀ (d0 d3 : Option Value), goA E X G 0 0 Q 36 [d0, some (.long r0), none, d3] [] M L R) → goA E X G 0 0 Q 4 [some (.ref a0), some (.long w1), none, some (.int v3)] [] M L R := by
  intro n
  induction n with
  | zero => intro w1 v3 r0 h; exact nomatch h
  | succ n ih =>
    intro w1 v3 r0 h kx
    rw [lX14_wordOf_4] at h
    refine go_iload3 hc dX14_wordOf_4 ?_
    refine go_aload0 hc dX14_wordOf_5 ?_
    replace h := goBind h; obtain ⟨x11, e12, h⟩ := h
    refine go_slen hk hc dX14_wordOf_6 wml_RX14_82 hR rfl rfl (Nat.le_of_ble_eq_true rfl) e12 ?_
    refine go_icmp_ge hc 36 dX14_wordOf_9 rfl (fun c13 => ?_) (fun c13 => ?_)
    · replace h := goIfF h c13
      cases h
      exact kx _ _
    · replace h := goIfT h c13
      refine go_ldc2 hc dX14_wordOf_12 wcJ_RX14_88 ?_
      refine go_lload1 hc dX14_wordOf_15 ?_
      refine go_lmul hc dX14_wordOf_16 ?_
      refine go_aload0 hc dX14_wordOf_17 ?_
      refine go_iload3 hc dX14_wordOf_18 ?_
      replace h := goBind h; obtain ⟨x14, e15, h⟩ := h
      refine go_schr hk hc dX14_wordOf_19 wml_RX14_90 hR rfl rfl (Nat.le_of_ble_eq_true rfl) e15 ?_
      refine go_bipush (v := 97) hc dX14_wordOf_22 rfl ?_
      refine go_isub hc dX14_wordOf_24 ?_
      refine go_iconst (v := 1) hc dX14_wordOf_25 rfl ?_
      refine go_iadd hc dX14_wordOf_26 ?_
      refine go_i2l hc dX14_wordOf_27 ?_
      refine go_ladd hc dX14_wordOf_28 ?_
      replace h := goNm_x h; obtain ⟨x16, e17, h⟩ := h
      refine go_nmJ e17 ?_
      refine go_lstore1 hc dX14_wordOf_29 ?_
      refine go_iinc3 (v := (v3 + 1)) hc dX14_wordOf_30 rfl ?_
      refine go_goto hc 4 dX14_wordOf_33 rfl ?_
      exact ih _ _ _ h kx
set_option maxRecDepth 100000 in
set_option maxHeartbeats 4000000 in
theorem mX14_wordOf {E : goEv} {l : Launch} {G : goG} {N : Nat} {M : goMI} {L : goML} {R : goMR} {a0 : Nat} {r0 : Int64} (hk : goKn E) (hW : goW G R) (h : fX14_wordOf N a0 = some r0) : Met l yX14_wordOf (goCd yX14_wordOf cX14_wordOf 4 (Option.some FieldType.long)) (goRoom 5 106 0 0) (goPre E [.ref a0] G M L R) (goQl E r0 G M L R) 0 0 (goSet E) := by
  refine goMet pl_RX14 hk (lv := [some (.ref a0), none, none, none]) rfl (Nat.le_of_ble_eq_true rfl) ?_
  intro X hc hl hR hr hnm
  subst hl
  unfold fX14_wordOf at h
  refine go_lconst (v := 0) hc dX14_wordOf_0 rfl ?_
  refine go_lstore1 hc dX14_wordOf_1 ?_
  refine go_iconst (v := 0) hc dX14_wordOf_2 rfl ?_
  refine go_istore3 hc dX14_wordOf_3 ?_
  replace h := goBind h; obtain ⟨x19, e18, h⟩ := h
  refine mX14_wordOf_L4 hc hk hR hr hW _ _ _ _ e18 (fun d0 d3 => ?_)
  refine go_lload1 hc dX14_wordOf_36 ?_
  cases h
  exact go_lret hc dX14_wordOf_37 hr
theorem dX14_goesOn_0 : decode cX14_goesOn 0 = .ok (.aload_n 0, 1) := by decide +kernel
theorem dX14_goesOn_1 : decode cX14_goesOn 1 = .ok (.getfield 94, 3) := by decide +kernel
theorem dX14_goesOn_4 : decode cX14_goesOn 4 = .ok (.iconst 5, 1) := by decide +kernel
theorem dX14_goesOn_5 : decode cX14_goesOn 5 = .ok (.if_icmp .ne 4, 3) := by decide +kernel
theorem dX14_goesOn_8 : decode cX14_goesOn 8 = .ok (.return_, 1) := by decide +kernel
theorem dX14_goesOn_9 : decode cX14_goesOn 9 = .ok (.aload_n 0, 1) := by decide +kernel
theorem dX14_goesOn_10 : decode cX14_goesOn 10 = .ok (.aload_n 0, 1) := by decide +kernel
theorem dX14_goesOn_11 : decode cX14_goesOn 11 = .ok (.getfield 97, 3) := by decide +kernel
theorem dX14_goesOn_14 : decode cX14_goesOn 14 = .ok (.invokevirtual 100, 3) := by decide +kernel
theorem dX14_goesOn_17 : decode cX14_goesOn 17 = .ok (.bipush 32, 2) := by decide +kernel
theorem dX14_goesOn_19 : decode cX14_goesOn 19 = .ok (.if_icmp .ne 16, 3) := by decide +kernel
theorem dX14_goesOn_22 : decode cX14_goesOn 22 = .ok (.aload_n 0, 1) := by decide +kernel
theorem dX14_goesOn_23 : decode cX14_goesOn 23 = .ok (.dup, 1) := by decide +kernel
theorem dX14_goesOn_24 : decode cX14_goesOn 24 = .ok (.getfield 97, 3) := by decide +kernel
theorem dX14_goesOn_27 : decode cX14_goesOn 27 = .ok (.iconst 1, 1) := by decide +kernel
theorem dX14_goesOn_28 : decode cX14_goesOn 28 = .ok (.iadd, 1) := by decide +kernel
theorem dX14_goesOn_29 : decode cX14_goesOn 29 = .ok (.putfield 97, 3) := by decide +kernel
theorem dX14_goesOn_32 : decode cX14_goesOn 32 = .ok (.goto (-23), 3) := by decide +kernel
theorem dX14_goesOn_35 : decode cX14_goesOn 35 = .ok (.aload_n 0, 1) := by decide +kernel
theorem dX14_goesOn_36 : decode cX14_goesOn 36 = .ok (.aload_n 0, 1) := by decide +kernel
theorem dX14_goesOn_37 : decode cX14_goesOn 37 = .ok (.getfield 97, 3) := by decide +kernel
theorem dX14_goesOn_40 : decode cX14_goesOn 40 = .ok (.putfield 103, 3) := by decide +kernel
theorem dX14_goesOn_43 : decode cX14_goesOn 43 = .ok (.aload_n 0, 1) := by decide +kernel
theorem dX14_goesOn_44 : decode cX14_goesOn 44 = .ok (.iconst 0, 1) := by decide +kernel
theorem dX14_goesOn_45 : decode cX14_goesOn 45 = .ok (.putfield 94, 3) := by decide +kernel
theorem dX14_goesOn_48 : decode cX14_goesOn 48 = .ok (.aload_n 0, 1) := by decide +kernel
theorem dX14_goesOn_49 : decode cX14_goesOn 49 = .ok (.iconst 0, 1) := by decide +kernel
theorem dX14_goesOn_50 : decode cX14_goesOn 50 = .ok (.putfield 106, 3) := by decide +kernel
theorem dX14_goesOn_53 : decode cX14_goesOn 53 = .ok (.aload_n 0, 1) := by decide +kernel
theorem dX14_goesOn_54 : decode cX14_goesOn 54 = .ok (.aload_n 0, 1) := by decide +kernel
theorem dX14_goesOn_55 : decode cX14_goesOn 55 = .ok (.getfield 97, 3) := by decide +kernel
theorem dX14_goesOn_58 : decode cX14_goesOn 58 = .ok (.invokevirtual 100, 3) := by decide +kernel
theorem dX14_goesOn_61 : decode cX14_goesOn 61 = .ok (.istore_n 1, 1) := by decide +kernel
theorem dX14_goesOn_62 : decode cX14_goesOn 62 = .ok (.iconst 0, 1) := by decide +kernel
theorem dX14_goesOn_63 : decode cX14_goesOn 63 = .ok (.istore_n 2, 1) := by decide +kernel
theorem dX14_goesOn_64 : decode cX14_goesOn 64 = .ok (.iload_n 1, 1) := by decide +kernel
theorem dX14_goesOn_65 : decode cX14_goesOn 65 = .ok (.iconst (-1), 1) := by decide +kernel
theorem dX14_goesOn_66 : decode cX14_goesOn 66 = .ok (.if_icmp .ne 11, 3) := by decide +kernel
theorem dX14_goesOn_69 : decode cX14_goesOn 69 = .ok (.aload_n 0, 1) := by decide +kernel
theorem dX14_goesOn_70 : decode cX14_goesOn 70 = .ok (.iconst 1, 1) := by decide +kernel
theorem dX14_goesOn_71 : decode cX14_goesOn 71 = .ok (.putfield 94, 3) := by decide +kernel
theorem dX14_goesOn_74 : decode cX14_goesOn 74 = .ok (.goto 224, 3) := by decide +kernel
theorem dX14_goesOn_77 : decode cX14_goesOn 77 = .ok (.iload_n 1, 1) := by decide +kernel
theorem dX14_goesOn_78 : decode cX14_goesOn 78 = .ok (.invokestatic 109, 3) := by decide +kernel
theorem dX14_goesOn_81 : decode cX14_goesOn 81 = .ok (.ifCond .eq 102, 3) := by decide +kernel
theorem dX14_goesOn_84 : decode cX14_goesOn 84 = .ok (.aload_n 0, 1) := by decide +kernel
theorem dX14_goesOn_85 : decode cX14_goesOn 85 = .ok (.lconst 0, 1) := by decide +kernel
theorem dX14_goesOn_86 : decode cX14_goesOn 86 = .ok (.putfield 113, 3) := by decide +kernel
theorem dX14_goesOn_89 : decode cX14_goesOn 89 = .ok (.aload_n 0, 1) := by decide +kernel
theorem dX14_goesOn_90 : decode cX14_goesOn 90 = .ok (.aload_n 0, 1) := by decide +kernel
theorem dX14_goesOn_91 : decode cX14_goesOn 91 = .ok (.getfield 97, 3) := by decide +kernel
theorem dX14_goesOn_94 : decode cX14_goesOn 94 = .ok (.invokevirtual 100, 3) := by decide +kernel
theorem dX14_goesOn_97 : decode cX14_goesOn 97 = .ok (.invokestatic 109, 3) := by decide +kernel
theorem dX14_goesOn_100 : decode cX14_goesOn 100 = .ok (.ifCond .eq 64, 3) := by decide +kernel
theorem dX14_goesOn_103 : decode cX14_goesOn 103 = .ok (.iload_n 2, 1) := by decide +kernel
theorem dX14_goesOn_104 : decode cX14_goesOn 104 = .ok (.bipush 8, 2) := by decide +kernel
theorem dX14_goesOn_106 : decode cX14_goesOn 106 = .ok (.if_icmp .ge 42, 3) := by decide +kernel
theorem dX14_goesOn_109 : decode cX14_goesOn 109 = .ok (.aload_n 0, 1) := by decide +kernel
theorem dX14_goesOn_110 : decode cX14_goesOn 110 = .ok (.getfield 17, 3) := by decide +kernel
theorem dX14_goesOn_113 : decode cX14_goesOn 113 = .ok (.iload_n 2, 1) := by decide +kernel
theorem dX14_goesOn_114 : decode cX14_goesOn 114 = .ok (.aload_n 0, 1) := by decide +kernel
theorem dX14_goesOn_115 : decode cX14_goesOn 115 = .ok (.aload_n 0, 1) := by decide +kernel
theorem dX14_goesOn_116 : decode cX14_goesOn 116 = .ok (.getfield 97, 3) := by decide +kernel
theorem dX14_goesOn_119 : decode cX14_goesOn 119 = .ok (.invokevirtual 100, 3) := by decide +kernel
theorem dX14_goesOn_122 : decode cX14_goesOn 122 = .ok (.iastore, 1) := by decide +kernel
theorem dX14_goesOn_123 : decode cX14_goesOn 123 = .ok (.aload_n 0, 1) := by decide +kernel
theorem dX14_goesOn_124 : decode cX14_goesOn 124 = .ok (.ldc2_w 88, 3) := by decide +kernel
theorem dX14_goesOn_127 : decode cX14_goesOn 127 = .ok (.aload_n 0, 1) := by decide +kernel
theorem dX14_goesOn_128 : decode cX14_goesOn 128 = .ok (.getfield 113, 3) := by decide +kernel
theorem dX14_goesOn_131 : decode cX14_goesOn 131 = .ok (.lmul, 1) := by decide +kernel
theorem dX14_goesOn_132 : decode cX14_goesOn 132 = .ok (.aload_n 0, 1) := by decide +kernel
theorem dX14_goesOn_133 : decode cX14_goesOn 133 = .ok (.getfield 17, 3) := by decide +kernel
theorem dX14_goesOn_136 : decode cX14_goesOn 136 = .ok (.iload_n 2, 1) := by decide +kernel
theorem dX14_goesOn_137 : decode cX14_goesOn 137 = .ok (.iaload, 1) := by decide +kernel
theorem dX14_goesOn_138 : decode cX14_goesOn 138 = .ok (.bipush 97, 2) := by decide +kernel
theorem dX14_goesOn_140 : decode cX14_goesOn 140 = .ok (.isub, 1) := by decide +kernel
theorem dX14_goesOn_141 : decode cX14_goesOn 141 = .ok (.iconst 1, 1) := by decide +kernel
theorem dX14_goesOn_142 : decode cX14_goesOn 142 = .ok (.iadd, 1) := by decide +kernel
theorem dX14_goesOn_143 : decode cX14_goesOn 143 = .ok (.i2l, 1) := by decide +kernel
theorem dX14_goesOn_144 : decode cX14_goesOn 144 = .ok (.ladd, 1) := by decide +kernel
theorem dX14_goesOn_145 : decode cX14_goesOn 145 = .ok (.putfield 113, 3) := by decide +kernel
theorem dX14_goesOn_148 : decode cX14_goesOn 148 = .ok (.iinc 2 1, 3) := by decide +kernel
theorem dX14_goesOn_151 : decode cX14_goesOn 151 = .ok (.aload_n 0, 1) := by decide +kernel
theorem dX14_goesOn_152 : decode cX14_goesOn 152 = .ok (.dup, 1) := by decide +kernel
theorem dX14_goesOn_153 : decode cX14_goesOn 153 = .ok (.getfield 97, 3) := by decide +kernel
theorem dX14_goesOn_156 : decode cX14_goesOn 156 = .ok (.iconst 1, 1) := by decide +kernel
theorem dX14_goesOn_157 : decode cX14_goesOn 157 = .ok (.iadd, 1) := by decide +kernel
theorem dX14_goesOn_158 : decode cX14_goesOn 158 = .ok (.putfield 97, 3) := by decide +kernel
theorem dX14_goesOn_161 : decode cX14_goesOn 161 = .ok (.goto (-72), 3) := by decide +kernel
theorem dX14_goesOn_164 : decode cX14_goesOn 164 = .ok (.aload_n 0, 1) := by decide +kernel
theorem dX14_goesOn_165 : decode cX14_goesOn 165 = .ok (.iload_n 2, 1) := by decide +kernel
theorem dX14_goesOn_166 : decode cX14_goesOn 166 = .ok (.putfield 117, 3) := by decide +kernel
theorem dX14_goesOn_169 : decode cX14_goesOn 169 = .ok (.iload_n 2, 1) := by decide +kernel
theorem dX14_goesOn_170 : decode cX14_goesOn 170 = .ok (.bipush 8, 2) := by decide +kernel
theorem dX14_goesOn_172 : decode cX14_goesOn 172 = .ok (.if_icmp .gt 126, 3) := by decide +kernel
theorem dX14_goesOn_175 : decode cX14_goesOn 175 = .ok (.aload_n 0, 1) := by decide +kernel
theorem dX14_goesOn_176 : decode cX14_goesOn 176 = .ok (.iconst 2, 1) := by decide +kernel
theorem dX14_goesOn_177 : decode cX14_goesOn 177 = .ok (.putfield 94, 3) := by decide +kernel
theorem dX14_goesOn_180 : decode cX14_goesOn 180 = .ok (.goto 118, 3) := by decide +kernel
theorem dX14_goesOn_183 : decode cX14_goesOn 183 = .ok (.iload_n 1, 1) := by decide +kernel
theorem dX14_goesOn_184 : decode cX14_goesOn 184 = .ok (.invokestatic 120, 3) := by decide +kernel
theorem dX14_goesOn_187 : decode cX14_goesOn 187 = .ok (.ifCond .eq 79, 3) := by decide +kernel
theorem dX14_goesOn_190 : decode cX14_goesOn 190 = .ok (.aload_n 0, 1) := by decide +kernel
theorem dX14_goesOn_191 : decode cX14_goesOn 191 = .ok (.iconst 0, 1) := by decide +kernel
theorem dX14_goesOn_192 : decode cX14_goesOn 192 = .ok (.putfield 123, 3) := by decide +kernel
theorem dX14_goesOn_195 : decode cX14_goesOn 195 = .ok (.aload_n 0, 1) := by decide +kernel
theorem dX14_goesOn_196 : decode cX14_goesOn 196 = .ok (.aload_n 0, 1) := by decide +kernel
theorem dX14_goesOn_197 : decode cX14_goesOn 197 = .ok (.getfield 97, 3) := by decide +kernel
theorem dX14_goesOn_200 : decode cX14_goesOn 200 = .ok (.invokevirtual 100, 3) := by decide +kernel
theorem dX14_goesOn_203 : decode cX14_goesOn 203 = .ok (.invokestatic 120, 3) := by decide +kernel
theorem dX14_goesOn_206 : decode cX14_goesOn 206 = .ok (.ifCond .eq 47, 3) := by decide +kernel
theorem dX14_goesOn_209 : decode cX14_goesOn 209 = .ok (.iload_n 2, 1) := by decide +kernel
theorem dX14_goesOn_210 : decode cX14_goesOn 210 = .ok (.iconst 3, 1) := by decide +kernel
theorem dX14_goesOn_211 : decode cX14_goesOn 211 = .ok (.if_icmp .ge 26, 3) := by decide +kernel
theorem dX14_goesOn_214 : decode cX14_goesOn 214 = .ok (.aload_n 0, 1) := by decide +kernel
theorem dX14_goesOn_215 : decode cX14_goesOn 215 = .ok (.bipush 10, 2) := by decide +kernel
theorem dX14_goesOn_217 : decode cX14_goesOn 217 = .ok (.aload_n 0, 1) := by decide +kernel
theorem dX14_goesOn_218 : decode cX14_goesOn 218 = .ok (.getfield 123, 3) := by decide +kernel
theorem dX14_goesOn_221 : decode cX14_goesOn 221 = .ok (.imul, 1) := by decide +kernel
theorem dX14_goesOn_222 : decode cX14_goesOn 222 = .ok (.aload_n 0, 1) := by decide +kernel
theorem dX14_goesOn_223 : decode cX14_goesOn 223 = .ok (.aload_n 0, 1) := by decide +kernel
theorem dX14_goesOn_224 : decode cX14_goesOn 224 = .ok (.getfield 97, 3) := by decide +kernel
theorem dX14_goesOn_227 : decode cX14_goesOn 227 = .ok (.invokevirtual 100, 3) := by decide +kernel
theorem dX14_goesOn_230 : decode cX14_goesOn 230 = .ok (.iadd, 1) := by decide +kernel
theorem dX14_goesOn_231 : decode cX14_goesOn 231 = .ok (.bipush 48, 2) := by decide +kernel
theorem dX14_goesOn_233 : decode cX14_goesOn 233 = .ok (.isub, 1) := by decide +kernel
theorem dX14_goesOn_234 : decode cX14_goesOn 234 = .ok (.putfield 123, 3) := by decide +kernel
theorem dX14_goesOn_237 : decode cX14_goesOn 237 = .ok (.iinc 2 1, 3) := by decide +kernel
theorem dX14_goesOn_240 : decode cX14_goesOn 240 = .ok (.aload_n 0, 1) := by decide +kernel
theorem dX14_goesOn_241 : decode cX14_goesOn 241 = .ok (.dup, 1) := by decide +kernel
theorem dX14_goesOn_242 : decode cX14_goesOn 242 = .ok (.getfield 97, 3) := by decide +kernel
theorem dX14_goesOn_245 : decode cX14_goesOn 245 = .ok (.iconst 1, 1) := by decide +kernel
theorem dX14_goesOn_246 : decode cX14_goesOn 246 = .ok (.iadd, 1) := by decide +kernel
theorem dX14_goesOn_247 : decode cX14_goesOn 247 = .ok (.putfield 97, 3) := by decide +kernel
theorem dX14_goesOn_250 : decode cX14_goesOn 250 = .ok (.goto (-55), 3) := by decide +kernel
theorem dX14_goesOn_253 : decode cX14_goesOn 253 = .ok (.iload_n 2, 1) := by decide +kernel
theorem dX14_goesOn_254 : decode cX14_goesOn 254 = .ok (.iconst 3, 1) := by decide +kernel
theorem dX14_goesOn_255 : decode cX14_goesOn 255 = .ok (.if_icmp .gt 43, 3) := by decide +kernel
theorem dX14_goesOn_258 : decode cX14_goesOn 258 = .ok (.aload_n 0, 1) := by decide +kernel
theorem dX14_goesOn_259 : decode cX14_goesOn 259 = .ok (.iconst 3, 1) := by decide +kernel
theorem dX14_goesOn_260 : decode cX14_goesOn 260 = .ok (.putfield 94, 3) := by decide +kernel
theorem dX14_goesOn_263 : decode cX14_goesOn 263 = .ok (.goto 35, 3) := by decide +kernel
theorem dX14_goesOn_266 : decode cX14_goesOn 266 = .ok (.iload_n 1, 1) := by decide +kernel
theorem dX14_goesOn_267 : decode cX14_goesOn 267 = .ok (.bipush 59, 2) := by decide +kernel
theorem dX14_goesOn_269 : decode cX14_goesOn 269 = .ok (.if_icmp .eq 9, 3) := by decide +kernel
theorem dX14_goesOn_272 : decode cX14_goesOn 272 = .ok (.iload_n 1, 1) := by decide +kernel
theorem dX14_goesOn_273 : decode cX14_goesOn 273 = .ok (.bipush 44, 2) := by decide +kernel
theorem dX14_goesOn_275 : decode cX14_goesOn 275 = .ok (.if_icmp .ne 23, 3) := by decide +kernel
theorem dX14_goesOn_278 : decode cX14_goesOn 278 = .ok (.aload_n 0, 1) := by decide +kernel
theorem dX14_goesOn_279 : decode cX14_goesOn 279 = .ok (.iconst 4, 1) := by decide +kernel
theorem dX14_goesOn_280 : decode cX14_goesOn 280 = .ok (.putfield 94, 3) := by decide +kernel
theorem dX14_goesOn_283 : decode cX14_goesOn 283 = .ok (.aload_n 0, 1) := by decide +kernel
theorem dX14_goesOn_284 : decode cX14_goesOn 284 = .ok (.iload_n 1, 1) := by decide +kernel
theorem dX14_goesOn_285 : decode cX14_goesOn 285 = .ok (.putfield 106, 3) := by decide +kernel
theorem dX14_goesOn_288 : decode cX14_goesOn 288 = .ok (.aload_n 0, 1) := by decide +kernel
theorem dX14_goesOn_289 : decode cX14_goesOn 289 = .ok (.dup, 1) := by decide +kernel
theorem dX14_goesOn_290 : decode cX14_goesOn 290 = .ok (.getfield 97, 3) := by decide +kernel
theorem dX14_goesOn_293 : decode cX14_goesOn 293 = .ok (.iconst 1, 1) := by decide +kernel
theorem dX14_goesOn_294 : decode cX14_goesOn 294 = .ok (.iadd, 1) := by decide +kernel
theorem dX14_goesOn_295 : decode cX14_goesOn 295 = .ok (.putfield 97, 3) := by decide +kernel
theorem dX14_goesOn_298 : decode cX14_goesOn 298 = .ok (.return_, 1) := by decide +kernel
set_option maxRecDepth 100000 in
set_option maxHeartbeats 4000000 in
theorem mX14_goesOn_L9 {E : goEv} {X : goX} {G : goG} {Q : State → Prop} {L : goML} {R : goMR} (hc : goCx E X cX14_goesOn RX14 3) (hk : goKn E) (hR : X.2.2.2.1 = goRoom 1 21 0 0) (hr : X.2.2.2.2.2.2.2.2.1.sig.returnType = none) (hW : goW G R) : ∀ (n : Nat) (M : goMI) (r0 : goMI), lX14_goesOn_9 n M = some r0 → (∀ (d1 d2 : Option Value), goA E X G 0 0 Q 35 [some (.ref 102), d1, d2] [] r0 L R) → ∀ (d1 d2 : Option Value), goA E X G 0 0 Q 9 [some (.ref 102), d1, d2] [] M L R := by
  intro n
  induction n with
  | zero => intro M r0 h; exact nomatch h
  | succ n ih =>
    intro M r0 h kx d1 d2
    rw [lX14_goesOn_9] at h
    refine go_aload0 hc dX14_goesOn_9 ?_
    refine go_aload0 hc dX14_goesOn_10 ?_
    refine go_getI hc lk_RX14_97 dX14_goesOn_11 (sh_102 hW) ?_
    replace h := goBind h; obtain ⟨x12, e13, h⟩ := h
    refine go_callVi hc dX14_goesOn_14 (mX14_byteAt hk hW e13) ml_RX14_100 yk_X14_byteAt ⟨wim_X14_byteAt, wse_X14_byteAt⟩ hR rfl (sh_102 hW) rfl rfl rfl (Nat.le_of_ble_eq_true rfl) rfl ?_
    refine go_bipush (v := 32) hc dX14_goesOn_17 rfl ?_
    refine go_icmp_ne hc 35 dX14_goesOn_19 rfl (fun c14 => ?_) (fun c14 => ?_)
    · replace h := goIfF h c14
      cases h
      exact kx _ _
    · replace h := goIfT h c14
      refine go_aload0 hc dX14_goesOn_22 ?_
      refine go_dupr hc dX14_goesOn_23 ?_
      refine go_getI hc lk_RX14_97 dX14_goesOn_24 (sh_102 hW) ?_
      refine go_iconst (v := 1) hc dX14_goesOn_27 rfl ?_
      refine go_iadd hc dX14_goesOn_28 ?_
      replace h := goNm_x h; obtain ⟨M15, e16, h⟩ := h
      refine go_ptI hc lk_RX14_97 dX14_goesOn_29 (sh_102 hW) e16 ?_
      refine go_goto hc 9 dX14_goesOn_32 rfl ?_
      exact ih _ _ h kx _ _
set_option maxRecDepth 100000 in
set_option maxHeartbeats 4000000 in
theorem mX14_goesOn_L195 {E : goEv} {X : goX} {G : goG} {Q : State → Prop} {L : goML} {R : goMR} (hc : goCx E X cX14_goesOn RX14 3) (hk : goKn E) (hR : X.2.2.2.1 = goRoom 1 21 0 0) (hr : X.2.2.2.2.2.2.2.2.1.sig.returnType = none) (hW : goW G R) : ∀ (n : Nat) (v2 : Int32) (M : goMI) (r0 : Int32) (r1 : goMI), lX14_goesOn_195 n v2 M = some (r0, r1) → (∀ (d1 : Option Value), goA E X G 0 0 Q 253 [some (.ref 102), d1, some (.int r0)] [] r1 L R) → ∀ (d1 : Option Value), goA E X G 0 0 Q 195 [some (.ref 102), d1, some (.int v2)] [] M L R := by
  intro n
  induction n with
  | zero => intro v2 M r0 r1 h; exact nomatch h
  | succ n ih =>
    intro v2 M r0 r1 h kx d1
    rw [lX14_goesOn_195] at h
    refine go_aload0 hc dX14_goesOn_195 ?_
    refine go_aload0 hc dX14_goesOn_196 ?_
    refine go_getI hc lk_RX14_97 dX14_goesOn_197 (sh_102 hW) ?_
    replace h := goBind h; obtain ⟨x46, e47, h⟩ := h
    refine go_callVi hc dX14_goesOn_200 (mX14_byteAt hk hW e47) ml_RX14_100 yk_X14_byteAt ⟨wim_X14_byteAt, wse_X14_byteAt⟩ hR rfl (sh_102 hW) rfl rfl rfl (Nat.le_of_ble_eq_true rfl) rfl ?_
    refine go_callSi hc dX14_goesOn_203 (mX14_isDigit hk hW rfl) ml_RX14_120 yk_X14_isDigit wst_X14_isDigit hR rfl rfl rfl (Nat.le_of_ble_eq_true rfl) rfl ?_
    refine go_if_eq hc 253 dX14_goesOn_206 rfl (fun c48 => ?_) (fun c48 => ?_)
    · replace h := goIfT h c48
      cases h
      exact kx _
    · replace h := goIfF h c48
      refine go_iload2 hc dX14_goesOn_209 ?_
      refine go_iconst (v := 3) hc dX14_goesOn_210 rfl ?_
      replace h := goBind h; obtain ⟨M49, e50, h⟩ := h
      have k51 : ∀ (d1 : Option Value), goA E X G 0 0 Q 237 [some (.ref 102), d1, some (.int v2)] [] M49 L R := by
        intro d1
        refine go_iinc2 (v := (v2 + 1)) hc dX14_goesOn_237 rfl ?_
        refine go_aload0 hc dX14_goesOn_240 ?_
        refine go_dupr hc dX14_goesOn_241 ?_
        refine go_getI hc lk_RX14_97 dX14_goesOn_242 (sh_102 hW) ?_
        refine go_iconst (v := 1) hc dX14_goesOn_245 rfl ?_
        refine go_iadd hc dX14_goesOn_246 ?_
        replace h := goNm_x h; obtain ⟨M57, e58, h⟩ := h
        refine go_ptI hc lk_RX14_97 dX14_goesOn_247 (sh_102 hW) e58 ?_
        refine go_goto hc 195 dX14_goesOn_250 rfl ?_
        exact ih _ _ _ _ h kx _
      refine go_icmp_ge hc 237 dX14_goesOn_211 rfl (fun c52 => ?_) (fun c52 => ?_)
      · replace e50 := goIfF e50 c52
        cases e50
        exact k51 _
      · replace e50 := goIfT e50 c52
        refine go_aload0 hc dX14_goesOn_214 ?_
        refine go_bipush (v := 10) hc dX14_goesOn_215 rfl ?_
        refine go_aload0 hc dX14_goesOn_217 ?_
        refine go_getI hc lk_RX14_123 dX14_goesOn_218 (sh_102 hW) ?_
        refine go_imul hc dX14_goesOn_221 ?_
        refine go_aload0 hc dX14_goesOn_222 ?_
        refine go_aload0 hc dX14_goesOn_223 ?_
        refine go_getI hc lk_RX14_97 dX14_goesOn_224 (sh_102 hW) ?_
        replace e50 := goBind e50; obtain ⟨x53, e54, e50⟩ := e50
        refine go_callVi hc dX14_goesOn_227 (mX14_byteAt hk hW e54) ml_RX14_100 yk_X14_byteAt ⟨wim_X14_byteAt, wse_X14_byteAt⟩ hR rfl (sh_102 hW) rfl rfl rfl (Nat.le_of_ble_eq_true rfl) rfl ?_
        refine go_iadd hc dX14_goesOn_230 ?_
        refine go_bipush (v := 48) hc dX14_goesOn_231 rfl ?_
        refine go_isub hc dX14_goesOn_233 ?_
        replace e50 := goNm_x e50; obtain ⟨M55, e56, e50⟩ := e50
        refine go_ptI hc lk_RX14_123 dX14_goesOn_234 (sh_102 hW) e56 ?_
        cases e50
        exact k51 _
set_option maxRecDepth 100000 in
set_option maxHeartbeats 4000000 in
theorem mX14_goesOn_L89 {E : goEv} {X : goX} {G : goG} {Q : State → Prop} {R : goMR} (hc : goCx E X cX14_goesOn RX14 3) (hk : goKn E) (hR : X.2.2.2.1 = goRoom 1 21 0 0) (hr : X.2.2.2.2.2.2.2.2.1.sig.returnType = none) (hW : goW G R) : ∀ (n : Nat) (v2 : Int32) (M : goMI) (L : goML) (r0 : Int32) (r1 : goMI) (r2 : goML), lX14_goesOn_89 n v2 M L = some (r0, r1, r2) → (∀ (d1 : Option Value), goA E X G 0 0 Q 164 [some (.ref 102), d1, some (.int r0)] [] r1 r2 R) → ∀ (d1 : Option Value), goA E X G 0 0 Q 89 [some (.ref 102), d1, some (.int v2)] [] M L R := by
  intro n
  induction n with
  | zero => intro v2 M L r0 r1 r2 h; exact nomatch h
  | succ n ih =>
    intro v2 M L r0 r1 r2 h kx d1
    rw [lX14_goesOn_89] at h
    refine go_aload0 hc dX14_goesOn_89 ?_
    refine go_aload0 hc dX14_goesOn_90 ?_
    refine go_getI hc lk_RX14_97 dX14_goesOn_91 (sh_102 hW) ?_
    replace h := goBind h; obtain ⟨x67, e68, h⟩ := h
    refine go_callVi hc dX14_goesOn_94 (mX14_byteAt hk hW e68) ml_RX14_100 yk_X14_byteAt ⟨wim_X14_byteAt, wse_X14_byteAt⟩ hR rfl (sh_102 hW) rfl rfl rfl (Nat.le_of_ble_eq_true rfl) rfl ?_
    refine go_callSi hc dX14_goesOn_97 (mX14_isLetter hk hW rfl) ml_RX14_109 yk_X14_isLetter wst_X14_isLetter hR rfl rfl rfl (Nat.le_of_ble_eq_true rfl) rfl ?_
    refine go_if_eq hc 164 dX14_goesOn_100 rfl (fun c69 => ?_) (fun c69 => ?_)
    · replace h := goIfT h c69
      cases h
      exact kx _
    · replace h := goIfF h c69
      refine go_iload2 hc dX14_goesOn_103 ?_
      refine go_bipush (v := 8) hc dX14_goesOn_104 rfl ?_
      replace h := goB2_h h; obtain ⟨M70, L71, e72, h⟩ := h
      have k73 : ∀ (d1 : Option Value), goA E X G 0 0 Q 148 [some (.ref 102), d1, some (.int v2)] [] M70 L71 R := by
        intro d1
        refine go_iinc2 (v := (v2 + 1)) hc dX14_goesOn_148 rfl ?_
        refine go_aload0 hc dX14_goesOn_151 ?_
        refine go_dupr hc dX14_goesOn_152 ?_
        refine go_getI hc lk_RX14_97 dX14_goesOn_153 (sh_102 hW) ?_
        refine go_iconst (v := 1) hc dX14_goesOn_156 rfl ?_
        refine go_iadd hc dX14_goesOn_157 ?_
        replace h := goNm_x h; obtain ⟨M83, e84, h⟩ := h
        refine go_ptI hc lk_RX14_97 dX14_goesOn_158 (sh_102 hW) e84 ?_
        refine go_goto hc 89 dX14_goesOn_161 rfl ?_
        exact ih _ _ _ _ _ _ h kx _
      refine go_icmp_ge hc 148 dX14_goesOn_106 rfl (fun c74 => ?_) (fun c74 => ?_)
      · replace e72 := goIfF e72 c74
        cases e72
        exact k73 _
      · replace e72 := goIfT e72 c74
        refine go_aload0 hc dX14_goesOn_109 ?_
        refine go_getR hc lk_RX14_17 dX14_goesOn_110 (sh_102 hW) (rf_102_16 hW) ?_
        refine go_iload2 hc dX14_goesOn_113 ?_
        refine go_aload0 hc dX14_goesOn_114 ?_
        refine go_aload0 hc dX14_goesOn_115 ?_
        refine go_getI hc lk_RX14_97 dX14_goesOn_116 (sh_102 hW) ?_
        replace e72 := goBind e72; obtain ⟨x75, e76, e72⟩ := e72
        refine go_callVi hc dX14_goesOn_119 (mX14_byteAt hk hW e76) ml_RX14_100 yk_X14_byteAt ⟨wim_X14_byteAt, wse_X14_byteAt⟩ hR rfl (sh_102 hW) rfl rfl rfl (Nat.le_of_ble_eq_true rfl) rfl ?_
        replace e72 := goBind e72; obtain ⟨M77, e78, e72⟩ := e72
        refine go_iast hc dX14_goesOn_122 (sh_104 hW) e78 ?_
        refine go_aload0 hc dX14_goesOn_123 ?_
        refine go_ldc2 hc dX14_goesOn_124 wcJ_RX14_88 ?_
        refine go_aload0 hc dX14_goesOn_127 ?_
        refine go_getL hc lk_RX14_113 dX14_goesOn_128 (sh_102 hW) ?_
        refine go_lmul hc dX14_goesOn_131 ?_
        refine go_aload0 hc dX14_goesOn_132 ?_
        refine go_getR hc lk_RX14_17 dX14_goesOn_133 (sh_102 hW) (rf_102_16 hW) ?_
        refine go_iload2 hc dX14_goesOn_136 ?_
        replace e72 := goBind e72; obtain ⟨x79, e80, e72⟩ := e72
        refine go_iald hc dX14_goesOn_137 (sh_104 hW) e80 ?_
        refine go_bipush (v := 97) hc dX14_goesOn_138 rfl ?_
        refine go_isub hc dX14_goesOn_140 ?_
        refine go_iconst (v := 1) hc dX14_goesOn_141 rfl ?_
        refine go_iadd hc dX14_goesOn_142 ?_
        refine go_i2l hc dX14_goesOn_143 ?_
        refine go_ladd hc dX14_goesOn_144 ?_
        replace e72 := goNm_x e72; obtain ⟨L81, e82, e72⟩ := e72
        refine go_ptL hc lk_RX14_113 dX14_goesOn_145 (sh_102 hW) e82 ?_
        cases e72
        exact k73 _
set_option maxRecDepth 100000 in
set_option maxHeartbeats 4000000 in
theorem mX14_goesOn {E : goEv} {l : Launch} {G : goG} {N : Nat} {M : goMI} {L : goML} {R : goMR} {r0 : goMI} {r1 : goML} (hk : goKn E) (hW : goW G R) (h : fX14_goesOn N M L = some (r0, r1)) : Met l yX14_goesOn (goCd yX14_goesOn cX14_goesOn 3 none) (goRoom 1 21 0 0) (goPre E [.ref 102] G M L R) (goQv E G r0 r1 R) 0 0 (goSet E) := by
  refine goMet pl_RX14 hk (lv := [some (.ref 102), none, none]) rfl (Nat.le_of_ble_eq_true rfl) ?_
  intro X hc hl hR hr hnm
  subst hl
  unfold fX14_goesOn at h
  refine go_aload0 hc dX14_goesOn_0 ?_
  refine go_getI hc lk_RX14_94 dX14_goesOn_1 (sh_102 hW) ?_
  refine go_iconst (v := 5) hc dX14_goesOn_4 rfl ?_
  refine go_icmp_ne hc 9 dX14_goesOn_5 rfl (fun c11 => ?_) (fun c11 => ?_)
  · replace h := goIfF h c11
    replace h := goBind h; obtain ⟨M18, e17, h⟩ := h
    refine mX14_goesOn_L9 hc hk hR hr hW _ _ _ e17 (fun d1 d2 => ?_) _ _
    refine go_aload0 hc dX14_goesOn_35 ?_
    refine go_aload0 hc dX14_goesOn_36 ?_
    refine go_getI hc lk_RX14_97 dX14_goesOn_37 (sh_102 hW) ?_
    replace h := goNm_x h; obtain ⟨M19, e20, h⟩ := h
    refine go_ptI hc lk_RX14_103 dX14_goesOn_40 (sh_102 hW) e20 ?_
    refine go_aload0 hc dX14_goesOn_43 ?_
    refine go_iconst (v := 0) hc dX14_goesOn_44 rfl ?_
    replace h := goNm_x h; obtain ⟨M21, e22, h⟩ := h
    refine go_ptI hc lk_RX14_94 dX14_goesOn_45 (sh_102 hW) e22 ?_
    refine go_aload0 hc dX14_goesOn_48 ?_
    refine go_iconst (v := 0) hc dX14_goesOn_49 rfl ?_
    replace h := goNm_x h; obtain ⟨M23, e24, h⟩ := h
    refine go_ptI hc lk_RX14_106 dX14_goesOn_50 (sh_102 hW) e24 ?_
    refine go_aload0 hc dX14_goesOn_53 ?_
    refine go_aload0 hc dX14_goesOn_54 ?_
    refine go_getI hc lk_RX14_97 dX14_goesOn_55 (sh_102 hW) ?_
    replace h := goBind h; obtain ⟨x25, e26, h⟩ := h
    refine go_callVi hc dX14_goesOn_58 (mX14_byteAt hk hW e26) ml_RX14_100 yk_X14_byteAt ⟨wim_X14_byteAt, wse_X14_byteAt⟩ hR rfl (sh_102 hW) rfl rfl rfl (Nat.le_of_ble_eq_true rfl) rfl ?_
    refine go_istore1 hc dX14_goesOn_61 ?_
    refine go_iconst (v := 0) hc dX14_goesOn_62 rfl ?_
    refine go_istore2 hc dX14_goesOn_63 ?_
    refine go_iload1 hc dX14_goesOn_64 ?_
    refine go_iconst (v := (-1)) hc dX14_goesOn_65 rfl ?_
    refine go_icmp_ne hc 77 dX14_goesOn_66 rfl (fun c27 => ?_) (fun c27 => ?_)
    · replace h := goIfF h c27
      refine go_iload1 hc dX14_goesOn_77 ?_
      refine go_callSi hc dX14_goesOn_78 (mX14_isLetter hk hW rfl) ml_RX14_109 yk_X14_isLetter wst_X14_isLetter hR rfl rfl rfl (Nat.le_of_ble_eq_true rfl) rfl ?_
      refine go_if_eq hc 183 dX14_goesOn_81 rfl (fun c28 => ?_) (fun c28 => ?_)
      · replace h := goIfT h c28
        refine go_iload1 hc dX14_goesOn_183 ?_
        refine go_callSi hc dX14_goesOn_184 (mX14_isDigit hk hW rfl) ml_RX14_120 yk_X14_isDigit wst_X14_isDigit hR rfl rfl rfl (Nat.le_of_ble_eq_true rfl) rfl ?_
        refine go_if_eq hc 266 dX14_goesOn_187 rfl (fun c29 => ?_) (fun c29 => ?_)
        · replace h := goIfT h c29
          refine go_iload1 hc dX14_goesOn_266 ?_
          refine go_bipush (v := 59) hc dX14_goesOn_267 rfl ?_
          refine go_icmp_eq hc 278 dX14_goesOn_269 rfl (fun c30 => ?_) (fun c30 => ?_)
          · replace h := goIfT h c30
            refine go_aload0 hc dX14_goesOn_278 ?_
            refine go_iconst (v := 4) hc dX14_goesOn_279 rfl ?_
            replace h := goNm_x h; obtain ⟨M31, e32, h⟩ := h
            refine go_ptI hc lk_RX14_94 dX14_goesOn_280 (sh_102 hW) e32 ?_
            refine go_aload0 hc dX14_goesOn_283 ?_
            refine go_iload1 hc dX14_goesOn_284 ?_
            replace h := goNm_x h; obtain ⟨M33, e34, h⟩ := h
            refine go_ptI hc lk_RX14_106 dX14_goesOn_285 (sh_102 hW) e34 ?_
            refine go_aload0 hc dX14_goesOn_288 ?_
            refine go_dupr hc dX14_goesOn_289 ?_
            refine go_getI hc lk_RX14_97 dX14_goesOn_290 (sh_102 hW) ?_
            refine go_iconst (v := 1) hc dX14_goesOn_293 rfl ?_
            refine go_iadd hc dX14_goesOn_294 ?_
            replace h := goNm_x h; obtain ⟨M35, e36, h⟩ := h
            refine go_ptI hc lk_RX14_97 dX14_goesOn_295 (sh_102 hW) e36 ?_
            cases h
            exact go_vret hc dX14_goesOn_298 hr
          · replace h := goIfF h c30
            refine go_iload1 hc dX14_goesOn_272 ?_
            refine go_bipush (v := 44) hc dX14_goesOn_273 rfl ?_
            refine go_icmp_ne hc 298 dX14_goesOn_275 rfl (fun c37 => ?_) (fun c37 => ?_)
            · replace h := goIfF h c37
              cases h
              exact go_vret hc dX14_goesOn_298 hr
            · replace h := goIfT h c37
              refine go_aload0 hc dX14_goesOn_278 ?_
              refine go_iconst (v := 4) hc dX14_goesOn_279 rfl ?_
              replace h := goNm_x h; obtain ⟨M38, e39, h⟩ := h
              refine go_ptI hc lk_RX14_94 dX14_goesOn_280 (sh_102 hW) e39 ?_
              refine go_aload0 hc dX14_goesOn_283 ?_
              refine go_iload1 hc dX14_goesOn_284 ?_
              replace h := goNm_x h; obtain ⟨M40, e41, h⟩ := h
              refine go_ptI hc lk_RX14_106 dX14_goesOn_285 (sh_102 hW) e41 ?_
              refine go_aload0 hc dX14_goesOn_288 ?_
              refine go_dupr hc dX14_goesOn_289 ?_
              refine go_getI hc lk_RX14_97 dX14_goesOn_290 (sh_102 hW) ?_
              refine go_iconst (v := 1) hc dX14_goesOn_293 rfl ?_
              refine go_iadd hc dX14_goesOn_294 ?_
              replace h := goNm_x h; obtain ⟨M42, e43, h⟩ := h
              refine go_ptI hc lk_RX14_97 dX14_goesOn_295 (sh_102 hW) e43 ?_
              cases h
              exact go_vret hc dX14_goesOn_298 hr
        · replace h := goIfF h c29
          refine go_aload0 hc dX14_goesOn_190 ?_
          refine go_iconst (v := 0) hc dX14_goesOn_191 rfl ?_
          replace h := goNm_x h; obtain ⟨M44, e45, h⟩ := h
          refine go_ptI hc lk_RX14_123 dX14_goesOn_192 (sh_102 hW) e45 ?_
          replace h := goB2_h h; obtain ⟨x60, M61, e59, h⟩ := h
          refine mX14_goesOn_L195 hc hk hR hr hW _ _ _ _ _ e59 (fun d1 => ?_) _
          refine go_iload2 hc dX14_goesOn_253 ?_
          refine go_iconst (v := 3) hc dX14_goesOn_254 rfl ?_
          refine go_icmp_gt hc 298 dX14_goesOn_255 rfl (fun c62 => ?_) (fun c62 => ?_)
          · replace h := goIfF h c62
            cases h
            exact go_vret hc dX14_goesOn_298 hr
          · replace h := goIfT h c62
            refine go_aload0 hc dX14_goesOn_258 ?_
            refine go_iconst (v := 3) hc dX14_goesOn_259 rfl ?_
            replace h := goNm_x h; obtain ⟨M63, e64, h⟩ := h
            refine go_ptI hc lk_RX14_94 dX14_goesOn_260 (sh_102 hW) e64 ?_
            refine go_goto hc 298 dX14_goesOn_263 rfl ?_
            cases h
            exact go_vret hc dX14_goesOn_298 hr
      · replace h := goIfF h c28
        refine go_aload0 hc dX14_goesOn_84 ?_
        refine go_lconst (v := 0) hc dX14_goesOn_85 rfl ?_
        replace h := goNm_x h; obtain ⟨L65, e66, h⟩ := h
        refine go_ptL hc lk_RX14_113 dX14_goesOn_86 (sh_102 hW) e66 ?_
        replace h := goB3_h h; obtain ⟨x86, M87, L88, e85, h⟩ := h
        refine mX14_goesOn_L89 hc hk hR hr hW _ _ _ _ _ _ _ e85 (fun d1 => ?_) _
        refine go_aload0 hc dX14_goesOn_164 ?_
        refine go_iload2 hc dX14_goesOn_165 ?_
        replace h := goNm_x h; obtain ⟨M89, e90, h⟩ := h
        refine go_ptI hc lk_RX14_117 dX14_goesOn_166 (sh_102 hW) e90 ?_
        refine go_iload2 hc dX14_goesOn_169 ?_
        refine go_bipush (v := 8) hc dX14_goesOn_170 rfl ?_
        refine go_icmp_gt hc 298 dX14_goesOn_172 rfl (fun c91 => ?_) (fun c91 => ?_)
        · replace h := goIfF h c91
          cases h
          exact go_vret hc dX14_goesOn_298 hr
        · replace h := goIfT h c91
          refine go_aload0 hc dX14_goesOn_175 ?_
          refine go_iconst (v := 2) hc dX14_goesOn_176 rfl ?_
          replace h := goNm_x h; obtain ⟨M92, e93, h⟩ := h
          refine go_ptI hc lk_RX14_94 dX14_goesOn_177 (sh_102 hW) e93 ?_
          refine go_goto hc 298 dX14_goesOn_180 rfl ?_
          cases h
          exact go_vret hc dX14_goesOn_298 hr
    · replace h := goIfT h c27
      refine go_aload0 hc dX14_goesOn_69 ?_
      refine go_iconst (v := 1) hc dX14_goesOn_70 rfl ?_
      replace h := goNm_x h; obtain ⟨M94, e95, h⟩ := h
      refine go_ptI hc lk_RX14_94 dX14_goesOn_71 (sh_102 hW) e95 ?_
      refine go_goto hc 298 dX14_goesOn_74 rfl ?_
      cases h
      exact go_vret hc dX14_goesOn_298 hr
  · replace h := goIfT h c11
    cases h
    exact go_vret hc dX14_goesOn_8 hr
theorem dX14_flaw_0 : decode cX14_flaw 0 = .ok (.aload_n 0, 1) := by decide +kernel
theorem dX14_flaw_1 : decode cX14_flaw 1 = .ok (.getfield 94, 3) := by decide +kernel
theorem dX14_flaw_4 : decode cX14_flaw 4 = .ok (.iconst 5, 1) := by decide +kernel
theorem dX14_flaw_5 : decode cX14_flaw 5 = .ok (.if_icmp .ne 4, 3) := by decide +kernel
theorem dX14_flaw_8 : decode cX14_flaw 8 = .ok (.return_, 1) := by decide +kernel
theorem dX14_flaw_9 : decode cX14_flaw 9 = .ok (.aload_n 0, 1) := by decide +kernel
theorem dX14_flaw_10 : decode cX14_flaw 10 = .ok (.iload_n 1, 1) := by decide +kernel
theorem dX14_flaw_11 : decode cX14_flaw 11 = .ok (.putfield 126, 3) := by decide +kernel
theorem dX14_flaw_14 : decode cX14_flaw 14 = .ok (.aload_n 0, 1) := by decide +kernel
theorem dX14_flaw_15 : decode cX14_flaw 15 = .ok (.aload_n 0, 1) := by decide +kernel
theorem dX14_flaw_16 : decode cX14_flaw 16 = .ok (.getfield 103, 3) := by decide +kernel
theorem dX14_flaw_19 : decode cX14_flaw 19 = .ok (.putfield 129, 3) := by decide +kernel
theorem dX14_flaw_22 : decode cX14_flaw 22 = .ok (.aload_n 0, 1) := by decide +kernel
theorem dX14_flaw_23 : decode cX14_flaw 23 = .ok (.iconst 5, 1) := by decide +kernel
theorem dX14_flaw_24 : decode cX14_flaw 24 = .ok (.putfield 94, 3) := by decide +kernel
theorem dX14_flaw_27 : decode cX14_flaw 27 = .ok (.return_, 1) := by decide +kernel
set_option maxRecDepth 100000 in
set_option maxHeartbeats 4000000 in
theorem mX14_flaw {E : goEv} {l : Launch} {G : goG} {M : goMI} {L : goML} {R : goMR} {v1 : Int32} {r0 : goMI} (hk : goKn E) (hW : goW G R) (h : fX14_flaw M v1 = some r0) : Met l yX14_flaw (goCd yX14_flaw cX14_flaw 2 none) (goRoom 0 0 0 0) (goPre E [.ref 102, .int v1] G M L R) (goQv E G r0 L R) 0 0 (goSet E) := by
  refine goMet pl_RX14 hk (lv := [some (.ref 102), some (.int v1)]) rfl (Nat.le_of_ble_eq_true rfl) ?_
  intro X hc hl hR hr hnm
  subst hl
  unfold fX14_flaw at h
  refine go_aload0 hc dX14_flaw_0 ?_
  refine go_getI hc lk_RX14_94 dX14_flaw_1 (sh_102 hW) ?_
  refine go_iconst (v := 5) hc dX14_flaw_4 rfl ?_
  refine go_icmp_ne hc 9 dX14_flaw_5 rfl (fun c11 => ?_) (fun c11 => ?_)
  · replace h := goIfF h c11
    refine go_aload0 hc dX14_flaw_9 ?_
    refine go_iload1 hc dX14_flaw_10 ?_
    replace h := goNm_x h; obtain ⟨M12, e13, h⟩ := h
    refine go_ptI hc lk_RX14_126 dX14_flaw_11 (sh_102 hW) e13 ?_
    refine go_aload0 hc dX14_flaw_14 ?_
    refine go_aload0 hc dX14_flaw_15 ?_
    refine go_getI hc lk_RX14_103 dX14_flaw_16 (sh_102 hW) ?_
    replace h := goNm_x h; obtain ⟨M14, e15, h⟩ := h
    refine go_ptI hc lk_RX14_129 dX14_flaw_19 (sh_102 hW) e15 ?_
    refine go_aload0 hc dX14_flaw_22 ?_
    refine go_iconst (v := 5) hc dX14_flaw_23 rfl ?_
    replace h := goNm_x h; obtain ⟨M16, e17, h⟩ := h
    refine go_ptI hc lk_RX14_94 dX14_flaw_24 (sh_102 hW) e17 ?_
    cases h
    exact go_vret hc dX14_flaw_27 hr
  · replace h := goIfT h c11
    cases h
    exact go_vret hc dX14_flaw_8 hr
theorem dX14_isWord_0 : decode cX14_isWord 0 = .ok (.aload_n 0, 1) := by decide +kernel
theorem dX14_isWord_1 : decode cX14_isWord 1 = .ok (.getfield 94, 3) := by decide +kernel
theorem dX14_isWord_4 : decode cX14_isWord 4 = .ok (.iconst 2, 1) := by decide +kernel
theorem dX14_isWord_5 : decode cX14_isWord 5 = .ok (.if_icmp .ne 19, 3) := by decide +kernel
theorem dX14_isWord_8 : decode cX14_isWord 8 = .ok (.aload_n 0, 1) := by decide +kernel
theorem dX14_isWord_9 : decode cX14_isWord 9 = .ok (.getfield 113, 3) := by decide +kernel
theorem dX14_isWord_12 : decode cX14_isWord 12 = .ok (.aload_n 1, 1) := by decide +kernel
theorem dX14_isWord_13 : decode cX14_isWord 13 = .ok (.invokestatic 132, 3) := by decide +kernel
theorem dX14_isWord_16 : decode cX14_isWord 16 = .ok (.lcmp, 1) := by decide +kernel
theorem dX14_isWord_17 : decode cX14_isWord 17 = .ok (.ifCond .ne 7, 3) := by decide +kernel
theorem dX14_isWord_20 : decode cX14_isWord 20 = .ok (.iconst 1, 1) := by decide +kernel
theorem dX14_isWord_21 : decode cX14_isWord 21 = .ok (.goto 4, 3) := by decide +kernel
theorem dX14_isWord_24 : decode cX14_isWord 24 = .ok (.iconst 0, 1) := by decide +kernel
theorem dX14_isWord_25 : decode cX14_isWord 25 = .ok (.ireturn, 1) := by decide +kernel
set_option maxRecDepth 100000 in
set_option maxHeartbeats 4000000 in
theorem mX14_isWord {E : goEv} {l : Launch} {G : goG} {N : Nat} {M : goMI} {L : goML} {R : goMR} {a1 : Nat} {r0 : Int32} (hk : goKn E) (hW : goW G R) (h : fX14_isWord N M L a1 = some r0) : Met l yX14_isWord (goCd yX14_isWord cX14_isWord 2 (Option.some FieldType.boolean)) (goRoom 6 129 0 0) (goPre E [.ref 102, .ref a1] G M L R) (goQi E r0 G M L R) 0 0 (goSet E) := by
  refine goMet pl_RX14 hk (lv := [some (.ref 102), some (.ref a1)]) rfl (Nat.le_of_ble_eq_true rfl) ?_
  intro X hc hl hR hr hnm
  subst hl
  unfold fX14_isWord at h
  refine go_aload0 hc dX14_isWord_0 ?_
  refine go_getI hc lk_RX14_94 dX14_isWord_1 (sh_102 hW) ?_
  refine go_iconst (v := 2) hc dX14_isWord_4 rfl ?_
  refine go_icmp_ne hc 24 dX14_isWord_5 rfl (fun c11 => ?_) (fun c11 => ?_)
  · replace h := goIfF h c11
    refine go_iconst (v := 0) hc dX14_isWord_24 rfl ?_
    cases h
    exact go_zret hc dX14_isWord_25 hr rfl
  · replace h := goIfT h c11
    refine go_aload0 hc dX14_isWord_8 ?_
    refine go_getL hc lk_RX14_113 dX14_isWord_9 (sh_102 hW) ?_
    refine go_aload1 hc dX14_isWord_12 ?_
    replace h := goBind h; obtain ⟨x12, e13, h⟩ := h
    refine go_callSl hc dX14_isWord_13 (mX14_wordOf hk hW e13) ml_RX14_132 yk_X14_wordOf wst_X14_wordOf hR rfl rfl rfl (Nat.le_of_ble_eq_true rfl) rfl ?_
    refine go_lcmp hc dX14_isWord_16 ?_
    refine go_if_ne hc 24 dX14_isWord_17 rfl (fun c14 => ?_) (fun c14 => ?_)
    · replace h := goIfF h c14
      refine go_iconst (v := 0) hc dX14_isWord_24 rfl ?_
      cases h
      exact go_zret hc dX14_isWord_25 hr rfl
    · replace h := goIfT h c14
      refine go_iconst (v := 1) hc dX14_isWord_20 rfl ?_
      refine go_goto hc 25 dX14_isWord_21 rfl ?_
      cases h
      exact go_zret hc dX14_isWord_25 hr rfl
theorem dX14_eatsSign_0 : decode cX14_eatsSign 0 = .ok (.aload_n 0, 1) := by decide +kernel
theorem dX14_eatsSign_1 : decode cX14_eatsSign 1 = .ok (.getfield 94, 3) := by decide +kernel
theorem dX14_eatsSign_4 : decode cX14_eatsSign 4 = .ok (.iconst 4, 1) := by decide +kernel
theorem dX14_eatsSign_5 : decode cX14_eatsSign 5 = .ok (.if_icmp .ne 15, 3) := by decide +kernel
theorem dX14_eatsSign_8 : decode cX14_eatsSign 8 = .ok (.aload_n 0, 1) := by decide +kernel
theorem dX14_eatsSign_9 : decode cX14_eatsSign 9 = .ok (.getfield 106, 3) := by decide +kernel
theorem dX14_eatsSign_12 : decode cX14_eatsSign 12 = .ok (.iload_n 1, 1) := by decide +kernel
theorem dX14_eatsSign_13 : decode cX14_eatsSign 13 = .ok (.if_icmp .ne 7, 3) := by decide +kernel
theorem dX14_eatsSign_16 : decode cX14_eatsSign 16 = .ok (.iconst 1, 1) := by decide +kernel
theorem dX14_eatsSign_17 : decode cX14_eatsSign 17 = .ok (.goto 4, 3) := by decide +kernel
theorem dX14_eatsSign_20 : decode cX14_eatsSign 20 = .ok (.iconst 0, 1) := by decide +kernel
theorem dX14_eatsSign_21 : decode cX14_eatsSign 21 = .ok (.istore_n 2, 1) := by decide +kernel
theorem dX14_eatsSign_22 : decode cX14_eatsSign 22 = .ok (.iload_n 2, 1) := by decide +kernel
theorem dX14_eatsSign_23 : decode cX14_eatsSign 23 = .ok (.ifCond .eq 7, 3) := by decide +kernel
theorem dX14_eatsSign_26 : decode cX14_eatsSign 26 = .ok (.aload_n 0, 1) := by decide +kernel
theorem dX14_eatsSign_27 : decode cX14_eatsSign 27 = .ok (.invokevirtual 136, 3) := by decide +kernel
theorem dX14_eatsSign_30 : decode cX14_eatsSign 30 = .ok (.iload_n 2, 1) := by decide +kernel
theorem dX14_eatsSign_31 : decode cX14_eatsSign 31 = .ok (.ireturn, 1) := by decide +kernel
set_option maxRecDepth 100000 in
set_option maxHeartbeats 4000000 in
theorem mX14_eatsSign {E : goEv} {l : Launch} {G : goG} {N : Nat} {M : goMI} {L : goML} {R : goMR} {v1 : Int32} {r0 : Int32} {r1 : goMI} {r2 : goML} (hk : goKn E) (hW : goW G R) (h : fX14_eatsSign N M L v1 = some (r0, r1, r2)) : Met l yX14_eatsSign (goCd yX14_eatsSign cX14_eatsSign 3 (Option.some FieldType.boolean)) (goRoom 2 43 0 0) (goPre E [.ref 102, .int v1] G M L R) (goQi E r0 G r1 r2 R) 0 0 (goSet E) := by
  refine goMet pl_RX14 hk (lv := [some (.ref 102), some (.int v1), none]) rfl (Nat.le_of_ble_eq_true rfl) ?_
  intro X hc hl hR hr hnm
  subst hl
  unfold fX14_eatsSign at h
  refine go_aload0 hc dX14_eatsSign_0 ?_
  refine go_getI hc lk_RX14_94 dX14_eatsSign_1 (sh_102 hW) ?_
  refine go_iconst (v := 4) hc dX14_eatsSign_4 rfl ?_
  replace h := goNm_y h; obtain ⟨x11, e12, h⟩ := h
  have k13 : ∀ (d1 d2 : Option Value), goA E X G 0 0 (goMQ X E (goQi E r0 G r1 r2 R) 0 0) 21 [some (.ref 102), d1, d2] [.int x11] M L R := by
    intro d1 d2
    refine go_istore2 hc dX14_eatsSign_21 ?_
    refine go_iload2 hc dX14_eatsSign_22 ?_
    replace h := goB2_h h; obtain ⟨M16, L17, e18, h⟩ := h
    have k19 : ∀ (d0 d1 : Option Value), goA E X G 0 0 (goMQ X E (goQi E r0 G r1 r2 R) 0 0) 30 [d0, d1, some (.int x11)] [] M16 L17 R := by
      intro d0 d1
      refine go_iload2 hc dX14_eatsSign_30 ?_
      replace h := goBind h; obtain ⟨x24, e25, h⟩ := h
      obtain ⟨ze25, rfl⟩ := goZr_h e25
      cases h
      exact go_zret hc dX14_eatsSign_31 hr (goZ_n ze25)
    refine go_if_eq hc 30 dX14_eatsSign_23 rfl (fun c20 => ?_) (fun c20 => ?_)
    · replace e18 := goIfT e18 c20
      cases e18
      exact k19 _ _
    · replace e18 := goIfF e18 c20
      refine go_aload0 hc dX14_eatsSign_26 ?_
      replace e18 := goB2_h e18; obtain ⟨M21, L22, e23, e18⟩ := e18
      refine go_callVv hc dX14_eatsSign_27 (mX14_goesOn hk hW e23) ml_RX14_136 yk_X14_goesOn ⟨wim_X14_goesOn, wse_X14_goesOn⟩ hR rfl (sh_102 hW) rfl rfl rfl (Nat.le_of_ble_eq_true rfl) rfl ?_
      cases e18
      exact k19 _ _
  refine go_icmp_ne hc 20 dX14_eatsSign_5 rfl (fun c14 => ?_) (fun c14 => ?_)
  · replace e12 := goIfF e12 c14
    refine go_iconst (v := 0) hc dX14_eatsSign_20 rfl ?_
    subst e12
    exact k13 _ _
  · replace e12 := goIfT e12 c14
    refine go_aload0 hc dX14_eatsSign_8 ?_
    refine go_getI hc lk_RX14_106 dX14_eatsSign_9 (sh_102 hW) ?_
    refine go_iload1 hc dX14_eatsSign_12 ?_
    refine go_icmp_ne hc 20 dX14_eatsSign_13 rfl (fun c15 => ?_) (fun c15 => ?_)
    · replace e12 := goIfF e12 c15
      refine go_iconst (v := 0) hc dX14_eatsSign_20 rfl ?_
      subst e12
      exact k13 _ _
    · replace e12 := goIfT e12 c15
      refine go_iconst (v := 1) hc dX14_eatsSign_16 rfl ?_
      refine go_goto hc 21 dX14_eatsSign_17 rfl ?_
      subst e12
      exact k13 _ _
theorem dX14_wants_0 : decode cX14_wants 0 = .ok (.aload_n 0, 1) := by decide +kernel
theorem dX14_wants_1 : decode cX14_wants 1 = .ok (.aload_n 1, 1) := by decide +kernel
theorem dX14_wants_2 : decode cX14_wants 2 = .ok (.invokevirtual 139, 3) := by decide +kernel
theorem dX14_wants_5 : decode cX14_wants 5 = .ok (.ifCond .ne 8, 3) := by decide +kernel
theorem dX14_wants_8 : decode cX14_wants 8 = .ok (.aload_n 0, 1) := by decide +kernel
theorem dX14_wants_9 : decode cX14_wants 9 = .ok (.iconst 1, 1) := by decide +kernel
theorem dX14_wants_10 : decode cX14_wants 10 = .ok (.invokevirtual 143, 3) := by decide +kernel
theorem dX14_wants_13 : decode cX14_wants 13 = .ok (.aload_n 0, 1) := by decide +kernel
theorem dX14_wants_14 : decode cX14_wants 14 = .ok (.invokevirtual 136, 3) := by decide +kernel
theorem dX14_wants_17 : decode cX14_wants 17 = .ok (.return_, 1) := by decide +kernel
set_option maxRecDepth 100000 in
set_option maxHeartbeats 4000000 in
theorem mX14_wants {E : goEv} {l : Launch} {G : goG} {N : Nat} {M : goMI} {L : goML} {R : goMR} {a1 : Nat} {r0 : goMI} {r1 : goML} (hk : goKn E) (hW : goW G R) (h : fX14_wants N M L a1 = some (r0, r1)) : Met l yX14_wants (goCd yX14_wants cX14_wants 2 none) (goRoom 7 150 0 0) (goPre E [.ref 102, .ref a1] G M L R) (goQv E G r0 r1 R) 0 0 (goSet E) := by
  refine goMet pl_RX14 hk (lv := [some (.ref 102), some (.ref a1)]) rfl (Nat.le_of_ble_eq_true rfl) ?_
  intro X hc hl hR hr hnm
  subst hl
  unfold fX14_wants at h
  refine go_aload0 hc dX14_wants_0 ?_
  refine go_aload1 hc dX14_wants_1 ?_
  replace h := goBind h; obtain ⟨x11, e12, h⟩ := h
  refine go_callVi hc dX14_wants_2 (mX14_isWord hk hW e12) ml_RX14_139 yk_X14_isWord ⟨wim_X14_isWord, wse_X14_isWord⟩ hR rfl (sh_102 hW) rfl rfl rfl (Nat.le_of_ble_eq_true rfl) rfl ?_
  replace h := goBind h; obtain ⟨M13, e14, h⟩ := h
  have k15 : ∀ (d1 : Option Value), goA E X G 0 0 (goMQ X E (goQv E G r0 r1 R) 0 0) 13 [some (.ref 102), d1] [] M13 L R := by
    intro d1
    refine go_aload0 hc dX14_wants_13 ?_
    replace h := goB2_h h; obtain ⟨M19, L20, e21, h⟩ := h
    refine go_callVv hc dX14_wants_14 (mX14_goesOn hk hW e21) ml_RX14_136 yk_X14_goesOn ⟨wim_X14_goesOn, wse_X14_goesOn⟩ hR rfl (sh_102 hW) rfl rfl rfl (Nat.le_of_ble_eq_true rfl) rfl ?_
    cases h
    exact go_vret hc dX14_wants_17 hr
  refine go_if_ne hc 13 dX14_wants_5 rfl (fun c16 => ?_) (fun c16 => ?_)
  · replace e14 := goIfF e14 c16
    cases e14
    exact k15 _
  · replace e14 := goIfT e14 c16
    refine go_aload0 hc dX14_wants_8 ?_
    refine go_iconst (v := 1) hc dX14_wants_9 rfl ?_
    replace e14 := goBind e14; obtain ⟨M17, e18, e14⟩ := e14
    refine go_callVv hc dX14_wants_10 (mX14_flaw hk hW e18) ml_RX14_143 yk_X14_flaw ⟨wim_X14_flaw, wse_X14_flaw⟩ hR rfl (sh_102 hW) rfl rfl rfl (Nat.le_of_ble_eq_true rfl) rfl ?_
    cases e14
    exact k15 _
theorem dX14_needsSign_0 : decode cX14_needsSign 0 = .ok (.aload_n 0, 1) := by decide +kernel
theorem dX14_needsSign_1 : decode cX14_needsSign 1 = .ok (.getfield 94, 3) := by decide +kernel
theorem dX14_needsSign_4 : decode cX14_needsSign 4 = .ok (.iconst 4, 1) := by decide +kernel
theorem dX14_needsSign_5 : decode cX14_needsSign 5 = .ok (.if_icmp .ne 11, 3) := by decide +kernel
theorem dX14_needsSign_8 : decode cX14_needsSign 8 = .ok (.aload_n 0, 1) := by decide +kernel
theorem dX14_needsSign_9 : decode cX14_needsSign 9 = .ok (.getfield 106, 3) := by decide +kernel
theorem dX14_needsSign_12 : decode cX14_needsSign 12 = .ok (.iload_n 1, 1) := by decide +kernel
theorem dX14_needsSign_13 : decode cX14_needsSign 13 = .ok (.if_icmp .eq 8, 3) := by decide +kernel
theorem dX14_needsSign_16 : decode cX14_needsSign 16 = .ok (.aload_n 0, 1) := by decide +kernel
theorem dX14_needsSign_17 : decode cX14_needsSign 17 = .ok (.iconst 1, 1) := by decide +kernel
theorem dX14_needsSign_18 : decode cX14_needsSign 18 = .ok (.invokevirtual 143, 3) := by decide +kernel
theorem dX14_needsSign_21 : decode cX14_needsSign 21 = .ok (.aload_n 0, 1) := by decide +kernel
theorem dX14_needsSign_22 : decode cX14_needsSign 22 = .ok (.invokevirtual 136, 3) := by decide +kernel
theorem dX14_needsSign_25 : decode cX14_needsSign 25 = .ok (.return_, 1) := by decide +kernel
set_option maxRecDepth 100000 in
set_option maxHeartbeats 4000000 in
theorem mX14_needsSign {E : goEv} {l : Launch} {G : goG} {N : Nat} {M : goMI} {L : goML} {R : goMR} {v1 : Int32} {r0 : goMI} {r1 : goML} (hk : goKn E) (hW : goW G R) (h : fX14_needsSign N M L v1 = some (r0, r1)) : Met l yX14_needsSign (goCd yX14_needsSign cX14_needsSign 2 none) (goRoom 2 43 0 0) (goPre E [.ref 102, .int v1] G M L R) (goQv E G r0 r1 R) 0 0 (goSet E) := by
  refine goMet pl_RX14 hk (lv := [some (.ref 102), some (.int v1)]) rfl (Nat.le_of_ble_eq_true rfl) ?_
  intro X hc hl hR hr hnm
  subst hl
  unfold fX14_needsSign at h
  refine go_aload0 hc dX14_needsSign_0 ?_
  refine go_getI hc lk_RX14_94 dX14_needsSign_1 (sh_102 hW) ?_
  refine go_iconst (v := 4) hc dX14_needsSign_4 rfl ?_
  replace h := goBind h; obtain ⟨M11, e12, h⟩ := h
  have k13 : ∀ (d1 : Option Value), goA E X G 0 0 (goMQ X E (goQv E G r0 r1 R) 0 0) 21 [some (.ref 102), d1] [] M11 L R := by
    intro d1
    refine go_aload0 hc dX14_needsSign_21 ?_
    replace h := goB2_h h; obtain ⟨M20, L21, e22, h⟩ := h
    refine go_callVv hc dX14_needsSign_22 (mX14_goesOn hk hW e22) ml_RX14_136 yk_X14_goesOn ⟨wim_X14_goesOn, wse_X14_goesOn⟩ hR rfl (sh_102 hW) rfl rfl rfl (Nat.le_of_ble_eq_true rfl) rfl ?_
    cases h
    exact go_vret hc dX14_needsSign_25 hr
  refine go_icmp_ne hc 16 dX14_needsSign_5 rfl (fun c14 => ?_) (fun c14 => ?_)
  · replace e12 := goIfF e12 c14
    refine go_aload0 hc dX14_needsSign_16 ?_
    refine go_iconst (v := 1) hc dX14_needsSign_17 rfl ?_
    replace e12 := goBind e12; obtain ⟨M15, e16, e12⟩ := e12
    refine go_callVv hc dX14_needsSign_18 (mX14_flaw hk hW e16) ml_RX14_143 yk_X14_flaw ⟨wim_X14_flaw, wse_X14_flaw⟩ hR rfl (sh_102 hW) rfl rfl rfl (Nat.le_of_ble_eq_true rfl) rfl ?_
    cases e12
    exact k13 _
  · replace e12 := goIfT e12 c14
    refine go_aload0 hc dX14_needsSign_8 ?_
    refine go_getI hc lk_RX14_106 dX14_needsSign_9 (sh_102 hW) ?_
    refine go_iload1 hc dX14_needsSign_12 ?_
    refine go_icmp_eq hc 21 dX14_needsSign_13 rfl (fun c17 => ?_) (fun c17 => ?_)
    · replace e12 := goIfT e12 c17
      cases e12
      exact k13 _
    · replace e12 := goIfF e12 c17
      refine go_aload0 hc dX14_needsSign_16 ?_
      refine go_iconst (v := 1) hc dX14_needsSign_17 rfl ?_
      replace e12 := goBind e12; obtain ⟨M18, e19, e12⟩ := e12
      refine go_callVv hc dX14_needsSign_18 (mX14_flaw hk hW e19) ml_RX14_143 yk_X14_flaw ⟨wim_X14_flaw, wse_X14_flaw⟩ hR rfl (sh_102 hW) rfl rfl rfl (Nat.le_of_ble_eq_true rfl) rfl ?_
      cases e12
      exact k13 _
theorem dX14_readWhole_0 : decode cX14_readWhole 0 = .ok (.aload_n 0, 1) := by decide +kernel
theorem dX14_readWhole_1 : decode cX14_readWhole 1 = .ok (.getfield 94, 3) := by decide +kernel
theorem dX14_readWhole_4 : decode cX14_readWhole 4 = .ok (.iconst 3, 1) := by decide +kernel
theorem dX14_readWhole_5 : decode cX14_readWhole 5 = .ok (.if_icmp .eq 11, 3) := by decide +kernel
theorem dX14_readWhole_8 : decode cX14_readWhole 8 = .ok (.aload_n 0, 1) := by decide +kernel
theorem dX14_readWhole_9 : decode cX14_readWhole 9 = .ok (.iconst 1, 1) := by decide +kernel
theorem dX14_readWhole_10 : decode cX14_readWhole 10 = .ok (.invokevirtual 143, 3) := by decide +kernel
theorem dX14_readWhole_13 : decode cX14_readWhole 13 = .ok (.goto 20, 3) := by decide +kernel
theorem dX14_readWhole_16 : decode cX14_readWhole 16 = .ok (.aload_n 0, 1) := by decide +kernel
theorem dX14_readWhole_17 : decode cX14_readWhole 17 = .ok (.getfield 123, 3) := by decide +kernel
theorem dX14_readWhole_20 : decode cX14_readWhole 20 = .ok (.iload_n 1, 1) := by decide +kernel
theorem dX14_readWhole_21 : decode cX14_readWhole 21 = .ok (.iload_n 2, 1) := by decide +kernel
theorem dX14_readWhole_22 : decode cX14_readWhole 22 = .ok (.invokestatic 147, 3) := by decide +kernel
theorem dX14_readWhole_25 : decode cX14_readWhole 25 = .ok (.ifCond .ne 8, 3) := by decide +kernel
theorem dX14_readWhole_28 : decode cX14_readWhole 28 = .ok (.aload_n 0, 1) := by decide +kernel
theorem dX14_readWhole_29 : decode cX14_readWhole 29 = .ok (.iconst 4, 1) := by decide +kernel
theorem dX14_readWhole_30 : decode cX14_readWhole 30 = .ok (.invokevirtual 143, 3) := by decide +kernel
theorem dX14_readWhole_33 : decode cX14_readWhole 33 = .ok (.aload_n 0, 1) := by decide +kernel
theorem dX14_readWhole_34 : decode cX14_readWhole 34 = .ok (.getfield 94, 3) := by decide +kernel
theorem dX14_readWhole_37 : decode cX14_readWhole 37 = .ok (.iconst 5, 1) := by decide +kernel
theorem dX14_readWhole_38 : decode cX14_readWhole 38 = .ok (.if_icmp .ne 7, 3) := by decide +kernel
theorem dX14_readWhole_41 : decode cX14_readWhole 41 = .ok (.iload_n 1, 1) := by decide +kernel
theorem dX14_readWhole_42 : decode cX14_readWhole 42 = .ok (.goto 7, 3) := by decide +kernel
theorem dX14_readWhole_45 : decode cX14_readWhole 45 = .ok (.aload_n 0, 1) := by decide +kernel
theorem dX14_readWhole_46 : decode cX14_readWhole 46 = .ok (.getfield 123, 3) := by decide +kernel
theorem dX14_readWhole_49 : decode cX14_readWhole 49 = .ok (.istore_n 3, 1) := by decide +kernel
theorem dX14_readWhole_50 : decode cX14_readWhole 50 = .ok (.aload_n 0, 1) := by decide +kernel
theorem dX14_readWhole_51 : decode cX14_readWhole 51 = .ok (.invokevirtual 136, 3) := by decide +kernel
theorem dX14_readWhole_54 : decode cX14_readWhole 54 = .ok (.iload_n 3, 1) := by decide +kernel
theorem dX14_readWhole_55 : decode cX14_readWhole 55 = .ok (.ireturn, 1) := by decide +kernel
set_option maxRecDepth 100000 in
set_option maxHeartbeats 4000000 in
theorem mX14_readWhole {E : goEv} {l : Launch} {G : goG} {N : Nat} {M : goMI} {L : goML} {R : goMR} {v1 : Int32} {v2 : Int32} {r0 : Int32} {r1 : goMI} {r2 : goML} (hk : goKn E) (hW : goW G R) (h : fX14_readWhole N M L v1 v2 = some (r0, r1, r2)) : Met l yX14_readWhole (goCd yX14_readWhole cX14_readWhole 4 (Option.some FieldType.int)) (goRoom 2 43 0 0) (goPre E [.ref 102, .int v1, .int v2] G M L R) (goQi E r0 G r1 r2 R) 0 0 (goSet E) := by
  refine goMet pl_RX14 hk (lv := [some (.ref 102), some (.int v1), some (.int v2), none]) rfl (Nat.le_of_ble_eq_true rfl) ?_
  intro X hc hl hR hr hnm
  subst hl
  unfold fX14_readWhole at h
  refine go_aload0 hc dX14_readWhole_0 ?_
  refine go_getI hc lk_RX14_94 dX14_readWhole_1 (sh_102 hW) ?_
  refine go_iconst (v := 3) hc dX14_readWhole_4 rfl ?_
  replace h := goBind h; obtain ⟨M11, e12, h⟩ := h
  have k13 : ∀ (d2 d3 : Option Value), goA E X G 0 0 (goMQ X E (goQi E r0 G r1 r2 R) 0 0) 33 [some (.ref 102), some (.int v1), d2, d3] [] M11 L R := by
    intro d2 d3
    refine go_aload0 hc dX14_readWhole_33 ?_
    refine go_getI hc lk_RX14_94 dX14_readWhole_34 (sh_102 hW) ?_
    refine go_iconst (v := 5) hc dX14_readWhole_37 rfl ?_
    replace h := goNm_y h; obtain ⟨x20, e21, h⟩ := h
    have k22 : ∀ (d1 d2 d3 : Option Value), goA E X G 0 0 (goMQ X E (goQi E r0 G r1 r2 R) 0 0) 49 [some (.ref 102), d1, d2, d3] [.int x20] M11 L R := by
      intro d1 d2 d3
      refine go_istore3 hc dX14_readWhole_49 ?_
      refine go_aload0 hc dX14_readWhole_50 ?_
      replace h := goB2_h h; obtain ⟨M24, L25, e26, h⟩ := h
      refine go_callVv hc dX14_readWhole_51 (mX14_goesOn hk hW e26) ml_RX14_136 yk_X14_goesOn ⟨wim_X14_goesOn, wse_X14_goesOn⟩ hR rfl (sh_102 hW) rfl rfl rfl (Nat.le_of_ble_eq_true rfl) rfl ?_
      refine go_iload3 hc dX14_readWhole_54 ?_
      cases h
      exact go_iret hc dX14_readWhole_55 hr
    refine go_icmp_ne hc 45 dX14_readWhole_38 rfl (fun c23 => ?_) (fun c23 => ?_)
    · replace e21 := goIfF e21 c23
      refine go_aload0 hc dX14_readWhole_45 ?_
      refine go_getI hc lk_RX14_123 dX14_readWhole_46 (sh_102 hW) ?_
      subst e21
      exact k22 _ _ _
    · replace e21 := goIfT e21 c23
      refine go_iload1 hc dX14_readWhole_41 ?_
      refine go_goto hc 49 dX14_readWhole_42 rfl ?_
      subst e21
      exact k22 _ _ _
  refine go_icmp_eq hc 16 dX14_readWhole_5 rfl (fun c14 => ?_) (fun c14 => ?_)
  · replace e12 := goIfT e12 c14
    refine go_aload0 hc dX14_readWhole_16 ?_
    refine go_getI hc lk_RX14_123 dX14_readWhole_17 (sh_102 hW) ?_
    refine go_iload1 hc dX14_readWhole_20 ?_
    refine go_iload2 hc dX14_readWhole_21 ?_
    refine go_callSi hc dX14_readWhole_22 (mX14_within hk hW rfl) ml_RX14_147 yk_X14_within wst_X14_within hR rfl rfl rfl (Nat.le_of_ble_eq_true rfl) rfl ?_
    refine go_if_ne hc 33 dX14_readWhole_25 rfl (fun c15 => ?_) (fun c15 => ?_)
    · replace e12 := goIfF e12 c15
      cases e12
      exact k13 _ _
    · replace e12 := goIfT e12 c15
      refine go_aload0 hc dX14_readWhole_28 ?_
      refine go_iconst (v := 4) hc dX14_readWhole_29 rfl ?_
      replace e12 := goBind e12; obtain ⟨M16, e17, e12⟩ := e12
      refine go_callVv hc dX14_readWhole_30 (mX14_flaw hk hW e17) ml_RX14_143 yk_X14_flaw ⟨wim_X14_flaw, wse_X14_flaw⟩ hR rfl (sh_102 hW) rfl rfl rfl (Nat.le_of_ble_eq_true rfl) rfl ?_
      cases e12
      exact k13 _ _
  · replace e12 := goIfF e12 c14
    refine go_aload0 hc dX14_readWhole_8 ?_
    refine go_iconst (v := 1) hc dX14_readWhole_9 rfl ?_
    replace e12 := goBind e12; obtain ⟨M18, e19, e12⟩ := e12
    refine go_callVv hc dX14_readWhole_10 (mX14_flaw hk hW e19) ml_RX14_143 yk_X14_flaw ⟨wim_X14_flaw, wse_X14_flaw⟩ hR rfl (sh_102 hW) rfl rfl rfl (Nat.le_of_ble_eq_true rfl) rfl ?_
    refine go_goto hc 33 dX14_readWhole_13 rfl ?_
    cases e12
    exact k13 _ _
theorem dX14_readPart_0 : decode cX14_readPart 0 = .ok (.aload_n 0, 1) := by decide +kernel
theorem dX14_readPart_1 : decode cX14_readPart 1 = .ok (.aload_n 1, 1) := by decide +kernel
theorem dX14_readPart_2 : decode cX14_readPart 2 = .ok (.invokevirtual 151, 3) := by decide +kernel
theorem dX14_readPart_5 : decode cX14_readPart 5 = .ok (.aload_n 0, 1) := by decide +kernel
theorem dX14_readPart_6 : decode cX14_readPart 6 = .ok (.iload_n 2, 1) := by decide +kernel
theorem dX14_readPart_7 : decode cX14_readPart 7 = .ok (.iload_n 3, 1) := by decide +kernel
theorem dX14_readPart_8 : decode cX14_readPart 8 = .ok (.invokevirtual 155, 3) := by decide +kernel
theorem dX14_readPart_11 : decode cX14_readPart 11 = .ok (.ireturn, 1) := by decide +kernel
set_option maxRecDepth 100000 in
set_option maxHeartbeats 4000000 in
theorem mX14_readPart {E : goEv} {l : Launch} {G : goG} {N : Nat} {M : goMI} {L : goML} {R : goMR} {a1 : Nat} {v2 : Int32} {v3 : Int32} {r0 : Int32} {r1 : goMI} {r2 : goML} (hk : goKn E) (hW : goW G R) (h : fX14_readPart N M L a1 v2 v3 = some (r0, r1, r2)) : Met l yX14_readPart (goCd yX14_readPart cX14_readPart 4 (Option.some FieldType.int)) (goRoom 8 171 0 0) (goPre E [.ref 102, .ref a1, .int v2, .int v3] G M L R) (goQi E r0 G r1 r2 R) 0 0 (goSet E) := by
  refine goMet pl_RX14 hk (lv := [some (.ref 102), some (.ref a1), some (.int v2), some (.int v3)]) rfl (Nat.le_of_ble_eq_true rfl) ?_
  intro X hc hl hR hr hnm
  subst hl
  unfold fX14_readPart at h
  refine go_aload0 hc dX14_readPart_0 ?_
  refine go_aload1 hc dX14_readPart_1 ?_
  replace h := goB2_h h; obtain ⟨M11, L12, e13, h⟩ := h
  refine go_callVv hc dX14_readPart_2 (mX14_wants hk hW e13) ml_RX14_151 yk_X14_wants ⟨wim_X14_wants, wse_X14_wants⟩ hR rfl (sh_102 hW) rfl rfl rfl (Nat.le_of_ble_eq_true rfl) rfl ?_
  refine go_aload0 hc dX14_readPart_5 ?_
  refine go_iload2 hc dX14_readPart_6 ?_
  refine go_iload3 hc dX14_readPart_7 ?_
  replace h := goB3_h h; obtain ⟨x14, M15, L16, e17, h⟩ := h
  refine go_callVi hc dX14_readPart_8 (mX14_readWhole hk hW e17) ml_RX14_155 yk_X14_readWhole ⟨wim_X14_readWhole, wse_X14_readWhole⟩ hR rfl (sh_102 hW) rfl rfl rfl (Nat.le_of_ble_eq_true rfl) rfl ?_
  cases h
  exact go_iret hc dX14_readPart_11 hr
theorem dX14_isName_0 : decode cX14_isName 0 = .ok (.aload_n 0, 1) := by decide +kernel
theorem dX14_isName_1 : decode cX14_isName 1 = .ok (.getfield 94, 3) := by decide +kernel
theorem dX14_isName_4 : decode cX14_isName 4 = .ok (.iconst 2, 1) := by decide +kernel
theorem dX14_isName_5 : decode cX14_isName 5 = .ok (.if_icmp .ne 57, 3) := by decide +kernel
theorem dX14_isName_8 : decode cX14_isName 8 = .ok (.aload_n 0, 1) := by decide +kernel
theorem dX14_isName_9 : decode cX14_isName 9 = .ok (.ldc 159, 2) := by decide +kernel
theorem dX14_isName_11 : decode cX14_isName 11 = .ok (.invokevirtual 139, 3) := by decide +kernel
theorem dX14_isName_14 : decode cX14_isName 14 = .ok (.ifCond .ne 48, 3) := by decide +kernel
theorem dX14_isName_17 : decode cX14_isName 17 = .ok (.aload_n 0, 1) := by decide +kernel
theorem dX14_isName_18 : decode cX14_isName 18 = .ok (.ldc 161, 2) := by decide +kernel
theorem dX14_isName_20 : decode cX14_isName 20 = .ok (.invokevirtual 139, 3) := by decide +kernel
theorem dX14_isName_23 : decode cX14_isName 23 = .ok (.ifCond .ne 39, 3) := by decide +kernel
theorem dX14_isName_26 : decode cX14_isName 26 = .ok (.aload_n 0, 1) := by decide +kernel
theorem dX14_isName_27 : decode cX14_isName 27 = .ok (.ldc 162, 2) := by decide +kernel
theorem dX14_isName_29 : decode cX14_isName 29 = .ok (.invokevirtual 139, 3) := by decide +kernel
theorem dX14_isName_32 : decode cX14_isName 32 = .ok (.ifCond .ne 30, 3) := by decide +kernel
theorem dX14_isName_35 : decode cX14_isName 35 = .ok (.aload_n 0, 1) := by decide +kernel
theorem dX14_isName_36 : decode cX14_isName 36 = .ok (.ldc 164, 2) := by decide +kernel
theorem dX14_isName_38 : decode cX14_isName 38 = .ok (.invokevirtual 139, 3) := by decide +kernel
theorem dX14_isName_41 : decode cX14_isName 41 = .ok (.ifCond .ne 21, 3) := by decide +kernel
theorem dX14_isName_44 : decode cX14_isName 44 = .ok (.aload_n 0, 1) := by decide +kernel
theorem dX14_isName_45 : decode cX14_isName 45 = .ok (.ldc 166, 2) := by decide +kernel
theorem dX14_isName_47 : decode cX14_isName 47 = .ok (.invokevirtual 139, 3) := by decide +kernel
theorem dX14_isName_50 : decode cX14_isName 50 = .ok (.ifCond .ne 12, 3) := by decide +kernel
theorem dX14_isName_53 : decode cX14_isName 53 = .ok (.aload_n 0, 1) := by decide +kernel
theorem dX14_isName_54 : decode cX14_isName 54 = .ok (.ldc 168, 2) := by decide +kernel
theorem dX14_isName_56 : decode cX14_isName 56 = .ok (.invokevirtual 139, 3) := by decide +kernel
theorem dX14_isName_59 : decode cX14_isName 59 = .ok (.ifCond .eq 5, 3) := by decide +kernel
theorem dX14_isName_62 : decode cX14_isName 62 = .ok (.iconst 0, 1) := by decide +kernel
theorem dX14_isName_63 : decode cX14_isName 63 = .ok (.ireturn, 1) := by decide +kernel
theorem dX14_isName_64 : decode cX14_isName 64 = .ok (.aload_n 0, 1) := by decide +kernel
theorem dX14_isName_65 : decode cX14_isName 65 = .ok (.ldc 170, 2) := by decide +kernel
theorem dX14_isName_67 : decode cX14_isName 67 = .ok (.invokevirtual 139, 3) := by decide +kernel
theorem dX14_isName_70 : decode cX14_isName 70 = .ok (.ifCond .ne 48, 3) := by decide +kernel
theorem dX14_isName_73 : decode cX14_isName 73 = .ok (.aload_n 0, 1) := by decide +kernel
theorem dX14_isName_74 : decode cX14_isName 74 = .ok (.ldc 172, 2) := by decide +kernel
theorem dX14_isName_76 : decode cX14_isName 76 = .ok (.invokevirtual 139, 3) := by decide +kernel
theorem dX14_isName_79 : decode cX14_isName 79 = .ok (.ifCond .ne 39, 3) := by decide +kernel
theorem dX14_isName_82 : decode cX14_isName 82 = .ok (.aload_n 0, 1) := by decide +kernel
theorem dX14_isName_83 : decode cX14_isName 83 = .ok (.ldc 174, 2) := by decide +kernel
theorem dX14_isName_85 : decode cX14_isName 85 = .ok (.invokevirtual 139, 3) := by decide +kernel
theorem dX14_isName_88 : decode cX14_isName 88 = .ok (.ifCond .ne 30, 3) := by decide +kernel
theorem dX14_isName_91 : decode cX14_isName 91 = .ok (.aload_n 0, 1) := by decide +kernel
theorem dX14_isName_92 : decode cX14_isName 92 = .ok (.ldc 176, 2) := by decide +kernel
theorem dX14_isName_94 : decode cX14_isName 94 = .ok (.invokevirtual 139, 3) := by decide +kernel
theorem dX14_isName_97 : decode cX14_isName 97 = .ok (.ifCond .ne 21, 3) := by decide +kernel
theorem dX14_isName_100 : decode cX14_isName 100 = .ok (.aload_n 0, 1) := by decide +kernel
theorem dX14_isName_101 : decode cX14_isName 101 = .ok (.ldc 178, 2) := by decide +kernel
theorem dX14_isName_103 : decode cX14_isName 103 = .ok (.invokevirtual 139, 3) := by decide +kernel
theorem dX14_isName_106 : decode cX14_isName 106 = .ok (.ifCond .ne 12, 3) := by decide +kernel
theorem dX14_isName_109 : decode cX14_isName 109 = .ok (.aload_n 0, 1) := by decide +kernel
theorem dX14_isName_110 : decode cX14_isName 110 = .ok (.ldc 180, 2) := by decide +kernel
theorem dX14_isName_112 : decode cX14_isName 112 = .ok (.invokevirtual 139, 3) := by decide +kernel
theorem dX14_isName_115 : decode cX14_isName 115 = .ok (.ifCond .eq 5, 3) := by decide +kernel
theorem dX14_isName_118 : decode cX14_isName 118 = .ok (.iconst 0, 1) := by decide +kernel
theorem dX14_isName_119 : decode cX14_isName 119 = .ok (.ireturn, 1) := by decide +kernel
theorem dX14_isName_120 : decode cX14_isName 120 = .ok (.aload_n 0, 1) := by decide +kernel
theorem dX14_isName_121 : decode cX14_isName 121 = .ok (.ldc 182, 2) := by decide +kernel
theorem dX14_isName_123 : decode cX14_isName 123 = .ok (.invokevirtual 139, 3) := by decide +kernel
theorem dX14_isName_126 : decode cX14_isName 126 = .ok (.ifCond .ne 43, 3) := by decide +kernel
theorem dX14_isName_129 : decode cX14_isName 129 = .ok (.aload_n 0, 1) := by decide +kernel
theorem dX14_isName_130 : decode cX14_isName 130 = .ok (.ldc 184, 2) := by decide +kernel
theorem dX14_isName_132 : decode cX14_isName 132 = .ok (.invokevirtual 139, 3) := by decide +kernel
theorem dX14_isName_135 : decode cX14_isName 135 = .ok (.ifCond .ne 34, 3) := by decide +kernel
theorem dX14_isName_138 : decode cX14_isName 138 = .ok (.aload_n 0, 1) := by decide +kernel
theorem dX14_isName_139 : decode cX14_isName 139 = .ok (.ldc 186, 2) := by decide +kernel
theorem dX14_isName_141 : decode cX14_isName 141 = .ok (.invokevirtual 139, 3) := by decide +kernel
theorem dX14_isName_144 : decode cX14_isName 144 = .ok (.ifCond .ne 25, 3) := by decide +kernel
theorem dX14_isName_147 : decode cX14_isName 147 = .ok (.aload_n 0, 1) := by decide +kernel
theorem dX14_isName_148 : decode cX14_isName 148 = .ok (.ldc 188, 2) := by decide +kernel
theorem dX14_isName_150 : decode cX14_isName 150 = .ok (.invokevirtual 139, 3) := by decide +kernel
theorem dX14_isName_153 : decode cX14_isName 153 = .ok (.ifCond .ne 16, 3) := by decide +kernel
theorem dX14_isName_156 : decode cX14_isName 156 = .ok (.aload_n 0, 1) := by decide +kernel
theorem dX14_isName_157 : decode cX14_isName 157 = .ok (.ldc 190, 2) := by decide +kernel
theorem dX14_isName_159 : decode cX14_isName 159 = .ok (.invokevirtual 139, 3) := by decide +kernel
theorem dX14_isName_162 : decode cX14_isName 162 = .ok (.ifCond .ne 7, 3) := by decide +kernel
theorem dX14_isName_165 : decode cX14_isName 165 = .ok (.iconst 1, 1) := by decide +kernel
theorem dX14_isName_166 : decode cX14_isName 166 = .ok (.goto 4, 3) := by decide +kernel
theorem dX14_isName_169 : decode cX14_isName 169 = .ok (.iconst 0, 1) := by decide +kernel
theorem dX14_isName_170 : decode cX14_isName 170 = .ok (.ireturn, 1) := by decide +kernel
set_option maxRecDepth 100000 in
set_option maxHeartbeats 4000000 in
theorem mX14_isName {E : goEv} {l : Launch} {G : goG} {N : Nat} {M : goMI} {L : goML} {R : goMR} {r0 : Int32} (hk : goKn E) (hW : goW G R) (h : fX14_isName N M L = some r0) : Met l yX14_isName (goCd yX14_isName cX14_isName 1 (Option.some FieldType.boolean)) (goRoom 7 150 0 0) (goPre E [.ref 102] G M L R) (goQi E r0 G M L R) 0 0 (goSet E) := by
  refine goMet pl_RX14 hk (lv := [some (.ref 102)]) rfl (Nat.le_of_ble_eq_true rfl) ?_
  intro X hc hl hR hr hnm
  subst hl
  unfold fX14_isName at h
  refine go_aload0 hc dX14_isName_0 ?_
  refine go_getI hc lk_RX14_94 dX14_isName_1 (sh_102 hW) ?_
  refine go_iconst (v := 2) hc dX14_isName_4 rfl ?_
  refine go_icmp_ne hc 62 dX14_isName_5 rfl (fun c11 => ?_) (fun c11 => ?_)
  · replace h := goIfF h c11
    refine go_iconst (v := 0) hc dX14_isName_62 rfl ?_
    cases h
    exact go_zret hc dX14_isName_63 hr rfl
  · replace h := goIfT h c11
    refine go_aload0 hc dX14_isName_8 ?_
    refine go_ldcS hc (i := 30) (q := 1000130) (Nat.le_of_ble_eq_true rfl) rfl rfl rfl dX14_isName_9 ?_
    replace h := goBind h; obtain ⟨x12, e13, h⟩ := h
    refine go_callVi hc dX14_isName_11 (mX14_isWord hk hW e13) ml_RX14_139 yk_X14_isWord ⟨wim_X14_isWord, wse_X14_isWord⟩ hR rfl (sh_102 hW) rfl rfl rfl (Nat.le_of_ble_eq_true rfl) rfl ?_
    refine go_if_ne hc 62 dX14_isName_14 rfl (fun c14 => ?_) (fun c14 => ?_)
    · replace h := goIfF h c14
      refine go_iconst (v := 0) hc dX14_isName_62 rfl ?_
      cases h
      exact go_zret hc dX14_isName_63 hr rfl
    · replace h := goIfT h c14
      refine go_aload0 hc dX14_isName_17 ?_
      refine go_ldcS hc (i := 31) (q := 1000131) (Nat.le_of_ble_eq_true rfl) rfl rfl rfl dX14_isName_18 ?_
      replace h := goBind h; obtain ⟨x15, e16, h⟩ := h
      refine go_callVi hc dX14_isName_20 (mX14_isWord hk hW e16) ml_RX14_139 yk_X14_isWord ⟨wim_X14_isWord, wse_X14_isWord⟩ hR rfl (sh_102 hW) rfl rfl rfl (Nat.le_of_ble_eq_true rfl) rfl ?_
      refine go_if_ne hc 62 dX14_isName_23 rfl (fun c17 => ?_) (fun c17 => ?_)
      · replace h := goIfF h c17
        refine go_iconst (v := 0) hc dX14_isName_62 rfl ?_
        cases h
        exact go_zret hc dX14_isName_63 hr rfl
      · replace h := goIfT h c17
        refine go_aload0 hc dX14_isName_26 ?_
        refine go_ldcS hc (i := 32) (q := 1000132) (Nat.le_of_ble_eq_true rfl) rfl rfl rfl dX14_isName_27 ?_
        replace h := goBind h; obtain ⟨x18, e19, h⟩ := h
        refine go_callVi hc dX14_isName_29 (mX14_isWord hk hW e19) ml_RX14_139 yk_X14_isWord ⟨wim_X14_isWord, wse_X14_isWord⟩ hR rfl (sh_102 hW) rfl rfl rfl (Nat.le_of_ble_eq_true rfl) rfl ?_
        refine go_if_ne hc 62 dX14_isName_32 rfl (fun c20 => ?_) (fun c20 => ?_)
        · replace h := goIfF h c20
          refine go_iconst (v := 0) hc dX14_isName_62 rfl ?_
          cases h
          exact go_zret hc dX14_isName_63 hr rfl
        · replace h := goIfT h c20
          refine go_aload0 hc dX14_isName_35 ?_
          refine go_ldcS hc (i := 33) (q := 1000133) (Nat.le_of_ble_eq_true rfl) rfl rfl rfl dX14_isName_36 ?_
          replace h := goBind h; obtain ⟨x21, e22, h⟩ := h
          refine go_callVi hc dX14_isName_38 (mX14_isWord hk hW e22) ml_RX14_139 yk_X14_isWord ⟨wim_X14_isWord, wse_X14_isWord⟩ hR rfl (sh_102 hW) rfl rfl rfl (Nat.le_of_ble_eq_true rfl) rfl ?_
          refine go_if_ne hc 62 dX14_isName_41 rfl (fun c23 => ?_) (fun c23 => ?_)
          · replace h := goIfF h c23
            refine go_iconst (v := 0) hc dX14_isName_62 rfl ?_
            cases h
            exact go_zret hc dX14_isName_63 hr rfl
          · replace h := goIfT h c23
            refine go_aload0 hc dX14_isName_44 ?_
            refine go_ldcS hc (i := 34) (q := 1000134) (Nat.le_of_ble_eq_true rfl) rfl rfl rfl dX14_isName_45 ?_
            replace h := goBind h; obtain ⟨x24, e25, h⟩ := h
            refine go_callVi hc dX14_isName_47 (mX14_isWord hk hW e25) ml_RX14_139 yk_X14_isWord ⟨wim_X14_isWord, wse_X14_isWord⟩ hR rfl (sh_102 hW) rfl rfl rfl (Nat.le_of_ble_eq_true rfl) rfl ?_
            refine go_if_ne hc 62 dX14_isName_50 rfl (fun c26 => ?_) (fun c26 => ?_)
            · replace h := goIfF h c26
              refine go_iconst (v := 0) hc dX14_isName_62 rfl ?_
              cases h
              exact go_zret hc dX14_isName_63 hr rfl
            · replace h := goIfT h c26
              refine go_aload0 hc dX14_isName_53 ?_
              refine go_ldcS hc (i := 35) (q := 1000135) (Nat.le_of_ble_eq_true rfl) rfl rfl rfl dX14_isName_54 ?_
              replace h := goBind h; obtain ⟨x27, e28, h⟩ := h
              refine go_callVi hc dX14_isName_56 (mX14_isWord hk hW e28) ml_RX14_139 yk_X14_isWord ⟨wim_X14_isWord, wse_X14_isWord⟩ hR rfl (sh_102 hW) rfl rfl rfl (Nat.le_of_ble_eq_true rfl) rfl ?_
              refine go_if_eq hc 64 dX14_isName_59 rfl (fun c29 => ?_) (fun c29 => ?_)
              · replace h := goIfT h c29
                refine go_aload0 hc dX14_isName_64 ?_
                refine go_ldcS hc (i := 36) (q := 1000136) (Nat.le_of_ble_eq_true rfl) rfl rfl rfl dX14_isName_65 ?_
                replace h := goBind h; obtain ⟨x30, e31, h⟩ := h
                refine go_callVi hc dX14_isName_67 (mX14_isWord hk hW e31) ml_RX14_139 yk_X14_isWord ⟨wim_X14_isWord, wse_X14_isWord⟩ hR rfl (sh_102 hW) rfl rfl rfl (Nat.le_of_ble_eq_true rfl) rfl ?_
                refine go_if_ne hc 118 dX14_isName_70 rfl (fun c32 => ?_) (fun c32 => ?_)
                · replace h := goIfF h c32
                  refine go_iconst (v := 0) hc dX14_isName_118 rfl ?_
                  cases h
                  exact go_zret hc dX14_isName_119 hr rfl
                · replace h := goIfT h c32
                  refine go_aload0 hc dX14_isName_73 ?_
                  refine go_ldcS hc (i := 37) (q := 1000137) (Nat.le_of_ble_eq_true rfl) rfl rfl rfl dX14_isName_74 ?_
                  replace h := goBind h; obtain ⟨x33, e34, h⟩ := h
                  refine go_callVi hc dX14_isName_76 (mX14_isWord hk hW e34) ml_RX14_139 yk_X14_isWord ⟨wim_X14_isWord, wse_X14_isWord⟩ hR rfl (sh_102 hW) rfl rfl rfl (Nat.le_of_ble_eq_true rfl) rfl ?_
                  refine go_if_ne hc 118 dX14_isName_79 rfl (fun c35 => ?_) (fun c35 => ?_)
                  · replace h := goIfF h c35
                    refine go_iconst (v := 0) hc dX14_isName_118 rfl ?_
                    cases h
                    exact go_zret hc dX14_isName_119 hr rfl
                  · replace h := goIfT h c35
                    refine go_aload0 hc dX14_isName_82 ?_
                    refine go_ldcS hc (i := 38) (q := 1000138) (Nat.le_of_ble_eq_true rfl) rfl rfl rfl dX14_isName_83 ?_
                    replace h := goBind h; obtain ⟨x36, e37, h⟩ := h
                    refine go_callVi hc dX14_isName_85 (mX14_isWord hk hW e37) ml_RX14_139 yk_X14_isWord ⟨wim_X14_isWord, wse_X14_isWord⟩ hR rfl (sh_102 hW) rfl rfl rfl (Nat.le_of_ble_eq_true rfl) rfl ?_
                    refine go_if_ne hc 118 dX14_isName_88 rfl (fun c38 => ?_) (fun c38 => ?_)
                    · replace h := goIfF h c38
                      refine go_iconst (v := 0) hc dX14_isName_118 rfl ?_
                      cases h
                      exact go_zret hc dX14_isName_119 hr rfl
                    · replace h := goIfT h c38
                      refine go_aload0 hc dX14_isName_91 ?_
                      refine go_ldcS hc (i := 39) (q := 1000139) (Nat.le_of_ble_eq_true rfl) rfl rfl rfl dX14_isName_92 ?_
                      replace h := goBind h; obtain ⟨x39, e40, h⟩ := h
                      refine go_callVi hc dX14_isName_94 (mX14_isWord hk hW e40) ml_RX14_139 yk_X14_isWord ⟨wim_X14_isWord, wse_X14_isWord⟩ hR rfl (sh_102 hW) rfl rfl rfl (Nat.le_of_ble_eq_true rfl) rfl ?_
                      refine go_if_ne hc 118 dX14_isName_97 rfl (fun c41 => ?_) (fun c41 => ?_)
                      · replace h := goIfF h c41
                        refine go_iconst (v := 0) hc dX14_isName_118 rfl ?_
                        cases h
                        exact go_zret hc dX14_isName_119 hr rfl
                      · replace h := goIfT h c41
                        refine go_aload0 hc dX14_isName_100 ?_
                        refine go_ldcS hc (i := 40) (q := 1000140) (Nat.le_of_ble_eq_true rfl) rfl rfl rfl dX14_isName_101 ?_
                        replace h := goBind h; obtain ⟨x42, e43, h⟩ := h
                        refine go_callVi hc dX14_isName_103 (mX14_isWord hk hW e43) ml_RX14_139 yk_X14_isWord ⟨wim_X14_isWord, wse_X14_isWord⟩ hR rfl (sh_102 hW) rfl rfl rfl (Nat.le_of_ble_eq_true rfl) rfl ?_
                        refine go_if_ne hc 118 dX14_isName_106 rfl (fun c44 => ?_) (fun c44 => ?_)
                        · replace h := goIfF h c44
                          refine go_iconst (v := 0) hc dX14_isName_118 rfl ?_
                          cases h
                          exact go_zret hc dX14_isName_119 hr rfl
                        · replace h := goIfT h c44
                          refine go_aload0 hc dX14_isName_109 ?_
                          refine go_ldcS hc (i := 41) (q := 1000141) (Nat.le_of_ble_eq_true rfl) rfl rfl rfl dX14_isName_110 ?_
                          replace h := goBind h; obtain ⟨x45, e46, h⟩ := h
                          refine go_callVi hc dX14_isName_112 (mX14_isWord hk hW e46) ml_RX14_139 yk_X14_isWord ⟨wim_X14_isWord, wse_X14_isWord⟩ hR rfl (sh_102 hW) rfl rfl rfl (Nat.le_of_ble_eq_true rfl) rfl ?_
                          refine go_if_eq hc 120 dX14_isName_115 rfl (fun c47 => ?_) (fun c47 => ?_)
                          · replace h := goIfT h c47
                            refine go_aload0 hc dX14_isName_120 ?_
                            refine go_ldcS hc (i := 42) (q := 1000142) (Nat.le_of_ble_eq_true rfl) rfl rfl rfl dX14_isName_121 ?_
                            replace h := goBind h; obtain ⟨x48, e49, h⟩ := h
                            refine go_callVi hc dX14_isName_123 (mX14_isWord hk hW e49) ml_RX14_139 yk_X14_isWord ⟨wim_X14_isWord, wse_X14_isWord⟩ hR rfl (sh_102 hW) rfl rfl rfl (Nat.le_of_ble_eq_true rfl) rfl ?_
                            refine go_if_ne hc 169 dX14_isName_126 rfl (fun c50 => ?_) (fun c50 => ?_)
                            · replace h := goIfF h c50
                              refine go_iconst (v := 0) hc dX14_isName_169 rfl ?_
                              cases h
                              exact go_zret hc dX14_isName_170 hr rfl
                            · replace h := goIfT h c50
                              refine go_aload0 hc dX14_isName_129 ?_
                              refine go_ldcS hc (i := 43) (q := 1000143) (Nat.le_of_ble_eq_true rfl) rfl rfl rfl dX14_isName_130 ?_
                              replace h := goBind h; obtain ⟨x51, e52, h⟩ := h
                              refine go_callVi hc dX14_isName_132 (mX14_isWord hk hW e52) ml_RX14_139 yk_X14_isWord ⟨wim_X14_isWord, wse_X14_isWord⟩ hR rfl (sh_102 hW) rfl rfl rfl (Nat.le_of_ble_eq_true rfl) rfl ?_
                              refine go_if_ne hc 169 dX14_isName_135 rfl (fun c53 => ?_) (fun c53 => ?_)
                              · replace h := goIfF h c53
                                refine go_iconst (v := 0) hc dX14_isName_169 rfl ?_
                                cases h
                                exact go_zret hc dX14_isName_170 hr rfl
                              · replace h := goIfT h c53
                                refine go_aload0 hc dX14_isName_138 ?_
                                refine go_ldcS hc (i := 44) (q := 1000144) (Nat.le_of_ble_eq_true rfl) rfl rfl rfl dX14_isName_139 ?_
                                replace h := goBind h; obtain ⟨x54, e55, h⟩ := h
                                refine go_callVi hc dX14_isName_141 (mX14_isWord hk hW e55) ml_RX14_139 yk_X14_isWord ⟨wim_X14_isWord, wse_X14_isWord⟩ hR rfl (sh_102 hW) rfl rfl rfl (Nat.le_of_ble_eq_true rfl) rfl ?_
                                refine go_if_ne hc 169 dX14_isName_144 rfl (fun c56 => ?_) (fun c56 => ?_)
                                · replace h := goIfF h c56
                                  refine go_iconst (v := 0) hc dX14_isName_169 rfl ?_
                                  cases h
                                  exact go_zret hc dX14_isName_170 hr rfl
                                · replace h := goIfT h c56
                                  refine go_aload0 hc dX14_isName_147 ?_
                                  refine go_ldcS hc (i := 45) (q := 1000145) (Nat.le_of_ble_eq_true rfl) rfl rfl rfl dX14_isName_148 ?_
                                  replace h := goBind h; obtain ⟨x57, e58, h⟩ := h
                                  refine go_callVi hc dX14_isName_150 (mX14_isWord hk hW e58) ml_RX14_139 yk_X14_isWord ⟨wim_X14_isWord, wse_X14_isWord⟩ hR rfl (sh_102 hW) rfl rfl rfl (Nat.le_of_ble_eq_true rfl) rfl ?_
                                  refine go_if_ne hc 169 dX14_isName_153 rfl (fun c59 => ?_) (fun c59 => ?_)
                                  · replace h := goIfF h c59
                                    refine go_iconst (v := 0) hc dX14_isName_169 rfl ?_
                                    cases h
                                    exact go_zret hc dX14_isName_170 hr rfl
                                  · replace h := goIfT h c59
                                    refine go_aload0 hc dX14_isName_156 ?_
                                    refine go_ldcS hc (i := 46) (q := 1000146) (Nat.le_of_ble_eq_true rfl) rfl rfl rfl dX14_isName_157 ?_
                                    replace h := goBind h; obtain ⟨x60, e61, h⟩ := h
                                    refine go_callVi hc dX14_isName_159 (mX14_isWord hk hW e61) ml_RX14_139 yk_X14_isWord ⟨wim_X14_isWord, wse_X14_isWord⟩ hR rfl (sh_102 hW) rfl rfl rfl (Nat.le_of_ble_eq_true rfl) rfl ?_
                                    refine go_if_ne hc 169 dX14_isName_162 rfl (fun c62 => ?_) (fun c62 => ?_)
                                    · replace h := goIfF h c62
                                      refine go_iconst (v := 0) hc dX14_isName_169 rfl ?_
                                      cases h
                                      exact go_zret hc dX14_isName_170 hr rfl
                                    · replace h := goIfT h c62
                                      refine go_iconst (v := 1) hc dX14_isName_165 rfl ?_
                                      refine go_goto hc 170 dX14_isName_166 rfl ?_
                                      cases h
                                      exact go_zret hc dX14_isName_170 hr rfl
                          · replace h := goIfF h c47
                            refine go_iconst (v := 0) hc dX14_isName_118 rfl ?_
                            cases h
                            exact go_zret hc dX14_isName_119 hr rfl
              · replace h := goIfF h c29
                refine go_iconst (v := 0) hc dX14_isName_62 rfl ?_
                cases h
                exact go_zret hc dX14_isName_63 hr rfl
theorem dX14_begins_0 : decode cX14_begins 0 = .ok (.iload_n 1, 1) := by decide +kernel
theorem dX14_begins_1 : decode cX14_begins 1 = .ok (.iload_n 2, 1) := by decide +kernel
theorem dX14_begins_2 : decode cX14_begins 2 = .ok (.if_icmp .ne 8, 3) := by decide +kernel
theorem dX14_begins_5 : decode cX14_begins 5 = .ok (.aload_n 0, 1) := by decide +kernel
theorem dX14_begins_6 : decode cX14_begins 6 = .ok (.iconst 5, 1) := by decide +kernel
theorem dX14_begins_7 : decode cX14_begins 7 = .ok (.invokevirtual 143, 3) := by decide +kernel
theorem dX14_begins_10 : decode cX14_begins 10 = .ok (.aload_n 0, 1) := by decide +kernel
theorem dX14_begins_11 : decode cX14_begins 11 = .ok (.getfield 192, 3) := by decide +kernel
theorem dX14_begins_14 : decode cX14_begins 14 = .ok (.getfield 196, 3) := by decide +kernel
theorem dX14_begins_17 : decode cX14_begins 17 = .ok (.ifCond .ne 9, 3) := by decide +kernel
theorem dX14_begins_20 : decode cX14_begins 20 = .ok (.aload_n 0, 1) := by decide +kernel
theorem dX14_begins_21 : decode cX14_begins 21 = .ok (.bipush 6, 2) := by decide +kernel
theorem dX14_begins_23 : decode cX14_begins 23 = .ok (.invokevirtual 143, 3) := by decide +kernel
theorem dX14_begins_26 : decode cX14_begins 26 = .ok (.aload_n 0, 1) := by decide +kernel
theorem dX14_begins_27 : decode cX14_begins 27 = .ok (.invokevirtual 136, 3) := by decide +kernel
theorem dX14_begins_30 : decode cX14_begins 30 = .ok (.return_, 1) := by decide +kernel
set_option maxRecDepth 100000 in
set_option maxHeartbeats 4000000 in
theorem mX14_begins {E : goEv} {l : Launch} {G : goG} {N : Nat} {M : goMI} {L : goML} {R : goMR} {v1 : Int32} {v2 : Int32} {r0 : goMI} {r1 : goML} (hk : goKn E) (hW : goW G R) (h : fX14_begins N M L R v1 v2 = some (r0, r1)) : Met l yX14_begins (goCd yX14_begins cX14_begins 3 none) (goRoom 2 43 0 0) (goPre E [.ref 102, .int v1, .int v2] G M L R) (goQv E G r0 r1 R) 0 0 (goSet E) := by
  refine goMet pl_RX14 hk (lv := [some (.ref 102), some (.int v1), some (.int v2)]) rfl (Nat.le_of_ble_eq_true rfl) ?_
  intro X hc hl hR hr hnm
  subst hl
  unfold fX14_begins at h
  refine go_iload1 hc dX14_begins_0 ?_
  refine go_iload2 hc dX14_begins_1 ?_
  replace h := goBind h; obtain ⟨M11, e12, h⟩ := h
  have k13 : ∀ (d1 d2 : Option Value), goA E X G 0 0 (goMQ X E (goQv E G r0 r1 R) 0 0) 10 [some (.ref 102), d1, d2] [] M11 L R := by
    intro d1 d2
    refine go_aload0 hc dX14_begins_10 ?_
    replace h := goBind h; obtain ⟨b17, e18, h⟩ := h
    refine go_getR hc lk_RX14_192 dX14_begins_11 (sh_102 hW) e18 ?_
    refine go_getI hc lk_RX14_196 dX14_begins_14 (shM_0 (goW_M4 hW e18)) ?_
    replace h := goBind h; obtain ⟨M19, e20, h⟩ := h
    have k21 : ∀ (d1 d2 : Option Value), goA E X G 0 0 (goMQ X E (goQv E G r0 r1 R) 0 0) 26 [some (.ref 102), d1, d2] [] M19 L R := by
      intro d1 d2
      refine go_aload0 hc dX14_begins_26 ?_
      replace h := goB2_h h; obtain ⟨M25, L26, e27, h⟩ := h
      refine go_callVv hc dX14_begins_27 (mX14_goesOn hk hW e27) ml_RX14_136 yk_X14_goesOn ⟨wim_X14_goesOn, wse_X14_goesOn⟩ hR rfl (sh_102 hW) rfl rfl rfl (Nat.le_of_ble_eq_true rfl) rfl ?_
      cases h
      exact go_vret hc dX14_begins_30 hr
    refine go_if_ne hc 26 dX14_begins_17 rfl (fun c22 => ?_) (fun c22 => ?_)
    · replace e20 := goIfF e20 c22
      cases e20
      exact k21 _ _
    · replace e20 := goIfT e20 c22
      refine go_aload0 hc dX14_begins_20 ?_
      refine go_bipush (v := 6) hc dX14_begins_21 rfl ?_
      replace e20 := goBind e20; obtain ⟨M23, e24, e20⟩ := e20
      refine go_callVv hc dX14_begins_23 (mX14_flaw hk hW e24) ml_RX14_143 yk_X14_flaw ⟨wim_X14_flaw, wse_X14_flaw⟩ hR rfl (sh_102 hW) rfl rfl rfl (Nat.le_of_ble_eq_true rfl) rfl ?_
      cases e20
      exact k21 _ _
  refine go_icmp_ne hc 10 dX14_begins_2 rfl (fun c14 => ?_) (fun c14 => ?_)
  · replace e12 := goIfF e12 c14
    cases e12
    exact k13 _ _
  · replace e12 := goIfT e12 c14
    refine go_aload0 hc dX14_begins_5 ?_
    refine go_iconst (v := 5) hc dX14_begins_6 rfl ?_
    replace e12 := goBind e12; obtain ⟨M15, e16, e12⟩ := e12
    refine go_callVv hc dX14_begins_7 (mX14_flaw hk hW e16) ml_RX14_143 yk_X14_flaw ⟨wim_X14_flaw, wse_X14_flaw⟩ hR rfl (sh_102 hW) rfl rfl rfl (Nat.le_of_ble_eq_true rfl) rfl ?_
    cases e12
    exact k13 _ _
theorem dX14_beginsOnce_0 : decode cX14_beginsOnce 0 = .ok (.iload_n 1, 1) := by decide +kernel
theorem dX14_beginsOnce_1 : decode cX14_beginsOnce 1 = .ok (.ifCond .eq 8, 3) := by decide +kernel
theorem dX14_beginsOnce_4 : decode cX14_beginsOnce 4 = .ok (.aload_n 0, 1) := by decide +kernel
theorem dX14_beginsOnce_5 : decode cX14_beginsOnce 5 = .ok (.iconst 3, 1) := by decide +kernel
theorem dX14_beginsOnce_6 : decode cX14_beginsOnce 6 = .ok (.invokevirtual 143, 3) := by decide +kernel
theorem dX14_beginsOnce_9 : decode cX14_beginsOnce 9 = .ok (.aload_n 0, 1) := by decide +kernel
theorem dX14_beginsOnce_10 : decode cX14_beginsOnce 10 = .ok (.iconst 0, 1) := by decide +kernel
theorem dX14_beginsOnce_11 : decode cX14_beginsOnce 11 = .ok (.iconst 1, 1) := by decide +kernel
theorem dX14_beginsOnce_12 : decode cX14_beginsOnce 12 = .ok (.invokevirtual 201, 3) := by decide +kernel
theorem dX14_beginsOnce_15 : decode cX14_beginsOnce 15 = .ok (.return_, 1) := by decide +kernel
set_option maxRecDepth 100000 in
set_option maxHeartbeats 4000000 in
theorem mX14_beginsOnce {E : goEv} {l : Launch} {G : goG} {N : Nat} {M : goMI} {L : goML} {R : goMR} {v1 : Int32} {r0 : goMI} {r1 : goML} (hk : goKn E) (hW : goW G R) (h : fX14_beginsOnce N M L R v1 = some (r0, r1)) : Met l yX14_beginsOnce (goCd yX14_beginsOnce cX14_beginsOnce 2 none) (goRoom 3 65 0 0) (goPre E [.ref 102, .int v1] G M L R) (goQv E G r0 r1 R) 0 0 (goSet E) := by
  refine goMet pl_RX14 hk (lv := [some (.ref 102), some (.int v1)]) rfl (Nat.le_of_ble_eq_true rfl) ?_
  intro X hc hl hR hr hnm
  subst hl
  unfold fX14_beginsOnce at h
  refine go_iload1 hc dX14_beginsOnce_0 ?_
  replace h := goBind h; obtain ⟨M11, e12, h⟩ := h
  have k13 : ∀ (d1 : Option Value), goA E X G 0 0 (goMQ X E (goQv E G r0 r1 R) 0 0) 9 [some (.ref 102), d1] [] M11 L R := by
    intro d1
    refine go_aload0 hc dX14_beginsOnce_9 ?_
    refine go_iconst (v := 0) hc dX14_beginsOnce_10 rfl ?_
    refine go_iconst (v := 1) hc dX14_beginsOnce_11 rfl ?_
    replace h := goB2_h h; obtain ⟨M17, L18, e19, h⟩ := h
    refine go_callVv hc dX14_beginsOnce_12 (mX14_begins hk hW e19) ml_RX14_201 yk_X14_begins ⟨wim_X14_begins, wse_X14_begins⟩ hR rfl (sh_102 hW) rfl rfl rfl (Nat.le_of_ble_eq_true rfl) rfl ?_
    cases h
    exact go_vret hc dX14_beginsOnce_15 hr
  refine go_if_eq hc 9 dX14_beginsOnce_1 rfl (fun c14 => ?_) (fun c14 => ?_)
  · replace e12 := goIfT e12 c14
    cases e12
    exact k13 _
  · replace e12 := goIfF e12 c14
    refine go_aload0 hc dX14_beginsOnce_4 ?_
    refine go_iconst (v := 3) hc dX14_beginsOnce_5 rfl ?_
    replace e12 := goBind e12; obtain ⟨M15, e16, e12⟩ := e12
    refine go_callVv hc dX14_beginsOnce_6 (mX14_flaw hk hW e16) ml_RX14_143 yk_X14_flaw ⟨wim_X14_flaw, wse_X14_flaw⟩ hR rfl (sh_102 hW) rfl rfl rfl (Nat.le_of_ble_eq_true rfl) rfl ?_
    cases e12
    exact k13 _
theorem dX14_readFresh_0 : decode cX14_readFresh 0 = .ok (.aload_n 0, 1) := by decide +kernel
theorem dX14_readFresh_1 : decode cX14_readFresh 1 = .ok (.invokevirtual 205, 3) := by decide +kernel
theorem dX14_readFresh_4 : decode cX14_readFresh 4 = .ok (.ifCond .ne 8, 3) := by decide +kernel
theorem dX14_readFresh_7 : decode cX14_readFresh 7 = .ok (.aload_n 0, 1) := by decide +kernel
theorem dX14_readFresh_8 : decode cX14_readFresh 8 = .ok (.iconst 1, 1) := by decide +kernel
theorem dX14_readFresh_9 : decode cX14_readFresh 9 = .ok (.invokevirtual 143, 3) := by decide +kernel
theorem dX14_readFresh_12 : decode cX14_readFresh 12 = .ok (.aload_n 0, 1) := by decide +kernel
theorem dX14_readFresh_13 : decode cX14_readFresh 13 = .ok (.getfield 192, 3) := by decide +kernel
theorem dX14_readFresh_16 : decode cX14_readFresh 16 = .ok (.aload_n 0, 1) := by decide +kernel
theorem dX14_readFresh_17 : decode cX14_readFresh 17 = .ok (.getfield 113, 3) := by decide +kernel
theorem dX14_readFresh_20 : decode cX14_readFresh 20 = .ok (.invokevirtual 209, 3) := by decide +kernel
theorem dX14_readFresh_23 : decode cX14_readFresh 23 = .ok (.iconst (-1), 1) := by decide +kernel
theorem dX14_readFresh_24 : decode cX14_readFresh 24 = .ok (.if_icmp .eq 8, 3) := by decide +kernel
theorem dX14_readFresh_27 : decode cX14_readFresh 27 = .ok (.aload_n 0, 1) := by decide +kernel
theorem dX14_readFresh_28 : decode cX14_readFresh 28 = .ok (.iconst 3, 1) := by decide +kernel
theorem dX14_readFresh_29 : decode cX14_readFresh 29 = .ok (.invokevirtual 143, 3) := by decide +kernel
theorem dX14_readFresh_32 : decode cX14_readFresh 32 = .ok (.aload_n 0, 1) := by decide +kernel
theorem dX14_readFresh_33 : decode cX14_readFresh 33 = .ok (.getfield 113, 3) := by decide +kernel
theorem dX14_readFresh_36 : decode cX14_readFresh 36 = .ok (.lstore_n 1, 1) := by decide +kernel
theorem dX14_readFresh_37 : decode cX14_readFresh 37 = .ok (.aload_n 0, 1) := by decide +kernel
theorem dX14_readFresh_38 : decode cX14_readFresh 38 = .ok (.invokevirtual 136, 3) := by decide +kernel
theorem dX14_readFresh_41 : decode cX14_readFresh 41 = .ok (.lload_n 1, 1) := by decide +kernel
theorem dX14_readFresh_42 : decode cX14_readFresh 42 = .ok (.lreturn, 1) := by decide +kernel
set_option maxRecDepth 100000 in
set_option maxHeartbeats 4000000 in
theorem mX14_readFresh {E : goEv} {l : Launch} {G : goG} {N : Nat} {M : goMI} {L : goML} {R : goMR} {r0 : Int64} {r1 : goMI} {r2 : goML} (hk : goKn E) (hW : goW G R) (h : fX14_readFresh N M L R = some (r0, r1, r2)) : Met l yX14_readFresh (goCd yX14_readFresh cX14_readFresh 3 (Option.some FieldType.long)) (goRoom 8 170 0 0) (goPre E [.ref 102] G M L R) (goQl E r0 G r1 r2 R) 0 0 (goSet E) := by
  refine goMet pl_RX14 hk (lv := [some (.ref 102), none, none]) rfl (Nat.le_of_ble_eq_true rfl) ?_
  intro X hc hl hR hr hnm
  subst hl
  unfold fX14_readFresh at h
  refine go_aload0 hc dX14_readFresh_0 ?_
  replace h := goBind h; obtain ⟨x11, e12, h⟩ := h
  refine go_callVi hc dX14_readFresh_1 (mX14_isName hk hW e12) ml_RX14_205 yk_X14_isName ⟨wim_X14_isName, wse_X14_isName⟩ hR rfl (sh_102 hW) rfl rfl rfl (Nat.le_of_ble_eq_true rfl) rfl ?_
  replace h := goBind h; obtain ⟨M13, e14, h⟩ := h
  have k15 : ∀ (d1 d2 : Option Value), goA E X G 0 0 (goMQ X E (goQl E r0 G r1 r2 R) 0 0) 12 [some (.ref 102), d1, d2] [] M13 L R := by
    intro d1 d2
    refine go_aload0 hc dX14_readFresh_12 ?_
    replace h := goBind h; obtain ⟨b19, e20, h⟩ := h
    refine go_getR hc lk_RX14_192 dX14_readFresh_13 (sh_102 hW) e20 ?_
    refine go_aload0 hc dX14_readFresh_16 ?_
    refine go_getL hc lk_RX14_113 dX14_readFresh_17 (sh_102 hW) ?_
    replace h := goBind h; obtain ⟨x21, e22, h⟩ := h
    refine go_callVi hc dX14_readFresh_20 (mX13_find hk hW (goW_M4 hW e20) e22) ml_RX14_209 yk_X13_find ⟨wim_X13_find, wse_X13_find⟩ hR rfl (shM_0 (goW_M4 hW e20)) rfl rfl rfl (Nat.le_of_ble_eq_true rfl) rfl ?_
    refine go_iconst (v := (-1)) hc dX14_readFresh_23 rfl ?_
    replace h := goBind h; obtain ⟨M23, e24, h⟩ := h
    have k25 : ∀ (d1 d2 : Option Value), goA E X G 0 0 (goMQ X E (goQl E r0 G r1 r2 R) 0 0) 32 [some (.ref 102), d1, d2] [] M23 L R := by
      intro d1 d2
      refine go_aload0 hc dX14_readFresh_32 ?_
      refine go_getL hc lk_RX14_113 dX14_readFresh_33 (sh_102 hW) ?_
      replace h := goNm_x h; obtain ⟨x29, e30, h⟩ := h
      refine go_nmJ e30 ?_
      refine go_lstore1 hc dX14_readFresh_36 ?_
      refine go_aload0 hc dX14_readFresh_37 ?_
      replace h := goB2_h h; obtain ⟨M31, L32, e33, h⟩ := h
      refine go_callVv hc dX14_readFresh_38 (mX14_goesOn hk hW e33) ml_RX14_136 yk_X14_goesOn ⟨wim_X14_goesOn, wse_X14_goesOn⟩ hR rfl (sh_102 hW) rfl rfl rfl (Nat.le_of_ble_eq_true rfl) rfl ?_
      refine go_lload1 hc dX14_readFresh_41 ?_
      cases h
      exact go_lret hc dX14_readFresh_42 hr
    refine go_icmp_eq hc 32 dX14_readFresh_24 rfl (fun c26 => ?_) (fun c26 => ?_)
    · replace e24 := goIfT e24 c26
      cases e24
      exact k25 _ _
    · replace e24 := goIfF e24 c26
      refine go_aload0 hc dX14_readFresh_27 ?_
      refine go_iconst (v := 3) hc dX14_readFresh_28 rfl ?_
      replace e24 := goBind e24; obtain ⟨M27, e28, e24⟩ := e24
      refine go_callVv hc dX14_readFresh_29 (mX14_flaw hk hW e28) ml_RX14_143 yk_X14_flaw ⟨wim_X14_flaw, wse_X14_flaw⟩ hR rfl (sh_102 hW) rfl rfl rfl (Nat.le_of_ble_eq_true rfl) rfl ?_
      cases e24
      exact k25 _ _
  refine go_if_ne hc 12 dX14_readFresh_4 rfl (fun c16 => ?_) (fun c16 => ?_)
  · replace e14 := goIfF e14 c16
    cases e14
    exact k15 _ _
  · replace e14 := goIfT e14 c16
    refine go_aload0 hc dX14_readFresh_7 ?_
    refine go_iconst (v := 1) hc dX14_readFresh_8 rfl ?_
    replace e14 := goBind e14; obtain ⟨M17, e18, e14⟩ := e14
    refine go_callVv hc dX14_readFresh_9 (mX14_flaw hk hW e18) ml_RX14_143 yk_X14_flaw ⟨wim_X14_flaw, wse_X14_flaw⟩ hR rfl (sh_102 hW) rfl rfl rfl (Nat.le_of_ble_eq_true rfl) rfl ?_
    cases e14
    exact k15 _ _
theorem dX14_names_0 : decode cX14_names 0 = .ok (.aload_n 0, 1) := by decide +kernel
theorem dX14_names_1 : decode cX14_names 1 = .ok (.getfield 192, 3) := by decide +kernel
theorem dX14_names_4 : decode cX14_names 4 = .ok (.getfield 213, 3) := by decide +kernel
theorem dX14_names_7 : decode cX14_names 7 = .ok (.aload_n 0, 1) := by decide +kernel
theorem dX14_names_8 : decode cX14_names 8 = .ok (.getfield 192, 3) := by decide +kernel
theorem dX14_names_11 : decode cX14_names 11 = .ok (.getfield 217, 3) := by decide +kernel
theorem dX14_names_14 : decode cX14_names 14 = .ok (.lload_n 1, 1) := by decide +kernel
theorem dX14_names_15 : decode cX14_names 15 = .ok (.lastore, 1) := by decide +kernel
theorem dX14_names_16 : decode cX14_names 16 = .ok (.aload_n 0, 1) := by decide +kernel
theorem dX14_names_17 : decode cX14_names 17 = .ok (.getfield 192, 3) := by decide +kernel
theorem dX14_names_20 : decode cX14_names 20 = .ok (.getfield 220, 3) := by decide +kernel
theorem dX14_names_23 : decode cX14_names 23 = .ok (.aload_n 0, 1) := by decide +kernel
theorem dX14_names_24 : decode cX14_names 24 = .ok (.getfield 192, 3) := by decide +kernel
theorem dX14_names_27 : decode cX14_names 27 = .ok (.getfield 217, 3) := by decide +kernel
theorem dX14_names_30 : decode cX14_names 30 = .ok (.iload_n 3, 1) := by decide +kernel
theorem dX14_names_31 : decode cX14_names 31 = .ok (.iastore, 1) := by decide +kernel
theorem dX14_names_32 : decode cX14_names 32 = .ok (.aload_n 0, 1) := by decide +kernel
theorem dX14_names_33 : decode cX14_names 33 = .ok (.getfield 192, 3) := by decide +kernel
theorem dX14_names_36 : decode cX14_names 36 = .ok (.getfield 223, 3) := by decide +kernel
theorem dX14_names_39 : decode cX14_names 39 = .ok (.aload_n 0, 1) := by decide +kernel
theorem dX14_names_40 : decode cX14_names 40 = .ok (.getfield 192, 3) := by decide +kernel
theorem dX14_names_43 : decode cX14_names 43 = .ok (.getfield 217, 3) := by decide +kernel
theorem dX14_names_46 : decode cX14_names 46 = .ok (.iload 4, 2) := by decide +kernel
theorem dX14_names_48 : decode cX14_names 48 = .ok (.iastore, 1) := by decide +kernel
theorem dX14_names_49 : decode cX14_names 49 = .ok (.aload_n 0, 1) := by decide +kernel
theorem dX14_names_50 : decode cX14_names 50 = .ok (.getfield 192, 3) := by decide +kernel
theorem dX14_names_53 : decode cX14_names 53 = .ok (.dup, 1) := by decide +kernel
theorem dX14_names_54 : decode cX14_names 54 = .ok (.getfield 217, 3) := by decide +kernel
theorem dX14_names_57 : decode cX14_names 57 = .ok (.iconst 1, 1) := by decide +kernel
theorem dX14_names_58 : decode cX14_names 58 = .ok (.iadd, 1) := by decide +kernel
theorem dX14_names_59 : decode cX14_names 59 = .ok (.putfield 217, 3) := by decide +kernel
theorem dX14_names_62 : decode cX14_names 62 = .ok (.return_, 1) := by decide +kernel
set_option maxRecDepth 100000 in
set_option maxHeartbeats 4000000 in
theorem mX14_names {E : goEv} {l : Launch} {G : goG} {M : goMI} {L : goML} {R : goMR} {w1 : Int64} {v3 : Int32} {v4 : Int32} {r0 : goMI} {r1 : goML} (hk : goKn E) (hW : goW G R) (h : fX14_names M L R w1 v3 v4 = some (r0, r1)) : Met l yX14_names (goCd yX14_names cX14_names 5 none) (goRoom 0 0 0 0) (goPre E [.ref 102, .long w1, .int v3, .int v4] G M L R) (goQv E G r0 r1 R) 0 0 (goSet E) := by
  refine goMet pl_RX14 hk (lv := [some (.ref 102), some (.long w1), none, some (.int v3), some (.int v4)]) rfl (Nat.le_of_ble_eq_true rfl) ?_
  intro X hc hl hR hr hnm
  subst hl
  unfold fX14_names at h
  refine go_aload0 hc dX14_names_0 ?_
  replace h := goBind h; obtain ⟨b11, e12, h⟩ := h
  refine go_getR hc lk_RX14_192 dX14_names_1 (sh_102 hW) e12 ?_
  refine go_getR hc lk_RX14_213 dX14_names_4 (shM_0 (goW_M4 hW e12)) (rfM_38 (goW_M4 hW e12)) ?_
  refine go_aload0 hc dX14_names_7 ?_
  replace h := goBind h; obtain ⟨b13, e14, h⟩ := h
  refine go_getR hc lk_RX14_192 dX14_names_8 (sh_102 hW) e14 ?_
  refine go_getI hc lk_RX14_217 dX14_names_11 (shM_0 (goW_M4 hW e14)) ?_
  refine go_lload1 hc dX14_names_14 ?_
  replace h := goBind h; obtain ⟨L15, e16, h⟩ := h
  refine go_last hc dX14_names_15 (shM_23 (goW_M4 hW e12)) e16 ?_
  refine go_aload0 hc dX14_names_16 ?_
  replace h := goBind h; obtain ⟨b17, e18, h⟩ := h
  refine go_getR hc lk_RX14_192 dX14_names_17 (sh_102 hW) e18 ?_
  refine go_getR hc lk_RX14_220 dX14_names_20 (shM_0 (goW_M4 hW e18)) (rfM_39 (goW_M4 hW e18)) ?_
  refine go_aload0 hc dX14_names_23 ?_
  replace h := goBind h; obtain ⟨b19, e20, h⟩ := h
  refine go_getR hc lk_RX14_192 dX14_names_24 (sh_102 hW) e20 ?_
  refine go_getI hc lk_RX14_217 dX14_names_27 (shM_0 (goW_M4 hW e20)) ?_
  refine go_iload3 hc dX14_names_30 ?_
  replace h := goBind h; obtain ⟨M21, e22, h⟩ := h
  refine go_iast hc dX14_names_31 (shM_24 (goW_M4 hW e18)) e22 ?_
  refine go_aload0 hc dX14_names_32 ?_
  replace h := goBind h; obtain ⟨b23, e24, h⟩ := h
  refine go_getR hc lk_RX14_192 dX14_names_33 (sh_102 hW) e24 ?_
  refine go_getR hc lk_RX14_223 dX14_names_36 (shM_0 (goW_M4 hW e24)) (rfM_40 (goW_M4 hW e24)) ?_
  refine go_aload0 hc dX14_names_39 ?_
  replace h := goBind h; obtain ⟨b25, e26, h⟩ := h
  refine go_getR hc lk_RX14_192 dX14_names_40 (sh_102 hW) e26 ?_
  refine go_getI hc lk_RX14_217 dX14_names_43 (shM_0 (goW_M4 hW e26)) ?_
  refine go_iload4 hc dX14_names_46 ?_
  replace h := goBind h; obtain ⟨M27, e28, h⟩ := h
  refine go_iast hc dX14_names_48 (shM_25 (goW_M4 hW e24)) e28 ?_
  refine go_aload0 hc dX14_names_49 ?_
  replace h := goBind h; obtain ⟨b29, e30, h⟩ := h
  refine go_getR hc lk_RX14_192 dX14_names_50 (sh_102 hW) e30 ?_
  refine go_dupr hc dX14_names_53 ?_
  refine go_getI hc lk_RX14_217 dX14_names_54 (shM_0 (goW_M4 hW e30)) ?_
  refine go_iconst (v := 1) hc dX14_names_57 rfl ?_
  refine go_iadd hc dX14_names_58 ?_
  replace h := goNm_x h; obtain ⟨M31, e32, h⟩ := h
  refine go_ptI hc lk_RX14_217 dX14_names_59 (shM_0 (goW_M4 hW e30)) e32 ?_
  cases h
  exact go_vret hc dX14_names_62 hr
