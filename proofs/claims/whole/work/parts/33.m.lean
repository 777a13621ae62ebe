theorem dX7_addRule_0 : decode cX7_addRule 0 = .ok (.aload_n 0, 1) := by decide +kernel
theorem dX7_addRule_1 : decode cX7_addRule 1 = .ok (.getfield 28, 3) := by decide +kernel
theorem dX7_addRule_4 : decode cX7_addRule 4 = .ok (.bipush 8, 2) := by decide +kernel
theorem dX7_addRule_6 : decode cX7_addRule 6 = .ok (.if_icmp .ge 66, 3) := by decide +kernel
theorem dX7_addRule_9 : decode cX7_addRule 9 = .ok (.aload_n 0, 1) := by decide +kernel
theorem dX7_addRule_10 : decode cX7_addRule 10 = .ok (.getfield 9, 3) := by decide +kernel
theorem dX7_addRule_13 : decode cX7_addRule 13 = .ok (.aload_n 0, 1) := by decide +kernel
theorem dX7_addRule_14 : decode cX7_addRule 14 = .ok (.getfield 28, 3) := by decide +kernel
theorem dX7_addRule_17 : decode cX7_addRule 17 = .ok (.iload_n 1, 1) := by decide +kernel
theorem dX7_addRule_18 : decode cX7_addRule 18 = .ok (.iastore, 1) := by decide +kernel
theorem dX7_addRule_19 : decode cX7_addRule 19 = .ok (.aload_n 0, 1) := by decide +kernel
theorem dX7_addRule_20 : decode cX7_addRule 20 = .ok (.getfield 15, 3) := by decide +kernel
theorem dX7_addRule_23 : decode cX7_addRule 23 = .ok (.aload_n 0, 1) := by decide +kernel
theorem dX7_addRule_24 : decode cX7_addRule 24 = .ok (.getfield 28, 3) := by decide +kernel
theorem dX7_addRule_27 : decode cX7_addRule 27 = .ok (.iconst 0, 1) := by decide +kernel
theorem dX7_addRule_28 : decode cX7_addRule 28 = .ok (.iastore, 1) := by decide +kernel
theorem dX7_addRule_29 : decode cX7_addRule 29 = .ok (.iconst 0, 1) := by decide +kernel
theorem dX7_addRule_30 : decode cX7_addRule 30 = .ok (.istore 4, 2) := by decide +kernel
theorem dX7_addRule_32 : decode cX7_addRule 32 = .ok (.iload 4, 2) := by decide +kernel
theorem dX7_addRule_34 : decode cX7_addRule 34 = .ok (.iload_n 3, 1) := by decide +kernel
theorem dX7_addRule_35 : decode cX7_addRule 35 = .ok (.if_icmp .ge 27, 3) := by decide +kernel
theorem dX7_addRule_38 : decode cX7_addRule 38 = .ok (.aload_n 0, 1) := by decide +kernel
theorem dX7_addRule_39 : decode cX7_addRule 39 = .ok (.getfield 15, 3) := by decide +kernel
theorem dX7_addRule_42 : decode cX7_addRule 42 = .ok (.aload_n 0, 1) := by decide +kernel
theorem dX7_addRule_43 : decode cX7_addRule 43 = .ok (.getfield 28, 3) := by decide +kernel
theorem dX7_addRule_46 : decode cX7_addRule 46 = .ok (.dup2, 1) := by decide +kernel
theorem dX7_addRule_47 : decode cX7_addRule 47 = .ok (.iaload, 1) := by decide +kernel
theorem dX7_addRule_48 : decode cX7_addRule 48 = .ok (.iconst 1, 1) := by decide +kernel
theorem dX7_addRule_49 : decode cX7_addRule 49 = .ok (.aload_n 2, 1) := by decide +kernel
theorem dX7_addRule_50 : decode cX7_addRule 50 = .ok (.iload 4, 2) := by decide +kernel
theorem dX7_addRule_52 : decode cX7_addRule 52 = .ok (.iaload, 1) := by decide +kernel
theorem dX7_addRule_53 : decode cX7_addRule 53 = .ok (.ishl, 1) := by decide +kernel
theorem dX7_addRule_54 : decode cX7_addRule 54 = .ok (.ior, 1) := by decide +kernel
theorem dX7_addRule_55 : decode cX7_addRule 55 = .ok (.iastore, 1) := by decide +kernel
theorem dX7_addRule_56 : decode cX7_addRule 56 = .ok (.iinc 4 1, 3) := by decide +kernel
theorem dX7_addRule_59 : decode cX7_addRule 59 = .ok (.goto (-27), 3) := by decide +kernel
theorem dX7_addRule_62 : decode cX7_addRule 62 = .ok (.aload_n 0, 1) := by decide +kernel
theorem dX7_addRule_63 : decode cX7_addRule 63 = .ok (.dup, 1) := by decide +kernel
theorem dX7_addRule_64 : decode cX7_addRule 64 = .ok (.getfield 28, 3) := by decide +kernel
theorem dX7_addRule_67 : decode cX7_addRule 67 = .ok (.iconst 1, 1) := by decide +kernel
theorem dX7_addRule_68 : decode cX7_addRule 68 = .ok (.iadd, 1) := by decide +kernel
theorem dX7_addRule_69 : decode cX7_addRule 69 = .ok (.putfield 28, 3) := by decide +kernel
theorem dX7_addRule_72 : decode cX7_addRule 72 = .ok (.return_, 1) := by decide +kernel
set_option maxRecDepth 100000 in
set_option maxHeartbeats 4000000 in
theorem mX7_addRule_L32 {E : goEv} {X : goX} {G : goG} {Q : State → Prop} {L : goML} {R : goMR} {v3 : Int32} {a0 : Nat} {a2 : Nat} {n2 : Nat} (hc : goCx E X cX7_addRule RX7 5) (hk : goKn E) (hR : X.2.2.2.1 = goRoom 0 0 0 0) (hr : X.2.2.2.2.2.2.2.2.1.sig.returnType = none) (hW : goW G R) (m0 : a0 = 28 ∨ a0 = 58) (m2 : a2 < G.2 ∧ G.1 a2 = (1, n2)) : ∀ (n : Nat) (v4 : Int32) (M : goMI) (r0 : goMI), lX7_addRule_32 v3 a0 a2 n2 n v4 M = some r0 → (∀ (d1 d2 d3 d4 : Option Value), goA E X G 0 0 Q 62 [some (.ref a0), d1, d2, d3, d4] [] r0 L R) → ∀ (d1 : Option Value), goA E X G 0 0 Q 32 [some (.ref a0), d1, some (.ref a2), some (.int v3), some (.int v4)] [] M L R := by
  intro n
  induction n with
  | zero => intro v4 M r0 h; exact nomatch h
  | succ n ih =>
    intro v4 M r0 h kx d1
    rw [lX7_addRule_32] at h
    refine go_iload4 hc dX7_addRule_32 ?_
    refine go_iload3 hc dX7_addRule_34 ?_
    refine go_icmp_ge hc 62 dX7_addRule_35 rfl (fun c16 => ?_) (fun c16 => ?_)
    · replace h := goIfF h c16
      cases h
      exact kx _ _ _ _
    · replace h := goIfT h c16
      refine go_aload0 hc dX7_addRule_38 ?_
      refine go_getR hc lk_RX7_15 dX7_addRule_39 (shLaw_0 hW m0) (rfLaw_5 hW m0) ?_
      refine go_aload0 hc dX7_addRule_42 ?_
      refine go_getI hc lk_RX7_28 dX7_addRule_43 (shLaw_0 hW m0) ?_
      refine go_dup2 hc dX7_addRule_46 ?_
      replace h := goBind h; obtain ⟨x17, e18, h⟩ := h
      refine go_iald hc dX7_addRule_47 (shLaw_2 hW m0) e18 ?_
      refine go_iconst (v := 1) hc dX7_addRule_48 rfl ?_
      refine go_aload2 hc dX7_addRule_49 ?_
      refine go_iload4 hc dX7_addRule_50 ?_
      replace h := goBind h; obtain ⟨x19, e20, h⟩ := h
      refine go_iald hc dX7_addRule_52 m2 e20 ?_
      refine go_ishl hc dX7_addRule_53 ?_
      refine go_ior hc dX7_addRule_54 ?_
      replace h := goBind h; obtain ⟨M21, e22, h⟩ := h
      refine go_iast hc dX7_addRule_55 (shLaw_2 hW m0) e22 ?_
      refine go_iinc4 (v := (v4 + 1)) hc dX7_addRule_56 rfl ?_
      refine go_goto hc 32 dX7_addRule_59 rfl ?_
      exact ih _ _ _ h kx _
set_option maxRecDepth 100000 in
set_option maxHeartbeats 4000000 in
theorem mX7_addRule {E : goEv} {l : Launch} {G : goG} {N : Nat} {M : goMI} {L : goML} {R : goMR} {a0 : Nat} {v1 : Int32} {a2 n2 : Nat} {v3 : Int32} {r0 : goMI} (hk : goKn E) (hW : goW G R) (m0 : a0 = 28 ∨ a0 = 58) (m2 : a2 < G.2 ∧ G.1 a2 = (1, n2)) (h : fX7_addRule N M a0 v1 a2 n2 v3 = some r0) : Met l yX7_addRule (goCd yX7_addRule cX7_addRule 5 none) (goRoom 0 0 0 0) (goPre E [.ref a0, .int v1, .ref a2, .int v3] G M L R) (goQv E G r0 L R) 0 0 (goSet E) := by
  refine goMet pl_RX7 hk (lv := [some (.ref a0), some (.int v1), some (.ref a2), some (.int v3), none]) rfl (Nat.le_of_ble_eq_true rfl) ?_
  intro X hc hl hR hr hnm
  subst hl
  unfold fX7_addRule at h
  refine go_aload0 hc dX7_addRule_0 ?_
  refine go_getI hc lk_RX7_28 dX7_addRule_1 (shLaw_0 hW m0) ?_
  refine go_bipush (v := 8) hc dX7_addRule_4 rfl ?_
  refine go_icmp_ge hc 72 dX7_addRule_6 rfl (fun c11 => ?_) (fun c11 => ?_)
  · replace h := goIfF h c11
    cases h
    exact go_vret hc dX7_addRule_72 hr
  · replace h := goIfT h c11
    refine go_aload0 hc dX7_addRule_9 ?_
    refine go_getR hc lk_RX7_9 dX7_addRule_10 (shLaw_0 hW m0) (rfLaw_4 hW m0) ?_
    refine go_aload0 hc dX7_addRule_13 ?_
    refine go_getI hc lk_RX7_28 dX7_addRule_14 (shLaw_0 hW m0) ?_
    refine go_iload1 hc dX7_addRule_17 ?_
    replace h := goBind h; obtain ⟨M12, e13, h⟩ := h
    refine go_iast hc dX7_addRule_18 (shLaw_1 hW m0) e13 ?_
    refine go_aload0 hc dX7_addRule_19 ?_
    refine go_getR hc lk_RX7_15 dX7_addRule_20 (shLaw_0 hW m0) (rfLaw_5 hW m0) ?_
    refine go_aload0 hc dX7_addRule_23 ?_
    refine go_getI hc lk_RX7_28 dX7_addRule_24 (shLaw_0 hW m0) ?_
    refine go_iconst (v := 0) hc dX7_addRule_27 rfl ?_
    replace h := goBind h; obtain ⟨M14, e15, h⟩ := h
    refine go_iast hc dX7_addRule_28 (shLaw_2 hW m0) e15 ?_
    refine go_iconst (v := 0) hc dX7_addRule_29 rfl ?_
    refine go_istore4 hc dX7_addRule_30 ?_
    replace h := goBind h; obtain ⟨M24, e23, h⟩ := h
    refine mX7_addRule_L32 hc hk hR hr hW m0 m2 _ _ _ _ e23 (fun d1 d2 d3 d4 => ?_) _
    refine go_aload0 hc dX7_addRule_62 ?_
    refine go_dupr hc dX7_addRule_63 ?_
    refine go_getI hc lk_RX7_28 dX7_addRule_64 (shLaw_0 hW m0) ?_
    refine go_iconst (v := 1) hc dX7_addRule_67 rfl ?_
    refine go_iadd hc dX7_addRule_68 ?_
    replace h := goNm_x h; obtain ⟨M25, e26, h⟩ := h
    refine go_ptI hc lk_RX7_28 dX7_addRule_69 (shLaw_0 hW m0) e26 ?_
    cases h
    exact go_vret hc dX7_addRule_72 hr
theorem dX7_setProof_0 : decode cX7_setProof 0 = .ok (.aload_n 0, 1) := by decide +kernel
theorem dX7_setProof_1 : decode cX7_setProof 1 = .ok (.iload_n 2, 1) := by decide +kernel
theorem dX7_setProof_2 : decode cX7_setProof 2 = .ok (.putfield 31, 3) := by decide +kernel
theorem dX7_setProof_5 : decode cX7_setProof 5 = .ok (.aload_n 1, 1) := by decide +kernel
theorem dX7_setProof_6 : decode cX7_setProof 6 = .ok (.iconst 0, 1) := by decide +kernel
theorem dX7_setProof_7 : decode cX7_setProof 7 = .ok (.aload_n 0, 1) := by decide +kernel
theorem dX7_setProof_8 : decode cX7_setProof 8 = .ok (.getfield 18, 3) := by decide +kernel
theorem dX7_setProof_11 : decode cX7_setProof 11 = .ok (.iconst 0, 1) := by decide +kernel
theorem dX7_setProof_12 : decode cX7_setProof 12 = .ok (.iload_n 2, 1) := by decide +kernel
theorem dX7_setProof_13 : decode cX7_setProof 13 = .ok (.invokestatic 34, 3) := by decide +kernel
theorem dX7_setProof_16 : decode cX7_setProof 16 = .ok (.return_, 1) := by decide +kernel
set_option maxRecDepth 100000 in
set_option maxHeartbeats 4000000 in
theorem mX7_setProof {E : goEv} {l : Launch} {G : goG} {M : goMI} {L : goML} {R : goMR} {a0 : Nat} {a1 n1 : Nat} {v2 : Int32} {r0 : goMI} (hk : goKn E) (hW : goW G R) (m0 : a0 = 28 ∨ a0 = 58) (m1 : a1 < G.2 ∧ G.1 a1 = (1, n1)) (h : fX7_setProof M a0 a1 n1 v2 = some r0) : Met l yX7_setProof (goCd yX7_setProof cX7_setProof 3 none) (goRoom 1 40 0 0) (goPre E [.ref a0, .ref a1, .int v2] G M L R) (goQv E G r0 L R) 0 0 (goSet E) := by
  refine goMet pl_RX7 hk (lv := [some (.ref a0), some (.ref a1), some (.int v2)]) rfl (Nat.le_of_ble_eq_true rfl) ?_
  intro X hc hl hR hr hnm
  subst hl
  unfold fX7_setProof at h
  refine go_aload0 hc dX7_setProof_0 ?_
  refine go_iload2 hc dX7_setProof_1 ?_
  replace h := goNm_x h; obtain ⟨M11, e12, h⟩ := h
  refine go_ptI hc lk_RX7_31 dX7_setProof_2 (shLaw_0 hW m0) e12 ?_
  refine go_aload1 hc dX7_setProof_5 ?_
  refine go_iconst (v := 0) hc dX7_setProof_6 rfl ?_
  refine go_aload0 hc dX7_setProof_7 ?_
  refine go_getR hc lk_RX7_18 dX7_setProof_8 (shLaw_0 hW m0) (rfLaw_6 hW m0) ?_
  refine go_iconst (v := 0) hc dX7_setProof_11 rfl ?_
  refine go_iload2 hc dX7_setProof_12 ?_
  replace h := goBind h; obtain ⟨M13, e14, h⟩ := h
  refine go_copy hc dX7_setProof_13 wml_RX7_34 hR rfl m1 (shLaw_3 hW m0) rfl (Nat.le_of_ble_eq_true rfl) e14 ?_
  cases h
  exact go_vret hc dX7_setProof_16 hr
theorem dX7_known_0 : decode cX7_known 0 = .ok (.iload_n 1, 1) := by decide +kernel
theorem dX7_known_1 : decode cX7_known 1 = .ok (.istore_n 3, 1) := by decide +kernel
theorem dX7_known_2 : decode cX7_known 2 = .ok (.iconst 0, 1) := by decide +kernel
theorem dX7_known_3 : decode cX7_known 3 = .ok (.istore 4, 2) := by decide +kernel
theorem dX7_known_5 : decode cX7_known 5 = .ok (.iload 4, 2) := by decide +kernel
theorem dX7_known_7 : decode cX7_known 7 = .ok (.aload_n 0, 1) := by decide +kernel
theorem dX7_known_8 : decode cX7_known 8 = .ok (.getfield 21, 3) := by decide +kernel
theorem dX7_known_11 : decode cX7_known 11 = .ok (.if_icmp .ge 59, 3) := by decide +kernel
theorem dX7_known_14 : decode cX7_known 14 = .ok (.iconst 0, 1) := by decide +kernel
theorem dX7_known_15 : decode cX7_known 15 = .ok (.istore 5, 2) := by decide +kernel
theorem dX7_known_17 : decode cX7_known 17 = .ok (.iload 5, 2) := by decide +kernel
theorem dX7_known_19 : decode cX7_known 19 = .ok (.aload_n 0, 1) := by decide +kernel
theorem dX7_known_20 : decode cX7_known 20 = .ok (.getfield 28, 3) := by decide +kernel
theorem dX7_known_23 : decode cX7_known 23 = .ok (.if_icmp .ge 41, 3) := by decide +kernel
theorem dX7_known_26 : decode cX7_known 26 = .ok (.iload 5, 2) := by decide +kernel
theorem dX7_known_28 : decode cX7_known 28 = .ok (.iload_n 2, 1) := by decide +kernel
theorem dX7_known_29 : decode cX7_known 29 = .ok (.if_icmp .eq 29, 3) := by decide +kernel
theorem dX7_known_32 : decode cX7_known 32 = .ok (.aload_n 0, 1) := by decide +kernel
theorem dX7_known_33 : decode cX7_known 33 = .ok (.getfield 15, 3) := by decide +kernel
theorem dX7_known_36 : decode cX7_known 36 = .ok (.iload 5, 2) := by decide +kernel
theorem dX7_known_38 : decode cX7_known 38 = .ok (.iaload, 1) := by decide +kernel
theorem dX7_known_39 : decode cX7_known 39 = .ok (.iload_n 3, 1) := by decide +kernel
theorem dX7_known_40 : decode cX7_known 40 = .ok (.iconst (-1), 1) := by decide +kernel
theorem dX7_known_41 : decode cX7_known 41 = .ok (.ixor, 1) := by decide +kernel
theorem dX7_known_42 : decode cX7_known 42 = .ok (.iand, 1) := by decide +kernel
theorem dX7_known_43 : decode cX7_known 43 = .ok (.ifCond .ne 15, 3) := by decide +kernel
theorem dX7_known_46 : decode cX7_known 46 = .ok (.iload_n 3, 1) := by decide +kernel
theorem dX7_known_47 : decode cX7_known 47 = .ok (.iconst 1, 1) := by decide +kernel
theorem dX7_known_48 : decode cX7_known 48 = .ok (.aload_n 0, 1) := by decide +kernel
theorem dX7_known_49 : decode cX7_known 49 = .ok (.getfield 9, 3) := by decide +kernel
theorem dX7_known_52 : decode cX7_known 52 = .ok (.iload 5, 2) := by decide +kernel
theorem dX7_known_54 : decode cX7_known 54 = .ok (.iaload, 1) := by decide +kernel
theorem dX7_known_55 : decode cX7_known 55 = .ok (.ishl, 1) := by decide +kernel
theorem dX7_known_56 : decode cX7_known 56 = .ok (.ior, 1) := by decide +kernel
theorem dX7_known_57 : decode cX7_known 57 = .ok (.istore_n 3, 1) := by decide +kernel
theorem dX7_known_58 : decode cX7_known 58 = .ok (.iinc 5 1, 3) := by decide +kernel
theorem dX7_known_61 : decode cX7_known 61 = .ok (.goto (-44), 3) := by decide +kernel
theorem dX7_known_64 : decode cX7_known 64 = .ok (.iinc 4 1, 3) := by decide +kernel
theorem dX7_known_67 : decode cX7_known 67 = .ok (.goto (-62), 3) := by decide +kernel
theorem dX7_known_70 : decode cX7_known 70 = .ok (.iload_n 3, 1) := by decide +kernel
theorem dX7_known_71 : decode cX7_known 71 = .ok (.ireturn, 1) := by decide +kernel
set_option maxRecDepth 100000 in
set_option maxHeartbeats 4000000 in
theorem mX7_known_L17 {E : goEv} {X : goX} {G : goG} {Q : State → Prop} {M : goMI} {L : goML} {R : goMR} {v2 : Int32} {a0 : Nat} {v4 : Int32} (hc : goCx E X cX7_known RX7 6) (hk : goKn E) (hR : X.2.2.2.1 = goRoom 0 0 0 0) (hr : X.2.2.2.2.2.2.2.2.1.sig.returnType = (Option.some FieldType.int)) (hW : goW G R) (m0 : a0 = 28 ∨ a0 = 58) : ∀ (n : Nat) (v3 : Int32) (v5 : Int32) (r0 : Int32), lX7_known_17 v2 M a0 n v3 v5 = some r0 → (∀ (d1 d5 : Option Value), goA E X G 0 0 Q 64 [some (.ref a0), d1, some (.int v2), some (.int r0), some (.int v4), d5] [] M L R) → ∀ (d1 : Option Value), goA E X G 0 0 Q 17 [some (.ref a0), d1, some (.int v2), some (.int v3), some (.int v4), some (.int v5)] [] M L R := by
  intro n
  induction n with
  | zero => intro v3 v5 r0 h; exact nomatch h
  | succ n ih =>
    intro v3 v5 r0 h kx d1
    rw [lX7_known_17] at h
    refine go_iload5 hc dX7_known_17 ?_
    refine go_aload0 hc dX7_known_19 ?_
    refine go_getI hc lk_RX7_28 dX7_known_20 (shLaw_0 hW m0) ?_
    refine go_icmp_ge hc 64 dX7_known_23 rfl (fun c12 => ?_) (fun c12 => ?_)
    · replace h := goIfF h c12
      cases h
      exact kx _ _
    · replace h := goIfT h c12
      refine go_iload5 hc dX7_known_26 ?_
      refine go_iload2 hc dX7_known_28 ?_
      replace h := goBind h; obtain ⟨x13, e14, h⟩ := h
      have k15 : ∀ (d1 : Option Value), goA E X G 0 0 Q 58 [some (.ref a0), d1, some (.int v2), some (.int x13), some (.int v4), some (.int v5)] [] M L R := by
        intro d1
        refine go_iinc5 (v := (v5 + 1)) hc dX7_known_58 rfl ?_
        refine go_goto hc 17 dX7_known_61 rfl ?_
        exact ih _ _ _ h kx _
      refine go_icmp_eq hc 58 dX7_known_29 rfl (fun c16 => ?_) (fun c16 => ?_)
      · replace e14 := goIfT e14 c16
        cases e14
        exact k15 _
      · replace e14 := goIfF e14 c16
        refine go_aload0 hc dX7_known_32 ?_
        refine go_getR hc lk_RX7_15 dX7_known_33 (shLaw_0 hW m0) (rfLaw_5 hW m0) ?_
        refine go_iload5 hc dX7_known_36 ?_
        replace e14 := goBind e14; obtain ⟨x17, e18, e14⟩ := e14
        refine go_iald hc dX7_known_38 (shLaw_2 hW m0) e18 ?_
        refine go_iload3 hc dX7_known_39 ?_
        refine go_iconst (v := (-1)) hc dX7_known_40 rfl ?_
        refine go_ixor hc dX7_known_41 ?_
        refine go_iand hc dX7_known_42 ?_
        refine go_if_ne hc 58 dX7_known_43 rfl (fun c19 => ?_) (fun c19 => ?_)
        · replace e14 := goIfF e14 c19
          cases e14
          exact k15 _
        · replace e14 := goIfT e14 c19
          refine go_iload3 hc dX7_known_46 ?_
          refine go_iconst (v := 1) hc dX7_known_47 rfl ?_
          refine go_aload0 hc dX7_known_48 ?_
          refine go_getR hc lk_RX7_9 dX7_known_49 (shLaw_0 hW m0) (rfLaw_4 hW m0) ?_
          refine go_iload5 hc dX7_known_52 ?_
          replace e14 := goBind e14; obtain ⟨x20, e21, e14⟩ := e14
          refine go_iald hc dX7_known_54 (shLaw_1 hW m0) e21 ?_
          refine go_ishl hc dX7_known_55 ?_
          refine go_ior hc dX7_known_56 ?_
          replace e14 := goNm_x e14; obtain ⟨x22, e23, e14⟩ := e14
          refine go_nmI e23 ?_
          refine go_istore3 hc dX7_known_57 ?_
          cases e14
          exact k15 _
set_option maxRecDepth 100000 in
set_option maxHeartbeats 4000000 in
theorem mX7_known_L5 {E : goEv} {X : goX} {G : goG} {Q : State → Prop} {M : goMI} {L : goML} {R : goMR} {N : Nat} {v2 : Int32} {a0 : Nat} (hc : goCx E X cX7_known RX7 6) (hk : goKn E) (hR : X.2.2.2.1 = goRoom 0 0 0 0) (hr : X.2.2.2.2.2.2.2.2.1.sig.returnType = (Option.some FieldType.int)) (hW : goW G R) (m0 : a0 = 28 ∨ a0 = 58) : ∀ (n : Nat) (v3 : Int32) (v4 : Int32) (r0 : Int32), lX7_known_5 N v2 M a0 n v3 v4 = some r0 → (∀ (d0 d1 d2 d4 d5 : Option Value), goA E X G 0 0 Q 70 [d0, d1, d2, some (.int r0), d4, d5] [] M L R) → ∀ (d1 d5 : Option Value), goA E X G 0 0 Q 5 [some (.ref a0), d1, some (.int v2), some (.int v3), some (.int v4), d5] [] M L R := by
  intro n
  induction n with
  | zero => intro v3 v4 r0 h; exact nomatch h
  | succ n ih =>
    intro v3 v4 r0 h kx d1 d5
    rw [lX7_known_5] at h
    refine go_iload4 hc dX7_known_5 ?_
    refine go_aload0 hc dX7_known_7 ?_
    refine go_getI hc lk_RX7_21 dX7_known_8 (shLaw_0 hW m0) ?_
    refine go_icmp_ge hc 70 dX7_known_11 rfl (fun c11 => ?_) (fun c11 => ?_)
    · replace h := goIfF h c11
      cases h
      exact kx _ _ _ _ _
    · replace h := goIfT h c11
      refine go_iconst (v := 0) hc dX7_known_14 rfl ?_
      refine go_istore5 hc dX7_known_15 ?_
      replace h := goBind h; obtain ⟨x25, e24, h⟩ := h
      refine mX7_known_L17 hc hk hR hr hW m0 _ _ _ _ e24 (fun d1 d5 => ?_) _
      refine go_iinc4 (v := (v4 + 1)) hc dX7_known_64 rfl ?_
      refine go_goto hc 5 dX7_known_67 rfl ?_
      exact ih _ _ _ h kx _ _
set_option maxRecDepth 100000 in
set_option maxHeartbeats 4000000 in
theorem mX7_known {E : goEv} {l : Launch} {G : goG} {N : Nat} {M : goMI} {L : goML} {R : goMR} {a0 : Nat} {v1 : Int32} {v2 : Int32} {r0 : Int32} (hk : goKn E) (hW : goW G R) (m0 : a0 = 28 ∨ a0 = 58) (h : fX7_known N M a0 v1 v2 = some r0) : Met l yX7_known (goCd yX7_known cX7_known 6 (Option.some FieldType.int)) (goRoom 0 0 0 0) (goPre E [.ref a0, .int v1, .int v2] G M L R) (goQi E r0 G M L R) 0 0 (goSet E) := by
  refine goMet pl_RX7 hk (lv := [some (.ref a0), some (.int v1), some (.int v2), none, none, none]) rfl (Nat.le_of_ble_eq_true rfl) ?_
  intro X hc hl hR hr hnm
  subst hl
  unfold fX7_known at h
  refine go_iload1 hc dX7_known_0 ?_
  refine go_istore3 hc dX7_known_1 ?_
  refine go_iconst (v := 0) hc dX7_known_2 rfl ?_
  refine go_istore4 hc dX7_known_3 ?_
  replace h := goBind h; obtain ⟨x27, e26, h⟩ := h
  refine mX7_known_L5 hc hk hR hr hW m0 _ _ _ _ e26 (fun d0 d1 d2 d4 d5 => ?_) _ _
  refine go_iload3 hc dX7_known_70 ?_
  cases h
  exact go_iret hc dX7_known_71 hr
theorem dX7_isRight_0 : decode cX7_isRight 0 = .ok (.aload_n 0, 1) := by decide +kernel
theorem dX7_isRight_1 : decode cX7_isRight 1 = .ok (.getfield 25, 3) := by decide +kernel
theorem dX7_isRight_4 : decode cX7_isRight 4 = .ok (.iload_n 1, 1) := by decide +kernel
theorem dX7_isRight_5 : decode cX7_isRight 5 = .ok (.invokestatic 44, 3) := by decide +kernel
theorem dX7_isRight_8 : decode cX7_isRight 8 = .ok (.iconst 1, 1) := by decide +kernel
theorem dX7_isRight_9 : decode cX7_isRight 9 = .ok (.if_icmp .ne 5, 3) := by decide +kernel
theorem dX7_isRight_12 : decode cX7_isRight 12 = .ok (.iconst 1, 1) := by decide +kernel
theorem dX7_isRight_13 : decode cX7_isRight 13 = .ok (.ireturn, 1) := by decide +kernel
theorem dX7_isRight_14 : decode cX7_isRight 14 = .ok (.iconst 0, 1) := by decide +kernel
theorem dX7_isRight_15 : decode cX7_isRight 15 = .ok (.istore_n 3, 1) := by decide +kernel
theorem dX7_isRight_16 : decode cX7_isRight 16 = .ok (.iload_n 3, 1) := by decide +kernel
theorem dX7_isRight_17 : decode cX7_isRight 17 = .ok (.aload_n 0, 1) := by decide +kernel
theorem dX7_isRight_18 : decode cX7_isRight 18 = .ok (.getfield 28, 3) := by decide +kernel
theorem dX7_isRight_21 : decode cX7_isRight 21 = .ok (.if_icmp .ge 34, 3) := by decide +kernel
theorem dX7_isRight_24 : decode cX7_isRight 24 = .ok (.aload_n 0, 1) := by decide +kernel
theorem dX7_isRight_25 : decode cX7_isRight 25 = .ok (.getfield 9, 3) := by decide +kernel
theorem dX7_isRight_28 : decode cX7_isRight 28 = .ok (.iload_n 3, 1) := by decide +kernel
theorem dX7_isRight_29 : decode cX7_isRight 29 = .ok (.iaload, 1) := by decide +kernel
theorem dX7_isRight_30 : decode cX7_isRight 30 = .ok (.iload_n 1, 1) := by decide +kernel
theorem dX7_isRight_31 : decode cX7_isRight 31 = .ok (.if_icmp .ne 18, 3) := by decide +kernel
theorem dX7_isRight_34 : decode cX7_isRight 34 = .ok (.aload_n 0, 1) := by decide +kernel
theorem dX7_isRight_35 : decode cX7_isRight 35 = .ok (.getfield 15, 3) := by decide +kernel
theorem dX7_isRight_38 : decode cX7_isRight 38 = .ok (.iload_n 3, 1) := by decide +kernel
theorem dX7_isRight_39 : decode cX7_isRight 39 = .ok (.iaload, 1) := by decide +kernel
theorem dX7_isRight_40 : decode cX7_isRight 40 = .ok (.iload_n 2, 1) := by decide +kernel
theorem dX7_isRight_41 : decode cX7_isRight 41 = .ok (.iconst (-1), 1) := by decide +kernel
theorem dX7_isRight_42 : decode cX7_isRight 42 = .ok (.ixor, 1) := by decide +kernel
theorem dX7_isRight_43 : decode cX7_isRight 43 = .ok (.iand, 1) := by decide +kernel
theorem dX7_isRight_44 : decode cX7_isRight 44 = .ok (.ifCond .ne 5, 3) := by decide +kernel
theorem dX7_isRight_47 : decode cX7_isRight 47 = .ok (.iconst 1, 1) := by decide +kernel
theorem dX7_isRight_48 : decode cX7_isRight 48 = .ok (.ireturn, 1) := by decide +kernel
theorem dX7_isRight_49 : decode cX7_isRight 49 = .ok (.iinc 3 1, 3) := by decide +kernel
theorem dX7_isRight_52 : decode cX7_isRight 52 = .ok (.goto (-36), 3) := by decide +kernel
theorem dX7_isRight_55 : decode cX7_isRight 55 = .ok (.iconst 0, 1) := by decide +kernel
theorem dX7_isRight_56 : decode cX7_isRight 56 = .ok (.ireturn, 1) := by decide +kernel
set_option maxRecDepth 100000 in
set_option maxHeartbeats 4000000 in
theorem mX7_isRight_L16 {E : goEv} {X : goX} {G : goG} {M : goMI} {L : goML} {R : goMR} {v1 : Int32} {v2 : Int32} {a0 : Nat} {r0 : Int32} (hc : goCx E X cX7_isRight RX7 4) (hk : goKn E) (hR : X.2.2.2.1 = goRoom 1 21 0 0) (hr : X.2.2.2.2.2.2.2.2.1.sig.returnType = (Option.some FieldType.boolean)) (hW : goW G R) (m0 : a0 = 28 ∨ a0 = 58) : ∀ (n : Nat) (v3 : Int32), lX7_isRight_16 v1 v2 M a0 n v3 = some r0 → goA E X G 0 0 (goMQ X E (goQi E r0 G M L R) 0 0) 16 [some (.ref a0), some (.int v1), some (.int v2), some (.int v3)] [] M L R := by
  intro n
  induction n with
  | zero => intro v3 h; exact nomatch h
  | succ n ih =>
    intro v3 h
    rw [lX7_isRight_16] at h
    refine go_iload3 hc dX7_isRight_16 ?_
    refine go_aload0 hc dX7_isRight_17 ?_
    refine go_getI hc lk_RX7_28 dX7_isRight_18 (shLaw_0 hW m0) ?_
    refine go_icmp_ge hc 55 dX7_isRight_21 rfl (fun c12 => ?_) (fun c12 => ?_)
    · replace h := goIfF h c12
      refine go_iconst (v := 0) hc dX7_isRight_55 rfl ?_
      cases h
      exact go_zret hc dX7_isRight_56 hr rfl
    · replace h := goIfT h c12
      refine go_aload0 hc dX7_isRight_24 ?_
      refine go_getR hc lk_RX7_9 dX7_isRight_25 (shLaw_0 hW m0) (rfLaw_4 hW m0) ?_
      refine go_iload3 hc dX7_isRight_28 ?_
      replace h := goBind h; obtain ⟨x13, e14, h⟩ := h
      refine go_iald hc dX7_isRight_29 (shLaw_1 hW m0) e14 ?_
      refine go_iload1 hc dX7_isRight_30 ?_
      refine go_icmp_ne hc 49 dX7_isRight_31 rfl (fun c15 => ?_) (fun c15 => ?_)
      · replace h := goIfF h c15
        refine go_iinc3 (v := (v3 + 1)) hc dX7_isRight_49 rfl ?_
        refine go_goto hc 16 dX7_isRight_52 rfl ?_
        exact ih _ h
      · replace h := goIfT h c15
        refine go_aload0 hc dX7_isRight_34 ?_
        refine go_getR hc lk_RX7_15 dX7_isRight_35 (shLaw_0 hW m0) (rfLaw_5 hW m0) ?_
        refine go_iload3 hc dX7_isRight_38 ?_
        replace h := goBind h; obtain ⟨x16, e17, h⟩ := h
        refine go_iald hc dX7_isRight_39 (shLaw_2 hW m0) e17 ?_
        refine go_iload2 hc dX7_isRight_40 ?_
        refine go_iconst (v := (-1)) hc dX7_isRight_41 rfl ?_
        refine go_ixor hc dX7_isRight_42 ?_
        refine go_iand hc dX7_isRight_43 ?_
        refine go_if_ne hc 49 dX7_isRight_44 rfl (fun c18 => ?_) (fun c18 => ?_)
        · replace h := goIfF h c18
          refine go_iinc3 (v := (v3 + 1)) hc dX7_isRight_49 rfl ?_
          refine go_goto hc 16 dX7_isRight_52 rfl ?_
          exact ih _ h
        · replace h := goIfT h c18
          refine go_iconst (v := 1) hc dX7_isRight_47 rfl ?_
          cases h
          exact go_zret hc dX7_isRight_48 hr rfl
set_option maxRecDepth 100000 in
set_option maxHeartbeats 4000000 in
theorem mX7_isRight {E : goEv} {l : Launch} {G : goG} {N : Nat} {M : goMI} {L : goML} {R : goMR} {a0 : Nat} {v1 : Int32} {v2 : Int32} {r0 : Int32} (hk : goKn E) (hW : goW G R) (m0 : a0 = 28 ∨ a0 = 58) (h : fX7_isRight N M a0 v1 v2 = some r0) : Met l yX7_isRight (goCd yX7_isRight cX7_isRight 4 (Option.some FieldType.boolean)) (goRoom 1 21 0 0) (goPre E [.ref a0, .int v1, .int v2] G M L R) (goQi E r0 G M L R) 0 0 (goSet E) := by
  refine goMet pl_RX7 hk (lv := [some (.ref a0), some (.int v1), some (.int v2), none]) rfl (Nat.le_of_ble_eq_true rfl) ?_
  intro X hc hl hR hr hnm
  subst hl
  unfold fX7_isRight at h
  refine go_aload0 hc dX7_isRight_0 ?_
  refine go_getI hc lk_RX7_25 dX7_isRight_1 (shLaw_0 hW m0) ?_
  refine go_iload1 hc dX7_isRight_4 ?_
  refine go_callSi hc dX7_isRight_5 (mX12_bit hk hW rfl) ml_RX7_44 yk_X12_bit wst_X12_bit hR rfl rfl rfl (Nat.le_of_ble_eq_true rfl) rfl ?_
  refine go_iconst (v := 1) hc dX7_isRight_8 rfl ?_
  refine go_icmp_ne hc 14 dX7_isRight_9 rfl (fun c11 => ?_) (fun c11 => ?_)
  · replace h := goIfF h c11
    refine go_iconst (v := 0) hc dX7_isRight_14 rfl ?_
    refine go_istore3 hc dX7_isRight_15 ?_
    exact mX7_isRight_L16 hc hk hR hr hW m0 _ _ h
  · replace h := goIfT h c11
    refine go_iconst (v := 1) hc dX7_isRight_12 rfl ?_
    cases h
    exact go_zret hc dX7_isRight_13 hr rfl
theorem dX7_firstWrongStep_0 : decode cX7_firstWrongStep 0 = .ok (.iconst 0, 1) := by decide +kernel
theorem dX7_firstWrongStep_1 : decode cX7_firstWrongStep 1 = .ok (.istore_n 1, 1) := by decide +kernel
theorem dX7_firstWrongStep_2 : decode cX7_firstWrongStep 2 = .ok (.iconst 0, 1) := by decide +kernel
theorem dX7_firstWrongStep_3 : decode cX7_firstWrongStep 3 = .ok (.istore_n 2, 1) := by decide +kernel
theorem dX7_firstWrongStep_4 : decode cX7_firstWrongStep 4 = .ok (.iload_n 2, 1) := by decide +kernel
theorem dX7_firstWrongStep_5 : decode cX7_firstWrongStep 5 = .ok (.aload_n 0, 1) := by decide +kernel
theorem dX7_firstWrongStep_6 : decode cX7_firstWrongStep 6 = .ok (.getfield 31, 3) := by decide +kernel
theorem dX7_firstWrongStep_9 : decode cX7_firstWrongStep 9 = .ok (.if_icmp .ge 36, 3) := by decide +kernel
theorem dX7_firstWrongStep_12 : decode cX7_firstWrongStep 12 = .ok (.aload_n 0, 1) := by decide +kernel
theorem dX7_firstWrongStep_13 : decode cX7_firstWrongStep 13 = .ok (.aload_n 0, 1) := by decide +kernel
theorem dX7_firstWrongStep_14 : decode cX7_firstWrongStep 14 = .ok (.getfield 18, 3) := by decide +kernel
theorem dX7_firstWrongStep_17 : decode cX7_firstWrongStep 17 = .ok (.iload_n 2, 1) := by decide +kernel
theorem dX7_firstWrongStep_18 : decode cX7_firstWrongStep 18 = .ok (.iaload, 1) := by decide +kernel
theorem dX7_firstWrongStep_19 : decode cX7_firstWrongStep 19 = .ok (.iload_n 1, 1) := by decide +kernel
theorem dX7_firstWrongStep_20 : decode cX7_firstWrongStep 20 = .ok (.invokevirtual 40, 3) := by decide +kernel
theorem dX7_firstWrongStep_23 : decode cX7_firstWrongStep 23 = .ok (.ifCond .ne 5, 3) := by decide +kernel
theorem dX7_firstWrongStep_26 : decode cX7_firstWrongStep 26 = .ok (.iload_n 2, 1) := by decide +kernel
theorem dX7_firstWrongStep_27 : decode cX7_firstWrongStep 27 = .ok (.ireturn, 1) := by decide +kernel
theorem dX7_firstWrongStep_28 : decode cX7_firstWrongStep 28 = .ok (.iload_n 1, 1) := by decide +kernel
theorem dX7_firstWrongStep_29 : decode cX7_firstWrongStep 29 = .ok (.iconst 1, 1) := by decide +kernel
theorem dX7_firstWrongStep_30 : decode cX7_firstWrongStep 30 = .ok (.aload_n 0, 1) := by decide +kernel
theorem dX7_firstWrongStep_31 : decode cX7_firstWrongStep 31 = .ok (.getfield 18, 3) := by decide +kernel
theorem dX7_firstWrongStep_34 : decode cX7_firstWrongStep 34 = .ok (.iload_n 2, 1) := by decide +kernel
theorem dX7_firstWrongStep_35 : decode cX7_firstWrongStep 35 = .ok (.iaload, 1) := by decide +kernel
theorem dX7_firstWrongStep_36 : decode cX7_firstWrongStep 36 = .ok (.ishl, 1) := by decide +kernel
theorem dX7_firstWrongStep_37 : decode cX7_firstWrongStep 37 = .ok (.ior, 1) := by decide +kernel
theorem dX7_firstWrongStep_38 : decode cX7_firstWrongStep 38 = .ok (.istore_n 1, 1) := by decide +kernel
theorem dX7_firstWrongStep_39 : decode cX7_firstWrongStep 39 = .ok (.iinc 2 1, 3) := by decide +kernel
theorem dX7_firstWrongStep_42 : decode cX7_firstWrongStep 42 = .ok (.goto (-38), 3) := by decide +kernel
theorem dX7_firstWrongStep_45 : decode cX7_firstWrongStep 45 = .ok (.bipush (-2), 2) := by decide +kernel
theorem dX7_firstWrongStep_47 : decode cX7_firstWrongStep 47 = .ok (.ireturn, 1) := by decide +kernel
set_option maxRecDepth 100000 in
set_option maxHeartbeats 4000000 in
theorem mX7_firstWrongStep_L4 {E : goEv} {X : goX} {G : goG} {M : goMI} {L : goML} {R : goMR} {N : Nat} {a0 : Nat} {r0 : Int32} (hc : goCx E X cX7_firstWrongStep RX7 3) (hk : goKn E) (hR : X.2.2.2.1 = goRoom 2 44 0 0) (hr : X.2.2.2.2.2.2.2.2.1.sig.returnType = (Option.some FieldType.int)) (hW : goW G R) (m0 : a0 = 28 ∨ a0 = 58) : ∀ (n : Nat) (v1 : Int32) (v2 : Int32), lX7_firstWrongStep_4 N M a0 n v1 v2 = some r0 → goA E X G 0 0 (goMQ X E (goQi E r0 G M L R) 0 0) 4 [some (.ref a0), some (.int v1), some (.int v2)] [] M L R := by
  intro n
  induction n with
  | zero => intro v1 v2 h; exact nomatch h
  | succ n ih =>
    intro v1 v2 h
    rw [lX7_firstWrongStep_4] at h
    refine go_iload2 hc dX7_firstWrongStep_4 ?_
    refine go_aload0 hc dX7_firstWrongStep_5 ?_
    refine go_getI hc lk_RX7_31 dX7_firstWrongStep_6 (shLaw_0 hW m0) ?_
    refine go_icmp_ge hc 45 dX7_firstWrongStep_9 rfl (fun c11 => ?_) (fun c11 => ?_)
    · replace h := goIfF h c11
      refine go_bipush (v := (-2)) hc dX7_firstWrongStep_45 rfl ?_
      cases h
      exact go_iret hc dX7_firstWrongStep_47 hr
    · replace h := goIfT h c11
      refine go_aload0 hc dX7_firstWrongStep_12 ?_
      refine go_aload0 hc dX7_firstWrongStep_13 ?_
      refine go_getR hc lk_RX7_18 dX7_firstWrongStep_14 (shLaw_0 hW m0) (rfLaw_6 hW m0) ?_
      refine go_iload2 hc dX7_firstWrongStep_17 ?_
      replace h := goBind h; obtain ⟨x12, e13, h⟩ := h
      refine go_iald hc dX7_firstWrongStep_18 (shLaw_3 hW m0) e13 ?_
      refine go_iload1 hc dX7_firstWrongStep_19 ?_
      replace h := goBind h; obtain ⟨x14, e15, h⟩ := h
      refine go_callVi hc dX7_firstWrongStep_20 (mX7_isRight hk hW m0 e15) ml_RX7_40 yk_X7_isRight ⟨wim_X7_isRight, wse_X7_isRight⟩ hR rfl (shLaw_0 hW m0) rfl rfl rfl (Nat.le_of_ble_eq_true rfl) rfl ?_
      refine go_if_ne hc 28 dX7_firstWrongStep_23 rfl (fun c16 => ?_) (fun c16 => ?_)
      · replace h := goIfF h c16
        refine go_iload1 hc dX7_firstWrongStep_28 ?_
        refine go_iconst (v := 1) hc dX7_firstWrongStep_29 rfl ?_
        refine go_aload0 hc dX7_firstWrongStep_30 ?_
        refine go_getR hc lk_RX7_18 dX7_firstWrongStep_31 (shLaw_0 hW m0) (rfLaw_6 hW m0) ?_
        refine go_iload2 hc dX7_firstWrongStep_34 ?_
        replace h := goBind h; obtain ⟨x17, e18, h⟩ := h
        refine go_iald hc dX7_firstWrongStep_35 (shLaw_3 hW m0) e18 ?_
        refine go_ishl hc dX7_firstWrongStep_36 ?_
        refine go_ior hc dX7_firstWrongStep_37 ?_
        replace h := goNm_x h; obtain ⟨x19, e20, h⟩ := h
        refine go_nmI e20 ?_
        refine go_istore1 hc dX7_firstWrongStep_38 ?_
        refine go_iinc2 (v := (v2 + 1)) hc dX7_firstWrongStep_39 rfl ?_
        refine go_goto hc 4 dX7_firstWrongStep_42 rfl ?_
        exact ih _ _ h
      · replace h := goIfT h c16
        refine go_iload2 hc dX7_firstWrongStep_26 ?_
        cases h
        exact go_iret hc dX7_firstWrongStep_27 hr
set_option maxRecDepth 100000 in
set_option maxHeartbeats 4000000 in
theorem mX7_firstWrongStep {E : goEv} {l : Launch} {G : goG} {N : Nat} {M : goMI} {L : goML} {R : goMR} {a0 : Nat} {r0 : Int32} (hk : goKn E) (hW : goW G R) (m0 : a0 = 28 ∨ a0 = 58) (h : fX7_firstWrongStep N M a0 = some r0) : Met l yX7_firstWrongStep (goCd yX7_firstWrongStep cX7_firstWrongStep 3 (Option.some FieldType.int)) (goRoom 2 44 0 0) (goPre E [.ref a0] G M L R) (goQi E r0 G M L R) 0 0 (goSet E) := by
  refine goMet pl_RX7 hk (lv := [some (.ref a0), none, none]) rfl (Nat.le_of_ble_eq_true rfl) ?_
  intro X hc hl hR hr hnm
  subst hl
  unfold fX7_firstWrongStep at h
  refine go_iconst (v := 0) hc dX7_firstWrongStep_0 rfl ?_
  refine go_istore1 hc dX7_firstWrongStep_1 ?_
  refine go_iconst (v := 0) hc dX7_firstWrongStep_2 rfl ?_
  refine go_istore2 hc dX7_firstWrongStep_3 ?_
  exact mX7_firstWrongStep_L4 hc hk hR hr hW m0 _ _ _ h
theorem dX7_neededRules_0 : decode cX7_neededRules 0 = .ok (.aload_n 0, 1) := by decide +kernel
theorem dX7_neededRules_1 : decode cX7_neededRules 1 = .ok (.aload_n 0, 1) := by decide +kernel
theorem dX7_neededRules_2 : decode cX7_neededRules 2 = .ok (.getfield 25, 3) := by decide +kernel
theorem dX7_neededRules_5 : decode cX7_neededRules 5 = .ok (.iconst (-1), 1) := by decide +kernel
theorem dX7_neededRules_6 : decode cX7_neededRules 6 = .ok (.invokevirtual 48, 3) := by decide +kernel
theorem dX7_neededRules_9 : decode cX7_neededRules 9 = .ok (.iload_n 1, 1) := by decide +kernel
theorem dX7_neededRules_10 : decode cX7_neededRules 10 = .ok (.invokestatic 44, 3) := by decide +kernel
theorem dX7_neededRules_13 : decode cX7_neededRules 13 = .ok (.ifCond .ne 6, 3) := by decide +kernel
theorem dX7_neededRules_16 : decode cX7_neededRules 16 = .ok (.bipush (-2), 2) := by decide +kernel
theorem dX7_neededRules_18 : decode cX7_neededRules 18 = .ok (.ireturn, 1) := by decide +kernel
theorem dX7_neededRules_19 : decode cX7_neededRules 19 = .ok (.iconst 0, 1) := by decide +kernel
theorem dX7_neededRules_20 : decode cX7_neededRules 20 = .ok (.istore_n 2, 1) := by decide +kernel
theorem dX7_neededRules_21 : decode cX7_neededRules 21 = .ok (.iconst 0, 1) := by decide +kernel
theorem dX7_neededRules_22 : decode cX7_neededRules 22 = .ok (.istore_n 3, 1) := by decide +kernel
theorem dX7_neededRules_23 : decode cX7_neededRules 23 = .ok (.iload_n 3, 1) := by decide +kernel
theorem dX7_neededRules_24 : decode cX7_neededRules 24 = .ok (.aload_n 0, 1) := by decide +kernel
theorem dX7_neededRules_25 : decode cX7_neededRules 25 = .ok (.getfield 28, 3) := by decide +kernel
theorem dX7_neededRules_28 : decode cX7_neededRules 28 = .ok (.if_icmp .ge 31, 3) := by decide +kernel
theorem dX7_neededRules_31 : decode cX7_neededRules 31 = .ok (.aload_n 0, 1) := by decide +kernel
theorem dX7_neededRules_32 : decode cX7_neededRules 32 = .ok (.aload_n 0, 1) := by decide +kernel
theorem dX7_neededRules_33 : decode cX7_neededRules 33 = .ok (.getfield 25, 3) := by decide +kernel
theorem dX7_neededRules_36 : decode cX7_neededRules 36 = .ok (.iload_n 3, 1) := by decide +kernel
theorem dX7_neededRules_37 : decode cX7_neededRules 37 = .ok (.invokevirtual 48, 3) := by decide +kernel
theorem dX7_neededRules_40 : decode cX7_neededRules 40 = .ok (.iload_n 1, 1) := by decide +kernel
theorem dX7_neededRules_41 : decode cX7_neededRules 41 = .ok (.invokestatic 44, 3) := by decide +kernel
theorem dX7_neededRules_44 : decode cX7_neededRules 44 = .ok (.ifCond .ne 9, 3) := by decide +kernel
theorem dX7_neededRules_47 : decode cX7_neededRules 47 = .ok (.iload_n 2, 1) := by decide +kernel
theorem dX7_neededRules_48 : decode cX7_neededRules 48 = .ok (.iconst 1, 1) := by decide +kernel
theorem dX7_neededRules_49 : decode cX7_neededRules 49 = .ok (.iload_n 3, 1) := by decide +kernel
theorem dX7_neededRules_50 : decode cX7_neededRules 50 = .ok (.ishl, 1) := by decide +kernel
theorem dX7_neededRules_51 : decode cX7_neededRules 51 = .ok (.ior, 1) := by decide +kernel
theorem dX7_neededRules_52 : decode cX7_neededRules 52 = .ok (.istore_n 2, 1) := by decide +kernel
theorem dX7_neededRules_53 : decode cX7_neededRules 53 = .ok (.iinc 3 1, 3) := by decide +kernel
theorem dX7_neededRules_56 : decode cX7_neededRules 56 = .ok (.goto (-33), 3) := by decide +kernel
theorem dX7_neededRules_59 : decode cX7_neededRules 59 = .ok (.iload_n 2, 1) := by decide +kernel
theorem dX7_neededRules_60 : decode cX7_neededRules 60 = .ok (.ireturn, 1) := by decide +kernel
set_option maxRecDepth 100000 in
set_option maxHeartbeats 4000000 in
theorem mX7_neededRules_L23 {E : goEv} {X : goX} {G : goG} {Q : State → Prop} {M : goMI} {L : goML} {R : goMR} {N : Nat} {v1 : Int32} {a0 : Nat} (hc : goCx E X cX7_neededRules RX7 4) (hk : goKn E) (hR : X.2.2.2.1 = goRoom 1 25 0 0) (hr : X.2.2.2.2.2.2.2.2.1.sig.returnType = (Option.some FieldType.int)) (hW : goW G R) (m0 : a0 = 28 ∨ a0 = 58) : ∀ (n : Nat) (v2 : Int32) (v3 : Int32) (r0 : Int32), lX7_neededRules_23 N v1 M a0 n v2 v3 = some r0 → (∀ (d0 d1 d3 : Option Value), goA E X G 0 0 Q 59 [d0, d1, some (.int r0), d3] [] M L R) → goA E X G 0 0 Q 23 [some (.ref a0), some (.int v1), some (.int v2), some (.int v3)] [] M L R := by
  intro n
  induction n with
  | zero => intro v2 v3 r0 h; exact nomatch h
  | succ n ih =>
    intro v2 v3 r0 h kx
    rw [lX7_neededRules_23] at h
    refine go_iload3 hc dX7_neededRules_23 ?_
    refine go_aload0 hc dX7_neededRules_24 ?_
    refine go_getI hc lk_RX7_28 dX7_neededRules_25 (shLaw_0 hW m0) ?_
    refine go_icmp_ge hc 59 dX7_neededRules_28 rfl (fun c14 => ?_) (fun c14 => ?_)
    · replace h := goIfF h c14
      cases h
      exact kx _ _ _
    · replace h := goIfT h c14
      refine go_aload0 hc dX7_neededRules_31 ?_
      refine go_aload0 hc dX7_neededRules_32 ?_
      refine go_getI hc lk_RX7_25 dX7_neededRules_33 (shLaw_0 hW m0) ?_
      refine go_iload3 hc dX7_neededRules_36 ?_
      replace h := goBind h; obtain ⟨x15, e16, h⟩ := h
      refine go_callVi hc dX7_neededRules_37 (mX7_known hk hW m0 e16) ml_RX7_48 yk_X7_known ⟨wim_X7_known, wse_X7_known⟩ hR rfl (shLaw_0 hW m0) rfl rfl rfl (Nat.le_of_ble_eq_true rfl) rfl ?_
      refine go_iload1 hc dX7_neededRules_40 ?_
      refine go_callSi hc dX7_neededRules_41 (mX12_bit hk hW rfl) ml_RX7_44 yk_X12_bit wst_X12_bit hR rfl rfl rfl (Nat.le_of_ble_eq_true rfl) rfl ?_
      replace h := goBind h; obtain ⟨x17, e18, h⟩ := h
      have k19 : goA E X G 0 0 Q 53 [some (.ref a0), some (.int v1), some (.int x17), some (.int v3)] [] M L R := by
        refine go_iinc3 (v := (v3 + 1)) hc dX7_neededRules_53 rfl ?_
        refine go_goto hc 23 dX7_neededRules_56 rfl ?_
        exact ih _ _ _ h kx
      refine go_if_ne hc 53 dX7_neededRules_44 rfl (fun c20 => ?_) (fun c20 => ?_)
      · replace e18 := goIfF e18 c20
        cases e18
        exact k19
      · replace e18 := goIfT e18 c20
        refine go_iload2 hc dX7_neededRules_47 ?_
        refine go_iconst (v := 1) hc dX7_neededRules_48 rfl ?_
        refine go_iload3 hc dX7_neededRules_49 ?_
        refine go_ishl hc dX7_neededRules_50 ?_
        refine go_ior hc dX7_neededRules_51 ?_
        replace e18 := goNm_x e18; obtain ⟨x21, e22, e18⟩ := e18
        refine go_nmI e22 ?_
        refine go_istore2 hc dX7_neededRules_52 ?_
        cases e18
        exact k19
set_option maxRecDepth 100000 in
set_option maxHeartbeats 4000000 in
theorem mX7_neededRules {E : goEv} {l : Launch} {G : goG} {N : Nat} {M : goMI} {L : goML} {R : goMR} {a0 : Nat} {v1 : Int32} {r0 : Int32} (hk : goKn E) (hW : goW G R) (m0 : a0 = 28 ∨ a0 = 58) (h : fX7_neededRules N M a0 v1 = some r0) : Met l yX7_neededRules (goCd yX7_neededRules cX7_neededRules 4 (Option.some FieldType.int)) (goRoom 1 25 0 0) (goPre E [.ref a0, .int v1] G M L R) (goQi E r0 G M L R) 0 0 (goSet E) := by
  refine goMet pl_RX7 hk (lv := [some (.ref a0), some (.int v1), none, none]) rfl (Nat.le_of_ble_eq_true rfl) ?_
  intro X hc hl hR hr hnm
  subst hl
  unfold fX7_neededRules at h
  refine go_aload0 hc dX7_neededRules_0 ?_
  refine go_aload0 hc dX7_neededRules_1 ?_
  refine go_getI hc lk_RX7_25 dX7_neededRules_2 (shLaw_0 hW m0) ?_
  refine go_iconst (v := (-1)) hc dX7_neededRules_5 rfl ?_
  replace h := goBind h; obtain ⟨x11, e12, h⟩ := h
  refine go_callVi hc dX7_neededRules_6 (mX7_known hk hW m0 e12) ml_RX7_48 yk_X7_known ⟨wim_X7_known, wse_X7_known⟩ hR rfl (shLaw_0 hW m0) rfl rfl rfl (Nat.le_of_ble_eq_true rfl) rfl ?_
  refine go_iload1 hc dX7_neededRules_9 ?_
  refine go_callSi hc dX7_neededRules_10 (mX12_bit hk hW rfl) ml_RX7_44 yk_X12_bit wst_X12_bit hR rfl rfl rfl (Nat.le_of_ble_eq_true rfl) rfl ?_
  refine go_if_ne hc 19 dX7_neededRules_13 rfl (fun c13 => ?_) (fun c13 => ?_)
  · replace h := goIfF h c13
    refine go_iconst (v := 0) hc dX7_neededRules_19 rfl ?_
    refine go_istore2 hc dX7_neededRules_20 ?_
    refine go_iconst (v := 0) hc dX7_neededRules_21 rfl ?_
    refine go_istore3 hc dX7_neededRules_22 ?_
    replace h := goBind h; obtain ⟨x24, e23, h⟩ := h
    refine mX7_neededRules_L23 hc hk hR hr hW m0 _ _ _ _ e23 (fun d0 d1 d3 => ?_)
    refine go_iload2 hc dX7_neededRules_59 ?_
    cases h
    exact go_iret hc dX7_neededRules_60 hr
  · replace h := goIfT h c13
    refine go_bipush (v := (-2)) hc dX7_neededRules_16 rfl ?_
    cases h
    exact go_iret hc dX7_neededRules_18 hr
theorem dX7_fewestFacts_0 : decode cX7_fewestFacts 0 = .ok (.bipush (-2), 2) := by decide +kernel
theorem dX7_fewestFacts_2 : decode cX7_fewestFacts 2 = .ok (.istore_n 2, 1) := by decide +kernel
theorem dX7_fewestFacts_3 : decode cX7_fewestFacts 3 = .ok (.bipush 9, 2) := by decide +kernel
theorem dX7_fewestFacts_5 : decode cX7_fewestFacts 5 = .ok (.istore_n 3, 1) := by decide +kernel
theorem dX7_fewestFacts_6 : decode cX7_fewestFacts 6 = .ok (.iconst 0, 1) := by decide +kernel
theorem dX7_fewestFacts_7 : decode cX7_fewestFacts 7 = .ok (.istore 4, 2) := by decide +kernel
theorem dX7_fewestFacts_9 : decode cX7_fewestFacts 9 = .ok (.iload 4, 2) := by decide +kernel
theorem dX7_fewestFacts_11 : decode cX7_fewestFacts 11 = .ok (.iconst 1, 1) := by decide +kernel
theorem dX7_fewestFacts_12 : decode cX7_fewestFacts 12 = .ok (.aload_n 0, 1) := by decide +kernel
theorem dX7_fewestFacts_13 : decode cX7_fewestFacts 13 = .ok (.getfield 21, 3) := by decide +kernel
theorem dX7_fewestFacts_16 : decode cX7_fewestFacts 16 = .ok (.ishl, 1) := by decide +kernel
theorem dX7_fewestFacts_17 : decode cX7_fewestFacts 17 = .ok (.if_icmp .ge 55, 3) := by decide +kernel
theorem dX7_fewestFacts_20 : decode cX7_fewestFacts 20 = .ok (.iload 4, 2) := by decide +kernel
theorem dX7_fewestFacts_22 : decode cX7_fewestFacts 22 = .ok (.invokestatic 51, 3) := by decide +kernel
theorem dX7_fewestFacts_25 : decode cX7_fewestFacts 25 = .ok (.istore 5, 2) := by decide +kernel
theorem dX7_fewestFacts_27 : decode cX7_fewestFacts 27 = .ok (.iload 4, 2) := by decide +kernel
theorem dX7_fewestFacts_29 : decode cX7_fewestFacts 29 = .ok (.aload_n 0, 1) := by decide +kernel
theorem dX7_fewestFacts_30 : decode cX7_fewestFacts 30 = .ok (.getfield 25, 3) := by decide +kernel
theorem dX7_fewestFacts_33 : decode cX7_fewestFacts 33 = .ok (.iconst (-1), 1) := by decide +kernel
theorem dX7_fewestFacts_34 : decode cX7_fewestFacts 34 = .ok (.ixor, 1) := by decide +kernel
theorem dX7_fewestFacts_35 : decode cX7_fewestFacts 35 = .ok (.iand, 1) := by decide +kernel
theorem dX7_fewestFacts_36 : decode cX7_fewestFacts 36 = .ok (.ifCond .ne 30, 3) := by decide +kernel
theorem dX7_fewestFacts_39 : decode cX7_fewestFacts 39 = .ok (.iload 5, 2) := by decide +kernel
theorem dX7_fewestFacts_41 : decode cX7_fewestFacts 41 = .ok (.iload_n 3, 1) := by decide +kernel
theorem dX7_fewestFacts_42 : decode cX7_fewestFacts 42 = .ok (.if_icmp .ge 24, 3) := by decide +kernel
theorem dX7_fewestFacts_45 : decode cX7_fewestFacts 45 = .ok (.aload_n 0, 1) := by decide +kernel
theorem dX7_fewestFacts_46 : decode cX7_fewestFacts 46 = .ok (.iload 4, 2) := by decide +kernel
theorem dX7_fewestFacts_48 : decode cX7_fewestFacts 48 = .ok (.iconst (-1), 1) := by decide +kernel
theorem dX7_fewestFacts_49 : decode cX7_fewestFacts 49 = .ok (.invokevirtual 48, 3) := by decide +kernel
theorem dX7_fewestFacts_52 : decode cX7_fewestFacts 52 = .ok (.iload_n 1, 1) := by decide +kernel
theorem dX7_fewestFacts_53 : decode cX7_fewestFacts 53 = .ok (.invokestatic 44, 3) := by decide +kernel
theorem dX7_fewestFacts_56 : decode cX7_fewestFacts 56 = .ok (.iconst 1, 1) := by decide +kernel
theorem dX7_fewestFacts_57 : decode cX7_fewestFacts 57 = .ok (.if_icmp .ne 9, 3) := by decide +kernel
theorem dX7_fewestFacts_60 : decode cX7_fewestFacts 60 = .ok (.iload 4, 2) := by decide +kernel
theorem dX7_fewestFacts_62 : decode cX7_fewestFacts 62 = .ok (.istore_n 2, 1) := by decide +kernel
theorem dX7_fewestFacts_63 : decode cX7_fewestFacts 63 = .ok (.iload 5, 2) := by decide +kernel
theorem dX7_fewestFacts_65 : decode cX7_fewestFacts 65 = .ok (.istore_n 3, 1) := by decide +kernel
theorem dX7_fewestFacts_66 : decode cX7_fewestFacts 66 = .ok (.iinc 4 1, 3) := by decide +kernel
theorem dX7_fewestFacts_69 : decode cX7_fewestFacts 69 = .ok (.goto (-60), 3) := by decide +kernel
theorem dX7_fewestFacts_72 : decode cX7_fewestFacts 72 = .ok (.iload_n 2, 1) := by decide +kernel
theorem dX7_fewestFacts_73 : decode cX7_fewestFacts 73 = .ok (.ireturn, 1) := by decide +kernel
set_option maxRecDepth 100000 in
set_option maxHeartbeats 4000000 in
theorem mX7_fewestFacts_L9 {E : goEv} {X : goX} {G : goG} {Q : State → Prop} {M : goMI} {L : goML} {R : goMR} {N : Nat} {v1 : Int32} {a0 : Nat} (hc : goCx E X cX7_fewestFacts RX7 6) (hk : goKn E) (hR : X.2.2.2.1 = goRoom 1 25 0 0) (hr : X.2.2.2.2.2.2.2.2.1.sig.returnType = (Option.some FieldType.int)) (hW : goW G R) (m0 : a0 = 28 ∨ a0 = 58) : ∀ (n : Nat) (v2 : Int32) (v3 : Int32) (v4 : Int32) (r0 : Int32), lX7_fewestFacts_9 N v1 M a0 n v2 v3 v4 = some r0 → (∀ (d0 d1 d3 d4 d5 : Option Value), goA E X G 0 0 Q 72 [d0, d1, some (.int r0), d3, d4, d5] [] M L R) → ∀ (d5 : Option Value), goA E X G 0 0 Q 9 [some (.ref a0), some (.int v1), some (.int v2), some (.int v3), some (.int v4), d5] [] M L R := by
  intro n
  induction n with
  | zero => intro v2 v3 v4 r0 h; exact nomatch h
  | succ n ih =>
    intro v2 v3 v4 r0 h kx d5
    rw [lX7_fewestFacts_9] at h
    refine go_iload4 hc dX7_fewestFacts_9 ?_
    refine go_iconst (v := 1) hc dX7_fewestFacts_11 rfl ?_
    refine go_aload0 hc dX7_fewestFacts_12 ?_
    refine go_getI hc lk_RX7_21 dX7_fewestFacts_13 (shLaw_0 hW m0) ?_
    refine go_ishl hc dX7_fewestFacts_16 ?_
    refine go_icmp_ge hc 72 dX7_fewestFacts_17 rfl (fun c11 => ?_) (fun c11 => ?_)
    · replace h := goIfF h c11
      cases h
      exact kx _ _ _ _ _
    · replace h := goIfT h c11
      refine go_iload4 hc dX7_fewestFacts_20 ?_
      refine go_callSi hc dX7_fewestFacts_22 (mJ6_bitCount_0f7a4 hk hW rfl) ml_RX7_51 yk_J6_bitCount_0f7a4 wst_J6_bitCount_0f7a4 hR rfl rfl rfl (Nat.le_of_ble_eq_true rfl) rfl ?_
      replace h := goNm_x h; obtain ⟨x12, e13, h⟩ := h
      refine go_nmI e13 ?_
      refine go_istore5 hc dX7_fewestFacts_25 ?_
      refine go_iload4 hc dX7_fewestFacts_27 ?_
      refine go_aload0 hc dX7_fewestFacts_29 ?_
      refine go_getI hc lk_RX7_25 dX7_fewestFacts_30 (shLaw_0 hW m0) ?_
      refine go_iconst (v := (-1)) hc dX7_fewestFacts_33 rfl ?_
      refine go_ixor hc dX7_fewestFacts_34 ?_
      refine go_iand hc dX7_fewestFacts_35 ?_
      replace h := goB2_h h; obtain ⟨x14, x15, e16, h⟩ := h
      have k17 : ∀ (d5 : Option Value), goA E X G 0 0 Q 66 [some (.ref a0), some (.int v1), some (.int x14), some (.int x15), some (.int v4), d5] [] M L R := by
        intro d5
        refine go_iinc4 (v := (v4 + 1)) hc dX7_fewestFacts_66 rfl ?_
        refine go_goto hc 9 dX7_fewestFacts_69 rfl ?_
        exact ih _ _ _ _ h kx _
      refine go_if_ne hc 66 dX7_fewestFacts_36 rfl (fun c18 => ?_) (fun c18 => ?_)
      · replace e16 := goIfF e16 c18
        cases e16
        exact k17 _
      · replace e16 := goIfT e16 c18
        refine go_iload5 hc dX7_fewestFacts_39 ?_
        refine go_iload3 hc dX7_fewestFacts_41 ?_
        refine go_icmp_ge hc 66 dX7_fewestFacts_42 rfl (fun c19 => ?_) (fun c19 => ?_)
        · replace e16 := goIfF e16 c19
          cases e16
          exact k17 _
        · replace e16 := goIfT e16 c19
          refine go_aload0 hc dX7_fewestFacts_45 ?_
          refine go_iload4 hc dX7_fewestFacts_46 ?_
          refine go_iconst (v := (-1)) hc dX7_fewestFacts_48 rfl ?_
          replace e16 := goBind e16; obtain ⟨x20, e21, e16⟩ := e16
          refine go_callVi hc dX7_fewestFacts_49 (mX7_known hk hW m0 e21) ml_RX7_48 yk_X7_known ⟨wim_X7_known, wse_X7_known⟩ hR rfl (shLaw_0 hW m0) rfl rfl rfl (Nat.le_of_ble_eq_true rfl) rfl ?_
          refine go_iload1 hc dX7_fewestFacts_52 ?_
          refine go_callSi hc dX7_fewestFacts_53 (mX12_bit hk hW rfl) ml_RX7_44 yk_X12_bit wst_X12_bit hR rfl rfl rfl (Nat.le_of_ble_eq_true rfl) rfl ?_
          refine go_iconst (v := 1) hc dX7_fewestFacts_56 rfl ?_
          refine go_icmp_ne hc 66 dX7_fewestFacts_57 rfl (fun c22 => ?_) (fun c22 => ?_)
          · replace e16 := goIfF e16 c22
            cases e16
            exact k17 _
          · replace e16 := goIfT e16 c22
            refine go_iload4 hc dX7_fewestFacts_60 ?_
            refine go_istore2 hc dX7_fewestFacts_62 ?_
            refine go_iload5 hc dX7_fewestFacts_63 ?_
            refine go_istore3 hc dX7_fewestFacts_65 ?_
            cases e16
            exact k17 _
set_option maxRecDepth 100000 in
set_option maxHeartbeats 4000000 in
theorem mX7_fewestFacts {E : goEv} {l : Launch} {G : goG} {N : Nat} {M : goMI} {L : goML} {R : goMR} {a0 : Nat} {v1 : Int32} {r0 : Int32} (hk : goKn E) (hW : goW G R) (m0 : a0 = 28 ∨ a0 = 58) (h : fX7_fewestFacts N M a0 v1 = some r0) : Met l yX7_fewestFacts (goCd yX7_fewestFacts cX7_fewestFacts 6 (Option.some FieldType.int)) (goRoom 1 25 0 0) (goPre E [.ref a0, .int v1] G M L R) (goQi E r0 G M L R) 0 0 (goSet E) := by
  refine goMet pl_RX7 hk (lv := [some (.ref a0), some (.int v1), none, none, none, none]) rfl (Nat.le_of_ble_eq_true rfl) ?_
  intro X hc hl hR hr hnm
  subst hl
  unfold fX7_fewestFacts at h
  refine go_bipush (v := (-2)) hc dX7_fewestFacts_0 rfl ?_
  refine go_istore2 hc dX7_fewestFacts_2 ?_
  refine go_bipush (v := 9) hc dX7_fewestFacts_3 rfl ?_
  refine go_istore3 hc dX7_fewestFacts_5 ?_
  refine go_iconst (v := 0) hc dX7_fewestFacts_6 rfl ?_
  refine go_istore4 hc dX7_fewestFacts_7 ?_
  replace h := goBind h; obtain ⟨x24, e23, h⟩ := h
  refine mX7_fewestFacts_L9 hc hk hR hr hW m0 _ _ _ _ _ e23 (fun d0 d1 d3 d4 d5 => ?_) _
  refine go_iload2 hc dX7_fewestFacts_72 ?_
  cases h
  exact go_iret hc dX7_fewestFacts_73 hr
theorem dX8_use_0 : decode cX8_use 0 = .ok (.aload_n 0, 1) := by decide +kernel
theorem dX8_use_1 : decode cX8_use 1 = .ok (.getfield 27, 3) := by decide +kernel
theorem dX8_use_4 : decode cX8_use 4 = .ok (.aload_n 1, 1) := by decide +kernel
theorem dX8_use_5 : decode cX8_use 5 = .ok (.putfield 31, 3) := by decide +kernel
theorem dX8_use_8 : decode cX8_use 8 = .ok (.return_, 1) := by decide +kernel
set_option maxRecDepth 100000 in
set_option maxHeartbeats 4000000 in
theorem mX8_use {E : goEv} {l : Launch} {G : goG} {M : goMI} {L : goML} {R : goMR} {a1 : Nat} (hk : goKn E) (hW : goW G R) (m1 : a1 = 7 ∨ a1 = 37) (h : fX8_use R a1 = some ()) : Met l yX8_use (goCd yX8_use cX8_use 2 none) (goRoom 0 0 0 0) (goPre E [.ref 88, .ref a1] G M L R) (goQv E G M L (rX8_use R a1)) 0 0 (goSet E) := by
  refine goMet pl_RX8 hk (lv := [some (.ref 88), some (.ref a1)]) rfl (Nat.le_of_ble_eq_true rfl) ?_
  intro X hc hl hR hr hnm
  subst hl
  unfold fX8_use at h
  refine go_aload0 hc dX8_use_0 ?_
  refine go_getR hc lk_RX8_27 dX8_use_1 (sh_88 hW) (rf_88_0 hW) ?_
  refine go_aload1 hc dX8_use_4 ?_
  refine go_putR hc (.object "GoatCourt$Hill") lk_RX8_31 (by decide +kernel) (fun _ => ⟨rfl, rfl⟩) dX8_use_5 (shDay_0 hW (mb_92)) ?_
  replace hW := ptDay_1 hW (mb_92) m1
  cases h
  exact go_vret hc dX8_use_8 hr
theorem dX8_save_0 : decode cX8_save 0 = .ok (.aload_n 0, 1) := by decide +kernel
theorem dX8_save_1 : decode cX8_save 1 = .ok (.getfield 27, 3) := by decide +kernel
theorem dX8_save_4 : decode cX8_save 4 = .ok (.getfield 85, 3) := by decide +kernel
theorem dX8_save_7 : decode cX8_save 7 = .ok (.iconst 0, 1) := by decide +kernel
theorem dX8_save_8 : decode cX8_save 8 = .ok (.aload_n 1, 1) := by decide +kernel
theorem dX8_save_9 : decode cX8_save 9 = .ok (.iload_n 2, 1) := by decide +kernel
theorem dX8_save_10 : decode cX8_save 10 = .ok (.bipush 14, 2) := by decide +kernel
theorem dX8_save_12 : decode cX8_save 12 = .ok (.imul, 1) := by decide +kernel
theorem dX8_save_13 : decode cX8_save 13 = .ok (.bipush 14, 2) := by decide +kernel
theorem dX8_save_15 : decode cX8_save 15 = .ok (.invokestatic 95, 3) := by decide +kernel
theorem dX8_save_18 : decode cX8_save 18 = .ok (.return_, 1) := by decide +kernel
set_option maxRecDepth 100000 in
set_option maxHeartbeats 4000000 in
theorem mX8_save {E : goEv} {l : Launch} {G : goG} {M : goMI} {L : goML} {R : goMR} {a1 n1 : Nat} {v2 : Int32} {r0 : goMI} (hk : goKn E) (hW : goW G R) (m1 : a1 < G.2 ∧ G.1 a1 = (1, n1)) (h : fX8_save M a1 n1 v2 = some r0) : Met l yX8_save (goCd yX8_save cX8_save 3 none) (goRoom 1 40 0 0) (goPre E [.ref 88, .ref a1, .int v2] G M L R) (goQv E G r0 L R) 0 0 (goSet E) := by
  refine goMet pl_RX8 hk (lv := [some (.ref 88), some (.ref a1), some (.int v2)]) rfl (Nat.le_of_ble_eq_true rfl) ?_
  intro X hc hl hR hr hnm
  subst hl
  unfold fX8_save at h
  refine go_aload0 hc dX8_save_0 ?_
  refine go_getR hc lk_RX8_27 dX8_save_1 (sh_88 hW) (rf_88_0 hW) ?_
  refine go_getR hc lk_RX8_85 dX8_save_4 (shDay_0 hW (mb_92)) (rfDay_2 hW (mb_92)) ?_
  refine go_iconst (v := 0) hc dX8_save_7 rfl ?_
  refine go_aload1 hc dX8_save_8 ?_
  refine go_iload2 hc dX8_save_9 ?_
  refine go_bipush (v := 14) hc dX8_save_10 rfl ?_
  refine go_imul hc dX8_save_12 ?_
  refine go_bipush (v := 14) hc dX8_save_13 rfl ?_
  replace h := goBind h; obtain ⟨M11, e12, h⟩ := h
  refine go_copy hc dX8_save_15 wml_RX8_95 hR rfl (shDay_1 hW (mb_92)) m1 rfl (Nat.le_of_ble_eq_true rfl) e12 ?_
  cases h
  exact go_vret hc dX8_save_18 hr
theorem dX8_playSaving_0 : decode cX8_playSaving 0 = .ok (.iload_n 2, 1) := by decide +kernel
theorem dX8_playSaving_1 : decode cX8_playSaving 1 = .ok (.istore 4, 2) := by decide +kernel
theorem dX8_playSaving_3 : decode cX8_playSaving 3 = .ok (.iload 4, 2) := by decide +kernel
theorem dX8_playSaving_5 : decode cX8_playSaving 5 = .ok (.iload_n 3, 1) := by decide +kernel
theorem dX8_playSaving_6 : decode cX8_playSaving 6 = .ok (.if_icmp .gt 29, 3) := by decide +kernel
theorem dX8_playSaving_9 : decode cX8_playSaving 9 = .ok (.aload_n 0, 1) := by decide +kernel
theorem dX8_playSaving_10 : decode cX8_playSaving 10 = .ok (.getfield 27, 3) := by decide +kernel
theorem dX8_playSaving_13 : decode cX8_playSaving 13 = .ok (.iload 4, 2) := by decide +kernel
theorem dX8_playSaving_15 : decode cX8_playSaving 15 = .ok (.iload 4, 2) := by decide +kernel
theorem dX8_playSaving_17 : decode cX8_playSaving 17 = .ok (.invokevirtual 101, 3) := by decide +kernel
theorem dX8_playSaving_20 : decode cX8_playSaving 20 = .ok (.aload_n 0, 1) := by decide +kernel
theorem dX8_playSaving_21 : decode cX8_playSaving 21 = .ok (.aload_n 1, 1) := by decide +kernel
theorem dX8_playSaving_22 : decode cX8_playSaving 22 = .ok (.iload 4, 2) := by decide +kernel
theorem dX8_playSaving_24 : decode cX8_playSaving 24 = .ok (.iconst 1, 1) := by decide +kernel
theorem dX8_playSaving_25 : decode cX8_playSaving 25 = .ok (.iadd, 1) := by decide +kernel
theorem dX8_playSaving_26 : decode cX8_playSaving 26 = .ok (.invokevirtual 52, 3) := by decide +kernel
theorem dX8_playSaving_29 : decode cX8_playSaving 29 = .ok (.iinc 4 1, 3) := by decide +kernel
theorem dX8_playSaving_32 : decode cX8_playSaving 32 = .ok (.goto (-29), 3) := by decide +kernel
theorem dX8_playSaving_35 : decode cX8_playSaving 35 = .ok (.return_, 1) := by decide +kernel
set_option maxRecDepth 100000 in
set_option maxHeartbeats 4000000 in
theorem mX8_playSaving_L3 {E : goEv} {X : goX} {G : goG} {Q : State → Prop} {L : goML} {R : goMR} {N : Nat} {v3 : Int32} {a1 : Nat} {n1 : Nat} (hc : goCx E X cX8_playSaving RX8 5) (hk : goKn E) (hR : X.2.2.2.1 = goRoom 4 105 0 0) (hr : X.2.2.2.2.2.2.2.2.1.sig.returnType = none) (hW : goW G R) (m1 : a1 < G.2 ∧ G.1 a1 = (1, n1)) : ∀ (n : Nat) (v4 : Int32) (M : goMI) (r0 : goMI), lX8_playSaving_3 N v3 R a1 n1 n v4 M = some r0 → (∀ (d0 d1 d2 d3 d4 : Option Value), goA E X G 0 0 Q 35 [d0, d1, d2, d3, d4] [] r0 L R) → ∀ (d2 : Option Value), goA E X G 0 0 Q 3 [some (.ref 88), some (.ref a1), d2, some (.int v3), some (.int v4)] [] M L R := by
  intro n
  induction n with
  | zero => intro v4 M r0 h; exact nomatch h
  | succ n ih =>
    intro v4 M r0 h kx d2
    rw [lX8_playSaving_3] at h
    refine go_iload4 hc dX8_playSaving_3 ?_
    refine go_iload3 hc dX8_playSaving_5 ?_
    refine go_icmp_gt hc 35 dX8_playSaving_6 rfl (fun c11 => ?_) (fun c11 => ?_)
    · replace h := goIfF h c11
      cases h
      exact kx _ _ _ _ _
    · replace h := goIfT h c11
      refine go_aload0 hc dX8_playSaving_9 ?_
      refine go_getR hc lk_RX8_27 dX8_playSaving_10 (sh_88 hW) (rf_88_0 hW) ?_
      refine go_iload4 hc dX8_playSaving_13 ?_
      refine go_iload4 hc dX8_playSaving_15 ?_
      replace h := goBind h; obtain ⟨M12, e13, h⟩ := h
      refine go_callVv hc dX8_playSaving_17 (mX3_play hk hW (mb_92) e13) ml_RX8_101 yk_X3_play ⟨wim_X3_play, wse_X3_play⟩ hR rfl (shDay_0 hW (mb_92)) rfl rfl rfl (Nat.le_of_ble_eq_true rfl) rfl ?_
      refine go_aload0 hc dX8_playSaving_20 ?_
      refine go_aload1 hc dX8_playSaving_21 ?_
      refine go_iload4 hc dX8_playSaving_22 ?_
      refine go_iconst (v := 1) hc dX8_playSaving_24 rfl ?_
      refine go_iadd hc dX8_playSaving_25 ?_
      replace h := goBind h; obtain ⟨M14, e15, h⟩ := h
      refine go_callVv hc dX8_playSaving_26 (mX8_save hk hW m1 e15) ml_RX8_52 yk_X8_save ⟨wim_X8_save, wse_X8_save⟩ hR rfl (sh_88 hW) rfl rfl rfl (Nat.le_of_ble_eq_true rfl) rfl ?_
      refine go_iinc4 (v := (v4 + 1)) hc dX8_playSaving_29 rfl ?_
      refine go_goto hc 3 dX8_playSaving_32 rfl ?_
      exact ih _ _ _ h kx _
set_option maxRecDepth 100000 in
set_option maxHeartbeats 4000000 in
theorem mX8_playSaving {E : goEv} {l : Launch} {G : goG} {N : Nat} {M : goMI} {L : goML} {R : goMR} {a1 n1 : Nat} {v2 : Int32} {v3 : Int32} {r0 : goMI} (hk : goKn E) (hW : goW G R) (m1 : a1 < G.2 ∧ G.1 a1 = (1, n1)) (h : fX8_playSaving N M R a1 n1 v2 v3 = some r0) : Met l yX8_playSaving (goCd yX8_playSaving cX8_playSaving 5 none) (goRoom 4 105 0 0) (goPre E [.ref 88, .ref a1, .int v2, .int v3] G M L R) (goQv E G r0 L R) 0 0 (goSet E) := by
  refine goMet pl_RX8 hk (lv := [some (.ref 88), some (.ref a1), some (.int v2), some (.int v3), none]) rfl (Nat.le_of_ble_eq_true rfl) ?_
  intro X hc hl hR hr hnm
  subst hl
  unfold fX8_playSaving at h
  refine go_iload2 hc dX8_playSaving_0 ?_
  refine go_istore4 hc dX8_playSaving_1 ?_
  replace h := goBind h; obtain ⟨M17, e16, h⟩ := h
  refine mX8_playSaving_L3 hc hk hR hr hW m1 _ _ _ _ e16 (fun d0 d1 d2 d3 d4 => ?_) _
  cases h
  exact go_vret hc dX8_playSaving_35 hr
theorem dX8_isThere_0 : decode cX8_isThere 0 = .ok (.aload_n 0, 1) := by decide +kernel
theorem dX8_isThere_1 : decode cX8_isThere 1 = .ok (.getfield 27, 3) := by decide +kernel
theorem dX8_isThere_4 : decode cX8_isThere 4 = .ok (.getfield 85, 3) := by decide +kernel
theorem dX8_isThere_7 : decode cX8_isThere 7 = .ok (.bipush 8, 2) := by decide +kernel
theorem dX8_isThere_9 : decode cX8_isThere 9 = .ok (.aload_n 0, 1) := by decide +kernel
theorem dX8_isThere_10 : decode cX8_isThere 10 = .ok (.getfield 35, 3) := by decide +kernel
theorem dX8_isThere_13 : decode cX8_isThere 13 = .ok (.iadd, 1) := by decide +kernel
theorem dX8_isThere_14 : decode cX8_isThere 14 = .ok (.iaload, 1) := by decide +kernel
theorem dX8_isThere_15 : decode cX8_isThere 15 = .ok (.aload_n 0, 1) := by decide +kernel
theorem dX8_isThere_16 : decode cX8_isThere 16 = .ok (.getfield 39, 3) := by decide +kernel
theorem dX8_isThere_19 : decode cX8_isThere 19 = .ok (.if_icmp .ne 7, 3) := by decide +kernel
theorem dX8_isThere_22 : decode cX8_isThere 22 = .ok (.iconst 1, 1) := by decide +kernel
theorem dX8_isThere_23 : decode cX8_isThere 23 = .ok (.goto 4, 3) := by decide +kernel
theorem dX8_isThere_26 : decode cX8_isThere 26 = .ok (.iconst 0, 1) := by decide +kernel
theorem dX8_isThere_27 : decode cX8_isThere 27 = .ok (.ireturn, 1) := by decide +kernel
set_option maxRecDepth 100000 in
set_option maxHeartbeats 4000000 in
theorem mX8_isThere {E : goEv} {l : Launch} {G : goG} {M : goMI} {L : goML} {R : goMR} {r0 : Int32} (hk : goKn E) (hW : goW G R) (h : fX8_isThere M = some r0) : Met l yX8_isThere (goCd yX8_isThere cX8_isThere 1 (Option.some FieldType.boolean)) (goRoom 0 0 0 0) (goPre E [.ref 88] G M L R) (goQi E r0 G M L R) 0 0 (goSet E) := by
  refine goMet pl_RX8 hk (lv := [some (.ref 88)]) rfl (Nat.le_of_ble_eq_true rfl) ?_
  intro X hc hl hR hr hnm
  subst hl
  unfold fX8_isThere at h
  refine go_aload0 hc dX8_isThere_0 ?_
  refine go_getR hc lk_RX8_27 dX8_isThere_1 (sh_88 hW) (rf_88_0 hW) ?_
  refine go_getR hc lk_RX8_85 dX8_isThere_4 (shDay_0 hW (mb_92)) (rfDay_2 hW (mb_92)) ?_
  refine go_bipush (v := 8) hc dX8_isThere_7 rfl ?_
  refine go_aload0 hc dX8_isThere_9 ?_
  refine go_getI hc lk_RX8_35 dX8_isThere_10 (sh_88 hW) ?_
  refine go_iadd hc dX8_isThere_13 ?_
  replace h := goBind h; obtain ⟨x11, e12, h⟩ := h
  refine go_iald hc dX8_isThere_14 (shDay_1 hW (mb_92)) e12 ?_
  refine go_aload0 hc dX8_isThere_15 ?_
  refine go_getI hc lk_RX8_39 dX8_isThere_16 (sh_88 hW) ?_
  refine go_icmp_ne hc 26 dX8_isThere_19 rfl (fun c13 => ?_) (fun c13 => ?_)
  · replace h := goIfF h c13
    refine go_iconst (v := 0) hc dX8_isThere_26 rfl ?_
    cases h
    exact go_zret hc dX8_isThere_27 hr rfl
  · replace h := goIfT h c13
    refine go_iconst (v := 1) hc dX8_isThere_22 rfl ?_
    refine go_goto hc 27 dX8_isThere_23 rfl ?_
    cases h
    exact go_zret hc dX8_isThere_27 hr rfl
theorem dX8_isFree_0 : decode cX8_isFree 0 = .ok (.iload_n 1, 1) := by decide +kernel
theorem dX8_isFree_1 : decode cX8_isFree 1 = .ok (.bipush 12, 2) := by decide +kernel
theorem dX8_isFree_3 : decode cX8_isFree 3 = .ok (.irem, 1) := by decide +kernel
theorem dX8_isFree_4 : decode cX8_isFree 4 = .ok (.aload_n 0, 1) := by decide +kernel
theorem dX8_isFree_5 : decode cX8_isFree 5 = .ok (.getfield 42, 3) := by decide +kernel
theorem dX8_isFree_8 : decode cX8_isFree 8 = .ok (.if_icmp .gt 34, 3) := by decide +kernel
theorem dX8_isFree_11 : decode cX8_isFree 11 = .ok (.aload_n 0, 1) := by decide +kernel
theorem dX8_isFree_12 : decode cX8_isFree 12 = .ok (.getfield 27, 3) := by decide +kernel
theorem dX8_isFree_15 : decode cX8_isFree 15 = .ok (.getfield 88, 3) := by decide +kernel
theorem dX8_isFree_18 : decode cX8_isFree 18 = .ok (.aload_n 0, 1) := by decide +kernel
theorem dX8_isFree_19 : decode cX8_isFree 19 = .ok (.getfield 45, 3) := by decide +kernel
theorem dX8_isFree_22 : decode cX8_isFree 22 = .ok (.iload_n 1, 1) := by decide +kernel
theorem dX8_isFree_23 : decode cX8_isFree 23 = .ok (.bipush 12, 2) := by decide +kernel
theorem dX8_isFree_25 : decode cX8_isFree 25 = .ok (.irem, 1) := by decide +kernel
theorem dX8_isFree_26 : decode cX8_isFree 26 = .ok (.iadd, 1) := by decide +kernel
theorem dX8_isFree_27 : decode cX8_isFree 27 = .ok (.iaload, 1) := by decide +kernel
theorem dX8_isFree_28 : decode cX8_isFree 28 = .ok (.iload_n 1, 1) := by decide +kernel
theorem dX8_isFree_29 : decode cX8_isFree 29 = .ok (.bipush 12, 2) := by decide +kernel
theorem dX8_isFree_31 : decode cX8_isFree 31 = .ok (.idiv, 1) := by decide +kernel
theorem dX8_isFree_32 : decode cX8_isFree 32 = .ok (.invokestatic 91, 3) := by decide +kernel
theorem dX8_isFree_35 : decode cX8_isFree 35 = .ok (.ifCond .ne 7, 3) := by decide +kernel
theorem dX8_isFree_38 : decode cX8_isFree 38 = .ok (.iconst 1, 1) := by decide +kernel
theorem dX8_isFree_39 : decode cX8_isFree 39 = .ok (.goto 4, 3) := by decide +kernel
theorem dX8_isFree_42 : decode cX8_isFree 42 = .ok (.iconst 0, 1) := by decide +kernel
theorem dX8_isFree_43 : decode cX8_isFree 43 = .ok (.ireturn, 1) := by decide +kernel
set_option maxRecDepth 100000 in
set_option maxHeartbeats 4000000 in
theorem mX8_isFree {E : goEv} {l : Launch} {G : goG} {M : goMI} {L : goML} {R : goMR} {v1 : Int32} {r0 : Int32} (hk : goKn E) (hW : goW G R) (h : fX8_isFree M v1 = some r0) : Met l yX8_isFree (goCd yX8_isFree cX8_isFree 2 (Option.some FieldType.boolean)) (goRoom 1 21 0 0) (goPre E [.ref 88, .int v1] G M L R) (goQi E r0 G M L R) 0 0 (goSet E) := by
  refine goMet pl_RX8 hk (lv := [some (.ref 88), some (.int v1)]) rfl (Nat.le_of_ble_eq_true rfl) ?_
  intro X hc hl hR hr hnm
  subst hl
  unfold fX8_isFree at h
  refine go_iload1 hc dX8_isFree_0 ?_
  refine go_bipush (v := 12) hc dX8_isFree_1 rfl ?_
  refine go_irem hc dX8_isFree_3 (by decide) ?_
  refine go_aload0 hc dX8_isFree_4 ?_
  refine go_getI hc lk_RX8_42 dX8_isFree_5 (sh_88 hW) ?_
  refine go_icmp_gt hc 42 dX8_isFree_8 rfl (fun c11 => ?_) (fun c11 => ?_)
  · replace h := goIfF h c11
    refine go_iconst (v := 0) hc dX8_isFree_42 rfl ?_
    cases h
    exact go_zret hc dX8_isFree_43 hr rfl
  · replace h := goIfT h c11
    refine go_aload0 hc dX8_isFree_11 ?_
    refine go_getR hc lk_RX8_27 dX8_isFree_12 (sh_88 hW) (rf_88_0 hW) ?_
    refine go_getR hc lk_RX8_88 dX8_isFree_15 (shDay_0 hW (mb_92)) (rfDay_3 hW (mb_92)) ?_
    refine go_aload0 hc dX8_isFree_18 ?_
    refine go_getI hc lk_RX8_45 dX8_isFree_19 (sh_88 hW) ?_
    refine go_iload1 hc dX8_isFree_22 ?_
    refine go_bipush (v := 12) hc dX8_isFree_23 rfl ?_
    refine go_irem hc dX8_isFree_25 (by decide) ?_
    refine go_iadd hc dX8_isFree_26 ?_
    replace h := goBind h; obtain ⟨x12, e13, h⟩ := h
    refine go_iald hc dX8_isFree_27 (shDay_2 hW (mb_92)) e13 ?_
    refine go_iload1 hc dX8_isFree_28 ?_
    refine go_bipush (v := 12) hc dX8_isFree_29 rfl ?_
    refine go_idiv hc dX8_isFree_31 (by decide) ?_
    refine go_callSi hc dX8_isFree_32 (mX12_bit hk hW rfl) ml_RX8_91 yk_X12_bit wst_X12_bit hR rfl rfl rfl (Nat.le_of_ble_eq_true rfl) rfl ?_
    refine go_if_ne hc 42 dX8_isFree_35 rfl (fun c14 => ?_) (fun c14 => ?_)
    · replace h := goIfF h c14
      refine go_iconst (v := 0) hc dX8_isFree_42 rfl ?_
      cases h
      exact go_zret hc dX8_isFree_43 hr rfl
    · replace h := goIfT h c14
      refine go_iconst (v := 1) hc dX8_isFree_38 rfl ?_
      refine go_goto hc 43 dX8_isFree_39 rfl ?_
      cases h
      exact go_zret hc dX8_isFree_43 hr rfl
theorem dX8_turn_0 : decode cX8_turn 0 = .ok (.aload_n 0, 1) := by decide +kernel
theorem dX8_turn_1 : decode cX8_turn 1 = .ok (.getfield 27, 3) := by decide +kernel
theorem dX8_turn_4 : decode cX8_turn 4 = .ok (.getfield 88, 3) := by decide +kernel
theorem dX8_turn_7 : decode cX8_turn 7 = .ok (.aload_n 0, 1) := by decide +kernel
theorem dX8_turn_8 : decode cX8_turn 8 = .ok (.getfield 45, 3) := by decide +kernel
theorem dX8_turn_11 : decode cX8_turn 11 = .ok (.iload_n 1, 1) := by decide +kernel
theorem dX8_turn_12 : decode cX8_turn 12 = .ok (.bipush 12, 2) := by decide +kernel
theorem dX8_turn_14 : decode cX8_turn 14 = .ok (.irem, 1) := by decide +kernel
theorem dX8_turn_15 : decode cX8_turn 15 = .ok (.iadd, 1) := by decide +kernel
theorem dX8_turn_16 : decode cX8_turn 16 = .ok (.dup2, 1) := by decide +kernel
theorem dX8_turn_17 : decode cX8_turn 17 = .ok (.iaload, 1) := by decide +kernel
theorem dX8_turn_18 : decode cX8_turn 18 = .ok (.iconst 1, 1) := by decide +kernel
theorem dX8_turn_19 : decode cX8_turn 19 = .ok (.iload_n 1, 1) := by decide +kernel
theorem dX8_turn_20 : decode cX8_turn 20 = .ok (.bipush 12, 2) := by decide +kernel
theorem dX8_turn_22 : decode cX8_turn 22 = .ok (.idiv, 1) := by decide +kernel
theorem dX8_turn_23 : decode cX8_turn 23 = .ok (.ishl, 1) := by decide +kernel
theorem dX8_turn_24 : decode cX8_turn 24 = .ok (.ixor, 1) := by decide +kernel
theorem dX8_turn_25 : decode cX8_turn 25 = .ok (.iastore, 1) := by decide +kernel
theorem dX8_turn_26 : decode cX8_turn 26 = .ok (.return_, 1) := by decide +kernel
set_option maxRecDepth 100000 in
set_option maxHeartbeats 4000000 in
theorem mX8_turn {E : goEv} {l : Launch} {G : goG} {M : goMI} {L : goML} {R : goMR} {v1 : Int32} {r0 : goMI} (hk : goKn E) (hW : goW G R) (h : fX8_turn M v1 = some r0) : Met l yX8_turn (goCd yX8_turn cX8_turn 2 none) (goRoom 0 0 0 0) (goPre E [.ref 88, .int v1] G M L R) (goQv E G r0 L R) 0 0 (goSet E) := by
  refine goMet pl_RX8 hk (lv := [some (.ref 88), some (.int v1)]) rfl (Nat.le_of_ble_eq_true rfl) ?_
  intro X hc hl hR hr hnm
  subst hl
  unfold fX8_turn at h
  refine go_aload0 hc dX8_turn_0 ?_
  refine go_getR hc lk_RX8_27 dX8_turn_1 (sh_88 hW) (rf_88_0 hW) ?_
  refine go_getR hc lk_RX8_88 dX8_turn_4 (shDay_0 hW (mb_92)) (rfDay_3 hW (mb_92)) ?_
  refine go_aload0 hc dX8_turn_7 ?_
  refine go_getI hc lk_RX8_45 dX8_turn_8 (sh_88 hW) ?_
  refine go_iload1 hc dX8_turn_11 ?_
  refine go_bipush (v := 12) hc dX8_turn_12 rfl ?_
  refine go_irem hc dX8_turn_14 (by decide) ?_
  refine go_iadd hc dX8_turn_15 ?_
  refine go_dup2 hc dX8_turn_16 ?_
  replace h := goBind h; obtain ⟨x11, e12, h⟩ := h
  refine go_iald hc dX8_turn_17 (shDay_2 hW (mb_92)) e12 ?_
  refine go_iconst (v := 1) hc dX8_turn_18 rfl ?_
  refine go_iload1 hc dX8_turn_19 ?_
  refine go_bipush (v := 12) hc dX8_turn_20 rfl ?_
  refine go_idiv hc dX8_turn_22 (by decide) ?_
  refine go_ishl hc dX8_turn_23 ?_
  refine go_ixor hc dX8_turn_24 ?_
  replace h := goBind h; obtain ⟨M13, e14, h⟩ := h
  refine go_iast hc dX8_turn_25 (shDay_2 hW (mb_92)) e14 ?_
  cases h
  exact go_vret hc dX8_turn_26 hr
theorem dX8_load_0 : decode cX8_load 0 = .ok (.aload_n 1, 1) := by decide +kernel
theorem dX8_load_1 : decode cX8_load 1 = .ok (.iload_n 2, 1) := by decide +kernel
theorem dX8_load_2 : decode cX8_load 2 = .ok (.bipush 14, 2) := by decide +kernel
theorem dX8_load_4 : decode cX8_load 4 = .ok (.imul, 1) := by decide +kernel
theorem dX8_load_5 : decode cX8_load 5 = .ok (.aload_n 0, 1) := by decide +kernel
theorem dX8_load_6 : decode cX8_load 6 = .ok (.getfield 27, 3) := by decide +kernel
theorem dX8_load_9 : decode cX8_load 9 = .ok (.getfield 85, 3) := by decide +kernel
theorem dX8_load_12 : decode cX8_load 12 = .ok (.iconst 0, 1) := by decide +kernel
theorem dX8_load_13 : decode cX8_load 13 = .ok (.bipush 14, 2) := by decide +kernel
theorem dX8_load_15 : decode cX8_load 15 = .ok (.invokestatic 95, 3) := by decide +kernel
theorem dX8_load_18 : decode cX8_load 18 = .ok (.return_, 1) := by decide +kernel
set_option maxRecDepth 100000 in
set_option maxHeartbeats 4000000 in
theorem mX8_load {E : goEv} {l : Launch} {G : goG} {M : goMI} {L : goML} {R : goMR} {a1 n1 : Nat} {v2 : Int32} {r0 : goMI} (hk : goKn E) (hW : goW G R) (m1 : a1 < G.2 ∧ G.1 a1 = (1, n1)) (h : fX8_load M a1 n1 v2 = some r0) : Met l yX8_load (goCd yX8_load cX8_load 3 none) (goRoom 1 40 0 0) (goPre E [.ref 88, .ref a1, .int v2] G M L R) (goQv E G r0 L R) 0 0 (goSet E) := by
  refine goMet pl_RX8 hk (lv := [some (.ref 88), some (.ref a1), some (.int v2)]) rfl (Nat.le_of_ble_eq_true rfl) ?_
  intro X hc hl hR hr hnm
  subst hl
  unfold fX8_load at h
  refine go_aload1 hc dX8_load_0 ?_
  refine go_iload2 hc dX8_load_1 ?_
  refine go_bipush (v := 14) hc dX8_load_2 rfl ?_
  refine go_imul hc dX8_load_4 ?_
  refine go_aload0 hc dX8_load_5 ?_
  refine go_getR hc lk_RX8_27 dX8_load_6 (sh_88 hW) (rf_88_0 hW) ?_
  refine go_getR hc lk_RX8_85 dX8_load_9 (shDay_0 hW (mb_92)) (rfDay_2 hW (mb_92)) ?_
  refine go_iconst (v := 0) hc dX8_load_12 rfl ?_
  refine go_bipush (v := 14) hc dX8_load_13 rfl ?_
  replace h := goBind h; obtain ⟨M11, e12, h⟩ := h
  refine go_copy hc dX8_load_15 wml_RX8_95 hR rfl m1 (shDay_1 hW (mb_92)) rfl (Nat.le_of_ble_eq_true rfl) e12 ?_
  cases h
  exact go_vret hc dX8_load_18 hr
theorem dX8_isAs_0 : decode cX8_isAs 0 = .ok (.iconst 0, 1) := by decide +kernel
theorem dX8_isAs_1 : decode cX8_isAs 1 = .ok (.istore_n 3, 1) := by decide +kernel
theorem dX8_isAs_2 : decode cX8_isAs 2 = .ok (.iload_n 3, 1) := by decide +kernel
theorem dX8_isAs_3 : decode cX8_isAs 3 = .ok (.bipush 14, 2) := by decide +kernel
theorem dX8_isAs_5 : decode cX8_isAs 5 = .ok (.if_icmp .ge 31, 3) := by decide +kernel
theorem dX8_isAs_8 : decode cX8_isAs 8 = .ok (.aload_n 0, 1) := by decide +kernel
theorem dX8_isAs_9 : decode cX8_isAs 9 = .ok (.getfield 27, 3) := by decide +kernel
theorem dX8_isAs_12 : decode cX8_isAs 12 = .ok (.getfield 85, 3) := by decide +kernel
theorem dX8_isAs_15 : decode cX8_isAs 15 = .ok (.iload_n 3, 1) := by decide +kernel
theorem dX8_isAs_16 : decode cX8_isAs 16 = .ok (.iaload, 1) := by decide +kernel
theorem dX8_isAs_17 : decode cX8_isAs 17 = .ok (.aload_n 1, 1) := by decide +kernel
theorem dX8_isAs_18 : decode cX8_isAs 18 = .ok (.iload_n 2, 1) := by decide +kernel
theorem dX8_isAs_19 : decode cX8_isAs 19 = .ok (.bipush 14, 2) := by decide +kernel
theorem dX8_isAs_21 : decode cX8_isAs 21 = .ok (.imul, 1) := by decide +kernel
theorem dX8_isAs_22 : decode cX8_isAs 22 = .ok (.iload_n 3, 1) := by decide +kernel
theorem dX8_isAs_23 : decode cX8_isAs 23 = .ok (.iadd, 1) := by decide +kernel
theorem dX8_isAs_24 : decode cX8_isAs 24 = .ok (.iaload, 1) := by decide +kernel
theorem dX8_isAs_25 : decode cX8_isAs 25 = .ok (.if_icmp .eq 5, 3) := by decide +kernel
theorem dX8_isAs_28 : decode cX8_isAs 28 = .ok (.iconst 0, 1) := by decide +kernel
theorem dX8_isAs_29 : decode cX8_isAs 29 = .ok (.ireturn, 1) := by decide +kernel
theorem dX8_isAs_30 : decode cX8_isAs 30 = .ok (.iinc 3 1, 3) := by decide +kernel
theorem dX8_isAs_33 : decode cX8_isAs 33 = .ok (.goto (-31), 3) := by decide +kernel
theorem dX8_isAs_36 : decode cX8_isAs 36 = .ok (.iconst 1, 1) := by decide +kernel
theorem dX8_isAs_37 : decode cX8_isAs 37 = .ok (.ireturn, 1) := by decide +kernel
set_option maxRecDepth 100000 in
set_option maxHeartbeats 4000000 in
theorem mX8_isAs_L2 {E : goEv} {X : goX} {G : goG} {M : goMI} {L : goML} {R : goMR} {v2 : Int32} {a1 : Nat} {n1 : Nat} {r0 : Int32} (hc : goCx E X cX8_isAs RX8 4) (hk : goKn E) (hR : X.2.2.2.1 = goRoom 0 0 0 0) (hr : X.2.2.2.2.2.2.2.2.1.sig.returnType = (Option.some FieldType.boolean)) (hW : goW G R) (m1 : a1 < G.2 ∧ G.1 a1 = (1, n1)) : ∀ (n : Nat) (v3 : Int32), lX8_isAs_2 v2 M a1 n1 n v3 = some r0 → goA E X G 0 0 (goMQ X E (goQi E r0 G M L R) 0 0) 2 [some (.ref 88), some (.ref a1), some (.int v2), some (.int v3)] [] M L R := by
  intro n
  induction n with
  | zero => intro v3 h; exact nomatch h
  | succ n ih =>
    intro v3 h
    rw [lX8_isAs_2] at h
    refine go_iload3 hc dX8_isAs_2 ?_
    refine go_bipush (v := 14) hc dX8_isAs_3 rfl ?_
    refine go_icmp_ge hc 36 dX8_isAs_5 rfl (fun c11 => ?_) (fun c11 => ?_)
    · replace h := goIfF h c11
      refine go_iconst (v := 1) hc dX8_isAs_36 rfl ?_
      cases h
      exact go_zret hc dX8_isAs_37 hr rfl
    · replace h := goIfT h c11
      refine go_aload0 hc dX8_isAs_8 ?_
      refine go_getR hc lk_RX8_27 dX8_isAs_9 (sh_88 hW) (rf_88_0 hW) ?_
      refine go_getR hc lk_RX8_85 dX8_isAs_12 (shDay_0 hW (mb_92)) (rfDay_2 hW (mb_92)) ?_
      refine go_iload3 hc dX8_isAs_15 ?_
      replace h := goBind h; obtain ⟨x12, e13, h⟩ := h
      refine go_iald hc dX8_isAs_16 (shDay_1 hW (mb_92)) e13 ?_
      refine go_aload1 hc dX8_isAs_17 ?_
      refine go_iload2 hc dX8_isAs_18 ?_
      refine go_bipush (v := 14) hc dX8_isAs_19 rfl ?_
      refine go_imul hc dX8_isAs_21 ?_
      refine go_iload3 hc dX8_isAs_22 ?_
      refine go_iadd hc dX8_isAs_23 ?_
      replace h := goBind h; obtain ⟨x14, e15, h⟩ := h
      refine go_iald hc dX8_isAs_24 m1 e15 ?_
      refine go_icmp_eq hc 30 dX8_isAs_25 rfl (fun c16 => ?_) (fun c16 => ?_)
      · replace h := goIfT h c16
        refine go_iinc3 (v := (v3 + 1)) hc dX8_isAs_30 rfl ?_
        refine go_goto hc 2 dX8_isAs_33 rfl ?_
        exact ih _ h
      · replace h := goIfF h c16
        refine go_iconst (v := 0) hc dX8_isAs_28 rfl ?_
        cases h
        exact go_zret hc dX8_isAs_29 hr rfl
set_option maxRecDepth 100000 in
set_option maxHeartbeats 4000000 in
theorem mX8_isAs {E : goEv} {l : Launch} {G : goG} {N : Nat} {M : goMI} {L : goML} {R : goMR} {a1 n1 : Nat} {v2 : Int32} {r0 : Int32} (hk : goKn E) (hW : goW G R) (m1 : a1 < G.2 ∧ G.1 a1 = (1, n1)) (h : fX8_isAs N M a1 n1 v2 = some r0) : Met l yX8_isAs (goCd yX8_isAs cX8_isAs 4 (Option.some FieldType.boolean)) (goRoom 0 0 0 0) (goPre E [.ref 88, .ref a1, .int v2] G M L R) (goQi E r0 G M L R) 0 0 (goSet E) := by
  refine goMet pl_RX8 hk (lv := [some (.ref 88), some (.ref a1), some (.int v2), none]) rfl (Nat.le_of_ble_eq_true rfl) ?_
  intro X hc hl hR hr hnm
  subst hl
  unfold fX8_isAs at h
  refine go_iconst (v := 0) hc dX8_isAs_0 rfl ?_
  refine go_istore3 hc dX8_isAs_1 ?_
  exact mX8_isAs_L2 hc hk hR hr hW m1 _ _ h
theorem dX8_changes_0 : decode cX8_changes 0 = .ok (.iload_n 1, 1) := by decide +kernel
theorem dX8_changes_1 : decode cX8_changes 1 = .ok (.bipush 12, 2) := by decide +kernel
theorem dX8_changes_3 : decode cX8_changes 3 = .ok (.irem, 1) := by decide +kernel
theorem dX8_changes_4 : decode cX8_changes 4 = .ok (.istore_n 3, 1) := by decide +kernel
theorem dX8_changes_5 : decode cX8_changes 5 = .ok (.aload_n 0, 1) := by decide +kernel
theorem dX8_changes_6 : decode cX8_changes 6 = .ok (.iload_n 1, 1) := by decide +kernel
theorem dX8_changes_7 : decode cX8_changes 7 = .ok (.invokevirtual 109, 3) := by decide +kernel
theorem dX8_changes_10 : decode cX8_changes 10 = .ok (.aload_n 0, 1) := by decide +kernel
theorem dX8_changes_11 : decode cX8_changes 11 = .ok (.aload_n 2, 1) := by decide +kernel
theorem dX8_changes_12 : decode cX8_changes 12 = .ok (.iload_n 3, 1) := by decide +kernel
theorem dX8_changes_13 : decode cX8_changes 13 = .ok (.invokevirtual 112, 3) := by decide +kernel
theorem dX8_changes_16 : decode cX8_changes 16 = .ok (.aload_n 0, 1) := by decide +kernel
theorem dX8_changes_17 : decode cX8_changes 17 = .ok (.getfield 27, 3) := by decide +kernel
theorem dX8_changes_20 : decode cX8_changes 20 = .ok (.iload_n 3, 1) := by decide +kernel
theorem dX8_changes_21 : decode cX8_changes 21 = .ok (.iload_n 3, 1) := by decide +kernel
theorem dX8_changes_22 : decode cX8_changes 22 = .ok (.invokevirtual 101, 3) := by decide +kernel
theorem dX8_changes_25 : decode cX8_changes 25 = .ok (.aload_n 0, 1) := by decide +kernel
theorem dX8_changes_26 : decode cX8_changes 26 = .ok (.aload_n 2, 1) := by decide +kernel
theorem dX8_changes_27 : decode cX8_changes 27 = .ok (.iload_n 3, 1) := by decide +kernel
theorem dX8_changes_28 : decode cX8_changes 28 = .ok (.iconst 1, 1) := by decide +kernel
theorem dX8_changes_29 : decode cX8_changes 29 = .ok (.iadd, 1) := by decide +kernel
theorem dX8_changes_30 : decode cX8_changes 30 = .ok (.invokevirtual 115, 3) := by decide +kernel
theorem dX8_changes_33 : decode cX8_changes 33 = .ok (.ifCond .ne 7, 3) := by decide +kernel
theorem dX8_changes_36 : decode cX8_changes 36 = .ok (.iconst 1, 1) := by decide +kernel
theorem dX8_changes_37 : decode cX8_changes 37 = .ok (.goto 4, 3) := by decide +kernel
theorem dX8_changes_40 : decode cX8_changes 40 = .ok (.iconst 0, 1) := by decide +kernel
theorem dX8_changes_41 : decode cX8_changes 41 = .ok (.istore 4, 2) := by decide +kernel
theorem dX8_changes_43 : decode cX8_changes 43 = .ok (.iload 4, 2) := by decide +kernel
theorem dX8_changes_45 : decode cX8_changes 45 = .ok (.ifCond .eq 17, 3) := by decide +kernel
theorem dX8_changes_48 : decode cX8_changes 48 = .ok (.aload_n 0, 1) := by decide +kernel
theorem dX8_changes_49 : decode cX8_changes 49 = .ok (.getfield 27, 3) := by decide +kernel
theorem dX8_changes_52 : decode cX8_changes 52 = .ok (.iload_n 3, 1) := by decide +kernel
theorem dX8_changes_53 : decode cX8_changes 53 = .ok (.iconst 1, 1) := by decide +kernel
theorem dX8_changes_54 : decode cX8_changes 54 = .ok (.iadd, 1) := by decide +kernel
theorem dX8_changes_55 : decode cX8_changes 55 = .ok (.aload_n 0, 1) := by decide +kernel
theorem dX8_changes_56 : decode cX8_changes 56 = .ok (.getfield 42, 3) := by decide +kernel
theorem dX8_changes_59 : decode cX8_changes 59 = .ok (.invokevirtual 101, 3) := by decide +kernel
theorem dX8_changes_62 : decode cX8_changes 62 = .ok (.aload_n 0, 1) := by decide +kernel
theorem dX8_changes_63 : decode cX8_changes 63 = .ok (.iload_n 1, 1) := by decide +kernel
theorem dX8_changes_64 : decode cX8_changes 64 = .ok (.invokevirtual 109, 3) := by decide +kernel
theorem dX8_changes_67 : decode cX8_changes 67 = .ok (.iload 4, 2) := by decide +kernel
theorem dX8_changes_69 : decode cX8_changes 69 = .ok (.ireturn, 1) := by decide +kernel
set_option maxRecDepth 100000 in
set_option maxHeartbeats 4000000 in
theorem mX8_changes {E : goEv} {l : Launch} {G : goG} {N : Nat} {M : goMI} {L : goML} {R : goMR} {v1 : Int32} {a2 n2 : Nat} {r0 : Int32} {r1 : goMI} (hk : goKn E) (hW : goW G R) (m2 : a2 < G.2 ∧ G.1 a2 = (1, n2)) (h : fX8_changes N M R v1 a2 n2 = some (r0, r1)) : Met l yX8_changes (goCd yX8_changes cX8_changes 5 (Option.some FieldType.boolean)) (goRoom 4 105 0 0) (goPre E [.ref 88, .int v1, .ref a2] G M L R) (goQi E r0 G r1 L R) 0 0 (goSet E) := by
  refine goMet pl_RX8 hk (lv := [some (.ref 88), some (.int v1), some (.ref a2), none, none]) rfl (Nat.le_of_ble_eq_true rfl) ?_
  intro X hc hl hR hr hnm
  subst hl
  unfold fX8_changes at h
  refine go_iload1 hc dX8_changes_0 ?_
  refine go_bipush (v := 12) hc dX8_changes_1 rfl ?_
  refine go_irem hc dX8_changes_3 (by decide) ?_
  replace h := goNm_x h; obtain ⟨x11, e12, h⟩ := h
  refine go_nmI e12 ?_
  refine go_istore3 hc dX8_changes_4 ?_
  refine go_aload0 hc dX8_changes_5 ?_
  refine go_iload1 hc dX8_changes_6 ?_
  replace h := goBind h; obtain ⟨M13, e14, h⟩ := h
  refine go_callVv hc dX8_changes_7 (mX8_turn hk hW e14) ml_RX8_109 yk_X8_turn ⟨wim_X8_turn, wse_X8_turn⟩ hR rfl (sh_88 hW) rfl rfl rfl (Nat.le_of_ble_eq_true rfl) rfl ?_
  refine go_aload0 hc dX8_changes_10 ?_
  refine go_aload2 hc dX8_changes_11 ?_
  refine go_iload3 hc dX8_changes_12 ?_
  replace h := goBind h; obtain ⟨M15, e16, h⟩ := h
  refine go_callVv hc dX8_changes_13 (mX8_load hk hW m2 e16) ml_RX8_112 yk_X8_load ⟨wim_X8_load, wse_X8_load⟩ hR rfl (sh_88 hW) rfl rfl rfl (Nat.le_of_ble_eq_true rfl) rfl ?_
  refine go_aload0 hc dX8_changes_16 ?_
  refine go_getR hc lk_RX8_27 dX8_changes_17 (sh_88 hW) (rf_88_0 hW) ?_
  refine go_iload3 hc dX8_changes_20 ?_
  refine go_iload3 hc dX8_changes_21 ?_
  replace h := goBind h; obtain ⟨M17, e18, h⟩ := h
  refine go_callVv hc dX8_changes_22 (mX3_play hk hW (mb_92) e18) ml_RX8_101 yk_X3_play ⟨wim_X3_play, wse_X3_play⟩ hR rfl (shDay_0 hW (mb_92)) rfl rfl rfl (Nat.le_of_ble_eq_true rfl) rfl ?_
  refine go_aload0 hc dX8_changes_25 ?_
  refine go_aload2 hc dX8_changes_26 ?_
  refine go_iload3 hc dX8_changes_27 ?_
  refine go_iconst (v := 1) hc dX8_changes_28 rfl ?_
  refine go_iadd hc dX8_changes_29 ?_
  replace h := goBind h; obtain ⟨x19, e20, h⟩ := h
  refine go_callVi hc dX8_changes_30 (mX8_isAs hk hW m2 e20) ml_RX8_115 yk_X8_isAs ⟨wim_X8_isAs, wse_X8_isAs⟩ hR rfl (sh_88 hW) rfl rfl rfl (Nat.le_of_ble_eq_true rfl) rfl ?_
  replace h := goNm_y h; obtain ⟨x21, e22, h⟩ := h
  have k23 : ∀ (d2 d4 : Option Value), goA E X G 0 0 (goMQ X E (goQi E r0 G r1 L R) 0 0) 41 [some (.ref 88), some (.int v1), d2, some (.int x11), d4] [.int x21] M17 L R := by
    intro d2 d4
    refine go_istore4 hc dX8_changes_41 ?_
    refine go_iload4 hc dX8_changes_43 ?_
    replace h := goBind h; obtain ⟨M25, e26, h⟩ := h
    have k27 : ∀ (d2 d3 : Option Value), goA E X G 0 0 (goMQ X E (goQi E r0 G r1 L R) 0 0) 62 [some (.ref 88), some (.int v1), d2, d3, some (.int x21)] [] M25 L R := by
      intro d2 d3
      refine go_aload0 hc dX8_changes_62 ?_
      refine go_iload1 hc dX8_changes_63 ?_
      replace h := goBind h; obtain ⟨M31, e32, h⟩ := h
      refine go_callVv hc dX8_changes_64 (mX8_turn hk hW e32) ml_RX8_109 yk_X8_turn ⟨wim_X8_turn, wse_X8_turn⟩ hR rfl (sh_88 hW) rfl rfl rfl (Nat.le_of_ble_eq_true rfl) rfl ?_
      refine go_iload4 hc dX8_changes_67 ?_
      replace h := goBind h; obtain ⟨x33, e34, h⟩ := h
      obtain ⟨ze34, rfl⟩ := goZr_h e34
      cases h
      exact go_zret hc dX8_changes_69 hr (goZ_n ze34)
    refine go_if_eq hc 62 dX8_changes_45 rfl (fun c28 => ?_) (fun c28 => ?_)
    · replace e26 := goIfT e26 c28
      cases e26
      exact k27 _ _
    · replace e26 := goIfF e26 c28
      refine go_aload0 hc dX8_changes_48 ?_
      refine go_getR hc lk_RX8_27 dX8_changes_49 (sh_88 hW) (rf_88_0 hW) ?_
      refine go_iload3 hc dX8_changes_52 ?_
      refine go_iconst (v := 1) hc dX8_changes_53 rfl ?_
      refine go_iadd hc dX8_changes_54 ?_
      refine go_aload0 hc dX8_changes_55 ?_
      refine go_getI hc lk_RX8_42 dX8_changes_56 (sh_88 hW) ?_
      replace e26 := goBind e26; obtain ⟨M29, e30, e26⟩ := e26
      refine go_callVv hc dX8_changes_59 (mX3_play hk hW (mb_92) e30) ml_RX8_101 yk_X3_play ⟨wim_X3_play, wse_X3_play⟩ hR rfl (shDay_0 hW (mb_92)) rfl rfl rfl (Nat.le_of_ble_eq_true rfl) rfl ?_
      cases e26
      exact k27 _ _
  refine go_if_ne hc 40 dX8_changes_33 rfl (fun c24 => ?_) (fun c24 => ?_)
  · replace e22 := goIfF e22 c24
    refine go_iconst (v := 0) hc dX8_changes_40 rfl ?_
    subst e22
    exact k23 _ _
  · replace e22 := goIfT e22 c24
    refine go_iconst (v := 1) hc dX8_changes_36 rfl ?_
    refine go_goto hc 41 dX8_changes_37 rfl ?_
    subst e22
    exact k23 _ _
theorem dX8_findOne_0 : decode cX8_findOne 0 = .ok (.iconst 0, 1) := by decide +kernel
theorem dX8_findOne_1 : decode cX8_findOne 1 = .ok (.istore_n 1, 1) := by decide +kernel
theorem dX8_findOne_2 : decode cX8_findOne 2 = .ok (.iload_n 1, 1) := by decide +kernel
theorem dX8_findOne_3 : decode cX8_findOne 3 = .ok (.aload_n 0, 1) := by decide +kernel
theorem dX8_findOne_4 : decode cX8_findOne 4 = .ok (.getfield 27, 3) := by decide +kernel
theorem dX8_findOne_7 : decode cX8_findOne 7 = .ok (.getfield 31, 3) := by decide +kernel
theorem dX8_findOne_10 : decode cX8_findOne 10 = .ok (.getfield 73, 3) := by decide +kernel
theorem dX8_findOne_13 : decode cX8_findOne 13 = .ok (.bipush 12, 2) := by decide +kernel
theorem dX8_findOne_15 : decode cX8_findOne 15 = .ok (.imul, 1) := by decide +kernel
theorem dX8_findOne_16 : decode cX8_findOne 16 = .ok (.if_icmp .ge 57, 3) := by decide +kernel
theorem dX8_findOne_19 : decode cX8_findOne 19 = .ok (.aload_n 0, 1) := by decide +kernel
theorem dX8_findOne_20 : decode cX8_findOne 20 = .ok (.getfield 20, 3) := by decide +kernel
theorem dX8_findOne_23 : decode cX8_findOne 23 = .ok (.iload_n 1, 1) := by decide +kernel
theorem dX8_findOne_24 : decode cX8_findOne 24 = .ok (.iconst 1, 1) := by decide +kernel
theorem dX8_findOne_25 : decode cX8_findOne 25 = .ok (.bastore, 1) := by decide +kernel
theorem dX8_findOne_26 : decode cX8_findOne 26 = .ok (.aload_n 0, 1) := by decide +kernel
theorem dX8_findOne_27 : decode cX8_findOne 27 = .ok (.iload_n 1, 1) := by decide +kernel
theorem dX8_findOne_28 : decode cX8_findOne 28 = .ok (.invokevirtual 78, 3) := by decide +kernel
theorem dX8_findOne_31 : decode cX8_findOne 31 = .ok (.ifCond .eq 36, 3) := by decide +kernel
theorem dX8_findOne_34 : decode cX8_findOne 34 = .ok (.aload_n 0, 1) := by decide +kernel
theorem dX8_findOne_35 : decode cX8_findOne 35 = .ok (.iload_n 1, 1) := by decide +kernel
theorem dX8_findOne_36 : decode cX8_findOne 36 = .ok (.aload_n 0, 1) := by decide +kernel
theorem dX8_findOne_37 : decode cX8_findOne 37 = .ok (.getfield 11, 3) := by decide +kernel
theorem dX8_findOne_40 : decode cX8_findOne 40 = .ok (.invokevirtual 105, 3) := by decide +kernel
theorem dX8_findOne_43 : decode cX8_findOne 43 = .ok (.ifCond .eq 24, 3) := by decide +kernel
theorem dX8_findOne_46 : decode cX8_findOne 46 = .ok (.aload_n 0, 1) := by decide +kernel
theorem dX8_findOne_47 : decode cX8_findOne 47 = .ok (.getfield 20, 3) := by decide +kernel
theorem dX8_findOne_50 : decode cX8_findOne 50 = .ok (.iload_n 1, 1) := by decide +kernel
theorem dX8_findOne_51 : decode cX8_findOne 51 = .ok (.iconst 0, 1) := by decide +kernel
theorem dX8_findOne_52 : decode cX8_findOne 52 = .ok (.bastore, 1) := by decide +kernel
theorem dX8_findOne_53 : decode cX8_findOne 53 = .ok (.aload_n 0, 1) := by decide +kernel
theorem dX8_findOne_54 : decode cX8_findOne 54 = .ok (.invokevirtual 60, 3) := by decide +kernel
theorem dX8_findOne_57 : decode cX8_findOne 57 = .ok (.ifCond .eq 10, 3) := by decide +kernel
theorem dX8_findOne_60 : decode cX8_findOne 60 = .ok (.aload_n 0, 1) := by decide +kernel
theorem dX8_findOne_61 : decode cX8_findOne 61 = .ok (.iload_n 1, 1) := by decide +kernel
theorem dX8_findOne_62 : decode cX8_findOne 62 = .ok (.putfield 67, 3) := by decide +kernel
theorem dX8_findOne_65 : decode cX8_findOne 65 = .ok (.iconst 1, 1) := by decide +kernel
theorem dX8_findOne_66 : decode cX8_findOne 66 = .ok (.ireturn, 1) := by decide +kernel
theorem dX8_findOne_67 : decode cX8_findOne 67 = .ok (.iinc 1 1, 3) := by decide +kernel
theorem dX8_findOne_70 : decode cX8_findOne 70 = .ok (.goto (-68), 3) := by decide +kernel
theorem dX8_findOne_73 : decode cX8_findOne 73 = .ok (.iconst 0, 1) := by decide +kernel
theorem dX8_findOne_74 : decode cX8_findOne 74 = .ok (.ireturn, 1) := by decide +kernel
set_option maxRecDepth 100000 in
set_option maxHeartbeats 4000000 in
theorem mX8_findOne_L2 {E : goEv} {X : goX} {G : goG} {L : goML} {R : goMR} {N : Nat} {r0 : Int32} {r1 : goMI} (hc : goCx E X cX8_findOne RX8 2) (hk : goKn E) (hR : X.2.2.2.1 = goRoom 5 129 0 0) (hr : X.2.2.2.2.2.2.2.2.1.sig.returnType = (Option.some FieldType.boolean)) (hW : goW G R) : ∀ (n : Nat) (v1 : Int32) (M : goMI), lX8_findOne_2 N R n v1 M = some (r0, r1) → goA E X G 0 0 (goMQ X E (goQi E r0 G r1 L R) 0 0) 2 [some (.ref 88), some (.int v1)] [] M L R := by
  intro n
  induction n with
  | zero => intro v1 M h; exact nomatch h
  | succ n ih =>
    intro v1 M h
    rw [lX8_findOne_2] at h
    refine go_iload1 hc dX8_findOne_2 ?_
    refine go_aload0 hc dX8_findOne_3 ?_
    refine go_getR hc lk_RX8_27 dX8_findOne_4 (sh_88 hW) (rf_88_0 hW) ?_
    refine go_getR hc lk_RX8_31 dX8_findOne_7 (shDay_0 hW (mb_92)) (rmDay_1 hW (mb_92)) ?_
    refine go_getI hc lk_RX8_73 dX8_findOne_10 (shHill_0 hW (mmDay_1 hW (mb_92))) ?_
    refine go_bipush (v := 12) hc dX8_findOne_13 rfl ?_
    refine go_imul hc dX8_findOne_15 ?_
    refine go_icmp_ge hc 73 dX8_findOne_16 rfl (fun c11 => ?_) (fun c11 => ?_)
    · replace h := goIfF h c11
      refine go_iconst (v := 0) hc dX8_findOne_73 rfl ?_
      cases h
      exact go_zret hc dX8_findOne_74 hr rfl
    · replace h := goIfT h c11
      refine go_aload0 hc dX8_findOne_19 ?_
      refine go_getR hc lk_RX8_20 dX8_findOne_20 (sh_88 hW) (rf_88_3 hW) ?_
      refine go_iload1 hc dX8_findOne_23 ?_
      refine go_iconst (v := 1) hc dX8_findOne_24 rfl ?_
      replace h := goBind h; obtain ⟨M12, e13, h⟩ := h
      refine go_zast hc dX8_findOne_25 (sh_91 hW) e13 ?_
      refine go_aload0 hc dX8_findOne_26 ?_
      refine go_iload1 hc dX8_findOne_27 ?_
      replace h := goBind h; obtain ⟨x14, e15, h⟩ := h
      refine go_callVi hc dX8_findOne_28 (mX8_isFree hk hW e15) ml_RX8_78 yk_X8_isFree ⟨wim_X8_isFree, wse_X8_isFree⟩ hR rfl (sh_88 hW) rfl rfl rfl (Nat.le_of_ble_eq_true rfl) rfl ?_
      refine go_if_eq hc 67 dX8_findOne_31 rfl (fun c16 => ?_) (fun c16 => ?_)
      · replace h := goIfT h c16
        refine go_iinc1 (v := (v1 + 1)) hc dX8_findOne_67 rfl ?_
        refine go_goto hc 2 dX8_findOne_70 rfl ?_
        exact ih _ _ h
      · replace h := goIfF h c16
        refine go_aload0 hc dX8_findOne_34 ?_
        refine go_iload1 hc dX8_findOne_35 ?_
        refine go_aload0 hc dX8_findOne_36 ?_
        refine go_getR hc lk_RX8_11 dX8_findOne_37 (sh_88 hW) (rf_88_1 hW) ?_
        replace h := goB2_h h; obtain ⟨x17, M18, e19, h⟩ := h
        refine go_callVi hc dX8_findOne_40 (mX8_changes hk hW (sh_89 hW) e19) ml_RX8_105 yk_X8_changes ⟨wim_X8_changes, wse_X8_changes⟩ hR rfl (sh_88 hW) rfl rfl rfl (Nat.le_of_ble_eq_true rfl) rfl ?_
        refine go_if_eq hc 67 dX8_findOne_43 rfl (fun c20 => ?_) (fun c20 => ?_)
        · replace h := goIfT h c20
          refine go_iinc1 (v := (v1 + 1)) hc dX8_findOne_67 rfl ?_
          refine go_goto hc 2 dX8_findOne_70 rfl ?_
          exact ih _ _ h
        · replace h := goIfF h c20
          refine go_aload0 hc dX8_findOne_46 ?_
          refine go_getR hc lk_RX8_20 dX8_findOne_47 (sh_88 hW) (rf_88_3 hW) ?_
          refine go_iload1 hc dX8_findOne_50 ?_
          refine go_iconst (v := 0) hc dX8_findOne_51 rfl ?_
          replace h := goBind h; obtain ⟨M21, e22, h⟩ := h
          refine go_zast hc dX8_findOne_52 (sh_91 hW) e22 ?_
          refine go_aload0 hc dX8_findOne_53 ?_
          replace h := goBind h; obtain ⟨x23, e24, h⟩ := h
          refine go_callVi hc dX8_findOne_54 (mX8_isThere hk hW e24) ml_RX8_60 yk_X8_isThere ⟨wim_X8_isThere, wse_X8_isThere⟩ hR rfl (sh_88 hW) rfl rfl rfl (Nat.le_of_ble_eq_true rfl) rfl ?_
          refine go_if_eq hc 67 dX8_findOne_57 rfl (fun c25 => ?_) (fun c25 => ?_)
          · replace h := goIfT h c25
            refine go_iinc1 (v := (v1 + 1)) hc dX8_findOne_67 rfl ?_
            refine go_goto hc 2 dX8_findOne_70 rfl ?_
            exact ih _ _ h
          · replace h := goIfF h c25
            refine go_aload0 hc dX8_findOne_60 ?_
            refine go_iload1 hc dX8_findOne_61 ?_
            replace h := goNm_x h; obtain ⟨M26, e27, h⟩ := h
            refine go_ptI hc lk_RX8_67 dX8_findOne_62 (sh_88 hW) e27 ?_
            refine go_iconst (v := 1) hc dX8_findOne_65 rfl ?_
            cases h
            exact go_zret hc dX8_findOne_66 hr rfl
set_option maxRecDepth 100000 in
set_option maxHeartbeats 4000000 in
theorem mX8_findOne {E : goEv} {l : Launch} {G : goG} {N : Nat} {M : goMI} {L : goML} {R : goMR} {r0 : Int32} {r1 : goMI} (hk : goKn E) (hW : goW G R) (h : fX8_findOne N M R = some (r0, r1)) : Met l yX8_findOne (goCd yX8_findOne cX8_findOne 2 (Option.some FieldType.boolean)) (goRoom 5 129 0 0) (goPre E [.ref 88] G M L R) (goQi E r0 G r1 L R) 0 0 (goSet E) := by
  refine goMet pl_RX8 hk (lv := [some (.ref 88), none]) rfl (Nat.le_of_ble_eq_true rfl) ?_
  intro X hc hl hR hr hnm
  subst hl
  unfold fX8_findOne at h
  refine go_iconst (v := 0) hc dX8_findOne_0 rfl ?_
  refine go_istore1 hc dX8_findOne_1 ?_
  exact mX8_findOne_L2 hc hk hR hr hW _ _ _ h
theorem dX8_isSooner_0 : decode cX8_isSooner 0 = .ok (.iload_n 1, 1) := by decide +kernel
theorem dX8_isSooner_1 : decode cX8_isSooner 1 = .ok (.iload_n 2, 1) := by decide +kernel
theorem dX8_isSooner_2 : decode cX8_isSooner 2 = .ok (.invokestatic 123, 3) := by decide +kernel
theorem dX8_isSooner_5 : decode cX8_isSooner 5 = .ok (.istore_n 3, 1) := by decide +kernel
theorem dX8_isSooner_6 : decode cX8_isSooner 6 = .ok (.iload_n 3, 1) := by decide +kernel
theorem dX8_isSooner_7 : decode cX8_isSooner 7 = .ok (.aload_n 0, 1) := by decide +kernel
theorem dX8_isSooner_8 : decode cX8_isSooner 8 = .ok (.getfield 67, 3) := by decide +kernel
theorem dX8_isSooner_11 : decode cX8_isSooner 11 = .ok (.if_icmp .lt 23, 3) := by decide +kernel
theorem dX8_isSooner_14 : decode cX8_isSooner 14 = .ok (.iload_n 3, 1) := by decide +kernel
theorem dX8_isSooner_15 : decode cX8_isSooner 15 = .ok (.aload_n 0, 1) := by decide +kernel
theorem dX8_isSooner_16 : decode cX8_isSooner 16 = .ok (.getfield 67, 3) := by decide +kernel
theorem dX8_isSooner_19 : decode cX8_isSooner 19 = .ok (.if_icmp .ne 19, 3) := by decide +kernel
theorem dX8_isSooner_22 : decode cX8_isSooner 22 = .ok (.iload_n 1, 1) := by decide +kernel
theorem dX8_isSooner_23 : decode cX8_isSooner 23 = .ok (.iload_n 2, 1) := by decide +kernel
theorem dX8_isSooner_24 : decode cX8_isSooner 24 = .ok (.invokestatic 128, 3) := by decide +kernel
theorem dX8_isSooner_27 : decode cX8_isSooner 27 = .ok (.aload_n 0, 1) := by decide +kernel
theorem dX8_isSooner_28 : decode cX8_isSooner 28 = .ok (.getfield 70, 3) := by decide +kernel
theorem dX8_isSooner_31 : decode cX8_isSooner 31 = .ok (.if_icmp .ge 7, 3) := by decide +kernel
theorem dX8_isSooner_34 : decode cX8_isSooner 34 = .ok (.iconst 1, 1) := by decide +kernel
theorem dX8_isSooner_35 : decode cX8_isSooner 35 = .ok (.goto 4, 3) := by decide +kernel
theorem dX8_isSooner_38 : decode cX8_isSooner 38 = .ok (.iconst 0, 1) := by decide +kernel
theorem dX8_isSooner_39 : decode cX8_isSooner 39 = .ok (.ireturn, 1) := by decide +kernel
theorem zX8_isSooner {M : goMI} {v1 : Int32} {v2 : Int32} : fX8_isSooner M v1 v2 = 0 ∨ fX8_isSooner M v1 v2 = 1 := by
  unfold fX8_isSooner
  first | exact zJ9_max_7cf53 | ((repeat' split) <;> simp; done) | (simp only [goNm]; (repeat' split) <;> simp)
set_option maxRecDepth 100000 in
set_option maxHeartbeats 4000000 in
theorem mX8_isSooner {E : goEv} {l : Launch} {G : goG} {M : goMI} {L : goML} {R : goMR} {v1 : Int32} {v2 : Int32} {r0 : Int32} (hk : goKn E) (hW : goW G R) (h : fX8_isSooner M v1 v2 = r0) : Met l yX8_isSooner (goCd yX8_isSooner cX8_isSooner 4 (Option.some FieldType.boolean)) (goRoom 1 40 0 0) (goPre E [.ref 88, .int v1, .int v2] G M L R) (goQi E r0 G M L R) 0 0 (goSet E) := by
  refine goMet pl_RX8 hk (lv := [some (.ref 88), some (.int v1), some (.int v2), none]) rfl (Nat.le_of_ble_eq_true rfl) ?_
  intro X hc hl hR hr hnm
  subst hl
  unfold fX8_isSooner at h
  refine go_iload1 hc dX8_isSooner_0 ?_
  refine go_iload2 hc dX8_isSooner_1 ?_
  refine go_mmin hc dX8_isSooner_2 wml_RX8_123 hR rfl rfl (Nat.le_of_ble_eq_true rfl) ?_
  replace h := goNm_x h; obtain ⟨x11, e12, h⟩ := h
  refine go_nmI e12 ?_
  refine go_istore3 hc dX8_isSooner_5 ?_
  refine go_iload3 hc dX8_isSooner_6 ?_
  refine go_aload0 hc dX8_isSooner_7 ?_
  refine go_getI hc lk_RX8_67 dX8_isSooner_8 (sh_88 hW) ?_
  refine go_icmp_lt hc 34 dX8_isSooner_11 rfl (fun c13 => ?_) (fun c13 => ?_)
  · replace h := goIfF h c13
    refine go_iconst (v := 1) hc dX8_isSooner_34 rfl ?_
    refine go_goto hc 39 dX8_isSooner_35 rfl ?_
    subst h
    exact go_zret hc dX8_isSooner_39 hr rfl
  · replace h := goIfT h c13
    refine go_iload3 hc dX8_isSooner_14 ?_
    refine go_aload0 hc dX8_isSooner_15 ?_
    refine go_getI hc lk_RX8_67 dX8_isSooner_16 (sh_88 hW) ?_
    refine go_icmp_ne hc 38 dX8_isSooner_19 rfl (fun c14 => ?_) (fun c14 => ?_)
    · replace h := goIfF h c14
      refine go_iconst (v := 0) hc dX8_isSooner_38 rfl ?_
      subst h
      exact go_zret hc dX8_isSooner_39 hr rfl
    · replace h := goIfT h c14
      refine go_iload1 hc dX8_isSooner_22 ?_
      refine go_iload2 hc dX8_isSooner_23 ?_
      refine go_mmax hc dX8_isSooner_24 wml_RX8_128 hR rfl rfl (Nat.le_of_ble_eq_true rfl) ?_
      refine go_aload0 hc dX8_isSooner_27 ?_
      refine go_getI hc lk_RX8_70 dX8_isSooner_28 (sh_88 hW) ?_
      refine go_icmp_ge hc 38 dX8_isSooner_31 rfl (fun c15 => ?_) (fun c15 => ?_)
      · replace h := goIfF h c15
        refine go_iconst (v := 0) hc dX8_isSooner_38 rfl ?_
        subst h
        exact go_zret hc dX8_isSooner_39 hr rfl
      · replace h := goIfT h c15
        refine go_iconst (v := 1) hc dX8_isSooner_34 rfl ?_
        refine go_goto hc 39 dX8_isSooner_35 rfl ?_
        subst h
        exact go_zret hc dX8_isSooner_39 hr rfl
theorem dX8_findLater_0 : decode cX8_findLater 0 = .ok (.iload_n 1, 1) := by decide +kernel
theorem dX8_findLater_1 : decode cX8_findLater 1 = .ok (.bipush 12, 2) := by decide +kernel
theorem dX8_findLater_3 : decode cX8_findLater 3 = .ok (.irem, 1) := by decide +kernel
theorem dX8_findLater_4 : decode cX8_findLater 4 = .ok (.istore_n 2, 1) := by decide +kernel
theorem dX8_findLater_5 : decode cX8_findLater 5 = .ok (.aload_n 0, 1) := by decide +kernel
theorem dX8_findLater_6 : decode cX8_findLater 6 = .ok (.getfield 20, 3) := by decide +kernel
theorem dX8_findLater_9 : decode cX8_findLater 9 = .ok (.iload_n 1, 1) := by decide +kernel
theorem dX8_findLater_10 : decode cX8_findLater 10 = .ok (.baload, 1) := by decide +kernel
theorem dX8_findLater_11 : decode cX8_findLater 11 = .ok (.ifCond .eq 7, 3) := by decide +kernel
theorem dX8_findLater_14 : decode cX8_findLater 14 = .ok (.iload_n 2, 1) := by decide +kernel
theorem dX8_findLater_15 : decode cX8_findLater 15 = .ok (.goto 7, 3) := by decide +kernel
theorem dX8_findLater_18 : decode cX8_findLater 18 = .ok (.aload_n 0, 1) := by decide +kernel
theorem dX8_findLater_19 : decode cX8_findLater 19 = .ok (.getfield 42, 3) := by decide +kernel
theorem dX8_findLater_22 : decode cX8_findLater 22 = .ok (.istore_n 3, 1) := by decide +kernel
theorem dX8_findLater_23 : decode cX8_findLater 23 = .ok (.aload_n 0, 1) := by decide +kernel
theorem dX8_findLater_24 : decode cX8_findLater 24 = .ok (.iload_n 1, 1) := by decide +kernel
theorem dX8_findLater_25 : decode cX8_findLater 25 = .ok (.invokevirtual 109, 3) := by decide +kernel
theorem dX8_findLater_28 : decode cX8_findLater 28 = .ok (.aload_n 0, 1) := by decide +kernel
theorem dX8_findLater_29 : decode cX8_findLater 29 = .ok (.aload_n 0, 1) := by decide +kernel
theorem dX8_findLater_30 : decode cX8_findLater 30 = .ok (.getfield 11, 3) := by decide +kernel
theorem dX8_findLater_33 : decode cX8_findLater 33 = .ok (.iload_n 2, 1) := by decide +kernel
theorem dX8_findLater_34 : decode cX8_findLater 34 = .ok (.invokevirtual 112, 3) := by decide +kernel
theorem dX8_findLater_37 : decode cX8_findLater 37 = .ok (.aload_n 0, 1) := by decide +kernel
theorem dX8_findLater_38 : decode cX8_findLater 38 = .ok (.aload_n 0, 1) := by decide +kernel
theorem dX8_findLater_39 : decode cX8_findLater 39 = .ok (.getfield 17, 3) := by decide +kernel
theorem dX8_findLater_42 : decode cX8_findLater 42 = .ok (.iload_n 2, 1) := by decide +kernel
theorem dX8_findLater_43 : decode cX8_findLater 43 = .ok (.invokevirtual 52, 3) := by decide +kernel
theorem dX8_findLater_46 : decode cX8_findLater 46 = .ok (.aload_n 0, 1) := by decide +kernel
theorem dX8_findLater_47 : decode cX8_findLater 47 = .ok (.aload_n 0, 1) := by decide +kernel
theorem dX8_findLater_48 : decode cX8_findLater 48 = .ok (.getfield 17, 3) := by decide +kernel
theorem dX8_findLater_51 : decode cX8_findLater 51 = .ok (.iload_n 2, 1) := by decide +kernel
theorem dX8_findLater_52 : decode cX8_findLater 52 = .ok (.iload_n 3, 1) := by decide +kernel
theorem dX8_findLater_53 : decode cX8_findLater 53 = .ok (.invokevirtual 56, 3) := by decide +kernel
theorem dX8_findLater_56 : decode cX8_findLater 56 = .ok (.iconst 0, 1) := by decide +kernel
theorem dX8_findLater_57 : decode cX8_findLater 57 = .ok (.istore 4, 2) := by decide +kernel
theorem dX8_findLater_59 : decode cX8_findLater 59 = .ok (.iload 4, 2) := by decide +kernel
theorem dX8_findLater_61 : decode cX8_findLater 61 = .ok (.aload_n 0, 1) := by decide +kernel
theorem dX8_findLater_62 : decode cX8_findLater 62 = .ok (.getfield 27, 3) := by decide +kernel
theorem dX8_findLater_65 : decode cX8_findLater 65 = .ok (.getfield 31, 3) := by decide +kernel
theorem dX8_findLater_68 : decode cX8_findLater 68 = .ok (.getfield 73, 3) := by decide +kernel
theorem dX8_findLater_71 : decode cX8_findLater 71 = .ok (.bipush 12, 2) := by decide +kernel
theorem dX8_findLater_73 : decode cX8_findLater 73 = .ok (.imul, 1) := by decide +kernel
theorem dX8_findLater_74 : decode cX8_findLater 74 = .ok (.if_icmp .ge 111, 3) := by decide +kernel
theorem dX8_findLater_77 : decode cX8_findLater 77 = .ok (.iload 4, 2) := by decide +kernel
theorem dX8_findLater_79 : decode cX8_findLater 79 = .ok (.bipush 12, 2) := by decide +kernel
theorem dX8_findLater_81 : decode cX8_findLater 81 = .ok (.irem, 1) := by decide +kernel
theorem dX8_findLater_82 : decode cX8_findLater 82 = .ok (.istore 5, 2) := by decide +kernel
theorem dX8_findLater_84 : decode cX8_findLater 84 = .ok (.iload 5, 2) := by decide +kernel
theorem dX8_findLater_86 : decode cX8_findLater 86 = .ok (.iload_n 2, 1) := by decide +kernel
theorem dX8_findLater_87 : decode cX8_findLater 87 = .ok (.if_icmp .le 9, 3) := by decide +kernel
theorem dX8_findLater_90 : decode cX8_findLater 90 = .ok (.iload 5, 2) := by decide +kernel
theorem dX8_findLater_92 : decode cX8_findLater 92 = .ok (.iload_n 3, 1) := by decide +kernel
theorem dX8_findLater_93 : decode cX8_findLater 93 = .ok (.if_icmp .le 15, 3) := by decide +kernel
theorem dX8_findLater_96 : decode cX8_findLater 96 = .ok (.iload 5, 2) := by decide +kernel
theorem dX8_findLater_98 : decode cX8_findLater 98 = .ok (.iload_n 2, 1) := by decide +kernel
theorem dX8_findLater_99 : decode cX8_findLater 99 = .ok (.if_icmp .ne 13, 3) := by decide +kernel
theorem dX8_findLater_102 : decode cX8_findLater 102 = .ok (.iload 4, 2) := by decide +kernel
theorem dX8_findLater_104 : decode cX8_findLater 104 = .ok (.iload_n 1, 1) := by decide +kernel
theorem dX8_findLater_105 : decode cX8_findLater 105 = .ok (.if_icmp .le 7, 3) := by decide +kernel
theorem dX8_findLater_108 : decode cX8_findLater 108 = .ok (.iconst 1, 1) := by decide +kernel
theorem dX8_findLater_109 : decode cX8_findLater 109 = .ok (.goto 4, 3) := by decide +kernel
theorem dX8_findLater_112 : decode cX8_findLater 112 = .ok (.iconst 0, 1) := by decide +kernel
theorem dX8_findLater_113 : decode cX8_findLater 113 = .ok (.istore 6, 2) := by decide +kernel
theorem dX8_findLater_115 : decode cX8_findLater 115 = .ok (.iload 6, 2) := by decide +kernel
theorem dX8_findLater_117 : decode cX8_findLater 117 = .ok (.ifCond .eq 62, 3) := by decide +kernel
theorem dX8_findLater_120 : decode cX8_findLater 120 = .ok (.aload_n 0, 1) := by decide +kernel
theorem dX8_findLater_121 : decode cX8_findLater 121 = .ok (.iload_n 1, 1) := by decide +kernel
theorem dX8_findLater_122 : decode cX8_findLater 122 = .ok (.iload 4, 2) := by decide +kernel
theorem dX8_findLater_124 : decode cX8_findLater 124 = .ok (.invokevirtual 119, 3) := by decide +kernel
theorem dX8_findLater_127 : decode cX8_findLater 127 = .ok (.ifCond .eq 52, 3) := by decide +kernel
theorem dX8_findLater_130 : decode cX8_findLater 130 = .ok (.aload_n 0, 1) := by decide +kernel
theorem dX8_findLater_131 : decode cX8_findLater 131 = .ok (.iload 4, 2) := by decide +kernel
theorem dX8_findLater_133 : decode cX8_findLater 133 = .ok (.invokevirtual 78, 3) := by decide +kernel
theorem dX8_findLater_136 : decode cX8_findLater 136 = .ok (.ifCond .eq 43, 3) := by decide +kernel
theorem dX8_findLater_139 : decode cX8_findLater 139 = .ok (.aload_n 0, 1) := by decide +kernel
theorem dX8_findLater_140 : decode cX8_findLater 140 = .ok (.iload 4, 2) := by decide +kernel
theorem dX8_findLater_142 : decode cX8_findLater 142 = .ok (.aload_n 0, 1) := by decide +kernel
theorem dX8_findLater_143 : decode cX8_findLater 143 = .ok (.getfield 17, 3) := by decide +kernel
theorem dX8_findLater_146 : decode cX8_findLater 146 = .ok (.invokevirtual 105, 3) := by decide +kernel
theorem dX8_findLater_149 : decode cX8_findLater 149 = .ok (.ifCond .eq 30, 3) := by decide +kernel
theorem dX8_findLater_152 : decode cX8_findLater 152 = .ok (.aload_n 0, 1) := by decide +kernel
theorem dX8_findLater_153 : decode cX8_findLater 153 = .ok (.invokevirtual 60, 3) := by decide +kernel
theorem dX8_findLater_156 : decode cX8_findLater 156 = .ok (.ifCond .eq 23, 3) := by decide +kernel
theorem dX8_findLater_159 : decode cX8_findLater 159 = .ok (.aload_n 0, 1) := by decide +kernel
theorem dX8_findLater_160 : decode cX8_findLater 160 = .ok (.iload_n 1, 1) := by decide +kernel
theorem dX8_findLater_161 : decode cX8_findLater 161 = .ok (.iload 4, 2) := by decide +kernel
theorem dX8_findLater_163 : decode cX8_findLater 163 = .ok (.invokestatic 123, 3) := by decide +kernel
theorem dX8_findLater_166 : decode cX8_findLater 166 = .ok (.putfield 67, 3) := by decide +kernel
theorem dX8_findLater_169 : decode cX8_findLater 169 = .ok (.aload_n 0, 1) := by decide +kernel
theorem dX8_findLater_170 : decode cX8_findLater 170 = .ok (.iload_n 1, 1) := by decide +kernel
theorem dX8_findLater_171 : decode cX8_findLater 171 = .ok (.iload 4, 2) := by decide +kernel
theorem dX8_findLater_173 : decode cX8_findLater 173 = .ok (.invokestatic 128, 3) := by decide +kernel
theorem dX8_findLater_176 : decode cX8_findLater 176 = .ok (.putfield 70, 3) := by decide +kernel
theorem dX8_findLater_179 : decode cX8_findLater 179 = .ok (.iinc 4 1, 3) := by decide +kernel
theorem dX8_findLater_182 : decode cX8_findLater 182 = .ok (.goto (-123), 3) := by decide +kernel
theorem dX8_findLater_185 : decode cX8_findLater 185 = .ok (.aload_n 0, 1) := by decide +kernel
theorem dX8_findLater_186 : decode cX8_findLater 186 = .ok (.iload_n 1, 1) := by decide +kernel
theorem dX8_findLater_187 : decode cX8_findLater 187 = .ok (.invokevirtual 109, 3) := by decide +kernel
theorem dX8_findLater_190 : decode cX8_findLater 190 = .ok (.return_, 1) := by decide +kernel
set_option maxRecDepth 100000 in
set_option maxHeartbeats 4000000 in
theorem mX8_findLater_L59 {E : goEv} {X : goX} {G : goG} {Q : State → Prop} {L : goML} {R : goMR} {N : Nat} {v1 : Int32} {v2 : Int32} {v3 : Int32} (hc : goCx E X cX8_findLater RX8 7) (hk : goKn E) (hR : X.2.2.2.1 = goRoom 5 129 0 0) (hr : X.2.2.2.2.2.2.2.2.1.sig.returnType = none) (hW : goW G R) : ∀ (n : Nat) (v4 : Int32) (M : goMI) (r0 : goMI), lX8_findLater_59 N v1 v2 v3 R n v4 M = some r0 → (∀ (d2 d3 d4 d5 d6 : Option Value), goA E X G 0 0 Q 185 [some (.ref 88), some (.int v1), d2, d3, d4, d5, d6] [] r0 L R) → ∀ (d5 d6 : Option Value), goA E X G 0 0 Q 59 [some (.ref 88), some (.int v1), some (.int v2), some (.int v3), some (.int v4), d5, d6] [] M L R := by
  intro n
  induction n with
  | zero => intro v4 M r0 h; exact nomatch h
  | succ n ih =>
    intro v4 M r0 h kx d5 d6
    rw [lX8_findLater_59] at h
    refine go_iload4 hc dX8_findLater_59 ?_
    refine go_aload0 hc dX8_findLater_61 ?_
    refine go_getR hc lk_RX8_27 dX8_findLater_62 (sh_88 hW) (rf_88_0 hW) ?_
    refine go_getR hc lk_RX8_31 dX8_findLater_65 (shDay_0 hW (mb_92)) (rmDay_1 hW (mb_92)) ?_
    refine go_getI hc lk_RX8_73 dX8_findLater_68 (shHill_0 hW (mmDay_1 hW (mb_92))) ?_
    refine go_bipush (v := 12) hc dX8_findLater_71 rfl ?_
    refine go_imul hc dX8_findLater_73 ?_
    refine go_icmp_ge hc 185 dX8_findLater_74 rfl (fun c27 => ?_) (fun c27 => ?_)
    · replace h := goIfF h c27
      cases h
      exact kx _ _ _ _ _
    · replace h := goIfT h c27
      refine go_iload4 hc dX8_findLater_77 ?_
      refine go_bipush (v := 12) hc dX8_findLater_79 rfl ?_
      refine go_irem hc dX8_findLater_81 (by decide) ?_
      replace h := goNm_x h; obtain ⟨x28, e29, h⟩ := h
      refine go_nmI e29 ?_
      refine go_istore5 hc dX8_findLater_82 ?_
      refine go_iload5 hc dX8_findLater_84 ?_
      refine go_iload2 hc dX8_findLater_86 ?_
      replace h := goNm_y h; obtain ⟨x30, e31, h⟩ := h
      have k32 : ∀ (d5 d6 : Option Value), goA E X G 0 0 Q 113 [some (.ref 88), some (.int v1), some (.int v2), some (.int v3), some (.int v4), d5, d6] [.int x30] M L R := by
        intro d5 d6
        refine go_istore6 hc dX8_findLater_113 ?_
        refine go_iload6 hc dX8_findLater_115 ?_
        replace h := goBind h; obtain ⟨M39, e40, h⟩ := h
        have k41 : ∀ (d5 d6 : Option Value), goA E X G 0 0 Q 179 [some (.ref 88), some (.int v1), some (.int v2), some (.int v3), some (.int v4), d5, d6] [] M39 L R := by
          intro d5 d6
          refine go_iinc4 (v := (v4 + 1)) hc dX8_findLater_179 rfl ?_
          refine go_goto hc 59 dX8_findLater_182 rfl ?_
          exact ih _ _ _ h kx _ _
        refine go_if_eq hc 179 dX8_findLater_117 rfl (fun c42 => ?_) (fun c42 => ?_)
        · replace e40 := goIfT e40 c42
          cases e40
          exact k41 _ _
        · replace e40 := goIfF e40 c42
          refine go_aload0 hc dX8_findLater_120 ?_
          refine go_iload1 hc dX8_findLater_121 ?_
          refine go_iload4 hc dX8_findLater_122 ?_
          refine go_callVi hc dX8_findLater_124 (mX8_isSooner hk hW rfl) ml_RX8_119 yk_X8_isSooner ⟨wim_X8_isSooner, wse_X8_isSooner⟩ hR rfl (sh_88 hW) rfl rfl rfl (Nat.le_of_ble_eq_true rfl) rfl ?_
          refine go_if_eq hc 179 dX8_findLater_127 rfl (fun c43 => ?_) (fun c43 => ?_)
          · replace e40 := goIfT e40 c43
            cases e40
            exact k41 _ _
          · replace e40 := goIfF e40 c43
            refine go_aload0 hc dX8_findLater_130 ?_
            refine go_iload4 hc dX8_findLater_131 ?_
            replace e40 := goBind e40; obtain ⟨x44, e45, e40⟩ := e40
            refine go_callVi hc dX8_findLater_133 (mX8_isFree hk hW e45) ml_RX8_78 yk_X8_isFree ⟨wim_X8_isFree, wse_X8_isFree⟩ hR rfl (sh_88 hW) rfl rfl rfl (Nat.le_of_ble_eq_true rfl) rfl ?_
            refine go_if_eq hc 179 dX8_findLater_136 rfl (fun c46 => ?_) (fun c46 => ?_)
            · replace e40 := goIfT e40 c46
              cases e40
              exact k41 _ _
            · replace e40 := goIfF e40 c46
              refine go_aload0 hc dX8_findLater_139 ?_
              refine go_iload4 hc dX8_findLater_140 ?_
              refine go_aload0 hc dX8_findLater_142 ?_
              refine go_getR hc lk_RX8_17 dX8_findLater_143 (sh_88 hW) (rf_88_2 hW) ?_
              replace e40 := goB2_h e40; obtain ⟨x47, M48, e49, e40⟩ := e40
              refine go_callVi hc dX8_findLater_146 (mX8_changes hk hW (sh_90 hW) e49) ml_RX8_105 yk_X8_changes ⟨wim_X8_changes, wse_X8_changes⟩ hR rfl (sh_88 hW) rfl rfl rfl (Nat.le_of_ble_eq_true rfl) rfl ?_
              refine go_if_eq hc 179 dX8_findLater_149 rfl (fun c50 => ?_) (fun c50 => ?_)
              · replace e40 := goIfT e40 c50
                cases e40
                exact k41 _ _
              · replace e40 := goIfF e40 c50
                refine go_aload0 hc dX8_findLater_152 ?_
                replace e40 := goBind e40; obtain ⟨x51, e52, e40⟩ := e40
                refine go_callVi hc dX8_findLater_153 (mX8_isThere hk hW e52) ml_RX8_60 yk_X8_isThere ⟨wim_X8_isThere, wse_X8_isThere⟩ hR rfl (sh_88 hW) rfl rfl rfl (Nat.le_of_ble_eq_true rfl) rfl ?_
                refine go_if_eq hc 179 dX8_findLater_156 rfl (fun c53 => ?_) (fun c53 => ?_)
                · replace e40 := goIfT e40 c53
                  cases e40
                  exact k41 _ _
                · replace e40 := goIfF e40 c53
                  refine go_aload0 hc dX8_findLater_159 ?_
                  refine go_iload1 hc dX8_findLater_160 ?_
                  refine go_iload4 hc dX8_findLater_161 ?_
                  refine go_mmin hc dX8_findLater_163 wml_RX8_123 hR rfl rfl (Nat.le_of_ble_eq_true rfl) ?_
                  replace e40 := goNm_x e40; obtain ⟨M54, e55, e40⟩ := e40
                  refine go_ptI hc lk_RX8_67 dX8_findLater_166 (sh_88 hW) e55 ?_
                  refine go_aload0 hc dX8_findLater_169 ?_
                  refine go_iload1 hc dX8_findLater_170 ?_
                  refine go_iload4 hc dX8_findLater_171 ?_
                  refine go_mmax hc dX8_findLater_173 wml_RX8_128 hR rfl rfl (Nat.le_of_ble_eq_true rfl) ?_
                  replace e40 := goNm_x e40; obtain ⟨M56, e57, e40⟩ := e40
                  refine go_ptI hc lk_RX8_70 dX8_findLater_176 (sh_88 hW) e57 ?_
                  cases e40
                  exact k41 _ _
      refine go_icmp_le hc 96 dX8_findLater_87 rfl (fun c33 => ?_) (fun c33 => ?_)
      · replace e31 := goIfF e31 c33
        refine go_iload5 hc dX8_findLater_96 ?_
        refine go_iload2 hc dX8_findLater_98 ?_
        refine go_icmp_ne hc 112 dX8_findLater_99 rfl (fun c34 => ?_) (fun c34 => ?_)
        · replace e31 := goIfF e31 c34
          refine go_iconst (v := 0) hc dX8_findLater_112 rfl ?_
          subst e31
          exact k32 _ _
        · replace e31 := goIfT e31 c34
          refine go_iload4 hc dX8_findLater_102 ?_
          refine go_iload1 hc dX8_findLater_104 ?_
          refine go_icmp_le hc 112 dX8_findLater_105 rfl (fun c35 => ?_) (fun c35 => ?_)
          · replace e31 := goIfF e31 c35
            refine go_iconst (v := 0) hc dX8_findLater_112 rfl ?_
            subst e31
            exact k32 _ _
          · replace e31 := goIfT e31 c35
            refine go_iconst (v := 1) hc dX8_findLater_108 rfl ?_
            refine go_goto hc 113 dX8_findLater_109 rfl ?_
            subst e31
            exact k32 _ _
      · replace e31 := goIfT e31 c33
        refine go_iload5 hc dX8_findLater_90 ?_
        refine go_iload3 hc dX8_findLater_92 ?_
        refine go_icmp_le hc 108 dX8_findLater_93 rfl (fun c36 => ?_) (fun c36 => ?_)
        · replace e31 := goIfF e31 c36
          refine go_iconst (v := 1) hc dX8_findLater_108 rfl ?_
          refine go_goto hc 113 dX8_findLater_109 rfl ?_
          subst e31
          exact k32 _ _
        · replace e31 := goIfT e31 c36
          refine go_iload5 hc dX8_findLater_96 ?_
          refine go_iload2 hc dX8_findLater_98 ?_
          refine go_icmp_ne hc 112 dX8_findLater_99 rfl (fun c37 => ?_) (fun c37 => ?_)
          · replace e31 := goIfF e31 c37
            refine go_iconst (v := 0) hc dX8_findLater_112 rfl ?_
            subst e31
            exact k32 _ _
          · replace e31 := goIfT e31 c37
            refine go_iload4 hc dX8_findLater_102 ?_
            refine go_iload1 hc dX8_findLater_104 ?_
            refine go_icmp_le hc 112 dX8_findLater_105 rfl (fun c38 => ?_) (fun c38 => ?_)
            · replace e31 := goIfF e31 c38
              refine go_iconst (v := 0) hc dX8_findLater_112 rfl ?_
              subst e31
              exact k32 _ _
            · replace e31 := goIfT e31 c38
              refine go_iconst (v := 1) hc dX8_findLater_108 rfl ?_
              refine go_goto hc 113 dX8_findLater_109 rfl ?_
              subst e31
              exact k32 _ _
set_option maxRecDepth 100000 in
set_option maxHeartbeats 4000000 in
theorem mX8_findLater {E : goEv} {l : Launch} {G : goG} {N : Nat} {M : goMI} {L : goML} {R : goMR} {v1 : Int32} {r0 : goMI} (hk : goKn E) (hW : goW G R) (h : fX8_findLater N M R v1 = some r0) : Met l yX8_findLater (goCd yX8_findLater cX8_findLater 7 none) (goRoom 5 129 0 0) (goPre E [.ref 88, .int v1] G M L R) (goQv E G r0 L R) 0 0 (goSet E) := by
  refine goMet pl_RX8 hk (lv := [some (.ref 88), some (.int v1), none, none, none, none, none]) rfl (Nat.le_of_ble_eq_true rfl) ?_
  intro X hc hl hR hr hnm
  subst hl
  unfold fX8_findLater at h
  refine go_iload1 hc dX8_findLater_0 ?_
  refine go_bipush (v := 12) hc dX8_findLater_1 rfl ?_
  refine go_irem hc dX8_findLater_3 (by decide) ?_
  replace h := goNm_x h; obtain ⟨x11, e12, h⟩ := h
  refine go_nmI e12 ?_
  refine go_istore2 hc dX8_findLater_4 ?_
  refine go_aload0 hc dX8_findLater_5 ?_
  refine go_getR hc lk_RX8_20 dX8_findLater_6 (sh_88 hW) (rf_88_3 hW) ?_
  refine go_iload1 hc dX8_findLater_9 ?_
  replace h := goBind h; obtain ⟨x13, e14, h⟩ := h
  refine go_zald hc dX8_findLater_10 (sh_91 hW) e14 ?_
  replace h := goNm_y h; obtain ⟨x15, e16, h⟩ := h
  have k17 : ∀ (d3 d4 d5 d6 : Option Value), goA E X G 0 0 (goMQ X E (goQv E G r0 L R) 0 0) 22 [some (.ref 88), some (.int v1), some (.int x11), d3, d4, d5, d6] [.int x15] M L R := by
    intro d3 d4 d5 d6
    refine go_istore3 hc dX8_findLater_22 ?_
    refine go_aload0 hc dX8_findLater_23 ?_
    refine go_iload1 hc dX8_findLater_24 ?_
    replace h := goBind h; obtain ⟨M19, e20, h⟩ := h
    refine go_callVv hc dX8_findLater_25 (mX8_turn hk hW e20) ml_RX8_109 yk_X8_turn ⟨wim_X8_turn, wse_X8_turn⟩ hR rfl (sh_88 hW) rfl rfl rfl (Nat.le_of_ble_eq_true rfl) rfl ?_
    refine go_aload0 hc dX8_findLater_28 ?_
    refine go_aload0 hc dX8_findLater_29 ?_
    refine go_getR hc lk_RX8_11 dX8_findLater_30 (sh_88 hW) (rf_88_1 hW) ?_
    refine go_iload2 hc dX8_findLater_33 ?_
    replace h := goBind h; obtain ⟨M21, e22, h⟩ := h
    refine go_callVv hc dX8_findLater_34 (mX8_load hk hW (sh_89 hW) e22) ml_RX8_112 yk_X8_load ⟨wim_X8_load, wse_X8_load⟩ hR rfl (sh_88 hW) rfl rfl rfl (Nat.le_of_ble_eq_true rfl) rfl ?_
    refine go_aload0 hc dX8_findLater_37 ?_
    refine go_aload0 hc dX8_findLater_38 ?_
    refine go_getR hc lk_RX8_17 dX8_findLater_39 (sh_88 hW) (rf_88_2 hW) ?_
    refine go_iload2 hc dX8_findLater_42 ?_
    replace h := goBind h; obtain ⟨M23, e24, h⟩ := h
    refine go_callVv hc dX8_findLater_43 (mX8_save hk hW (sh_90 hW) e24) ml_RX8_52 yk_X8_save ⟨wim_X8_save, wse_X8_save⟩ hR rfl (sh_88 hW) rfl rfl rfl (Nat.le_of_ble_eq_true rfl) rfl ?_
    refine go_aload0 hc dX8_findLater_46 ?_
    refine go_aload0 hc dX8_findLater_47 ?_
    refine go_getR hc lk_RX8_17 dX8_findLater_48 (sh_88 hW) (rf_88_2 hW) ?_
    refine go_iload2 hc dX8_findLater_51 ?_
    refine go_iload3 hc dX8_findLater_52 ?_
    replace h := goBind h; obtain ⟨M25, e26, h⟩ := h
    refine go_callVv hc dX8_findLater_53 (mX8_playSaving hk hW (sh_90 hW) e26) ml_RX8_56 yk_X8_playSaving ⟨wim_X8_playSaving, wse_X8_playSaving⟩ hR rfl (sh_88 hW) rfl rfl rfl (Nat.le_of_ble_eq_true rfl) rfl ?_
    refine go_iconst (v := 0) hc dX8_findLater_56 rfl ?_
    refine go_istore4 hc dX8_findLater_57 ?_
    replace h := goBind h; obtain ⟨M59, e58, h⟩ := h
    refine mX8_findLater_L59 hc hk hR hr hW _ _ _ _ e58 (fun d2 d3 d4 d5 d6 => ?_) _ _
    refine go_aload0 hc dX8_findLater_185 ?_
    refine go_iload1 hc dX8_findLater_186 ?_
    replace h := goBind h; obtain ⟨M60, e61, h⟩ := h
    refine go_callVv hc dX8_findLater_187 (mX8_turn hk hW e61) ml_RX8_109 yk_X8_turn ⟨wim_X8_turn, wse_X8_turn⟩ hR rfl (sh_88 hW) rfl rfl rfl (Nat.le_of_ble_eq_true rfl) rfl ?_
    cases h
    exact go_vret hc dX8_findLater_190 hr
  refine go_if_eq hc 18 dX8_findLater_11 rfl (fun c18 => ?_) (fun c18 => ?_)
  · replace e16 := goIfT e16 c18
    refine go_aload0 hc dX8_findLater_18 ?_
    refine go_getI hc lk_RX8_42 dX8_findLater_19 (sh_88 hW) ?_
    subst e16
    exact k17 _ _ _ _
  · replace e16 := goIfF e16 c18
    refine go_iload2 hc dX8_findLater_14 ?_
    refine go_goto hc 22 dX8_findLater_15 rfl ?_
    subst e16
    exact k17 _ _ _ _
theorem dX8_fewest_0 : decode cX8_fewest 0 = .ok (.aload_n 0, 1) := by decide +kernel
theorem dX8_fewest_1 : decode cX8_fewest 1 = .ok (.iload_n 2, 1) := by decide +kernel
theorem dX8_fewest_2 : decode cX8_fewest 2 = .ok (.putfield 35, 3) := by decide +kernel
theorem dX8_fewest_5 : decode cX8_fewest 5 = .ok (.aload_n 0, 1) := by decide +kernel
theorem dX8_fewest_6 : decode cX8_fewest 6 = .ok (.iload_n 3, 1) := by decide +kernel
theorem dX8_fewest_7 : decode cX8_fewest 7 = .ok (.putfield 39, 3) := by decide +kernel
theorem dX8_fewest_10 : decode cX8_fewest 10 = .ok (.aload_n 0, 1) := by decide +kernel
theorem dX8_fewest_11 : decode cX8_fewest 11 = .ok (.iload 4, 2) := by decide +kernel
theorem dX8_fewest_13 : decode cX8_fewest 13 = .ok (.putfield 42, 3) := by decide +kernel
theorem dX8_fewest_16 : decode cX8_fewest 16 = .ok (.aload_n 0, 1) := by decide +kernel
theorem dX8_fewest_17 : decode cX8_fewest 17 = .ok (.iload 5, 2) := by decide +kernel
theorem dX8_fewest_19 : decode cX8_fewest 19 = .ok (.putfield 45, 3) := by decide +kernel
theorem dX8_fewest_22 : decode cX8_fewest 22 = .ok (.aload_n 0, 1) := by decide +kernel
theorem dX8_fewest_23 : decode cX8_fewest 23 = .ok (.getfield 27, 3) := by decide +kernel
theorem dX8_fewest_26 : decode cX8_fewest 26 = .ok (.iload_n 1, 1) := by decide +kernel
theorem dX8_fewest_27 : decode cX8_fewest 27 = .ok (.invokevirtual 48, 3) := by decide +kernel
theorem dX8_fewest_30 : decode cX8_fewest 30 = .ok (.aload_n 0, 1) := by decide +kernel
theorem dX8_fewest_31 : decode cX8_fewest 31 = .ok (.aload_n 0, 1) := by decide +kernel
theorem dX8_fewest_32 : decode cX8_fewest 32 = .ok (.getfield 11, 3) := by decide +kernel
theorem dX8_fewest_35 : decode cX8_fewest 35 = .ok (.iconst 0, 1) := by decide +kernel
theorem dX8_fewest_36 : decode cX8_fewest 36 = .ok (.invokevirtual 52, 3) := by decide +kernel
theorem dX8_fewest_39 : decode cX8_fewest 39 = .ok (.aload_n 0, 1) := by decide +kernel
theorem dX8_fewest_40 : decode cX8_fewest 40 = .ok (.aload_n 0, 1) := by decide +kernel
theorem dX8_fewest_41 : decode cX8_fewest 41 = .ok (.getfield 11, 3) := by decide +kernel
theorem dX8_fewest_44 : decode cX8_fewest 44 = .ok (.iconst 0, 1) := by decide +kernel
theorem dX8_fewest_45 : decode cX8_fewest 45 = .ok (.aload_n 0, 1) := by decide +kernel
theorem dX8_fewest_46 : decode cX8_fewest 46 = .ok (.getfield 42, 3) := by decide +kernel
theorem dX8_fewest_49 : decode cX8_fewest 49 = .ok (.invokevirtual 56, 3) := by decide +kernel
theorem dX8_fewest_52 : decode cX8_fewest 52 = .ok (.aload_n 0, 1) := by decide +kernel
theorem dX8_fewest_53 : decode cX8_fewest 53 = .ok (.invokevirtual 60, 3) := by decide +kernel
theorem dX8_fewest_56 : decode cX8_fewest 56 = .ok (.ifCond .eq 5, 3) := by decide +kernel
theorem dX8_fewest_59 : decode cX8_fewest 59 = .ok (.iconst 0, 1) := by decide +kernel
theorem dX8_fewest_60 : decode cX8_fewest 60 = .ok (.ireturn, 1) := by decide +kernel
theorem dX8_fewest_61 : decode cX8_fewest 61 = .ok (.aload_n 0, 1) := by decide +kernel
theorem dX8_fewest_62 : decode cX8_fewest 62 = .ok (.invokevirtual 64, 3) := by decide +kernel
theorem dX8_fewest_65 : decode cX8_fewest 65 = .ok (.ifCond .eq 5, 3) := by decide +kernel
theorem dX8_fewest_68 : decode cX8_fewest 68 = .ok (.iconst 1, 1) := by decide +kernel
theorem dX8_fewest_69 : decode cX8_fewest 69 = .ok (.ireturn, 1) := by decide +kernel
theorem dX8_fewest_70 : decode cX8_fewest 70 = .ok (.aload_n 0, 1) := by decide +kernel
theorem dX8_fewest_71 : decode cX8_fewest 71 = .ok (.bipush 96, 2) := by decide +kernel
theorem dX8_fewest_73 : decode cX8_fewest 73 = .ok (.putfield 67, 3) := by decide +kernel
theorem dX8_fewest_76 : decode cX8_fewest 76 = .ok (.aload_n 0, 1) := by decide +kernel
theorem dX8_fewest_77 : decode cX8_fewest 77 = .ok (.bipush 96, 2) := by decide +kernel
theorem dX8_fewest_79 : decode cX8_fewest 79 = .ok (.putfield 70, 3) := by decide +kernel
theorem dX8_fewest_82 : decode cX8_fewest 82 = .ok (.iconst 0, 1) := by decide +kernel
theorem dX8_fewest_83 : decode cX8_fewest 83 = .ok (.istore 6, 2) := by decide +kernel
theorem dX8_fewest_85 : decode cX8_fewest 85 = .ok (.iload 6, 2) := by decide +kernel
theorem dX8_fewest_87 : decode cX8_fewest 87 = .ok (.aload_n 0, 1) := by decide +kernel
theorem dX8_fewest_88 : decode cX8_fewest 88 = .ok (.getfield 27, 3) := by decide +kernel
theorem dX8_fewest_91 : decode cX8_fewest 91 = .ok (.getfield 31, 3) := by decide +kernel
theorem dX8_fewest_94 : decode cX8_fewest 94 = .ok (.getfield 73, 3) := by decide +kernel
theorem dX8_fewest_97 : decode cX8_fewest 97 = .ok (.bipush 12, 2) := by decide +kernel
theorem dX8_fewest_99 : decode cX8_fewest 99 = .ok (.imul, 1) := by decide +kernel
theorem dX8_fewest_100 : decode cX8_fewest 100 = .ok (.if_icmp .ge 24, 3) := by decide +kernel
theorem dX8_fewest_103 : decode cX8_fewest 103 = .ok (.aload_n 0, 1) := by decide +kernel
theorem dX8_fewest_104 : decode cX8_fewest 104 = .ok (.iload 6, 2) := by decide +kernel
theorem dX8_fewest_106 : decode cX8_fewest 106 = .ok (.invokevirtual 78, 3) := by decide +kernel
theorem dX8_fewest_109 : decode cX8_fewest 109 = .ok (.ifCond .eq 9, 3) := by decide +kernel
theorem dX8_fewest_112 : decode cX8_fewest 112 = .ok (.aload_n 0, 1) := by decide +kernel
theorem dX8_fewest_113 : decode cX8_fewest 113 = .ok (.iload 6, 2) := by decide +kernel
theorem dX8_fewest_115 : decode cX8_fewest 115 = .ok (.invokevirtual 82, 3) := by decide +kernel
theorem dX8_fewest_118 : decode cX8_fewest 118 = .ok (.iinc 6 1, 3) := by decide +kernel
theorem dX8_fewest_121 : decode cX8_fewest 121 = .ok (.goto (-36), 3) := by decide +kernel
theorem dX8_fewest_124 : decode cX8_fewest 124 = .ok (.aload_n 0, 1) := by decide +kernel
theorem dX8_fewest_125 : decode cX8_fewest 125 = .ok (.getfield 67, 3) := by decide +kernel
theorem dX8_fewest_128 : decode cX8_fewest 128 = .ok (.bipush 96, 2) := by decide +kernel
theorem dX8_fewest_130 : decode cX8_fewest 130 = .ok (.if_icmp .ge 7, 3) := by decide +kernel
theorem dX8_fewest_133 : decode cX8_fewest 133 = .ok (.iconst 2, 1) := by decide +kernel
theorem dX8_fewest_134 : decode cX8_fewest 134 = .ok (.goto 5, 3) := by decide +kernel
theorem dX8_fewest_137 : decode cX8_fewest 137 = .ok (.bipush (-2), 2) := by decide +kernel
theorem dX8_fewest_139 : decode cX8_fewest 139 = .ok (.ireturn, 1) := by decide +kernel
set_option maxRecDepth 100000 in
set_option maxHeartbeats 4000000 in
theorem mX8_fewest_L85 {E : goEv} {X : goX} {G : goG} {Q : State → Prop} {L : goML} {R : goMR} {N : Nat} (hc : goCx E X cX8_fewest RX8 7) (hk : goKn E) (hR : X.2.2.2.1 = goRoom 6 155 0 0) (hr : X.2.2.2.2.2.2.2.2.1.sig.returnType = (Option.some FieldType.int)) (hW : goW G R) : ∀ (n : Nat) (v6 : Int32) (M : goMI) (r0 : goMI), lX8_fewest_85 N R n v6 M = some r0 → (∀ (d1 d2 d3 d4 d5 d6 : Option Value), goA E X G 0 0 Q 124 [some (.ref 88), d1, d2, d3, d4, d5, d6] [] r0 L R) → ∀ (d1 d2 d3 d4 d5 : Option Value), goA E X G 0 0 Q 85 [some (.ref 88), d1, d2, d3, d4, d5, some (.int v6)] [] M L R := by
  intro n
  induction n with
  | zero => intro v6 M r0 h; exact nomatch h
  | succ n ih =>
    intro v6 M r0 h kx d1 d2 d3 d4 d5
    rw [lX8_fewest_85] at h
    refine go_iload6 hc dX8_fewest_85 ?_
    refine go_aload0 hc dX8_fewest_87 ?_
    refine go_getR hc lk_RX8_27 dX8_fewest_88 (sh_88 hW) (rf_88_0 hW) ?_
    refine go_getR hc lk_RX8_31 dX8_fewest_91 (shDay_0 hW (mb_92)) (rmDay_1 hW (mb_92)) ?_
    refine go_getI hc lk_RX8_73 dX8_fewest_94 (shHill_0 hW (mmDay_1 hW (mb_92))) ?_
    refine go_bipush (v := 12) hc dX8_fewest_97 rfl ?_
    refine go_imul hc dX8_fewest_99 ?_
    refine go_icmp_ge hc 124 dX8_fewest_100 rfl (fun c36 => ?_) (fun c36 => ?_)
    · replace h := goIfF h c36
      cases h
      exact kx _ _ _ _ _ _
    · replace h := goIfT h c36
      refine go_aload0 hc dX8_fewest_103 ?_
      refine go_iload6 hc dX8_fewest_104 ?_
      replace h := goBind h; obtain ⟨x37, e38, h⟩ := h
      refine go_callVi hc dX8_fewest_106 (mX8_isFree hk hW e38) ml_RX8_78 yk_X8_isFree ⟨wim_X8_isFree, wse_X8_isFree⟩ hR rfl (sh_88 hW) rfl rfl rfl (Nat.le_of_ble_eq_true rfl) rfl ?_
      replace h := goBind h; obtain ⟨M39, e40, h⟩ := h
      have k41 : ∀ (d1 d2 d3 d4 d5 : Option Value), goA E X G 0 0 Q 118 [some (.ref 88), d1, d2, d3, d4, d5, some (.int v6)] [] M39 L R := by
        intro d1 d2 d3 d4 d5
        refine go_iinc6 (v := (v6 + 1)) hc dX8_fewest_118 rfl ?_
        refine go_goto hc 85 dX8_fewest_121 rfl ?_
        exact ih _ _ _ h kx _ _ _ _ _
      refine go_if_eq hc 118 dX8_fewest_109 rfl (fun c42 => ?_) (fun c42 => ?_)
      · replace e40 := goIfT e40 c42
        cases e40
        exact k41 _ _ _ _ _
      · replace e40 := goIfF e40 c42
        refine go_aload0 hc dX8_fewest_112 ?_
        refine go_iload6 hc dX8_fewest_113 ?_
        replace e40 := goBind e40; obtain ⟨M43, e44, e40⟩ := e40
        refine go_callVv hc dX8_fewest_115 (mX8_findLater hk hW e44) ml_RX8_82 yk_X8_findLater ⟨wim_X8_findLater, wse_X8_findLater⟩ hR rfl (sh_88 hW) rfl rfl rfl (Nat.le_of_ble_eq_true rfl) rfl ?_
        cases e40
        exact k41 _ _ _ _ _
set_option maxRecDepth 100000 in
set_option maxHeartbeats 4000000 in
theorem mX8_fewest {E : goEv} {l : Launch} {G : goG} {N : Nat} {M : goMI} {L : goML} {R : goMR} {v1 : Int32} {v2 : Int32} {v3 : Int32} {v4 : Int32} {v5 : Int32} {r0 : Int32} {r1 : goMI} (hk : goKn E) (hW : goW G R) (h : fX8_fewest N M R v1 v2 v3 v4 v5 = some (r0, r1)) : Met l yX8_fewest (goCd yX8_fewest cX8_fewest 7 (Option.some FieldType.int)) (goRoom 6 155 0 0) (goPre E [.ref 88, .int v1, .int v2, .int v3, .int v4, .int v5] G M L R) (goQi E r0 G r1 L R) 0 0 (goSet E) := by
  refine goMet pl_RX8 hk (lv := [some (.ref 88), some (.int v1), some (.int v2), some (.int v3), some (.int v4), some (.int v5), none]) rfl (Nat.le_of_ble_eq_true rfl) ?_
  intro X hc hl hR hr hnm
  subst hl
  unfold fX8_fewest at h
  refine go_aload0 hc dX8_fewest_0 ?_
  refine go_iload2 hc dX8_fewest_1 ?_
  replace h := goNm_x h; obtain ⟨M11, e12, h⟩ := h
  refine go_ptI hc lk_RX8_35 dX8_fewest_2 (sh_88 hW) e12 ?_
  refine go_aload0 hc dX8_fewest_5 ?_
  refine go_iload3 hc dX8_fewest_6 ?_
  replace h := goNm_x h; obtain ⟨M13, e14, h⟩ := h
  refine go_ptI hc lk_RX8_39 dX8_fewest_7 (sh_88 hW) e14 ?_
  refine go_aload0 hc dX8_fewest_10 ?_
  refine go_iload4 hc dX8_fewest_11 ?_
  replace h := goNm_x h; obtain ⟨M15, e16, h⟩ := h
  refine go_ptI hc lk_RX8_42 dX8_fewest_13 (sh_88 hW) e16 ?_
  refine go_aload0 hc dX8_fewest_16 ?_
  refine go_iload5 hc dX8_fewest_17 ?_
  replace h := goNm_x h; obtain ⟨M17, e18, h⟩ := h
  refine go_ptI hc lk_RX8_45 dX8_fewest_19 (sh_88 hW) e18 ?_
  refine go_aload0 hc dX8_fewest_22 ?_
  refine go_getR hc lk_RX8_27 dX8_fewest_23 (sh_88 hW) (rf_88_0 hW) ?_
  refine go_iload1 hc dX8_fewest_26 ?_
  replace h := goBind h; obtain ⟨M19, e20, h⟩ := h
  refine go_callVv hc dX8_fewest_27 (mX3_prepare hk hW (mb_92) e20) ml_RX8_48 yk_X3_prepare ⟨wim_X3_prepare, wse_X3_prepare⟩ hR rfl (shDay_0 hW (mb_92)) rfl rfl rfl (Nat.le_of_ble_eq_true rfl) rfl ?_
  refine go_aload0 hc dX8_fewest_30 ?_
  refine go_aload0 hc dX8_fewest_31 ?_
  refine go_getR hc lk_RX8_11 dX8_fewest_32 (sh_88 hW) (rf_88_1 hW) ?_
  refine go_iconst (v := 0) hc dX8_fewest_35 rfl ?_
  replace h := goBind h; obtain ⟨M21, e22, h⟩ := h
  refine go_callVv hc dX8_fewest_36 (mX8_save hk hW (sh_89 hW) e22) ml_RX8_52 yk_X8_save ⟨wim_X8_save, wse_X8_save⟩ hR rfl (sh_88 hW) rfl rfl rfl (Nat.le_of_ble_eq_true rfl) rfl ?_
  refine go_aload0 hc dX8_fewest_39 ?_
  refine go_aload0 hc dX8_fewest_40 ?_
  refine go_getR hc lk_RX8_11 dX8_fewest_41 (sh_88 hW) (rf_88_1 hW) ?_
  refine go_iconst (v := 0) hc dX8_fewest_44 rfl ?_
  refine go_aload0 hc dX8_fewest_45 ?_
  refine go_getI hc lk_RX8_42 dX8_fewest_46 (sh_88 hW) ?_
  replace h := goBind h; obtain ⟨M23, e24, h⟩ := h
  refine go_callVv hc dX8_fewest_49 (mX8_playSaving hk hW (sh_89 hW) e24) ml_RX8_56 yk_X8_playSaving ⟨wim_X8_playSaving, wse_X8_playSaving⟩ hR rfl (sh_88 hW) rfl rfl rfl (Nat.le_of_ble_eq_true rfl) rfl ?_
  refine go_aload0 hc dX8_fewest_52 ?_
  replace h := goBind h; obtain ⟨x25, e26, h⟩ := h
  refine go_callVi hc dX8_fewest_53 (mX8_isThere hk hW e26) ml_RX8_60 yk_X8_isThere ⟨wim_X8_isThere, wse_X8_isThere⟩ hR rfl (sh_88 hW) rfl rfl rfl (Nat.le_of_ble_eq_true rfl) rfl ?_
  refine go_if_eq hc 61 dX8_fewest_56 rfl (fun c27 => ?_) (fun c27 => ?_)
  · replace h := goIfT h c27
    refine go_aload0 hc dX8_fewest_61 ?_
    replace h := goB2_h h; obtain ⟨x28, M29, e30, h⟩ := h
    refine go_callVi hc dX8_fewest_62 (mX8_findOne hk hW e30) ml_RX8_64 yk_X8_findOne ⟨wim_X8_findOne, wse_X8_findOne⟩ hR rfl (sh_88 hW) rfl rfl rfl (Nat.le_of_ble_eq_true rfl) rfl ?_
    refine go_if_eq hc 70 dX8_fewest_65 rfl (fun c31 => ?_) (fun c31 => ?_)
    · replace h := goIfT h c31
      refine go_aload0 hc dX8_fewest_70 ?_
      refine go_bipush (v := 96) hc dX8_fewest_71 rfl ?_
      replace h := goNm_x h; obtain ⟨M32, e33, h⟩ := h
      refine go_ptI hc lk_RX8_67 dX8_fewest_73 (sh_88 hW) e33 ?_
      refine go_aload0 hc dX8_fewest_76 ?_
      refine go_bipush (v := 96) hc dX8_fewest_77 rfl ?_
      replace h := goNm_x h; obtain ⟨M34, e35, h⟩ := h
      refine go_ptI hc lk_RX8_70 dX8_fewest_79 (sh_88 hW) e35 ?_
      refine go_iconst (v := 0) hc dX8_fewest_82 rfl ?_
      refine go_istore6 hc dX8_fewest_83 ?_
      replace h := goBind h; obtain ⟨M46, e45, h⟩ := h
      refine mX8_fewest_L85 hc hk hR hr hW _ _ _ _ e45 (fun d1 d2 d3 d4 d5 d6 => ?_) _ _ _ _ _
      refine go_aload0 hc dX8_fewest_124 ?_
      refine go_getI hc lk_RX8_67 dX8_fewest_125 (sh_88 hW) ?_
      refine go_bipush (v := 96) hc dX8_fewest_128 rfl ?_
      refine go_icmp_ge hc 137 dX8_fewest_130 rfl (fun c47 => ?_) (fun c47 => ?_)
      · replace h := goIfF h c47
        refine go_bipush (v := (-2)) hc dX8_fewest_137 rfl ?_
        cases h
        exact go_iret hc dX8_fewest_139 hr
      · replace h := goIfT h c47
        refine go_iconst (v := 2) hc dX8_fewest_133 rfl ?_
        refine go_goto hc 139 dX8_fewest_134 rfl ?_
        cases h
        exact go_iret hc dX8_fewest_139 hr
    · replace h := goIfF h c31
      refine go_iconst (v := 1) hc dX8_fewest_68 rfl ?_
      cases h
      exact go_iret hc dX8_fewest_69 hr
  · replace h := goIfF h c27
    refine go_iconst (v := 0) hc dX8_fewest_59 rfl ?_
    cases h
    exact go_iret hc dX8_fewest_60 hr
theorem dX11_isLetter_0 : decode cX11_isLetter 0 = .ok (.iload_n 0, 1) := by decide +kernel
theorem dX11_isLetter_1 : decode cX11_isLetter 1 = .ok (.bipush 97, 2) := by decide +kernel
theorem dX11_isLetter_3 : decode cX11_isLetter 3 = .ok (.if_icmp .lt 13, 3) := by decide +kernel
theorem dX11_isLetter_6 : decode cX11_isLetter 6 = .ok (.iload_n 0, 1) := by decide +kernel
theorem dX11_isLetter_7 : decode cX11_isLetter 7 = .ok (.bipush 122, 2) := by decide +kernel
theorem dX11_isLetter_9 : decode cX11_isLetter 9 = .ok (.if_icmp .gt 7, 3) := by decide +kernel
theorem dX11_isLetter_12 : decode cX11_isLetter 12 = .ok (.iconst 1, 1) := by decide +kernel
theorem dX11_isLetter_13 : decode cX11_isLetter 13 = .ok (.goto 4, 3) := by decide +kernel
theorem dX11_isLetter_16 : decode cX11_isLetter 16 = .ok (.iconst 0, 1) := by decide +kernel
theorem dX11_isLetter_17 : decode cX11_isLetter 17 = .ok (.ireturn, 1) := by decide +kernel
theorem zX11_isLetter {v0 : Int32} : fX11_isLetter v0 = 0 ∨ fX11_isLetter v0 = 1 := by
  unfold fX11_isLetter
  first | exact rfl | ((repeat' split) <;> simp; done) | (simp only [goNm]; (repeat' split) <;> simp)
set_option maxRecDepth 100000 in
set_option maxHeartbeats 4000000 in
theorem mX11_isLetter {E : goEv} {l : Launch} {G : goG} {M : goMI} {L : goML} {R : goMR} {v0 : Int32} {r0 : Int32} (hk : goKn E) (hW : goW G R) (h : fX11_isLetter v0 = r0) : Met l yX11_isLetter (goCd yX11_isLetter cX11_isLetter 1 (Option.some FieldType.boolean)) (goRoom 0 0 0 0) (goPre E [.int v0] G M L R) (goQi E r0 G M L R) 0 0 (goSet E) := by
  refine goMet pl_RX11 hk (lv := [some (.int v0)]) rfl (Nat.le_of_ble_eq_true rfl) ?_
  intro X hc hl hR hr hnm
  subst hl
  unfold fX11_isLetter at h
  refine go_iload0 hc dX11_isLetter_0 ?_
  refine go_bipush (v := 97) hc dX11_isLetter_1 rfl ?_
  refine go_icmp_lt hc 16 dX11_isLetter_3 rfl (fun c11 => ?_) (fun c11 => ?_)
  · replace h := goIfF h c11
    refine go_iconst (v := 0) hc dX11_isLetter_16 rfl ?_
    subst h
    exact go_zret hc dX11_isLetter_17 hr rfl
  · replace h := goIfT h c11
    refine go_iload0 hc dX11_isLetter_6 ?_
    refine go_bipush (v := 122) hc dX11_isLetter_7 rfl ?_
    refine go_icmp_gt hc 16 dX11_isLetter_9 rfl (fun c12 => ?_) (fun c12 => ?_)
    · replace h := goIfF h c12
      refine go_iconst (v := 0) hc dX11_isLetter_16 rfl ?_
      subst h
      exact go_zret hc dX11_isLetter_17 hr rfl
    · replace h := goIfT h c12
      refine go_iconst (v := 1) hc dX11_isLetter_12 rfl ?_
      refine go_goto hc 17 dX11_isLetter_13 rfl ?_
      subst h
      exact go_zret hc dX11_isLetter_17 hr rfl
theorem dX11_readWord_0 : decode cX11_readWord 0 = .ok (.aload_n 0, 1) := by decide +kernel
theorem dX11_readWord_1 : decode cX11_readWord 1 = .ok (.lconst 0, 1) := by decide +kernel
theorem dX11_readWord_2 : decode cX11_readWord 2 = .ok (.putfield 53, 3) := by decide +kernel
theorem dX11_readWord_5 : decode cX11_readWord 5 = .ok (.aload_n 0, 1) := by decide +kernel
theorem dX11_readWord_6 : decode cX11_readWord 6 = .ok (.getfield 28, 3) := by decide +kernel
theorem dX11_readWord_9 : decode cX11_readWord 9 = .ok (.aload_n 0, 1) := by decide +kernel
theorem dX11_readWord_10 : decode cX11_readWord 10 = .ok (.getfield 25, 3) := by decide +kernel
theorem dX11_readWord_13 : decode cX11_readWord 13 = .ok (.if_icmp .ge 60, 3) := by decide +kernel
theorem dX11_readWord_16 : decode cX11_readWord 16 = .ok (.aload_n 0, 1) := by decide +kernel
theorem dX11_readWord_17 : decode cX11_readWord 17 = .ok (.getfield 9, 3) := by decide +kernel
theorem dX11_readWord_20 : decode cX11_readWord 20 = .ok (.aload_n 0, 1) := by decide +kernel
theorem dX11_readWord_21 : decode cX11_readWord 21 = .ok (.getfield 28, 3) := by decide +kernel
theorem dX11_readWord_24 : decode cX11_readWord 24 = .ok (.baload, 1) := by decide +kernel
theorem dX11_readWord_25 : decode cX11_readWord 25 = .ok (.invokestatic 40, 3) := by decide +kernel
theorem dX11_readWord_28 : decode cX11_readWord 28 = .ok (.ifCond .eq 45, 3) := by decide +kernel
theorem dX11_readWord_31 : decode cX11_readWord 31 = .ok (.aload_n 0, 1) := by decide +kernel
theorem dX11_readWord_32 : decode cX11_readWord 32 = .ok (.aload_n 0, 1) := by decide +kernel
theorem dX11_readWord_33 : decode cX11_readWord 33 = .ok (.getfield 53, 3) := by decide +kernel
theorem dX11_readWord_36 : decode cX11_readWord 36 = .ok (.ldc2_w 57, 3) := by decide +kernel
theorem dX11_readWord_39 : decode cX11_readWord 39 = .ok (.lmul, 1) := by decide +kernel
theorem dX11_readWord_40 : decode cX11_readWord 40 = .ok (.aload_n 0, 1) := by decide +kernel
theorem dX11_readWord_41 : decode cX11_readWord 41 = .ok (.getfield 9, 3) := by decide +kernel
theorem dX11_readWord_44 : decode cX11_readWord 44 = .ok (.aload_n 0, 1) := by decide +kernel
theorem dX11_readWord_45 : decode cX11_readWord 45 = .ok (.getfield 28, 3) := by decide +kernel
theorem dX11_readWord_48 : decode cX11_readWord 48 = .ok (.baload, 1) := by decide +kernel
theorem dX11_readWord_49 : decode cX11_readWord 49 = .ok (.i2l, 1) := by decide +kernel
theorem dX11_readWord_50 : decode cX11_readWord 50 = .ok (.ladd, 1) := by decide +kernel
theorem dX11_readWord_51 : decode cX11_readWord 51 = .ok (.ldc2_w 59, 3) := by decide +kernel
theorem dX11_readWord_54 : decode cX11_readWord 54 = .ok (.lsub, 1) := by decide +kernel
theorem dX11_readWord_55 : decode cX11_readWord 55 = .ok (.lconst 1, 1) := by decide +kernel
theorem dX11_readWord_56 : decode cX11_readWord 56 = .ok (.ladd, 1) := by decide +kernel
theorem dX11_readWord_57 : decode cX11_readWord 57 = .ok (.putfield 53, 3) := by decide +kernel
theorem dX11_readWord_60 : decode cX11_readWord 60 = .ok (.aload_n 0, 1) := by decide +kernel
theorem dX11_readWord_61 : decode cX11_readWord 61 = .ok (.dup, 1) := by decide +kernel
theorem dX11_readWord_62 : decode cX11_readWord 62 = .ok (.getfield 28, 3) := by decide +kernel
theorem dX11_readWord_65 : decode cX11_readWord 65 = .ok (.iconst 1, 1) := by decide +kernel
theorem dX11_readWord_66 : decode cX11_readWord 66 = .ok (.iadd, 1) := by decide +kernel
theorem dX11_readWord_67 : decode cX11_readWord 67 = .ok (.putfield 28, 3) := by decide +kernel
theorem dX11_readWord_70 : decode cX11_readWord 70 = .ok (.goto (-65), 3) := by decide +kernel
theorem dX11_readWord_73 : decode cX11_readWord 73 = .ok (.aload_n 0, 1) := by decide +kernel
theorem dX11_readWord_74 : decode cX11_readWord 74 = .ok (.aload_n 0, 1) := by decide +kernel
theorem dX11_readWord_75 : decode cX11_readWord 75 = .ok (.getfield 28, 3) := by decide +kernel
theorem dX11_readWord_78 : decode cX11_readWord 78 = .ok (.aload_n 0, 1) := by decide +kernel
theorem dX11_readWord_79 : decode cX11_readWord 79 = .ok (.getfield 34, 3) := by decide +kernel
theorem dX11_readWord_82 : decode cX11_readWord 82 = .ok (.isub, 1) := by decide +kernel
theorem dX11_readWord_83 : decode cX11_readWord 83 = .ok (.putfield 61, 3) := by decide +kernel
theorem dX11_readWord_86 : decode cX11_readWord 86 = .ok (.aload_n 0, 1) := by decide +kernel
theorem dX11_readWord_87 : decode cX11_readWord 87 = .ok (.aload_n 0, 1) := by decide +kernel
theorem dX11_readWord_88 : decode cX11_readWord 88 = .ok (.getfield 61, 3) := by decide +kernel
theorem dX11_readWord_91 : decode cX11_readWord 91 = .ok (.bipush 8, 2) := by decide +kernel
theorem dX11_readWord_93 : decode cX11_readWord 93 = .ok (.if_icmp .gt 7, 3) := by decide +kernel
theorem dX11_readWord_96 : decode cX11_readWord 96 = .ok (.iconst 1, 1) := by decide +kernel
theorem dX11_readWord_97 : decode cX11_readWord 97 = .ok (.goto 4, 3) := by decide +kernel
theorem dX11_readWord_100 : decode cX11_readWord 100 = .ok (.iconst 5, 1) := by decide +kernel
theorem dX11_readWord_101 : decode cX11_readWord 101 = .ok (.putfield 37, 3) := by decide +kernel
theorem dX11_readWord_104 : decode cX11_readWord 104 = .ok (.return_, 1) := by decide +kernel
set_option maxRecDepth 100000 in
set_option maxHeartbeats 4000000 in
theorem mX11_readWord_L5 {E : goEv} {X : goX} {G : goG} {Q : State → Prop} {R : goMR} (hc : goCx E X cX11_readWord RX11 1) (hk : goKn E) (hR : X.2.2.2.1 = goRoom 1 20 0 0) (hr : X.2.2.2.2.2.2.2.2.1.sig.returnType = none) (hW : goW G R) : ∀ (n : Nat) (M : goMI) (L : goML) (r0 : goMI) (r1 : goML), lX11_readWord_5 n M L = some (r0, r1) → (goA E X G 0 0 Q 73 [some (.ref 1)] [] r0 r1 R) → goA E X G 0 0 Q 5 [some (.ref 1)] [] M L R := by
  intro n
  induction n with
  | zero => intro M L r0 r1 h; exact nomatch h
  | succ n ih =>
    intro M L r0 r1 h kx
    rw [lX11_readWord_5] at h
    refine go_aload0 hc dX11_readWord_5 ?_
    refine go_getI hc lk_RX11_28 dX11_readWord_6 (sh_1 hW) ?_
    refine go_aload0 hc dX11_readWord_9 ?_
    refine go_getI hc lk_RX11_25 dX11_readWord_10 (sh_1 hW) ?_
    refine go_icmp_ge hc 73 dX11_readWord_13 rfl (fun c13 => ?_) (fun c13 => ?_)
    · replace h := goIfF h c13
      cases h
      exact kx
    · replace h := goIfT h c13
      refine go_aload0 hc dX11_readWord_16 ?_
      refine go_getR hc lk_RX11_9 dX11_readWord_17 (sh_1 hW) (rf_1_0 hW) ?_
      refine go_aload0 hc dX11_readWord_20 ?_
      refine go_getI hc lk_RX11_28 dX11_readWord_21 (sh_1 hW) ?_
      replace h := goBind h; obtain ⟨x14, e15, h⟩ := h
      refine go_bald hc dX11_readWord_24 (sh_2 hW) e15 ?_
      refine go_callSi hc dX11_readWord_25 (mX11_isLetter hk hW rfl) ml_RX11_40 yk_X11_isLetter wst_X11_isLetter hR rfl rfl rfl (Nat.le_of_ble_eq_true rfl) rfl ?_
      refine go_if_eq hc 73 dX11_readWord_28 rfl (fun c16 => ?_) (fun c16 => ?_)
      · replace h := goIfT h c16
        cases h
        exact kx
      · replace h := goIfF h c16
        refine go_aload0 hc dX11_readWord_31 ?_
        refine go_aload0 hc dX11_readWord_32 ?_
        refine go_getL hc lk_RX11_53 dX11_readWord_33 (sh_1 hW) ?_
        refine go_ldc2 hc dX11_readWord_36 wcJ_RX11_57 ?_
        refine go_lmul hc dX11_readWord_39 ?_
        refine go_aload0 hc dX11_readWord_40 ?_
        refine go_getR hc lk_RX11_9 dX11_readWord_41 (sh_1 hW) (rf_1_0 hW) ?_
        refine go_aload0 hc dX11_readWord_44 ?_
        refine go_getI hc lk_RX11_28 dX11_readWord_45 (sh_1 hW) ?_
        replace h := goBind h; obtain ⟨x17, e18, h⟩ := h
        refine go_bald hc dX11_readWord_48 (sh_2 hW) e18 ?_
        refine go_i2l hc dX11_readWord_49 ?_
        refine go_ladd hc dX11_readWord_50 ?_
        refine go_ldc2 hc dX11_readWord_51 wcJ_RX11_59 ?_
        refine go_lsub hc dX11_readWord_54 ?_
        refine go_lconst (v := 1) hc dX11_readWord_55 rfl ?_
        refine go_ladd hc dX11_readWord_56 ?_
        replace h := goNm_x h; obtain ⟨L19, e20, h⟩ := h
        refine go_ptL hc lk_RX11_53 dX11_readWord_57 (sh_1 hW) e20 ?_
        refine go_aload0 hc dX11_readWord_60 ?_
        refine go_dupr hc dX11_readWord_61 ?_
        refine go_getI hc lk_RX11_28 dX11_readWord_62 (sh_1 hW) ?_
        refine go_iconst (v := 1) hc dX11_readWord_65 rfl ?_
        refine go_iadd hc dX11_readWord_66 ?_
        replace h := goNm_x h; obtain ⟨M21, e22, h⟩ := h
        refine go_ptI hc lk_RX11_28 dX11_readWord_67 (sh_1 hW) e22 ?_
        refine go_goto hc 5 dX11_readWord_70 rfl ?_
        exact ih _ _ _ _ h kx
set_option maxRecDepth 100000 in
set_option maxHeartbeats 4000000 in
theorem mX11_readWord {E : goEv} {l : Launch} {G : goG} {N : Nat} {M : goMI} {L : goML} {R : goMR} {r0 : goMI} {r1 : goML} (hk : goKn E) (hW : goW G R) (h : fX11_readWord N M L = some (r0, r1)) : Met l yX11_readWord (goCd yX11_readWord cX11_readWord 1 none) (goRoom 1 20 0 0) (goPre E [.ref 1] G M L R) (goQv E G r0 r1 R) 0 0 (goSet E) := by
  refine goMet pl_RX11 hk (lv := [some (.ref 1)]) rfl (Nat.le_of_ble_eq_true rfl) ?_
  intro X hc hl hR hr hnm
  subst hl
  unfold fX11_readWord at h
  refine go_aload0 hc dX11_readWord_0 ?_
  refine go_lconst (v := 0) hc dX11_readWord_1 rfl ?_
  replace h := goNm_x h; obtain ⟨L11, e12, h⟩ := h
  refine go_ptL hc lk_RX11_53 dX11_readWord_2 (sh_1 hW) e12 ?_
  replace h := goB2_h h; obtain ⟨M24, L25, e23, h⟩ := h
  refine mX11_readWord_L5 hc hk hR hr hW _ _ _ _ _ e23 (?_)
  refine go_aload0 hc dX11_readWord_73 ?_
  refine go_aload0 hc dX11_readWord_74 ?_
  refine go_getI hc lk_RX11_28 dX11_readWord_75 (sh_1 hW) ?_
  refine go_aload0 hc dX11_readWord_78 ?_
  refine go_getI hc lk_RX11_34 dX11_readWord_79 (sh_1 hW) ?_
  refine go_isub hc dX11_readWord_82 ?_
  replace h := goNm_x h; obtain ⟨M26, e27, h⟩ := h
  refine go_ptI hc lk_RX11_61 dX11_readWord_83 (sh_1 hW) e27 ?_
  refine go_aload0 hc dX11_readWord_86 ?_
  refine go_aload0 hc dX11_readWord_87 ?_
  refine go_getI hc lk_RX11_61 dX11_readWord_88 (sh_1 hW) ?_
  refine go_bipush (v := 8) hc dX11_readWord_91 rfl ?_
  replace h := goNm_y h; obtain ⟨x28, e29, h⟩ := h
  have k30 : ∀ (d0 : Option Value), goA E X G 0 0 (goMQ X E (goQv E G r0 r1 R) 0 0) 101 [d0] [.int x28, .ref 1] M26 L25 R := by
    intro d0
    replace h := goNm_x h; obtain ⟨M32, e33, h⟩ := h
    refine go_ptI hc lk_RX11_37 dX11_readWord_101 (sh_1 hW) e33 ?_
    cases h
    exact go_vret hc dX11_readWord_104 hr
  refine go_icmp_gt hc 100 dX11_readWord_93 rfl (fun c31 => ?_) (fun c31 => ?_)
  · replace e29 := goIfF e29 c31
    refine go_iconst (v := 5) hc dX11_readWord_100 rfl ?_
    subst e29
    exact k30 _
  · replace e29 := goIfT e29 c31
    refine go_iconst (v := 1) hc dX11_readWord_96 rfl ?_
    refine go_goto hc 101 dX11_readWord_97 rfl ?_
    subst e29
    exact k30 _
