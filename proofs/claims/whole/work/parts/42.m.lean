theorem dX14_near_0 : decode cX14_near 0 = .ok (.aload_n 0, 1) := by decide +kernel
theorem dX14_near_1 : decode cX14_near 1 = .ok (.iconst 0, 1) := by decide +kernel
theorem dX14_near_2 : decode cX14_near 2 = .ok (.putfield 66, 3) := by decide +kernel
theorem dX14_near_5 : decode cX14_near 5 = .ok (.aload_n 0, 1) := by decide +kernel
theorem dX14_near_6 : decode cX14_near 6 = .ok (.iload_n 1, 1) := by decide +kernel
theorem dX14_near_7 : decode cX14_near 7 = .ok (.invokevirtual 491, 3) := by decide +kernel
theorem dX14_near_10 : decode cX14_near 10 = .ok (.ifCond .ne 9, 3) := by decide +kernel
theorem dX14_near_13 : decode cX14_near 13 = .ok (.aload_n 0, 1) := by decide +kernel
theorem dX14_near_14 : decode cX14_near 14 = .ok (.iconst 1, 1) := by decide +kernel
theorem dX14_near_15 : decode cX14_near 15 = .ok (.invokevirtual 72, 3) := by decide +kernel
theorem dX14_near_18 : decode cX14_near 18 = .ok (.ireturn, 1) := by decide +kernel
theorem dX14_near_19 : decode cX14_near 19 = .ok (.iconst 0, 1) := by decide +kernel
theorem dX14_near_20 : decode cX14_near 20 = .ok (.istore_n 2, 1) := by decide +kernel
theorem dX14_near_21 : decode cX14_near 21 = .ok (.iconst 0, 1) := by decide +kernel
theorem dX14_near_22 : decode cX14_near 22 = .ok (.istore_n 3, 1) := by decide +kernel
theorem dX14_near_23 : decode cX14_near 23 = .ok (.iload_n 3, 1) := by decide +kernel
theorem dX14_near_24 : decode cX14_near 24 = .ok (.aload_n 0, 1) := by decide +kernel
theorem dX14_near_25 : decode cX14_near 25 = .ok (.getfield 442, 3) := by decide +kernel
theorem dX14_near_28 : decode cX14_near 28 = .ok (.getfield 241, 3) := by decide +kernel
theorem dX14_near_31 : decode cX14_near 31 = .ok (.if_icmp .ge 32, 3) := by decide +kernel
theorem dX14_near_34 : decode cX14_near 34 = .ok (.iload_n 2, 1) := by decide +kernel
theorem dX14_near_35 : decode cX14_near 35 = .ok (.aload_n 0, 1) := by decide +kernel
theorem dX14_near_36 : decode cX14_near 36 = .ok (.getfield 442, 3) := by decide +kernel
theorem dX14_near_39 : decode cX14_near 39 = .ok (.iload_n 1, 1) := by decide +kernel
theorem dX14_near_40 : decode cX14_near 40 = .ok (.iload_n 3, 1) := by decide +kernel
theorem dX14_near_41 : decode cX14_near 41 = .ok (.invokevirtual 312, 3) := by decide +kernel
theorem dX14_near_44 : decode cX14_near 44 = .ok (.iconst (-1), 1) := by decide +kernel
theorem dX14_near_45 : decode cX14_near 45 = .ok (.if_icmp .eq 9, 3) := by decide +kernel
theorem dX14_near_48 : decode cX14_near 48 = .ok (.iconst 1, 1) := by decide +kernel
theorem dX14_near_49 : decode cX14_near 49 = .ok (.iload_n 3, 1) := by decide +kernel
theorem dX14_near_50 : decode cX14_near 50 = .ok (.ishl, 1) := by decide +kernel
theorem dX14_near_51 : decode cX14_near 51 = .ok (.goto 4, 3) := by decide +kernel
theorem dX14_near_54 : decode cX14_near 54 = .ok (.iconst 0, 1) := by decide +kernel
theorem dX14_near_55 : decode cX14_near 55 = .ok (.ior, 1) := by decide +kernel
theorem dX14_near_56 : decode cX14_near 56 = .ok (.istore_n 2, 1) := by decide +kernel
theorem dX14_near_57 : decode cX14_near 57 = .ok (.iinc 3 1, 3) := by decide +kernel
theorem dX14_near_60 : decode cX14_near 60 = .ok (.goto (-37), 3) := by decide +kernel
theorem dX14_near_63 : decode cX14_near 63 = .ok (.aload_n 0, 1) := by decide +kernel
theorem dX14_near_64 : decode cX14_near 64 = .ok (.iload_n 2, 1) := by decide +kernel
theorem dX14_near_65 : decode cX14_near 65 = .ok (.invokevirtual 76, 3) := by decide +kernel
theorem dX14_near_68 : decode cX14_near 68 = .ok (.ireturn, 1) := by decide +kernel
set_option maxRecDepth 100000 in
set_option maxHeartbeats 4000000 in
theorem mX14_near_L23 {E : goEv} {X : goX} {G : goG} {Q : State → Prop} {M : goMI} {L : goML} {R : goMR} {N : Nat} {v1 : Int32} (hc : goCx E X cX14_near RX14 4) (hk : goKn E) (hR : X.2.2.2.1 = goRoom 1 23 0 0) (hr : X.2.2.2.2.2.2.2.2.1.sig.returnType = (Option.some FieldType.int)) (hW : goW G R) : ∀ (n : Nat) (v2 : Int32) (v3 : Int32) (r0 : Int32), lX14_near_23 N v1 M R n v2 v3 = some r0 → (∀ (d1 d3 : Option Value), goA E X G 0 0 Q 63 [some (.ref 102), d1, some (.int r0), d3] [] M L R) → goA E X G 0 0 Q 23 [some (.ref 102), some (.int v1), some (.int v2), some (.int v3)] [] M L R := by
  intro n
  induction n with
  | zero => intro v2 v3 r0 h; exact nomatch h
  | succ n ih =>
    intro v2 v3 r0 h kx
    rw [lX14_near_23] at h
    refine go_iload3 hc dX14_near_23 ?_
    refine go_aload0 hc dX14_near_24 ?_
    replace h := goBind h; obtain ⟨b16, e17, h⟩ := h
    refine go_getR hc lk_RX14_442 dX14_near_25 (sh_102 hW) e17 ?_
    refine go_getI hc lk_RX14_241 dX14_near_28 (shM_0 (goW_M3 hW e17)) ?_
    refine go_icmp_ge hc 63 dX14_near_31 rfl (fun c18 => ?_) (fun c18 => ?_)
    · replace h := goIfF h c18
      cases h
      exact kx _ _
    · replace h := goIfT h c18
      refine go_iload2 hc dX14_near_34 ?_
      refine go_aload0 hc dX14_near_35 ?_
      replace h := goBind h; obtain ⟨b19, e20, h⟩ := h
      refine go_getR hc lk_RX14_442 dX14_near_36 (sh_102 hW) e20 ?_
      refine go_iload1 hc dX14_near_39 ?_
      refine go_iload3 hc dX14_near_40 ?_
      replace h := goBind h; obtain ⟨x21, e22, h⟩ := h
      refine go_callVi hc dX14_near_41 (mX13_path hk hW (goW_M3 hW e20) e22) ml_RX14_312 yk_X13_path ⟨wim_X13_path, wse_X13_path⟩ hR rfl (shM_0 (goW_M3 hW e20)) rfl rfl rfl (Nat.le_of_ble_eq_true rfl) rfl ?_
      refine go_iconst (v := (-1)) hc dX14_near_44 rfl ?_
      replace h := goNm_y h; obtain ⟨x23, e24, h⟩ := h
      have k25 : ∀ (d2 : Option Value), goA E X G 0 0 Q 55 [some (.ref 102), some (.int v1), d2, some (.int v3)] [.int x23, .int v2] M L R := by
        intro d2
        refine go_ior hc dX14_near_55 ?_
        replace h := goNm_x h; obtain ⟨x27, e28, h⟩ := h
        refine go_nmI e28 ?_
        refine go_istore2 hc dX14_near_56 ?_
        refine go_iinc3 (v := (v3 + 1)) hc dX14_near_57 rfl ?_
        refine go_goto hc 23 dX14_near_60 rfl ?_
        exact ih _ _ _ h kx
      refine go_icmp_eq hc 54 dX14_near_45 rfl (fun c26 => ?_) (fun c26 => ?_)
      · replace e24 := goIfT e24 c26
        refine go_iconst (v := 0) hc dX14_near_54 rfl ?_
        subst e24
        exact k25 _
      · replace e24 := goIfF e24 c26
        refine go_iconst (v := 1) hc dX14_near_48 rfl ?_
        refine go_iload3 hc dX14_near_49 ?_
        refine go_ishl hc dX14_near_50 ?_
        refine go_goto hc 55 dX14_near_51 rfl ?_
        subst e24
        exact k25 _
set_option maxRecDepth 100000 in
set_option maxHeartbeats 4000000 in
theorem mX14_near {E : goEv} {l : Launch} {G : goG} {N : Nat} {M : goMI} {L : goML} {R : goMR} {v1 : Int32} {r0 : Int32} {r1 : goMI} (hk : goKn E) (hW : goW G R) (h : fX14_near N M R v1 = some (r0, r1)) : Met l yX14_near (goCd yX14_near cX14_near 4 (Option.some FieldType.int)) (goRoom 1 23 0 0) (goPre E [.ref 102, .int v1] G M L R) (goQi E r0 G r1 L R) 0 0 (goSet E) := by
  refine goMet pl_RX14 hk (lv := [some (.ref 102), some (.int v1), none, none]) rfl (Nat.le_of_ble_eq_true rfl) ?_
  intro X hc hl hR hr hnm
  subst hl
  unfold fX14_near at h
  refine go_aload0 hc dX14_near_0 ?_
  refine go_iconst (v := 0) hc dX14_near_1 rfl ?_
  replace h := goNm_x h; obtain ⟨M11, e12, h⟩ := h
  refine go_ptI hc lk_RX14_66 dX14_near_2 (sh_102 hW) e12 ?_
  refine go_aload0 hc dX14_near_5 ?_
  refine go_iload1 hc dX14_near_6 ?_
  replace h := goBind h; obtain ⟨x13, e14, h⟩ := h
  refine go_callVi hc dX14_near_7 (mX14_isPlace hk hW e14) ml_RX14_491 yk_X14_isPlace ⟨wim_X14_isPlace, wse_X14_isPlace⟩ hR rfl (sh_102 hW) rfl rfl rfl (Nat.le_of_ble_eq_true rfl) rfl ?_
  refine go_if_ne hc 19 dX14_near_10 rfl (fun c15 => ?_) (fun c15 => ?_)
  · replace h := goIfF h c15
    refine go_iconst (v := 0) hc dX14_near_19 rfl ?_
    refine go_istore2 hc dX14_near_20 ?_
    refine go_iconst (v := 0) hc dX14_near_21 rfl ?_
    refine go_istore3 hc dX14_near_22 ?_
    replace h := goBind h; obtain ⟨x30, e29, h⟩ := h
    refine mX14_near_L23 hc hk hR hr hW _ _ _ _ e29 (fun d1 d3 => ?_)
    refine go_aload0 hc dX14_near_63 ?_
    refine go_iload2 hc dX14_near_64 ?_
    replace h := goB2_h h; obtain ⟨x31, M32, e33, h⟩ := h
    refine go_callVi hc dX14_near_65 (mX14_good hk hW e33) ml_RX14_76 yk_X14_good ⟨wim_X14_good, wse_X14_good⟩ hR rfl (sh_102 hW) rfl rfl rfl (Nat.le_of_ble_eq_true rfl) rfl ?_
    cases h
    exact go_iret hc dX14_near_68 hr
  · replace h := goIfT h c15
    refine go_aload0 hc dX14_near_13 ?_
    refine go_iconst (v := 1) hc dX14_near_14 rfl ?_
    replace h := goB2_h h; obtain ⟨x34, M35, e36, h⟩ := h
    refine go_callVi hc dX14_near_15 (mX14_refused hk hW e36) ml_RX14_72 yk_X14_refused ⟨wim_X14_refused, wse_X14_refused⟩ hR rfl (sh_102 hW) rfl rfl rfl (Nat.le_of_ble_eq_true rfl) rfl ?_
    cases h
    exact go_iret hc dX14_near_18 hr
theorem dX14_goat_0 : decode cX14_goat 0 = .ok (.aload_n 0, 1) := by decide +kernel
theorem dX14_goat_1 : decode cX14_goat 1 = .ok (.iconst 0, 1) := by decide +kernel
theorem dX14_goat_2 : decode cX14_goat 2 = .ok (.putfield 66, 3) := by decide +kernel
theorem dX14_goat_5 : decode cX14_goat 5 = .ok (.aload_n 0, 1) := by decide +kernel
theorem dX14_goat_6 : decode cX14_goat 6 = .ok (.iload_n 1, 1) := by decide +kernel
theorem dX14_goat_7 : decode cX14_goat 7 = .ok (.invokevirtual 497, 3) := by decide +kernel
theorem dX14_goat_10 : decode cX14_goat 10 = .ok (.ifCond .eq 13, 3) := by decide +kernel
theorem dX14_goat_13 : decode cX14_goat 13 = .ok (.iload_n 2, 1) := by decide +kernel
theorem dX14_goat_14 : decode cX14_goat 14 = .ok (.iconst 0, 1) := by decide +kernel
theorem dX14_goat_15 : decode cX14_goat 15 = .ok (.bipush 6, 2) := by decide +kernel
theorem dX14_goat_17 : decode cX14_goat 17 = .ok (.invokestatic 147, 3) := by decide +kernel
theorem dX14_goat_20 : decode cX14_goat 20 = .ok (.ifCond .ne 9, 3) := by decide +kernel
theorem dX14_goat_23 : decode cX14_goat 23 = .ok (.aload_n 0, 1) := by decide +kernel
theorem dX14_goat_24 : decode cX14_goat 24 = .ok (.iconst 1, 1) := by decide +kernel
theorem dX14_goat_25 : decode cX14_goat 25 = .ok (.invokevirtual 72, 3) := by decide +kernel
theorem dX14_goat_28 : decode cX14_goat 28 = .ok (.ireturn, 1) := by decide +kernel
theorem dX14_goat_29 : decode cX14_goat 29 = .ok (.iconst 0, 1) := by decide +kernel
theorem dX14_goat_30 : decode cX14_goat 30 = .ok (.istore_n 3, 1) := by decide +kernel
theorem dX14_goat_31 : decode cX14_goat 31 = .ok (.iconst 0, 1) := by decide +kernel
theorem dX14_goat_32 : decode cX14_goat 32 = .ok (.istore 4, 2) := by decide +kernel
theorem dX14_goat_34 : decode cX14_goat 34 = .ok (.iload 4, 2) := by decide +kernel
theorem dX14_goat_36 : decode cX14_goat 36 = .ok (.aload_n 0, 1) := by decide +kernel
theorem dX14_goat_37 : decode cX14_goat 37 = .ok (.getfield 442, 3) := by decide +kernel
theorem dX14_goat_40 : decode cX14_goat 40 = .ok (.getfield 370, 3) := by decide +kernel
theorem dX14_goat_43 : decode cX14_goat 43 = .ok (.if_icmp .ge 31, 3) := by decide +kernel
theorem dX14_goat_46 : decode cX14_goat 46 = .ok (.iload_n 3, 1) := by decide +kernel
theorem dX14_goat_47 : decode cX14_goat 47 = .ok (.aload_n 0, 1) := by decide +kernel
theorem dX14_goat_48 : decode cX14_goat 48 = .ok (.getfield 442, 3) := by decide +kernel
theorem dX14_goat_51 : decode cX14_goat 51 = .ok (.getfield 379, 3) := by decide +kernel
theorem dX14_goat_54 : decode cX14_goat 54 = .ok (.iload 4, 2) := by decide +kernel
theorem dX14_goat_56 : decode cX14_goat 56 = .ok (.iaload, 1) := by decide +kernel
theorem dX14_goat_57 : decode cX14_goat 57 = .ok (.iload_n 1, 1) := by decide +kernel
theorem dX14_goat_58 : decode cX14_goat 58 = .ok (.if_icmp .ne 7, 3) := by decide +kernel
theorem dX14_goat_61 : decode cX14_goat 61 = .ok (.iconst 1, 1) := by decide +kernel
theorem dX14_goat_62 : decode cX14_goat 62 = .ok (.goto 4, 3) := by decide +kernel
theorem dX14_goat_65 : decode cX14_goat 65 = .ok (.iconst 0, 1) := by decide +kernel
theorem dX14_goat_66 : decode cX14_goat 66 = .ok (.iadd, 1) := by decide +kernel
theorem dX14_goat_67 : decode cX14_goat 67 = .ok (.istore_n 3, 1) := by decide +kernel
theorem dX14_goat_68 : decode cX14_goat 68 = .ok (.iinc 4 1, 3) := by decide +kernel
theorem dX14_goat_71 : decode cX14_goat 71 = .ok (.goto (-37), 3) := by decide +kernel
theorem dX14_goat_74 : decode cX14_goat 74 = .ok (.iload_n 2, 1) := by decide +kernel
theorem dX14_goat_75 : decode cX14_goat 75 = .ok (.tableswitch 113 0 5 #[37, 51, 65, 79, 93, 107], 37) := by decide +kernel
theorem dX14_goat_112 : decode cX14_goat 112 = .ok (.aload_n 0, 1) := by decide +kernel
theorem dX14_goat_113 : decode cX14_goat 113 = .ok (.aload_n 0, 1) := by decide +kernel
theorem dX14_goat_114 : decode cX14_goat 114 = .ok (.getfield 442, 3) := by decide +kernel
theorem dX14_goat_117 : decode cX14_goat 117 = .ok (.getfield 347, 3) := by decide +kernel
theorem dX14_goat_120 : decode cX14_goat 120 = .ok (.iload_n 1, 1) := by decide +kernel
theorem dX14_goat_121 : decode cX14_goat 121 = .ok (.iaload, 1) := by decide +kernel
theorem dX14_goat_122 : decode cX14_goat 122 = .ok (.invokevirtual 76, 3) := by decide +kernel
theorem dX14_goat_125 : decode cX14_goat 125 = .ok (.ireturn, 1) := by decide +kernel
theorem dX14_goat_126 : decode cX14_goat 126 = .ok (.aload_n 0, 1) := by decide +kernel
theorem dX14_goat_127 : decode cX14_goat 127 = .ok (.aload_n 0, 1) := by decide +kernel
theorem dX14_goat_128 : decode cX14_goat 128 = .ok (.getfield 442, 3) := by decide +kernel
theorem dX14_goat_131 : decode cX14_goat 131 = .ok (.getfield 350, 3) := by decide +kernel
theorem dX14_goat_134 : decode cX14_goat 134 = .ok (.iload_n 1, 1) := by decide +kernel
theorem dX14_goat_135 : decode cX14_goat 135 = .ok (.iaload, 1) := by decide +kernel
theorem dX14_goat_136 : decode cX14_goat 136 = .ok (.invokevirtual 76, 3) := by decide +kernel
theorem dX14_goat_139 : decode cX14_goat 139 = .ok (.ireturn, 1) := by decide +kernel
theorem dX14_goat_140 : decode cX14_goat 140 = .ok (.aload_n 0, 1) := by decide +kernel
theorem dX14_goat_141 : decode cX14_goat 141 = .ok (.aload_n 0, 1) := by decide +kernel
theorem dX14_goat_142 : decode cX14_goat 142 = .ok (.getfield 442, 3) := by decide +kernel
theorem dX14_goat_145 : decode cX14_goat 145 = .ok (.getfield 356, 3) := by decide +kernel
theorem dX14_goat_148 : decode cX14_goat 148 = .ok (.iload_n 1, 1) := by decide +kernel
theorem dX14_goat_149 : decode cX14_goat 149 = .ok (.iaload, 1) := by decide +kernel
theorem dX14_goat_150 : decode cX14_goat 150 = .ok (.invokevirtual 76, 3) := by decide +kernel
theorem dX14_goat_153 : decode cX14_goat 153 = .ok (.ireturn, 1) := by decide +kernel
theorem dX14_goat_154 : decode cX14_goat 154 = .ok (.aload_n 0, 1) := by decide +kernel
theorem dX14_goat_155 : decode cX14_goat 155 = .ok (.aload_n 0, 1) := by decide +kernel
theorem dX14_goat_156 : decode cX14_goat 156 = .ok (.getfield 442, 3) := by decide +kernel
theorem dX14_goat_159 : decode cX14_goat 159 = .ok (.getfield 359, 3) := by decide +kernel
theorem dX14_goat_162 : decode cX14_goat 162 = .ok (.iload_n 1, 1) := by decide +kernel
theorem dX14_goat_163 : decode cX14_goat 163 = .ok (.iaload, 1) := by decide +kernel
theorem dX14_goat_164 : decode cX14_goat 164 = .ok (.invokevirtual 76, 3) := by decide +kernel
theorem dX14_goat_167 : decode cX14_goat 167 = .ok (.ireturn, 1) := by decide +kernel
theorem dX14_goat_168 : decode cX14_goat 168 = .ok (.aload_n 0, 1) := by decide +kernel
theorem dX14_goat_169 : decode cX14_goat 169 = .ok (.aload_n 0, 1) := by decide +kernel
theorem dX14_goat_170 : decode cX14_goat 170 = .ok (.getfield 442, 3) := by decide +kernel
theorem dX14_goat_173 : decode cX14_goat 173 = .ok (.getfield 363, 3) := by decide +kernel
theorem dX14_goat_176 : decode cX14_goat 176 = .ok (.iload_n 1, 1) := by decide +kernel
theorem dX14_goat_177 : decode cX14_goat 177 = .ok (.iaload, 1) := by decide +kernel
theorem dX14_goat_178 : decode cX14_goat 178 = .ok (.invokevirtual 76, 3) := by decide +kernel
theorem dX14_goat_181 : decode cX14_goat 181 = .ok (.ireturn, 1) := by decide +kernel
theorem dX14_goat_182 : decode cX14_goat 182 = .ok (.aload_n 0, 1) := by decide +kernel
theorem dX14_goat_183 : decode cX14_goat 183 = .ok (.iload_n 3, 1) := by decide +kernel
theorem dX14_goat_184 : decode cX14_goat 184 = .ok (.invokevirtual 76, 3) := by decide +kernel
theorem dX14_goat_187 : decode cX14_goat 187 = .ok (.ireturn, 1) := by decide +kernel
theorem dX14_goat_188 : decode cX14_goat 188 = .ok (.aload_n 0, 1) := by decide +kernel
theorem dX14_goat_189 : decode cX14_goat 189 = .ok (.aload_n 0, 1) := by decide +kernel
theorem dX14_goat_190 : decode cX14_goat 190 = .ok (.iload_n 1, 1) := by decide +kernel
theorem dX14_goat_191 : decode cX14_goat 191 = .ok (.invokevirtual 500, 3) := by decide +kernel
theorem dX14_goat_194 : decode cX14_goat 194 = .ok (.ifCond .eq 7, 3) := by decide +kernel
theorem dX14_goat_197 : decode cX14_goat 197 = .ok (.iconst 1, 1) := by decide +kernel
theorem dX14_goat_198 : decode cX14_goat 198 = .ok (.goto 4, 3) := by decide +kernel
theorem dX14_goat_201 : decode cX14_goat 201 = .ok (.iconst 0, 1) := by decide +kernel
theorem dX14_goat_202 : decode cX14_goat 202 = .ok (.invokevirtual 76, 3) := by decide +kernel
theorem dX14_goat_205 : decode cX14_goat 205 = .ok (.ireturn, 1) := by decide +kernel
set_option maxRecDepth 100000 in
set_option maxHeartbeats 4000000 in
theorem mX14_goat_L34 {E : goEv} {X : goX} {G : goG} {Q : State → Prop} {M : goMI} {L : goML} {R : goMR} {v1 : Int32} {v2 : Int32} (hc : goCx E X cX14_goat RX14 5) (hk : goKn E) (hR : X.2.2.2.1 = goRoom 2 42 0 0) (hr : X.2.2.2.2.2.2.2.2.1.sig.returnType = (Option.some FieldType.int)) (hW : goW G R) : ∀ (n : Nat) (v3 : Int32) (v4 : Int32) (r0 : Int32), lX14_goat_34 v1 M R n v3 v4 = some r0 → (∀ (d4 : Option Value), goA E X G 0 0 Q 74 [some (.ref 102), some (.int v1), some (.int v2), some (.int r0), d4] [] M L R) → goA E X G 0 0 Q 34 [some (.ref 102), some (.int v1), some (.int v2), some (.int v3), some (.int v4)] [] M L R := by
  intro n
  induction n with
  | zero => intro v3 v4 r0 h; exact nomatch h
  | succ n ih =>
    intro v3 v4 r0 h kx
    rw [lX14_goat_34] at h
    refine go_iload4 hc dX14_goat_34 ?_
    refine go_aload0 hc dX14_goat_36 ?_
    replace h := goBind h; obtain ⟨b20, e21, h⟩ := h
    refine go_getR hc lk_RX14_442 dX14_goat_37 (sh_102 hW) e21 ?_
    refine go_getI hc lk_RX14_370 dX14_goat_40 (shM_0 (goW_M3 hW e21)) ?_
    refine go_icmp_ge hc 74 dX14_goat_43 rfl (fun c22 => ?_) (fun c22 => ?_)
    · replace h := goIfF h c22
      cases h
      exact kx _
    · replace h := goIfT h c22
      refine go_iload3 hc dX14_goat_46 ?_
      refine go_aload0 hc dX14_goat_47 ?_
      replace h := goBind h; obtain ⟨b23, e24, h⟩ := h
      refine go_getR hc lk_RX14_442 dX14_goat_48 (sh_102 hW) e24 ?_
      refine go_getR hc lk_RX14_379 dX14_goat_51 (shM_0 (goW_M3 hW e24)) (rfM_29 (goW_M3 hW e24)) ?_
      refine go_iload4 hc dX14_goat_54 ?_
      replace h := goBind h; obtain ⟨x25, e26, h⟩ := h
      refine go_iald hc dX14_goat_56 (shM_14 (goW_M3 hW e24)) e26 ?_
      refine go_iload1 hc dX14_goat_57 ?_
      replace h := goNm_y h; obtain ⟨x27, e28, h⟩ := h
      have k29 : ∀ (d3 : Option Value), goA E X G 0 0 Q 66 [some (.ref 102), some (.int v1), some (.int v2), d3, some (.int v4)] [.int x27, .int v3] M L R := by
        intro d3
        refine go_iadd hc dX14_goat_66 ?_
        replace h := goNm_x h; obtain ⟨x31, e32, h⟩ := h
        refine go_nmI e32 ?_
        refine go_istore3 hc dX14_goat_67 ?_
        refine go_iinc4 (v := (v4 + 1)) hc dX14_goat_68 rfl ?_
        refine go_goto hc 34 dX14_goat_71 rfl ?_
        exact ih _ _ _ h kx
      refine go_icmp_ne hc 65 dX14_goat_58 rfl (fun c30 => ?_) (fun c30 => ?_)
      · replace e28 := goIfF e28 c30
        refine go_iconst (v := 0) hc dX14_goat_65 rfl ?_
        subst e28
        exact k29 _
      · replace e28 := goIfT e28 c30
        refine go_iconst (v := 1) hc dX14_goat_61 rfl ?_
        refine go_goto hc 66 dX14_goat_62 rfl ?_
        subst e28
        exact k29 _
set_option maxRecDepth 100000 in
set_option maxHeartbeats 4000000 in
theorem mX14_goat {E : goEv} {l : Launch} {G : goG} {N : Nat} {M : goMI} {L : goML} {R : goMR} {v1 : Int32} {v2 : Int32} {r0 : Int32} {r1 : goMI} (hk : goKn E) (hW : goW G R) (h : fX14_goat N M R v1 v2 = some (r0, r1)) : Met l yX14_goat (goCd yX14_goat cX14_goat 5 (Option.some FieldType.int)) (goRoom 2 42 0 0) (goPre E [.ref 102, .int v1, .int v2] G M L R) (goQi E r0 G r1 L R) 0 0 (goSet E) := by
  refine goMet pl_RX14 hk (lv := [some (.ref 102), some (.int v1), some (.int v2), none, none]) rfl (Nat.le_of_ble_eq_true rfl) ?_
  intro X hc hl hR hr hnm
  subst hl
  unfold fX14_goat at h
  refine go_aload0 hc dX14_goat_0 ?_
  refine go_iconst (v := 0) hc dX14_goat_1 rfl ?_
  replace h := goNm_x h; obtain ⟨M11, e12, h⟩ := h
  refine go_ptI hc lk_RX14_66 dX14_goat_2 (sh_102 hW) e12 ?_
  refine go_aload0 hc dX14_goat_5 ?_
  refine go_iload1 hc dX14_goat_6 ?_
  replace h := goBind h; obtain ⟨x13, e14, h⟩ := h
  refine go_callVi hc dX14_goat_7 (mX14_isGoat hk hW e14) ml_RX14_497 yk_X14_isGoat ⟨wim_X14_isGoat, wse_X14_isGoat⟩ hR rfl (sh_102 hW) rfl rfl rfl (Nat.le_of_ble_eq_true rfl) rfl ?_
  refine go_if_eq hc 23 dX14_goat_10 rfl (fun c15 => ?_) (fun c15 => ?_)
  · replace h := goIfT h c15
    refine go_aload0 hc dX14_goat_23 ?_
    refine go_iconst (v := 1) hc dX14_goat_24 rfl ?_
    replace h := goB2_h h; obtain ⟨x16, M17, e18, h⟩ := h
    refine go_callVi hc dX14_goat_25 (mX14_refused hk hW e18) ml_RX14_72 yk_X14_refused ⟨wim_X14_refused, wse_X14_refused⟩ hR rfl (sh_102 hW) rfl rfl rfl (Nat.le_of_ble_eq_true rfl) rfl ?_
    cases h
    exact go_iret hc dX14_goat_28 hr
  · replace h := goIfF h c15
    refine go_iload2 hc dX14_goat_13 ?_
    refine go_iconst (v := 0) hc dX14_goat_14 rfl ?_
    refine go_bipush (v := 6) hc dX14_goat_15 rfl ?_
    refine go_callSi hc dX14_goat_17 (mX14_within hk hW rfl) ml_RX14_147 yk_X14_within wst_X14_within hR rfl rfl rfl (Nat.le_of_ble_eq_true rfl) rfl ?_
    refine go_if_ne hc 29 dX14_goat_20 rfl (fun c19 => ?_) (fun c19 => ?_)
    · replace h := goIfF h c19
      refine go_iconst (v := 0) hc dX14_goat_29 rfl ?_
      refine go_istore3 hc dX14_goat_30 ?_
      refine go_iconst (v := 0) hc dX14_goat_31 rfl ?_
      refine go_istore4 hc dX14_goat_32 ?_
      replace h := goBind h; obtain ⟨x34, e33, h⟩ := h
      refine mX14_goat_L34 hc hk hR hr hW _ _ _ _ e33 (fun d4 => ?_)
      refine go_iload2 hc dX14_goat_74 ?_
      by_cases c36 : v2 = 0
      · replace h := goIfT h c36
        refine go_tabIn hc 112 dX14_goat_75 (v := 0) c36 (by decide) (by decide) rfl rfl ?_
        refine go_aload0 hc dX14_goat_112 ?_
        refine go_aload0 hc dX14_goat_113 ?_
        replace h := goBind h; obtain ⟨b37, e38, h⟩ := h
        refine go_getR hc lk_RX14_442 dX14_goat_114 (sh_102 hW) e38 ?_
        refine go_getR hc lk_RX14_347 dX14_goat_117 (shM_0 (goW_M3 hW e38)) (rfM_21 (goW_M3 hW e38)) ?_
        refine go_iload1 hc dX14_goat_120 ?_
        replace h := goBind h; obtain ⟨x39, e40, h⟩ := h
        refine go_iald hc dX14_goat_121 (shM_6 (goW_M3 hW e38)) e40 ?_
        replace h := goB2_h h; obtain ⟨x41, M42, e43, h⟩ := h
        refine go_callVi hc dX14_goat_122 (mX14_good hk hW e43) ml_RX14_76 yk_X14_good ⟨wim_X14_good, wse_X14_good⟩ hR rfl (sh_102 hW) rfl rfl rfl (Nat.le_of_ble_eq_true rfl) rfl ?_
        cases h
        exact go_iret hc dX14_goat_125 hr
      · replace h := goIfF h c36
        by_cases c44 : v2 = 1
        · replace h := goIfT h c44
          refine go_tabIn hc 126 dX14_goat_75 (v := 1) c44 (by decide) (by decide) rfl rfl ?_
          refine go_aload0 hc dX14_goat_126 ?_
          refine go_aload0 hc dX14_goat_127 ?_
          replace h := goBind h; obtain ⟨b45, e46, h⟩ := h
          refine go_getR hc lk_RX14_442 dX14_goat_128 (sh_102 hW) e46 ?_
          refine go_getR hc lk_RX14_350 dX14_goat_131 (shM_0 (goW_M3 hW e46)) (rfM_22 (goW_M3 hW e46)) ?_
          refine go_iload1 hc dX14_goat_134 ?_
          replace h := goBind h; obtain ⟨x47, e48, h⟩ := h
          refine go_iald hc dX14_goat_135 (shM_7 (goW_M3 hW e46)) e48 ?_
          replace h := goB2_h h; obtain ⟨x49, M50, e51, h⟩ := h
          refine go_callVi hc dX14_goat_136 (mX14_good hk hW e51) ml_RX14_76 yk_X14_good ⟨wim_X14_good, wse_X14_good⟩ hR rfl (sh_102 hW) rfl rfl rfl (Nat.le_of_ble_eq_true rfl) rfl ?_
          cases h
          exact go_iret hc dX14_goat_139 hr
        · replace h := goIfF h c44
          by_cases c52 : v2 = 2
          · replace h := goIfT h c52
            refine go_tabIn hc 140 dX14_goat_75 (v := 2) c52 (by decide) (by decide) rfl rfl ?_
            refine go_aload0 hc dX14_goat_140 ?_
            refine go_aload0 hc dX14_goat_141 ?_
            replace h := goBind h; obtain ⟨b53, e54, h⟩ := h
            refine go_getR hc lk_RX14_442 dX14_goat_142 (sh_102 hW) e54 ?_
            refine go_getR hc lk_RX14_356 dX14_goat_145 (shM_0 (goW_M3 hW e54)) (rfM_25 (goW_M3 hW e54)) ?_
            refine go_iload1 hc dX14_goat_148 ?_
            replace h := goBind h; obtain ⟨x55, e56, h⟩ := h
            refine go_iald hc dX14_goat_149 (shM_10 (goW_M3 hW e54)) e56 ?_
            replace h := goB2_h h; obtain ⟨x57, M58, e59, h⟩ := h
            refine go_callVi hc dX14_goat_150 (mX14_good hk hW e59) ml_RX14_76 yk_X14_good ⟨wim_X14_good, wse_X14_good⟩ hR rfl (sh_102 hW) rfl rfl rfl (Nat.le_of_ble_eq_true rfl) rfl ?_
            cases h
            exact go_iret hc dX14_goat_153 hr
          · replace h := goIfF h c52
            by_cases c60 : v2 = 3
            · replace h := goIfT h c60
              refine go_tabIn hc 154 dX14_goat_75 (v := 3) c60 (by decide) (by decide) rfl rfl ?_
              refine go_aload0 hc dX14_goat_154 ?_
              refine go_aload0 hc dX14_goat_155 ?_
              replace h := goBind h; obtain ⟨b61, e62, h⟩ := h
              refine go_getR hc lk_RX14_442 dX14_goat_156 (sh_102 hW) e62 ?_
              refine go_getR hc lk_RX14_359 dX14_goat_159 (shM_0 (goW_M3 hW e62)) (rfM_26 (goW_M3 hW e62)) ?_
              refine go_iload1 hc dX14_goat_162 ?_
              replace h := goBind h; obtain ⟨x63, e64, h⟩ := h
              refine go_iald hc dX14_goat_163 (shM_11 (goW_M3 hW e62)) e64 ?_
              replace h := goB2_h h; obtain ⟨x65, M66, e67, h⟩ := h
              refine go_callVi hc dX14_goat_164 (mX14_good hk hW e67) ml_RX14_76 yk_X14_good ⟨wim_X14_good, wse_X14_good⟩ hR rfl (sh_102 hW) rfl rfl rfl (Nat.le_of_ble_eq_true rfl) rfl ?_
              cases h
              exact go_iret hc dX14_goat_167 hr
            · replace h := goIfF h c60
              by_cases c68 : v2 = 4
              · replace h := goIfT h c68
                refine go_tabIn hc 168 dX14_goat_75 (v := 4) c68 (by decide) (by decide) rfl rfl ?_
                refine go_aload0 hc dX14_goat_168 ?_
                refine go_aload0 hc dX14_goat_169 ?_
                replace h := goBind h; obtain ⟨b69, e70, h⟩ := h
                refine go_getR hc lk_RX14_442 dX14_goat_170 (sh_102 hW) e70 ?_
                refine go_getR hc lk_RX14_363 dX14_goat_173 (shM_0 (goW_M3 hW e70)) (rfM_27 (goW_M3 hW e70)) ?_
                refine go_iload1 hc dX14_goat_176 ?_
                replace h := goBind h; obtain ⟨x71, e72, h⟩ := h
                refine go_iald hc dX14_goat_177 (shM_12 (goW_M3 hW e70)) e72 ?_
                replace h := goB2_h h; obtain ⟨x73, M74, e75, h⟩ := h
                refine go_callVi hc dX14_goat_178 (mX14_good hk hW e75) ml_RX14_76 yk_X14_good ⟨wim_X14_good, wse_X14_good⟩ hR rfl (sh_102 hW) rfl rfl rfl (Nat.le_of_ble_eq_true rfl) rfl ?_
                cases h
                exact go_iret hc dX14_goat_181 hr
              · replace h := goIfF h c68
                by_cases c76 : v2 = 5
                · replace h := goIfT h c76
                  refine go_tabIn hc 182 dX14_goat_75 (v := 5) c76 (by decide) (by decide) rfl rfl ?_
                  refine go_aload0 hc dX14_goat_182 ?_
                  refine go_iload3 hc dX14_goat_183 ?_
                  replace h := goB2_h h; obtain ⟨x77, M78, e79, h⟩ := h
                  refine go_callVi hc dX14_goat_184 (mX14_good hk hW e79) ml_RX14_76 yk_X14_good ⟨wim_X14_good, wse_X14_good⟩ hR rfl (sh_102 hW) rfl rfl rfl (Nat.le_of_ble_eq_true rfl) rfl ?_
                  cases h
                  exact go_iret hc dX14_goat_187 hr
                · replace h := goIfF h c76
                  refine go_tabOut hc 188 dX14_goat_75 (goTo6 c36 c44 c52 c60 c68 c76) rfl ?_
                  refine go_aload0 hc dX14_goat_188 ?_
                  refine go_aload0 hc dX14_goat_189 ?_
                  refine go_iload1 hc dX14_goat_190 ?_
                  replace h := goBind h; obtain ⟨x80, e81, h⟩ := h
                  refine go_callVi hc dX14_goat_191 (mX14_isHeard hk hW e81) ml_RX14_500 yk_X14_isHeard ⟨wim_X14_isHeard, wse_X14_isHeard⟩ hR rfl (sh_102 hW) rfl rfl rfl (Nat.le_of_ble_eq_true rfl) rfl ?_
                  replace h := goNm_y h; obtain ⟨x82, e83, h⟩ := h
                  have k84 : ∀ (d0 d1 d2 d3 d4 : Option Value), goA E X G 0 0 (goMQ X E (goQi E r0 G r1 L R) 0 0) 202 [d0, d1, d2, d3, d4] [.int x82, .ref 102] M11 L R := by
                    intro d0 d1 d2 d3 d4
                    replace h := goB2_h h; obtain ⟨x86, M87, e88, h⟩ := h
                    refine go_callVi hc dX14_goat_202 (mX14_good hk hW e88) ml_RX14_76 yk_X14_good ⟨wim_X14_good, wse_X14_good⟩ hR rfl (sh_102 hW) rfl rfl rfl (Nat.le_of_ble_eq_true rfl) rfl ?_
                    cases h
                    exact go_iret hc dX14_goat_205 hr
                  refine go_if_eq hc 201 dX14_goat_194 rfl (fun c85 => ?_) (fun c85 => ?_)
                  · replace e83 := goIfT e83 c85
                    refine go_iconst (v := 0) hc dX14_goat_201 rfl ?_
                    subst e83
                    exact k84 _ _ _ _ _
                  · replace e83 := goIfF e83 c85
                    refine go_iconst (v := 1) hc dX14_goat_197 rfl ?_
                    refine go_goto hc 202 dX14_goat_198 rfl ?_
                    subst e83
                    exact k84 _ _ _ _ _
    · replace h := goIfT h c19
      refine go_aload0 hc dX14_goat_23 ?_
      refine go_iconst (v := 1) hc dX14_goat_24 rfl ?_
      replace h := goB2_h h; obtain ⟨x89, M90, e91, h⟩ := h
      refine go_callVi hc dX14_goat_25 (mX14_refused hk hW e91) ml_RX14_72 yk_X14_refused ⟨wim_X14_refused, wse_X14_refused⟩ hR rfl (sh_102 hW) rfl rfl rfl (Nat.le_of_ble_eq_true rfl) rfl ?_
      cases h
      exact go_iret hc dX14_goat_28 hr
theorem dX14_likes_0 : decode cX14_likes 0 = .ok (.aload_n 0, 1) := by decide +kernel
theorem dX14_likes_1 : decode cX14_likes 1 = .ok (.iconst 0, 1) := by decide +kernel
theorem dX14_likes_2 : decode cX14_likes 2 = .ok (.putfield 66, 3) := by decide +kernel
theorem dX14_likes_5 : decode cX14_likes 5 = .ok (.aload_n 0, 1) := by decide +kernel
theorem dX14_likes_6 : decode cX14_likes 6 = .ok (.iload_n 1, 1) := by decide +kernel
theorem dX14_likes_7 : decode cX14_likes 7 = .ok (.invokevirtual 497, 3) := by decide +kernel
theorem dX14_likes_10 : decode cX14_likes 10 = .ok (.ifCond .eq 40, 3) := by decide +kernel
theorem dX14_likes_13 : decode cX14_likes 13 = .ok (.iload_n 2, 1) := by decide +kernel
theorem dX14_likes_14 : decode cX14_likes 14 = .ok (.ifCond .lt 36, 3) := by decide +kernel
theorem dX14_likes_17 : decode cX14_likes 17 = .ok (.iload_n 2, 1) := by decide +kernel
theorem dX14_likes_18 : decode cX14_likes 18 = .ok (.aload_n 0, 1) := by decide +kernel
theorem dX14_likes_19 : decode cX14_likes 19 = .ok (.getfield 442, 3) := by decide +kernel
theorem dX14_likes_22 : decode cX14_likes 22 = .ok (.getfield 353, 3) := by decide +kernel
theorem dX14_likes_25 : decode cX14_likes 25 = .ok (.iload_n 1, 1) := by decide +kernel
theorem dX14_likes_26 : decode cX14_likes 26 = .ok (.iaload, 1) := by decide +kernel
theorem dX14_likes_27 : decode cX14_likes 27 = .ok (.if_icmp .ge 23, 3) := by decide +kernel
theorem dX14_likes_30 : decode cX14_likes 30 = .ok (.aload_n 0, 1) := by decide +kernel
theorem dX14_likes_31 : decode cX14_likes 31 = .ok (.aload_n 0, 1) := by decide +kernel
theorem dX14_likes_32 : decode cX14_likes 32 = .ok (.getfield 442, 3) := by decide +kernel
theorem dX14_likes_35 : decode cX14_likes 35 = .ok (.getfield 341, 3) := by decide +kernel
theorem dX14_likes_38 : decode cX14_likes 38 = .ok (.iconst 4, 1) := by decide +kernel
theorem dX14_likes_39 : decode cX14_likes 39 = .ok (.iload_n 1, 1) := by decide +kernel
theorem dX14_likes_40 : decode cX14_likes 40 = .ok (.imul, 1) := by decide +kernel
theorem dX14_likes_41 : decode cX14_likes 41 = .ok (.iload_n 2, 1) := by decide +kernel
theorem dX14_likes_42 : decode cX14_likes 42 = .ok (.iadd, 1) := by decide +kernel
theorem dX14_likes_43 : decode cX14_likes 43 = .ok (.iaload, 1) := by decide +kernel
theorem dX14_likes_44 : decode cX14_likes 44 = .ok (.invokevirtual 76, 3) := by decide +kernel
theorem dX14_likes_47 : decode cX14_likes 47 = .ok (.goto 8, 3) := by decide +kernel
theorem dX14_likes_50 : decode cX14_likes 50 = .ok (.aload_n 0, 1) := by decide +kernel
theorem dX14_likes_51 : decode cX14_likes 51 = .ok (.iconst 1, 1) := by decide +kernel
theorem dX14_likes_52 : decode cX14_likes 52 = .ok (.invokevirtual 72, 3) := by decide +kernel
theorem dX14_likes_55 : decode cX14_likes 55 = .ok (.ireturn, 1) := by decide +kernel
set_option maxRecDepth 100000 in
set_option maxHeartbeats 4000000 in
theorem mX14_likes {E : goEv} {l : Launch} {G : goG} {M : goMI} {L : goML} {R : goMR} {v1 : Int32} {v2 : Int32} {r0 : Int32} {r1 : goMI} (hk : goKn E) (hW : goW G R) (h : fX14_likes M R v1 v2 = some (r0, r1)) : Met l yX14_likes (goCd yX14_likes cX14_likes 3 (Option.some FieldType.int)) (goRoom 1 21 0 0) (goPre E [.ref 102, .int v1, .int v2] G M L R) (goQi E r0 G r1 L R) 0 0 (goSet E) := by
  refine goMet pl_RX14 hk (lv := [some (.ref 102), some (.int v1), some (.int v2)]) rfl (Nat.le_of_ble_eq_true rfl) ?_
  intro X hc hl hR hr hnm
  subst hl
  unfold fX14_likes at h
  refine go_aload0 hc dX14_likes_0 ?_
  refine go_iconst (v := 0) hc dX14_likes_1 rfl ?_
  replace h := goNm_x h; obtain ⟨M11, e12, h⟩ := h
  refine go_ptI hc lk_RX14_66 dX14_likes_2 (sh_102 hW) e12 ?_
  refine go_aload0 hc dX14_likes_5 ?_
  refine go_iload1 hc dX14_likes_6 ?_
  replace h := goBind h; obtain ⟨x13, e14, h⟩ := h
  refine go_callVi hc dX14_likes_7 (mX14_isGoat hk hW e14) ml_RX14_497 yk_X14_isGoat ⟨wim_X14_isGoat, wse_X14_isGoat⟩ hR rfl (sh_102 hW) rfl rfl rfl (Nat.le_of_ble_eq_true rfl) rfl ?_
  refine go_if_eq hc 50 dX14_likes_10 rfl (fun c15 => ?_) (fun c15 => ?_)
  · replace h := goIfT h c15
    refine go_aload0 hc dX14_likes_50 ?_
    refine go_iconst (v := 1) hc dX14_likes_51 rfl ?_
    replace h := goB2_h h; obtain ⟨x16, M17, e18, h⟩ := h
    refine go_callVi hc dX14_likes_52 (mX14_refused hk hW e18) ml_RX14_72 yk_X14_refused ⟨wim_X14_refused, wse_X14_refused⟩ hR rfl (sh_102 hW) rfl rfl rfl (Nat.le_of_ble_eq_true rfl) rfl ?_
    cases h
    exact go_iret hc dX14_likes_55 hr
  · replace h := goIfF h c15
    refine go_iload2 hc dX14_likes_13 ?_
    refine go_if_lt hc 50 dX14_likes_14 rfl (fun c19 => ?_) (fun c19 => ?_)
    · replace h := goIfF h c19
      refine go_aload0 hc dX14_likes_50 ?_
      refine go_iconst (v := 1) hc dX14_likes_51 rfl ?_
      replace h := goB2_h h; obtain ⟨x20, M21, e22, h⟩ := h
      refine go_callVi hc dX14_likes_52 (mX14_refused hk hW e22) ml_RX14_72 yk_X14_refused ⟨wim_X14_refused, wse_X14_refused⟩ hR rfl (sh_102 hW) rfl rfl rfl (Nat.le_of_ble_eq_true rfl) rfl ?_
      cases h
      exact go_iret hc dX14_likes_55 hr
    · replace h := goIfT h c19
      refine go_iload2 hc dX14_likes_17 ?_
      refine go_aload0 hc dX14_likes_18 ?_
      replace h := goBind h; obtain ⟨b23, e24, h⟩ := h
      refine go_getR hc lk_RX14_442 dX14_likes_19 (sh_102 hW) e24 ?_
      refine go_getR hc lk_RX14_353 dX14_likes_22 (shM_0 (goW_M3 hW e24)) (rfM_23 (goW_M3 hW e24)) ?_
      refine go_iload1 hc dX14_likes_25 ?_
      replace h := goBind h; obtain ⟨x25, e26, h⟩ := h
      refine go_iald hc dX14_likes_26 (shM_8 (goW_M3 hW e24)) e26 ?_
      refine go_icmp_ge hc 50 dX14_likes_27 rfl (fun c27 => ?_) (fun c27 => ?_)
      · replace h := goIfF h c27
        refine go_aload0 hc dX14_likes_50 ?_
        refine go_iconst (v := 1) hc dX14_likes_51 rfl ?_
        replace h := goB2_h h; obtain ⟨x28, M29, e30, h⟩ := h
        refine go_callVi hc dX14_likes_52 (mX14_refused hk hW e30) ml_RX14_72 yk_X14_refused ⟨wim_X14_refused, wse_X14_refused⟩ hR rfl (sh_102 hW) rfl rfl rfl (Nat.le_of_ble_eq_true rfl) rfl ?_
        cases h
        exact go_iret hc dX14_likes_55 hr
      · replace h := goIfT h c27
        refine go_aload0 hc dX14_likes_30 ?_
        refine go_aload0 hc dX14_likes_31 ?_
        replace h := goBind h; obtain ⟨b31, e32, h⟩ := h
        refine go_getR hc lk_RX14_442 dX14_likes_32 (sh_102 hW) e32 ?_
        refine go_getR hc lk_RX14_341 dX14_likes_35 (shM_0 (goW_M3 hW e32)) (rfM_24 (goW_M3 hW e32)) ?_
        refine go_iconst (v := 4) hc dX14_likes_38 rfl ?_
        refine go_iload1 hc dX14_likes_39 ?_
        refine go_imul hc dX14_likes_40 ?_
        refine go_iload2 hc dX14_likes_41 ?_
        refine go_iadd hc dX14_likes_42 ?_
        replace h := goBind h; obtain ⟨x33, e34, h⟩ := h
        refine go_iald hc dX14_likes_43 (shM_9 (goW_M3 hW e32)) e34 ?_
        replace h := goB2_h h; obtain ⟨x35, M36, e37, h⟩ := h
        refine go_callVi hc dX14_likes_44 (mX14_good hk hW e37) ml_RX14_76 yk_X14_good ⟨wim_X14_good, wse_X14_good⟩ hR rfl (sh_102 hW) rfl rfl rfl (Nat.le_of_ble_eq_true rfl) rfl ?_
        refine go_goto hc 55 dX14_likes_47 rfl ?_
        cases h
        exact go_iret hc dX14_likes_55 hr
theorem dX14_clue_0 : decode cX14_clue 0 = .ok (.aload_n 0, 1) := by decide +kernel
theorem dX14_clue_1 : decode cX14_clue 1 = .ok (.iconst 0, 1) := by decide +kernel
theorem dX14_clue_2 : decode cX14_clue 2 = .ok (.putfield 66, 3) := by decide +kernel
theorem dX14_clue_5 : decode cX14_clue 5 = .ok (.aload_n 0, 1) := by decide +kernel
theorem dX14_clue_6 : decode cX14_clue 6 = .ok (.iload_n 1, 1) := by decide +kernel
theorem dX14_clue_7 : decode cX14_clue 7 = .ok (.invokevirtual 503, 3) := by decide +kernel
theorem dX14_clue_10 : decode cX14_clue 10 = .ok (.ifCond .eq 12, 3) := by decide +kernel
theorem dX14_clue_13 : decode cX14_clue 13 = .ok (.iload_n 2, 1) := by decide +kernel
theorem dX14_clue_14 : decode cX14_clue 14 = .ok (.iconst 0, 1) := by decide +kernel
theorem dX14_clue_15 : decode cX14_clue 15 = .ok (.iconst 3, 1) := by decide +kernel
theorem dX14_clue_16 : decode cX14_clue 16 = .ok (.invokestatic 147, 3) := by decide +kernel
theorem dX14_clue_19 : decode cX14_clue 19 = .ok (.ifCond .ne 9, 3) := by decide +kernel
theorem dX14_clue_22 : decode cX14_clue 22 = .ok (.aload_n 0, 1) := by decide +kernel
theorem dX14_clue_23 : decode cX14_clue 23 = .ok (.iconst 1, 1) := by decide +kernel
theorem dX14_clue_24 : decode cX14_clue 24 = .ok (.invokevirtual 72, 3) := by decide +kernel
theorem dX14_clue_27 : decode cX14_clue 27 = .ok (.ireturn, 1) := by decide +kernel
theorem dX14_clue_28 : decode cX14_clue 28 = .ok (.aload_n 0, 1) := by decide +kernel
theorem dX14_clue_29 : decode cX14_clue 29 = .ok (.iload_n 2, 1) := by decide +kernel
theorem dX14_clue_30 : decode cX14_clue 30 = .ok (.ifCond .ne 15, 3) := by decide +kernel
theorem dX14_clue_33 : decode cX14_clue 33 = .ok (.aload_n 0, 1) := by decide +kernel
theorem dX14_clue_34 : decode cX14_clue 34 = .ok (.getfield 442, 3) := by decide +kernel
theorem dX14_clue_37 : decode cX14_clue 37 = .ok (.getfield 376, 3) := by decide +kernel
theorem dX14_clue_40 : decode cX14_clue 40 = .ok (.iload_n 1, 1) := by decide +kernel
theorem dX14_clue_41 : decode cX14_clue 41 = .ok (.iaload, 1) := by decide +kernel
theorem dX14_clue_42 : decode cX14_clue 42 = .ok (.goto 46, 3) := by decide +kernel
theorem dX14_clue_45 : decode cX14_clue 45 = .ok (.iload_n 2, 1) := by decide +kernel
theorem dX14_clue_46 : decode cX14_clue 46 = .ok (.iconst 1, 1) := by decide +kernel
theorem dX14_clue_47 : decode cX14_clue 47 = .ok (.if_icmp .ne 15, 3) := by decide +kernel
theorem dX14_clue_50 : decode cX14_clue 50 = .ok (.aload_n 0, 1) := by decide +kernel
theorem dX14_clue_51 : decode cX14_clue 51 = .ok (.getfield 442, 3) := by decide +kernel
theorem dX14_clue_54 : decode cX14_clue 54 = .ok (.getfield 379, 3) := by decide +kernel
theorem dX14_clue_57 : decode cX14_clue 57 = .ok (.iload_n 1, 1) := by decide +kernel
theorem dX14_clue_58 : decode cX14_clue 58 = .ok (.iaload, 1) := by decide +kernel
theorem dX14_clue_59 : decode cX14_clue 59 = .ok (.goto 29, 3) := by decide +kernel
theorem dX14_clue_62 : decode cX14_clue 62 = .ok (.iload_n 2, 1) := by decide +kernel
theorem dX14_clue_63 : decode cX14_clue 63 = .ok (.iconst 2, 1) := by decide +kernel
theorem dX14_clue_64 : decode cX14_clue 64 = .ok (.if_icmp .ne 15, 3) := by decide +kernel
theorem dX14_clue_67 : decode cX14_clue 67 = .ok (.aload_n 0, 1) := by decide +kernel
theorem dX14_clue_68 : decode cX14_clue 68 = .ok (.getfield 442, 3) := by decide +kernel
theorem dX14_clue_71 : decode cX14_clue 71 = .ok (.getfield 382, 3) := by decide +kernel
theorem dX14_clue_74 : decode cX14_clue 74 = .ok (.iload_n 1, 1) := by decide +kernel
theorem dX14_clue_75 : decode cX14_clue 75 = .ok (.iaload, 1) := by decide +kernel
theorem dX14_clue_76 : decode cX14_clue 76 = .ok (.goto 12, 3) := by decide +kernel
theorem dX14_clue_79 : decode cX14_clue 79 = .ok (.aload_n 0, 1) := by decide +kernel
theorem dX14_clue_80 : decode cX14_clue 80 = .ok (.getfield 442, 3) := by decide +kernel
theorem dX14_clue_83 : decode cX14_clue 83 = .ok (.getfield 385, 3) := by decide +kernel
theorem dX14_clue_86 : decode cX14_clue 86 = .ok (.iload_n 1, 1) := by decide +kernel
theorem dX14_clue_87 : decode cX14_clue 87 = .ok (.iaload, 1) := by decide +kernel
theorem dX14_clue_88 : decode cX14_clue 88 = .ok (.invokevirtual 76, 3) := by decide +kernel
theorem dX14_clue_91 : decode cX14_clue 91 = .ok (.ireturn, 1) := by decide +kernel
set_option maxRecDepth 100000 in
set_option maxHeartbeats 4000000 in
theorem mX14_clue {E : goEv} {l : Launch} {G : goG} {M : goMI} {L : goML} {R : goMR} {v1 : Int32} {v2 : Int32} {r0 : Int32} {r1 : goMI} (hk : goKn E) (hW : goW G R) (h : fX14_clue M R v1 v2 = some (r0, r1)) : Met l yX14_clue (goCd yX14_clue cX14_clue 3 (Option.some FieldType.int)) (goRoom 1 22 0 0) (goPre E [.ref 102, .int v1, .int v2] G M L R) (goQi E r0 G r1 L R) 0 0 (goSet E) := by
  refine goMet pl_RX14 hk (lv := [some (.ref 102), some (.int v1), some (.int v2)]) rfl (Nat.le_of_ble_eq_true rfl) ?_
  intro X hc hl hR hr hnm
  subst hl
  unfold fX14_clue at h
  refine go_aload0 hc dX14_clue_0 ?_
  refine go_iconst (v := 0) hc dX14_clue_1 rfl ?_
  replace h := goNm_x h; obtain ⟨M11, e12, h⟩ := h
  refine go_ptI hc lk_RX14_66 dX14_clue_2 (sh_102 hW) e12 ?_
  refine go_aload0 hc dX14_clue_5 ?_
  refine go_iload1 hc dX14_clue_6 ?_
  replace h := goBind h; obtain ⟨x13, e14, h⟩ := h
  refine go_callVi hc dX14_clue_7 (mX14_isClue hk hW e14) ml_RX14_503 yk_X14_isClue ⟨wim_X14_isClue, wse_X14_isClue⟩ hR rfl (sh_102 hW) rfl rfl rfl (Nat.le_of_ble_eq_true rfl) rfl ?_
  refine go_if_eq hc 22 dX14_clue_10 rfl (fun c15 => ?_) (fun c15 => ?_)
  · replace h := goIfT h c15
    refine go_aload0 hc dX14_clue_22 ?_
    refine go_iconst (v := 1) hc dX14_clue_23 rfl ?_
    replace h := goB2_h h; obtain ⟨x16, M17, e18, h⟩ := h
    refine go_callVi hc dX14_clue_24 (mX14_refused hk hW e18) ml_RX14_72 yk_X14_refused ⟨wim_X14_refused, wse_X14_refused⟩ hR rfl (sh_102 hW) rfl rfl rfl (Nat.le_of_ble_eq_true rfl) rfl ?_
    cases h
    exact go_iret hc dX14_clue_27 hr
  · replace h := goIfF h c15
    refine go_iload2 hc dX14_clue_13 ?_
    refine go_iconst (v := 0) hc dX14_clue_14 rfl ?_
    refine go_iconst (v := 3) hc dX14_clue_15 rfl ?_
    refine go_callSi hc dX14_clue_16 (mX14_within hk hW rfl) ml_RX14_147 yk_X14_within wst_X14_within hR rfl rfl rfl (Nat.le_of_ble_eq_true rfl) rfl ?_
    refine go_if_ne hc 28 dX14_clue_19 rfl (fun c19 => ?_) (fun c19 => ?_)
    · replace h := goIfF h c19
      refine go_aload0 hc dX14_clue_28 ?_
      refine go_iload2 hc dX14_clue_29 ?_
      replace h := goBind h; obtain ⟨x20, e21, h⟩ := h
      have k22 : ∀ (d0 d1 d2 : Option Value), goA E X G 0 0 (goMQ X E (goQi E r0 G r1 L R) 0 0) 88 [d0, d1, d2] [.int x20, .ref 102] M11 L R := by
        intro d0 d1 d2
        replace h := goB2_h h; obtain ⟨x42, M43, e44, h⟩ := h
        refine go_callVi hc dX14_clue_88 (mX14_good hk hW e44) ml_RX14_76 yk_X14_good ⟨wim_X14_good, wse_X14_good⟩ hR rfl (sh_102 hW) rfl rfl rfl (Nat.le_of_ble_eq_true rfl) rfl ?_
        cases h
        exact go_iret hc dX14_clue_91 hr
      refine go_if_ne hc 45 dX14_clue_30 rfl (fun c23 => ?_) (fun c23 => ?_)
      · replace e21 := goIfF e21 c23
        refine go_iload2 hc dX14_clue_45 ?_
        refine go_iconst (v := 1) hc dX14_clue_46 rfl ?_
        refine go_icmp_ne hc 62 dX14_clue_47 rfl (fun c24 => ?_) (fun c24 => ?_)
        · replace e21 := goIfF e21 c24
          refine go_iload2 hc dX14_clue_62 ?_
          refine go_iconst (v := 2) hc dX14_clue_63 rfl ?_
          refine go_icmp_ne hc 79 dX14_clue_64 rfl (fun c25 => ?_) (fun c25 => ?_)
          · replace e21 := goIfF e21 c25
            refine go_aload0 hc dX14_clue_79 ?_
            replace e21 := goBind e21; obtain ⟨b26, e27, e21⟩ := e21
            refine go_getR hc lk_RX14_442 dX14_clue_80 (sh_102 hW) e27 ?_
            refine go_getR hc lk_RX14_385 dX14_clue_83 (shM_0 (goW_M3 hW e27)) (rfM_31 (goW_M3 hW e27)) ?_
            refine go_iload1 hc dX14_clue_86 ?_
            replace e21 := goBind e21; obtain ⟨x28, e29, e21⟩ := e21
            refine go_iald hc dX14_clue_87 (shM_16 (goW_M3 hW e27)) e29 ?_
            cases e21
            exact k22 _ _ _
          · replace e21 := goIfT e21 c25
            refine go_aload0 hc dX14_clue_67 ?_
            replace e21 := goBind e21; obtain ⟨b30, e31, e21⟩ := e21
            refine go_getR hc lk_RX14_442 dX14_clue_68 (sh_102 hW) e31 ?_
            refine go_getR hc lk_RX14_382 dX14_clue_71 (shM_0 (goW_M3 hW e31)) (rfM_30 (goW_M3 hW e31)) ?_
            refine go_iload1 hc dX14_clue_74 ?_
            replace e21 := goBind e21; obtain ⟨x32, e33, e21⟩ := e21
            refine go_iald hc dX14_clue_75 (shM_15 (goW_M3 hW e31)) e33 ?_
            refine go_goto hc 88 dX14_clue_76 rfl ?_
            cases e21
            exact k22 _ _ _
        · replace e21 := goIfT e21 c24
          refine go_aload0 hc dX14_clue_50 ?_
          replace e21 := goBind e21; obtain ⟨b34, e35, e21⟩ := e21
          refine go_getR hc lk_RX14_442 dX14_clue_51 (sh_102 hW) e35 ?_
          refine go_getR hc lk_RX14_379 dX14_clue_54 (shM_0 (goW_M3 hW e35)) (rfM_29 (goW_M3 hW e35)) ?_
          refine go_iload1 hc dX14_clue_57 ?_
          replace e21 := goBind e21; obtain ⟨x36, e37, e21⟩ := e21
          refine go_iald hc dX14_clue_58 (shM_14 (goW_M3 hW e35)) e37 ?_
          refine go_goto hc 88 dX14_clue_59 rfl ?_
          cases e21
          exact k22 _ _ _
      · replace e21 := goIfT e21 c23
        refine go_aload0 hc dX14_clue_33 ?_
        replace e21 := goBind e21; obtain ⟨b38, e39, e21⟩ := e21
        refine go_getR hc lk_RX14_442 dX14_clue_34 (sh_102 hW) e39 ?_
        refine go_getR hc lk_RX14_376 dX14_clue_37 (shM_0 (goW_M3 hW e39)) (rfM_28 (goW_M3 hW e39)) ?_
        refine go_iload1 hc dX14_clue_40 ?_
        replace e21 := goBind e21; obtain ⟨x40, e41, e21⟩ := e21
        refine go_iald hc dX14_clue_41 (shM_13 (goW_M3 hW e39)) e41 ?_
        refine go_goto hc 88 dX14_clue_42 rfl ?_
        cases e21
        exact k22 _ _ _
    · replace h := goIfT h c19
      refine go_aload0 hc dX14_clue_22 ?_
      refine go_iconst (v := 1) hc dX14_clue_23 rfl ?_
      replace h := goB2_h h; obtain ⟨x45, M46, e47, h⟩ := h
      refine go_callVi hc dX14_clue_24 (mX14_refused hk hW e47) ml_RX14_72 yk_X14_refused ⟨wim_X14_refused, wse_X14_refused⟩ hR rfl (sh_102 hW) rfl rfl rfl (Nat.le_of_ble_eq_true rfl) rfl ?_
      cases h
      exact go_iret hc dX14_clue_27 hr
theorem dX14_story_0 : decode cX14_story 0 = .ok (.aload_n 0, 1) := by decide +kernel
theorem dX14_story_1 : decode cX14_story 1 = .ok (.iconst 0, 1) := by decide +kernel
theorem dX14_story_2 : decode cX14_story 2 = .ok (.putfield 66, 3) := by decide +kernel
theorem dX14_story_5 : decode cX14_story 5 = .ok (.aload_n 0, 1) := by decide +kernel
theorem dX14_story_6 : decode cX14_story 6 = .ok (.iload_n 1, 1) := by decide +kernel
theorem dX14_story_7 : decode cX14_story 7 = .ok (.invokevirtual 506, 3) := by decide +kernel
theorem dX14_story_10 : decode cX14_story 10 = .ok (.ifCond .eq 20, 3) := by decide +kernel
theorem dX14_story_13 : decode cX14_story 13 = .ok (.iload_n 2, 1) := by decide +kernel
theorem dX14_story_14 : decode cX14_story 14 = .ok (.ifCond .lt 16, 3) := by decide +kernel
theorem dX14_story_17 : decode cX14_story 17 = .ok (.iload_n 2, 1) := by decide +kernel
theorem dX14_story_18 : decode cX14_story 18 = .ok (.aload_n 0, 1) := by decide +kernel
theorem dX14_story_19 : decode cX14_story 19 = .ok (.getfield 442, 3) := by decide +kernel
theorem dX14_story_22 : decode cX14_story 22 = .ok (.getfield 323, 3) := by decide +kernel
theorem dX14_story_25 : decode cX14_story 25 = .ok (.iload_n 1, 1) := by decide +kernel
theorem dX14_story_26 : decode cX14_story 26 = .ok (.iaload, 1) := by decide +kernel
theorem dX14_story_27 : decode cX14_story 27 = .ok (.if_icmp .lt 9, 3) := by decide +kernel
theorem dX14_story_30 : decode cX14_story 30 = .ok (.aload_n 0, 1) := by decide +kernel
theorem dX14_story_31 : decode cX14_story 31 = .ok (.iconst 1, 1) := by decide +kernel
theorem dX14_story_32 : decode cX14_story 32 = .ok (.invokevirtual 72, 3) := by decide +kernel
theorem dX14_story_35 : decode cX14_story 35 = .ok (.ireturn, 1) := by decide +kernel
theorem dX14_story_36 : decode cX14_story 36 = .ok (.aload_n 0, 1) := by decide +kernel
theorem dX14_story_37 : decode cX14_story 37 = .ok (.iload_n 3, 1) := by decide +kernel
theorem dX14_story_38 : decode cX14_story 38 = .ok (.invokevirtual 509, 3) := by decide +kernel
theorem dX14_story_41 : decode cX14_story 41 = .ok (.ifCond .eq 20, 3) := by decide +kernel
theorem dX14_story_44 : decode cX14_story 44 = .ok (.aload_n 0, 1) := by decide +kernel
theorem dX14_story_45 : decode cX14_story 45 = .ok (.aload_n 0, 1) := by decide +kernel
theorem dX14_story_46 : decode cX14_story 46 = .ok (.getfield 442, 3) := by decide +kernel
theorem dX14_story_49 : decode cX14_story 49 = .ok (.iload_n 1, 1) := by decide +kernel
theorem dX14_story_50 : decode cX14_story 50 = .ok (.iload_n 2, 1) := by decide +kernel
theorem dX14_story_51 : decode cX14_story 51 = .ok (.iload_n 3, 1) := by decide +kernel
theorem dX14_story_52 : decode cX14_story 52 = .ok (.invokevirtual 512, 3) := by decide +kernel
theorem dX14_story_55 : decode cX14_story 55 = .ok (.invokevirtual 76, 3) := by decide +kernel
theorem dX14_story_58 : decode cX14_story 58 = .ok (.goto 8, 3) := by decide +kernel
theorem dX14_story_61 : decode cX14_story 61 = .ok (.aload_n 0, 1) := by decide +kernel
theorem dX14_story_62 : decode cX14_story 62 = .ok (.iconst 2, 1) := by decide +kernel
theorem dX14_story_63 : decode cX14_story 63 = .ok (.invokevirtual 72, 3) := by decide +kernel
theorem dX14_story_66 : decode cX14_story 66 = .ok (.ireturn, 1) := by decide +kernel
set_option maxRecDepth 100000 in
set_option maxHeartbeats 4000000 in
theorem mX14_story {E : goEv} {l : Launch} {G : goG} {M : goMI} {L : goML} {R : goMR} {v1 : Int32} {v2 : Int32} {v3 : Int32} {r0 : Int32} {r1 : goMI} (hk : goKn E) (hW : goW G R) (h : fX14_story M R v1 v2 v3 = some (r0, r1)) : Met l yX14_story (goCd yX14_story cX14_story 4 (Option.some FieldType.int)) (goRoom 1 23 0 0) (goPre E [.ref 102, .int v1, .int v2, .int v3] G M L R) (goQi E r0 G r1 L R) 0 0 (goSet E) := by
  refine goMet pl_RX14 hk (lv := [some (.ref 102), some (.int v1), some (.int v2), some (.int v3)]) rfl (Nat.le_of_ble_eq_true rfl) ?_
  intro X hc hl hR hr hnm
  subst hl
  unfold fX14_story at h
  refine go_aload0 hc dX14_story_0 ?_
  refine go_iconst (v := 0) hc dX14_story_1 rfl ?_
  replace h := goNm_x h; obtain ⟨M11, e12, h⟩ := h
  refine go_ptI hc lk_RX14_66 dX14_story_2 (sh_102 hW) e12 ?_
  refine go_aload0 hc dX14_story_5 ?_
  refine go_iload1 hc dX14_story_6 ?_
  replace h := goBind h; obtain ⟨x13, e14, h⟩ := h
  refine go_callVi hc dX14_story_7 (mX14_isPerson hk hW e14) ml_RX14_506 yk_X14_isPerson ⟨wim_X14_isPerson, wse_X14_isPerson⟩ hR rfl (sh_102 hW) rfl rfl rfl (Nat.le_of_ble_eq_true rfl) rfl ?_
  refine go_if_eq hc 30 dX14_story_10 rfl (fun c15 => ?_) (fun c15 => ?_)
  · replace h := goIfT h c15
    refine go_aload0 hc dX14_story_30 ?_
    refine go_iconst (v := 1) hc dX14_story_31 rfl ?_
    replace h := goB2_h h; obtain ⟨x16, M17, e18, h⟩ := h
    refine go_callVi hc dX14_story_32 (mX14_refused hk hW e18) ml_RX14_72 yk_X14_refused ⟨wim_X14_refused, wse_X14_refused⟩ hR rfl (sh_102 hW) rfl rfl rfl (Nat.le_of_ble_eq_true rfl) rfl ?_
    cases h
    exact go_iret hc dX14_story_35 hr
  · replace h := goIfF h c15
    refine go_iload2 hc dX14_story_13 ?_
    refine go_if_lt hc 30 dX14_story_14 rfl (fun c19 => ?_) (fun c19 => ?_)
    · replace h := goIfF h c19
      refine go_aload0 hc dX14_story_30 ?_
      refine go_iconst (v := 1) hc dX14_story_31 rfl ?_
      replace h := goB2_h h; obtain ⟨x20, M21, e22, h⟩ := h
      refine go_callVi hc dX14_story_32 (mX14_refused hk hW e22) ml_RX14_72 yk_X14_refused ⟨wim_X14_refused, wse_X14_refused⟩ hR rfl (sh_102 hW) rfl rfl rfl (Nat.le_of_ble_eq_true rfl) rfl ?_
      cases h
      exact go_iret hc dX14_story_35 hr
    · replace h := goIfT h c19
      refine go_iload2 hc dX14_story_17 ?_
      refine go_aload0 hc dX14_story_18 ?_
      replace h := goBind h; obtain ⟨b23, e24, h⟩ := h
      refine go_getR hc lk_RX14_442 dX14_story_19 (sh_102 hW) e24 ?_
      refine go_getR hc lk_RX14_323 dX14_story_22 (shM_0 (goW_M3 hW e24)) (rfM_19 (goW_M3 hW e24)) ?_
      refine go_iload1 hc dX14_story_25 ?_
      replace h := goBind h; obtain ⟨x25, e26, h⟩ := h
      refine go_iald hc dX14_story_26 (shM_4 (goW_M3 hW e24)) e26 ?_
      refine go_icmp_lt hc 36 dX14_story_27 rfl (fun c27 => ?_) (fun c27 => ?_)
      · replace h := goIfF h c27
        refine go_aload0 hc dX14_story_36 ?_
        refine go_iload3 hc dX14_story_37 ?_
        replace h := goBind h; obtain ⟨x28, e29, h⟩ := h
        refine go_callVi hc dX14_story_38 (mX14_isHour hk hW e29) ml_RX14_509 yk_X14_isHour ⟨wim_X14_isHour, wse_X14_isHour⟩ hR rfl (sh_102 hW) rfl rfl rfl (Nat.le_of_ble_eq_true rfl) rfl ?_
        refine go_if_eq hc 61 dX14_story_41 rfl (fun c30 => ?_) (fun c30 => ?_)
        · replace h := goIfT h c30
          refine go_aload0 hc dX14_story_61 ?_
          refine go_iconst (v := 2) hc dX14_story_62 rfl ?_
          replace h := goB2_h h; obtain ⟨x31, M32, e33, h⟩ := h
          refine go_callVi hc dX14_story_63 (mX14_refused hk hW e33) ml_RX14_72 yk_X14_refused ⟨wim_X14_refused, wse_X14_refused⟩ hR rfl (sh_102 hW) rfl rfl rfl (Nat.le_of_ble_eq_true rfl) rfl ?_
          cases h
          exact go_iret hc dX14_story_66 hr
        · replace h := goIfF h c30
          refine go_aload0 hc dX14_story_44 ?_
          refine go_aload0 hc dX14_story_45 ?_
          replace h := goBind h; obtain ⟨b34, e35, h⟩ := h
          refine go_getR hc lk_RX14_442 dX14_story_46 (sh_102 hW) e35 ?_
          refine go_iload1 hc dX14_story_49 ?_
          refine go_iload2 hc dX14_story_50 ?_
          refine go_iload3 hc dX14_story_51 ?_
          replace h := goBind h; obtain ⟨x36, e37, h⟩ := h
          refine go_callVi hc dX14_story_52 (mX13_place hk hW (goW_M3 hW e35) e37) ml_RX14_512 yk_X13_place ⟨wim_X13_place, wse_X13_place⟩ hR rfl (shM_0 (goW_M3 hW e35)) rfl rfl rfl (Nat.le_of_ble_eq_true rfl) rfl ?_
          replace h := goB2_h h; obtain ⟨x38, M39, e40, h⟩ := h
          refine go_callVi hc dX14_story_55 (mX14_good hk hW e40) ml_RX14_76 yk_X14_good ⟨wim_X14_good, wse_X14_good⟩ hR rfl (sh_102 hW) rfl rfl rfl (Nat.le_of_ble_eq_true rfl) rfl ?_
          refine go_goto hc 66 dX14_story_58 rfl ?_
          cases h
          exact go_iret hc dX14_story_66 hr
      · replace h := goIfT h c27
        refine go_aload0 hc dX14_story_30 ?_
        refine go_iconst (v := 1) hc dX14_story_31 rfl ?_
        replace h := goB2_h h; obtain ⟨x41, M42, e43, h⟩ := h
        refine go_callVi hc dX14_story_32 (mX14_refused hk hW e43) ml_RX14_72 yk_X14_refused ⟨wim_X14_refused, wse_X14_refused⟩ hR rfl (sh_102 hW) rfl rfl rfl (Nat.le_of_ble_eq_true rfl) rfl ?_
        cases h
        exact go_iret hc dX14_story_35 hr
theorem dX14_stories_0 : decode cX14_stories 0 = .ok (.aload_n 0, 1) := by decide +kernel
theorem dX14_stories_1 : decode cX14_stories 1 = .ok (.iconst 0, 1) := by decide +kernel
theorem dX14_stories_2 : decode cX14_stories 2 = .ok (.putfield 66, 3) := by decide +kernel
theorem dX14_stories_5 : decode cX14_stories 5 = .ok (.aload_n 0, 1) := by decide +kernel
theorem dX14_stories_6 : decode cX14_stories 6 = .ok (.iload_n 1, 1) := by decide +kernel
theorem dX14_stories_7 : decode cX14_stories 7 = .ok (.invokevirtual 506, 3) := by decide +kernel
theorem dX14_stories_10 : decode cX14_stories 10 = .ok (.ifCond .eq 19, 3) := by decide +kernel
theorem dX14_stories_13 : decode cX14_stories 13 = .ok (.aload_n 0, 1) := by decide +kernel
theorem dX14_stories_14 : decode cX14_stories 14 = .ok (.aload_n 0, 1) := by decide +kernel
theorem dX14_stories_15 : decode cX14_stories 15 = .ok (.getfield 442, 3) := by decide +kernel
theorem dX14_stories_18 : decode cX14_stories 18 = .ok (.getfield 323, 3) := by decide +kernel
theorem dX14_stories_21 : decode cX14_stories 21 = .ok (.iload_n 1, 1) := by decide +kernel
theorem dX14_stories_22 : decode cX14_stories 22 = .ok (.iaload, 1) := by decide +kernel
theorem dX14_stories_23 : decode cX14_stories 23 = .ok (.invokevirtual 76, 3) := by decide +kernel
theorem dX14_stories_26 : decode cX14_stories 26 = .ok (.goto 8, 3) := by decide +kernel
theorem dX14_stories_29 : decode cX14_stories 29 = .ok (.aload_n 0, 1) := by decide +kernel
theorem dX14_stories_30 : decode cX14_stories 30 = .ok (.iconst 1, 1) := by decide +kernel
theorem dX14_stories_31 : decode cX14_stories 31 = .ok (.invokevirtual 72, 3) := by decide +kernel
theorem dX14_stories_34 : decode cX14_stories 34 = .ok (.ireturn, 1) := by decide +kernel
set_option maxRecDepth 100000 in
set_option maxHeartbeats 4000000 in
theorem mX14_stories {E : goEv} {l : Launch} {G : goG} {M : goMI} {L : goML} {R : goMR} {v1 : Int32} {r0 : Int32} {r1 : goMI} (hk : goKn E) (hW : goW G R) (h : fX14_stories M R v1 = some (r0, r1)) : Met l yX14_stories (goCd yX14_stories cX14_stories 2 (Option.some FieldType.int)) (goRoom 1 21 0 0) (goPre E [.ref 102, .int v1] G M L R) (goQi E r0 G r1 L R) 0 0 (goSet E) := by
  refine goMet pl_RX14 hk (lv := [some (.ref 102), some (.int v1)]) rfl (Nat.le_of_ble_eq_true rfl) ?_
  intro X hc hl hR hr hnm
  subst hl
  unfold fX14_stories at h
  refine go_aload0 hc dX14_stories_0 ?_
  refine go_iconst (v := 0) hc dX14_stories_1 rfl ?_
  replace h := goNm_x h; obtain ⟨M11, e12, h⟩ := h
  refine go_ptI hc lk_RX14_66 dX14_stories_2 (sh_102 hW) e12 ?_
  refine go_aload0 hc dX14_stories_5 ?_
  refine go_iload1 hc dX14_stories_6 ?_
  replace h := goBind h; obtain ⟨x13, e14, h⟩ := h
  refine go_callVi hc dX14_stories_7 (mX14_isPerson hk hW e14) ml_RX14_506 yk_X14_isPerson ⟨wim_X14_isPerson, wse_X14_isPerson⟩ hR rfl (sh_102 hW) rfl rfl rfl (Nat.le_of_ble_eq_true rfl) rfl ?_
  refine go_if_eq hc 29 dX14_stories_10 rfl (fun c15 => ?_) (fun c15 => ?_)
  · replace h := goIfT h c15
    refine go_aload0 hc dX14_stories_29 ?_
    refine go_iconst (v := 1) hc dX14_stories_30 rfl ?_
    replace h := goB2_h h; obtain ⟨x16, M17, e18, h⟩ := h
    refine go_callVi hc dX14_stories_31 (mX14_refused hk hW e18) ml_RX14_72 yk_X14_refused ⟨wim_X14_refused, wse_X14_refused⟩ hR rfl (sh_102 hW) rfl rfl rfl (Nat.le_of_ble_eq_true rfl) rfl ?_
    cases h
    exact go_iret hc dX14_stories_34 hr
  · replace h := goIfF h c15
    refine go_aload0 hc dX14_stories_13 ?_
    refine go_aload0 hc dX14_stories_14 ?_
    replace h := goBind h; obtain ⟨b19, e20, h⟩ := h
    refine go_getR hc lk_RX14_442 dX14_stories_15 (sh_102 hW) e20 ?_
    refine go_getR hc lk_RX14_323 dX14_stories_18 (shM_0 (goW_M3 hW e20)) (rfM_19 (goW_M3 hW e20)) ?_
    refine go_iload1 hc dX14_stories_21 ?_
    replace h := goBind h; obtain ⟨x21, e22, h⟩ := h
    refine go_iald hc dX14_stories_22 (shM_4 (goW_M3 hW e20)) e22 ?_
    replace h := goB2_h h; obtain ⟨x23, M24, e25, h⟩ := h
    refine go_callVi hc dX14_stories_23 (mX14_good hk hW e25) ml_RX14_76 yk_X14_good ⟨wim_X14_good, wse_X14_good⟩ hR rfl (sh_102 hW) rfl rfl rfl (Nat.le_of_ble_eq_true rfl) rfl ?_
    refine go_goto hc 34 dX14_stories_26 rfl ?_
    cases h
    exact go_iret hc dX14_stories_34 hr
theorem dX14_caseOf_0 : decode cX14_caseOf 0 = .ok (.aload_n 0, 1) := by decide +kernel
theorem dX14_caseOf_1 : decode cX14_caseOf 1 = .ok (.iconst 0, 1) := by decide +kernel
theorem dX14_caseOf_2 : decode cX14_caseOf 2 = .ok (.putfield 66, 3) := by decide +kernel
theorem dX14_caseOf_5 : decode cX14_caseOf 5 = .ok (.aload_n 0, 1) := by decide +kernel
theorem dX14_caseOf_6 : decode cX14_caseOf 6 = .ok (.iload_n 1, 1) := by decide +kernel
theorem dX14_caseOf_7 : decode cX14_caseOf 7 = .ok (.invokevirtual 514, 3) := by decide +kernel
theorem dX14_caseOf_10 : decode cX14_caseOf 10 = .ok (.ifCond .eq 27, 3) := by decide +kernel
theorem dX14_caseOf_13 : decode cX14_caseOf 13 = .ok (.aload_n 0, 1) := by decide +kernel
theorem dX14_caseOf_14 : decode cX14_caseOf 14 = .ok (.iload_n 2, 1) := by decide +kernel
theorem dX14_caseOf_15 : decode cX14_caseOf 15 = .ok (.invokevirtual 506, 3) := by decide +kernel
theorem dX14_caseOf_18 : decode cX14_caseOf 18 = .ok (.ifCond .eq 19, 3) := by decide +kernel
theorem dX14_caseOf_21 : decode cX14_caseOf 21 = .ok (.aload_n 0, 1) := by decide +kernel
theorem dX14_caseOf_22 : decode cX14_caseOf 22 = .ok (.aload_n 0, 1) := by decide +kernel
theorem dX14_caseOf_23 : decode cX14_caseOf 23 = .ok (.getfield 442, 3) := by decide +kernel
theorem dX14_caseOf_26 : decode cX14_caseOf 26 = .ok (.iload_n 1, 1) := by decide +kernel
theorem dX14_caseOf_27 : decode cX14_caseOf 27 = .ok (.iload_n 2, 1) := by decide +kernel
theorem dX14_caseOf_28 : decode cX14_caseOf 28 = .ok (.invokevirtual 517, 3) := by decide +kernel
theorem dX14_caseOf_31 : decode cX14_caseOf 31 = .ok (.invokevirtual 76, 3) := by decide +kernel
theorem dX14_caseOf_34 : decode cX14_caseOf 34 = .ok (.goto 8, 3) := by decide +kernel
theorem dX14_caseOf_37 : decode cX14_caseOf 37 = .ok (.aload_n 0, 1) := by decide +kernel
theorem dX14_caseOf_38 : decode cX14_caseOf 38 = .ok (.iconst 1, 1) := by decide +kernel
theorem dX14_caseOf_39 : decode cX14_caseOf 39 = .ok (.invokevirtual 72, 3) := by decide +kernel
theorem dX14_caseOf_42 : decode cX14_caseOf 42 = .ok (.ireturn, 1) := by decide +kernel
set_option maxRecDepth 100000 in
set_option maxHeartbeats 4000000 in
theorem mX14_caseOf {E : goEv} {l : Launch} {G : goG} {N : Nat} {M : goMI} {L : goML} {R : goMR} {v1 : Int32} {v2 : Int32} {r0 : Int32} {r1 : goMI} (hk : goKn E) (hW : goW G R) (h : fX14_caseOf N M R v1 v2 = some (r0, r1)) : Met l yX14_caseOf (goCd yX14_caseOf cX14_caseOf 3 (Option.some FieldType.int)) (goRoom 2 43 0 0) (goPre E [.ref 102, .int v1, .int v2] G M L R) (goQi E r0 G r1 L R) 0 0 (goSet E) := by
  refine goMet pl_RX14 hk (lv := [some (.ref 102), some (.int v1), some (.int v2)]) rfl (Nat.le_of_ble_eq_true rfl) ?_
  intro X hc hl hR hr hnm
  subst hl
  unfold fX14_caseOf at h
  refine go_aload0 hc dX14_caseOf_0 ?_
  refine go_iconst (v := 0) hc dX14_caseOf_1 rfl ?_
  replace h := goNm_x h; obtain ⟨M11, e12, h⟩ := h
  refine go_ptI hc lk_RX14_66 dX14_caseOf_2 (sh_102 hW) e12 ?_
  refine go_aload0 hc dX14_caseOf_5 ?_
  refine go_iload1 hc dX14_caseOf_6 ?_
  replace h := goBind h; obtain ⟨x13, e14, h⟩ := h
  refine go_callVi hc dX14_caseOf_7 (mX14_isCase hk hW e14) ml_RX14_514 yk_X14_isCase ⟨wim_X14_isCase, wse_X14_isCase⟩ hR rfl (sh_102 hW) rfl rfl rfl (Nat.le_of_ble_eq_true rfl) rfl ?_
  refine go_if_eq hc 37 dX14_caseOf_10 rfl (fun c15 => ?_) (fun c15 => ?_)
  · replace h := goIfT h c15
    refine go_aload0 hc dX14_caseOf_37 ?_
    refine go_iconst (v := 1) hc dX14_caseOf_38 rfl ?_
    replace h := goB2_h h; obtain ⟨x16, M17, e18, h⟩ := h
    refine go_callVi hc dX14_caseOf_39 (mX14_refused hk hW e18) ml_RX14_72 yk_X14_refused ⟨wim_X14_refused, wse_X14_refused⟩ hR rfl (sh_102 hW) rfl rfl rfl (Nat.le_of_ble_eq_true rfl) rfl ?_
    cases h
    exact go_iret hc dX14_caseOf_42 hr
  · replace h := goIfF h c15
    refine go_aload0 hc dX14_caseOf_13 ?_
    refine go_iload2 hc dX14_caseOf_14 ?_
    replace h := goBind h; obtain ⟨x19, e20, h⟩ := h
    refine go_callVi hc dX14_caseOf_15 (mX14_isPerson hk hW e20) ml_RX14_506 yk_X14_isPerson ⟨wim_X14_isPerson, wse_X14_isPerson⟩ hR rfl (sh_102 hW) rfl rfl rfl (Nat.le_of_ble_eq_true rfl) rfl ?_
    refine go_if_eq hc 37 dX14_caseOf_18 rfl (fun c21 => ?_) (fun c21 => ?_)
    · replace h := goIfT h c21
      refine go_aload0 hc dX14_caseOf_37 ?_
      refine go_iconst (v := 1) hc dX14_caseOf_38 rfl ?_
      replace h := goB2_h h; obtain ⟨x22, M23, e24, h⟩ := h
      refine go_callVi hc dX14_caseOf_39 (mX14_refused hk hW e24) ml_RX14_72 yk_X14_refused ⟨wim_X14_refused, wse_X14_refused⟩ hR rfl (sh_102 hW) rfl rfl rfl (Nat.le_of_ble_eq_true rfl) rfl ?_
      cases h
      exact go_iret hc dX14_caseOf_42 hr
    · replace h := goIfF h c21
      refine go_aload0 hc dX14_caseOf_21 ?_
      refine go_aload0 hc dX14_caseOf_22 ?_
      replace h := goBind h; obtain ⟨b25, e26, h⟩ := h
      refine go_getR hc lk_RX14_442 dX14_caseOf_23 (sh_102 hW) e26 ?_
      refine go_iload1 hc dX14_caseOf_26 ?_
      refine go_iload2 hc dX14_caseOf_27 ?_
      replace h := goBind h; obtain ⟨x27, e28, h⟩ := h
      refine go_callVi hc dX14_caseOf_28 (mX13_storyOf hk hW (goW_M3 hW e26) e28) ml_RX14_517 yk_X13_storyOf ⟨wim_X13_storyOf, wse_X13_storyOf⟩ hR rfl (shM_0 (goW_M3 hW e26)) rfl rfl rfl (Nat.le_of_ble_eq_true rfl) rfl ?_
      replace h := goB2_h h; obtain ⟨x29, M30, e31, h⟩ := h
      refine go_callVi hc dX14_caseOf_31 (mX14_good hk hW e31) ml_RX14_76 yk_X14_good ⟨wim_X14_good, wse_X14_good⟩ hR rfl (sh_102 hW) rfl rfl rfl (Nat.le_of_ble_eq_true rfl) rfl ?_
      refine go_goto hc 42 dX14_caseOf_34 rfl ?_
      cases h
      exact go_iret hc dX14_caseOf_42 hr
theorem dX14_at_0 : decode cX14_at 0 = .ok (.aload_n 0, 1) := by decide +kernel
theorem dX14_at_1 : decode cX14_at 1 = .ok (.iconst 0, 1) := by decide +kernel
theorem dX14_at_2 : decode cX14_at 2 = .ok (.putfield 66, 3) := by decide +kernel
theorem dX14_at_5 : decode cX14_at 5 = .ok (.aload_n 0, 1) := by decide +kernel
theorem dX14_at_6 : decode cX14_at 6 = .ok (.iload_n 1, 1) := by decide +kernel
theorem dX14_at_7 : decode cX14_at 7 = .ok (.invokevirtual 514, 3) := by decide +kernel
theorem dX14_at_10 : decode cX14_at 10 = .ok (.ifCond .eq 11, 3) := by decide +kernel
theorem dX14_at_13 : decode cX14_at 13 = .ok (.aload_n 0, 1) := by decide +kernel
theorem dX14_at_14 : decode cX14_at 14 = .ok (.iload_n 2, 1) := by decide +kernel
theorem dX14_at_15 : decode cX14_at 15 = .ok (.invokevirtual 497, 3) := by decide +kernel
theorem dX14_at_18 : decode cX14_at 18 = .ok (.ifCond .ne 9, 3) := by decide +kernel
theorem dX14_at_21 : decode cX14_at 21 = .ok (.aload_n 0, 1) := by decide +kernel
theorem dX14_at_22 : decode cX14_at 22 = .ok (.iconst 1, 1) := by decide +kernel
theorem dX14_at_23 : decode cX14_at 23 = .ok (.invokevirtual 72, 3) := by decide +kernel
theorem dX14_at_26 : decode cX14_at 26 = .ok (.ireturn, 1) := by decide +kernel
theorem dX14_at_27 : decode cX14_at 27 = .ok (.aload_n 0, 1) := by decide +kernel
theorem dX14_at_28 : decode cX14_at 28 = .ok (.iload_n 3, 1) := by decide +kernel
theorem dX14_at_29 : decode cX14_at 29 = .ok (.invokevirtual 509, 3) := by decide +kernel
theorem dX14_at_32 : decode cX14_at 32 = .ok (.ifCond .ne 9, 3) := by decide +kernel
theorem dX14_at_35 : decode cX14_at 35 = .ok (.aload_n 0, 1) := by decide +kernel
theorem dX14_at_36 : decode cX14_at 36 = .ok (.iconst 2, 1) := by decide +kernel
theorem dX14_at_37 : decode cX14_at 37 = .ok (.invokevirtual 72, 3) := by decide +kernel
theorem dX14_at_40 : decode cX14_at 40 = .ok (.ireturn, 1) := by decide +kernel
theorem dX14_at_41 : decode cX14_at 41 = .ok (.aload_n 0, 1) := by decide +kernel
theorem dX14_at_42 : decode cX14_at 42 = .ok (.iload_n 1, 1) := by decide +kernel
theorem dX14_at_43 : decode cX14_at 43 = .ok (.invokevirtual 482, 3) := by decide +kernel
theorem dX14_at_46 : decode cX14_at 46 = .ok (.aload_n 0, 1) := by decide +kernel
theorem dX14_at_47 : decode cX14_at 47 = .ok (.aload_n 0, 1) := by decide +kernel
theorem dX14_at_48 : decode cX14_at 48 = .ok (.getfield 30, 3) := by decide +kernel
theorem dX14_at_51 : decode cX14_at 51 = .ok (.bipush 12, 2) := by decide +kernel
theorem dX14_at_53 : decode cX14_at 53 = .ok (.iload_n 2, 1) := by decide +kernel
theorem dX14_at_54 : decode cX14_at 54 = .ok (.imul, 1) := by decide +kernel
theorem dX14_at_55 : decode cX14_at 55 = .ok (.iload_n 3, 1) := by decide +kernel
theorem dX14_at_56 : decode cX14_at 56 = .ok (.iadd, 1) := by decide +kernel
theorem dX14_at_57 : decode cX14_at 57 = .ok (.iaload, 1) := by decide +kernel
theorem dX14_at_58 : decode cX14_at 58 = .ok (.invokevirtual 76, 3) := by decide +kernel
theorem dX14_at_61 : decode cX14_at 61 = .ok (.ireturn, 1) := by decide +kernel
set_option maxRecDepth 100000 in
set_option maxHeartbeats 4000000 in
theorem mX14_at {E : goEv} {l : Launch} {G : goG} {N : Nat} {M : goMI} {L : goML} {R : goMR} {v1 : Int32} {v2 : Int32} {v3 : Int32} {r0 : Int32} {r1 : goMI} (hk : goKn E) (hW : goW G R) (h : fX14_at N M R v1 v2 v3 = some (r0, r1)) : Met l yX14_at (goCd yX14_at cX14_at 4 (Option.some FieldType.int)) (goRoom 6 146 0 0) (goPre E [.ref 102, .int v1, .int v2, .int v3] G M L R) (goQi E r0 G r1 L R) 0 0 (goSet E) := by
  refine goMet pl_RX14 hk (lv := [some (.ref 102), some (.int v1), some (.int v2), some (.int v3)]) rfl (Nat.le_of_ble_eq_true rfl) ?_
  intro X hc hl hR hr hnm
  subst hl
  unfold fX14_at at h
  refine go_aload0 hc dX14_at_0 ?_
  refine go_iconst (v := 0) hc dX14_at_1 rfl ?_
  replace h := goNm_x h; obtain ⟨M11, e12, h⟩ := h
  refine go_ptI hc lk_RX14_66 dX14_at_2 (sh_102 hW) e12 ?_
  refine go_aload0 hc dX14_at_5 ?_
  refine go_iload1 hc dX14_at_6 ?_
  replace h := goBind h; obtain ⟨x13, e14, h⟩ := h
  refine go_callVi hc dX14_at_7 (mX14_isCase hk hW e14) ml_RX14_514 yk_X14_isCase ⟨wim_X14_isCase, wse_X14_isCase⟩ hR rfl (sh_102 hW) rfl rfl rfl (Nat.le_of_ble_eq_true rfl) rfl ?_
  refine go_if_eq hc 21 dX14_at_10 rfl (fun c15 => ?_) (fun c15 => ?_)
  · replace h := goIfT h c15
    refine go_aload0 hc dX14_at_21 ?_
    refine go_iconst (v := 1) hc dX14_at_22 rfl ?_
    replace h := goB2_h h; obtain ⟨x16, M17, e18, h⟩ := h
    refine go_callVi hc dX14_at_23 (mX14_refused hk hW e18) ml_RX14_72 yk_X14_refused ⟨wim_X14_refused, wse_X14_refused⟩ hR rfl (sh_102 hW) rfl rfl rfl (Nat.le_of_ble_eq_true rfl) rfl ?_
    cases h
    exact go_iret hc dX14_at_26 hr
  · replace h := goIfF h c15
    refine go_aload0 hc dX14_at_13 ?_
    refine go_iload2 hc dX14_at_14 ?_
    replace h := goBind h; obtain ⟨x19, e20, h⟩ := h
    refine go_callVi hc dX14_at_15 (mX14_isGoat hk hW e20) ml_RX14_497 yk_X14_isGoat ⟨wim_X14_isGoat, wse_X14_isGoat⟩ hR rfl (sh_102 hW) rfl rfl rfl (Nat.le_of_ble_eq_true rfl) rfl ?_
    refine go_if_ne hc 27 dX14_at_18 rfl (fun c21 => ?_) (fun c21 => ?_)
    · replace h := goIfF h c21
      refine go_aload0 hc dX14_at_27 ?_
      refine go_iload3 hc dX14_at_28 ?_
      replace h := goBind h; obtain ⟨x22, e23, h⟩ := h
      refine go_callVi hc dX14_at_29 (mX14_isHour hk hW e23) ml_RX14_509 yk_X14_isHour ⟨wim_X14_isHour, wse_X14_isHour⟩ hR rfl (sh_102 hW) rfl rfl rfl (Nat.le_of_ble_eq_true rfl) rfl ?_
      refine go_if_ne hc 41 dX14_at_32 rfl (fun c24 => ?_) (fun c24 => ?_)
      · replace h := goIfF h c24
        refine go_aload0 hc dX14_at_41 ?_
        refine go_iload1 hc dX14_at_42 ?_
        replace h := goBind h; obtain ⟨M25, e26, h⟩ := h
        refine go_callVv hc dX14_at_43 (mX14_day hk hW e26) ml_RX14_482 yk_X14_day ⟨wim_X14_day, wse_X14_day⟩ hR rfl (sh_102 hW) rfl rfl rfl (Nat.le_of_ble_eq_true rfl) rfl ?_
        refine go_aload0 hc dX14_at_46 ?_
        refine go_aload0 hc dX14_at_47 ?_
        refine go_getR hc lk_RX14_30 dX14_at_48 (sh_102 hW) (rf_102_23 hW) ?_
        refine go_bipush (v := 12) hc dX14_at_51 rfl ?_
        refine go_iload2 hc dX14_at_53 ?_
        refine go_imul hc dX14_at_54 ?_
        refine go_iload3 hc dX14_at_55 ?_
        refine go_iadd hc dX14_at_56 ?_
        replace h := goBind h; obtain ⟨x27, e28, h⟩ := h
        refine go_iald hc dX14_at_57 (sh_108 hW) e28 ?_
        replace h := goB2_h h; obtain ⟨x29, M30, e31, h⟩ := h
        refine go_callVi hc dX14_at_58 (mX14_good hk hW e31) ml_RX14_76 yk_X14_good ⟨wim_X14_good, wse_X14_good⟩ hR rfl (sh_102 hW) rfl rfl rfl (Nat.le_of_ble_eq_true rfl) rfl ?_
        cases h
        exact go_iret hc dX14_at_61 hr
      · replace h := goIfT h c24
        refine go_aload0 hc dX14_at_35 ?_
        refine go_iconst (v := 2) hc dX14_at_36 rfl ?_
        replace h := goB2_h h; obtain ⟨x32, M33, e34, h⟩ := h
        refine go_callVi hc dX14_at_37 (mX14_refused hk hW e34) ml_RX14_72 yk_X14_refused ⟨wim_X14_refused, wse_X14_refused⟩ hR rfl (sh_102 hW) rfl rfl rfl (Nat.le_of_ble_eq_true rfl) rfl ?_
        cases h
        exact go_iret hc dX14_at_40 hr
    · replace h := goIfT h c21
      refine go_aload0 hc dX14_at_21 ?_
      refine go_iconst (v := 1) hc dX14_at_22 rfl ?_
      replace h := goB2_h h; obtain ⟨x35, M36, e37, h⟩ := h
      refine go_callVi hc dX14_at_23 (mX14_refused hk hW e37) ml_RX14_72 yk_X14_refused ⟨wim_X14_refused, wse_X14_refused⟩ hR rfl (sh_102 hW) rfl rfl rfl (Nat.le_of_ble_eq_true rfl) rfl ?_
      cases h
      exact go_iret hc dX14_at_26 hr
theorem dX14_ate_0 : decode cX14_ate 0 = .ok (.aload_n 0, 1) := by decide +kernel
theorem dX14_ate_1 : decode cX14_ate 1 = .ok (.iconst 0, 1) := by decide +kernel
theorem dX14_ate_2 : decode cX14_ate 2 = .ok (.putfield 66, 3) := by decide +kernel
theorem dX14_ate_5 : decode cX14_ate 5 = .ok (.aload_n 0, 1) := by decide +kernel
theorem dX14_ate_6 : decode cX14_ate 6 = .ok (.iload_n 1, 1) := by decide +kernel
theorem dX14_ate_7 : decode cX14_ate 7 = .ok (.invokevirtual 514, 3) := by decide +kernel
theorem dX14_ate_10 : decode cX14_ate 10 = .ok (.ifCond .eq 19, 3) := by decide +kernel
theorem dX14_ate_13 : decode cX14_ate 13 = .ok (.aload_n 0, 1) := by decide +kernel
theorem dX14_ate_14 : decode cX14_ate 14 = .ok (.iload_n 2, 1) := by decide +kernel
theorem dX14_ate_15 : decode cX14_ate 15 = .ok (.invokevirtual 497, 3) := by decide +kernel
theorem dX14_ate_18 : decode cX14_ate 18 = .ok (.ifCond .eq 11, 3) := by decide +kernel
theorem dX14_ate_21 : decode cX14_ate 21 = .ok (.aload_n 0, 1) := by decide +kernel
theorem dX14_ate_22 : decode cX14_ate 22 = .ok (.iload_n 3, 1) := by decide +kernel
theorem dX14_ate_23 : decode cX14_ate 23 = .ok (.invokevirtual 494, 3) := by decide +kernel
theorem dX14_ate_26 : decode cX14_ate 26 = .ok (.ifCond .ne 9, 3) := by decide +kernel
theorem dX14_ate_29 : decode cX14_ate 29 = .ok (.aload_n 0, 1) := by decide +kernel
theorem dX14_ate_30 : decode cX14_ate 30 = .ok (.iconst 1, 1) := by decide +kernel
theorem dX14_ate_31 : decode cX14_ate 31 = .ok (.invokevirtual 72, 3) := by decide +kernel
theorem dX14_ate_34 : decode cX14_ate 34 = .ok (.ireturn, 1) := by decide +kernel
theorem dX14_ate_35 : decode cX14_ate 35 = .ok (.aload_n 0, 1) := by decide +kernel
theorem dX14_ate_36 : decode cX14_ate 36 = .ok (.iload_n 1, 1) := by decide +kernel
theorem dX14_ate_37 : decode cX14_ate 37 = .ok (.invokevirtual 482, 3) := by decide +kernel
theorem dX14_ate_40 : decode cX14_ate 40 = .ok (.aload_n 0, 1) := by decide +kernel
theorem dX14_ate_41 : decode cX14_ate 41 = .ok (.aload_n 0, 1) := by decide +kernel
theorem dX14_ate_42 : decode cX14_ate 42 = .ok (.iload_n 2, 1) := by decide +kernel
theorem dX14_ate_43 : decode cX14_ate 43 = .ok (.iload_n 3, 1) := by decide +kernel
theorem dX14_ate_44 : decode cX14_ate 44 = .ok (.invokevirtual 520, 3) := by decide +kernel
theorem dX14_ate_47 : decode cX14_ate 47 = .ok (.invokevirtual 76, 3) := by decide +kernel
theorem dX14_ate_50 : decode cX14_ate 50 = .ok (.ireturn, 1) := by decide +kernel
set_option maxRecDepth 100000 in
set_option maxHeartbeats 4000000 in
theorem mX14_ate {E : goEv} {l : Launch} {G : goG} {N : Nat} {M : goMI} {L : goML} {R : goMR} {v1 : Int32} {v2 : Int32} {v3 : Int32} {r0 : Int32} {r1 : goMI} (hk : goKn E) (hW : goW G R) (h : fX14_ate N M R v1 v2 v3 = some (r0, r1)) : Met l yX14_ate (goCd yX14_ate cX14_ate 4 (Option.some FieldType.int)) (goRoom 6 146 0 0) (goPre E [.ref 102, .int v1, .int v2, .int v3] G M L R) (goQi E r0 G r1 L R) 0 0 (goSet E) := by
  refine goMet pl_RX14 hk (lv := [some (.ref 102), some (.int v1), some (.int v2), some (.int v3)]) rfl (Nat.le_of_ble_eq_true rfl) ?_
  intro X hc hl hR hr hnm
  subst hl
  unfold fX14_ate at h
  refine go_aload0 hc dX14_ate_0 ?_
  refine go_iconst (v := 0) hc dX14_ate_1 rfl ?_
  replace h := goNm_x h; obtain ⟨M11, e12, h⟩ := h
  refine go_ptI hc lk_RX14_66 dX14_ate_2 (sh_102 hW) e12 ?_
  refine go_aload0 hc dX14_ate_5 ?_
  refine go_iload1 hc dX14_ate_6 ?_
  replace h := goBind h; obtain ⟨x13, e14, h⟩ := h
  refine go_callVi hc dX14_ate_7 (mX14_isCase hk hW e14) ml_RX14_514 yk_X14_isCase ⟨wim_X14_isCase, wse_X14_isCase⟩ hR rfl (sh_102 hW) rfl rfl rfl (Nat.le_of_ble_eq_true rfl) rfl ?_
  refine go_if_eq hc 29 dX14_ate_10 rfl (fun c15 => ?_) (fun c15 => ?_)
  · replace h := goIfT h c15
    refine go_aload0 hc dX14_ate_29 ?_
    refine go_iconst (v := 1) hc dX14_ate_30 rfl ?_
    replace h := goB2_h h; obtain ⟨x16, M17, e18, h⟩ := h
    refine go_callVi hc dX14_ate_31 (mX14_refused hk hW e18) ml_RX14_72 yk_X14_refused ⟨wim_X14_refused, wse_X14_refused⟩ hR rfl (sh_102 hW) rfl rfl rfl (Nat.le_of_ble_eq_true rfl) rfl ?_
    cases h
    exact go_iret hc dX14_ate_34 hr
  · replace h := goIfF h c15
    refine go_aload0 hc dX14_ate_13 ?_
    refine go_iload2 hc dX14_ate_14 ?_
    replace h := goBind h; obtain ⟨x19, e20, h⟩ := h
    refine go_callVi hc dX14_ate_15 (mX14_isGoat hk hW e20) ml_RX14_497 yk_X14_isGoat ⟨wim_X14_isGoat, wse_X14_isGoat⟩ hR rfl (sh_102 hW) rfl rfl rfl (Nat.le_of_ble_eq_true rfl) rfl ?_
    refine go_if_eq hc 29 dX14_ate_18 rfl (fun c21 => ?_) (fun c21 => ?_)
    · replace h := goIfT h c21
      refine go_aload0 hc dX14_ate_29 ?_
      refine go_iconst (v := 1) hc dX14_ate_30 rfl ?_
      replace h := goB2_h h; obtain ⟨x22, M23, e24, h⟩ := h
      refine go_callVi hc dX14_ate_31 (mX14_refused hk hW e24) ml_RX14_72 yk_X14_refused ⟨wim_X14_refused, wse_X14_refused⟩ hR rfl (sh_102 hW) rfl rfl rfl (Nat.le_of_ble_eq_true rfl) rfl ?_
      cases h
      exact go_iret hc dX14_ate_34 hr
    · replace h := goIfF h c21
      refine go_aload0 hc dX14_ate_21 ?_
      refine go_iload3 hc dX14_ate_22 ?_
      replace h := goBind h; obtain ⟨x25, e26, h⟩ := h
      refine go_callVi hc dX14_ate_23 (mX14_isPlant hk hW e26) ml_RX14_494 yk_X14_isPlant ⟨wim_X14_isPlant, wse_X14_isPlant⟩ hR rfl (sh_102 hW) rfl rfl rfl (Nat.le_of_ble_eq_true rfl) rfl ?_
      refine go_if_ne hc 35 dX14_ate_26 rfl (fun c27 => ?_) (fun c27 => ?_)
      · replace h := goIfF h c27
        refine go_aload0 hc dX14_ate_35 ?_
        refine go_iload1 hc dX14_ate_36 ?_
        replace h := goBind h; obtain ⟨M28, e29, h⟩ := h
        refine go_callVv hc dX14_ate_37 (mX14_day hk hW e29) ml_RX14_482 yk_X14_day ⟨wim_X14_day, wse_X14_day⟩ hR rfl (sh_102 hW) rfl rfl rfl (Nat.le_of_ble_eq_true rfl) rfl ?_
        refine go_aload0 hc dX14_ate_40 ?_
        refine go_aload0 hc dX14_ate_41 ?_
        refine go_iload2 hc dX14_ate_42 ?_
        refine go_iload3 hc dX14_ate_43 ?_
        replace h := goBind h; obtain ⟨x30, e31, h⟩ := h
        refine go_callVi hc dX14_ate_44 (mX14_ateOf hk hW e31) ml_RX14_520 yk_X14_ateOf ⟨wim_X14_ateOf, wse_X14_ateOf⟩ hR rfl (sh_102 hW) rfl rfl rfl (Nat.le_of_ble_eq_true rfl) rfl ?_
        replace h := goB2_h h; obtain ⟨x32, M33, e34, h⟩ := h
        refine go_callVi hc dX14_ate_47 (mX14_good hk hW e34) ml_RX14_76 yk_X14_good ⟨wim_X14_good, wse_X14_good⟩ hR rfl (sh_102 hW) rfl rfl rfl (Nat.le_of_ble_eq_true rfl) rfl ?_
        cases h
        exact go_iret hc dX14_ate_50 hr
      · replace h := goIfT h c27
        refine go_aload0 hc dX14_ate_29 ?_
        refine go_iconst (v := 1) hc dX14_ate_30 rfl ?_
        replace h := goB2_h h; obtain ⟨x35, M36, e37, h⟩ := h
        refine go_callVi hc dX14_ate_31 (mX14_refused hk hW e37) ml_RX14_72 yk_X14_refused ⟨wim_X14_refused, wse_X14_refused⟩ hR rfl (sh_102 hW) rfl rfl rfl (Nat.le_of_ble_eq_true rfl) rfl ?_
        cases h
        exact go_iret hc dX14_ate_34 hr
theorem dX14_drops_0 : decode cX14_drops 0 = .ok (.aload_n 0, 1) := by decide +kernel
theorem dX14_drops_1 : decode cX14_drops 1 = .ok (.iconst 0, 1) := by decide +kernel
theorem dX14_drops_2 : decode cX14_drops 2 = .ok (.putfield 66, 3) := by decide +kernel
theorem dX14_drops_5 : decode cX14_drops 5 = .ok (.aload_n 0, 1) := by decide +kernel
theorem dX14_drops_6 : decode cX14_drops 6 = .ok (.iload_n 1, 1) := by decide +kernel
theorem dX14_drops_7 : decode cX14_drops 7 = .ok (.invokevirtual 514, 3) := by decide +kernel
theorem dX14_drops_10 : decode cX14_drops 10 = .ok (.ifCond .eq 28, 3) := by decide +kernel
theorem dX14_drops_13 : decode cX14_drops 13 = .ok (.aload_n 0, 1) := by decide +kernel
theorem dX14_drops_14 : decode cX14_drops 14 = .ok (.iload_n 2, 1) := by decide +kernel
theorem dX14_drops_15 : decode cX14_drops 15 = .ok (.invokevirtual 497, 3) := by decide +kernel
theorem dX14_drops_18 : decode cX14_drops 18 = .ok (.ifCond .eq 20, 3) := by decide +kernel
theorem dX14_drops_21 : decode cX14_drops 21 = .ok (.aload_n 0, 1) := by decide +kernel
theorem dX14_drops_22 : decode cX14_drops 22 = .ok (.iload_n 3, 1) := by decide +kernel
theorem dX14_drops_23 : decode cX14_drops 23 = .ok (.invokevirtual 494, 3) := by decide +kernel
theorem dX14_drops_26 : decode cX14_drops 26 = .ok (.ifCond .eq 12, 3) := by decide +kernel
theorem dX14_drops_29 : decode cX14_drops 29 = .ok (.aload_n 0, 1) := by decide +kernel
theorem dX14_drops_30 : decode cX14_drops 30 = .ok (.iload 4, 2) := by decide +kernel
theorem dX14_drops_32 : decode cX14_drops 32 = .ok (.invokevirtual 491, 3) := by decide +kernel
theorem dX14_drops_35 : decode cX14_drops 35 = .ok (.ifCond .ne 9, 3) := by decide +kernel
theorem dX14_drops_38 : decode cX14_drops 38 = .ok (.aload_n 0, 1) := by decide +kernel
theorem dX14_drops_39 : decode cX14_drops 39 = .ok (.iconst 1, 1) := by decide +kernel
theorem dX14_drops_40 : decode cX14_drops 40 = .ok (.invokevirtual 72, 3) := by decide +kernel
theorem dX14_drops_43 : decode cX14_drops 43 = .ok (.ireturn, 1) := by decide +kernel
theorem dX14_drops_44 : decode cX14_drops 44 = .ok (.aload_n 0, 1) := by decide +kernel
theorem dX14_drops_45 : decode cX14_drops 45 = .ok (.iload_n 1, 1) := by decide +kernel
theorem dX14_drops_46 : decode cX14_drops 46 = .ok (.invokevirtual 482, 3) := by decide +kernel
theorem dX14_drops_49 : decode cX14_drops 49 = .ok (.aload_n 0, 1) := by decide +kernel
theorem dX14_drops_50 : decode cX14_drops 50 = .ok (.aload_n 0, 1) := by decide +kernel
theorem dX14_drops_51 : decode cX14_drops 51 = .ok (.iload_n 2, 1) := by decide +kernel
theorem dX14_drops_52 : decode cX14_drops 52 = .ok (.iload_n 3, 1) := by decide +kernel
theorem dX14_drops_53 : decode cX14_drops 53 = .ok (.iload 4, 2) := by decide +kernel
theorem dX14_drops_55 : decode cX14_drops 55 = .ok (.invokevirtual 479, 3) := by decide +kernel
theorem dX14_drops_58 : decode cX14_drops 58 = .ok (.invokevirtual 76, 3) := by decide +kernel
theorem dX14_drops_61 : decode cX14_drops 61 = .ok (.ireturn, 1) := by decide +kernel
set_option maxRecDepth 100000 in
set_option maxHeartbeats 4000000 in
theorem mX14_drops {E : goEv} {l : Launch} {G : goG} {N : Nat} {M : goMI} {L : goML} {R : goMR} {v1 : Int32} {v2 : Int32} {v3 : Int32} {v4 : Int32} {r0 : Int32} {r1 : goMI} (hk : goKn E) (hW : goW G R) (h : fX14_drops N M R v1 v2 v3 v4 = some (r0, r1)) : Met l yX14_drops (goCd yX14_drops cX14_drops 5 (Option.some FieldType.int)) (goRoom 6 146 0 0) (goPre E [.ref 102, .int v1, .int v2, .int v3, .int v4] G M L R) (goQi E r0 G r1 L R) 0 0 (goSet E) := by
  refine goMet pl_RX14 hk (lv := [some (.ref 102), some (.int v1), some (.int v2), some (.int v3), some (.int v4)]) rfl (Nat.le_of_ble_eq_true rfl) ?_
  intro X hc hl hR hr hnm
  subst hl
  unfold fX14_drops at h
  refine go_aload0 hc dX14_drops_0 ?_
  refine go_iconst (v := 0) hc dX14_drops_1 rfl ?_
  replace h := goNm_x h; obtain ⟨M11, e12, h⟩ := h
  refine go_ptI hc lk_RX14_66 dX14_drops_2 (sh_102 hW) e12 ?_
  refine go_aload0 hc dX14_drops_5 ?_
  refine go_iload1 hc dX14_drops_6 ?_
  replace h := goBind h; obtain ⟨x13, e14, h⟩ := h
  refine go_callVi hc dX14_drops_7 (mX14_isCase hk hW e14) ml_RX14_514 yk_X14_isCase ⟨wim_X14_isCase, wse_X14_isCase⟩ hR rfl (sh_102 hW) rfl rfl rfl (Nat.le_of_ble_eq_true rfl) rfl ?_
  refine go_if_eq hc 38 dX14_drops_10 rfl (fun c15 => ?_) (fun c15 => ?_)
  · replace h := goIfT h c15
    refine go_aload0 hc dX14_drops_38 ?_
    refine go_iconst (v := 1) hc dX14_drops_39 rfl ?_
    replace h := goB2_h h; obtain ⟨x16, M17, e18, h⟩ := h
    refine go_callVi hc dX14_drops_40 (mX14_refused hk hW e18) ml_RX14_72 yk_X14_refused ⟨wim_X14_refused, wse_X14_refused⟩ hR rfl (sh_102 hW) rfl rfl rfl (Nat.le_of_ble_eq_true rfl) rfl ?_
    cases h
    exact go_iret hc dX14_drops_43 hr
  · replace h := goIfF h c15
    refine go_aload0 hc dX14_drops_13 ?_
    refine go_iload2 hc dX14_drops_14 ?_
    replace h := goBind h; obtain ⟨x19, e20, h⟩ := h
    refine go_callVi hc dX14_drops_15 (mX14_isGoat hk hW e20) ml_RX14_497 yk_X14_isGoat ⟨wim_X14_isGoat, wse_X14_isGoat⟩ hR rfl (sh_102 hW) rfl rfl rfl (Nat.le_of_ble_eq_true rfl) rfl ?_
    refine go_if_eq hc 38 dX14_drops_18 rfl (fun c21 => ?_) (fun c21 => ?_)
    · replace h := goIfT h c21
      refine go_aload0 hc dX14_drops_38 ?_
      refine go_iconst (v := 1) hc dX14_drops_39 rfl ?_
      replace h := goB2_h h; obtain ⟨x22, M23, e24, h⟩ := h
      refine go_callVi hc dX14_drops_40 (mX14_refused hk hW e24) ml_RX14_72 yk_X14_refused ⟨wim_X14_refused, wse_X14_refused⟩ hR rfl (sh_102 hW) rfl rfl rfl (Nat.le_of_ble_eq_true rfl) rfl ?_
      cases h
      exact go_iret hc dX14_drops_43 hr
    · replace h := goIfF h c21
      refine go_aload0 hc dX14_drops_21 ?_
      refine go_iload3 hc dX14_drops_22 ?_
      replace h := goBind h; obtain ⟨x25, e26, h⟩ := h
      refine go_callVi hc dX14_drops_23 (mX14_isPlant hk hW e26) ml_RX14_494 yk_X14_isPlant ⟨wim_X14_isPlant, wse_X14_isPlant⟩ hR rfl (sh_102 hW) rfl rfl rfl (Nat.le_of_ble_eq_true rfl) rfl ?_
      refine go_if_eq hc 38 dX14_drops_26 rfl (fun c27 => ?_) (fun c27 => ?_)
      · replace h := goIfT h c27
        refine go_aload0 hc dX14_drops_38 ?_
        refine go_iconst (v := 1) hc dX14_drops_39 rfl ?_
        replace h := goB2_h h; obtain ⟨x28, M29, e30, h⟩ := h
        refine go_callVi hc dX14_drops_40 (mX14_refused hk hW e30) ml_RX14_72 yk_X14_refused ⟨wim_X14_refused, wse_X14_refused⟩ hR rfl (sh_102 hW) rfl rfl rfl (Nat.le_of_ble_eq_true rfl) rfl ?_
        cases h
        exact go_iret hc dX14_drops_43 hr
      · replace h := goIfF h c27
        refine go_aload0 hc dX14_drops_29 ?_
        refine go_iload4 hc dX14_drops_30 ?_
        replace h := goBind h; obtain ⟨x31, e32, h⟩ := h
        refine go_callVi hc dX14_drops_32 (mX14_isPlace hk hW e32) ml_RX14_491 yk_X14_isPlace ⟨wim_X14_isPlace, wse_X14_isPlace⟩ hR rfl (sh_102 hW) rfl rfl rfl (Nat.le_of_ble_eq_true rfl) rfl ?_
        refine go_if_ne hc 44 dX14_drops_35 rfl (fun c33 => ?_) (fun c33 => ?_)
        · replace h := goIfF h c33
          refine go_aload0 hc dX14_drops_44 ?_
          refine go_iload1 hc dX14_drops_45 ?_
          replace h := goBind h; obtain ⟨M34, e35, h⟩ := h
          refine go_callVv hc dX14_drops_46 (mX14_day hk hW e35) ml_RX14_482 yk_X14_day ⟨wim_X14_day, wse_X14_day⟩ hR rfl (sh_102 hW) rfl rfl rfl (Nat.le_of_ble_eq_true rfl) rfl ?_
          refine go_aload0 hc dX14_drops_49 ?_
          refine go_aload0 hc dX14_drops_50 ?_
          refine go_iload2 hc dX14_drops_51 ?_
          refine go_iload3 hc dX14_drops_52 ?_
          refine go_iload4 hc dX14_drops_53 ?_
          replace h := goBind h; obtain ⟨x36, e37, h⟩ := h
          refine go_callVi hc dX14_drops_55 (mX14_dropped hk hW e37) ml_RX14_479 yk_X14_dropped ⟨wim_X14_dropped, wse_X14_dropped⟩ hR rfl (sh_102 hW) rfl rfl rfl (Nat.le_of_ble_eq_true rfl) rfl ?_
          replace h := goB2_h h; obtain ⟨x38, M39, e40, h⟩ := h
          refine go_callVi hc dX14_drops_58 (mX14_good hk hW e40) ml_RX14_76 yk_X14_good ⟨wim_X14_good, wse_X14_good⟩ hR rfl (sh_102 hW) rfl rfl rfl (Nat.le_of_ble_eq_true rfl) rfl ?_
          cases h
          exact go_iret hc dX14_drops_61 hr
        · replace h := goIfT h c33
          refine go_aload0 hc dX14_drops_38 ?_
          refine go_iconst (v := 1) hc dX14_drops_39 rfl ?_
          replace h := goB2_h h; obtain ⟨x41, M42, e43, h⟩ := h
          refine go_callVi hc dX14_drops_40 (mX14_refused hk hW e43) ml_RX14_72 yk_X14_refused ⟨wim_X14_refused, wse_X14_refused⟩ hR rfl (sh_102 hW) rfl rfl rfl (Nat.le_of_ble_eq_true rfl) rfl ?_
          cases h
          exact go_iret hc dX14_drops_43 hr
theorem dX14_flees_0 : decode cX14_flees 0 = .ok (.aload_n 0, 1) := by decide +kernel
theorem dX14_flees_1 : decode cX14_flees 1 = .ok (.iconst 0, 1) := by decide +kernel
theorem dX14_flees_2 : decode cX14_flees 2 = .ok (.putfield 66, 3) := by decide +kernel
theorem dX14_flees_5 : decode cX14_flees 5 = .ok (.aload_n 0, 1) := by decide +kernel
theorem dX14_flees_6 : decode cX14_flees 6 = .ok (.iload_n 1, 1) := by decide +kernel
theorem dX14_flees_7 : decode cX14_flees 7 = .ok (.invokevirtual 514, 3) := by decide +kernel
theorem dX14_flees_10 : decode cX14_flees 10 = .ok (.ifCond .eq 11, 3) := by decide +kernel
theorem dX14_flees_13 : decode cX14_flees 13 = .ok (.aload_n 0, 1) := by decide +kernel
theorem dX14_flees_14 : decode cX14_flees 14 = .ok (.iload_n 2, 1) := by decide +kernel
theorem dX14_flees_15 : decode cX14_flees 15 = .ok (.invokevirtual 497, 3) := by decide +kernel
theorem dX14_flees_18 : decode cX14_flees 18 = .ok (.ifCond .ne 9, 3) := by decide +kernel
theorem dX14_flees_21 : decode cX14_flees 21 = .ok (.aload_n 0, 1) := by decide +kernel
theorem dX14_flees_22 : decode cX14_flees 22 = .ok (.iconst 1, 1) := by decide +kernel
theorem dX14_flees_23 : decode cX14_flees 23 = .ok (.invokevirtual 72, 3) := by decide +kernel
theorem dX14_flees_26 : decode cX14_flees 26 = .ok (.ireturn, 1) := by decide +kernel
theorem dX14_flees_27 : decode cX14_flees 27 = .ok (.aload_n 0, 1) := by decide +kernel
theorem dX14_flees_28 : decode cX14_flees 28 = .ok (.iload_n 1, 1) := by decide +kernel
theorem dX14_flees_29 : decode cX14_flees 29 = .ok (.invokevirtual 482, 3) := by decide +kernel
theorem dX14_flees_32 : decode cX14_flees 32 = .ok (.aload_n 0, 1) := by decide +kernel
theorem dX14_flees_33 : decode cX14_flees 33 = .ok (.aload_n 0, 1) := by decide +kernel
theorem dX14_flees_34 : decode cX14_flees 34 = .ok (.getfield 42, 3) := by decide +kernel
theorem dX14_flees_37 : decode cX14_flees 37 = .ok (.iload_n 2, 1) := by decide +kernel
theorem dX14_flees_38 : decode cX14_flees 38 = .ok (.iaload, 1) := by decide +kernel
theorem dX14_flees_39 : decode cX14_flees 39 = .ok (.invokevirtual 76, 3) := by decide +kernel
theorem dX14_flees_42 : decode cX14_flees 42 = .ok (.ireturn, 1) := by decide +kernel
set_option maxRecDepth 100000 in
set_option maxHeartbeats 4000000 in
theorem mX14_flees {E : goEv} {l : Launch} {G : goG} {N : Nat} {M : goMI} {L : goML} {R : goMR} {v1 : Int32} {v2 : Int32} {r0 : Int32} {r1 : goMI} (hk : goKn E) (hW : goW G R) (h : fX14_flees N M R v1 v2 = some (r0, r1)) : Met l yX14_flees (goCd yX14_flees cX14_flees 3 (Option.some FieldType.int)) (goRoom 6 146 0 0) (goPre E [.ref 102, .int v1, .int v2] G M L R) (goQi E r0 G r1 L R) 0 0 (goSet E) := by
  refine goMet pl_RX14 hk (lv := [some (.ref 102), some (.int v1), some (.int v2)]) rfl (Nat.le_of_ble_eq_true rfl) ?_
  intro X hc hl hR hr hnm
  subst hl
  unfold fX14_flees at h
  refine go_aload0 hc dX14_flees_0 ?_
  refine go_iconst (v := 0) hc dX14_flees_1 rfl ?_
  replace h := goNm_x h; obtain ⟨M11, e12, h⟩ := h
  refine go_ptI hc lk_RX14_66 dX14_flees_2 (sh_102 hW) e12 ?_
  refine go_aload0 hc dX14_flees_5 ?_
  refine go_iload1 hc dX14_flees_6 ?_
  replace h := goBind h; obtain ⟨x13, e14, h⟩ := h
  refine go_callVi hc dX14_flees_7 (mX14_isCase hk hW e14) ml_RX14_514 yk_X14_isCase ⟨wim_X14_isCase, wse_X14_isCase⟩ hR rfl (sh_102 hW) rfl rfl rfl (Nat.le_of_ble_eq_true rfl) rfl ?_
  refine go_if_eq hc 21 dX14_flees_10 rfl (fun c15 => ?_) (fun c15 => ?_)
  · replace h := goIfT h c15
    refine go_aload0 hc dX14_flees_21 ?_
    refine go_iconst (v := 1) hc dX14_flees_22 rfl ?_
    replace h := goB2_h h; obtain ⟨x16, M17, e18, h⟩ := h
    refine go_callVi hc dX14_flees_23 (mX14_refused hk hW e18) ml_RX14_72 yk_X14_refused ⟨wim_X14_refused, wse_X14_refused⟩ hR rfl (sh_102 hW) rfl rfl rfl (Nat.le_of_ble_eq_true rfl) rfl ?_
    cases h
    exact go_iret hc dX14_flees_26 hr
  · replace h := goIfF h c15
    refine go_aload0 hc dX14_flees_13 ?_
    refine go_iload2 hc dX14_flees_14 ?_
    replace h := goBind h; obtain ⟨x19, e20, h⟩ := h
    refine go_callVi hc dX14_flees_15 (mX14_isGoat hk hW e20) ml_RX14_497 yk_X14_isGoat ⟨wim_X14_isGoat, wse_X14_isGoat⟩ hR rfl (sh_102 hW) rfl rfl rfl (Nat.le_of_ble_eq_true rfl) rfl ?_
    refine go_if_ne hc 27 dX14_flees_18 rfl (fun c21 => ?_) (fun c21 => ?_)
    · replace h := goIfF h c21
      refine go_aload0 hc dX14_flees_27 ?_
      refine go_iload1 hc dX14_flees_28 ?_
      replace h := goBind h; obtain ⟨M22, e23, h⟩ := h
      refine go_callVv hc dX14_flees_29 (mX14_day hk hW e23) ml_RX14_482 yk_X14_day ⟨wim_X14_day, wse_X14_day⟩ hR rfl (sh_102 hW) rfl rfl rfl (Nat.le_of_ble_eq_true rfl) rfl ?_
      refine go_aload0 hc dX14_flees_32 ?_
      refine go_aload0 hc dX14_flees_33 ?_
      refine go_getR hc lk_RX14_42 dX14_flees_34 (sh_102 hW) (rf_102_27 hW) ?_
      refine go_iload2 hc dX14_flees_37 ?_
      replace h := goBind h; obtain ⟨x24, e25, h⟩ := h
      refine go_iald hc dX14_flees_38 (sh_112 hW) e25 ?_
      replace h := goB2_h h; obtain ⟨x26, M27, e28, h⟩ := h
      refine go_callVi hc dX14_flees_39 (mX14_good hk hW e28) ml_RX14_76 yk_X14_good ⟨wim_X14_good, wse_X14_good⟩ hR rfl (sh_102 hW) rfl rfl rfl (Nat.le_of_ble_eq_true rfl) rfl ?_
      cases h
      exact go_iret hc dX14_flees_42 hr
    · replace h := goIfT h c21
      refine go_aload0 hc dX14_flees_21 ?_
      refine go_iconst (v := 1) hc dX14_flees_22 rfl ?_
      replace h := goB2_h h; obtain ⟨x29, M30, e31, h⟩ := h
      refine go_callVi hc dX14_flees_23 (mX14_refused hk hW e31) ml_RX14_72 yk_X14_refused ⟨wim_X14_refused, wse_X14_refused⟩ hR rfl (sh_102 hW) rfl rfl rfl (Nat.le_of_ble_eq_true rfl) rfl ?_
      cases h
      exact go_iret hc dX14_flees_26 hr
theorem dX14_left_0 : decode cX14_left 0 = .ok (.aload_n 0, 1) := by decide +kernel
theorem dX14_left_1 : decode cX14_left 1 = .ok (.iconst 0, 1) := by decide +kernel
theorem dX14_left_2 : decode cX14_left 2 = .ok (.putfield 66, 3) := by decide +kernel
theorem dX14_left_5 : decode cX14_left 5 = .ok (.aload_n 0, 1) := by decide +kernel
theorem dX14_left_6 : decode cX14_left 6 = .ok (.iload_n 1, 1) := by decide +kernel
theorem dX14_left_7 : decode cX14_left 7 = .ok (.invokevirtual 514, 3) := by decide +kernel
theorem dX14_left_10 : decode cX14_left 10 = .ok (.ifCond .eq 19, 3) := by decide +kernel
theorem dX14_left_13 : decode cX14_left 13 = .ok (.aload_n 0, 1) := by decide +kernel
theorem dX14_left_14 : decode cX14_left 14 = .ok (.iload_n 2, 1) := by decide +kernel
theorem dX14_left_15 : decode cX14_left 15 = .ok (.invokevirtual 491, 3) := by decide +kernel
theorem dX14_left_18 : decode cX14_left 18 = .ok (.ifCond .eq 11, 3) := by decide +kernel
theorem dX14_left_21 : decode cX14_left 21 = .ok (.aload_n 0, 1) := by decide +kernel
theorem dX14_left_22 : decode cX14_left 22 = .ok (.iload_n 3, 1) := by decide +kernel
theorem dX14_left_23 : decode cX14_left 23 = .ok (.invokevirtual 494, 3) := by decide +kernel
theorem dX14_left_26 : decode cX14_left 26 = .ok (.ifCond .ne 9, 3) := by decide +kernel
theorem dX14_left_29 : decode cX14_left 29 = .ok (.aload_n 0, 1) := by decide +kernel
theorem dX14_left_30 : decode cX14_left 30 = .ok (.iconst 1, 1) := by decide +kernel
theorem dX14_left_31 : decode cX14_left 31 = .ok (.invokevirtual 72, 3) := by decide +kernel
theorem dX14_left_34 : decode cX14_left 34 = .ok (.ireturn, 1) := by decide +kernel
theorem dX14_left_35 : decode cX14_left 35 = .ok (.aload_n 0, 1) := by decide +kernel
theorem dX14_left_36 : decode cX14_left 36 = .ok (.iload_n 1, 1) := by decide +kernel
theorem dX14_left_37 : decode cX14_left 37 = .ok (.invokevirtual 482, 3) := by decide +kernel
theorem dX14_left_40 : decode cX14_left 40 = .ok (.aload_n 0, 1) := by decide +kernel
theorem dX14_left_41 : decode cX14_left 41 = .ok (.aload_n 0, 1) := by decide +kernel
theorem dX14_left_42 : decode cX14_left 42 = .ok (.getfield 39, 3) := by decide +kernel
theorem dX14_left_45 : decode cX14_left 45 = .ok (.iconst 4, 1) := by decide +kernel
theorem dX14_left_46 : decode cX14_left 46 = .ok (.iload_n 2, 1) := by decide +kernel
theorem dX14_left_47 : decode cX14_left 47 = .ok (.imul, 1) := by decide +kernel
theorem dX14_left_48 : decode cX14_left 48 = .ok (.iload_n 3, 1) := by decide +kernel
theorem dX14_left_49 : decode cX14_left 49 = .ok (.iadd, 1) := by decide +kernel
theorem dX14_left_50 : decode cX14_left 50 = .ok (.iaload, 1) := by decide +kernel
theorem dX14_left_51 : decode cX14_left 51 = .ok (.invokevirtual 76, 3) := by decide +kernel
theorem dX14_left_54 : decode cX14_left 54 = .ok (.ireturn, 1) := by decide +kernel
set_option maxRecDepth 100000 in
set_option maxHeartbeats 4000000 in
theorem mX14_left {E : goEv} {l : Launch} {G : goG} {N : Nat} {M : goMI} {L : goML} {R : goMR} {v1 : Int32} {v2 : Int32} {v3 : Int32} {r0 : Int32} {r1 : goMI} (hk : goKn E) (hW : goW G R) (h : fX14_left N M R v1 v2 v3 = some (r0, r1)) : Met l yX14_left (goCd yX14_left cX14_left 4 (Option.some FieldType.int)) (goRoom 6 146 0 0) (goPre E [.ref 102, .int v1, .int v2, .int v3] G M L R) (goQi E r0 G r1 L R) 0 0 (goSet E) := by
  refine goMet pl_RX14 hk (lv := [some (.ref 102), some (.int v1), some (.int v2), some (.int v3)]) rfl (Nat.le_of_ble_eq_true rfl) ?_
  intro X hc hl hR hr hnm
  subst hl
  unfold fX14_left at h
  refine go_aload0 hc dX14_left_0 ?_
  refine go_iconst (v := 0) hc dX14_left_1 rfl ?_
  replace h := goNm_x h; obtain ⟨M11, e12, h⟩ := h
  refine go_ptI hc lk_RX14_66 dX14_left_2 (sh_102 hW) e12 ?_
  refine go_aload0 hc dX14_left_5 ?_
  refine go_iload1 hc dX14_left_6 ?_
  replace h := goBind h; obtain ⟨x13, e14, h⟩ := h
  refine go_callVi hc dX14_left_7 (mX14_isCase hk hW e14) ml_RX14_514 yk_X14_isCase ⟨wim_X14_isCase, wse_X14_isCase⟩ hR rfl (sh_102 hW) rfl rfl rfl (Nat.le_of_ble_eq_true rfl) rfl ?_
  refine go_if_eq hc 29 dX14_left_10 rfl (fun c15 => ?_) (fun c15 => ?_)
  · replace h := goIfT h c15
    refine go_aload0 hc dX14_left_29 ?_
    refine go_iconst (v := 1) hc dX14_left_30 rfl ?_
    replace h := goB2_h h; obtain ⟨x16, M17, e18, h⟩ := h
    refine go_callVi hc dX14_left_31 (mX14_refused hk hW e18) ml_RX14_72 yk_X14_refused ⟨wim_X14_refused, wse_X14_refused⟩ hR rfl (sh_102 hW) rfl rfl rfl (Nat.le_of_ble_eq_true rfl) rfl ?_
    cases h
    exact go_iret hc dX14_left_34 hr
  · replace h := goIfF h c15
    refine go_aload0 hc dX14_left_13 ?_
    refine go_iload2 hc dX14_left_14 ?_
    replace h := goBind h; obtain ⟨x19, e20, h⟩ := h
    refine go_callVi hc dX14_left_15 (mX14_isPlace hk hW e20) ml_RX14_491 yk_X14_isPlace ⟨wim_X14_isPlace, wse_X14_isPlace⟩ hR rfl (sh_102 hW) rfl rfl rfl (Nat.le_of_ble_eq_true rfl) rfl ?_
    refine go_if_eq hc 29 dX14_left_18 rfl (fun c21 => ?_) (fun c21 => ?_)
    · replace h := goIfT h c21
      refine go_aload0 hc dX14_left_29 ?_
      refine go_iconst (v := 1) hc dX14_left_30 rfl ?_
      replace h := goB2_h h; obtain ⟨x22, M23, e24, h⟩ := h
      refine go_callVi hc dX14_left_31 (mX14_refused hk hW e24) ml_RX14_72 yk_X14_refused ⟨wim_X14_refused, wse_X14_refused⟩ hR rfl (sh_102 hW) rfl rfl rfl (Nat.le_of_ble_eq_true rfl) rfl ?_
      cases h
      exact go_iret hc dX14_left_34 hr
    · replace h := goIfF h c21
      refine go_aload0 hc dX14_left_21 ?_
      refine go_iload3 hc dX14_left_22 ?_
      replace h := goBind h; obtain ⟨x25, e26, h⟩ := h
      refine go_callVi hc dX14_left_23 (mX14_isPlant hk hW e26) ml_RX14_494 yk_X14_isPlant ⟨wim_X14_isPlant, wse_X14_isPlant⟩ hR rfl (sh_102 hW) rfl rfl rfl (Nat.le_of_ble_eq_true rfl) rfl ?_
      refine go_if_ne hc 35 dX14_left_26 rfl (fun c27 => ?_) (fun c27 => ?_)
      · replace h := goIfF h c27
        refine go_aload0 hc dX14_left_35 ?_
        refine go_iload1 hc dX14_left_36 ?_
        replace h := goBind h; obtain ⟨M28, e29, h⟩ := h
        refine go_callVv hc dX14_left_37 (mX14_day hk hW e29) ml_RX14_482 yk_X14_day ⟨wim_X14_day, wse_X14_day⟩ hR rfl (sh_102 hW) rfl rfl rfl (Nat.le_of_ble_eq_true rfl) rfl ?_
        refine go_aload0 hc dX14_left_40 ?_
        refine go_aload0 hc dX14_left_41 ?_
        refine go_getR hc lk_RX14_39 dX14_left_42 (sh_102 hW) (rf_102_26 hW) ?_
        refine go_iconst (v := 4) hc dX14_left_45 rfl ?_
        refine go_iload2 hc dX14_left_46 ?_
        refine go_imul hc dX14_left_47 ?_
        refine go_iload3 hc dX14_left_48 ?_
        refine go_iadd hc dX14_left_49 ?_
        replace h := goBind h; obtain ⟨x30, e31, h⟩ := h
        refine go_iald hc dX14_left_50 (sh_111 hW) e31 ?_
        replace h := goB2_h h; obtain ⟨x32, M33, e34, h⟩ := h
        refine go_callVi hc dX14_left_51 (mX14_good hk hW e34) ml_RX14_76 yk_X14_good ⟨wim_X14_good, wse_X14_good⟩ hR rfl (sh_102 hW) rfl rfl rfl (Nat.le_of_ble_eq_true rfl) rfl ?_
        cases h
        exact go_iret hc dX14_left_54 hr
      · replace h := goIfT h c27
        refine go_aload0 hc dX14_left_29 ?_
        refine go_iconst (v := 1) hc dX14_left_30 rfl ?_
        replace h := goB2_h h; obtain ⟨x35, M36, e37, h⟩ := h
        refine go_callVi hc dX14_left_31 (mX14_refused hk hW e37) ml_RX14_72 yk_X14_refused ⟨wim_X14_refused, wse_X14_refused⟩ hR rfl (sh_102 hW) rfl rfl rfl (Nat.le_of_ble_eq_true rfl) rfl ?_
        cases h
        exact go_iret hc dX14_left_34 hr
theorem dX14_met_0 : decode cX14_met 0 = .ok (.aload_n 0, 1) := by decide +kernel
theorem dX14_met_1 : decode cX14_met 1 = .ok (.iconst 0, 1) := by decide +kernel
theorem dX14_met_2 : decode cX14_met 2 = .ok (.putfield 66, 3) := by decide +kernel
theorem dX14_met_5 : decode cX14_met 5 = .ok (.aload_n 0, 1) := by decide +kernel
theorem dX14_met_6 : decode cX14_met 6 = .ok (.iload_n 1, 1) := by decide +kernel
theorem dX14_met_7 : decode cX14_met 7 = .ok (.invokevirtual 514, 3) := by decide +kernel
theorem dX14_met_10 : decode cX14_met 10 = .ok (.ifCond .eq 19, 3) := by decide +kernel
theorem dX14_met_13 : decode cX14_met 13 = .ok (.aload_n 0, 1) := by decide +kernel
theorem dX14_met_14 : decode cX14_met 14 = .ok (.iload_n 2, 1) := by decide +kernel
theorem dX14_met_15 : decode cX14_met 15 = .ok (.invokevirtual 497, 3) := by decide +kernel
theorem dX14_met_18 : decode cX14_met 18 = .ok (.ifCond .eq 11, 3) := by decide +kernel
theorem dX14_met_21 : decode cX14_met 21 = .ok (.aload_n 0, 1) := by decide +kernel
theorem dX14_met_22 : decode cX14_met 22 = .ok (.iload_n 3, 1) := by decide +kernel
theorem dX14_met_23 : decode cX14_met 23 = .ok (.invokevirtual 506, 3) := by decide +kernel
theorem dX14_met_26 : decode cX14_met 26 = .ok (.ifCond .ne 9, 3) := by decide +kernel
theorem dX14_met_29 : decode cX14_met 29 = .ok (.aload_n 0, 1) := by decide +kernel
theorem dX14_met_30 : decode cX14_met 30 = .ok (.iconst 1, 1) := by decide +kernel
theorem dX14_met_31 : decode cX14_met 31 = .ok (.invokevirtual 72, 3) := by decide +kernel
theorem dX14_met_34 : decode cX14_met 34 = .ok (.ireturn, 1) := by decide +kernel
theorem dX14_met_35 : decode cX14_met 35 = .ok (.aload_n 0, 1) := by decide +kernel
theorem dX14_met_36 : decode cX14_met 36 = .ok (.iload_n 1, 1) := by decide +kernel
theorem dX14_met_37 : decode cX14_met 37 = .ok (.invokevirtual 482, 3) := by decide +kernel
theorem dX14_met_40 : decode cX14_met 40 = .ok (.iconst 0, 1) := by decide +kernel
theorem dX14_met_41 : decode cX14_met 41 = .ok (.istore 4, 2) := by decide +kernel
theorem dX14_met_43 : decode cX14_met 43 = .ok (.iconst 0, 1) := by decide +kernel
theorem dX14_met_44 : decode cX14_met 44 = .ok (.istore 5, 2) := by decide +kernel
theorem dX14_met_46 : decode cX14_met 46 = .ok (.iload 5, 2) := by decide +kernel
theorem dX14_met_48 : decode cX14_met 48 = .ok (.aload_n 0, 1) := by decide +kernel
theorem dX14_met_49 : decode cX14_met 49 = .ok (.getfield 442, 3) := by decide +kernel
theorem dX14_met_52 : decode cX14_met 52 = .ok (.getfield 196, 3) := by decide +kernel
theorem dX14_met_55 : decode cX14_met 55 = .ok (.if_icmp .ge 45, 3) := by decide +kernel
theorem dX14_met_58 : decode cX14_met 58 = .ok (.iload 4, 2) := by decide +kernel
theorem dX14_met_60 : decode cX14_met 60 = .ok (.aload_n 0, 1) := by decide +kernel
theorem dX14_met_61 : decode cX14_met 61 = .ok (.getfield 442, 3) := by decide +kernel
theorem dX14_met_64 : decode cX14_met 64 = .ok (.iload_n 1, 1) := by decide +kernel
theorem dX14_met_65 : decode cX14_met 65 = .ok (.iload_n 3, 1) := by decide +kernel
theorem dX14_met_66 : decode cX14_met 66 = .ok (.iload 5, 2) := by decide +kernel
theorem dX14_met_68 : decode cX14_met 68 = .ok (.invokevirtual 453, 3) := by decide +kernel
theorem dX14_met_71 : decode cX14_met 71 = .ok (.aload_n 0, 1) := by decide +kernel
theorem dX14_met_72 : decode cX14_met 72 = .ok (.getfield 30, 3) := by decide +kernel
theorem dX14_met_75 : decode cX14_met 75 = .ok (.bipush 12, 2) := by decide +kernel
theorem dX14_met_77 : decode cX14_met 77 = .ok (.iload_n 2, 1) := by decide +kernel
theorem dX14_met_78 : decode cX14_met 78 = .ok (.imul, 1) := by decide +kernel
theorem dX14_met_79 : decode cX14_met 79 = .ok (.iload 5, 2) := by decide +kernel
theorem dX14_met_81 : decode cX14_met 81 = .ok (.iadd, 1) := by decide +kernel
theorem dX14_met_82 : decode cX14_met 82 = .ok (.iaload, 1) := by decide +kernel
theorem dX14_met_83 : decode cX14_met 83 = .ok (.if_icmp .ne 7, 3) := by decide +kernel
theorem dX14_met_86 : decode cX14_met 86 = .ok (.iconst 1, 1) := by decide +kernel
theorem dX14_met_87 : decode cX14_met 87 = .ok (.goto 4, 3) := by decide +kernel
theorem dX14_met_90 : decode cX14_met 90 = .ok (.iconst 0, 1) := by decide +kernel
theorem dX14_met_91 : decode cX14_met 91 = .ok (.iadd, 1) := by decide +kernel
theorem dX14_met_92 : decode cX14_met 92 = .ok (.istore 4, 2) := by decide +kernel
theorem dX14_met_94 : decode cX14_met 94 = .ok (.iinc 5 1, 3) := by decide +kernel
theorem dX14_met_97 : decode cX14_met 97 = .ok (.goto (-51), 3) := by decide +kernel
theorem dX14_met_100 : decode cX14_met 100 = .ok (.aload_n 0, 1) := by decide +kernel
theorem dX14_met_101 : decode cX14_met 101 = .ok (.iload 4, 2) := by decide +kernel
theorem dX14_met_103 : decode cX14_met 103 = .ok (.invokevirtual 76, 3) := by decide +kernel
theorem dX14_met_106 : decode cX14_met 106 = .ok (.ireturn, 1) := by decide +kernel
set_option maxRecDepth 100000 in
set_option maxHeartbeats 4000000 in
theorem mX14_met_L46 {E : goEv} {X : goX} {G : goG} {Q : State → Prop} {M : goMI} {L : goML} {R : goMR} {N : Nat} {v1 : Int32} {v2 : Int32} {v3 : Int32} (hc : goCx E X cX14_met RX14 6) (hk : goKn E) (hR : X.2.2.2.1 = goRoom 6 146 0 0) (hr : X.2.2.2.2.2.2.2.2.1.sig.returnType = (Option.some FieldType.int)) (hW : goW G R) : ∀ (n : Nat) (v4 : Int32) (v5 : Int32) (r0 : Int32), lX14_met_46 N v1 v2 v3 M R n v4 v5 = some r0 → (∀ (d1 d2 d3 d5 : Option Value), goA E X G 0 0 Q 100 [some (.ref 102), d1, d2, d3, some (.int r0), d5] [] M L R) → goA E X G 0 0 Q 46 [some (.ref 102), some (.int v1), some (.int v2), some (.int v3), some (.int v4), some (.int v5)] [] M L R := by
  intro n
  induction n with
  | zero => intro v4 v5 r0 h; exact nomatch h
  | succ n ih =>
    intro v4 v5 r0 h kx
    rw [lX14_met_46] at h
    refine go_iload5 hc dX14_met_46 ?_
    refine go_aload0 hc dX14_met_48 ?_
    replace h := goBind h; obtain ⟨b30, e31, h⟩ := h
    refine go_getR hc lk_RX14_442 dX14_met_49 (sh_102 hW) e31 ?_
    refine go_getI hc lk_RX14_196 dX14_met_52 (shM_0 (goW_M3 hW e31)) ?_
    refine go_icmp_ge hc 100 dX14_met_55 rfl (fun c32 => ?_) (fun c32 => ?_)
    · replace h := goIfF h c32
      cases h
      exact kx _ _ _ _
    · replace h := goIfT h c32
      refine go_iload4 hc dX14_met_58 ?_
      refine go_aload0 hc dX14_met_60 ?_
      replace h := goBind h; obtain ⟨b33, e34, h⟩ := h
      refine go_getR hc lk_RX14_442 dX14_met_61 (sh_102 hW) e34 ?_
      refine go_iload1 hc dX14_met_64 ?_
      refine go_iload3 hc dX14_met_65 ?_
      refine go_iload5 hc dX14_met_66 ?_
      replace h := goBind h; obtain ⟨x35, e36, h⟩ := h
      refine go_callVi hc dX14_met_68 (mX13_placeIn hk hW (goW_M3 hW e34) e36) ml_RX14_453 yk_X13_placeIn ⟨wim_X13_placeIn, wse_X13_placeIn⟩ hR rfl (shM_0 (goW_M3 hW e34)) rfl rfl rfl (Nat.le_of_ble_eq_true rfl) rfl ?_
      refine go_aload0 hc dX14_met_71 ?_
      refine go_getR hc lk_RX14_30 dX14_met_72 (sh_102 hW) (rf_102_23 hW) ?_
      refine go_bipush (v := 12) hc dX14_met_75 rfl ?_
      refine go_iload2 hc dX14_met_77 ?_
      refine go_imul hc dX14_met_78 ?_
      refine go_iload5 hc dX14_met_79 ?_
      refine go_iadd hc dX14_met_81 ?_
      replace h := goBind h; obtain ⟨x37, e38, h⟩ := h
      refine go_iald hc dX14_met_82 (sh_108 hW) e38 ?_
      replace h := goNm_y h; obtain ⟨x39, e40, h⟩ := h
      have k41 : ∀ (d4 : Option Value), goA E X G 0 0 Q 91 [some (.ref 102), some (.int v1), some (.int v2), some (.int v3), d4, some (.int v5)] [.int x39, .int v4] M L R := by
        intro d4
        refine go_iadd hc dX14_met_91 ?_
        replace h := goNm_x h; obtain ⟨x43, e44, h⟩ := h
        refine go_nmI e44 ?_
        refine go_istore4 hc dX14_met_92 ?_
        refine go_iinc5 (v := (v5 + 1)) hc dX14_met_94 rfl ?_
        refine go_goto hc 46 dX14_met_97 rfl ?_
        exact ih _ _ _ h kx
      refine go_icmp_ne hc 90 dX14_met_83 rfl (fun c42 => ?_) (fun c42 => ?_)
      · replace e40 := goIfF e40 c42
        refine go_iconst (v := 0) hc dX14_met_90 rfl ?_
        subst e40
        exact k41 _
      · replace e40 := goIfT e40 c42
        refine go_iconst (v := 1) hc dX14_met_86 rfl ?_
        refine go_goto hc 91 dX14_met_87 rfl ?_
        subst e40
        exact k41 _
set_option maxRecDepth 100000 in
set_option maxHeartbeats 4000000 in
theorem mX14_met {E : goEv} {l : Launch} {G : goG} {N : Nat} {M : goMI} {L : goML} {R : goMR} {v1 : Int32} {v2 : Int32} {v3 : Int32} {r0 : Int32} {r1 : goMI} (hk : goKn E) (hW : goW G R) (h : fX14_met N M R v1 v2 v3 = some (r0, r1)) : Met l yX14_met (goCd yX14_met cX14_met 6 (Option.some FieldType.int)) (goRoom 6 146 0 0) (goPre E [.ref 102, .int v1, .int v2, .int v3] G M L R) (goQi E r0 G r1 L R) 0 0 (goSet E) := by
  refine goMet pl_RX14 hk (lv := [some (.ref 102), some (.int v1), some (.int v2), some (.int v3), none, none]) rfl (Nat.le_of_ble_eq_true rfl) ?_
  intro X hc hl hR hr hnm
  subst hl
  unfold fX14_met at h
  refine go_aload0 hc dX14_met_0 ?_
  refine go_iconst (v := 0) hc dX14_met_1 rfl ?_
  replace h := goNm_x h; obtain ⟨M11, e12, h⟩ := h
  refine go_ptI hc lk_RX14_66 dX14_met_2 (sh_102 hW) e12 ?_
  refine go_aload0 hc dX14_met_5 ?_
  refine go_iload1 hc dX14_met_6 ?_
  replace h := goBind h; obtain ⟨x13, e14, h⟩ := h
  refine go_callVi hc dX14_met_7 (mX14_isCase hk hW e14) ml_RX14_514 yk_X14_isCase ⟨wim_X14_isCase, wse_X14_isCase⟩ hR rfl (sh_102 hW) rfl rfl rfl (Nat.le_of_ble_eq_true rfl) rfl ?_
  refine go_if_eq hc 29 dX14_met_10 rfl (fun c15 => ?_) (fun c15 => ?_)
  · replace h := goIfT h c15
    refine go_aload0 hc dX14_met_29 ?_
    refine go_iconst (v := 1) hc dX14_met_30 rfl ?_
    replace h := goB2_h h; obtain ⟨x16, M17, e18, h⟩ := h
    refine go_callVi hc dX14_met_31 (mX14_refused hk hW e18) ml_RX14_72 yk_X14_refused ⟨wim_X14_refused, wse_X14_refused⟩ hR rfl (sh_102 hW) rfl rfl rfl (Nat.le_of_ble_eq_true rfl) rfl ?_
    cases h
    exact go_iret hc dX14_met_34 hr
  · replace h := goIfF h c15
    refine go_aload0 hc dX14_met_13 ?_
    refine go_iload2 hc dX14_met_14 ?_
    replace h := goBind h; obtain ⟨x19, e20, h⟩ := h
    refine go_callVi hc dX14_met_15 (mX14_isGoat hk hW e20) ml_RX14_497 yk_X14_isGoat ⟨wim_X14_isGoat, wse_X14_isGoat⟩ hR rfl (sh_102 hW) rfl rfl rfl (Nat.le_of_ble_eq_true rfl) rfl ?_
    refine go_if_eq hc 29 dX14_met_18 rfl (fun c21 => ?_) (fun c21 => ?_)
    · replace h := goIfT h c21
      refine go_aload0 hc dX14_met_29 ?_
      refine go_iconst (v := 1) hc dX14_met_30 rfl ?_
      replace h := goB2_h h; obtain ⟨x22, M23, e24, h⟩ := h
      refine go_callVi hc dX14_met_31 (mX14_refused hk hW e24) ml_RX14_72 yk_X14_refused ⟨wim_X14_refused, wse_X14_refused⟩ hR rfl (sh_102 hW) rfl rfl rfl (Nat.le_of_ble_eq_true rfl) rfl ?_
      cases h
      exact go_iret hc dX14_met_34 hr
    · replace h := goIfF h c21
      refine go_aload0 hc dX14_met_21 ?_
      refine go_iload3 hc dX14_met_22 ?_
      replace h := goBind h; obtain ⟨x25, e26, h⟩ := h
      refine go_callVi hc dX14_met_23 (mX14_isPerson hk hW e26) ml_RX14_506 yk_X14_isPerson ⟨wim_X14_isPerson, wse_X14_isPerson⟩ hR rfl (sh_102 hW) rfl rfl rfl (Nat.le_of_ble_eq_true rfl) rfl ?_
      refine go_if_ne hc 35 dX14_met_26 rfl (fun c27 => ?_) (fun c27 => ?_)
      · replace h := goIfF h c27
        refine go_aload0 hc dX14_met_35 ?_
        refine go_iload1 hc dX14_met_36 ?_
        replace h := goBind h; obtain ⟨M28, e29, h⟩ := h
        refine go_callVv hc dX14_met_37 (mX14_day hk hW e29) ml_RX14_482 yk_X14_day ⟨wim_X14_day, wse_X14_day⟩ hR rfl (sh_102 hW) rfl rfl rfl (Nat.le_of_ble_eq_true rfl) rfl ?_
        refine go_iconst (v := 0) hc dX14_met_40 rfl ?_
        refine go_istore4 hc dX14_met_41 ?_
        refine go_iconst (v := 0) hc dX14_met_43 rfl ?_
        refine go_istore5 hc dX14_met_44 ?_
        replace h := goBind h; obtain ⟨x46, e45, h⟩ := h
        refine mX14_met_L46 hc hk hR hr hW _ _ _ _ e45 (fun d1 d2 d3 d5 => ?_)
        refine go_aload0 hc dX14_met_100 ?_
        refine go_iload4 hc dX14_met_101 ?_
        replace h := goB2_h h; obtain ⟨x47, M48, e49, h⟩ := h
        refine go_callVi hc dX14_met_103 (mX14_good hk hW e49) ml_RX14_76 yk_X14_good ⟨wim_X14_good, wse_X14_good⟩ hR rfl (sh_102 hW) rfl rfl rfl (Nat.le_of_ble_eq_true rfl) rfl ?_
        cases h
        exact go_iret hc dX14_met_106 hr
      · replace h := goIfT h c27
        refine go_aload0 hc dX14_met_29 ?_
        refine go_iconst (v := 1) hc dX14_met_30 rfl ?_
        replace h := goB2_h h; obtain ⟨x50, M51, e52, h⟩ := h
        refine go_callVi hc dX14_met_31 (mX14_refused hk hW e52) ml_RX14_72 yk_X14_refused ⟨wim_X14_refused, wse_X14_refused⟩ hR rfl (sh_102 hW) rfl rfl rfl (Nat.le_of_ble_eq_true rfl) rfl ?_
        cases h
        exact go_iret hc dX14_met_34 hr
theorem dX14_isTrue_0 : decode cX14_isTrue 0 = .ok (.aload_n 0, 1) := by decide +kernel
theorem dX14_isTrue_1 : decode cX14_isTrue 1 = .ok (.iconst 0, 1) := by decide +kernel
theorem dX14_isTrue_2 : decode cX14_isTrue 2 = .ok (.putfield 66, 3) := by decide +kernel
theorem dX14_isTrue_5 : decode cX14_isTrue 5 = .ok (.aload_n 0, 1) := by decide +kernel
theorem dX14_isTrue_6 : decode cX14_isTrue 6 = .ok (.iload_n 1, 1) := by decide +kernel
theorem dX14_isTrue_7 : decode cX14_isTrue 7 = .ok (.invokevirtual 514, 3) := by decide +kernel
theorem dX14_isTrue_10 : decode cX14_isTrue 10 = .ok (.ifCond .eq 11, 3) := by decide +kernel
theorem dX14_isTrue_13 : decode cX14_isTrue 13 = .ok (.aload_n 0, 1) := by decide +kernel
theorem dX14_isTrue_14 : decode cX14_isTrue 14 = .ok (.iload_n 2, 1) := by decide +kernel
theorem dX14_isTrue_15 : decode cX14_isTrue 15 = .ok (.invokevirtual 503, 3) := by decide +kernel
theorem dX14_isTrue_18 : decode cX14_isTrue 18 = .ok (.ifCond .ne 9, 3) := by decide +kernel
theorem dX14_isTrue_21 : decode cX14_isTrue 21 = .ok (.aload_n 0, 1) := by decide +kernel
theorem dX14_isTrue_22 : decode cX14_isTrue 22 = .ok (.iconst 1, 1) := by decide +kernel
theorem dX14_isTrue_23 : decode cX14_isTrue 23 = .ok (.invokevirtual 72, 3) := by decide +kernel
theorem dX14_isTrue_26 : decode cX14_isTrue 26 = .ok (.ireturn, 1) := by decide +kernel
theorem dX14_isTrue_27 : decode cX14_isTrue 27 = .ok (.aload_n 0, 1) := by decide +kernel
theorem dX14_isTrue_28 : decode cX14_isTrue 28 = .ok (.iload_n 1, 1) := by decide +kernel
theorem dX14_isTrue_29 : decode cX14_isTrue 29 = .ok (.invokevirtual 482, 3) := by decide +kernel
theorem dX14_isTrue_32 : decode cX14_isTrue 32 = .ok (.aload_n 0, 1) := by decide +kernel
theorem dX14_isTrue_33 : decode cX14_isTrue 33 = .ok (.aload_n 0, 1) := by decide +kernel
theorem dX14_isTrue_34 : decode cX14_isTrue 34 = .ok (.iload_n 2, 1) := by decide +kernel
theorem dX14_isTrue_35 : decode cX14_isTrue 35 = .ok (.invokevirtual 485, 3) := by decide +kernel
theorem dX14_isTrue_38 : decode cX14_isTrue 38 = .ok (.ifCond .eq 7, 3) := by decide +kernel
theorem dX14_isTrue_41 : decode cX14_isTrue 41 = .ok (.iconst 1, 1) := by decide +kernel
theorem dX14_isTrue_42 : decode cX14_isTrue 42 = .ok (.goto 4, 3) := by decide +kernel
theorem dX14_isTrue_45 : decode cX14_isTrue 45 = .ok (.iconst 0, 1) := by decide +kernel
theorem dX14_isTrue_46 : decode cX14_isTrue 46 = .ok (.invokevirtual 76, 3) := by decide +kernel
theorem dX14_isTrue_49 : decode cX14_isTrue 49 = .ok (.ireturn, 1) := by decide +kernel
set_option maxRecDepth 100000 in
set_option maxHeartbeats 4000000 in
theorem mX14_isTrue {E : goEv} {l : Launch} {G : goG} {N : Nat} {M : goMI} {L : goML} {R : goMR} {v1 : Int32} {v2 : Int32} {r0 : Int32} {r1 : goMI} (hk : goKn E) (hW : goW G R) (h : fX14_isTrue N M R v1 v2 = some (r0, r1)) : Met l yX14_isTrue (goCd yX14_isTrue cX14_isTrue 3 (Option.some FieldType.int)) (goRoom 6 146 0 0) (goPre E [.ref 102, .int v1, .int v2] G M L R) (goQi E r0 G r1 L R) 0 0 (goSet E) := by
  refine goMet pl_RX14 hk (lv := [some (.ref 102), some (.int v1), some (.int v2)]) rfl (Nat.le_of_ble_eq_true rfl) ?_
  intro X hc hl hR hr hnm
  subst hl
  unfold fX14_isTrue at h
  refine go_aload0 hc dX14_isTrue_0 ?_
  refine go_iconst (v := 0) hc dX14_isTrue_1 rfl ?_
  replace h := goNm_x h; obtain ⟨M11, e12, h⟩ := h
  refine go_ptI hc lk_RX14_66 dX14_isTrue_2 (sh_102 hW) e12 ?_
  refine go_aload0 hc dX14_isTrue_5 ?_
  refine go_iload1 hc dX14_isTrue_6 ?_
  replace h := goBind h; obtain ⟨x13, e14, h⟩ := h
  refine go_callVi hc dX14_isTrue_7 (mX14_isCase hk hW e14) ml_RX14_514 yk_X14_isCase ⟨wim_X14_isCase, wse_X14_isCase⟩ hR rfl (sh_102 hW) rfl rfl rfl (Nat.le_of_ble_eq_true rfl) rfl ?_
  refine go_if_eq hc 21 dX14_isTrue_10 rfl (fun c15 => ?_) (fun c15 => ?_)
  · replace h := goIfT h c15
    refine go_aload0 hc dX14_isTrue_21 ?_
    refine go_iconst (v := 1) hc dX14_isTrue_22 rfl ?_
    replace h := goB2_h h; obtain ⟨x16, M17, e18, h⟩ := h
    refine go_callVi hc dX14_isTrue_23 (mX14_refused hk hW e18) ml_RX14_72 yk_X14_refused ⟨wim_X14_refused, wse_X14_refused⟩ hR rfl (sh_102 hW) rfl rfl rfl (Nat.le_of_ble_eq_true rfl) rfl ?_
    cases h
    exact go_iret hc dX14_isTrue_26 hr
  · replace h := goIfF h c15
    refine go_aload0 hc dX14_isTrue_13 ?_
    refine go_iload2 hc dX14_isTrue_14 ?_
    replace h := goBind h; obtain ⟨x19, e20, h⟩ := h
    refine go_callVi hc dX14_isTrue_15 (mX14_isClue hk hW e20) ml_RX14_503 yk_X14_isClue ⟨wim_X14_isClue, wse_X14_isClue⟩ hR rfl (sh_102 hW) rfl rfl rfl (Nat.le_of_ble_eq_true rfl) rfl ?_
    refine go_if_ne hc 27 dX14_isTrue_18 rfl (fun c21 => ?_) (fun c21 => ?_)
    · replace h := goIfF h c21
      refine go_aload0 hc dX14_isTrue_27 ?_
      refine go_iload1 hc dX14_isTrue_28 ?_
      replace h := goBind h; obtain ⟨M22, e23, h⟩ := h
      refine go_callVv hc dX14_isTrue_29 (mX14_day hk hW e23) ml_RX14_482 yk_X14_day ⟨wim_X14_day, wse_X14_day⟩ hR rfl (sh_102 hW) rfl rfl rfl (Nat.le_of_ble_eq_true rfl) rfl ?_
      refine go_aload0 hc dX14_isTrue_32 ?_
      refine go_aload0 hc dX14_isTrue_33 ?_
      refine go_iload2 hc dX14_isTrue_34 ?_
      replace h := goBind h; obtain ⟨x24, e25, h⟩ := h
      refine go_callVi hc dX14_isTrue_35 (mX14_holdsNow hk hW e25) ml_RX14_485 yk_X14_holdsNow ⟨wim_X14_holdsNow, wse_X14_holdsNow⟩ hR rfl (sh_102 hW) rfl rfl rfl (Nat.le_of_ble_eq_true rfl) rfl ?_
      replace h := goNm_y h; obtain ⟨x26, e27, h⟩ := h
      have k28 : ∀ (d0 d1 d2 : Option Value), goA E X G 0 0 (goMQ X E (goQi E r0 G r1 L R) 0 0) 46 [d0, d1, d2] [.int x26, .ref 102] M22 L R := by
        intro d0 d1 d2
        replace h := goB2_h h; obtain ⟨x30, M31, e32, h⟩ := h
        refine go_callVi hc dX14_isTrue_46 (mX14_good hk hW e32) ml_RX14_76 yk_X14_good ⟨wim_X14_good, wse_X14_good⟩ hR rfl (sh_102 hW) rfl rfl rfl (Nat.le_of_ble_eq_true rfl) rfl ?_
        cases h
        exact go_iret hc dX14_isTrue_49 hr
      refine go_if_eq hc 45 dX14_isTrue_38 rfl (fun c29 => ?_) (fun c29 => ?_)
      · replace e27 := goIfT e27 c29
        refine go_iconst (v := 0) hc dX14_isTrue_45 rfl ?_
        subst e27
        exact k28 _ _ _
      · replace e27 := goIfF e27 c29
        refine go_iconst (v := 1) hc dX14_isTrue_41 rfl ?_
        refine go_goto hc 46 dX14_isTrue_42 rfl ?_
        subst e27
        exact k28 _ _ _
    · replace h := goIfT h c21
      refine go_aload0 hc dX14_isTrue_21 ?_
      refine go_iconst (v := 1) hc dX14_isTrue_22 rfl ?_
      replace h := goB2_h h; obtain ⟨x33, M34, e35, h⟩ := h
      refine go_callVi hc dX14_isTrue_23 (mX14_refused hk hW e35) ml_RX14_72 yk_X14_refused ⟨wim_X14_refused, wse_X14_refused⟩ hR rfl (sh_102 hW) rfl rfl rfl (Nat.le_of_ble_eq_true rfl) rfl ?_
      cases h
      exact go_iret hc dX14_isTrue_26 hr
theorem dX14_fits_0 : decode cX14_fits 0 = .ok (.aload_n 0, 1) := by decide +kernel
theorem dX14_fits_1 : decode cX14_fits 1 = .ok (.iconst 0, 1) := by decide +kernel
theorem dX14_fits_2 : decode cX14_fits 2 = .ok (.putfield 66, 3) := by decide +kernel
theorem dX14_fits_5 : decode cX14_fits 5 = .ok (.aload_n 0, 1) := by decide +kernel
theorem dX14_fits_6 : decode cX14_fits 6 = .ok (.getfield 442, 3) := by decide +kernel
theorem dX14_fits_9 : decode cX14_fits 9 = .ok (.ifnonnull 9, 3) := by decide +kernel
theorem dX14_fits_12 : decode cX14_fits 12 = .ok (.aload_n 0, 1) := by decide +kernel
theorem dX14_fits_13 : decode cX14_fits 13 = .ok (.iconst 1, 1) := by decide +kernel
theorem dX14_fits_14 : decode cX14_fits 14 = .ok (.invokevirtual 72, 3) := by decide +kernel
theorem dX14_fits_17 : decode cX14_fits 17 = .ok (.ireturn, 1) := by decide +kernel
theorem dX14_fits_18 : decode cX14_fits 18 = .ok (.aload_n 0, 1) := by decide +kernel
theorem dX14_fits_19 : decode cX14_fits 19 = .ok (.invokevirtual 523, 3) := by decide +kernel
theorem dX14_fits_22 : decode cX14_fits 22 = .ok (.iconst 0, 1) := by decide +kernel
theorem dX14_fits_23 : decode cX14_fits 23 = .ok (.istore_n 1, 1) := by decide +kernel
theorem dX14_fits_24 : decode cX14_fits 24 = .ok (.iconst 0, 1) := by decide +kernel
theorem dX14_fits_25 : decode cX14_fits 25 = .ok (.istore_n 2, 1) := by decide +kernel
theorem dX14_fits_26 : decode cX14_fits 26 = .ok (.iload_n 2, 1) := by decide +kernel
theorem dX14_fits_27 : decode cX14_fits 27 = .ok (.aload_n 0, 1) := by decide +kernel
theorem dX14_fits_28 : decode cX14_fits 28 = .ok (.getfield 442, 3) := by decide +kernel
theorem dX14_fits_31 : decode cX14_fits 31 = .ok (.invokevirtual 450, 3) := by decide +kernel
theorem dX14_fits_34 : decode cX14_fits 34 = .ok (.if_icmp .ge 29, 3) := by decide +kernel
theorem dX14_fits_37 : decode cX14_fits 37 = .ok (.iload_n 1, 1) := by decide +kernel
theorem dX14_fits_38 : decode cX14_fits 38 = .ok (.aload_n 0, 1) := by decide +kernel
theorem dX14_fits_39 : decode cX14_fits 39 = .ok (.iload_n 2, 1) := by decide +kernel
theorem dX14_fits_40 : decode cX14_fits 40 = .ok (.aload_n 0, 1) := by decide +kernel
theorem dX14_fits_41 : decode cX14_fits 41 = .ok (.invokevirtual 526, 3) := by decide +kernel
theorem dX14_fits_44 : decode cX14_fits 44 = .ok (.invokevirtual 529, 3) := by decide +kernel
theorem dX14_fits_47 : decode cX14_fits 47 = .ok (.ifCond .eq 7, 3) := by decide +kernel
theorem dX14_fits_50 : decode cX14_fits 50 = .ok (.iconst 1, 1) := by decide +kernel
theorem dX14_fits_51 : decode cX14_fits 51 = .ok (.goto 4, 3) := by decide +kernel
theorem dX14_fits_54 : decode cX14_fits 54 = .ok (.iconst 0, 1) := by decide +kernel
theorem dX14_fits_55 : decode cX14_fits 55 = .ok (.iadd, 1) := by decide +kernel
theorem dX14_fits_56 : decode cX14_fits 56 = .ok (.istore_n 1, 1) := by decide +kernel
theorem dX14_fits_57 : decode cX14_fits 57 = .ok (.iinc 2 1, 3) := by decide +kernel
theorem dX14_fits_60 : decode cX14_fits 60 = .ok (.goto (-34), 3) := by decide +kernel
theorem dX14_fits_63 : decode cX14_fits 63 = .ok (.aload_n 0, 1) := by decide +kernel
theorem dX14_fits_64 : decode cX14_fits 64 = .ok (.iload_n 1, 1) := by decide +kernel
theorem dX14_fits_65 : decode cX14_fits 65 = .ok (.invokevirtual 76, 3) := by decide +kernel
theorem dX14_fits_68 : decode cX14_fits 68 = .ok (.ireturn, 1) := by decide +kernel
set_option maxRecDepth 100000 in
set_option maxHeartbeats 4000000 in
theorem mX14_fits_L26 {E : goEv} {X : goX} {G : goG} {Q : State → Prop} {M : goMI} {L : goML} {R : goMR} {N : Nat} (hc : goCx E X cX14_fits RX14 3) (hk : goKn E) (hR : X.2.2.2.1 = goRoom 7 168 0 0) (hr : X.2.2.2.2.2.2.2.2.1.sig.returnType = (Option.some FieldType.int)) (hW : goW G R) : ∀ (n : Nat) (v1 : Int32) (v2 : Int32) (r0 : Int32), lX14_fits_26 N M R n v1 v2 = some r0 → (∀ (d2 : Option Value), goA E X G 0 0 Q 63 [some (.ref 102), some (.int r0), d2] [] M L R) → goA E X G 0 0 Q 26 [some (.ref 102), some (.int v1), some (.int v2)] [] M L R := by
  intro n
  induction n with
  | zero => intro v1 v2 r0 h; exact nomatch h
  | succ n ih =>
    intro v1 v2 r0 h kx
    rw [lX14_fits_26] at h
    refine go_iload2 hc dX14_fits_26 ?_
    refine go_aload0 hc dX14_fits_27 ?_
    replace h := goBind h; obtain ⟨b16, e17, h⟩ := h
    refine go_getR hc lk_RX14_442 dX14_fits_28 (sh_102 hW) e17 ?_
    replace h := goBind h; obtain ⟨x18, e19, h⟩ := h
    refine go_callVi hc dX14_fits_31 (mX13_cases hk hW (goW_M3 hW e17) e19) ml_RX14_450 yk_X13_cases ⟨wim_X13_cases, wse_X13_cases⟩ hR rfl (shM_0 (goW_M3 hW e17)) rfl rfl rfl (Nat.le_of_ble_eq_true rfl) rfl ?_
    refine go_icmp_ge hc 63 dX14_fits_34 rfl (fun c20 => ?_) (fun c20 => ?_)
    · replace h := goIfF h c20
      cases h
      exact kx _
    · replace h := goIfT h c20
      refine go_iload1 hc dX14_fits_37 ?_
      refine go_aload0 hc dX14_fits_38 ?_
      refine go_iload2 hc dX14_fits_39 ?_
      refine go_aload0 hc dX14_fits_40 ?_
      replace h := goBind h; obtain ⟨x21, e22, h⟩ := h
      refine go_callVi hc dX14_fits_41 (mX14_heard hk hW e22) ml_RX14_526 yk_X14_heard ⟨wim_X14_heard, wse_X14_heard⟩ hR rfl (sh_102 hW) rfl rfl rfl (Nat.le_of_ble_eq_true rfl) rfl ?_
      replace h := goBind h; obtain ⟨x23, e24, h⟩ := h
      refine go_callVi hc dX14_fits_44 (mX14_areTrue hk hW e24) ml_RX14_529 yk_X14_areTrue ⟨wim_X14_areTrue, wse_X14_areTrue⟩ hR rfl (sh_102 hW) rfl rfl rfl (Nat.le_of_ble_eq_true rfl) rfl ?_
      replace h := goNm_y h; obtain ⟨x25, e26, h⟩ := h
      have k27 : ∀ (d1 : Option Value), goA E X G 0 0 Q 55 [some (.ref 102), d1, some (.int v2)] [.int x25, .int v1] M L R := by
        intro d1
        refine go_iadd hc dX14_fits_55 ?_
        replace h := goNm_x h; obtain ⟨x29, e30, h⟩ := h
        refine go_nmI e30 ?_
        refine go_istore1 hc dX14_fits_56 ?_
        refine go_iinc2 (v := (v2 + 1)) hc dX14_fits_57 rfl ?_
        refine go_goto hc 26 dX14_fits_60 rfl ?_
        exact ih _ _ _ h kx
      refine go_if_eq hc 54 dX14_fits_47 rfl (fun c28 => ?_) (fun c28 => ?_)
      · replace e26 := goIfT e26 c28
        refine go_iconst (v := 0) hc dX14_fits_54 rfl ?_
        subst e26
        exact k27 _
      · replace e26 := goIfF e26 c28
        refine go_iconst (v := 1) hc dX14_fits_50 rfl ?_
        refine go_goto hc 55 dX14_fits_51 rfl ?_
        subst e26
        exact k27 _
set_option maxRecDepth 100000 in
set_option maxHeartbeats 4000000 in
theorem mX14_fits {E : goEv} {l : Launch} {G : goG} {N : Nat} {M : goMI} {L : goML} {R : goMR} {r0 : Int32} {r1 : goMI} (hk : goKn E) (hW : goW G R) (h : fX14_fits N M R = some (r0, r1)) : Met l yX14_fits (goCd yX14_fits cX14_fits 3 (Option.some FieldType.int)) (goRoom 7 168 0 0) (goPre E [.ref 102] G M L R) (goQi E r0 G r1 L R) 0 0 (goSet E) := by
  refine goMet pl_RX14 hk (lv := [some (.ref 102), none, none]) rfl (Nat.le_of_ble_eq_true rfl) ?_
  intro X hc hl hR hr hnm
  subst hl
  unfold fX14_fits at h
  refine go_aload0 hc dX14_fits_0 ?_
  refine go_iconst (v := 0) hc dX14_fits_1 rfl ?_
  replace h := goNm_x h; obtain ⟨M11, e12, h⟩ := h
  refine go_ptI hc lk_RX14_66 dX14_fits_2 (sh_102 hW) e12 ?_
  refine go_aload0 hc dX14_fits_5 ?_
  refine go_getQ hc lk_RX14_442 dX14_fits_6 (sh_102 hW) ?_
  refine go_ifnonnull hc 18 dX14_fits_9 rfl (fun _ c13 => ?_) (fun c13 => ?_)
  · replace h := goIfF h (goNn c13)
    refine go_aload0 hc dX14_fits_18 ?_
    replace h := goBind h; obtain ⟨M14, e15, h⟩ := h
    refine go_callVv hc dX14_fits_19 (mX14_laysHonest hk hW e15) ml_RX14_523 yk_X14_laysHonest ⟨wim_X14_laysHonest, wse_X14_laysHonest⟩ hR rfl (sh_102 hW) rfl rfl rfl (Nat.le_of_ble_eq_true rfl) rfl ?_
    refine go_iconst (v := 0) hc dX14_fits_22 rfl ?_
    refine go_istore1 hc dX14_fits_23 ?_
    refine go_iconst (v := 0) hc dX14_fits_24 rfl ?_
    refine go_istore2 hc dX14_fits_25 ?_
    replace h := goBind h; obtain ⟨x32, e31, h⟩ := h
    refine mX14_fits_L26 hc hk hR hr hW _ _ _ _ e31 (fun d2 => ?_)
    refine go_aload0 hc dX14_fits_63 ?_
    refine go_iload1 hc dX14_fits_64 ?_
    replace h := goB2_h h; obtain ⟨x33, M34, e35, h⟩ := h
    refine go_callVi hc dX14_fits_65 (mX14_good hk hW e35) ml_RX14_76 yk_X14_good ⟨wim_X14_good, wse_X14_good⟩ hR rfl (sh_102 hW) rfl rfl rfl (Nat.le_of_ble_eq_true rfl) rfl ?_
    cases h
    exact go_iret hc dX14_fits_68 hr
  · replace h := goIfT h c13
    refine go_aload0 hc dX14_fits_12 ?_
    refine go_iconst (v := 1) hc dX14_fits_13 rfl ?_
    replace h := goB2_h h; obtain ⟨x36, M37, e38, h⟩ := h
    refine go_callVi hc dX14_fits_14 (mX14_refused hk hW e38) ml_RX14_72 yk_X14_refused ⟨wim_X14_refused, wse_X14_refused⟩ hR rfl (sh_102 hW) rfl rfl rfl (Nat.le_of_ble_eq_true rfl) rfl ?_
    cases h
    exact go_iret hc dX14_fits_17 hr
theorem dX14_fit_0 : decode cX14_fit 0 = .ok (.aload_n 0, 1) := by decide +kernel
theorem dX14_fit_1 : decode cX14_fit 1 = .ok (.iconst 0, 1) := by decide +kernel
theorem dX14_fit_2 : decode cX14_fit 2 = .ok (.putfield 66, 3) := by decide +kernel
theorem dX14_fit_5 : decode cX14_fit 5 = .ok (.aload_n 0, 1) := by decide +kernel
theorem dX14_fit_6 : decode cX14_fit 6 = .ok (.getfield 442, 3) := by decide +kernel
theorem dX14_fit_9 : decode cX14_fit 9 = .ok (.ifnonnull 9, 3) := by decide +kernel
theorem dX14_fit_12 : decode cX14_fit 12 = .ok (.aload_n 0, 1) := by decide +kernel
theorem dX14_fit_13 : decode cX14_fit 13 = .ok (.iconst 1, 1) := by decide +kernel
theorem dX14_fit_14 : decode cX14_fit 14 = .ok (.invokevirtual 72, 3) := by decide +kernel
theorem dX14_fit_17 : decode cX14_fit 17 = .ok (.ireturn, 1) := by decide +kernel
theorem dX14_fit_18 : decode cX14_fit 18 = .ok (.aload_n 0, 1) := by decide +kernel
theorem dX14_fit_19 : decode cX14_fit 19 = .ok (.invokevirtual 523, 3) := by decide +kernel
theorem dX14_fit_22 : decode cX14_fit 22 = .ok (.iconst 0, 1) := by decide +kernel
theorem dX14_fit_23 : decode cX14_fit 23 = .ok (.istore_n 2, 1) := by decide +kernel
theorem dX14_fit_24 : decode cX14_fit 24 = .ok (.iconst 0, 1) := by decide +kernel
theorem dX14_fit_25 : decode cX14_fit 25 = .ok (.istore_n 3, 1) := by decide +kernel
theorem dX14_fit_26 : decode cX14_fit 26 = .ok (.iload_n 3, 1) := by decide +kernel
theorem dX14_fit_27 : decode cX14_fit 27 = .ok (.aload_n 0, 1) := by decide +kernel
theorem dX14_fit_28 : decode cX14_fit 28 = .ok (.getfield 442, 3) := by decide +kernel
theorem dX14_fit_31 : decode cX14_fit 31 = .ok (.invokevirtual 450, 3) := by decide +kernel
theorem dX14_fit_34 : decode cX14_fit 34 = .ok (.if_icmp .ge 38, 3) := by decide +kernel
theorem dX14_fit_37 : decode cX14_fit 37 = .ok (.aload_n 0, 1) := by decide +kernel
theorem dX14_fit_38 : decode cX14_fit 38 = .ok (.iload_n 3, 1) := by decide +kernel
theorem dX14_fit_39 : decode cX14_fit 39 = .ok (.aload_n 0, 1) := by decide +kernel
theorem dX14_fit_40 : decode cX14_fit 40 = .ok (.invokevirtual 526, 3) := by decide +kernel
theorem dX14_fit_43 : decode cX14_fit 43 = .ok (.invokevirtual 529, 3) := by decide +kernel
theorem dX14_fit_46 : decode cX14_fit 46 = .ok (.ifCond .ne 6, 3) := by decide +kernel
theorem dX14_fit_49 : decode cX14_fit 49 = .ok (.goto 17, 3) := by decide +kernel
theorem dX14_fit_52 : decode cX14_fit 52 = .ok (.iload_n 2, 1) := by decide +kernel
theorem dX14_fit_53 : decode cX14_fit 53 = .ok (.iload_n 1, 1) := by decide +kernel
theorem dX14_fit_54 : decode cX14_fit 54 = .ok (.if_icmp .ne 9, 3) := by decide +kernel
theorem dX14_fit_57 : decode cX14_fit 57 = .ok (.aload_n 0, 1) := by decide +kernel
theorem dX14_fit_58 : decode cX14_fit 58 = .ok (.iload_n 3, 1) := by decide +kernel
theorem dX14_fit_59 : decode cX14_fit 59 = .ok (.invokevirtual 76, 3) := by decide +kernel
theorem dX14_fit_62 : decode cX14_fit 62 = .ok (.ireturn, 1) := by decide +kernel
theorem dX14_fit_63 : decode cX14_fit 63 = .ok (.iinc 2 1, 3) := by decide +kernel
theorem dX14_fit_66 : decode cX14_fit 66 = .ok (.iinc 3 1, 3) := by decide +kernel
theorem dX14_fit_69 : decode cX14_fit 69 = .ok (.goto (-43), 3) := by decide +kernel
theorem dX14_fit_72 : decode cX14_fit 72 = .ok (.aload_n 0, 1) := by decide +kernel
theorem dX14_fit_73 : decode cX14_fit 73 = .ok (.iconst 1, 1) := by decide +kernel
theorem dX14_fit_74 : decode cX14_fit 74 = .ok (.invokevirtual 72, 3) := by decide +kernel
theorem dX14_fit_77 : decode cX14_fit 77 = .ok (.ireturn, 1) := by decide +kernel
set_option maxRecDepth 100000 in
set_option maxHeartbeats 4000000 in
theorem mX14_fit_L26 {E : goEv} {X : goX} {G : goG} {M : goMI} {L : goML} {R : goMR} {N : Nat} {v1 : Int32} {r0 : Int32} {r1 : goMI} (hc : goCx E X cX14_fit RX14 4) (hk : goKn E) (hR : X.2.2.2.1 = goRoom 7 168 0 0) (hr : X.2.2.2.2.2.2.2.2.1.sig.returnType = (Option.some FieldType.int)) (hW : goW G R) : ∀ (n : Nat) (v2 : Int32) (v3 : Int32), lX14_fit_26 N v1 M R n v2 v3 = some (r0, r1) → goA E X G 0 0 (goMQ X E (goQi E r0 G r1 L R) 0 0) 26 [some (.ref 102), some (.int v1), some (.int v2), some (.int v3)] [] M L R := by
  intro n
  induction n with
  | zero => intro v2 v3 h; exact nomatch h
  | succ n ih =>
    intro v2 v3 h
    rw [lX14_fit_26] at h
    refine go_iload3 hc dX14_fit_26 ?_
    refine go_aload0 hc dX14_fit_27 ?_
    replace h := goBind h; obtain ⟨b16, e17, h⟩ := h
    refine go_getR hc lk_RX14_442 dX14_fit_28 (sh_102 hW) e17 ?_
    replace h := goBind h; obtain ⟨x18, e19, h⟩ := h
    refine go_callVi hc dX14_fit_31 (mX13_cases hk hW (goW_M3 hW e17) e19) ml_RX14_450 yk_X13_cases ⟨wim_X13_cases, wse_X13_cases⟩ hR rfl (shM_0 (goW_M3 hW e17)) rfl rfl rfl (Nat.le_of_ble_eq_true rfl) rfl ?_
    refine go_icmp_ge hc 72 dX14_fit_34 rfl (fun c20 => ?_) (fun c20 => ?_)
    · replace h := goIfF h c20
      refine go_aload0 hc dX14_fit_72 ?_
      refine go_iconst (v := 1) hc dX14_fit_73 rfl ?_
      replace h := goB2_h h; obtain ⟨x21, M22, e23, h⟩ := h
      refine go_callVi hc dX14_fit_74 (mX14_refused hk hW e23) ml_RX14_72 yk_X14_refused ⟨wim_X14_refused, wse_X14_refused⟩ hR rfl (sh_102 hW) rfl rfl rfl (Nat.le_of_ble_eq_true rfl) rfl ?_
      cases h
      exact go_iret hc dX14_fit_77 hr
    · replace h := goIfT h c20
      refine go_aload0 hc dX14_fit_37 ?_
      refine go_iload3 hc dX14_fit_38 ?_
      refine go_aload0 hc dX14_fit_39 ?_
      replace h := goBind h; obtain ⟨x24, e25, h⟩ := h
      refine go_callVi hc dX14_fit_40 (mX14_heard hk hW e25) ml_RX14_526 yk_X14_heard ⟨wim_X14_heard, wse_X14_heard⟩ hR rfl (sh_102 hW) rfl rfl rfl (Nat.le_of_ble_eq_true rfl) rfl ?_
      replace h := goBind h; obtain ⟨x26, e27, h⟩ := h
      refine go_callVi hc dX14_fit_43 (mX14_areTrue hk hW e27) ml_RX14_529 yk_X14_areTrue ⟨wim_X14_areTrue, wse_X14_areTrue⟩ hR rfl (sh_102 hW) rfl rfl rfl (Nat.le_of_ble_eq_true rfl) rfl ?_
      refine go_if_ne hc 52 dX14_fit_46 rfl (fun c28 => ?_) (fun c28 => ?_)
      · replace h := goIfF h c28
        refine go_iload2 hc dX14_fit_52 ?_
        refine go_iload1 hc dX14_fit_53 ?_
        refine go_icmp_ne hc 63 dX14_fit_54 rfl (fun c29 => ?_) (fun c29 => ?_)
        · replace h := goIfF h c29
          refine go_iinc2 (v := (v2 + 1)) hc dX14_fit_63 rfl ?_
          refine go_iinc3 (v := (v3 + 1)) hc dX14_fit_66 rfl ?_
          refine go_goto hc 26 dX14_fit_69 rfl ?_
          exact ih _ _ h
        · replace h := goIfT h c29
          refine go_aload0 hc dX14_fit_57 ?_
          refine go_iload3 hc dX14_fit_58 ?_
          replace h := goB2_h h; obtain ⟨x30, M31, e32, h⟩ := h
          refine go_callVi hc dX14_fit_59 (mX14_good hk hW e32) ml_RX14_76 yk_X14_good ⟨wim_X14_good, wse_X14_good⟩ hR rfl (sh_102 hW) rfl rfl rfl (Nat.le_of_ble_eq_true rfl) rfl ?_
          cases h
          exact go_iret hc dX14_fit_62 hr
      · replace h := goIfT h c28
        refine go_goto hc 66 dX14_fit_49 rfl ?_
        refine go_iinc3 (v := (v3 + 1)) hc dX14_fit_66 rfl ?_
        refine go_goto hc 26 dX14_fit_69 rfl ?_
        exact ih _ _ h
set_option maxRecDepth 100000 in
set_option maxHeartbeats 4000000 in
theorem mX14_fit {E : goEv} {l : Launch} {G : goG} {N : Nat} {M : goMI} {L : goML} {R : goMR} {v1 : Int32} {r0 : Int32} {r1 : goMI} (hk : goKn E) (hW : goW G R) (h : fX14_fit N M R v1 = some (r0, r1)) : Met l yX14_fit (goCd yX14_fit cX14_fit 4 (Option.some FieldType.int)) (goRoom 7 168 0 0) (goPre E [.ref 102, .int v1] G M L R) (goQi E r0 G r1 L R) 0 0 (goSet E) := by
  refine goMet pl_RX14 hk (lv := [some (.ref 102), some (.int v1), none, none]) rfl (Nat.le_of_ble_eq_true rfl) ?_
  intro X hc hl hR hr hnm
  subst hl
  unfold fX14_fit at h
  refine go_aload0 hc dX14_fit_0 ?_
  refine go_iconst (v := 0) hc dX14_fit_1 rfl ?_
  replace h := goNm_x h; obtain ⟨M11, e12, h⟩ := h
  refine go_ptI hc lk_RX14_66 dX14_fit_2 (sh_102 hW) e12 ?_
  refine go_aload0 hc dX14_fit_5 ?_
  refine go_getQ hc lk_RX14_442 dX14_fit_6 (sh_102 hW) ?_
  refine go_ifnonnull hc 18 dX14_fit_9 rfl (fun _ c13 => ?_) (fun c13 => ?_)
  · replace h := goIfF h (goNn c13)
    refine go_aload0 hc dX14_fit_18 ?_
    replace h := goBind h; obtain ⟨M14, e15, h⟩ := h
    refine go_callVv hc dX14_fit_19 (mX14_laysHonest hk hW e15) ml_RX14_523 yk_X14_laysHonest ⟨wim_X14_laysHonest, wse_X14_laysHonest⟩ hR rfl (sh_102 hW) rfl rfl rfl (Nat.le_of_ble_eq_true rfl) rfl ?_
    refine go_iconst (v := 0) hc dX14_fit_22 rfl ?_
    refine go_istore2 hc dX14_fit_23 ?_
    refine go_iconst (v := 0) hc dX14_fit_24 rfl ?_
    refine go_istore3 hc dX14_fit_25 ?_
    exact mX14_fit_L26 hc hk hR hr hW _ _ _ h
  · replace h := goIfT h c13
    refine go_aload0 hc dX14_fit_12 ?_
    refine go_iconst (v := 1) hc dX14_fit_13 rfl ?_
    replace h := goB2_h h; obtain ⟨x33, M34, e35, h⟩ := h
    refine go_callVi hc dX14_fit_14 (mX14_refused hk hW e35) ml_RX14_72 yk_X14_refused ⟨wim_X14_refused, wse_X14_refused⟩ hR rfl (sh_102 hW) rfl rfl rfl (Nat.le_of_ble_eq_true rfl) rfl ?_
    cases h
    exact go_iret hc dX14_fit_17 hr
theorem dX14_couldBe_0 : decode cX14_couldBe 0 = .ok (.iconst 0, 1) := by decide +kernel
theorem dX14_couldBe_1 : decode cX14_couldBe 1 = .ok (.istore 4, 2) := by decide +kernel
theorem dX14_couldBe_3 : decode cX14_couldBe 3 = .ok (.iconst 0, 1) := by decide +kernel
theorem dX14_couldBe_4 : decode cX14_couldBe 4 = .ok (.istore 5, 2) := by decide +kernel
theorem dX14_couldBe_6 : decode cX14_couldBe 6 = .ok (.iload 5, 2) := by decide +kernel
theorem dX14_couldBe_8 : decode cX14_couldBe 8 = .ok (.aload_n 0, 1) := by decide +kernel
theorem dX14_couldBe_9 : decode cX14_couldBe 9 = .ok (.getfield 442, 3) := by decide +kernel
theorem dX14_couldBe_12 : decode cX14_couldBe 12 = .ok (.invokevirtual 450, 3) := by decide +kernel
theorem dX14_couldBe_15 : decode cX14_couldBe 15 = .ok (.if_icmp .ge 49, 3) := by decide +kernel
theorem dX14_couldBe_18 : decode cX14_couldBe 18 = .ok (.aload_n 0, 1) := by decide +kernel
theorem dX14_couldBe_19 : decode cX14_couldBe 19 = .ok (.getfield 442, 3) := by decide +kernel
theorem dX14_couldBe_22 : decode cX14_couldBe 22 = .ok (.getfield 323, 3) := by decide +kernel
theorem dX14_couldBe_25 : decode cX14_couldBe 25 = .ok (.iload_n 1, 1) := by decide +kernel
theorem dX14_couldBe_26 : decode cX14_couldBe 26 = .ok (.iaload, 1) := by decide +kernel
theorem dX14_couldBe_27 : decode cX14_couldBe 27 = .ok (.ifCond .le 31, 3) := by decide +kernel
theorem dX14_couldBe_30 : decode cX14_couldBe 30 = .ok (.aload_n 0, 1) := by decide +kernel
theorem dX14_couldBe_31 : decode cX14_couldBe 31 = .ok (.iload 5, 2) := by decide +kernel
theorem dX14_couldBe_33 : decode cX14_couldBe 33 = .ok (.iload_n 3, 1) := by decide +kernel
theorem dX14_couldBe_34 : decode cX14_couldBe 34 = .ok (.invokevirtual 529, 3) := by decide +kernel
theorem dX14_couldBe_37 : decode cX14_couldBe 37 = .ok (.ifCond .eq 21, 3) := by decide +kernel
theorem dX14_couldBe_40 : decode cX14_couldBe 40 = .ok (.iload 4, 2) := by decide +kernel
theorem dX14_couldBe_42 : decode cX14_couldBe 42 = .ok (.iconst 1, 1) := by decide +kernel
theorem dX14_couldBe_43 : decode cX14_couldBe 43 = .ok (.aload_n 0, 1) := by decide +kernel
theorem dX14_couldBe_44 : decode cX14_couldBe 44 = .ok (.getfield 442, 3) := by decide +kernel
theorem dX14_couldBe_47 : decode cX14_couldBe 47 = .ok (.iload 5, 2) := by decide +kernel
theorem dX14_couldBe_49 : decode cX14_couldBe 49 = .ok (.iload_n 1, 1) := by decide +kernel
theorem dX14_couldBe_50 : decode cX14_couldBe 50 = .ok (.iload_n 2, 1) := by decide +kernel
theorem dX14_couldBe_51 : decode cX14_couldBe 51 = .ok (.invokevirtual 453, 3) := by decide +kernel
theorem dX14_couldBe_54 : decode cX14_couldBe 54 = .ok (.ishl, 1) := by decide +kernel
theorem dX14_couldBe_55 : decode cX14_couldBe 55 = .ok (.ior, 1) := by decide +kernel
theorem dX14_couldBe_56 : decode cX14_couldBe 56 = .ok (.istore 4, 2) := by decide +kernel
theorem dX14_couldBe_58 : decode cX14_couldBe 58 = .ok (.iinc 5 1, 3) := by decide +kernel
theorem dX14_couldBe_61 : decode cX14_couldBe 61 = .ok (.goto (-55), 3) := by decide +kernel
theorem dX14_couldBe_64 : decode cX14_couldBe 64 = .ok (.iload 4, 2) := by decide +kernel
theorem dX14_couldBe_66 : decode cX14_couldBe 66 = .ok (.ireturn, 1) := by decide +kernel
set_option maxRecDepth 100000 in
set_option maxHeartbeats 4000000 in
theorem mX14_couldBe_L6 {E : goEv} {X : goX} {G : goG} {Q : State → Prop} {M : goMI} {L : goML} {R : goMR} {N : Nat} {v1 : Int32} {v2 : Int32} {v3 : Int32} (hc : goCx E X cX14_couldBe RX14 6) (hk : goKn E) (hR : X.2.2.2.1 = goRoom 2 47 0 0) (hr : X.2.2.2.2.2.2.2.2.1.sig.returnType = (Option.some FieldType.int)) (hW : goW G R) : ∀ (n : Nat) (v4 : Int32) (v5 : Int32) (r0 : Int32), lX14_couldBe_6 N v1 v2 v3 M R n v4 v5 = some r0 → (∀ (d0 d1 d2 d3 d5 : Option Value), goA E X G 0 0 Q 64 [d0, d1, d2, d3, some (.int r0), d5] [] M L R) → goA E X G 0 0 Q 6 [some (.ref 102), some (.int v1), some (.int v2), some (.int v3), some (.int v4), some (.int v5)] [] M L R := by
  intro n
  induction n with
  | zero => intro v4 v5 r0 h; exact nomatch h
  | succ n ih =>
    intro v4 v5 r0 h kx
    rw [lX14_couldBe_6] at h
    refine go_iload5 hc dX14_couldBe_6 ?_
    refine go_aload0 hc dX14_couldBe_8 ?_
    replace h := goBind h; obtain ⟨b11, e12, h⟩ := h
    refine go_getR hc lk_RX14_442 dX14_couldBe_9 (sh_102 hW) e12 ?_
    replace h := goBind h; obtain ⟨x13, e14, h⟩ := h
    refine go_callVi hc dX14_couldBe_12 (mX13_cases hk hW (goW_M3 hW e12) e14) ml_RX14_450 yk_X13_cases ⟨wim_X13_cases, wse_X13_cases⟩ hR rfl (shM_0 (goW_M3 hW e12)) rfl rfl rfl (Nat.le_of_ble_eq_true rfl) rfl ?_
    refine go_icmp_ge hc 64 dX14_couldBe_15 rfl (fun c15 => ?_) (fun c15 => ?_)
    · replace h := goIfF h c15
      cases h
      exact kx _ _ _ _ _
    · replace h := goIfT h c15
      refine go_aload0 hc dX14_couldBe_18 ?_
      replace h := goBind h; obtain ⟨b16, e17, h⟩ := h
      refine go_getR hc lk_RX14_442 dX14_couldBe_19 (sh_102 hW) e17 ?_
      refine go_getR hc lk_RX14_323 dX14_couldBe_22 (shM_0 (goW_M3 hW e17)) (rfM_19 (goW_M3 hW e17)) ?_
      refine go_iload1 hc dX14_couldBe_25 ?_
      replace h := goBind h; obtain ⟨x18, e19, h⟩ := h
      refine go_iald hc dX14_couldBe_26 (shM_4 (goW_M3 hW e17)) e19 ?_
      replace h := goBind h; obtain ⟨x20, e21, h⟩ := h
      have k22 : goA E X G 0 0 Q 58 [some (.ref 102), some (.int v1), some (.int v2), some (.int v3), some (.int x20), some (.int v5)] [] M L R := by
        refine go_iinc5 (v := (v5 + 1)) hc dX14_couldBe_58 rfl ?_
        refine go_goto hc 6 dX14_couldBe_61 rfl ?_
        exact ih _ _ _ h kx
      refine go_if_le hc 58 dX14_couldBe_27 rfl (fun c23 => ?_) (fun c23 => ?_)
      · replace e21 := goIfF e21 c23
        cases e21
        exact k22
      · replace e21 := goIfT e21 c23
        refine go_aload0 hc dX14_couldBe_30 ?_
        refine go_iload5 hc dX14_couldBe_31 ?_
        refine go_iload3 hc dX14_couldBe_33 ?_
        replace e21 := goBind e21; obtain ⟨x24, e25, e21⟩ := e21
        refine go_callVi hc dX14_couldBe_34 (mX14_areTrue hk hW e25) ml_RX14_529 yk_X14_areTrue ⟨wim_X14_areTrue, wse_X14_areTrue⟩ hR rfl (sh_102 hW) rfl rfl rfl (Nat.le_of_ble_eq_true rfl) rfl ?_
        refine go_if_eq hc 58 dX14_couldBe_37 rfl (fun c26 => ?_) (fun c26 => ?_)
        · replace e21 := goIfT e21 c26
          cases e21
          exact k22
        · replace e21 := goIfF e21 c26
          refine go_iload4 hc dX14_couldBe_40 ?_
          refine go_iconst (v := 1) hc dX14_couldBe_42 rfl ?_
          refine go_aload0 hc dX14_couldBe_43 ?_
          replace e21 := goBind e21; obtain ⟨b27, e28, e21⟩ := e21
          refine go_getR hc lk_RX14_442 dX14_couldBe_44 (sh_102 hW) e28 ?_
          refine go_iload5 hc dX14_couldBe_47 ?_
          refine go_iload1 hc dX14_couldBe_49 ?_
          refine go_iload2 hc dX14_couldBe_50 ?_
          replace e21 := goBind e21; obtain ⟨x29, e30, e21⟩ := e21
          refine go_callVi hc dX14_couldBe_51 (mX13_placeIn hk hW (goW_M3 hW e28) e30) ml_RX14_453 yk_X13_placeIn ⟨wim_X13_placeIn, wse_X13_placeIn⟩ hR rfl (shM_0 (goW_M3 hW e28)) rfl rfl rfl (Nat.le_of_ble_eq_true rfl) rfl ?_
          refine go_ishl hc dX14_couldBe_54 ?_
          refine go_ior hc dX14_couldBe_55 ?_
          replace e21 := goNm_x e21; obtain ⟨x31, e32, e21⟩ := e21
          refine go_nmI e32 ?_
          refine go_istore4 hc dX14_couldBe_56 ?_
          cases e21
          exact k22
set_option maxRecDepth 100000 in
set_option maxHeartbeats 4000000 in
theorem mX14_couldBe {E : goEv} {l : Launch} {G : goG} {N : Nat} {M : goMI} {L : goML} {R : goMR} {v1 : Int32} {v2 : Int32} {v3 : Int32} {r0 : Int32} (hk : goKn E) (hW : goW G R) (h : fX14_couldBe N M R v1 v2 v3 = some r0) : Met l yX14_couldBe (goCd yX14_couldBe cX14_couldBe 6 (Option.some FieldType.int)) (goRoom 2 47 0 0) (goPre E [.ref 102, .int v1, .int v2, .int v3] G M L R) (goQi E r0 G M L R) 0 0 (goSet E) := by
  refine goMet pl_RX14 hk (lv := [some (.ref 102), some (.int v1), some (.int v2), some (.int v3), none, none]) rfl (Nat.le_of_ble_eq_true rfl) ?_
  intro X hc hl hR hr hnm
  subst hl
  unfold fX14_couldBe at h
  refine go_iconst (v := 0) hc dX14_couldBe_0 rfl ?_
  refine go_istore4 hc dX14_couldBe_1 ?_
  refine go_iconst (v := 0) hc dX14_couldBe_3 rfl ?_
  refine go_istore5 hc dX14_couldBe_4 ?_
  replace h := goBind h; obtain ⟨x34, e33, h⟩ := h
  refine mX14_couldBe_L6 hc hk hR hr hW _ _ _ _ e33 (fun d0 d1 d2 d3 d5 => ?_)
  refine go_iload4 hc dX14_couldBe_64 ?_
  cases h
  exact go_iret hc dX14_couldBe_66 hr
theorem dX14_refusesPerson_0 : decode cX14_refusesPerson 0 = .ok (.aload_n 0, 1) := by decide +kernel
theorem dX14_refusesPerson_1 : decode cX14_refusesPerson 1 = .ok (.iload_n 1, 1) := by decide +kernel
theorem dX14_refusesPerson_2 : decode cX14_refusesPerson 2 = .ok (.invokevirtual 506, 3) := by decide +kernel
theorem dX14_refusesPerson_5 : decode cX14_refusesPerson 5 = .ok (.ifCond .ne 7, 3) := by decide +kernel
theorem dX14_refusesPerson_8 : decode cX14_refusesPerson 8 = .ok (.iconst 1, 1) := by decide +kernel
theorem dX14_refusesPerson_9 : decode cX14_refusesPerson 9 = .ok (.goto 16, 3) := by decide +kernel
theorem dX14_refusesPerson_12 : decode cX14_refusesPerson 12 = .ok (.aload_n 0, 1) := by decide +kernel
theorem dX14_refusesPerson_13 : decode cX14_refusesPerson 13 = .ok (.iload_n 2, 1) := by decide +kernel
theorem dX14_refusesPerson_14 : decode cX14_refusesPerson 14 = .ok (.invokevirtual 509, 3) := by decide +kernel
theorem dX14_refusesPerson_17 : decode cX14_refusesPerson 17 = .ok (.ifCond .eq 7, 3) := by decide +kernel
theorem dX14_refusesPerson_20 : decode cX14_refusesPerson 20 = .ok (.iconst 0, 1) := by decide +kernel
theorem dX14_refusesPerson_21 : decode cX14_refusesPerson 21 = .ok (.goto 4, 3) := by decide +kernel
theorem dX14_refusesPerson_24 : decode cX14_refusesPerson 24 = .ok (.iconst 2, 1) := by decide +kernel
theorem dX14_refusesPerson_25 : decode cX14_refusesPerson 25 = .ok (.ireturn, 1) := by decide +kernel
set_option maxRecDepth 100000 in
set_option maxHeartbeats 4000000 in
theorem mX14_refusesPerson {E : goEv} {l : Launch} {G : goG} {M : goMI} {L : goML} {R : goMR} {v1 : Int32} {v2 : Int32} {r0 : Int32} (hk : goKn E) (hW : goW G R) (h : fX14_refusesPerson M R v1 v2 = some r0) : Met l yX14_refusesPerson (goCd yX14_refusesPerson cX14_refusesPerson 3 (Option.some FieldType.int)) (goRoom 1 21 0 0) (goPre E [.ref 102, .int v1, .int v2] G M L R) (goQi E r0 G M L R) 0 0 (goSet E) := by
  refine goMet pl_RX14 hk (lv := [some (.ref 102), some (.int v1), some (.int v2)]) rfl (Nat.le_of_ble_eq_true rfl) ?_
  intro X hc hl hR hr hnm
  subst hl
  unfold fX14_refusesPerson at h
  refine go_aload0 hc dX14_refusesPerson_0 ?_
  refine go_iload1 hc dX14_refusesPerson_1 ?_
  replace h := goBind h; obtain ⟨x11, e12, h⟩ := h
  refine go_callVi hc dX14_refusesPerson_2 (mX14_isPerson hk hW e12) ml_RX14_506 yk_X14_isPerson ⟨wim_X14_isPerson, wse_X14_isPerson⟩ hR rfl (sh_102 hW) rfl rfl rfl (Nat.le_of_ble_eq_true rfl) rfl ?_
  refine go_if_ne hc 12 dX14_refusesPerson_5 rfl (fun c13 => ?_) (fun c13 => ?_)
  · replace h := goIfF h c13
    refine go_aload0 hc dX14_refusesPerson_12 ?_
    refine go_iload2 hc dX14_refusesPerson_13 ?_
    replace h := goBind h; obtain ⟨x14, e15, h⟩ := h
    refine go_callVi hc dX14_refusesPerson_14 (mX14_isHour hk hW e15) ml_RX14_509 yk_X14_isHour ⟨wim_X14_isHour, wse_X14_isHour⟩ hR rfl (sh_102 hW) rfl rfl rfl (Nat.le_of_ble_eq_true rfl) rfl ?_
    refine go_if_eq hc 24 dX14_refusesPerson_17 rfl (fun c16 => ?_) (fun c16 => ?_)
    · replace h := goIfT h c16
      refine go_iconst (v := 2) hc dX14_refusesPerson_24 rfl ?_
      cases h
      exact go_iret hc dX14_refusesPerson_25 hr
    · replace h := goIfF h c16
      refine go_iconst (v := 0) hc dX14_refusesPerson_20 rfl ?_
      refine go_goto hc 25 dX14_refusesPerson_21 rfl ?_
      cases h
      exact go_iret hc dX14_refusesPerson_25 hr
  · replace h := goIfT h c13
    refine go_iconst (v := 1) hc dX14_refusesPerson_8 rfl ?_
    refine go_goto hc 25 dX14_refusesPerson_9 rfl ?_
    cases h
    exact go_iret hc dX14_refusesPerson_25 hr
theorem dX14_could_0 : decode cX14_could 0 = .ok (.aload_n 0, 1) := by decide +kernel
theorem dX14_could_1 : decode cX14_could 1 = .ok (.iconst 0, 1) := by decide +kernel
theorem dX14_could_2 : decode cX14_could 2 = .ok (.putfield 66, 3) := by decide +kernel
theorem dX14_could_5 : decode cX14_could 5 = .ok (.aload_n 0, 1) := by decide +kernel
theorem dX14_could_6 : decode cX14_could 6 = .ok (.iload_n 1, 1) := by decide +kernel
theorem dX14_could_7 : decode cX14_could 7 = .ok (.iload_n 2, 1) := by decide +kernel
theorem dX14_could_8 : decode cX14_could 8 = .ok (.invokevirtual 532, 3) := by decide +kernel
theorem dX14_could_11 : decode cX14_could 11 = .ok (.istore_n 3, 1) := by decide +kernel
theorem dX14_could_12 : decode cX14_could 12 = .ok (.iload_n 3, 1) := by decide +kernel
theorem dX14_could_13 : decode cX14_could 13 = .ok (.ifCond .le 9, 3) := by decide +kernel
theorem dX14_could_16 : decode cX14_could 16 = .ok (.aload_n 0, 1) := by decide +kernel
theorem dX14_could_17 : decode cX14_could 17 = .ok (.iload_n 3, 1) := by decide +kernel
theorem dX14_could_18 : decode cX14_could 18 = .ok (.invokevirtual 72, 3) := by decide +kernel
theorem dX14_could_21 : decode cX14_could 21 = .ok (.ireturn, 1) := by decide +kernel
theorem dX14_could_22 : decode cX14_could 22 = .ok (.aload_n 0, 1) := by decide +kernel
theorem dX14_could_23 : decode cX14_could 23 = .ok (.invokevirtual 523, 3) := by decide +kernel
theorem dX14_could_26 : decode cX14_could 26 = .ok (.aload_n 0, 1) := by decide +kernel
theorem dX14_could_27 : decode cX14_could 27 = .ok (.aload_n 0, 1) := by decide +kernel
theorem dX14_could_28 : decode cX14_could 28 = .ok (.iload_n 1, 1) := by decide +kernel
theorem dX14_could_29 : decode cX14_could 29 = .ok (.iload_n 2, 1) := by decide +kernel
theorem dX14_could_30 : decode cX14_could 30 = .ok (.aload_n 0, 1) := by decide +kernel
theorem dX14_could_31 : decode cX14_could 31 = .ok (.invokevirtual 526, 3) := by decide +kernel
theorem dX14_could_34 : decode cX14_could 34 = .ok (.invokevirtual 535, 3) := by decide +kernel
theorem dX14_could_37 : decode cX14_could 37 = .ok (.invokevirtual 76, 3) := by decide +kernel
theorem dX14_could_40 : decode cX14_could 40 = .ok (.ireturn, 1) := by decide +kernel
set_option maxRecDepth 100000 in
set_option maxHeartbeats 4000000 in
theorem mX14_could {E : goEv} {l : Launch} {G : goG} {N : Nat} {M : goMI} {L : goML} {R : goMR} {v1 : Int32} {v2 : Int32} {r0 : Int32} {r1 : goMI} (hk : goKn E) (hW : goW G R) (h : fX14_could N M R v1 v2 = some (r0, r1)) : Met l yX14_could (goCd yX14_could cX14_could 4 (Option.some FieldType.int)) (goRoom 7 168 0 0) (goPre E [.ref 102, .int v1, .int v2] G M L R) (goQi E r0 G r1 L R) 0 0 (goSet E) := by
  refine goMet pl_RX14 hk (lv := [some (.ref 102), some (.int v1), some (.int v2), none]) rfl (Nat.le_of_ble_eq_true rfl) ?_
  intro X hc hl hR hr hnm
  subst hl
  unfold fX14_could at h
  refine go_aload0 hc dX14_could_0 ?_
  refine go_iconst (v := 0) hc dX14_could_1 rfl ?_
  replace h := goNm_x h; obtain ⟨M11, e12, h⟩ := h
  refine go_ptI hc lk_RX14_66 dX14_could_2 (sh_102 hW) e12 ?_
  refine go_aload0 hc dX14_could_5 ?_
  refine go_iload1 hc dX14_could_6 ?_
  refine go_iload2 hc dX14_could_7 ?_
  replace h := goBind h; obtain ⟨x13, e14, h⟩ := h
  refine go_callVi hc dX14_could_8 (mX14_refusesPerson hk hW e14) ml_RX14_532 yk_X14_refusesPerson ⟨wim_X14_refusesPerson, wse_X14_refusesPerson⟩ hR rfl (sh_102 hW) rfl rfl rfl (Nat.le_of_ble_eq_true rfl) rfl ?_
  refine go_istore3 hc dX14_could_11 ?_
  refine go_iload3 hc dX14_could_12 ?_
  refine go_if_le hc 22 dX14_could_13 rfl (fun c15 => ?_) (fun c15 => ?_)
  · replace h := goIfF h c15
    refine go_aload0 hc dX14_could_22 ?_
    replace h := goBind h; obtain ⟨M16, e17, h⟩ := h
    refine go_callVv hc dX14_could_23 (mX14_laysHonest hk hW e17) ml_RX14_523 yk_X14_laysHonest ⟨wim_X14_laysHonest, wse_X14_laysHonest⟩ hR rfl (sh_102 hW) rfl rfl rfl (Nat.le_of_ble_eq_true rfl) rfl ?_
    refine go_aload0 hc dX14_could_26 ?_
    refine go_aload0 hc dX14_could_27 ?_
    refine go_iload1 hc dX14_could_28 ?_
    refine go_iload2 hc dX14_could_29 ?_
    refine go_aload0 hc dX14_could_30 ?_
    replace h := goBind h; obtain ⟨x18, e19, h⟩ := h
    refine go_callVi hc dX14_could_31 (mX14_heard hk hW e19) ml_RX14_526 yk_X14_heard ⟨wim_X14_heard, wse_X14_heard⟩ hR rfl (sh_102 hW) rfl rfl rfl (Nat.le_of_ble_eq_true rfl) rfl ?_
    replace h := goBind h; obtain ⟨x20, e21, h⟩ := h
    refine go_callVi hc dX14_could_34 (mX14_couldBe hk hW e21) ml_RX14_535 yk_X14_couldBe ⟨wim_X14_couldBe, wse_X14_couldBe⟩ hR rfl (sh_102 hW) rfl rfl rfl (Nat.le_of_ble_eq_true rfl) rfl ?_
    replace h := goB2_h h; obtain ⟨x22, M23, e24, h⟩ := h
    refine go_callVi hc dX14_could_37 (mX14_good hk hW e24) ml_RX14_76 yk_X14_good ⟨wim_X14_good, wse_X14_good⟩ hR rfl (sh_102 hW) rfl rfl rfl (Nat.le_of_ble_eq_true rfl) rfl ?_
    cases h
    exact go_iret hc dX14_could_40 hr
  · replace h := goIfT h c15
    refine go_aload0 hc dX14_could_16 ?_
    refine go_iload3 hc dX14_could_17 ?_
    replace h := goB2_h h; obtain ⟨x25, M26, e27, h⟩ := h
    refine go_callVi hc dX14_could_18 (mX14_refused hk hW e27) ml_RX14_72 yk_X14_refused ⟨wim_X14_refused, wse_X14_refused⟩ hR rfl (sh_102 hW) rfl rfl rfl (Nat.le_of_ble_eq_true rfl) rfl ?_
    cases h
    exact go_iret hc dX14_could_21 hr
theorem dX14_surely_0 : decode cX14_surely 0 = .ok (.aload_n 0, 1) := by decide +kernel
theorem dX14_surely_1 : decode cX14_surely 1 = .ok (.iconst 0, 1) := by decide +kernel
theorem dX14_surely_2 : decode cX14_surely 2 = .ok (.putfield 66, 3) := by decide +kernel
theorem dX14_surely_5 : decode cX14_surely 5 = .ok (.aload_n 0, 1) := by decide +kernel
theorem dX14_surely_6 : decode cX14_surely 6 = .ok (.iload_n 1, 1) := by decide +kernel
theorem dX14_surely_7 : decode cX14_surely 7 = .ok (.iload_n 2, 1) := by decide +kernel
theorem dX14_surely_8 : decode cX14_surely 8 = .ok (.invokevirtual 532, 3) := by decide +kernel
theorem dX14_surely_11 : decode cX14_surely 11 = .ok (.istore_n 3, 1) := by decide +kernel
theorem dX14_surely_12 : decode cX14_surely 12 = .ok (.iload_n 3, 1) := by decide +kernel
theorem dX14_surely_13 : decode cX14_surely 13 = .ok (.ifCond .le 9, 3) := by decide +kernel
theorem dX14_surely_16 : decode cX14_surely 16 = .ok (.aload_n 0, 1) := by decide +kernel
theorem dX14_surely_17 : decode cX14_surely 17 = .ok (.iload_n 3, 1) := by decide +kernel
theorem dX14_surely_18 : decode cX14_surely 18 = .ok (.invokevirtual 72, 3) := by decide +kernel
theorem dX14_surely_21 : decode cX14_surely 21 = .ok (.ireturn, 1) := by decide +kernel
theorem dX14_surely_22 : decode cX14_surely 22 = .ok (.aload_n 0, 1) := by decide +kernel
theorem dX14_surely_23 : decode cX14_surely 23 = .ok (.invokevirtual 523, 3) := by decide +kernel
theorem dX14_surely_26 : decode cX14_surely 26 = .ok (.aload_n 0, 1) := by decide +kernel
theorem dX14_surely_27 : decode cX14_surely 27 = .ok (.iload_n 1, 1) := by decide +kernel
theorem dX14_surely_28 : decode cX14_surely 28 = .ok (.iload_n 2, 1) := by decide +kernel
theorem dX14_surely_29 : decode cX14_surely 29 = .ok (.aload_n 0, 1) := by decide +kernel
theorem dX14_surely_30 : decode cX14_surely 30 = .ok (.invokevirtual 526, 3) := by decide +kernel
theorem dX14_surely_33 : decode cX14_surely 33 = .ok (.invokevirtual 535, 3) := by decide +kernel
theorem dX14_surely_36 : decode cX14_surely 36 = .ok (.istore 4, 2) := by decide +kernel
theorem dX14_surely_38 : decode cX14_surely 38 = .ok (.iconst 0, 1) := by decide +kernel
theorem dX14_surely_39 : decode cX14_surely 39 = .ok (.istore 5, 2) := by decide +kernel
theorem dX14_surely_41 : decode cX14_surely 41 = .ok (.iload 5, 2) := by decide +kernel
theorem dX14_surely_43 : decode cX14_surely 43 = .ok (.aload_n 0, 1) := by decide +kernel
theorem dX14_surely_44 : decode cX14_surely 44 = .ok (.getfield 442, 3) := by decide +kernel
theorem dX14_surely_47 : decode cX14_surely 47 = .ok (.getfield 241, 3) := by decide +kernel
theorem dX14_surely_50 : decode cX14_surely 50 = .ok (.if_icmp .ge 25, 3) := by decide +kernel
theorem dX14_surely_53 : decode cX14_surely 53 = .ok (.iload 4, 2) := by decide +kernel
theorem dX14_surely_55 : decode cX14_surely 55 = .ok (.iconst 1, 1) := by decide +kernel
theorem dX14_surely_56 : decode cX14_surely 56 = .ok (.iload 5, 2) := by decide +kernel
theorem dX14_surely_58 : decode cX14_surely 58 = .ok (.ishl, 1) := by decide +kernel
theorem dX14_surely_59 : decode cX14_surely 59 = .ok (.if_icmp .ne 10, 3) := by decide +kernel
theorem dX14_surely_62 : decode cX14_surely 62 = .ok (.aload_n 0, 1) := by decide +kernel
theorem dX14_surely_63 : decode cX14_surely 63 = .ok (.iload 5, 2) := by decide +kernel
theorem dX14_surely_65 : decode cX14_surely 65 = .ok (.invokevirtual 76, 3) := by decide +kernel
theorem dX14_surely_68 : decode cX14_surely 68 = .ok (.ireturn, 1) := by decide +kernel
theorem dX14_surely_69 : decode cX14_surely 69 = .ok (.iinc 5 1, 3) := by decide +kernel
theorem dX14_surely_72 : decode cX14_surely 72 = .ok (.goto (-31), 3) := by decide +kernel
theorem dX14_surely_75 : decode cX14_surely 75 = .ok (.aload_n 0, 1) := by decide +kernel
theorem dX14_surely_76 : decode cX14_surely 76 = .ok (.bipush (-2), 2) := by decide +kernel
theorem dX14_surely_78 : decode cX14_surely 78 = .ok (.invokevirtual 76, 3) := by decide +kernel
theorem dX14_surely_81 : decode cX14_surely 81 = .ok (.ireturn, 1) := by decide +kernel
set_option maxRecDepth 100000 in
set_option maxHeartbeats 4000000 in
theorem mX14_surely_L41 {E : goEv} {X : goX} {G : goG} {M : goMI} {L : goML} {R : goMR} {v4 : Int32} {r0 : Int32} {r1 : goMI} (hc : goCx E X cX14_surely RX14 6) (hk : goKn E) (hR : X.2.2.2.1 = goRoom 7 168 0 0) (hr : X.2.2.2.2.2.2.2.2.1.sig.returnType = (Option.some FieldType.int)) (hW : goW G R) : ∀ (n : Nat) (v5 : Int32), lX14_surely_41 v4 M R n v5 = some (r0, r1) → ∀ (d1 d2 d3 : Option Value), goA E X G 0 0 (goMQ X E (goQi E r0 G r1 L R) 0 0) 41 [some (.ref 102), d1, d2, d3, some (.int v4), some (.int v5)] [] M L R := by
  intro n
  induction n with
  | zero => intro v5 h; exact nomatch h
  | succ n ih =>
    intro v5 h d1 d2 d3
    rw [lX14_surely_41] at h
    refine go_iload5 hc dX14_surely_41 ?_
    refine go_aload0 hc dX14_surely_43 ?_
    replace h := goBind h; obtain ⟨b22, e23, h⟩ := h
    refine go_getR hc lk_RX14_442 dX14_surely_44 (sh_102 hW) e23 ?_
    refine go_getI hc lk_RX14_241 dX14_surely_47 (shM_0 (goW_M3 hW e23)) ?_
    refine go_icmp_ge hc 75 dX14_surely_50 rfl (fun c24 => ?_) (fun c24 => ?_)
    · replace h := goIfF h c24
      refine go_aload0 hc dX14_surely_75 ?_
      refine go_bipush (v := (-2)) hc dX14_surely_76 rfl ?_
      replace h := goB2_h h; obtain ⟨x25, M26, e27, h⟩ := h
      refine go_callVi hc dX14_surely_78 (mX14_good hk hW e27) ml_RX14_76 yk_X14_good ⟨wim_X14_good, wse_X14_good⟩ hR rfl (sh_102 hW) rfl rfl rfl (Nat.le_of_ble_eq_true rfl) rfl ?_
      cases h
      exact go_iret hc dX14_surely_81 hr
    · replace h := goIfT h c24
      refine go_iload4 hc dX14_surely_53 ?_
      refine go_iconst (v := 1) hc dX14_surely_55 rfl ?_
      refine go_iload5 hc dX14_surely_56 ?_
      refine go_ishl hc dX14_surely_58 ?_
      refine go_icmp_ne hc 69 dX14_surely_59 rfl (fun c28 => ?_) (fun c28 => ?_)
      · replace h := goIfF h c28
        refine go_iinc5 (v := (v5 + 1)) hc dX14_surely_69 rfl ?_
        refine go_goto hc 41 dX14_surely_72 rfl ?_
        exact ih _ h _ _ _
      · replace h := goIfT h c28
        refine go_aload0 hc dX14_surely_62 ?_
        refine go_iload5 hc dX14_surely_63 ?_
        replace h := goB2_h h; obtain ⟨x29, M30, e31, h⟩ := h
        refine go_callVi hc dX14_surely_65 (mX14_good hk hW e31) ml_RX14_76 yk_X14_good ⟨wim_X14_good, wse_X14_good⟩ hR rfl (sh_102 hW) rfl rfl rfl (Nat.le_of_ble_eq_true rfl) rfl ?_
        cases h
        exact go_iret hc dX14_surely_68 hr
set_option maxRecDepth 100000 in
set_option maxHeartbeats 4000000 in
theorem mX14_surely {E : goEv} {l : Launch} {G : goG} {N : Nat} {M : goMI} {L : goML} {R : goMR} {v1 : Int32} {v2 : Int32} {r0 : Int32} {r1 : goMI} (hk : goKn E) (hW : goW G R) (h : fX14_surely N M R v1 v2 = some (r0, r1)) : Met l yX14_surely (goCd yX14_surely cX14_surely 6 (Option.some FieldType.int)) (goRoom 7 168 0 0) (goPre E [.ref 102, .int v1, .int v2] G M L R) (goQi E r0 G r1 L R) 0 0 (goSet E) := by
  refine goMet pl_RX14 hk (lv := [some (.ref 102), some (.int v1), some (.int v2), none, none, none]) rfl (Nat.le_of_ble_eq_true rfl) ?_
  intro X hc hl hR hr hnm
  subst hl
  unfold fX14_surely at h
  refine go_aload0 hc dX14_surely_0 ?_
  refine go_iconst (v := 0) hc dX14_surely_1 rfl ?_
  replace h := goNm_x h; obtain ⟨M11, e12, h⟩ := h
  refine go_ptI hc lk_RX14_66 dX14_surely_2 (sh_102 hW) e12 ?_
  refine go_aload0 hc dX14_surely_5 ?_
  refine go_iload1 hc dX14_surely_6 ?_
  refine go_iload2 hc dX14_surely_7 ?_
  replace h := goBind h; obtain ⟨x13, e14, h⟩ := h
  refine go_callVi hc dX14_surely_8 (mX14_refusesPerson hk hW e14) ml_RX14_532 yk_X14_refusesPerson ⟨wim_X14_refusesPerson, wse_X14_refusesPerson⟩ hR rfl (sh_102 hW) rfl rfl rfl (Nat.le_of_ble_eq_true rfl) rfl ?_
  refine go_istore3 hc dX14_surely_11 ?_
  refine go_iload3 hc dX14_surely_12 ?_
  refine go_if_le hc 22 dX14_surely_13 rfl (fun c15 => ?_) (fun c15 => ?_)
  · replace h := goIfF h c15
    refine go_aload0 hc dX14_surely_22 ?_
    replace h := goBind h; obtain ⟨M16, e17, h⟩ := h
    refine go_callVv hc dX14_surely_23 (mX14_laysHonest hk hW e17) ml_RX14_523 yk_X14_laysHonest ⟨wim_X14_laysHonest, wse_X14_laysHonest⟩ hR rfl (sh_102 hW) rfl rfl rfl (Nat.le_of_ble_eq_true rfl) rfl ?_
    refine go_aload0 hc dX14_surely_26 ?_
    refine go_iload1 hc dX14_surely_27 ?_
    refine go_iload2 hc dX14_surely_28 ?_
    refine go_aload0 hc dX14_surely_29 ?_
    replace h := goBind h; obtain ⟨x18, e19, h⟩ := h
    refine go_callVi hc dX14_surely_30 (mX14_heard hk hW e19) ml_RX14_526 yk_X14_heard ⟨wim_X14_heard, wse_X14_heard⟩ hR rfl (sh_102 hW) rfl rfl rfl (Nat.le_of_ble_eq_true rfl) rfl ?_
    replace h := goBind h; obtain ⟨x20, e21, h⟩ := h
    refine go_callVi hc dX14_surely_33 (mX14_couldBe hk hW e21) ml_RX14_535 yk_X14_couldBe ⟨wim_X14_couldBe, wse_X14_couldBe⟩ hR rfl (sh_102 hW) rfl rfl rfl (Nat.le_of_ble_eq_true rfl) rfl ?_
    refine go_istore4 hc dX14_surely_36 ?_
    refine go_iconst (v := 0) hc dX14_surely_38 rfl ?_
    refine go_istore5 hc dX14_surely_39 ?_
    exact mX14_surely_L41 hc hk hR hr hW _ _ h _ _ _
  · replace h := goIfT h c15
    refine go_aload0 hc dX14_surely_16 ?_
    refine go_iload3 hc dX14_surely_17 ?_
    replace h := goB2_h h; obtain ⟨x32, M33, e34, h⟩ := h
    refine go_callVi hc dX14_surely_18 (mX14_refused hk hW e34) ml_RX14_72 yk_X14_refused ⟨wim_X14_refused, wse_X14_refused⟩ hR rfl (sh_102 hW) rfl rfl rfl (Nat.le_of_ble_eq_true rfl) rfl ?_
    cases h
    exact go_iret hc dX14_surely_21 hr
