theorem dX12_put_0 : decode cX12_put 0 = .ok (.aload_n 0, 1) := by decide +kernel
theorem dX12_put_1 : decode cX12_put 1 = .ok (.getfield 19, 3) := by decide +kernel
theorem dX12_put_4 : decode cX12_put 4 = .ok (.iload_n 2, 1) := by decide +kernel
theorem dX12_put_5 : decode cX12_put 5 = .ok (.ifCond .eq 8, 3) := by decide +kernel
theorem dX12_put_8 : decode cX12_put 8 = .ok (.bipush 12, 2) := by decide +kernel
theorem dX12_put_10 : decode cX12_put 10 = .ok (.goto 4, 3) := by decide +kernel
theorem dX12_put_13 : decode cX12_put 13 = .ok (.iconst 0, 1) := by decide +kernel
theorem dX12_put_14 : decode cX12_put 14 = .ok (.iload_n 1, 1) := by decide +kernel
theorem dX12_put_15 : decode cX12_put 15 = .ok (.invokevirtual 366, 3) := by decide +kernel
theorem dX12_put_18 : decode cX12_put 18 = .ok (.istore_n 3, 1) := by decide +kernel
theorem dX12_put_19 : decode cX12_put 19 = .ok (.iload_n 3, 1) := by decide +kernel
theorem dX12_put_20 : decode cX12_put 20 = .ok (.ifCond .ge 11, 3) := by decide +kernel
theorem dX12_put_23 : decode cX12_put 23 = .ok (.new 369, 3) := by decide +kernel
theorem dX12_put_26 : decode cX12_put 26 = .ok (.dup, 1) := by decide +kernel
theorem dX12_put_27 : decode cX12_put 27 = .ok (.invokespecial 371, 3) := by decide +kernel
theorem dX12_put_30 : decode cX12_put 30 = .ok (.athrow, 1) := by decide +kernel
theorem dX12_put_31 : decode cX12_put 31 = .ok (.iload_n 3, 1) := by decide +kernel
theorem dX12_put_32 : decode cX12_put 32 = .ok (.invokestatic 289, 3) := by decide +kernel
theorem dX12_put_35 : decode cX12_put 35 = .ok (.ireturn, 1) := by decide +kernel
theorem dL_put_0 : decode cL_put 0 = .ok (.aload_n 3, 1) := by decide +kernel
theorem dL_put_1 : decode cL_put 1 = .ok (.iconst 0, 1) := by decide +kernel
theorem dL_put_2 : decode cL_put 2 = .ok (.aload_n 0, 1) := by decide +kernel
theorem dL_put_3 : decode cL_put 3 = .ok (.iload_n 1, 1) := by decide +kernel
theorem dL_put_4 : decode cL_put 4 = .ok (.iload_n 2, 1) := by decide +kernel
theorem dL_put_5 : decode cL_put 5 = .ok (.invokevirtual 7, 3) := by decide +kernel
theorem dL_put_8 : decode cL_put 8 = .ok (.i2l, 1) := by decide +kernel
theorem dL_put_9 : decode cL_put 9 = .ok (.lastore, 1) := by decide +kernel
theorem dL_put_10 : decode cL_put 10 = .ok (.goto 7, 3) := by decide +kernel
theorem dL_put_13 : decode cL_put 13 = .ok (.astore 4, 2) := by decide +kernel
theorem dL_put_15 : decode cL_put 15 = .ok (.iconst 1, 1) := by decide +kernel
theorem dL_put_16 : decode cL_put 16 = .ok (.ireturn, 1) := by decide +kernel
theorem dL_put_17 : decode cL_put 17 = .ok (.iconst 0, 1) := by decide +kernel
theorem dL_put_18 : decode cL_put 18 = .ok (.ireturn, 1) := by decide +kernel
theorem wcw_put : Cond.codeWith yL_put cL_put 5 (some .int) [(0, 10, 13, 13)] ∈ goTb := wt_6 (List.mem_of_getElem? (i := 216) rfl) rfl
theorem wcl_RL_13 : Cond.classLink RL 13 "java/util/NoSuchElementException" ∈ goTb := wt_6 (List.mem_of_getElem? (i := 217) rfl) rfl
theorem wcl_RX12_369 : Cond.classLink RX12 369 "java/util/NoSuchElementException" ∈ goTb := wt_6 (List.mem_of_getElem? (i := 226) rfl) rfl
theorem win_nse : Cond.initialized "java/util/NoSuchElementException" ∈ goTb := wt_1 (List.mem_of_getElem? (i := 28) rfl) rfl
theorem wca_nse : Cond.castable "java/util/NoSuchElementException" "java/util/NoSuchElementException" ∈ lw_tbl := wl_6 (List.mem_of_getElem? (i := 228) rfl)
def goCd2 : Cond → Bool
  | .castable _ _ => true
  | .declares _ => true
  | _ => false
abbrev goNse : List String := ["java/lang/RuntimeException", "java/lang/Exception"]
theorem goAt_good : ∀ w ∈ (vx_at0 RX12 371 "java/util/NoSuchElementException" goNse).filter goodWord, w ∈ lw_tbl := by decide +kernel
theorem goAt_rest : ∀ w ∈ (vx_at0 RX12 371 "java/util/NoSuchElementException" goNse).filter (fun w => !goodWord w), w ∈ lw_tbl.filter goCd2 := by decide +kernel
theorem goAt_ot : ∀ w ∈ Cond.classLink RX12 369 "java/util/NoSuchElementException" :: Cond.initialized "java/util/NoSuchElementException" :: vx_at0 RX12 371 "java/util/NoSuchElementException" goNse, vx_ot w = true := by decide +kernel
/-- what a throw wants of the launch -/
def goXn (E : goEv) : Prop := vx_Zq Bundle.tN "UNASSIGNED_STACK" Bundle.steD (goSet E) E.1 E.1.heap ∧ vx_Zq Bundle.tN "SUPPRESSED_SENTINEL" Bundle.listD (goSet E) E.1 E.1.heap ∧ ∀ w ∈ lw_tbl, goCd2 w = true → va_Nw w E.1
theorem goXn_w {E : goEv} {s : State} {args : Array Value} (hx : goXn E) (hW : E.1.WarmedH s.vm) : ∀ w ∈ lw_tbl.filter goCd2, w.before args s = true := by
  intro w hw
  obtain ⟨h1, h2⟩ := List.mem_filter.mp hw
  have h3 := hx.2.2 w h1 h2
  cases w <;> first | exact absurd h2 Bool.false_ne_true | exact va_Nw.use rfl (h3.warmC hW) | exact va_Nw.use rfl (h3.warmD hW)
theorem goMetX {E : goEv} {l : Launch} {y : MethodName} {cc : ByteArray} {mL : Nat} {ret : Option FieldType} {rm : Room} {as : List Value} {lv : List (Option Value)} {G : goG} {M : goMI} {L : goML} {R : goMR} {Qc : Array Value → State → Outcome → State → Prop} {XC : String → State → State → Prop} {mc ms : Nat}
    (hy : plainName y.cls = true) (hk : goKn E) (hlv : goLv as ++ List.replicate (mL - (goLv as).length) none = lv) (hle : (goLv as).length ≤ mL)
    (body : ∀ X : goX, goCx E X cc y.cls mL → X.2.1 = l → X.2.2.2.1 = rm → X.2.2.2.2.2.2.2.2.1.sig.returnType = ret → (∀ x ∈ X.2.2.2.2.2.2.2.2.2.exceptionTable.toList, False) → goA E X G 0 0 (vx_MQ X.2.2.2.2.2.2.2.1 Qc XC X.2.2.2.2.2.2.1 X.2.2.2.2.1 mc ms (goSet E)) 0 lv [] M L R) : vx_Met l y (goCd y cc mL ret) rm (goPre E as G M L R) Qc XC mc ms (goSet E) := by
  refine vx_ofW (cc := cc) (maxL := mL) (ret := ret) hy rfl ?_
  intro p e s m args below meth c s₁ B hml htab hv
  obtain ⟨rfl, hw, hlow, hhp⟩ := hv
  have hts := atoms_spec (ws := goCd y cc mL ret) B.pre
  have hcx : goCx E (p, l, e, rm, s, m, (as.map (goCv E)).toArray, below, meth, c) cc y.cls mL := ⟨B.exec, B.bytes, hml, findClass_of_methodNamed B.named, fun w h => hts w (List.mem_cons_of_mem _ h), B.notSynchronized, hw, hk, by rw [hhp.1]; exact Nat.le_add_right _ _, hlow⟩
  have K := body (p, l, e, rm, s, m, (as.map (goCv E)).toArray, below, meth, c) hcx rfl rfl B.returns htab
  rw [lg_entry_eq]
  refine K s.heap [] _ hhp va_S.rf hlow ?_
  have hl := lv_entry (as.map (goCv E)) (n := mL) (by rw [goLv_len]; exact hle)
  have hlen : lv.length = mL := by rw [← hlv]; simp; omega
  refine ⟨by rw [hlen]; exact hl.1, hl.2.1, fun q hq => hl.2.2 q ?_⟩
  obtain ⟨j, v, h1, rfl⟩ := goAsc_mem.mp hq
  refine goLv_mem as 0 j v ?_
  rw [← hlv] at h1
  by_cases hj : j < (goLv as).length
  · rw [List.getElem?_append_left hj] at h1; exact h1
  · rw [List.getElem?_append_right (by omega)] at h1
    rw [List.getElem?_replicate] at h1
    split at h1 <;> simp at h1
theorem go_vxret {E : goEv} {X : goX} {G : goG} {ce sl pc : Nat} {lv : List (Option Value)} {st : List Value} {M : goMI} {L : goML} {R : goMR} {Qc : Array Value → State → Outcome → State → Prop} {XC : String → State → State → Prop} {mc ms : Nat} (k : goA E X G ce sl (goMQ X E Qc mc ms) pc lv st M L R) : goA E X G ce sl (vx_MQ X.2.2.2.2.2.2.2.1 Qc XC X.2.2.2.2.2.2.1 X.2.2.2.2.1 mc ms (goSet E)) pc lv st M L R := fun H locs ls a1 a2 a3 a4 => vx_ret (k H locs ls a1 a2 a3 a4)
def goQp (E : goEv) (s : Int32) (G : goG) (M : goMI) (L : goML) (R : goMR) : Array Value → State → Outcome → State → Prop := va_Qi (S := Unit) (fun r _ => r = fX12_spotCode s ∧ ¬ s < 0) (fun _ t => goHp E G M L R t.heap) (goSet E)
/-- the cells as they were, with more behind them -/
def goHq (E : goEv) (G : goG) (M : goMI) (L : goML) (R : goMR) (H : Heap) : Prop := E.2.1 + G.2 ≤ H.size ∧ ∀ a, a < G.2 → goAt E (G.1 a) M L R a H
def goXp (E : goEv) (s : Int32) (G : goG) (M : goMI) (L : goML) (R : goMR) : String → State → State → Prop := vx_X (S := Unit) (fun _ => s < 0) (fun C _ t => C = "java/util/NoSuchElementException" ∧ goHq E G M L R t.heap) (goSet E)
theorem goHq_ux {E : goEv} {G : goG} {M : goMI} {L : goML} {R : goMR} {H : Heap} (h : goHq E G M L R H) (hs : H.size ≤ E.2.1 + 1000000) : goHp E (goUx G (H.size - E.2.1)) M L R H := by
  have h1 := h.1
  refine ⟨by show H.size = E.2.1 + (H.size - E.2.1); omega, by show H.size - E.2.1 ≤ 1000000; omega, fun a ha => ?_⟩
  show goAt E (if a < G.2 then G.1 a else (9, 0)) M L R a H
  split
  · exact h.2 a (by assumption)
  · exact trivial
set_option maxRecDepth 100000 in
set_option maxHeartbeats 4000000 in
theorem mX12_put {E : goEv} {l : Launch} {G : goG} {N : Nat} {M : goMI} {L : goML} {R : goMR} {v1 v2 s : Int32} (hfl : l.stackTraces = false) (hx : goXn E) (hk : goKn E) (hW : goW G R) (h : fX1_spot N M (if v2 = 0 then 0 else 12) v1 = some s) : vx_Met l yX12_put (goCd yX12_put cX12_put 4 (some .int)) (goRoom 6 100 1 6) (goPre E [.ref 0, .int v1, .int v2] G M L R) (goQp E s G M L R) (goXp E s G M L R) 1 6 (goSet E) := by
  refine goMetX pl_RX12 hk (lv := [some (.ref 0), some (.int v1), some (.int v2), none]) rfl (Nat.le_of_ble_eq_true rfl) ?_
  intro X hc hl hR hr htab
  subst hl
  refine go_aload0 hc dX12_put_0 ?_
  refine go_getR hc lk_RX12_19 dX12_put_1 (sh_0 hW) (rf_0_2 hW) ?_
  refine go_iload2 hc dX12_put_4 ?_
  have kj : goA E X G 0 0 (vx_MQ X.2.2.2.2.2.2.2.1 (goQp E s G M L R) (goXp E s G M L R) X.2.2.2.2.2.2.1 X.2.2.2.2.1 1 6 (goSet E)) 14 [some (.ref 0), some (.int v1), some (.int v2), none] [.int (if v2 = 0 then 0 else 12), .ref 3] M L R := by
    refine go_iload1 hc dX12_put_14 ?_
    refine go_callVi hc dX12_put_15 (mX1_spot hk hW h) ml_RX12_366 yk_X1_spot ⟨wim_X1_spot, wse_X1_spot⟩ hR rfl (sh_3 hW) rfl rfl rfl (Nat.le_of_ble_eq_true rfl) rfl ?_
    refine go_istore3 hc dX12_put_18 ?_
    refine go_iload3 hc dX12_put_19 ?_
    refine go_if_ge hc 31 dX12_put_20 rfl (fun c => ?_) (fun c => ?_)
    · refine go_iload3 hc dX12_put_31 ?_
      refine go_callSi hc dX12_put_32 (mX12_spotCode hk hW rfl) ml_RX12_289 yk_X12_spotCode wst_X12_spotCode hR rfl rfl rfl (Nat.le_of_ble_eq_true rfl) rfl ?_
      refine go_vxret ?_
      refine go_widen (k := 1) (n := 6) (by omega) (by omega) ?_
      intro H locs ls a1 a2 a3 a4
      exact W.iret hc.1 hc.2.1 hr (fun t ht _ => ⟨⟨_, (), rfl, ⟨rfl, c⟩, by show goHp E G M L R t.heap; rw [ht]; exact a1⟩, a2.F ht⟩) a2.2.2 dX12_put_35 hc.2.2.2.2.2.1
    · intro H locs ls a1 a2 a3 a4
      have hts := hc.2.2.2.2.1
      refine vx_throw0 (own := RX12) (cls := "java/util/NoSuchElementException") (names := goNse) (ik := 369) (ic := 371) (A := goSet E) hc.1 hc.2.1 hfl hc.2.2.2.1 (by decide +kernel) (by decide +kernel) (hts _ wcl_RX12_369) (hts _ win_nse) (vx_hat (B := lw_tbl.filter goCd2) (fun w hw => hts w (List.mem_filter.mpr ⟨goAt_good w hw, (List.mem_filter.mp hw).2⟩)) goAt_rest (goXn_w hx hc.2.2.2.2.2.2.1)) goAt_ot ((hx.1.moved hc.2.2.2.2.2.2.1.alike).kept (goLowK hc)) ((hx.2.1.moved hc.2.2.2.2.2.2.1.alike).kept (goLowK hc)) a2 (a4.1.trans hc.2.2.1.symm) dX12_put_23 dX12_put_26 dX12_put_27 dX12_put_30 (fun x hx => (htab x hx).elim) (by rw [hR]; exact Nat.le_of_ble_eq_true rfl) (by rw [hR]; exact Nat.le_of_ble_eq_true rfl) (by rw [hR]; exact Nat.le_of_ble_eq_true rfl) (by rw [hR]; exact Nat.le_of_ble_eq_true rfl) hc.2.2.2.2.2.1 (fun t hal hsz hq => ?_) a2.2.2 (Nat.le_refl _) (Nat.le_refl _)
      refine ⟨(), c, ⟨rfl, by have := a1.1; omega, fun a ha => goAt_kept (a1.2.2 a ha) (hq _ (by have := a1.1; omega)) rfl rfl rfl⟩, Nat.le_trans a2.1 hsz, fun q h1 h2 => (hq q (Nat.lt_of_lt_of_le h1 a2.1)).trans (a2.2.1 q h1 h2)⟩
  refine go_if_eq hc 13 dX12_put_5 rfl (fun c => ?_) (fun c => ?_)
  · rw [if_pos c] at kj
    exact go_iconst (v := 0) hc dX12_put_13 rfl kj
  · rw [if_neg c] at kj
    refine go_bipush (v := 12) hc dX12_put_8 rfl ?_
    exact go_goto hc 14 dX12_put_10 rfl kj
def goCw : List Cond := Cond.codeWith yL_put cL_put 5 (some .int) [(0, 10, 13, 13)] :: goTb
/-- L_put, where it returns -/
theorem goMetW {E : goEv} {l : Launch} {rm : Room} {as : List Value} {lv : List (Option Value)} {G : goG} {M : goMI} {L : goML} {R : goMR} {Qc : Array Value → State → Outcome → State → Prop} {mc ms : Nat}
    (hk : goKn E) (hlv : goLv as ++ List.replicate (5 - (goLv as).length) none = lv) (hle : (goLv as).length ≤ 5)
    (body : ∀ X : goX, goCx E X cL_put RL 5 → X.2.1 = l → X.2.2.2.1 = rm → X.2.2.2.2.2.2.2.2.1.sig.returnType = some .int → X.2.2.2.2.2.2.2.2.2.exceptionTable.toList = tableOf [(0, 10, 13, 13)] → goA E X G 0 0 (goMQ X E Qc mc ms) 0 lv [] M L R) : Met l yL_put goCw rm (goPre E as G M L R) Qc mc ms (goSet E) := by
  refine va_MetW (cc := cL_put) (maxL := 5) (ret := some .int) (hh := [(0, 10, 13, 13)]) (show plainName RL = true by decide +kernel) rfl ?_
  intro p e s m args below meth c s₁ B hml hv
  obtain ⟨rfl, hw, hlow, hhp⟩ := hv
  have hts := atoms_spec (ws := goCw) B.pre
  have hcx : goCx E (p, l, e, rm, s, m, (as.map (goCv E)).toArray, below, meth, c) cL_put RL 5 := ⟨B.exec, B.bytes, hml, findClass_of_methodNamed B.named, fun w h => hts w (List.mem_cons_of_mem _ h), B.notSynchronized, hw, hk, by rw [hhp.1]; exact Nat.le_add_right _ _, hlow⟩
  have K := body (p, l, e, rm, s, m, (as.map (goCv E)).toArray, below, meth, c) hcx rfl rfl B.returns (vx_table (x := yL_put) B (hts _ List.mem_cons_self))
  rw [lg_entry_eq]
  refine K s.heap [] _ hhp va_S.rf hlow ?_
  have hl := lv_entry (as.map (goCv E)) (n := 5) (by rw [goLv_len]; exact hle)
  have hlen : lv.length = 5 := by rw [← hlv]; simp; omega
  refine ⟨by rw [hlen]; exact hl.1, hl.2.1, fun q hq => hl.2.2 q ?_⟩
  obtain ⟨j, v, h1, rfl⟩ := goAsc_mem.mp hq
  refine goLv_mem as 0 j v ?_
  rw [← hlv] at h1
  by_cases hj : j < (goLv as).length
  · rw [List.getElem?_append_left hj] at h1; exact h1
  · rw [List.getElem?_append_right (by omega)] at h1
    rw [List.getElem?_replicate] at h1
    split at h1 <;> simp at h1
/-- the answer of L_put: 0, and out[0]; or 1, with cells more -/
def goQq (E : goEv) (s : Int32) (G : goG) (M : goMI) (L : goML) (R : goMR) : Array Value → State → Outcome → State → Prop := va_Qi (S := Nat) (fun r n => (r = 0 ∧ ¬ s < 0 ∧ n = G.2) ∨ (r = 1 ∧ s < 0 ∧ G.2 ≤ n)) (fun n t => (¬ s < 0 → goHp E G M (goWL L 120 0 (fX12_spotCode s).toInt64) R t.heap) ∧ (s < 0 → goHp E (goUx G n) M L R t.heap)) (goSet E)
set_option maxRecDepth 100000 in
set_option maxHeartbeats 4000000 in
theorem mL_put {E : goEv} {l : Launch} {G : goG} {N : Nat} {M : goMI} {L : goML} {R : goMR} {v1 v2 s : Int32} (hfl : l.stackTraces = false) (hx : goXn E) (hk : goKn E) (hW : goW G R) (hle : G.2 + 1 ≤ 1000000) (h : fX1_spot N M (if v2 = 0 then 0 else 12) v1 = some s) : Met l yL_put goCw (goRoom 7 123 1 6) (goPre E [.ref 0, .int v1, .int v2, .ref 120] G M L R) (goQq E s G M L R) 1 6 (goSet E) := by
  refine goMetW hk (lv := [some (.ref 0), some (.int v1), some (.int v2), some (.ref 120), none]) rfl (Nat.le_of_ble_eq_true rfl) ?_
  intro X hc hl hR hr htab
  subst hl
  refine go_aload3 hc dL_put_0 ?_
  refine go_iconst (v := 0) hc dL_put_1 rfl ?_
  refine go_aload0 hc dL_put_2 ?_
  refine go_iload1 hc dL_put_3 ?_
  refine go_iload2 hc dL_put_4 ?_
  intro H locs ls a1 a2 a3 a4
  have hts := hc.2.2.2.2.1
  have hsz0 : H.size = X.2.2.2.2.1.heap.size + 0 ∨ True := Or.inr trivial
  refine vx_calli (vx_runV (As := [.int v1, .int v2]) (rest := [.int 0, .ref (goAd E 120)]) (b := goAd E 0) ⟨hc.1, hc.2.1, hc.2.2.1, hc.2.2.2.1, hts⟩ (mX12_put hfl hx hk hW h) ⟨goCB hc wml_RL_7 yk_X12_put hR ⟨Nat.le_of_ble_eq_true rfl, Nat.le_of_ble_eq_true rfl⟩, hts _ wim_X12_put, hts _ wse_X12_put⟩ ⟨goPre_blind, goRecv hc a1 (sh_0 hW) rfl, goPreOk hc a1 a3 (as := [.ref 0, .int v1, .int v2])⟩ rfl rfl a4.1 rfl (lv_room (Nat.le_of_ble_eq_true rfl)) dL_put_5 (by rw [hR]; exact ⟨Nat.le_of_ble_eq_true rfl, Nat.le_of_ble_eq_true rfl⟩)) a2 (fun _ _ q => q) (fun _ q => q) (fun _ _ q => q) (fun C ce q9 u t H1 locs1 ht hal hpx hBX hz1 hk1 hS hcell hcv hcl => ?_) (fun r u t H1 locs1 ht hal hw hB hz1 hk1 hS => ?_)
  · obtain ⟨rfl, hHq⟩ := hBX
    rw [ht] at hHq
    have hcast : (Cond.castable "java/util/NoSuchElementException" "java/util/NoSuchElementException").before X.2.2.2.2.2.2.1 X.2.2.2.2.1 = true := goXn_w hx hc.2.2.2.2.2.2.1 _ (List.mem_filter.mpr ⟨wca_nse, rfl⟩)
    refine vx_catch (own := RL) (name := "java/util/NoSuchElementException") hc.2.2.2.1 [] ⟨0, 10, 13, 13⟩ [] (by rw [htab]; rfl) (fun z hz => nomatch hz) (by decide) (by decide) (hts _ wcl_RL_13) hcast hcell hcv hcl ?_
    show W _ _ _ _ _ _ _ _ _ _ H1 locs1 (0 + 1) (0 + 6) _ (F0 _ 13 ls [.ref q9])
    refine lv_astore hc.1 hc.2.1 dL_put_13 (lv := goAsc E 0 _) a4 (by simp only [List.length_cons, List.length_nil]; omega) rfl (fun ls' a5 => ?_)
    refine lv_iconst (v := 1) hc.1 hc.2.1 dL_put_15 rfl ?_
    intro T hT X0
    have hbnd := X0.heapSize
    have hs0 := a2.1
    refine W.iret (v := 1) hc.1 hc.2.1 hr (fun t2 ht2 _ => ?_) hS.2.2 dL_put_16 hc.2.2.2.2.2.1 T hT X0
    have hsize : H1.size ≤ E.2.1 + 1000000 := by
      rw [← hT]
      have e1 := a1.1
      omega
    refine ⟨⟨1, H1.size - E.2.1, rfl, Or.inr ⟨rfl, hpx, ?_⟩, fun c => absurd hpx c, fun _ => ?_⟩, hS.F ht2⟩
    · have := hHq.1; omega
    · show goHp E _ M L R t2.heap
      rw [ht2]; exact goHq_ux hHq hsize
  · obtain ⟨rfl, hs⟩ := hw
    have hB : goHp E G M L R t.heap := hB
    rw [ht] at hB
    have K : goA E X G (0 + 1) (0 + 6) (goMQ X E (goQq E s G M L R) 1 6) 8 [some (.ref 0), some (.int v1), some (.int v2), some (.ref 120), none] [.int (fX12_spotCode s), .int 0, .ref 120] M L R := by
      refine go_i2l hc dL_put_8 ?_
      refine go_last hc dL_put_9 (sh_120 hW) (L' := goWL L 120 0 (fX12_spotCode s).toInt64) (by unfold goWrL; rw [if_pos (by decide)]; rfl) ?_
      refine go_goto hc 17 dL_put_10 rfl ?_
      refine go_iconst (v := 0) hc dL_put_17 rfl ?_
      intro H2 locs2 ls2 b1 b2 b3 b4
      exact W.iret hc.1 hc.2.1 hr (fun t2 ht2 _ => ⟨⟨0, G.2, rfl, Or.inl ⟨rfl, hs, rfl⟩, fun _ => by show goHp E G M _ R t2.heap; rw [ht2]; exact b1, fun c => absurd c hs⟩, b2.F ht2⟩) b2.2.2 dL_put_18 hc.2.2.2.2.2.1
    exact K H1 locs1 ls hB hS (goLow_call a1 a3 hk1) a4
