def goCodes : List Int64 := [271756, 17171557, 525960, 542723566, 20594265, 244788, 6456915, 6804932, 627886, 20194468, 197748, 8892563, 611717, 17382886, 3659348, 109221477, 294, 0]
theorem goCodes_ok : ∀ i, i < 18 → fX11_codeOf 20 (goEwl.getD i 0) = some (goCodes.getD i 0) := by decide +kernel
/-- an array of longs, its first i places the words' codes -/
def goRl (L : goML) (q i : Nat) : goML := fun b k => if b = q ∧ k < i then goCodes.getD k 0 else L b k
theorem goRl_0 {L : goML} {q : Nat} : goRl L q 0 = L := by funext b k; simp [goRl]
theorem goRl_s {L : goML} {q i : Nat} : goWL (goRl L q i) q i (goCodes.getD i 0) = goRl L q (i + 1) := by
  funext b k
  unfold goWL goRl
  by_cases hb : b = q
  · subst hb
    by_cases hk : k = i
    · subst hk; simp
    · by_cases h2 : k < i
      · simp [hk, h2, Nat.lt_succ_of_lt h2]
      · simp [hk, h2, show ¬ k < i + 1 by omega]
  · simp [hb]
def LX9_init (L : goML) (n : Nat) : goML := goRl L (n + 5) 18
theorem LX9_init_Z {m n : Nat} {M : goMI} {L : goML} {R : goMR} (h : n + 6 ≤ m) (hz : goZe m M L R) : goZe m M (LX9_init L n) R := fun b k hb => ⟨(hz b k hb).1, by unfold LX9_init goRl; rw [if_neg (by omega)]; exact (hz b k hb).2.1, (hz b k hb).2.2⟩
theorem dX9_init_0 : decode cX9_init 0 = .ok (.aload_n 0, 1) := by decide +kernel
theorem dX9_init_1 : decode cX9_init 1 = .ok (.invokespecial 3, 3) := by decide +kernel
theorem dX9_init_4 : decode cX9_init 4 = .ok (.aload_n 0, 1) := by decide +kernel
theorem dX9_init_5 : decode cX9_init 5 = .ok (.bipush 32, 2) := by decide +kernel
theorem dX9_init_7 : decode cX9_init 7 = .ok (.newarray .long, 2) := by decide +kernel
theorem dX9_init_9 : decode cX9_init 9 = .ok (.putfield 11, 3) := by decide +kernel
theorem dX9_init_12 : decode cX9_init 12 = .ok (.aload_n 0, 1) := by decide +kernel
theorem dX9_init_13 : decode cX9_init 13 = .ok (.bipush 32, 2) := by decide +kernel
theorem dX9_init_15 : decode cX9_init 15 = .ok (.newarray .int, 2) := by decide +kernel
theorem dX9_init_17 : decode cX9_init 17 = .ok (.putfield 15, 3) := by decide +kernel
theorem dX9_init_20 : decode cX9_init 20 = .ok (.aload_n 0, 1) := by decide +kernel
theorem dX9_init_21 : decode cX9_init 21 = .ok (.bipush 32, 2) := by decide +kernel
theorem dX9_init_23 : decode cX9_init 23 = .ok (.newarray .int, 2) := by decide +kernel
theorem dX9_init_25 : decode cX9_init 25 = .ok (.putfield 19, 3) := by decide +kernel
theorem dX9_init_28 : decode cX9_init 28 = .ok (.aload_n 0, 1) := by decide +kernel
theorem dX9_init_29 : decode cX9_init 29 = .ok (.bipush 15, 2) := by decide +kernel
theorem dX9_init_31 : decode cX9_init 31 = .ok (.newarray .int, 2) := by decide +kernel
theorem dX9_init_33 : decode cX9_init 33 = .ok (.putfield 22, 3) := by decide +kernel
theorem dX9_init_36 : decode cX9_init 36 = .ok (.aload_n 0, 1) := by decide +kernel
theorem dX9_init_37 : decode cX9_init 37 = .ok (.bipush 8, 2) := by decide +kernel
theorem dX9_init_39 : decode cX9_init 39 = .ok (.newarray .int, 2) := by decide +kernel
theorem dX9_init_41 : decode cX9_init 41 = .ok (.putfield 25, 3) := by decide +kernel
theorem dX9_init_44 : decode cX9_init 44 = .ok (.aload_n 0, 1) := by decide +kernel
theorem dX9_init_45 : decode cX9_init 45 = .ok (.getstatic 28, 3) := by decide +kernel
theorem dX9_init_48 : decode cX9_init 48 = .ok (.arraylength, 1) := by decide +kernel
theorem dX9_init_49 : decode cX9_init 49 = .ok (.newarray .long, 2) := by decide +kernel
theorem dX9_init_51 : decode cX9_init 51 = .ok (.putfield 32, 3) := by decide +kernel
theorem dX9_init_54 : decode cX9_init 54 = .ok (.aload_n 0, 1) := by decide +kernel
theorem dX9_init_55 : decode cX9_init 55 = .ok (.aload_n 1, 1) := by decide +kernel
theorem dX9_init_56 : decode cX9_init 56 = .ok (.putfield 35, 3) := by decide +kernel
theorem dX9_init_59 : decode cX9_init 59 = .ok (.aload_n 0, 1) := by decide +kernel
theorem dX9_init_60 : decode cX9_init 60 = .ok (.aload_n 2, 1) := by decide +kernel
theorem dX9_init_61 : decode cX9_init 61 = .ok (.putfield 39, 3) := by decide +kernel
theorem dX9_init_64 : decode cX9_init 64 = .ok (.iconst 0, 1) := by decide +kernel
theorem dX9_init_65 : decode cX9_init 65 = .ok (.istore_n 3, 1) := by decide +kernel
theorem dX9_init_66 : decode cX9_init 66 = .ok (.iload_n 3, 1) := by decide +kernel
theorem dX9_init_67 : decode cX9_init 67 = .ok (.getstatic 28, 3) := by decide +kernel
theorem dX9_init_70 : decode cX9_init 70 = .ok (.arraylength, 1) := by decide +kernel
theorem dX9_init_71 : decode cX9_init 71 = .ok (.if_icmp .ge 26, 3) := by decide +kernel
theorem dX9_init_74 : decode cX9_init 74 = .ok (.aload_n 0, 1) := by decide +kernel
theorem dX9_init_75 : decode cX9_init 75 = .ok (.getfield 32, 3) := by decide +kernel
theorem dX9_init_78 : decode cX9_init 78 = .ok (.iload_n 3, 1) := by decide +kernel
theorem dX9_init_79 : decode cX9_init 79 = .ok (.getstatic 28, 3) := by decide +kernel
theorem dX9_init_82 : decode cX9_init 82 = .ok (.iload_n 3, 1) := by decide +kernel
theorem dX9_init_83 : decode cX9_init 83 = .ok (.aaload, 1) := by decide +kernel
theorem dX9_init_84 : decode cX9_init 84 = .ok (.getfield 43, 3) := by decide +kernel
theorem dX9_init_87 : decode cX9_init 87 = .ok (.invokestatic 49, 3) := by decide +kernel
theorem dX9_init_90 : decode cX9_init 90 = .ok (.lastore, 1) := by decide +kernel
theorem dX9_init_91 : decode cX9_init 91 = .ok (.iinc 3 1, 3) := by decide +kernel
theorem dX9_init_94 : decode cX9_init 94 = .ok (.goto (-28), 3) := by decide +kernel
theorem dX9_init_97 : decode cX9_init 97 = .ok (.return_, 1) := by decide +kernel
def rX9_init (R : goMR) (n a : Nat) (b1 : Nat) (b2 : Nat) : goMR := (goWR (goWR (goWR (goWR (goWR (goWR (goWR (goWR R a 1 (some n)) a 2 (some (n + 1))) a 3 (some (n + 2))) a 4 (some (n + 3))) a 5 (some (n + 4))) a 6 (some (n + 5))) a 0 (some b1)) a 7 (some b2))
theorem rX9_init_Z {m n a : Nat} {b1 : Nat} {b2 : Nat} {M : goMI} {L : goML} {R : goMR} (h : a < m ∧ n + 6 ≤ m) (hz : goZe m M L R) : goZe m M L (rX9_init R n a b1 b2) := by
  unfold rX9_init
  exact (goZe.wR (goZe.wR (goZe.wR (goZe.wR (goZe.wR (goZe.wR (goZe.wR (goZe.wR hz (by omega)) (by omega)) (by omega)) (by omega)) (by omega)) (by omega)) (by omega)) (by omega))
theorem rX9_init_lt {n a b : Nat} {b1 : Nat} {b2 : Nat} {R : goMR} (h : b < a ∧ b < n) : rX9_init R n a b1 b2 b = R b := by
  unfold rX9_init
  rw [goWR_ne (by omega), goWR_ne (by omega), goWR_ne (by omega), goWR_ne (by omega), goWR_ne (by omega), goWR_ne (by omega), goWR_ne (by omega), goWR_ne (by omega)]
set_option maxRecDepth 100000 in
set_option maxHeartbeats 4000000 in
theorem mX9_init_L {E : goEv} {X : goX} {G : goG} {ce sl F W0 MC MS : Nat} {M : goMI} {L : goML} {R : goMR} {a b1 b2 q : Nat} {Q : State → Prop} (hk : goKn E) (hc : goCx E X cX9_init RX9 4) (hR : X.2.2.2.1 = goRoom F W0 MC MS) (hb : (Nat.ble 6 F && (Nat.ble 129 W0 && (Nat.ble ce MC && Nat.ble sl MS))) = true) (hs : a < G.2 ∧ G.1 a = (0, 8)) (hq : q < G.2 ∧ G.1 q = (4, 18)) (hr : R a 6 = some q)
    (k : ∀ d3, goA E X G ce sl Q 97 [some (.ref a), some (.ref b1), some (.ref b2), d3] [] M (goRl L q 18) R) : ∀ d i : Nat, i + d = 18 → goA E X G ce sl Q 66 [some (.ref a), some (.ref b1), some (.ref b2), some (.int (Int32.ofNat i))] [] M (goRl L q i) R := by
  have hfit : goFit 5 106 0 0 4 ce sl F W0 MC MS = true := by
    simp only [Bool.and_eq_true, Nat.ble_eq] at hb
    simp only [goFit, Bool.and_eq_true, Nat.ble_eq]
    omega
  intro d
  induction d with
  | zero =>
    intro i hi
    have hi : i = 18 := by omega
    subst hi
    refine go_iload3 hc dX9_init_66 ?_
    refine go_getsRA hc dX9_init_67 ?_
    refine go_raLen hc dX9_init_70 ?_
    refine go_icmp_ge hc 97 dX9_init_71 rfl (fun _ => ?_) (fun c => absurd c (by decide))
    exact k _
  | succ d ih =>
    intro i hi
    have hlt : i < 18 := by omega
    have hn0 : (0 : Int32) ≤ Int32.ofNat i := nI_pos' (by omega)
    have hcl : (Int32.ofNat i).toNatClampNeg = i := nI_clamp (by omega)
    refine go_iload3 hc dX9_init_66 ?_
    refine go_getsRA hc dX9_init_67 ?_
    refine go_raLen hc dX9_init_70 ?_
    refine go_icmp_ge hc 97 dX9_init_71 rfl (fun c => absurd (nI_lt (a := i) (b := 18) hlt (by omega)) c) (fun _ => ?_)
    refine go_aload0 hc dX9_init_74 ?_
    refine go_getR hc lk_RX9_32 dX9_init_75 hs hr ?_
    refine go_iload3 hc dX9_init_78 ?_
    refine go_getsRA hc dX9_init_79 ?_
    refine go_iload3 hc dX9_init_82 ?_
    refine go_raLd hc dX9_init_83 (x := 1000000 + i) (by unfold goRa; rw [hcl, if_pos ⟨hn0, hlt⟩]) ?_
    refine go_en_word hc dX9_init_84 wfl_RX9_43 (v := goEwl.getD i 0) (by
      unfold goEw
      rw [if_pos (Nat.le_add_right _ _), Nat.add_sub_cancel_left]
      have h18 : i < goEwl.length := hlt
      rw [List.getD_eq_getElem?_getD, List.getElem?_eq_getElem h18]; rfl) ?_
    refine go_callSl hc dX9_init_87 (mX11_codeOf hk (goCodes_ok i hlt)) ml_RX9_49 yk_X11_codeOf wst_X11_codeOf hR hfit rfl rfl (Nat.le_of_ble_eq_true rfl) rfl ?_
    refine go_last hc dX9_init_90 hq (L' := goRl L q (i + 1)) (by unfold goWrL; rw [hcl, if_pos ⟨hn0, hlt⟩, goRl_s]) ?_
    refine go_iinc3 (v := Int32.ofNat (i + 1)) hc dX9_init_91 (nI_1 i) ?_
    refine go_goto hc 66 dX9_init_94 rfl ?_
    exact ih (i + 1) (by omega)
set_option maxRecDepth 100000 in
set_option maxHeartbeats 4000000 in
theorem mX9_init {E : goEv} {l : Launch} {G : goG} {M : goMI} {L : goML} {R : goMR} {a b1 b2 : Nat} (hk : goKn E) (hs : a < G.2 ∧ G.1 a = (0, 8)) (hz : goZe G.2 M L R) (hle : G.2 + 6 ≤ 1000000) : Met l yX9_init (goCd yX9_init cX9_init 4 none) (goRoom 6 129 6 137) (goPre E [.ref a, .ref b1, .ref b2] G M L R) (goQv E (goGb G [(4, 32), (1, 32), (1, 32), (1, 15), (1, 8), (4, 18)]) M (LX9_init L G.2) (rX9_init R G.2 a b1 b2)) 6 137 (goSet E) := by
  have ha := hs.1
  refine goMet pl_RX9 hk (lv := [some (.ref a), some (.ref b1), some (.ref b2), none]) rfl (Nat.le_of_ble_eq_true rfl) ?_
  intro X hc hl hR hr hnm
  subst hl
  refine go_gnil ?_
  refine go_aload0 hc dX9_init_0 ?_
  refine go_objInit hc dX9_init_1 wml_RX9_3 hR rfl rfl (Nat.le_of_ble_eq_true rfl) ?_
  refine go_aload0 hc dX9_init_4 ?_
  refine go_bipush (v := 32) hc dX9_init_5 rfl ?_
  refine go_newa4 hc (j := 0) (N := 32) rfl dX9_init_7 rfl (by decide) (Nat.le_of_ble_eq_true rfl) (hz.mono (by omega)) (by omega) hR rfl ?_
  refine go_putFR hc (.array .long) lkf_RX9_11 hnm (by decide +kernel) (fun _ => ⟨rfl, rfl⟩) dX9_init_9 (goGb_lt hs) ?_
  refine go_aload0 hc dX9_init_12 ?_
  refine go_bipush (v := 32) hc dX9_init_13 rfl ?_
  refine go_newa1 hc (j := 1) (N := 32) rfl dX9_init_15 rfl (by decide) (Nat.le_of_ble_eq_true rfl) ((hz.mono (by omega)).wR (by omega)) (by omega) hR rfl ?_
  refine go_putFR hc (.array .int) lkf_RX9_15 hnm (by decide +kernel) (fun _ => ⟨rfl, rfl⟩) dX9_init_17 (goGb_lt hs) ?_
  refine go_aload0 hc dX9_init_20 ?_
  refine go_bipush (v := 32) hc dX9_init_21 rfl ?_
  refine go_newa1 hc (j := 2) (N := 32) rfl dX9_init_23 rfl (by decide) (Nat.le_of_ble_eq_true rfl) (((hz.mono (by omega)).wR (by omega)).wR (by omega)) (by omega) hR rfl ?_
  refine go_putFR hc (.array .int) lkf_RX9_19 hnm (by decide +kernel) (fun _ => ⟨rfl, rfl⟩) dX9_init_25 (goGb_lt hs) ?_
  refine go_aload0 hc dX9_init_28 ?_
  refine go_bipush (v := 15) hc dX9_init_29 rfl ?_
  refine go_newa1 hc (j := 3) (N := 15) rfl dX9_init_31 rfl (by decide) (Nat.le_of_ble_eq_true rfl) ((((hz.mono (by omega)).wR (by omega)).wR (by omega)).wR (by omega)) (by omega) hR rfl ?_
  refine go_putFR hc (.array .int) lkf_RX9_22 hnm (by decide +kernel) (fun _ => ⟨rfl, rfl⟩) dX9_init_33 (goGb_lt hs) ?_
  refine go_aload0 hc dX9_init_36 ?_
  refine go_bipush (v := 8) hc dX9_init_37 rfl ?_
  refine go_newa1 hc (j := 4) (N := 8) rfl dX9_init_39 rfl (by decide) (Nat.le_of_ble_eq_true rfl) (((((hz.mono (by omega)).wR (by omega)).wR (by omega)).wR (by omega)).wR (by omega)) (by omega) hR rfl ?_
  refine go_putFR hc (.array .int) lkf_RX9_25 hnm (by decide +kernel) (fun _ => ⟨rfl, rfl⟩) dX9_init_41 (goGb_lt hs) ?_
  refine go_aload0 hc dX9_init_44 ?_
  refine go_getsRA hc dX9_init_45 ?_
  refine go_raLen hc dX9_init_48 ?_
  refine go_newa4 hc (j := 5) (N := 18) rfl dX9_init_49 rfl (by decide) (Nat.le_of_ble_eq_true rfl) ((((((hz.mono (by omega)).wR (by omega)).wR (by omega)).wR (by omega)).wR (by omega)).wR (by omega)) (by omega) hR rfl ?_
  refine go_putFR hc (.array .long) lkf_RX9_32 hnm (by decide +kernel) (fun _ => ⟨rfl, rfl⟩) dX9_init_51 (goGb_lt hs) ?_
  refine go_aload0 hc dX9_init_54 ?_
  refine go_aload1 hc dX9_init_55 ?_
  refine go_putFR hc (.object "GoatCourt$Tape") lkf_RX9_35 hnm (by decide +kernel) (fun _ => ⟨rfl, rfl⟩) dX9_init_56 (goGb_lt hs) ?_
  refine go_aload0 hc dX9_init_59 ?_
  refine go_aload2 hc dX9_init_60 ?_
  refine go_putR hc (.object "GoatCourt$Hill") lk_RX9_39 (by decide +kernel) (fun _ => ⟨rfl, rfl⟩) dX9_init_61 (goGb_lt hs) ?_
  refine go_iconst (v := 0) hc dX9_init_64 rfl ?_
  refine go_istore3 hc dX9_init_65 ?_
  have e0 : L = goRl L (G.2 + 5) 0 := goRl_0.symm
  rw [e0]
  refine mX9_init_L (q := G.2 + 5) hk hc hR rfl (goGb_lt hs) (goGb_at 5 (Nat.le_of_ble_eq_true rfl) rfl) ((goWR_k (by decide)).trans ((goWR_k (by decide)).trans (goWR_eq))) (fun d3 => ?_) 18 0 rfl
  rw [← e0]
  exact go_vret hc dX9_init_97 hr
theorem dX12_init_0 : decode cX12_init 0 = .ok (.aload_n 0, 1) := by decide +kernel
theorem dX12_init_1 : decode cX12_init 1 = .ok (.invokespecial 1, 3) := by decide +kernel
theorem dX12_init_4 : decode cX12_init 4 = .ok (.aload_n 0, 1) := by decide +kernel
theorem dX12_init_5 : decode cX12_init 5 = .ok (.new 7, 3) := by decide +kernel
theorem dX12_init_8 : decode cX12_init 8 = .ok (.dup, 1) := by decide +kernel
theorem dX12_init_9 : decode cX12_init 9 = .ok (.invokespecial 9, 3) := by decide +kernel
theorem dX12_init_12 : decode cX12_init 12 = .ok (.putfield 10, 3) := by decide +kernel
theorem dX12_init_15 : decode cX12_init 15 = .ok (.aload_n 0, 1) := by decide +kernel
theorem dX12_init_16 : decode cX12_init 16 = .ok (.new 16, 3) := by decide +kernel
theorem dX12_init_19 : decode cX12_init 19 = .ok (.dup, 1) := by decide +kernel
theorem dX12_init_20 : decode cX12_init 20 = .ok (.invokespecial 18, 3) := by decide +kernel
theorem dX12_init_23 : decode cX12_init 23 = .ok (.putfield 19, 3) := by decide +kernel
theorem dX12_init_26 : decode cX12_init 26 = .ok (.aload_n 0, 1) := by decide +kernel
theorem dX12_init_27 : decode cX12_init 27 = .ok (.new 23, 3) := by decide +kernel
theorem dX12_init_30 : decode cX12_init 30 = .ok (.dup, 1) := by decide +kernel
theorem dX12_init_31 : decode cX12_init 31 = .ok (.invokespecial 25, 3) := by decide +kernel
theorem dX12_init_34 : decode cX12_init 34 = .ok (.putfield 26, 3) := by decide +kernel
theorem dX12_init_37 : decode cX12_init 37 = .ok (.aload_n 0, 1) := by decide +kernel
theorem dX12_init_38 : decode cX12_init 38 = .ok (.new 23, 3) := by decide +kernel
theorem dX12_init_41 : decode cX12_init 41 = .ok (.dup, 1) := by decide +kernel
theorem dX12_init_42 : decode cX12_init 42 = .ok (.invokespecial 25, 3) := by decide +kernel
theorem dX12_init_45 : decode cX12_init 45 = .ok (.putfield 30, 3) := by decide +kernel
theorem dX12_init_48 : decode cX12_init 48 = .ok (.aload_n 0, 1) := by decide +kernel
theorem dX12_init_49 : decode cX12_init 49 = .ok (.new 33, 3) := by decide +kernel
theorem dX12_init_52 : decode cX12_init 52 = .ok (.dup, 1) := by decide +kernel
theorem dX12_init_53 : decode cX12_init 53 = .ok (.aload_n 0, 1) := by decide +kernel
theorem dX12_init_54 : decode cX12_init 54 = .ok (.getfield 10, 3) := by decide +kernel
theorem dX12_init_57 : decode cX12_init 57 = .ok (.aload_n 0, 1) := by decide +kernel
theorem dX12_init_58 : decode cX12_init 58 = .ok (.getfield 30, 3) := by decide +kernel
theorem dX12_init_61 : decode cX12_init 61 = .ok (.invokespecial 35, 3) := by decide +kernel
theorem dX12_init_64 : decode cX12_init 64 = .ok (.putfield 38, 3) := by decide +kernel
theorem dX12_init_67 : decode cX12_init 67 = .ok (.aload_n 0, 1) := by decide +kernel
theorem dX12_init_68 : decode cX12_init 68 = .ok (.new 42, 3) := by decide +kernel
theorem dX12_init_71 : decode cX12_init 71 = .ok (.dup, 1) := by decide +kernel
theorem dX12_init_72 : decode cX12_init 72 = .ok (.aload_n 0, 1) := by decide +kernel
theorem dX12_init_73 : decode cX12_init 73 = .ok (.getfield 19, 3) := by decide +kernel
theorem dX12_init_76 : decode cX12_init 76 = .ok (.aload_n 0, 1) := by decide +kernel
theorem dX12_init_77 : decode cX12_init 77 = .ok (.getfield 26, 3) := by decide +kernel
theorem dX12_init_80 : decode cX12_init 80 = .ok (.invokespecial 44, 3) := by decide +kernel
theorem dX12_init_83 : decode cX12_init 83 = .ok (.putfield 47, 3) := by decide +kernel
theorem dX12_init_86 : decode cX12_init 86 = .ok (.aload_n 0, 1) := by decide +kernel
theorem dX12_init_87 : decode cX12_init 87 = .ok (.new 51, 3) := by decide +kernel
theorem dX12_init_90 : decode cX12_init 90 = .ok (.dup, 1) := by decide +kernel
theorem dX12_init_91 : decode cX12_init 91 = .ok (.aload_n 0, 1) := by decide +kernel
theorem dX12_init_92 : decode cX12_init 92 = .ok (.getfield 19, 3) := by decide +kernel
theorem dX12_init_95 : decode cX12_init 95 = .ok (.aload_n 0, 1) := by decide +kernel
theorem dX12_init_96 : decode cX12_init 96 = .ok (.getfield 26, 3) := by decide +kernel
theorem dX12_init_99 : decode cX12_init 99 = .ok (.invokespecial 53, 3) := by decide +kernel
theorem dX12_init_102 : decode cX12_init 102 = .ok (.putfield 54, 3) := by decide +kernel
theorem dX12_init_105 : decode cX12_init 105 = .ok (.return_, 1) := by decide +kernel
def rX12_init (R : goMR) (n a : Nat) : goMR := (goWR (rX8_init (goWR (rX4_init (goWR (rX9_init (goWR (rX6_init (goWR (rX6_init (goWR (rX1_init (goWR (rX11_init R (n + 1) n) a 0 (some n)) (n + 3) (n + 2)) a 2 (some (n + 2))) (n + 7) (n + 6)) a 5 (some (n + 6))) (n + 37) (n + 36)) a 6 (some (n + 36))) (n + 67) (n + 66) n (n + 36)) a 1 (some (n + 66))) (n + 74) (n + 73) (n + 2) (n + 6)) a 3 (some (n + 73))) (n + 88) (n + 87) (n + 2) (n + 6)) a 4 (some (n + 87)))
theorem rX12_init_Z {m n a : Nat} {M : goMI} {L : goML} {R : goMR} (h : a < m ∧ n + 101 ≤ m) (hz : goZe m M L R) : goZe m M L (rX12_init R n a) := by
  unfold rX12_init
  exact (goZe.wR (rX8_init_Z (by omega) (goZe.wR (rX4_init_Z (by omega) (goZe.wR (rX9_init_Z (by omega) (goZe.wR (rX6_init_Z (by omega) (goZe.wR (rX6_init_Z (by omega) (goZe.wR (rX1_init_Z (by omega) (goZe.wR (rX11_init_Z (by omega) hz) (by omega))) (by omega))) (by omega))) (by omega))) (by omega))) (by omega))) (by omega))
theorem rX12_init_lt {n a b : Nat} {R : goMR} (h : b < a ∧ b < n) : rX12_init R n a b = R b := by
  unfold rX12_init
  rw [goWR_ne (by omega), rX8_init_lt (by omega), goWR_ne (by omega), rX4_init_lt (by omega), goWR_ne (by omega), rX9_init_lt (by omega), goWR_ne (by omega), rX6_init_lt (by omega), goWR_ne (by omega), rX6_init_lt (by omega), goWR_ne (by omega), rX1_init_lt (by omega), goWR_ne (by omega), rX11_init_lt (by omega)]
def MX12_init (M : goMI) (n a : Nat) : goMI := (MX4_init M (n + 74) (n + 73))
theorem MX12_init_Z {m n a : Nat} {M : goMI} {L : goML} {R : goMR} (h : a < m ∧ n + 101 ≤ m) (hz : goZe m M L R) : goZe m (MX12_init M n a) L R := by
  unfold MX12_init
  exact (MX4_init_Z (by omega) hz)
set_option maxRecDepth 100000 in
set_option maxHeartbeats 4000000 in
theorem mX12_init {E : goEv} {l : Launch} {G : goG} {M : goMI} {L : goML} {R : goMR} {a : Nat} (hk : goKn E) (hs : a < G.2 ∧ G.1 a = (0, 10)) (hz : goZe G.2 M L R) (hle : G.2 + 101 ≤ 1000000) : Met l yX12_init (goCd yX12_init cX12_init 1 none) (goRoom 7 152 101 9891) (goPre E [.ref a] G M L R) (goQv E (goGb G [(0, 9), (2, 1200), (0, 0), (1, 26), (1, 16), (1, 78), (0, 5), (1, 8), (1, 8), (1, 14), (1, 14), (1, 4), (1, 4), (1, 144), (1, 4), (0, 4), (1, 6), (1, 6), (1, 6), (1, 6), (1, 6), (1, 24), (1, 6), (1, 10), (1, 10), (1, 10), (1, 10), (0, 6), (1, 8), (1, 8), (1, 8), (0, 1), (1, 6), (1, 6), (4, 64), (1, 64), (0, 5), (1, 8), (1, 8), (1, 14), (1, 14), (1, 4), (1, 4), (1, 144), (1, 4), (0, 4), (1, 6), (1, 6), (1, 6), (1, 6), (1, 6), (1, 24), (1, 6), (1, 10), (1, 10), (1, 10), (1, 10), (0, 6), (1, 8), (1, 8), (1, 8), (0, 1), (1, 6), (1, 6), (4, 64), (1, 64), (0, 8), (4, 32), (1, 32), (1, 32), (1, 15), (1, 8), (4, 18), (0, 3), (1, 81), (2, 5832), (1, 8), (0, 2), (1, 14), (1, 24), (1, 8), (1, 72), (1, 72), (1, 72), (1, 24), (1, 192), (1, 6), (0, 7), (1, 182), (1, 182), (3, 96), (0, 2), (1, 14), (1, 24), (1, 8), (1, 72), (1, 72), (1, 72), (1, 24), (1, 192), (1, 6)]) (MX12_init M G.2 a) (LX9_init L (G.2 + 67)) (rX12_init R G.2 a)) 101 9891 (goSet E) := by
  have ha := hs.1
  refine goMet pl_RX12 hk (lv := [some (.ref a)]) rfl (Nat.le_of_ble_eq_true rfl) ?_
  intro X hc hl hR hr hnm
  subst hl
  refine go_gnil ?_
  refine go_aload0 hc dX12_init_0 ?_
  refine go_objInit hc dX12_init_1 wml_RX12_1 hR rfl rfl (Nat.le_of_ble_eq_true rfl) ?_
  refine go_aload0 hc dX12_init_4 ?_
  refine go_new hc (j := 0) rfl dX12_init_5 wcl_RX12_7 wia_RX11 win_RX11 cl_9 df_9 (hz.mono (by omega)) (by omega) hR rfl ?_
  refine go_dupr hc dX12_init_8 ?_
  refine go_callIv hc dX12_init_9 (mX11_init hk (goGb_at 0 (Nat.le_of_ble_eq_true rfl) rfl) (show goZe (G.2 + 1) _ _ _ from (hz.mono (by omega))) (show G.2 + 1 + 1 ≤ 1000000 by omega)) ml_RX12_9 yk_X11_init wim_X11_init rfl hR rfl rfl rfl (Nat.le_of_ble_eq_true rfl) rfl ?_
  refine go_gapp ?_
  refine go_putFR hc (.object "GoatCourt$Tape") lkf_RX12_10 hnm (by decide +kernel) (fun _ => ⟨rfl, rfl⟩) dX12_init_12 (goGb_lt hs) ?_
  refine go_aload0 hc dX12_init_15 ?_
  refine go_new hc (j := 2) rfl dX12_init_16 wcl_RX12_16 wia_RX1 win_RX1 cl_0 df_0 ((rX11_init_Z (n := (G.2 + 1)) (by omega) (hz.mono (by omega))).wR (by omega)) (by omega) hR rfl ?_
  refine go_dupr hc dX12_init_19 ?_
  refine go_callIv hc dX12_init_20 (mX1_init hk (goGb_at 2 (Nat.le_of_ble_eq_true rfl) rfl) (show goZe (G.2 + 3) _ _ _ from ((rX11_init_Z (n := (G.2 + 1)) (by omega) (hz.mono (by omega))).wR (by omega))) (show G.2 + 3 + 3 ≤ 1000000 by omega)) ml_RX12_18 yk_X1_init wim_X1_init rfl hR rfl rfl rfl (Nat.le_of_ble_eq_true rfl) rfl ?_
  refine go_gapp ?_
  refine go_putFR hc (.object "GoatCourt$Acts") lkf_RX12_19 hnm (by decide +kernel) (fun _ => ⟨rfl, rfl⟩) dX12_init_23 (goGb_lt hs) ?_
  refine go_aload0 hc dX12_init_26 ?_
  refine go_new hc (j := 6) rfl dX12_init_27 wcl_RX12_23 wia_RX6 win_RX6 cl_5 df_5 ((rX1_init_Z (n := (G.2 + 3)) (by omega) ((rX11_init_Z (n := (G.2 + 1)) (by omega) (hz.mono (by omega))).wR (by omega))).wR (by omega)) (by omega) hR rfl ?_
  refine go_dupr hc dX12_init_30 ?_
  refine go_callIv hc dX12_init_31 (mX6_init hk (goGb_at 6 (Nat.le_of_ble_eq_true rfl) rfl) (show goZe (G.2 + 7) _ _ _ from ((rX1_init_Z (n := (G.2 + 3)) (by omega) ((rX11_init_Z (n := (G.2 + 1)) (by omega) (hz.mono (by omega))).wR (by omega))).wR (by omega))) (show G.2 + 7 + 29 ≤ 1000000 by omega)) ml_RX12_25 yk_X6_init wim_X6_init rfl hR rfl rfl rfl (Nat.le_of_ble_eq_true rfl) rfl ?_
  refine go_gapp ?_
  refine go_putR hc (.object "GoatCourt$Hill") lk_RX12_26 (by decide +kernel) (fun _ => ⟨rfl, rfl⟩) dX12_init_34 (goGb_lt hs) ?_
  refine go_aload0 hc dX12_init_37 ?_
  refine go_new hc (j := 36) rfl dX12_init_38 wcl_RX12_23 wia_RX6 win_RX6 cl_5 df_5 ((rX6_init_Z (n := (G.2 + 7)) (by omega) ((rX1_init_Z (n := (G.2 + 3)) (by omega) ((rX11_init_Z (n := (G.2 + 1)) (by omega) (hz.mono (by omega))).wR (by omega))).wR (by omega))).wR (by omega)) (by omega) hR rfl ?_
  refine go_dupr hc dX12_init_41 ?_
  refine go_callIv hc dX12_init_42 (mX6_init hk (goGb_at 36 (Nat.le_of_ble_eq_true rfl) rfl) (show goZe (G.2 + 37) _ _ _ from ((rX6_init_Z (n := (G.2 + 7)) (by omega) ((rX1_init_Z (n := (G.2 + 3)) (by omega) ((rX11_init_Z (n := (G.2 + 1)) (by omega) (hz.mono (by omega))).wR (by omega))).wR (by omega))).wR (by omega))) (show G.2 + 37 + 29 ≤ 1000000 by omega)) ml_RX12_25 yk_X6_init wim_X6_init rfl hR rfl rfl rfl (Nat.le_of_ble_eq_true rfl) rfl ?_
  refine go_gapp ?_
  refine go_putR hc (.object "GoatCourt$Hill") lk_RX12_30 (by decide +kernel) (fun _ => ⟨rfl, rfl⟩) dX12_init_45 (goGb_lt hs) ?_
  refine go_aload0 hc dX12_init_48 ?_
  refine go_new hc (j := 66) rfl dX12_init_49 wcl_RX12_33 wia_RX9 win_RX9 cl_8 df_8 ((rX6_init_Z (n := (G.2 + 37)) (by omega) ((rX6_init_Z (n := (G.2 + 7)) (by omega) ((rX1_init_Z (n := (G.2 + 3)) (by omega) ((rX11_init_Z (n := (G.2 + 1)) (by omega) (hz.mono (by omega))).wR (by omega))).wR (by omega))).wR (by omega))).wR (by omega)) (by omega) hR rfl ?_
  refine go_dupr hc dX12_init_52 ?_
  refine go_aload0 hc dX12_init_53 ?_
  refine go_getR hc lk_RX12_10 dX12_init_54 (goGb_lt hs) ((goWR_k (by decide)).trans ((congrFun (rX6_init_lt (n := (G.2 + 37)) (a := (G.2 + 36)) (by omega)) _).trans ((goWR_k (by decide)).trans ((congrFun (rX6_init_lt (n := (G.2 + 7)) (a := (G.2 + 6)) (by omega)) _).trans ((goWR_k (by decide)).trans ((congrFun (rX1_init_lt (n := (G.2 + 3)) (a := (G.2 + 2)) (by omega)) _).trans (goWR_eq))))))) ?_
  refine go_aload0 hc dX12_init_57 ?_
  refine go_getR hc lk_RX12_30 dX12_init_58 (goGb_lt hs) (goWR_eq) ?_
  refine go_callIv hc dX12_init_61 (mX9_init hk (goGb_at 66 (Nat.le_of_ble_eq_true rfl) rfl) (show goZe (G.2 + 67) _ _ _ from ((rX6_init_Z (n := (G.2 + 37)) (by omega) ((rX6_init_Z (n := (G.2 + 7)) (by omega) ((rX1_init_Z (n := (G.2 + 3)) (by omega) ((rX11_init_Z (n := (G.2 + 1)) (by omega) (hz.mono (by omega))).wR (by omega))).wR (by omega))).wR (by omega))).wR (by omega))) (show G.2 + 67 + 6 ≤ 1000000 by omega)) ml_RX12_35 yk_X9_init wim_X9_init rfl hR rfl rfl rfl (Nat.le_of_ble_eq_true rfl) rfl ?_
  refine go_gapp ?_
  refine go_putFR hc (.object "GoatCourt$Reader") lkf_RX12_38 hnm (by decide +kernel) (fun _ => ⟨rfl, rfl⟩) dX12_init_64 (goGb_lt hs) ?_
  refine go_aload0 hc dX12_init_67 ?_
  refine go_new hc (j := 73) rfl dX12_init_68 wcl_RX12_42 wia_RX4 win_RX4 cl_3 df_3 ((LX9_init_Z (n := (G.2 + 67)) (by omega) (rX9_init_Z (n := (G.2 + 67)) (by omega) ((rX6_init_Z (n := (G.2 + 37)) (by omega) ((rX6_init_Z (n := (G.2 + 7)) (by omega) ((rX1_init_Z (n := (G.2 + 3)) (by omega) ((rX11_init_Z (n := (G.2 + 1)) (by omega) (hz.mono (by omega))).wR (by omega))).wR (by omega))).wR (by omega))).wR (by omega)))).wR (by omega)) (by omega) hR rfl ?_
  refine go_dupr hc dX12_init_71 ?_
  refine go_aload0 hc dX12_init_72 ?_
  refine go_getR hc lk_RX12_19 dX12_init_73 (goGb_lt hs) ((goWR_k (by decide)).trans ((congrFun (rX9_init_lt (n := (G.2 + 67)) (a := (G.2 + 66)) (by omega)) _).trans ((goWR_k (by decide)).trans ((congrFun (rX6_init_lt (n := (G.2 + 37)) (a := (G.2 + 36)) (by omega)) _).trans ((goWR_k (by decide)).trans ((congrFun (rX6_init_lt (n := (G.2 + 7)) (a := (G.2 + 6)) (by omega)) _).trans (goWR_eq))))))) ?_
  refine go_aload0 hc dX12_init_76 ?_
  refine go_getR hc lk_RX12_26 dX12_init_77 (goGb_lt hs) ((goWR_k (by decide)).trans ((congrFun (rX9_init_lt (n := (G.2 + 67)) (a := (G.2 + 66)) (by omega)) _).trans ((goWR_k (by decide)).trans ((congrFun (rX6_init_lt (n := (G.2 + 37)) (a := (G.2 + 36)) (by omega)) _).trans (goWR_eq))))) ?_
  refine go_callIv hc dX12_init_80 (mX4_init hk (goGb_at 73 (Nat.le_of_ble_eq_true rfl) rfl) (show goZe (G.2 + 74) _ _ _ from ((LX9_init_Z (n := (G.2 + 67)) (by omega) (rX9_init_Z (n := (G.2 + 67)) (by omega) ((rX6_init_Z (n := (G.2 + 37)) (by omega) ((rX6_init_Z (n := (G.2 + 7)) (by omega) ((rX1_init_Z (n := (G.2 + 3)) (by omega) ((rX11_init_Z (n := (G.2 + 1)) (by omega) (hz.mono (by omega))).wR (by omega))).wR (by omega))).wR (by omega))).wR (by omega)))).wR (by omega))) (show G.2 + 74 + 13 ≤ 1000000 by omega)) ml_RX12_44 yk_X4_init wim_X4_init rfl hR rfl rfl rfl (Nat.le_of_ble_eq_true rfl) rfl ?_
  refine go_gapp ?_
  refine go_putFR hc (.object "GoatCourt$Evidence") lkf_RX12_47 hnm (by decide +kernel) (fun _ => ⟨rfl, rfl⟩) dX12_init_83 (goGb_lt hs) ?_
  refine go_aload0 hc dX12_init_86 ?_
  refine go_new hc (j := 87) rfl dX12_init_87 wcl_RX12_51 wia_RX8 win_RX8 cl_7 df_7 ((MX4_init_Z (n := (G.2 + 74)) (by omega) (rX4_init_Z (n := (G.2 + 74)) (by omega) ((LX9_init_Z (n := (G.2 + 67)) (by omega) (rX9_init_Z (n := (G.2 + 67)) (by omega) ((rX6_init_Z (n := (G.2 + 37)) (by omega) ((rX6_init_Z (n := (G.2 + 7)) (by omega) ((rX1_init_Z (n := (G.2 + 3)) (by omega) ((rX11_init_Z (n := (G.2 + 1)) (by omega) (hz.mono (by omega))).wR (by omega))).wR (by omega))).wR (by omega))).wR (by omega)))).wR (by omega)))).wR (by omega)) (by omega) hR rfl ?_
  refine go_dupr hc dX12_init_90 ?_
  refine go_aload0 hc dX12_init_91 ?_
  refine go_getR hc lk_RX12_19 dX12_init_92 (goGb_lt hs) ((goWR_k (by decide)).trans ((congrFun (rX4_init_lt (n := (G.2 + 74)) (a := (G.2 + 73)) (by omega)) _).trans ((goWR_k (by decide)).trans ((congrFun (rX9_init_lt (n := (G.2 + 67)) (a := (G.2 + 66)) (by omega)) _).trans ((goWR_k (by decide)).trans ((congrFun (rX6_init_lt (n := (G.2 + 37)) (a := (G.2 + 36)) (by omega)) _).trans ((goWR_k (by decide)).trans ((congrFun (rX6_init_lt (n := (G.2 + 7)) (a := (G.2 + 6)) (by omega)) _).trans (goWR_eq))))))))) ?_
  refine go_aload0 hc dX12_init_95 ?_
  refine go_getR hc lk_RX12_26 dX12_init_96 (goGb_lt hs) ((goWR_k (by decide)).trans ((congrFun (rX4_init_lt (n := (G.2 + 74)) (a := (G.2 + 73)) (by omega)) _).trans ((goWR_k (by decide)).trans ((congrFun (rX9_init_lt (n := (G.2 + 67)) (a := (G.2 + 66)) (by omega)) _).trans ((goWR_k (by decide)).trans ((congrFun (rX6_init_lt (n := (G.2 + 37)) (a := (G.2 + 36)) (by omega)) _).trans (goWR_eq))))))) ?_
  refine go_callIv hc dX12_init_99 (mX8_init hk (goGb_at 87 (Nat.le_of_ble_eq_true rfl) rfl) (show goZe (G.2 + 88) _ _ _ from ((MX4_init_Z (n := (G.2 + 74)) (by omega) (rX4_init_Z (n := (G.2 + 74)) (by omega) ((LX9_init_Z (n := (G.2 + 67)) (by omega) (rX9_init_Z (n := (G.2 + 67)) (by omega) ((rX6_init_Z (n := (G.2 + 37)) (by omega) ((rX6_init_Z (n := (G.2 + 7)) (by omega) ((rX1_init_Z (n := (G.2 + 3)) (by omega) ((rX11_init_Z (n := (G.2 + 1)) (by omega) (hz.mono (by omega))).wR (by omega))).wR (by omega))).wR (by omega))).wR (by omega)))).wR (by omega)))).wR (by omega))) (show G.2 + 88 + 13 ≤ 1000000 by omega)) ml_RX12_53 yk_X8_init wim_X8_init rfl hR rfl rfl rfl (Nat.le_of_ble_eq_true rfl) rfl ?_
  refine go_gapp ?_
  refine go_putFR hc (.object "GoatCourt$Lure") lkf_RX12_54 hnm (by decide +kernel) (fun _ => ⟨rfl, rfl⟩) dX12_init_102 (goGb_lt hs) ?_
  exact go_vret hc dX12_init_105 hr
