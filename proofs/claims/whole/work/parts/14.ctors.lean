theorem df_0 : ∀ ty : Nat → FieldType, (∀ k, k < 6 → parseFieldDescriptor (TX1 k).2.2.1 = some (ty k)) → ∀ k, k < 6 → defaultValue (ty k) = goDf 0 k := by
  intro ty hty k hk
  have h1 := Option.some.inj ((hty k hk).symm.trans (tyX1_ok k hk))
  rw [h1]
  exact (show ∀ k, k < 6 → defaultValue (tyX1 k) = goDf 0 k by decide +kernel) k hk
theorem df_1 : ∀ ty : Nat → FieldType, (∀ k, k < 5 → parseFieldDescriptor (TX2 k).2.2.1 = some (ty k)) → ∀ k, k < 5 → defaultValue (ty k) = goDf 1 k := by
  intro ty hty k hk
  have h1 := Option.some.inj ((hty k hk).symm.trans (tyX2_ok k hk))
  rw [h1]
  exact (show ∀ k, k < 5 → defaultValue (tyX2 k) = goDf 1 k by decide +kernel) k hk
theorem df_2 : ∀ ty : Nat → FieldType, (∀ k, k < 11 → parseFieldDescriptor (TX3 k).2.2.1 = some (ty k)) → ∀ k, k < 11 → defaultValue (ty k) = goDf 2 k := by
  intro ty hty k hk
  have h1 := Option.some.inj ((hty k hk).symm.trans (tyX3_ok k hk))
  rw [h1]
  exact (show ∀ k, k < 11 → defaultValue (tyX3 k) = goDf 2 k by decide +kernel) k hk
theorem df_3 : ∀ ty : Nat → FieldType, (∀ k, k < 12 → parseFieldDescriptor (TX4 k).2.2.1 = some (ty k)) → ∀ k, k < 12 → defaultValue (ty k) = goDf 3 k := by
  intro ty hty k hk
  have h1 := Option.some.inj ((hty k hk).symm.trans (tyX4_ok k hk))
  rw [h1]
  exact (show ∀ k, k < 12 → defaultValue (tyX4 k) = goDf 3 k by decide +kernel) k hk
theorem df_4 : ∀ ty : Nat → FieldType, (∀ k, k < 13 → parseFieldDescriptor (TX5 k).2.2.1 = some (ty k)) → ∀ k, k < 13 → defaultValue (ty k) = goDf 4 k := by
  intro ty hty k hk
  have h1 := Option.some.inj ((hty k hk).symm.trans (tyX5_ok k hk))
  rw [h1]
  exact (show ∀ k, k < 13 → defaultValue (tyX5 k) = goDf 4 k by decide +kernel) k hk
theorem df_5 : ∀ ty : Nat → FieldType, (∀ k, k < 18 → parseFieldDescriptor (TX6 k).2.2.1 = some (ty k)) → ∀ k, k < 18 → defaultValue (ty k) = goDf 5 k := by
  intro ty hty k hk
  have h1 := Option.some.inj ((hty k hk).symm.trans (tyX6_ok k hk))
  rw [h1]
  exact (show ∀ k, k < 18 → defaultValue (tyX6 k) = goDf 5 k by decide +kernel) k hk
theorem df_6 : ∀ ty : Nat → FieldType, (∀ k, k < 7 → parseFieldDescriptor (TX7 k).2.2.1 = some (ty k)) → ∀ k, k < 7 → defaultValue (ty k) = goDf 6 k := by
  intro ty hty k hk
  have h1 := Option.some.inj ((hty k hk).symm.trans (tyX7_ok k hk))
  rw [h1]
  exact (show ∀ k, k < 7 → defaultValue (tyX7 k) = goDf 6 k by decide +kernel) k hk
theorem df_7 : ∀ ty : Nat → FieldType, (∀ k, k < 10 → parseFieldDescriptor (TX8 k).2.2.1 = some (ty k)) → ∀ k, k < 10 → defaultValue (ty k) = goDf 7 k := by
  intro ty hty k hk
  have h1 := Option.some.inj ((hty k hk).symm.trans (tyX8_ok k hk))
  rw [h1]
  exact (show ∀ k, k < 10 → defaultValue (tyX8 k) = goDf 7 k by decide +kernel) k hk
theorem df_8 : ∀ ty : Nat → FieldType, (∀ k, k < 12 → parseFieldDescriptor (TX9 k).2.2.1 = some (ty k)) → ∀ k, k < 12 → defaultValue (ty k) = goDf 8 k := by
  intro ty hty k hk
  have h1 := Option.some.inj ((hty k hk).symm.trans (tyX9_ok k hk))
  rw [h1]
  exact (show ∀ k, k < 12 → defaultValue (tyX9 k) = goDf 8 k by decide +kernel) k hk
theorem df_9 : ∀ ty : Nat → FieldType, (∀ k, k < 9 → parseFieldDescriptor (TX11 k).2.2.1 = some (ty k)) → ∀ k, k < 9 → defaultValue (ty k) = goDf 9 k := by
  intro ty hty k hk
  have h1 := Option.some.inj ((hty k hk).symm.trans (tyX11_ok k hk))
  rw [h1]
  exact (show ∀ k, k < 9 → defaultValue (tyX11 k) = goDf 9 k by decide +kernel) k hk
theorem df_10 : ∀ ty : Nat → FieldType, (∀ k, k < 9 → parseFieldDescriptor (TX12 k).2.2.1 = some (ty k)) → ∀ k, k < 9 → defaultValue (ty k) = goDf 10 k := by
  intro ty hty k hk
  have h1 := Option.some.inj ((hty k hk).symm.trans (tyX12_ok k hk))
  rw [h1]
  exact (show ∀ k, k < 9 → defaultValue (tyX12 k) = goDf 10 k by decide +kernel) k hk
theorem df_11 : ∀ ty : Nat → FieldType, (∀ k, k < 41 → parseFieldDescriptor (TX13 k).2.2.1 = some (ty k)) → ∀ k, k < 41 → defaultValue (ty k) = goDf 11 k := by
  intro ty hty k hk
  have h1 := Option.some.inj ((hty k hk).symm.trans (tyX13_ok k hk))
  rw [h1]
  exact (show ∀ k, k < 41 → defaultValue (tyX13 k) = goDf 11 k by decide +kernel) k hk
theorem df_12 : ∀ ty : Nat → FieldType, (∀ k, k < 39 → parseFieldDescriptor (TX14 k).2.2.1 = some (ty k)) → ∀ k, k < 39 → defaultValue (ty k) = goDf 12 k := by
  intro ty hty k hk
  have h1 := Option.some.inj ((hty k hk).symm.trans (tyX14_ok k hk))
  rw [h1]
  exact (show ∀ k, k < 39 → defaultValue (tyX14 k) = goDf 12 k by decide +kernel) k hk
theorem goWR_eq {R : goMR} {a k : Nat} {x : Option Nat} : goWR R a k x a k = x := by simp [goWR]
theorem goWR_k {R : goMR} {a k j : Nat} {x : Option Nat} (h : j ≠ k) : goWR R a k x a j = R a j := by simp [goWR, h]
theorem dX1_init_0 : decode cX1_init 0 = .ok (.aload_n 0, 1) := by decide +kernel
theorem dX1_init_1 : decode cX1_init 1 = .ok (.invokespecial 3, 3) := by decide +kernel
theorem dX1_init_4 : decode cX1_init 4 = .ok (.aload_n 0, 1) := by decide +kernel
theorem dX1_init_5 : decode cX1_init 5 = .ok (.bipush 26, 2) := by decide +kernel
theorem dX1_init_7 : decode cX1_init 7 = .ok (.newarray .int, 2) := by decide +kernel
theorem dX1_init_9 : decode cX1_init 9 = .ok (.putfield 11, 3) := by decide +kernel
theorem dX1_init_12 : decode cX1_init 12 = .ok (.aload_n 0, 1) := by decide +kernel
theorem dX1_init_13 : decode cX1_init 13 = .ok (.bipush 16, 2) := by decide +kernel
theorem dX1_init_15 : decode cX1_init 15 = .ok (.newarray .int, 2) := by decide +kernel
theorem dX1_init_17 : decode cX1_init 17 = .ok (.putfield 15, 3) := by decide +kernel
theorem dX1_init_20 : decode cX1_init 20 = .ok (.aload_n 0, 1) := by decide +kernel
theorem dX1_init_21 : decode cX1_init 21 = .ok (.bipush 78, 2) := by decide +kernel
theorem dX1_init_23 : decode cX1_init 23 = .ok (.newarray .int, 2) := by decide +kernel
theorem dX1_init_25 : decode cX1_init 25 = .ok (.putfield 18, 3) := by decide +kernel
theorem dX1_init_28 : decode cX1_init 28 = .ok (.return_, 1) := by decide +kernel
def rX1_init (R : goMR) (n a : Nat) : goMR := (goWR (goWR (goWR R a 0 (some n)) a 1 (some (n + 1))) a 2 (some (n + 2)))
theorem rX1_init_Z {m n a : Nat} {M : goMI} {L : goML} {R : goMR} (h : a < m ∧ n + 3 ≤ m) (hz : goZe m M L R) : goZe m M L (rX1_init R n a) := by
  unfold rX1_init
  exact (goZe.wR (goZe.wR (goZe.wR hz (by omega)) (by omega)) (by omega))
theorem rX1_init_lt {n a b : Nat} {R : goMR} (h : b < a ∧ b < n) : rX1_init R n a b = R b := by
  unfold rX1_init
  rw [goWR_ne (by omega), goWR_ne (by omega), goWR_ne (by omega)]
set_option maxRecDepth 100000 in
set_option maxHeartbeats 4000000 in
theorem mX1_init {E : goEv} {l : Launch} {G : goG} {M : goMI} {L : goML} {R : goMR} {a : Nat} (hk : goKn E) (hs : a < G.2 ∧ G.1 a = (0, 0)) (hz : goZe G.2 M L R) (hle : G.2 + 3 ≤ 1000000) : Met l yX1_init (goCd yX1_init cX1_init 1 none) (goRoom 1 40 3 120) (goPre E [.ref a] G M L R) (goQv E (goGb G [(1, 26), (1, 16), (1, 78)]) M L (rX1_init R G.2 a)) 3 120 (goSet E) := by
  have ha := hs.1
  refine goMet pl_RX1 hk (lv := [some (.ref a)]) rfl (Nat.le_of_ble_eq_true rfl) ?_
  intro X hc hl hR hr hnm
  subst hl
  refine go_gnil ?_
  refine go_aload0 hc dX1_init_0 ?_
  refine go_objInit hc dX1_init_1 wml_RX1_3 hR rfl rfl (Nat.le_of_ble_eq_true rfl) ?_
  refine go_aload0 hc dX1_init_4 ?_
  refine go_bipush (v := 26) hc dX1_init_5 rfl ?_
  refine go_newa1 hc (j := 0) (N := 26) rfl dX1_init_7 rfl (by decide) (Nat.le_of_ble_eq_true rfl) (hz.mono (by omega)) (by omega) hR rfl ?_
  refine go_putFR hc (.array .int) lkf_RX1_11 hnm (by decide +kernel) (fun _ => ⟨rfl, rfl⟩) dX1_init_9 (goGb_lt hs) ?_
  refine go_aload0 hc dX1_init_12 ?_
  refine go_bipush (v := 16) hc dX1_init_13 rfl ?_
  refine go_newa1 hc (j := 1) (N := 16) rfl dX1_init_15 rfl (by decide) (Nat.le_of_ble_eq_true rfl) ((hz.mono (by omega)).wR (by omega)) (by omega) hR rfl ?_
  refine go_putFR hc (.array .int) lkf_RX1_15 hnm (by decide +kernel) (fun _ => ⟨rfl, rfl⟩) dX1_init_17 (goGb_lt hs) ?_
  refine go_aload0 hc dX1_init_20 ?_
  refine go_bipush (v := 78) hc dX1_init_21 rfl ?_
  refine go_newa1 hc (j := 2) (N := 78) rfl dX1_init_23 rfl (by decide) (Nat.le_of_ble_eq_true rfl) (((hz.mono (by omega)).wR (by omega)).wR (by omega)) (by omega) hR rfl ?_
  refine go_putFR hc (.array .int) lkf_RX1_18 hnm (by decide +kernel) (fun _ => ⟨rfl, rfl⟩) dX1_init_25 (goGb_lt hs) ?_
  exact go_vret hc dX1_init_28 hr
theorem dX2_init_0 : decode cX2_init 0 = .ok (.aload_n 0, 1) := by decide +kernel
theorem dX2_init_1 : decode cX2_init 1 = .ok (.invokespecial 3, 3) := by decide +kernel
theorem dX2_init_4 : decode cX2_init 4 = .ok (.aload_n 0, 1) := by decide +kernel
theorem dX2_init_5 : decode cX2_init 5 = .ok (.bipush 6, 2) := by decide +kernel
theorem dX2_init_7 : decode cX2_init 7 = .ok (.newarray .int, 2) := by decide +kernel
theorem dX2_init_9 : decode cX2_init 9 = .ok (.putfield 9, 3) := by decide +kernel
theorem dX2_init_12 : decode cX2_init 12 = .ok (.aload_n 0, 1) := by decide +kernel
theorem dX2_init_13 : decode cX2_init 13 = .ok (.bipush 6, 2) := by decide +kernel
theorem dX2_init_15 : decode cX2_init 15 = .ok (.newarray .int, 2) := by decide +kernel
theorem dX2_init_17 : decode cX2_init 17 = .ok (.putfield 15, 3) := by decide +kernel
theorem dX2_init_20 : decode cX2_init 20 = .ok (.aload_n 0, 1) := by decide +kernel
theorem dX2_init_21 : decode cX2_init 21 = .ok (.bipush 64, 2) := by decide +kernel
theorem dX2_init_23 : decode cX2_init 23 = .ok (.newarray .long, 2) := by decide +kernel
theorem dX2_init_25 : decode cX2_init 25 = .ok (.putfield 18, 3) := by decide +kernel
theorem dX2_init_28 : decode cX2_init 28 = .ok (.aload_n 0, 1) := by decide +kernel
theorem dX2_init_29 : decode cX2_init 29 = .ok (.bipush 64, 2) := by decide +kernel
theorem dX2_init_31 : decode cX2_init 31 = .ok (.newarray .int, 2) := by decide +kernel
theorem dX2_init_33 : decode cX2_init 33 = .ok (.putfield 22, 3) := by decide +kernel
theorem dX2_init_36 : decode cX2_init 36 = .ok (.return_, 1) := by decide +kernel
def rX2_init (R : goMR) (n a : Nat) : goMR := (goWR (goWR (goWR (goWR R a 1 (some n)) a 2 (some (n + 1))) a 3 (some (n + 2))) a 4 (some (n + 3)))
theorem rX2_init_Z {m n a : Nat} {M : goMI} {L : goML} {R : goMR} (h : a < m ∧ n + 4 ≤ m) (hz : goZe m M L R) : goZe m M L (rX2_init R n a) := by
  unfold rX2_init
  exact (goZe.wR (goZe.wR (goZe.wR (goZe.wR hz (by omega)) (by omega)) (by omega)) (by omega))
theorem rX2_init_lt {n a b : Nat} {R : goMR} (h : b < a ∧ b < n) : rX2_init R n a b = R b := by
  unfold rX2_init
  rw [goWR_ne (by omega), goWR_ne (by omega), goWR_ne (by omega), goWR_ne (by omega)]
set_option maxRecDepth 100000 in
set_option maxHeartbeats 4000000 in
theorem mX2_init {E : goEv} {l : Launch} {G : goG} {M : goMI} {L : goML} {R : goMR} {a : Nat} (hk : goKn E) (hs : a < G.2 ∧ G.1 a = (0, 1)) (hz : goZe G.2 M L R) (hle : G.2 + 4 ≤ 1000000) : Met l yX2_init (goCd yX2_init cX2_init 1 none) (goRoom 1 40 4 140) (goPre E [.ref a] G M L R) (goQv E (goGb G [(1, 6), (1, 6), (4, 64), (1, 64)]) M L (rX2_init R G.2 a)) 4 140 (goSet E) := by
  have ha := hs.1
  refine goMet pl_RX2 hk (lv := [some (.ref a)]) rfl (Nat.le_of_ble_eq_true rfl) ?_
  intro X hc hl hR hr hnm
  subst hl
  refine go_gnil ?_
  refine go_aload0 hc dX2_init_0 ?_
  refine go_objInit hc dX2_init_1 wml_RX2_3 hR rfl rfl (Nat.le_of_ble_eq_true rfl) ?_
  refine go_aload0 hc dX2_init_4 ?_
  refine go_bipush (v := 6) hc dX2_init_5 rfl ?_
  refine go_newa1 hc (j := 0) (N := 6) rfl dX2_init_7 rfl (by decide) (Nat.le_of_ble_eq_true rfl) (hz.mono (by omega)) (by omega) hR rfl ?_
  refine go_putFR hc (.array .int) lkf_RX2_9 hnm (by decide +kernel) (fun _ => ⟨rfl, rfl⟩) dX2_init_9 (goGb_lt hs) ?_
  refine go_aload0 hc dX2_init_12 ?_
  refine go_bipush (v := 6) hc dX2_init_13 rfl ?_
  refine go_newa1 hc (j := 1) (N := 6) rfl dX2_init_15 rfl (by decide) (Nat.le_of_ble_eq_true rfl) ((hz.mono (by omega)).wR (by omega)) (by omega) hR rfl ?_
  refine go_putFR hc (.array .int) lkf_RX2_15 hnm (by decide +kernel) (fun _ => ⟨rfl, rfl⟩) dX2_init_17 (goGb_lt hs) ?_
  refine go_aload0 hc dX2_init_20 ?_
  refine go_bipush (v := 64) hc dX2_init_21 rfl ?_
  refine go_newa4 hc (j := 2) (N := 64) rfl dX2_init_23 rfl (by decide) (Nat.le_of_ble_eq_true rfl) (((hz.mono (by omega)).wR (by omega)).wR (by omega)) (by omega) hR rfl ?_
  refine go_putFR hc (.array .long) lkf_RX2_18 hnm (by decide +kernel) (fun _ => ⟨rfl, rfl⟩) dX2_init_25 (goGb_lt hs) ?_
  refine go_aload0 hc dX2_init_28 ?_
  refine go_bipush (v := 64) hc dX2_init_29 rfl ?_
  refine go_newa1 hc (j := 3) (N := 64) rfl dX2_init_31 rfl (by decide) (Nat.le_of_ble_eq_true rfl) ((((hz.mono (by omega)).wR (by omega)).wR (by omega)).wR (by omega)) (by omega) hR rfl ?_
  refine go_putFR hc (.array .int) lkf_RX2_22 hnm (by decide +kernel) (fun _ => ⟨rfl, rfl⟩) dX2_init_33 (goGb_lt hs) ?_
  exact go_vret hc dX2_init_36 hr
theorem dX5_init_0 : decode cX5_init 0 = .ok (.aload_n 0, 1) := by decide +kernel
theorem dX5_init_1 : decode cX5_init 1 = .ok (.invokespecial 3, 3) := by decide +kernel
theorem dX5_init_4 : decode cX5_init 4 = .ok (.aload_n 0, 1) := by decide +kernel
theorem dX5_init_5 : decode cX5_init 5 = .ok (.bipush 6, 2) := by decide +kernel
theorem dX5_init_7 : decode cX5_init 7 = .ok (.newarray .int, 2) := by decide +kernel
theorem dX5_init_9 : decode cX5_init 9 = .ok (.putfield 9, 3) := by decide +kernel
theorem dX5_init_12 : decode cX5_init 12 = .ok (.aload_n 0, 1) := by decide +kernel
theorem dX5_init_13 : decode cX5_init 13 = .ok (.bipush 6, 2) := by decide +kernel
theorem dX5_init_15 : decode cX5_init 15 = .ok (.newarray .int, 2) := by decide +kernel
theorem dX5_init_17 : decode cX5_init 17 = .ok (.putfield 15, 3) := by decide +kernel
theorem dX5_init_20 : decode cX5_init 20 = .ok (.aload_n 0, 1) := by decide +kernel
theorem dX5_init_21 : decode cX5_init 21 = .ok (.bipush 6, 2) := by decide +kernel
theorem dX5_init_23 : decode cX5_init 23 = .ok (.newarray .int, 2) := by decide +kernel
theorem dX5_init_25 : decode cX5_init 25 = .ok (.putfield 18, 3) := by decide +kernel
theorem dX5_init_28 : decode cX5_init 28 = .ok (.aload_n 0, 1) := by decide +kernel
theorem dX5_init_29 : decode cX5_init 29 = .ok (.bipush 6, 2) := by decide +kernel
theorem dX5_init_31 : decode cX5_init 31 = .ok (.newarray .int, 2) := by decide +kernel
theorem dX5_init_33 : decode cX5_init 33 = .ok (.putfield 21, 3) := by decide +kernel
theorem dX5_init_36 : decode cX5_init 36 = .ok (.aload_n 0, 1) := by decide +kernel
theorem dX5_init_37 : decode cX5_init 37 = .ok (.bipush 6, 2) := by decide +kernel
theorem dX5_init_39 : decode cX5_init 39 = .ok (.newarray .int, 2) := by decide +kernel
theorem dX5_init_41 : decode cX5_init 41 = .ok (.putfield 24, 3) := by decide +kernel
theorem dX5_init_44 : decode cX5_init 44 = .ok (.aload_n 0, 1) := by decide +kernel
theorem dX5_init_45 : decode cX5_init 45 = .ok (.bipush 24, 2) := by decide +kernel
theorem dX5_init_47 : decode cX5_init 47 = .ok (.newarray .int, 2) := by decide +kernel
theorem dX5_init_49 : decode cX5_init 49 = .ok (.putfield 27, 3) := by decide +kernel
theorem dX5_init_52 : decode cX5_init 52 = .ok (.aload_n 0, 1) := by decide +kernel
theorem dX5_init_53 : decode cX5_init 53 = .ok (.bipush 6, 2) := by decide +kernel
theorem dX5_init_55 : decode cX5_init 55 = .ok (.newarray .int, 2) := by decide +kernel
theorem dX5_init_57 : decode cX5_init 57 = .ok (.putfield 30, 3) := by decide +kernel
theorem dX5_init_60 : decode cX5_init 60 = .ok (.aload_n 0, 1) := by decide +kernel
theorem dX5_init_61 : decode cX5_init 61 = .ok (.bipush 10, 2) := by decide +kernel
theorem dX5_init_63 : decode cX5_init 63 = .ok (.newarray .int, 2) := by decide +kernel
theorem dX5_init_65 : decode cX5_init 65 = .ok (.putfield 33, 3) := by decide +kernel
theorem dX5_init_68 : decode cX5_init 68 = .ok (.aload_n 0, 1) := by decide +kernel
theorem dX5_init_69 : decode cX5_init 69 = .ok (.bipush 10, 2) := by decide +kernel
theorem dX5_init_71 : decode cX5_init 71 = .ok (.newarray .int, 2) := by decide +kernel
theorem dX5_init_73 : decode cX5_init 73 = .ok (.putfield 36, 3) := by decide +kernel
theorem dX5_init_76 : decode cX5_init 76 = .ok (.aload_n 0, 1) := by decide +kernel
theorem dX5_init_77 : decode cX5_init 77 = .ok (.bipush 10, 2) := by decide +kernel
theorem dX5_init_79 : decode cX5_init 79 = .ok (.newarray .int, 2) := by decide +kernel
theorem dX5_init_81 : decode cX5_init 81 = .ok (.putfield 39, 3) := by decide +kernel
theorem dX5_init_84 : decode cX5_init 84 = .ok (.aload_n 0, 1) := by decide +kernel
theorem dX5_init_85 : decode cX5_init 85 = .ok (.bipush 10, 2) := by decide +kernel
theorem dX5_init_87 : decode cX5_init 87 = .ok (.newarray .int, 2) := by decide +kernel
theorem dX5_init_89 : decode cX5_init 89 = .ok (.putfield 42, 3) := by decide +kernel
theorem dX5_init_92 : decode cX5_init 92 = .ok (.return_, 1) := by decide +kernel
def rX5_init (R : goMR) (n a : Nat) : goMR := (goWR (goWR (goWR (goWR (goWR (goWR (goWR (goWR (goWR (goWR (goWR R a 2 (some n)) a 3 (some (n + 1))) a 4 (some (n + 2))) a 5 (some (n + 3))) a 6 (some (n + 4))) a 7 (some (n + 5))) a 8 (some (n + 6))) a 9 (some (n + 7))) a 10 (some (n + 8))) a 11 (some (n + 9))) a 12 (some (n + 10)))
theorem rX5_init_Z {m n a : Nat} {M : goMI} {L : goML} {R : goMR} (h : a < m ∧ n + 11 ≤ m) (hz : goZe m M L R) : goZe m M L (rX5_init R n a) := by
  unfold rX5_init
  exact (goZe.wR (goZe.wR (goZe.wR (goZe.wR (goZe.wR (goZe.wR (goZe.wR (goZe.wR (goZe.wR (goZe.wR (goZe.wR hz (by omega)) (by omega)) (by omega)) (by omega)) (by omega)) (by omega)) (by omega)) (by omega)) (by omega)) (by omega)) (by omega))
theorem rX5_init_lt {n a b : Nat} {R : goMR} (h : b < a ∧ b < n) : rX5_init R n a b = R b := by
  unfold rX5_init
  rw [goWR_ne (by omega), goWR_ne (by omega), goWR_ne (by omega), goWR_ne (by omega), goWR_ne (by omega), goWR_ne (by omega), goWR_ne (by omega), goWR_ne (by omega), goWR_ne (by omega), goWR_ne (by omega), goWR_ne (by omega)]
set_option maxRecDepth 100000 in
set_option maxHeartbeats 4000000 in
theorem mX5_init {E : goEv} {l : Launch} {G : goG} {M : goMI} {L : goML} {R : goMR} {a : Nat} (hk : goKn E) (hs : a < G.2 ∧ G.1 a = (0, 4)) (hz : goZe G.2 M L R) (hle : G.2 + 11 ≤ 1000000) : Met l yX5_init (goCd yX5_init cX5_init 1 none) (goRoom 1 40 11 100) (goPre E [.ref a] G M L R) (goQv E (goGb G [(1, 6), (1, 6), (1, 6), (1, 6), (1, 6), (1, 24), (1, 6), (1, 10), (1, 10), (1, 10), (1, 10)]) M L (rX5_init R G.2 a)) 11 100 (goSet E) := by
  have ha := hs.1
  refine goMet pl_RX5 hk (lv := [some (.ref a)]) rfl (Nat.le_of_ble_eq_true rfl) ?_
  intro X hc hl hR hr hnm
  subst hl
  refine go_gnil ?_
  refine go_aload0 hc dX5_init_0 ?_
  refine go_objInit hc dX5_init_1 wml_RX5_3 hR rfl rfl (Nat.le_of_ble_eq_true rfl) ?_
  refine go_aload0 hc dX5_init_4 ?_
  refine go_bipush (v := 6) hc dX5_init_5 rfl ?_
  refine go_newa1 hc (j := 0) (N := 6) rfl dX5_init_7 rfl (by decide) (Nat.le_of_ble_eq_true rfl) (hz.mono (by omega)) (by omega) hR rfl ?_
  refine go_putFR hc (.array .int) lkf_RX5_9 hnm (by decide +kernel) (fun _ => ⟨rfl, rfl⟩) dX5_init_9 (goGb_lt hs) ?_
  refine go_aload0 hc dX5_init_12 ?_
  refine go_bipush (v := 6) hc dX5_init_13 rfl ?_
  refine go_newa1 hc (j := 1) (N := 6) rfl dX5_init_15 rfl (by decide) (Nat.le_of_ble_eq_true rfl) ((hz.mono (by omega)).wR (by omega)) (by omega) hR rfl ?_
  refine go_putFR hc (.array .int) lkf_RX5_15 hnm (by decide +kernel) (fun _ => ⟨rfl, rfl⟩) dX5_init_17 (goGb_lt hs) ?_
  refine go_aload0 hc dX5_init_20 ?_
  refine go_bipush (v := 6) hc dX5_init_21 rfl ?_
  refine go_newa1 hc (j := 2) (N := 6) rfl dX5_init_23 rfl (by decide) (Nat.le_of_ble_eq_true rfl) (((hz.mono (by omega)).wR (by omega)).wR (by omega)) (by omega) hR rfl ?_
  refine go_putFR hc (.array .int) lkf_RX5_18 hnm (by decide +kernel) (fun _ => ⟨rfl, rfl⟩) dX5_init_25 (goGb_lt hs) ?_
  refine go_aload0 hc dX5_init_28 ?_
  refine go_bipush (v := 6) hc dX5_init_29 rfl ?_
  refine go_newa1 hc (j := 3) (N := 6) rfl dX5_init_31 rfl (by decide) (Nat.le_of_ble_eq_true rfl) ((((hz.mono (by omega)).wR (by omega)).wR (by omega)).wR (by omega)) (by omega) hR rfl ?_
  refine go_putFR hc (.array .int) lkf_RX5_21 hnm (by decide +kernel) (fun _ => ⟨rfl, rfl⟩) dX5_init_33 (goGb_lt hs) ?_
  refine go_aload0 hc dX5_init_36 ?_
  refine go_bipush (v := 6) hc dX5_init_37 rfl ?_
  refine go_newa1 hc (j := 4) (N := 6) rfl dX5_init_39 rfl (by decide) (Nat.le_of_ble_eq_true rfl) (((((hz.mono (by omega)).wR (by omega)).wR (by omega)).wR (by omega)).wR (by omega)) (by omega) hR rfl ?_
  refine go_putFR hc (.array .int) lkf_RX5_24 hnm (by decide +kernel) (fun _ => ⟨rfl, rfl⟩) dX5_init_41 (goGb_lt hs) ?_
  refine go_aload0 hc dX5_init_44 ?_
  refine go_bipush (v := 24) hc dX5_init_45 rfl ?_
  refine go_newa1 hc (j := 5) (N := 24) rfl dX5_init_47 rfl (by decide) (Nat.le_of_ble_eq_true rfl) ((((((hz.mono (by omega)).wR (by omega)).wR (by omega)).wR (by omega)).wR (by omega)).wR (by omega)) (by omega) hR rfl ?_
  refine go_putFR hc (.array .int) lkf_RX5_27 hnm (by decide +kernel) (fun _ => ⟨rfl, rfl⟩) dX5_init_49 (goGb_lt hs) ?_
  refine go_aload0 hc dX5_init_52 ?_
  refine go_bipush (v := 6) hc dX5_init_53 rfl ?_
  refine go_newa1 hc (j := 6) (N := 6) rfl dX5_init_55 rfl (by decide) (Nat.le_of_ble_eq_true rfl) (((((((hz.mono (by omega)).wR (by omega)).wR (by omega)).wR (by omega)).wR (by omega)).wR (by omega)).wR (by omega)) (by omega) hR rfl ?_
  refine go_putFR hc (.array .int) lkf_RX5_30 hnm (by decide +kernel) (fun _ => ⟨rfl, rfl⟩) dX5_init_57 (goGb_lt hs) ?_
  refine go_aload0 hc dX5_init_60 ?_
  refine go_bipush (v := 10) hc dX5_init_61 rfl ?_
  refine go_newa1 hc (j := 7) (N := 10) rfl dX5_init_63 rfl (by decide) (Nat.le_of_ble_eq_true rfl) ((((((((hz.mono (by omega)).wR (by omega)).wR (by omega)).wR (by omega)).wR (by omega)).wR (by omega)).wR (by omega)).wR (by omega)) (by omega) hR rfl ?_
  refine go_putFR hc (.array .int) lkf_RX5_33 hnm (by decide +kernel) (fun _ => ⟨rfl, rfl⟩) dX5_init_65 (goGb_lt hs) ?_
  refine go_aload0 hc dX5_init_68 ?_
  refine go_bipush (v := 10) hc dX5_init_69 rfl ?_
  refine go_newa1 hc (j := 8) (N := 10) rfl dX5_init_71 rfl (by decide) (Nat.le_of_ble_eq_true rfl) (((((((((hz.mono (by omega)).wR (by omega)).wR (by omega)).wR (by omega)).wR (by omega)).wR (by omega)).wR (by omega)).wR (by omega)).wR (by omega)) (by omega) hR rfl ?_
  refine go_putFR hc (.array .int) lkf_RX5_36 hnm (by decide +kernel) (fun _ => ⟨rfl, rfl⟩) dX5_init_73 (goGb_lt hs) ?_
  refine go_aload0 hc dX5_init_76 ?_
  refine go_bipush (v := 10) hc dX5_init_77 rfl ?_
  refine go_newa1 hc (j := 9) (N := 10) rfl dX5_init_79 rfl (by decide) (Nat.le_of_ble_eq_true rfl) ((((((((((hz.mono (by omega)).wR (by omega)).wR (by omega)).wR (by omega)).wR (by omega)).wR (by omega)).wR (by omega)).wR (by omega)).wR (by omega)).wR (by omega)) (by omega) hR rfl ?_
  refine go_putFR hc (.array .int) lkf_RX5_39 hnm (by decide +kernel) (fun _ => ⟨rfl, rfl⟩) dX5_init_81 (goGb_lt hs) ?_
  refine go_aload0 hc dX5_init_84 ?_
  refine go_bipush (v := 10) hc dX5_init_85 rfl ?_
  refine go_newa1 hc (j := 10) (N := 10) rfl dX5_init_87 rfl (by decide) (Nat.le_of_ble_eq_true rfl) (((((((((((hz.mono (by omega)).wR (by omega)).wR (by omega)).wR (by omega)).wR (by omega)).wR (by omega)).wR (by omega)).wR (by omega)).wR (by omega)).wR (by omega)).wR (by omega)) (by omega) hR rfl ?_
  refine go_putFR hc (.array .int) lkf_RX5_42 hnm (by decide +kernel) (fun _ => ⟨rfl, rfl⟩) dX5_init_89 (goGb_lt hs) ?_
  exact go_vret hc dX5_init_92 hr
theorem dX7_init_0 : decode cX7_init 0 = .ok (.aload_n 0, 1) := by decide +kernel
theorem dX7_init_1 : decode cX7_init 1 = .ok (.invokespecial 3, 3) := by decide +kernel
theorem dX7_init_4 : decode cX7_init 4 = .ok (.aload_n 0, 1) := by decide +kernel
theorem dX7_init_5 : decode cX7_init 5 = .ok (.bipush 8, 2) := by decide +kernel
theorem dX7_init_7 : decode cX7_init 7 = .ok (.newarray .int, 2) := by decide +kernel
theorem dX7_init_9 : decode cX7_init 9 = .ok (.putfield 9, 3) := by decide +kernel
theorem dX7_init_12 : decode cX7_init 12 = .ok (.aload_n 0, 1) := by decide +kernel
theorem dX7_init_13 : decode cX7_init 13 = .ok (.bipush 8, 2) := by decide +kernel
theorem dX7_init_15 : decode cX7_init 15 = .ok (.newarray .int, 2) := by decide +kernel
theorem dX7_init_17 : decode cX7_init 17 = .ok (.putfield 15, 3) := by decide +kernel
theorem dX7_init_20 : decode cX7_init 20 = .ok (.aload_n 0, 1) := by decide +kernel
theorem dX7_init_21 : decode cX7_init 21 = .ok (.bipush 8, 2) := by decide +kernel
theorem dX7_init_23 : decode cX7_init 23 = .ok (.newarray .int, 2) := by decide +kernel
theorem dX7_init_25 : decode cX7_init 25 = .ok (.putfield 18, 3) := by decide +kernel
theorem dX7_init_28 : decode cX7_init 28 = .ok (.return_, 1) := by decide +kernel
def rX7_init (R : goMR) (n a : Nat) : goMR := (goWR (goWR (goWR R a 4 (some n)) a 5 (some (n + 1))) a 6 (some (n + 2)))
theorem rX7_init_Z {m n a : Nat} {M : goMI} {L : goML} {R : goMR} (h : a < m ∧ n + 3 ≤ m) (hz : goZe m M L R) : goZe m M L (rX7_init R n a) := by
  unfold rX7_init
  exact (goZe.wR (goZe.wR (goZe.wR hz (by omega)) (by omega)) (by omega))
theorem rX7_init_lt {n a b : Nat} {R : goMR} (h : b < a ∧ b < n) : rX7_init R n a b = R b := by
  unfold rX7_init
  rw [goWR_ne (by omega), goWR_ne (by omega), goWR_ne (by omega)]
set_option maxRecDepth 100000 in
set_option maxHeartbeats 4000000 in
theorem mX7_init {E : goEv} {l : Launch} {G : goG} {M : goMI} {L : goML} {R : goMR} {a : Nat} (hk : goKn E) (hs : a < G.2 ∧ G.1 a = (0, 6)) (hz : goZe G.2 M L R) (hle : G.2 + 3 ≤ 1000000) : Met l yX7_init (goCd yX7_init cX7_init 1 none) (goRoom 1 40 3 24) (goPre E [.ref a] G M L R) (goQv E (goGb G [(1, 8), (1, 8), (1, 8)]) M L (rX7_init R G.2 a)) 3 24 (goSet E) := by
  have ha := hs.1
  refine goMet pl_RX7 hk (lv := [some (.ref a)]) rfl (Nat.le_of_ble_eq_true rfl) ?_
  intro X hc hl hR hr hnm
  subst hl
  refine go_gnil ?_
  refine go_aload0 hc dX7_init_0 ?_
  refine go_objInit hc dX7_init_1 wml_RX7_3 hR rfl rfl (Nat.le_of_ble_eq_true rfl) ?_
  refine go_aload0 hc dX7_init_4 ?_
  refine go_bipush (v := 8) hc dX7_init_5 rfl ?_
  refine go_newa1 hc (j := 0) (N := 8) rfl dX7_init_7 rfl (by decide) (Nat.le_of_ble_eq_true rfl) (hz.mono (by omega)) (by omega) hR rfl ?_
  refine go_putFR hc (.array .int) lkf_RX7_9 hnm (by decide +kernel) (fun _ => ⟨rfl, rfl⟩) dX7_init_9 (goGb_lt hs) ?_
  refine go_aload0 hc dX7_init_12 ?_
  refine go_bipush (v := 8) hc dX7_init_13 rfl ?_
  refine go_newa1 hc (j := 1) (N := 8) rfl dX7_init_15 rfl (by decide) (Nat.le_of_ble_eq_true rfl) ((hz.mono (by omega)).wR (by omega)) (by omega) hR rfl ?_
  refine go_putFR hc (.array .int) lkf_RX7_15 hnm (by decide +kernel) (fun _ => ⟨rfl, rfl⟩) dX7_init_17 (goGb_lt hs) ?_
  refine go_aload0 hc dX7_init_20 ?_
  refine go_bipush (v := 8) hc dX7_init_21 rfl ?_
  refine go_newa1 hc (j := 2) (N := 8) rfl dX7_init_23 rfl (by decide) (Nat.le_of_ble_eq_true rfl) (((hz.mono (by omega)).wR (by omega)).wR (by omega)) (by omega) hR rfl ?_
  refine go_putFR hc (.array .int) lkf_RX7_18 hnm (by decide +kernel) (fun _ => ⟨rfl, rfl⟩) dX7_init_25 (goGb_lt hs) ?_
  exact go_vret hc dX7_init_28 hr
theorem dX6_init_0 : decode cX6_init 0 = .ok (.aload_n 0, 1) := by decide +kernel
theorem dX6_init_1 : decode cX6_init 1 = .ok (.invokespecial 3, 3) := by decide +kernel
theorem dX6_init_4 : decode cX6_init 4 = .ok (.aload_n 0, 1) := by decide +kernel
theorem dX6_init_5 : decode cX6_init 5 = .ok (.bipush 8, 2) := by decide +kernel
theorem dX6_init_7 : decode cX6_init 7 = .ok (.newarray .int, 2) := by decide +kernel
theorem dX6_init_9 : decode cX6_init 9 = .ok (.putfield 9, 3) := by decide +kernel
theorem dX6_init_12 : decode cX6_init 12 = .ok (.aload_n 0, 1) := by decide +kernel
theorem dX6_init_13 : decode cX6_init 13 = .ok (.bipush 8, 2) := by decide +kernel
theorem dX6_init_15 : decode cX6_init 15 = .ok (.newarray .int, 2) := by decide +kernel
theorem dX6_init_17 : decode cX6_init 17 = .ok (.putfield 15, 3) := by decide +kernel
theorem dX6_init_20 : decode cX6_init 20 = .ok (.aload_n 0, 1) := by decide +kernel
theorem dX6_init_21 : decode cX6_init 21 = .ok (.bipush 14, 2) := by decide +kernel
theorem dX6_init_23 : decode cX6_init 23 = .ok (.newarray .int, 2) := by decide +kernel
theorem dX6_init_25 : decode cX6_init 25 = .ok (.putfield 18, 3) := by decide +kernel
theorem dX6_init_28 : decode cX6_init 28 = .ok (.aload_n 0, 1) := by decide +kernel
theorem dX6_init_29 : decode cX6_init 29 = .ok (.bipush 14, 2) := by decide +kernel
theorem dX6_init_31 : decode cX6_init 31 = .ok (.newarray .int, 2) := by decide +kernel
theorem dX6_init_33 : decode cX6_init 33 = .ok (.putfield 21, 3) := by decide +kernel
theorem dX6_init_36 : decode cX6_init 36 = .ok (.aload_n 0, 1) := by decide +kernel
theorem dX6_init_37 : decode cX6_init 37 = .ok (.iconst 4, 1) := by decide +kernel
theorem dX6_init_38 : decode cX6_init 38 = .ok (.newarray .int, 2) := by decide +kernel
theorem dX6_init_40 : decode cX6_init 40 = .ok (.putfield 24, 3) := by decide +kernel
theorem dX6_init_43 : decode cX6_init 43 = .ok (.aload_n 0, 1) := by decide +kernel
theorem dX6_init_44 : decode cX6_init 44 = .ok (.iconst 4, 1) := by decide +kernel
theorem dX6_init_45 : decode cX6_init 45 = .ok (.newarray .int, 2) := by decide +kernel
theorem dX6_init_47 : decode cX6_init 47 = .ok (.putfield 27, 3) := by decide +kernel
theorem dX6_init_50 : decode cX6_init 50 = .ok (.aload_n 0, 1) := by decide +kernel
theorem dX6_init_51 : decode cX6_init 51 = .ok (.sipush 144, 3) := by decide +kernel
theorem dX6_init_54 : decode cX6_init 54 = .ok (.newarray .int, 2) := by decide +kernel
theorem dX6_init_56 : decode cX6_init 56 = .ok (.putfield 30, 3) := by decide +kernel
theorem dX6_init_59 : decode cX6_init 59 = .ok (.aload_n 0, 1) := by decide +kernel
theorem dX6_init_60 : decode cX6_init 60 = .ok (.iconst 4, 1) := by decide +kernel
theorem dX6_init_61 : decode cX6_init 61 = .ok (.newarray .int, 2) := by decide +kernel
theorem dX6_init_63 : decode cX6_init 63 = .ok (.putfield 33, 3) := by decide +kernel
theorem dX6_init_66 : decode cX6_init 66 = .ok (.aload_n 0, 1) := by decide +kernel
theorem dX6_init_67 : decode cX6_init 67 = .ok (.new 36, 3) := by decide +kernel
theorem dX6_init_70 : decode cX6_init 70 = .ok (.dup, 1) := by decide +kernel
theorem dX6_init_71 : decode cX6_init 71 = .ok (.invokespecial 38, 3) := by decide +kernel
theorem dX6_init_74 : decode cX6_init 74 = .ok (.putfield 39, 3) := by decide +kernel
theorem dX6_init_77 : decode cX6_init 77 = .ok (.aload_n 0, 1) := by decide +kernel
theorem dX6_init_78 : decode cX6_init 78 = .ok (.new 43, 3) := by decide +kernel
theorem dX6_init_81 : decode cX6_init 81 = .ok (.dup, 1) := by decide +kernel
theorem dX6_init_82 : decode cX6_init 82 = .ok (.invokespecial 45, 3) := by decide +kernel
theorem dX6_init_85 : decode cX6_init 85 = .ok (.putfield 46, 3) := by decide +kernel
theorem dX6_init_88 : decode cX6_init 88 = .ok (.aload_n 0, 1) := by decide +kernel
theorem dX6_init_89 : decode cX6_init 89 = .ok (.new 50, 3) := by decide +kernel
theorem dX6_init_92 : decode cX6_init 92 = .ok (.dup, 1) := by decide +kernel
theorem dX6_init_93 : decode cX6_init 93 = .ok (.invokespecial 52, 3) := by decide +kernel
theorem dX6_init_96 : decode cX6_init 96 = .ok (.putfield 53, 3) := by decide +kernel
theorem dX6_init_99 : decode cX6_init 99 = .ok (.return_, 1) := by decide +kernel
def rX6_init (R : goMR) (n a : Nat) : goMR := (goWR (rX2_init (goWR (rX7_init (goWR (rX5_init (goWR (goWR (goWR (goWR (goWR (goWR (goWR (goWR R a 7 (some n)) a 8 (some (n + 1))) a 9 (some (n + 2))) a 10 (some (n + 3))) a 11 (some (n + 4))) a 12 (some (n + 5))) a 13 (some (n + 6))) a 14 (some (n + 7))) (n + 9) (n + 8)) a 15 (some (n + 8))) (n + 21) (n + 20)) a 16 (some (n + 20))) (n + 25) (n + 24)) a 17 (some (n + 24)))
theorem rX6_init_Z {m n a : Nat} {M : goMI} {L : goML} {R : goMR} (h : a < m ∧ n + 29 ≤ m) (hz : goZe m M L R) : goZe m M L (rX6_init R n a) := by
  unfold rX6_init
  exact (goZe.wR (rX2_init_Z (by omega) (goZe.wR (rX7_init_Z (by omega) (goZe.wR (rX5_init_Z (by omega) (goZe.wR (goZe.wR (goZe.wR (goZe.wR (goZe.wR (goZe.wR (goZe.wR (goZe.wR hz (by omega)) (by omega)) (by omega)) (by omega)) (by omega)) (by omega)) (by omega)) (by omega))) (by omega))) (by omega))) (by omega))
theorem rX6_init_lt {n a b : Nat} {R : goMR} (h : b < a ∧ b < n) : rX6_init R n a b = R b := by
  unfold rX6_init
  rw [goWR_ne (by omega), rX2_init_lt (by omega), goWR_ne (by omega), rX7_init_lt (by omega), goWR_ne (by omega), rX5_init_lt (by omega), goWR_ne (by omega), goWR_ne (by omega), goWR_ne (by omega), goWR_ne (by omega), goWR_ne (by omega), goWR_ne (by omega), goWR_ne (by omega), goWR_ne (by omega)]
set_option maxRecDepth 100000 in
set_option maxHeartbeats 4000000 in
theorem mX6_init {E : goEv} {l : Launch} {G : goG} {M : goMI} {L : goML} {R : goMR} {a : Nat} (hk : goKn E) (hs : a < G.2 ∧ G.1 a = (0, 5)) (hz : goZe G.2 M L R) (hle : G.2 + 29 ≤ 1000000) : Met l yX6_init (goCd yX6_init cX6_init 1 none) (goRoom 2 60 29 489) (goPre E [.ref a] G M L R) (goQv E (goGb G [(1, 8), (1, 8), (1, 14), (1, 14), (1, 4), (1, 4), (1, 144), (1, 4), (0, 4), (1, 6), (1, 6), (1, 6), (1, 6), (1, 6), (1, 24), (1, 6), (1, 10), (1, 10), (1, 10), (1, 10), (0, 6), (1, 8), (1, 8), (1, 8), (0, 1), (1, 6), (1, 6), (4, 64), (1, 64)]) M L (rX6_init R G.2 a)) 29 489 (goSet E) := by
  have ha := hs.1
  refine goMet pl_RX6 hk (lv := [some (.ref a)]) rfl (Nat.le_of_ble_eq_true rfl) ?_
  intro X hc hl hR hr hnm
  subst hl
  refine go_gnil ?_
  refine go_aload0 hc dX6_init_0 ?_
  refine go_objInit hc dX6_init_1 wml_RX6_3 hR rfl rfl (Nat.le_of_ble_eq_true rfl) ?_
  refine go_aload0 hc dX6_init_4 ?_
  refine go_bipush (v := 8) hc dX6_init_5 rfl ?_
  refine go_newa1 hc (j := 0) (N := 8) rfl dX6_init_7 rfl (by decide) (Nat.le_of_ble_eq_true rfl) (hz.mono (by omega)) (by omega) hR rfl ?_
  refine go_putFR hc (.array .int) lkf_RX6_9 hnm (by decide +kernel) (fun _ => ⟨rfl, rfl⟩) dX6_init_9 (goGb_lt hs) ?_
  refine go_aload0 hc dX6_init_12 ?_
  refine go_bipush (v := 8) hc dX6_init_13 rfl ?_
  refine go_newa1 hc (j := 1) (N := 8) rfl dX6_init_15 rfl (by decide) (Nat.le_of_ble_eq_true rfl) ((hz.mono (by omega)).wR (by omega)) (by omega) hR rfl ?_
  refine go_putFR hc (.array .int) lkf_RX6_15 hnm (by decide +kernel) (fun _ => ⟨rfl, rfl⟩) dX6_init_17 (goGb_lt hs) ?_
  refine go_aload0 hc dX6_init_20 ?_
  refine go_bipush (v := 14) hc dX6_init_21 rfl ?_
  refine go_newa1 hc (j := 2) (N := 14) rfl dX6_init_23 rfl (by decide) (Nat.le_of_ble_eq_true rfl) (((hz.mono (by omega)).wR (by omega)).wR (by omega)) (by omega) hR rfl ?_
  refine go_putFR hc (.array .int) lkf_RX6_18 hnm (by decide +kernel) (fun _ => ⟨rfl, rfl⟩) dX6_init_25 (goGb_lt hs) ?_
  refine go_aload0 hc dX6_init_28 ?_
  refine go_bipush (v := 14) hc dX6_init_29 rfl ?_
  refine go_newa1 hc (j := 3) (N := 14) rfl dX6_init_31 rfl (by decide) (Nat.le_of_ble_eq_true rfl) ((((hz.mono (by omega)).wR (by omega)).wR (by omega)).wR (by omega)) (by omega) hR rfl ?_
  refine go_putFR hc (.array .int) lkf_RX6_21 hnm (by decide +kernel) (fun _ => ⟨rfl, rfl⟩) dX6_init_33 (goGb_lt hs) ?_
  refine go_aload0 hc dX6_init_36 ?_
  refine go_iconst (v := 4) hc dX6_init_37 rfl ?_
  refine go_newa1 hc (j := 4) (N := 4) rfl dX6_init_38 rfl (by decide) (Nat.le_of_ble_eq_true rfl) (((((hz.mono (by omega)).wR (by omega)).wR (by omega)).wR (by omega)).wR (by omega)) (by omega) hR rfl ?_
  refine go_putFR hc (.array .int) lkf_RX6_24 hnm (by decide +kernel) (fun _ => ⟨rfl, rfl⟩) dX6_init_40 (goGb_lt hs) ?_
  refine go_aload0 hc dX6_init_43 ?_
  refine go_iconst (v := 4) hc dX6_init_44 rfl ?_
  refine go_newa1 hc (j := 5) (N := 4) rfl dX6_init_45 rfl (by decide) (Nat.le_of_ble_eq_true rfl) ((((((hz.mono (by omega)).wR (by omega)).wR (by omega)).wR (by omega)).wR (by omega)).wR (by omega)) (by omega) hR rfl ?_
  refine go_putFR hc (.array .int) lkf_RX6_27 hnm (by decide +kernel) (fun _ => ⟨rfl, rfl⟩) dX6_init_47 (goGb_lt hs) ?_
  refine go_aload0 hc dX6_init_50 ?_
  refine go_sipush (v := 144) hc dX6_init_51 rfl ?_
  refine go_newa1 hc (j := 6) (N := 144) rfl dX6_init_54 rfl (by decide) (Nat.le_of_ble_eq_true rfl) (((((((hz.mono (by omega)).wR (by omega)).wR (by omega)).wR (by omega)).wR (by omega)).wR (by omega)).wR (by omega)) (by omega) hR rfl ?_
  refine go_putFR hc (.array .int) lkf_RX6_30 hnm (by decide +kernel) (fun _ => ⟨rfl, rfl⟩) dX6_init_56 (goGb_lt hs) ?_
  refine go_aload0 hc dX6_init_59 ?_
  refine go_iconst (v := 4) hc dX6_init_60 rfl ?_
  refine go_newa1 hc (j := 7) (N := 4) rfl dX6_init_61 rfl (by decide) (Nat.le_of_ble_eq_true rfl) ((((((((hz.mono (by omega)).wR (by omega)).wR (by omega)).wR (by omega)).wR (by omega)).wR (by omega)).wR (by omega)).wR (by omega)) (by omega) hR rfl ?_
  refine go_putFR hc (.array .int) lkf_RX6_33 hnm (by decide +kernel) (fun _ => ⟨rfl, rfl⟩) dX6_init_63 (goGb_lt hs) ?_
  refine go_aload0 hc dX6_init_66 ?_
  refine go_new hc (j := 8) rfl dX6_init_67 wcl_RX6_36 wia_RX5 win_RX5 cl_4 df_4 (((((((((hz.mono (by omega)).wR (by omega)).wR (by omega)).wR (by omega)).wR (by omega)).wR (by omega)).wR (by omega)).wR (by omega)).wR (by omega)) (by omega) hR rfl ?_
  refine go_dupr hc dX6_init_70 ?_
  refine go_callIv hc dX6_init_71 (mX5_init hk (goGb_at 8 (Nat.le_of_ble_eq_true rfl) rfl) (show goZe (G.2 + 9) _ _ _ from (((((((((hz.mono (by omega)).wR (by omega)).wR (by omega)).wR (by omega)).wR (by omega)).wR (by omega)).wR (by omega)).wR (by omega)).wR (by omega))) (show G.2 + 9 + 11 ≤ 1000000 by omega)) ml_RX6_38 yk_X5_init wim_X5_init rfl hR rfl rfl rfl (Nat.le_of_ble_eq_true rfl) rfl ?_
  refine go_gapp ?_
  refine go_putFR hc (.object "GoatCourt$Herd") lkf_RX6_39 hnm (by decide +kernel) (fun _ => ⟨rfl, rfl⟩) dX6_init_74 (goGb_lt hs) ?_
  refine go_aload0 hc dX6_init_77 ?_
  refine go_new hc (j := 20) rfl dX6_init_78 wcl_RX6_43 wia_RX7 win_RX7 cl_6 df_6 ((rX5_init_Z (n := (G.2 + 9)) (by omega) (((((((((hz.mono (by omega)).wR (by omega)).wR (by omega)).wR (by omega)).wR (by omega)).wR (by omega)).wR (by omega)).wR (by omega)).wR (by omega))).wR (by omega)) (by omega) hR rfl ?_
  refine go_dupr hc dX6_init_81 ?_
  refine go_callIv hc dX6_init_82 (mX7_init hk (goGb_at 20 (Nat.le_of_ble_eq_true rfl) rfl) (show goZe (G.2 + 21) _ _ _ from ((rX5_init_Z (n := (G.2 + 9)) (by omega) (((((((((hz.mono (by omega)).wR (by omega)).wR (by omega)).wR (by omega)).wR (by omega)).wR (by omega)).wR (by omega)).wR (by omega)).wR (by omega))).wR (by omega))) (show G.2 + 21 + 3 ≤ 1000000 by omega)) ml_RX6_45 yk_X7_init wim_X7_init rfl hR rfl rfl rfl (Nat.le_of_ble_eq_true rfl) rfl ?_
  refine go_gapp ?_
  refine go_putFR hc (.object "GoatCourt$Law") lkf_RX6_46 hnm (by decide +kernel) (fun _ => ⟨rfl, rfl⟩) dX6_init_85 (goGb_lt hs) ?_
  refine go_aload0 hc dX6_init_88 ?_
  refine go_new hc (j := 24) rfl dX6_init_89 wcl_RX6_50 wia_RX2 win_RX2 cl_1 df_1 ((rX7_init_Z (n := (G.2 + 21)) (by omega) ((rX5_init_Z (n := (G.2 + 9)) (by omega) (((((((((hz.mono (by omega)).wR (by omega)).wR (by omega)).wR (by omega)).wR (by omega)).wR (by omega)).wR (by omega)).wR (by omega)).wR (by omega))).wR (by omega))).wR (by omega)) (by omega) hR rfl ?_
  refine go_dupr hc dX6_init_92 ?_
  refine go_callIv hc dX6_init_93 (mX2_init hk (goGb_at 24 (Nat.le_of_ble_eq_true rfl) rfl) (show goZe (G.2 + 25) _ _ _ from ((rX7_init_Z (n := (G.2 + 21)) (by omega) ((rX5_init_Z (n := (G.2 + 9)) (by omega) (((((((((hz.mono (by omega)).wR (by omega)).wR (by omega)).wR (by omega)).wR (by omega)).wR (by omega)).wR (by omega)).wR (by omega)).wR (by omega))).wR (by omega))).wR (by omega))) (show G.2 + 25 + 4 ≤ 1000000 by omega)) ml_RX6_52 yk_X2_init wim_X2_init rfl hR rfl rfl rfl (Nat.le_of_ble_eq_true rfl) rfl ?_
  refine go_gapp ?_
  refine go_putFR hc (.object "GoatCourt$Courts") lkf_RX6_53 hnm (by decide +kernel) (fun _ => ⟨rfl, rfl⟩) dX6_init_96 (goGb_lt hs) ?_
  exact go_vret hc dX6_init_99 hr
theorem dX11_init_0 : decode cX11_init 0 = .ok (.aload_n 0, 1) := by decide +kernel
theorem dX11_init_1 : decode cX11_init 1 = .ok (.invokespecial 3, 3) := by decide +kernel
theorem dX11_init_4 : decode cX11_init 4 = .ok (.aload_n 0, 1) := by decide +kernel
theorem dX11_init_5 : decode cX11_init 5 = .ok (.sipush 1200, 3) := by decide +kernel
theorem dX11_init_8 : decode cX11_init 8 = .ok (.newarray .byte, 2) := by decide +kernel
theorem dX11_init_10 : decode cX11_init 10 = .ok (.putfield 9, 3) := by decide +kernel
theorem dX11_init_13 : decode cX11_init 13 = .ok (.return_, 1) := by decide +kernel
def rX11_init (R : goMR) (n a : Nat) : goMR := (goWR R a 0 (some n))
theorem rX11_init_Z {m n a : Nat} {M : goMI} {L : goML} {R : goMR} (h : a < m ∧ n + 1 ≤ m) (hz : goZe m M L R) : goZe m M L (rX11_init R n a) := by
  unfold rX11_init
  exact (goZe.wR hz (by omega))
theorem rX11_init_lt {n a b : Nat} {R : goMR} (h : b < a ∧ b < n) : rX11_init R n a b = R b := by
  unfold rX11_init
  rw [goWR_ne (by omega)]
set_option maxRecDepth 100000 in
set_option maxHeartbeats 4000000 in
theorem mX11_init {E : goEv} {l : Launch} {G : goG} {M : goMI} {L : goML} {R : goMR} {a : Nat} (hk : goKn E) (hs : a < G.2 ∧ G.1 a = (0, 9)) (hz : goZe G.2 M L R) (hle : G.2 + 1 ≤ 1000000) : Met l yX11_init (goCd yX11_init cX11_init 1 none) (goRoom 1 40 1 1200) (goPre E [.ref a] G M L R) (goQv E (goGb G [(2, 1200)]) M L (rX11_init R G.2 a)) 1 1200 (goSet E) := by
  have ha := hs.1
  refine goMet pl_RX11 hk (lv := [some (.ref a)]) rfl (Nat.le_of_ble_eq_true rfl) ?_
  intro X hc hl hR hr hnm
  subst hl
  refine go_gnil ?_
  refine go_aload0 hc dX11_init_0 ?_
  refine go_objInit hc dX11_init_1 wml_RX11_3 hR rfl rfl (Nat.le_of_ble_eq_true rfl) ?_
  refine go_aload0 hc dX11_init_4 ?_
  refine go_sipush (v := 1200) hc dX11_init_5 rfl ?_
  refine go_newa2 hc (j := 0) (N := 1200) rfl dX11_init_8 rfl (by decide) (Nat.le_of_ble_eq_true rfl) (hz.mono (by omega)) (by omega) hR rfl ?_
  refine go_putFR hc (.array .byte) lkf_RX11_9 hnm (by decide +kernel) (fun _ => ⟨rfl, rfl⟩) dX11_init_10 (goGb_lt hs) ?_
  exact go_vret hc dX11_init_13 hr
theorem dX3_init_0 : decode cX3_init 0 = .ok (.aload_n 0, 1) := by decide +kernel
theorem dX3_init_1 : decode cX3_init 1 = .ok (.invokespecial 3, 3) := by decide +kernel
theorem dX3_init_4 : decode cX3_init 4 = .ok (.aload_n 0, 1) := by decide +kernel
theorem dX3_init_5 : decode cX3_init 5 = .ok (.bipush 14, 2) := by decide +kernel
theorem dX3_init_7 : decode cX3_init 7 = .ok (.newarray .int, 2) := by decide +kernel
theorem dX3_init_9 : decode cX3_init 9 = .ok (.putfield 11, 3) := by decide +kernel
theorem dX3_init_12 : decode cX3_init 12 = .ok (.aload_n 0, 1) := by decide +kernel
theorem dX3_init_13 : decode cX3_init 13 = .ok (.bipush 24, 2) := by decide +kernel
theorem dX3_init_15 : decode cX3_init 15 = .ok (.newarray .int, 2) := by decide +kernel
theorem dX3_init_17 : decode cX3_init 17 = .ok (.putfield 15, 3) := by decide +kernel
theorem dX3_init_20 : decode cX3_init 20 = .ok (.aload_n 0, 1) := by decide +kernel
theorem dX3_init_21 : decode cX3_init 21 = .ok (.bipush 8, 2) := by decide +kernel
theorem dX3_init_23 : decode cX3_init 23 = .ok (.newarray .int, 2) := by decide +kernel
theorem dX3_init_25 : decode cX3_init 25 = .ok (.putfield 18, 3) := by decide +kernel
theorem dX3_init_28 : decode cX3_init 28 = .ok (.aload_n 0, 1) := by decide +kernel
theorem dX3_init_29 : decode cX3_init 29 = .ok (.bipush 72, 2) := by decide +kernel
theorem dX3_init_31 : decode cX3_init 31 = .ok (.newarray .int, 2) := by decide +kernel
theorem dX3_init_33 : decode cX3_init 33 = .ok (.putfield 21, 3) := by decide +kernel
theorem dX3_init_36 : decode cX3_init 36 = .ok (.aload_n 0, 1) := by decide +kernel
theorem dX3_init_37 : decode cX3_init 37 = .ok (.bipush 72, 2) := by decide +kernel
theorem dX3_init_39 : decode cX3_init 39 = .ok (.newarray .int, 2) := by decide +kernel
theorem dX3_init_41 : decode cX3_init 41 = .ok (.putfield 24, 3) := by decide +kernel
theorem dX3_init_44 : decode cX3_init 44 = .ok (.aload_n 0, 1) := by decide +kernel
theorem dX3_init_45 : decode cX3_init 45 = .ok (.bipush 72, 2) := by decide +kernel
theorem dX3_init_47 : decode cX3_init 47 = .ok (.newarray .int, 2) := by decide +kernel
theorem dX3_init_49 : decode cX3_init 49 = .ok (.putfield 27, 3) := by decide +kernel
theorem dX3_init_52 : decode cX3_init 52 = .ok (.aload_n 0, 1) := by decide +kernel
theorem dX3_init_53 : decode cX3_init 53 = .ok (.bipush 24, 2) := by decide +kernel
theorem dX3_init_55 : decode cX3_init 55 = .ok (.newarray .int, 2) := by decide +kernel
theorem dX3_init_57 : decode cX3_init 57 = .ok (.putfield 30, 3) := by decide +kernel
theorem dX3_init_60 : decode cX3_init 60 = .ok (.aload_n 0, 1) := by decide +kernel
theorem dX3_init_61 : decode cX3_init 61 = .ok (.sipush 192, 3) := by decide +kernel
theorem dX3_init_64 : decode cX3_init 64 = .ok (.newarray .int, 2) := by decide +kernel
theorem dX3_init_66 : decode cX3_init 66 = .ok (.putfield 33, 3) := by decide +kernel
theorem dX3_init_69 : decode cX3_init 69 = .ok (.aload_n 0, 1) := by decide +kernel
theorem dX3_init_70 : decode cX3_init 70 = .ok (.bipush 6, 2) := by decide +kernel
theorem dX3_init_72 : decode cX3_init 72 = .ok (.newarray .int, 2) := by decide +kernel
theorem dX3_init_74 : decode cX3_init 74 = .ok (.putfield 36, 3) := by decide +kernel
theorem dX3_init_77 : decode cX3_init 77 = .ok (.aload_n 0, 1) := by decide +kernel
theorem dX3_init_78 : decode cX3_init 78 = .ok (.aload_n 1, 1) := by decide +kernel
theorem dX3_init_79 : decode cX3_init 79 = .ok (.putfield 39, 3) := by decide +kernel
theorem dX3_init_82 : decode cX3_init 82 = .ok (.aload_n 0, 1) := by decide +kernel
theorem dX3_init_83 : decode cX3_init 83 = .ok (.aload_n 2, 1) := by decide +kernel
theorem dX3_init_84 : decode cX3_init 84 = .ok (.putfield 43, 3) := by decide +kernel
theorem dX3_init_87 : decode cX3_init 87 = .ok (.return_, 1) := by decide +kernel
def rX3_init (R : goMR) (n a : Nat) (b1 : Nat) (b2 : Nat) : goMR := (goWR (goWR (goWR (goWR (goWR (goWR (goWR (goWR (goWR (goWR (goWR R a 2 (some n)) a 3 (some (n + 1))) a 4 (some (n + 2))) a 5 (some (n + 3))) a 6 (some (n + 4))) a 7 (some (n + 5))) a 8 (some (n + 6))) a 9 (some (n + 7))) a 10 (some (n + 8))) a 0 (some b1)) a 1 (some b2))
theorem rX3_init_Z {m n a : Nat} {b1 : Nat} {b2 : Nat} {M : goMI} {L : goML} {R : goMR} (h : a < m ∧ n + 9 ≤ m) (hz : goZe m M L R) : goZe m M L (rX3_init R n a b1 b2) := by
  unfold rX3_init
  exact (goZe.wR (goZe.wR (goZe.wR (goZe.wR (goZe.wR (goZe.wR (goZe.wR (goZe.wR (goZe.wR (goZe.wR (goZe.wR hz (by omega)) (by omega)) (by omega)) (by omega)) (by omega)) (by omega)) (by omega)) (by omega)) (by omega)) (by omega)) (by omega))
theorem rX3_init_lt {n a b : Nat} {b1 : Nat} {b2 : Nat} {R : goMR} (h : b < a ∧ b < n) : rX3_init R n a b1 b2 b = R b := by
  unfold rX3_init
  rw [goWR_ne (by omega), goWR_ne (by omega), goWR_ne (by omega), goWR_ne (by omega), goWR_ne (by omega), goWR_ne (by omega), goWR_ne (by omega), goWR_ne (by omega), goWR_ne (by omega), goWR_ne (by omega), goWR_ne (by omega)]
set_option maxRecDepth 100000 in
set_option maxHeartbeats 4000000 in
theorem mX3_init {E : goEv} {l : Launch} {G : goG} {M : goMI} {L : goML} {R : goMR} {a b1 b2 : Nat} (hk : goKn E) (hs : a < G.2 ∧ G.1 a = (0, 2)) (hz : goZe G.2 M L R) (hle : G.2 + 9 ≤ 1000000) : Met l yX3_init (goCd yX3_init cX3_init 3 none) (goRoom 1 40 9 484) (goPre E [.ref a, .ref b1, .ref b2] G M L R) (goQv E (goGb G [(1, 14), (1, 24), (1, 8), (1, 72), (1, 72), (1, 72), (1, 24), (1, 192), (1, 6)]) M L (rX3_init R G.2 a b1 b2)) 9 484 (goSet E) := by
  have ha := hs.1
  refine goMet pl_RX3 hk (lv := [some (.ref a), some (.ref b1), some (.ref b2)]) rfl (Nat.le_of_ble_eq_true rfl) ?_
  intro X hc hl hR hr hnm
  subst hl
  refine go_gnil ?_
  refine go_aload0 hc dX3_init_0 ?_
  refine go_objInit hc dX3_init_1 wml_RX3_3 hR rfl rfl (Nat.le_of_ble_eq_true rfl) ?_
  refine go_aload0 hc dX3_init_4 ?_
  refine go_bipush (v := 14) hc dX3_init_5 rfl ?_
  refine go_newa1 hc (j := 0) (N := 14) rfl dX3_init_7 rfl (by decide) (Nat.le_of_ble_eq_true rfl) (hz.mono (by omega)) (by omega) hR rfl ?_
  refine go_putFR hc (.array .int) lkf_RX3_11 hnm (by decide +kernel) (fun _ => ⟨rfl, rfl⟩) dX3_init_9 (goGb_lt hs) ?_
  refine go_aload0 hc dX3_init_12 ?_
  refine go_bipush (v := 24) hc dX3_init_13 rfl ?_
  refine go_newa1 hc (j := 1) (N := 24) rfl dX3_init_15 rfl (by decide) (Nat.le_of_ble_eq_true rfl) ((hz.mono (by omega)).wR (by omega)) (by omega) hR rfl ?_
  refine go_putFR hc (.array .int) lkf_RX3_15 hnm (by decide +kernel) (fun _ => ⟨rfl, rfl⟩) dX3_init_17 (goGb_lt hs) ?_
  refine go_aload0 hc dX3_init_20 ?_
  refine go_bipush (v := 8) hc dX3_init_21 rfl ?_
  refine go_newa1 hc (j := 2) (N := 8) rfl dX3_init_23 rfl (by decide) (Nat.le_of_ble_eq_true rfl) (((hz.mono (by omega)).wR (by omega)).wR (by omega)) (by omega) hR rfl ?_
  refine go_putFR hc (.array .int) lkf_RX3_18 hnm (by decide +kernel) (fun _ => ⟨rfl, rfl⟩) dX3_init_25 (goGb_lt hs) ?_
  refine go_aload0 hc dX3_init_28 ?_
  refine go_bipush (v := 72) hc dX3_init_29 rfl ?_
  refine go_newa1 hc (j := 3) (N := 72) rfl dX3_init_31 rfl (by decide) (Nat.le_of_ble_eq_true rfl) ((((hz.mono (by omega)).wR (by omega)).wR (by omega)).wR (by omega)) (by omega) hR rfl ?_
  refine go_putFR hc (.array .int) lkf_RX3_21 hnm (by decide +kernel) (fun _ => ⟨rfl, rfl⟩) dX3_init_33 (goGb_lt hs) ?_
  refine go_aload0 hc dX3_init_36 ?_
  refine go_bipush (v := 72) hc dX3_init_37 rfl ?_
  refine go_newa1 hc (j := 4) (N := 72) rfl dX3_init_39 rfl (by decide) (Nat.le_of_ble_eq_true rfl) (((((hz.mono (by omega)).wR (by omega)).wR (by omega)).wR (by omega)).wR (by omega)) (by omega) hR rfl ?_
  refine go_putFR hc (.array .int) lkf_RX3_24 hnm (by decide +kernel) (fun _ => ⟨rfl, rfl⟩) dX3_init_41 (goGb_lt hs) ?_
  refine go_aload0 hc dX3_init_44 ?_
  refine go_bipush (v := 72) hc dX3_init_45 rfl ?_
  refine go_newa1 hc (j := 5) (N := 72) rfl dX3_init_47 rfl (by decide) (Nat.le_of_ble_eq_true rfl) ((((((hz.mono (by omega)).wR (by omega)).wR (by omega)).wR (by omega)).wR (by omega)).wR (by omega)) (by omega) hR rfl ?_
  refine go_putFR hc (.array .int) lkf_RX3_27 hnm (by decide +kernel) (fun _ => ⟨rfl, rfl⟩) dX3_init_49 (goGb_lt hs) ?_
  refine go_aload0 hc dX3_init_52 ?_
  refine go_bipush (v := 24) hc dX3_init_53 rfl ?_
  refine go_newa1 hc (j := 6) (N := 24) rfl dX3_init_55 rfl (by decide) (Nat.le_of_ble_eq_true rfl) (((((((hz.mono (by omega)).wR (by omega)).wR (by omega)).wR (by omega)).wR (by omega)).wR (by omega)).wR (by omega)) (by omega) hR rfl ?_
  refine go_putFR hc (.array .int) lkf_RX3_30 hnm (by decide +kernel) (fun _ => ⟨rfl, rfl⟩) dX3_init_57 (goGb_lt hs) ?_
  refine go_aload0 hc dX3_init_60 ?_
  refine go_sipush (v := 192) hc dX3_init_61 rfl ?_
  refine go_newa1 hc (j := 7) (N := 192) rfl dX3_init_64 rfl (by decide) (Nat.le_of_ble_eq_true rfl) ((((((((hz.mono (by omega)).wR (by omega)).wR (by omega)).wR (by omega)).wR (by omega)).wR (by omega)).wR (by omega)).wR (by omega)) (by omega) hR rfl ?_
  refine go_putFR hc (.array .int) lkf_RX3_33 hnm (by decide +kernel) (fun _ => ⟨rfl, rfl⟩) dX3_init_66 (goGb_lt hs) ?_
  refine go_aload0 hc dX3_init_69 ?_
  refine go_bipush (v := 6) hc dX3_init_70 rfl ?_
  refine go_newa1 hc (j := 8) (N := 6) rfl dX3_init_72 rfl (by decide) (Nat.le_of_ble_eq_true rfl) (((((((((hz.mono (by omega)).wR (by omega)).wR (by omega)).wR (by omega)).wR (by omega)).wR (by omega)).wR (by omega)).wR (by omega)).wR (by omega)) (by omega) hR rfl ?_
  refine go_putFR hc (.array .int) lkf_RX3_36 hnm (by decide +kernel) (fun _ => ⟨rfl, rfl⟩) dX3_init_74 (goGb_lt hs) ?_
  refine go_aload0 hc dX3_init_77 ?_
  refine go_aload1 hc dX3_init_78 ?_
  refine go_putFR hc (.object "GoatCourt$Acts") lkf_RX3_39 hnm (by decide +kernel) (fun _ => ⟨rfl, rfl⟩) dX3_init_79 (goGb_lt hs) ?_
  refine go_aload0 hc dX3_init_82 ?_
  refine go_aload2 hc dX3_init_83 ?_
  refine go_putR hc (.object "GoatCourt$Hill") lk_RX3_43 (by decide +kernel) (fun _ => ⟨rfl, rfl⟩) dX3_init_84 (goGb_lt hs) ?_
  exact go_vret hc dX3_init_87 hr
theorem dX4_init_0 : decode cX4_init 0 = .ok (.aload_n 0, 1) := by decide +kernel
theorem dX4_init_1 : decode cX4_init 1 = .ok (.invokespecial 3, 3) := by decide +kernel
theorem dX4_init_4 : decode cX4_init 4 = .ok (.aload_n 0, 1) := by decide +kernel
theorem dX4_init_5 : decode cX4_init 5 = .ok (.bipush 81, 2) := by decide +kernel
theorem dX4_init_7 : decode cX4_init 7 = .ok (.newarray .int, 2) := by decide +kernel
theorem dX4_init_9 : decode cX4_init 9 = .ok (.putfield 9, 3) := by decide +kernel
theorem dX4_init_12 : decode cX4_init 12 = .ok (.aload_n 0, 1) := by decide +kernel
theorem dX4_init_13 : decode cX4_init 13 = .ok (.sipush 5832, 3) := by decide +kernel
theorem dX4_init_16 : decode cX4_init 16 = .ok (.newarray .byte, 2) := by decide +kernel
theorem dX4_init_18 : decode cX4_init 18 = .ok (.putfield 15, 3) := by decide +kernel
theorem dX4_init_21 : decode cX4_init 21 = .ok (.aload_n 0, 1) := by decide +kernel
theorem dX4_init_22 : decode cX4_init 22 = .ok (.bipush 8, 2) := by decide +kernel
theorem dX4_init_24 : decode cX4_init 24 = .ok (.newarray .int, 2) := by decide +kernel
theorem dX4_init_26 : decode cX4_init 26 = .ok (.putfield 19, 3) := by decide +kernel
theorem dX4_init_29 : decode cX4_init 29 = .ok (.aload_n 0, 1) := by decide +kernel
theorem dX4_init_30 : decode cX4_init 30 = .ok (.aload_n 1, 1) := by decide +kernel
theorem dX4_init_31 : decode cX4_init 31 = .ok (.putfield 22, 3) := by decide +kernel
theorem dX4_init_34 : decode cX4_init 34 = .ok (.aload_n 0, 1) := by decide +kernel
theorem dX4_init_35 : decode cX4_init 35 = .ok (.aload_n 2, 1) := by decide +kernel
theorem dX4_init_36 : decode cX4_init 36 = .ok (.putfield 26, 3) := by decide +kernel
theorem dX4_init_39 : decode cX4_init 39 = .ok (.aload_n 0, 1) := by decide +kernel
theorem dX4_init_40 : decode cX4_init 40 = .ok (.new 30, 3) := by decide +kernel
theorem dX4_init_43 : decode cX4_init 43 = .ok (.dup, 1) := by decide +kernel
theorem dX4_init_44 : decode cX4_init 44 = .ok (.aload_n 1, 1) := by decide +kernel
theorem dX4_init_45 : decode cX4_init 45 = .ok (.aload_n 2, 1) := by decide +kernel
theorem dX4_init_46 : decode cX4_init 46 = .ok (.invokespecial 32, 3) := by decide +kernel
theorem dX4_init_49 : decode cX4_init 49 = .ok (.putfield 35, 3) := by decide +kernel
theorem dX4_init_52 : decode cX4_init 52 = .ok (.aload_n 0, 1) := by decide +kernel
theorem dX4_init_53 : decode cX4_init 53 = .ok (.iconst (-1), 1) := by decide +kernel
theorem dX4_init_54 : decode cX4_init 54 = .ok (.putfield 39, 3) := by decide +kernel
theorem dX4_init_57 : decode cX4_init 57 = .ok (.aload_n 0, 1) := by decide +kernel
theorem dX4_init_58 : decode cX4_init 58 = .ok (.iconst (-1), 1) := by decide +kernel
theorem dX4_init_59 : decode cX4_init 59 = .ok (.putfield 43, 3) := by decide +kernel
theorem dX4_init_62 : decode cX4_init 62 = .ok (.return_, 1) := by decide +kernel
def rX4_init (R : goMR) (n a : Nat) (b1 : Nat) (b2 : Nat) : goMR := (goWR (rX3_init (goWR (goWR (goWR (goWR (goWR R a 3 (some n)) a 4 (some (n + 1))) a 5 (some (n + 2))) a 0 (some b1)) a 2 (some b2)) (n + 4) (n + 3) b1 b2) a 1 (some (n + 3)))
theorem rX4_init_Z {m n a : Nat} {b1 : Nat} {b2 : Nat} {M : goMI} {L : goML} {R : goMR} (h : a < m ∧ n + 13 ≤ m) (hz : goZe m M L R) : goZe m M L (rX4_init R n a b1 b2) := by
  unfold rX4_init
  exact (goZe.wR (rX3_init_Z (by omega) (goZe.wR (goZe.wR (goZe.wR (goZe.wR (goZe.wR hz (by omega)) (by omega)) (by omega)) (by omega)) (by omega))) (by omega))
theorem rX4_init_lt {n a b : Nat} {b1 : Nat} {b2 : Nat} {R : goMR} (h : b < a ∧ b < n) : rX4_init R n a b1 b2 b = R b := by
  unfold rX4_init
  rw [goWR_ne (by omega), rX3_init_lt (by omega), goWR_ne (by omega), goWR_ne (by omega), goWR_ne (by omega), goWR_ne (by omega), goWR_ne (by omega)]
def MX4_init (M : goMI) (n a : Nat) : goMI := (goWI (goWI M a 6 (-1)) a 7 (-1))
theorem MX4_init_Z {m n a : Nat} {M : goMI} {L : goML} {R : goMR} (h : a < m ∧ n + 13 ≤ m) (hz : goZe m M L R) : goZe m (MX4_init M n a) L R := by
  unfold MX4_init
  exact (goZe.wI (goZe.wI hz (by omega)) (by omega))
set_option maxRecDepth 100000 in
set_option maxHeartbeats 4000000 in
theorem mX4_init {E : goEv} {l : Launch} {G : goG} {M : goMI} {L : goML} {R : goMR} {a b1 b2 : Nat} (hk : goKn E) (hs : a < G.2 ∧ G.1 a = (0, 3)) (hz : goZe G.2 M L R) (hle : G.2 + 13 ≤ 1000000) : Met l yX4_init (goCd yX4_init cX4_init 3 none) (goRoom 2 62 13 6416) (goPre E [.ref a, .ref b1, .ref b2] G M L R) (goQv E (goGb G [(1, 81), (2, 5832), (1, 8), (0, 2), (1, 14), (1, 24), (1, 8), (1, 72), (1, 72), (1, 72), (1, 24), (1, 192), (1, 6)]) (MX4_init M G.2 a) L (rX4_init R G.2 a b1 b2)) 13 6416 (goSet E) := by
  have ha := hs.1
  refine goMet pl_RX4 hk (lv := [some (.ref a), some (.ref b1), some (.ref b2)]) rfl (Nat.le_of_ble_eq_true rfl) ?_
  intro X hc hl hR hr hnm
  subst hl
  refine go_gnil ?_
  refine go_aload0 hc dX4_init_0 ?_
  refine go_objInit hc dX4_init_1 wml_RX4_3 hR rfl rfl (Nat.le_of_ble_eq_true rfl) ?_
  refine go_aload0 hc dX4_init_4 ?_
  refine go_bipush (v := 81) hc dX4_init_5 rfl ?_
  refine go_newa1 hc (j := 0) (N := 81) rfl dX4_init_7 rfl (by decide) (Nat.le_of_ble_eq_true rfl) (hz.mono (by omega)) (by omega) hR rfl ?_
  refine go_putFR hc (.array .int) lkf_RX4_9 hnm (by decide +kernel) (fun _ => ⟨rfl, rfl⟩) dX4_init_9 (goGb_lt hs) ?_
  refine go_aload0 hc dX4_init_12 ?_
  refine go_sipush (v := 5832) hc dX4_init_13 rfl ?_
  refine go_newa2 hc (j := 1) (N := 5832) rfl dX4_init_16 rfl (by decide) (Nat.le_of_ble_eq_true rfl) ((hz.mono (by omega)).wR (by omega)) (by omega) hR rfl ?_
  refine go_putFR hc (.array .byte) lkf_RX4_15 hnm (by decide +kernel) (fun _ => ⟨rfl, rfl⟩) dX4_init_18 (goGb_lt hs) ?_
  refine go_aload0 hc dX4_init_21 ?_
  refine go_bipush (v := 8) hc dX4_init_22 rfl ?_
  refine go_newa1 hc (j := 2) (N := 8) rfl dX4_init_24 rfl (by decide) (Nat.le_of_ble_eq_true rfl) (((hz.mono (by omega)).wR (by omega)).wR (by omega)) (by omega) hR rfl ?_
  refine go_putFR hc (.array .int) lkf_RX4_19 hnm (by decide +kernel) (fun _ => ⟨rfl, rfl⟩) dX4_init_26 (goGb_lt hs) ?_
  refine go_aload0 hc dX4_init_29 ?_
  refine go_aload1 hc dX4_init_30 ?_
  refine go_putFR hc (.object "GoatCourt$Acts") lkf_RX4_22 hnm (by decide +kernel) (fun _ => ⟨rfl, rfl⟩) dX4_init_31 (goGb_lt hs) ?_
  refine go_aload0 hc dX4_init_34 ?_
  refine go_aload2 hc dX4_init_35 ?_
  refine go_putR hc (.object "GoatCourt$Hill") lk_RX4_26 (by decide +kernel) (fun _ => ⟨rfl, rfl⟩) dX4_init_36 (goGb_lt hs) ?_
  refine go_aload0 hc dX4_init_39 ?_
  refine go_new hc (j := 3) rfl dX4_init_40 wcl_RX4_30 wia_RX3 win_RX3 cl_2 df_2 ((((((hz.mono (by omega)).wR (by omega)).wR (by omega)).wR (by omega)).wR (by omega)).wR (by omega)) (by omega) hR rfl ?_
  refine go_dupr hc dX4_init_43 ?_
  refine go_aload1 hc dX4_init_44 ?_
  refine go_aload2 hc dX4_init_45 ?_
  refine go_callIv hc dX4_init_46 (mX3_init hk (goGb_at 3 (Nat.le_of_ble_eq_true rfl) rfl) (show goZe (G.2 + 4) _ _ _ from ((((((hz.mono (by omega)).wR (by omega)).wR (by omega)).wR (by omega)).wR (by omega)).wR (by omega))) (show G.2 + 4 + 9 ≤ 1000000 by omega)) ml_RX4_32 yk_X3_init wim_X3_init rfl hR rfl rfl rfl (Nat.le_of_ble_eq_true rfl) rfl ?_
  refine go_gapp ?_
  refine go_putFR hc (.object "GoatCourt$Day") lkf_RX4_35 hnm (by decide +kernel) (fun _ => ⟨rfl, rfl⟩) dX4_init_49 (goGb_lt hs) ?_
  refine go_aload0 hc dX4_init_52 ?_
  refine go_iconst (v := (-1)) hc dX4_init_53 rfl ?_
  refine go_putI hc lk_RX4_39 dX4_init_54 (goGb_lt hs) ?_
  refine go_aload0 hc dX4_init_57 ?_
  refine go_iconst (v := (-1)) hc dX4_init_58 rfl ?_
  refine go_putI hc lk_RX4_43 dX4_init_59 (goGb_lt hs) ?_
  exact go_vret hc dX4_init_62 hr
theorem dX8_init_0 : decode cX8_init 0 = .ok (.aload_n 0, 1) := by decide +kernel
theorem dX8_init_1 : decode cX8_init 1 = .ok (.invokespecial 3, 3) := by decide +kernel
theorem dX8_init_4 : decode cX8_init 4 = .ok (.aload_n 0, 1) := by decide +kernel
theorem dX8_init_5 : decode cX8_init 5 = .ok (.sipush 182, 3) := by decide +kernel
theorem dX8_init_8 : decode cX8_init 8 = .ok (.newarray .int, 2) := by decide +kernel
theorem dX8_init_10 : decode cX8_init 10 = .ok (.putfield 11, 3) := by decide +kernel
theorem dX8_init_13 : decode cX8_init 13 = .ok (.aload_n 0, 1) := by decide +kernel
theorem dX8_init_14 : decode cX8_init 14 = .ok (.sipush 182, 3) := by decide +kernel
theorem dX8_init_17 : decode cX8_init 17 = .ok (.newarray .int, 2) := by decide +kernel
theorem dX8_init_19 : decode cX8_init 19 = .ok (.putfield 17, 3) := by decide +kernel
theorem dX8_init_22 : decode cX8_init 22 = .ok (.aload_n 0, 1) := by decide +kernel
theorem dX8_init_23 : decode cX8_init 23 = .ok (.bipush 96, 2) := by decide +kernel
theorem dX8_init_25 : decode cX8_init 25 = .ok (.newarray .boolean, 2) := by decide +kernel
theorem dX8_init_27 : decode cX8_init 27 = .ok (.putfield 20, 3) := by decide +kernel
theorem dX8_init_30 : decode cX8_init 30 = .ok (.aload_n 0, 1) := by decide +kernel
theorem dX8_init_31 : decode cX8_init 31 = .ok (.new 9, 3) := by decide +kernel
theorem dX8_init_34 : decode cX8_init 34 = .ok (.dup, 1) := by decide +kernel
theorem dX8_init_35 : decode cX8_init 35 = .ok (.aload_n 1, 1) := by decide +kernel
theorem dX8_init_36 : decode cX8_init 36 = .ok (.aload_n 2, 1) := by decide +kernel
theorem dX8_init_37 : decode cX8_init 37 = .ok (.invokespecial 24, 3) := by decide +kernel
theorem dX8_init_40 : decode cX8_init 40 = .ok (.putfield 27, 3) := by decide +kernel
theorem dX8_init_43 : decode cX8_init 43 = .ok (.return_, 1) := by decide +kernel
def rX8_init (R : goMR) (n a : Nat) (b1 : Nat) (b2 : Nat) : goMR := (goWR (rX3_init (goWR (goWR (goWR R a 1 (some n)) a 2 (some (n + 1))) a 3 (some (n + 2))) (n + 4) (n + 3) b1 b2) a 0 (some (n + 3)))
theorem rX8_init_Z {m n a : Nat} {b1 : Nat} {b2 : Nat} {M : goMI} {L : goML} {R : goMR} (h : a < m ∧ n + 13 ≤ m) (hz : goZe m M L R) : goZe m M L (rX8_init R n a b1 b2) := by
  unfold rX8_init
  exact (goZe.wR (rX3_init_Z (by omega) (goZe.wR (goZe.wR (goZe.wR hz (by omega)) (by omega)) (by omega))) (by omega))
theorem rX8_init_lt {n a b : Nat} {b1 : Nat} {b2 : Nat} {R : goMR} (h : b < a ∧ b < n) : rX8_init R n a b1 b2 b = R b := by
  unfold rX8_init
  rw [goWR_ne (by omega), rX3_init_lt (by omega), goWR_ne (by omega), goWR_ne (by omega), goWR_ne (by omega)]
set_option maxRecDepth 100000 in
set_option maxHeartbeats 4000000 in
theorem mX8_init {E : goEv} {l : Launch} {G : goG} {M : goMI} {L : goML} {R : goMR} {a b1 b2 : Nat} (hk : goKn E) (hs : a < G.2 ∧ G.1 a = (0, 7)) (hz : goZe G.2 M L R) (hle : G.2 + 13 ≤ 1000000) : Met l yX8_init (goCd yX8_init cX8_init 3 none) (goRoom 2 62 13 955) (goPre E [.ref a, .ref b1, .ref b2] G M L R) (goQv E (goGb G [(1, 182), (1, 182), (3, 96), (0, 2), (1, 14), (1, 24), (1, 8), (1, 72), (1, 72), (1, 72), (1, 24), (1, 192), (1, 6)]) M L (rX8_init R G.2 a b1 b2)) 13 955 (goSet E) := by
  have ha := hs.1
  refine goMet pl_RX8 hk (lv := [some (.ref a), some (.ref b1), some (.ref b2)]) rfl (Nat.le_of_ble_eq_true rfl) ?_
  intro X hc hl hR hr hnm
  subst hl
  refine go_gnil ?_
  refine go_aload0 hc dX8_init_0 ?_
  refine go_objInit hc dX8_init_1 wml_RX8_3 hR rfl rfl (Nat.le_of_ble_eq_true rfl) ?_
  refine go_aload0 hc dX8_init_4 ?_
  refine go_sipush (v := 182) hc dX8_init_5 rfl ?_
  refine go_newa1 hc (j := 0) (N := 182) rfl dX8_init_8 rfl (by decide) (Nat.le_of_ble_eq_true rfl) (hz.mono (by omega)) (by omega) hR rfl ?_
  refine go_putFR hc (.array .int) lkf_RX8_11 hnm (by decide +kernel) (fun _ => ⟨rfl, rfl⟩) dX8_init_10 (goGb_lt hs) ?_
  refine go_aload0 hc dX8_init_13 ?_
  refine go_sipush (v := 182) hc dX8_init_14 rfl ?_
  refine go_newa1 hc (j := 1) (N := 182) rfl dX8_init_17 rfl (by decide) (Nat.le_of_ble_eq_true rfl) ((hz.mono (by omega)).wR (by omega)) (by omega) hR rfl ?_
  refine go_putFR hc (.array .int) lkf_RX8_17 hnm (by decide +kernel) (fun _ => ⟨rfl, rfl⟩) dX8_init_19 (goGb_lt hs) ?_
  refine go_aload0 hc dX8_init_22 ?_
  refine go_bipush (v := 96) hc dX8_init_23 rfl ?_
  refine go_newa3 hc (j := 2) (N := 96) rfl dX8_init_25 rfl (by decide) (Nat.le_of_ble_eq_true rfl) (((hz.mono (by omega)).wR (by omega)).wR (by omega)) (by omega) hR rfl ?_
  refine go_putFR hc (.array .boolean) lkf_RX8_20 hnm (by decide +kernel) (fun _ => ⟨rfl, rfl⟩) dX8_init_27 (goGb_lt hs) ?_
  refine go_aload0 hc dX8_init_30 ?_
  refine go_new hc (j := 3) rfl dX8_init_31 wcl_RX8_9 wia_RX3 win_RX3 cl_2 df_2 ((((hz.mono (by omega)).wR (by omega)).wR (by omega)).wR (by omega)) (by omega) hR rfl ?_
  refine go_dupr hc dX8_init_34 ?_
  refine go_aload1 hc dX8_init_35 ?_
  refine go_aload2 hc dX8_init_36 ?_
  refine go_callIv hc dX8_init_37 (mX3_init hk (goGb_at 3 (Nat.le_of_ble_eq_true rfl) rfl) (show goZe (G.2 + 4) _ _ _ from ((((hz.mono (by omega)).wR (by omega)).wR (by omega)).wR (by omega))) (show G.2 + 4 + 9 ≤ 1000000 by omega)) ml_RX8_24 yk_X3_init wim_X3_init rfl hR rfl rfl rfl (Nat.le_of_ble_eq_true rfl) rfl ?_
  refine go_gapp ?_
  refine go_putFR hc (.object "GoatCourt$Day") lkf_RX8_27 hnm (by decide +kernel) (fun _ => ⟨rfl, rfl⟩) dX8_init_40 (goGb_lt hs) ?_
  exact go_vret hc dX8_init_43 hr
theorem dX13_init_0 : decode cX13_init 0 = .ok (.aload_n 0, 1) := by decide +kernel
theorem dX13_init_1 : decode cX13_init 1 = .ok (.invokespecial 3, 3) := by decide +kernel
theorem dX13_init_4 : decode cX13_init 4 = .ok (.aload_n 0, 1) := by decide +kernel
theorem dX13_init_5 : decode cX13_init 5 = .ok (.bipush 32, 2) := by decide +kernel
theorem dX13_init_7 : decode cX13_init 7 = .ok (.newarray .int, 2) := by decide +kernel
theorem dX13_init_9 : decode cX13_init 9 = .ok (.putfield 9, 3) := by decide +kernel
theorem dX13_init_12 : decode cX13_init 12 = .ok (.aload_n 0, 1) := by decide +kernel
theorem dX13_init_13 : decode cX13_init 13 = .ok (.bipush 14, 2) := by decide +kernel
theorem dX13_init_15 : decode cX13_init 15 = .ok (.newarray .int, 2) := by decide +kernel
theorem dX13_init_17 : decode cX13_init 17 = .ok (.putfield 15, 3) := by decide +kernel
theorem dX13_init_20 : decode cX13_init 20 = .ok (.aload_n 0, 1) := by decide +kernel
theorem dX13_init_21 : decode cX13_init 21 = .ok (.bipush 14, 2) := by decide +kernel
theorem dX13_init_23 : decode cX13_init 23 = .ok (.newarray .int, 2) := by decide +kernel
theorem dX13_init_25 : decode cX13_init 25 = .ok (.putfield 18, 3) := by decide +kernel
theorem dX13_init_28 : decode cX13_init 28 = .ok (.aload_n 0, 1) := by decide +kernel
theorem dX13_init_29 : decode cX13_init 29 = .ok (.iconst 4, 1) := by decide +kernel
theorem dX13_init_30 : decode cX13_init 30 = .ok (.newarray .int, 2) := by decide +kernel
theorem dX13_init_32 : decode cX13_init 32 = .ok (.putfield 21, 3) := by decide +kernel
theorem dX13_init_35 : decode cX13_init 35 = .ok (.aload_n 0, 1) := by decide +kernel
theorem dX13_init_36 : decode cX13_init 36 = .ok (.sipush 144, 3) := by decide +kernel
theorem dX13_init_39 : decode cX13_init 39 = .ok (.newarray .int, 2) := by decide +kernel
theorem dX13_init_41 : decode cX13_init 41 = .ok (.putfield 24, 3) := by decide +kernel
theorem dX13_init_44 : decode cX13_init 44 = .ok (.aload_n 0, 1) := by decide +kernel
theorem dX13_init_45 : decode cX13_init 45 = .ok (.bipush 6, 2) := by decide +kernel
theorem dX13_init_47 : decode cX13_init 47 = .ok (.newarray .int, 2) := by decide +kernel
theorem dX13_init_49 : decode cX13_init 49 = .ok (.putfield 27, 3) := by decide +kernel
theorem dX13_init_52 : decode cX13_init 52 = .ok (.aload_n 0, 1) := by decide +kernel
theorem dX13_init_53 : decode cX13_init 53 = .ok (.bipush 6, 2) := by decide +kernel
theorem dX13_init_55 : decode cX13_init 55 = .ok (.newarray .int, 2) := by decide +kernel
theorem dX13_init_57 : decode cX13_init 57 = .ok (.putfield 30, 3) := by decide +kernel
theorem dX13_init_60 : decode cX13_init 60 = .ok (.aload_n 0, 1) := by decide +kernel
theorem dX13_init_61 : decode cX13_init 61 = .ok (.bipush 6, 2) := by decide +kernel
theorem dX13_init_63 : decode cX13_init 63 = .ok (.newarray .int, 2) := by decide +kernel
theorem dX13_init_65 : decode cX13_init 65 = .ok (.putfield 33, 3) := by decide +kernel
theorem dX13_init_68 : decode cX13_init 68 = .ok (.aload_n 0, 1) := by decide +kernel
theorem dX13_init_69 : decode cX13_init 69 = .ok (.bipush 24, 2) := by decide +kernel
theorem dX13_init_71 : decode cX13_init 71 = .ok (.newarray .int, 2) := by decide +kernel
theorem dX13_init_73 : decode cX13_init 73 = .ok (.putfield 36, 3) := by decide +kernel
theorem dX13_init_76 : decode cX13_init 76 = .ok (.aload_n 0, 1) := by decide +kernel
theorem dX13_init_77 : decode cX13_init 77 = .ok (.bipush 6, 2) := by decide +kernel
theorem dX13_init_79 : decode cX13_init 79 = .ok (.newarray .int, 2) := by decide +kernel
theorem dX13_init_81 : decode cX13_init 81 = .ok (.putfield 39, 3) := by decide +kernel
theorem dX13_init_84 : decode cX13_init 84 = .ok (.aload_n 0, 1) := by decide +kernel
theorem dX13_init_85 : decode cX13_init 85 = .ok (.bipush 6, 2) := by decide +kernel
theorem dX13_init_87 : decode cX13_init 87 = .ok (.newarray .int, 2) := by decide +kernel
theorem dX13_init_89 : decode cX13_init 89 = .ok (.putfield 42, 3) := by decide +kernel
theorem dX13_init_92 : decode cX13_init 92 = .ok (.aload_n 0, 1) := by decide +kernel
theorem dX13_init_93 : decode cX13_init 93 = .ok (.bipush 6, 2) := by decide +kernel
theorem dX13_init_95 : decode cX13_init 95 = .ok (.newarray .int, 2) := by decide +kernel
theorem dX13_init_97 : decode cX13_init 97 = .ok (.putfield 45, 3) := by decide +kernel
theorem dX13_init_100 : decode cX13_init 100 = .ok (.aload_n 0, 1) := by decide +kernel
theorem dX13_init_101 : decode cX13_init 101 = .ok (.bipush 10, 2) := by decide +kernel
theorem dX13_init_103 : decode cX13_init 103 = .ok (.newarray .int, 2) := by decide +kernel
theorem dX13_init_105 : decode cX13_init 105 = .ok (.putfield 48, 3) := by decide +kernel
theorem dX13_init_108 : decode cX13_init 108 = .ok (.aload_n 0, 1) := by decide +kernel
theorem dX13_init_109 : decode cX13_init 109 = .ok (.bipush 10, 2) := by decide +kernel
theorem dX13_init_111 : decode cX13_init 111 = .ok (.newarray .int, 2) := by decide +kernel
theorem dX13_init_113 : decode cX13_init 113 = .ok (.putfield 51, 3) := by decide +kernel
theorem dX13_init_116 : decode cX13_init 116 = .ok (.aload_n 0, 1) := by decide +kernel
theorem dX13_init_117 : decode cX13_init 117 = .ok (.bipush 10, 2) := by decide +kernel
theorem dX13_init_119 : decode cX13_init 119 = .ok (.newarray .int, 2) := by decide +kernel
theorem dX13_init_121 : decode cX13_init 121 = .ok (.putfield 54, 3) := by decide +kernel
theorem dX13_init_124 : decode cX13_init 124 = .ok (.aload_n 0, 1) := by decide +kernel
theorem dX13_init_125 : decode cX13_init 125 = .ok (.bipush 10, 2) := by decide +kernel
theorem dX13_init_127 : decode cX13_init 127 = .ok (.newarray .int, 2) := by decide +kernel
theorem dX13_init_129 : decode cX13_init 129 = .ok (.putfield 57, 3) := by decide +kernel
theorem dX13_init_132 : decode cX13_init 132 = .ok (.aload_n 0, 1) := by decide +kernel
theorem dX13_init_133 : decode cX13_init 133 = .ok (.bipush 8, 2) := by decide +kernel
theorem dX13_init_135 : decode cX13_init 135 = .ok (.newarray .int, 2) := by decide +kernel
theorem dX13_init_137 : decode cX13_init 137 = .ok (.putfield 60, 3) := by decide +kernel
theorem dX13_init_140 : decode cX13_init 140 = .ok (.aload_n 0, 1) := by decide +kernel
theorem dX13_init_141 : decode cX13_init 141 = .ok (.bipush 8, 2) := by decide +kernel
theorem dX13_init_143 : decode cX13_init 143 = .ok (.newarray .int, 2) := by decide +kernel
theorem dX13_init_145 : decode cX13_init 145 = .ok (.putfield 63, 3) := by decide +kernel
theorem dX13_init_148 : decode cX13_init 148 = .ok (.aload_n 0, 1) := by decide +kernel
theorem dX13_init_149 : decode cX13_init 149 = .ok (.bipush 8, 2) := by decide +kernel
theorem dX13_init_151 : decode cX13_init 151 = .ok (.newarray .int, 2) := by decide +kernel
theorem dX13_init_153 : decode cX13_init 153 = .ok (.putfield 66, 3) := by decide +kernel
theorem dX13_init_156 : decode cX13_init 156 = .ok (.aload_n 0, 1) := by decide +kernel
theorem dX13_init_157 : decode cX13_init 157 = .ok (.bipush 6, 2) := by decide +kernel
theorem dX13_init_159 : decode cX13_init 159 = .ok (.newarray .int, 2) := by decide +kernel
theorem dX13_init_161 : decode cX13_init 161 = .ok (.putfield 69, 3) := by decide +kernel
theorem dX13_init_164 : decode cX13_init 164 = .ok (.aload_n 0, 1) := by decide +kernel
theorem dX13_init_165 : decode cX13_init 165 = .ok (.bipush 6, 2) := by decide +kernel
theorem dX13_init_167 : decode cX13_init 167 = .ok (.newarray .int, 2) := by decide +kernel
theorem dX13_init_169 : decode cX13_init 169 = .ok (.putfield 72, 3) := by decide +kernel
theorem dX13_init_172 : decode cX13_init 172 = .ok (.aload_n 0, 1) := by decide +kernel
theorem dX13_init_173 : decode cX13_init 173 = .ok (.iconst 4, 1) := by decide +kernel
theorem dX13_init_174 : decode cX13_init 174 = .ok (.newarray .int, 2) := by decide +kernel
theorem dX13_init_176 : decode cX13_init 176 = .ok (.putfield 75, 3) := by decide +kernel
theorem dX13_init_179 : decode cX13_init 179 = .ok (.aload_n 0, 1) := by decide +kernel
theorem dX13_init_180 : decode cX13_init 180 = .ok (.bipush 40, 2) := by decide +kernel
theorem dX13_init_182 : decode cX13_init 182 = .ok (.newarray .long, 2) := by decide +kernel
theorem dX13_init_184 : decode cX13_init 184 = .ok (.putfield 78, 3) := by decide +kernel
theorem dX13_init_187 : decode cX13_init 187 = .ok (.aload_n 0, 1) := by decide +kernel
theorem dX13_init_188 : decode cX13_init 188 = .ok (.bipush 40, 2) := by decide +kernel
theorem dX13_init_190 : decode cX13_init 190 = .ok (.newarray .int, 2) := by decide +kernel
theorem dX13_init_192 : decode cX13_init 192 = .ok (.putfield 82, 3) := by decide +kernel
theorem dX13_init_195 : decode cX13_init 195 = .ok (.aload_n 0, 1) := by decide +kernel
theorem dX13_init_196 : decode cX13_init 196 = .ok (.bipush 40, 2) := by decide +kernel
theorem dX13_init_198 : decode cX13_init 198 = .ok (.newarray .int, 2) := by decide +kernel
theorem dX13_init_200 : decode cX13_init 200 = .ok (.putfield 85, 3) := by decide +kernel
theorem dX13_init_203 : decode cX13_init 203 = .ok (.return_, 1) := by decide +kernel
def rX13_init (R : goMR) (n a : Nat) : goMR := (goWR (goWR (goWR (goWR (goWR (goWR (goWR (goWR (goWR (goWR (goWR (goWR (goWR (goWR (goWR (goWR (goWR (goWR (goWR (goWR (goWR (goWR (goWR (goWR (goWR R a 16 (some n)) a 17 (some (n + 1))) a 18 (some (n + 2))) a 19 (some (n + 3))) a 20 (some (n + 4))) a 21 (some (n + 5))) a 22 (some (n + 6))) a 23 (some (n + 7))) a 24 (some (n + 8))) a 25 (some (n + 9))) a 26 (some (n + 10))) a 27 (some (n + 11))) a 28 (some (n + 12))) a 29 (some (n + 13))) a 30 (some (n + 14))) a 31 (some (n + 15))) a 32 (some (n + 16))) a 33 (some (n + 17))) a 34 (some (n + 18))) a 35 (some (n + 19))) a 36 (some (n + 20))) a 37 (some (n + 21))) a 38 (some (n + 22))) a 39 (some (n + 23))) a 40 (some (n + 24)))
theorem rX13_init_Z {m n a : Nat} {M : goMI} {L : goML} {R : goMR} (h : a < m ∧ n + 25 ≤ m) (hz : goZe m M L R) : goZe m M L (rX13_init R n a) := by
  unfold rX13_init
  exact (goZe.wR (goZe.wR (goZe.wR (goZe.wR (goZe.wR (goZe.wR (goZe.wR (goZe.wR (goZe.wR (goZe.wR (goZe.wR (goZe.wR (goZe.wR (goZe.wR (goZe.wR (goZe.wR (goZe.wR (goZe.wR (goZe.wR (goZe.wR (goZe.wR (goZe.wR (goZe.wR (goZe.wR (goZe.wR hz (by omega)) (by omega)) (by omega)) (by omega)) (by omega)) (by omega)) (by omega)) (by omega)) (by omega)) (by omega)) (by omega)) (by omega)) (by omega)) (by omega)) (by omega)) (by omega)) (by omega)) (by omega)) (by omega)) (by omega)) (by omega)) (by omega)) (by omega)) (by omega)) (by omega))
theorem rX13_init_lt {n a b : Nat} {R : goMR} (h : b < a ∧ b < n) : rX13_init R n a b = R b := by
  unfold rX13_init
  rw [goWR_ne (by omega), goWR_ne (by omega), goWR_ne (by omega), goWR_ne (by omega), goWR_ne (by omega), goWR_ne (by omega), goWR_ne (by omega), goWR_ne (by omega), goWR_ne (by omega), goWR_ne (by omega), goWR_ne (by omega), goWR_ne (by omega), goWR_ne (by omega), goWR_ne (by omega), goWR_ne (by omega), goWR_ne (by omega), goWR_ne (by omega), goWR_ne (by omega), goWR_ne (by omega), goWR_ne (by omega), goWR_ne (by omega), goWR_ne (by omega), goWR_ne (by omega), goWR_ne (by omega), goWR_ne (by omega)]
set_option maxRecDepth 100000 in
set_option maxHeartbeats 4000000 in
theorem mX13_init {E : goEv} {l : Launch} {G : goG} {M : goMI} {L : goML} {R : goMR} {a : Nat} (hk : goKn E) (hs : a < G.2 ∧ G.1 a = (0, 11)) (hz : goZe G.2 M L R) (hle : G.2 + 25 ≤ 1000000) : Met l yX13_init (goCd yX13_init cX13_init 1 none) (goRoom 1 40 25 468) (goPre E [.ref a] G M L R) (goQv E (goGb G [(1, 32), (1, 14), (1, 14), (1, 4), (1, 144), (1, 6), (1, 6), (1, 6), (1, 24), (1, 6), (1, 6), (1, 6), (1, 10), (1, 10), (1, 10), (1, 10), (1, 8), (1, 8), (1, 8), (1, 6), (1, 6), (1, 4), (4, 40), (1, 40), (1, 40)]) M L (rX13_init R G.2 a)) 25 468 (goSet E) := by
  have ha := hs.1
  refine goMet pl_RX13 hk (lv := [some (.ref a)]) rfl (Nat.le_of_ble_eq_true rfl) ?_
  intro X hc hl hR hr hnm
  subst hl
  refine go_gnil ?_
  refine go_aload0 hc dX13_init_0 ?_
  refine go_objInit hc dX13_init_1 wml_RX13_3 hR rfl rfl (Nat.le_of_ble_eq_true rfl) ?_
  refine go_aload0 hc dX13_init_4 ?_
  refine go_bipush (v := 32) hc dX13_init_5 rfl ?_
  refine go_newa1 hc (j := 0) (N := 32) rfl dX13_init_7 rfl (by decide) (Nat.le_of_ble_eq_true rfl) (hz.mono (by omega)) (by omega) hR rfl ?_
  refine go_putFR hc (.array .int) lkf_RX13_9 hnm (by decide +kernel) (fun _ => ⟨rfl, rfl⟩) dX13_init_9 (goGb_lt hs) ?_
  refine go_aload0 hc dX13_init_12 ?_
  refine go_bipush (v := 14) hc dX13_init_13 rfl ?_
  refine go_newa1 hc (j := 1) (N := 14) rfl dX13_init_15 rfl (by decide) (Nat.le_of_ble_eq_true rfl) ((hz.mono (by omega)).wR (by omega)) (by omega) hR rfl ?_
  refine go_putFR hc (.array .int) lkf_RX13_15 hnm (by decide +kernel) (fun _ => ⟨rfl, rfl⟩) dX13_init_17 (goGb_lt hs) ?_
  refine go_aload0 hc dX13_init_20 ?_
  refine go_bipush (v := 14) hc dX13_init_21 rfl ?_
  refine go_newa1 hc (j := 2) (N := 14) rfl dX13_init_23 rfl (by decide) (Nat.le_of_ble_eq_true rfl) (((hz.mono (by omega)).wR (by omega)).wR (by omega)) (by omega) hR rfl ?_
  refine go_putFR hc (.array .int) lkf_RX13_18 hnm (by decide +kernel) (fun _ => ⟨rfl, rfl⟩) dX13_init_25 (goGb_lt hs) ?_
  refine go_aload0 hc dX13_init_28 ?_
  refine go_iconst (v := 4) hc dX13_init_29 rfl ?_
  refine go_newa1 hc (j := 3) (N := 4) rfl dX13_init_30 rfl (by decide) (Nat.le_of_ble_eq_true rfl) ((((hz.mono (by omega)).wR (by omega)).wR (by omega)).wR (by omega)) (by omega) hR rfl ?_
  refine go_putFR hc (.array .int) lkf_RX13_21 hnm (by decide +kernel) (fun _ => ⟨rfl, rfl⟩) dX13_init_32 (goGb_lt hs) ?_
  refine go_aload0 hc dX13_init_35 ?_
  refine go_sipush (v := 144) hc dX13_init_36 rfl ?_
  refine go_newa1 hc (j := 4) (N := 144) rfl dX13_init_39 rfl (by decide) (Nat.le_of_ble_eq_true rfl) (((((hz.mono (by omega)).wR (by omega)).wR (by omega)).wR (by omega)).wR (by omega)) (by omega) hR rfl ?_
  refine go_putFR hc (.array .int) lkf_RX13_24 hnm (by decide +kernel) (fun _ => ⟨rfl, rfl⟩) dX13_init_41 (goGb_lt hs) ?_
  refine go_aload0 hc dX13_init_44 ?_
  refine go_bipush (v := 6) hc dX13_init_45 rfl ?_
  refine go_newa1 hc (j := 5) (N := 6) rfl dX13_init_47 rfl (by decide) (Nat.le_of_ble_eq_true rfl) ((((((hz.mono (by omega)).wR (by omega)).wR (by omega)).wR (by omega)).wR (by omega)).wR (by omega)) (by omega) hR rfl ?_
  refine go_putFR hc (.array .int) lkf_RX13_27 hnm (by decide +kernel) (fun _ => ⟨rfl, rfl⟩) dX13_init_49 (goGb_lt hs) ?_
  refine go_aload0 hc dX13_init_52 ?_
  refine go_bipush (v := 6) hc dX13_init_53 rfl ?_
  refine go_newa1 hc (j := 6) (N := 6) rfl dX13_init_55 rfl (by decide) (Nat.le_of_ble_eq_true rfl) (((((((hz.mono (by omega)).wR (by omega)).wR (by omega)).wR (by omega)).wR (by omega)).wR (by omega)).wR (by omega)) (by omega) hR rfl ?_
  refine go_putFR hc (.array .int) lkf_RX13_30 hnm (by decide +kernel) (fun _ => ⟨rfl, rfl⟩) dX13_init_57 (goGb_lt hs) ?_
  refine go_aload0 hc dX13_init_60 ?_
  refine go_bipush (v := 6) hc dX13_init_61 rfl ?_
  refine go_newa1 hc (j := 7) (N := 6) rfl dX13_init_63 rfl (by decide) (Nat.le_of_ble_eq_true rfl) ((((((((hz.mono (by omega)).wR (by omega)).wR (by omega)).wR (by omega)).wR (by omega)).wR (by omega)).wR (by omega)).wR (by omega)) (by omega) hR rfl ?_
  refine go_putFR hc (.array .int) lkf_RX13_33 hnm (by decide +kernel) (fun _ => ⟨rfl, rfl⟩) dX13_init_65 (goGb_lt hs) ?_
  refine go_aload0 hc dX13_init_68 ?_
  refine go_bipush (v := 24) hc dX13_init_69 rfl ?_
  refine go_newa1 hc (j := 8) (N := 24) rfl dX13_init_71 rfl (by decide) (Nat.le_of_ble_eq_true rfl) (((((((((hz.mono (by omega)).wR (by omega)).wR (by omega)).wR (by omega)).wR (by omega)).wR (by omega)).wR (by omega)).wR (by omega)).wR (by omega)) (by omega) hR rfl ?_
  refine go_putFR hc (.array .int) lkf_RX13_36 hnm (by decide +kernel) (fun _ => ⟨rfl, rfl⟩) dX13_init_73 (goGb_lt hs) ?_
  refine go_aload0 hc dX13_init_76 ?_
  refine go_bipush (v := 6) hc dX13_init_77 rfl ?_
  refine go_newa1 hc (j := 9) (N := 6) rfl dX13_init_79 rfl (by decide) (Nat.le_of_ble_eq_true rfl) ((((((((((hz.mono (by omega)).wR (by omega)).wR (by omega)).wR (by omega)).wR (by omega)).wR (by omega)).wR (by omega)).wR (by omega)).wR (by omega)).wR (by omega)) (by omega) hR rfl ?_
  refine go_putFR hc (.array .int) lkf_RX13_39 hnm (by decide +kernel) (fun _ => ⟨rfl, rfl⟩) dX13_init_81 (goGb_lt hs) ?_
  refine go_aload0 hc dX13_init_84 ?_
  refine go_bipush (v := 6) hc dX13_init_85 rfl ?_
  refine go_newa1 hc (j := 10) (N := 6) rfl dX13_init_87 rfl (by decide) (Nat.le_of_ble_eq_true rfl) (((((((((((hz.mono (by omega)).wR (by omega)).wR (by omega)).wR (by omega)).wR (by omega)).wR (by omega)).wR (by omega)).wR (by omega)).wR (by omega)).wR (by omega)).wR (by omega)) (by omega) hR rfl ?_
  refine go_putFR hc (.array .int) lkf_RX13_42 hnm (by decide +kernel) (fun _ => ⟨rfl, rfl⟩) dX13_init_89 (goGb_lt hs) ?_
  refine go_aload0 hc dX13_init_92 ?_
  refine go_bipush (v := 6) hc dX13_init_93 rfl ?_
  refine go_newa1 hc (j := 11) (N := 6) rfl dX13_init_95 rfl (by decide) (Nat.le_of_ble_eq_true rfl) ((((((((((((hz.mono (by omega)).wR (by omega)).wR (by omega)).wR (by omega)).wR (by omega)).wR (by omega)).wR (by omega)).wR (by omega)).wR (by omega)).wR (by omega)).wR (by omega)).wR (by omega)) (by omega) hR rfl ?_
  refine go_putFR hc (.array .int) lkf_RX13_45 hnm (by decide +kernel) (fun _ => ⟨rfl, rfl⟩) dX13_init_97 (goGb_lt hs) ?_
  refine go_aload0 hc dX13_init_100 ?_
  refine go_bipush (v := 10) hc dX13_init_101 rfl ?_
  refine go_newa1 hc (j := 12) (N := 10) rfl dX13_init_103 rfl (by decide) (Nat.le_of_ble_eq_true rfl) (((((((((((((hz.mono (by omega)).wR (by omega)).wR (by omega)).wR (by omega)).wR (by omega)).wR (by omega)).wR (by omega)).wR (by omega)).wR (by omega)).wR (by omega)).wR (by omega)).wR (by omega)).wR (by omega)) (by omega) hR rfl ?_
  refine go_putFR hc (.array .int) lkf_RX13_48 hnm (by decide +kernel) (fun _ => ⟨rfl, rfl⟩) dX13_init_105 (goGb_lt hs) ?_
  refine go_aload0 hc dX13_init_108 ?_
  refine go_bipush (v := 10) hc dX13_init_109 rfl ?_
  refine go_newa1 hc (j := 13) (N := 10) rfl dX13_init_111 rfl (by decide) (Nat.le_of_ble_eq_true rfl) ((((((((((((((hz.mono (by omega)).wR (by omega)).wR (by omega)).wR (by omega)).wR (by omega)).wR (by omega)).wR (by omega)).wR (by omega)).wR (by omega)).wR (by omega)).wR (by omega)).wR (by omega)).wR (by omega)).wR (by omega)) (by omega) hR rfl ?_
  refine go_putFR hc (.array .int) lkf_RX13_51 hnm (by decide +kernel) (fun _ => ⟨rfl, rfl⟩) dX13_init_113 (goGb_lt hs) ?_
  refine go_aload0 hc dX13_init_116 ?_
  refine go_bipush (v := 10) hc dX13_init_117 rfl ?_
  refine go_newa1 hc (j := 14) (N := 10) rfl dX13_init_119 rfl (by decide) (Nat.le_of_ble_eq_true rfl) (((((((((((((((hz.mono (by omega)).wR (by omega)).wR (by omega)).wR (by omega)).wR (by omega)).wR (by omega)).wR (by omega)).wR (by omega)).wR (by omega)).wR (by omega)).wR (by omega)).wR (by omega)).wR (by omega)).wR (by omega)).wR (by omega)) (by omega) hR rfl ?_
  refine go_putFR hc (.array .int) lkf_RX13_54 hnm (by decide +kernel) (fun _ => ⟨rfl, rfl⟩) dX13_init_121 (goGb_lt hs) ?_
  refine go_aload0 hc dX13_init_124 ?_
  refine go_bipush (v := 10) hc dX13_init_125 rfl ?_
  refine go_newa1 hc (j := 15) (N := 10) rfl dX13_init_127 rfl (by decide) (Nat.le_of_ble_eq_true rfl) ((((((((((((((((hz.mono (by omega)).wR (by omega)).wR (by omega)).wR (by omega)).wR (by omega)).wR (by omega)).wR (by omega)).wR (by omega)).wR (by omega)).wR (by omega)).wR (by omega)).wR (by omega)).wR (by omega)).wR (by omega)).wR (by omega)).wR (by omega)) (by omega) hR rfl ?_
  refine go_putFR hc (.array .int) lkf_RX13_57 hnm (by decide +kernel) (fun _ => ⟨rfl, rfl⟩) dX13_init_129 (goGb_lt hs) ?_
  refine go_aload0 hc dX13_init_132 ?_
  refine go_bipush (v := 8) hc dX13_init_133 rfl ?_
  refine go_newa1 hc (j := 16) (N := 8) rfl dX13_init_135 rfl (by decide) (Nat.le_of_ble_eq_true rfl) (((((((((((((((((hz.mono (by omega)).wR (by omega)).wR (by omega)).wR (by omega)).wR (by omega)).wR (by omega)).wR (by omega)).wR (by omega)).wR (by omega)).wR (by omega)).wR (by omega)).wR (by omega)).wR (by omega)).wR (by omega)).wR (by omega)).wR (by omega)).wR (by omega)) (by omega) hR rfl ?_
  refine go_putFR hc (.array .int) lkf_RX13_60 hnm (by decide +kernel) (fun _ => ⟨rfl, rfl⟩) dX13_init_137 (goGb_lt hs) ?_
  refine go_aload0 hc dX13_init_140 ?_
  refine go_bipush (v := 8) hc dX13_init_141 rfl ?_
  refine go_newa1 hc (j := 17) (N := 8) rfl dX13_init_143 rfl (by decide) (Nat.le_of_ble_eq_true rfl) ((((((((((((((((((hz.mono (by omega)).wR (by omega)).wR (by omega)).wR (by omega)).wR (by omega)).wR (by omega)).wR (by omega)).wR (by omega)).wR (by omega)).wR (by omega)).wR (by omega)).wR (by omega)).wR (by omega)).wR (by omega)).wR (by omega)).wR (by omega)).wR (by omega)).wR (by omega)) (by omega) hR rfl ?_
  refine go_putFR hc (.array .int) lkf_RX13_63 hnm (by decide +kernel) (fun _ => ⟨rfl, rfl⟩) dX13_init_145 (goGb_lt hs) ?_
  refine go_aload0 hc dX13_init_148 ?_
  refine go_bipush (v := 8) hc dX13_init_149 rfl ?_
  refine go_newa1 hc (j := 18) (N := 8) rfl dX13_init_151 rfl (by decide) (Nat.le_of_ble_eq_true rfl) (((((((((((((((((((hz.mono (by omega)).wR (by omega)).wR (by omega)).wR (by omega)).wR (by omega)).wR (by omega)).wR (by omega)).wR (by omega)).wR (by omega)).wR (by omega)).wR (by omega)).wR (by omega)).wR (by omega)).wR (by omega)).wR (by omega)).wR (by omega)).wR (by omega)).wR (by omega)).wR (by omega)) (by omega) hR rfl ?_
  refine go_putFR hc (.array .int) lkf_RX13_66 hnm (by decide +kernel) (fun _ => ⟨rfl, rfl⟩) dX13_init_153 (goGb_lt hs) ?_
  refine go_aload0 hc dX13_init_156 ?_
  refine go_bipush (v := 6) hc dX13_init_157 rfl ?_
  refine go_newa1 hc (j := 19) (N := 6) rfl dX13_init_159 rfl (by decide) (Nat.le_of_ble_eq_true rfl) ((((((((((((((((((((hz.mono (by omega)).wR (by omega)).wR (by omega)).wR (by omega)).wR (by omega)).wR (by omega)).wR (by omega)).wR (by omega)).wR (by omega)).wR (by omega)).wR (by omega)).wR (by omega)).wR (by omega)).wR (by omega)).wR (by omega)).wR (by omega)).wR (by omega)).wR (by omega)).wR (by omega)).wR (by omega)) (by omega) hR rfl ?_
  refine go_putFR hc (.array .int) lkf_RX13_69 hnm (by decide +kernel) (fun _ => ⟨rfl, rfl⟩) dX13_init_161 (goGb_lt hs) ?_
  refine go_aload0 hc dX13_init_164 ?_
  refine go_bipush (v := 6) hc dX13_init_165 rfl ?_
  refine go_newa1 hc (j := 20) (N := 6) rfl dX13_init_167 rfl (by decide) (Nat.le_of_ble_eq_true rfl) (((((((((((((((((((((hz.mono (by omega)).wR (by omega)).wR (by omega)).wR (by omega)).wR (by omega)).wR (by omega)).wR (by omega)).wR (by omega)).wR (by omega)).wR (by omega)).wR (by omega)).wR (by omega)).wR (by omega)).wR (by omega)).wR (by omega)).wR (by omega)).wR (by omega)).wR (by omega)).wR (by omega)).wR (by omega)).wR (by omega)) (by omega) hR rfl ?_
  refine go_putFR hc (.array .int) lkf_RX13_72 hnm (by decide +kernel) (fun _ => ⟨rfl, rfl⟩) dX13_init_169 (goGb_lt hs) ?_
  refine go_aload0 hc dX13_init_172 ?_
  refine go_iconst (v := 4) hc dX13_init_173 rfl ?_
  refine go_newa1 hc (j := 21) (N := 4) rfl dX13_init_174 rfl (by decide) (Nat.le_of_ble_eq_true rfl) ((((((((((((((((((((((hz.mono (by omega)).wR (by omega)).wR (by omega)).wR (by omega)).wR (by omega)).wR (by omega)).wR (by omega)).wR (by omega)).wR (by omega)).wR (by omega)).wR (by omega)).wR (by omega)).wR (by omega)).wR (by omega)).wR (by omega)).wR (by omega)).wR (by omega)).wR (by omega)).wR (by omega)).wR (by omega)).wR (by omega)).wR (by omega)) (by omega) hR rfl ?_
  refine go_putFR hc (.array .int) lkf_RX13_75 hnm (by decide +kernel) (fun _ => ⟨rfl, rfl⟩) dX13_init_176 (goGb_lt hs) ?_
  refine go_aload0 hc dX13_init_179 ?_
  refine go_bipush (v := 40) hc dX13_init_180 rfl ?_
  refine go_newa4 hc (j := 22) (N := 40) rfl dX13_init_182 rfl (by decide) (Nat.le_of_ble_eq_true rfl) (((((((((((((((((((((((hz.mono (by omega)).wR (by omega)).wR (by omega)).wR (by omega)).wR (by omega)).wR (by omega)).wR (by omega)).wR (by omega)).wR (by omega)).wR (by omega)).wR (by omega)).wR (by omega)).wR (by omega)).wR (by omega)).wR (by omega)).wR (by omega)).wR (by omega)).wR (by omega)).wR (by omega)).wR (by omega)).wR (by omega)).wR (by omega)).wR (by omega)) (by omega) hR rfl ?_
  refine go_putFR hc (.array .long) lkf_RX13_78 hnm (by decide +kernel) (fun _ => ⟨rfl, rfl⟩) dX13_init_184 (goGb_lt hs) ?_
  refine go_aload0 hc dX13_init_187 ?_
  refine go_bipush (v := 40) hc dX13_init_188 rfl ?_
  refine go_newa1 hc (j := 23) (N := 40) rfl dX13_init_190 rfl (by decide) (Nat.le_of_ble_eq_true rfl) ((((((((((((((((((((((((hz.mono (by omega)).wR (by omega)).wR (by omega)).wR (by omega)).wR (by omega)).wR (by omega)).wR (by omega)).wR (by omega)).wR (by omega)).wR (by omega)).wR (by omega)).wR (by omega)).wR (by omega)).wR (by omega)).wR (by omega)).wR (by omega)).wR (by omega)).wR (by omega)).wR (by omega)).wR (by omega)).wR (by omega)).wR (by omega)).wR (by omega)).wR (by omega)) (by omega) hR rfl ?_
  refine go_putFR hc (.array .int) lkf_RX13_82 hnm (by decide +kernel) (fun _ => ⟨rfl, rfl⟩) dX13_init_192 (goGb_lt hs) ?_
  refine go_aload0 hc dX13_init_195 ?_
  refine go_bipush (v := 40) hc dX13_init_196 rfl ?_
  refine go_newa1 hc (j := 24) (N := 40) rfl dX13_init_198 rfl (by decide) (Nat.le_of_ble_eq_true rfl) (((((((((((((((((((((((((hz.mono (by omega)).wR (by omega)).wR (by omega)).wR (by omega)).wR (by omega)).wR (by omega)).wR (by omega)).wR (by omega)).wR (by omega)).wR (by omega)).wR (by omega)).wR (by omega)).wR (by omega)).wR (by omega)).wR (by omega)).wR (by omega)).wR (by omega)).wR (by omega)).wR (by omega)).wR (by omega)).wR (by omega)).wR (by omega)).wR (by omega)).wR (by omega)).wR (by omega)) (by omega) hR rfl ?_
  refine go_putFR hc (.array .int) lkf_RX13_85 hnm (by decide +kernel) (fun _ => ⟨rfl, rfl⟩) dX13_init_200 (goGb_lt hs) ?_
  exact go_vret hc dX13_init_203 hr
theorem dX14_init_0 : decode cX14_init 0 = .ok (.aload_n 0, 1) := by decide +kernel
theorem dX14_init_1 : decode cX14_init 1 = .ok (.invokespecial 3, 3) := by decide +kernel
theorem dX14_init_4 : decode cX14_init 4 = .ok (.aload_n 0, 1) := by decide +kernel
theorem dX14_init_5 : decode cX14_init 5 = .ok (.iconst (-1), 1) := by decide +kernel
theorem dX14_init_6 : decode cX14_init 6 = .ok (.putfield 9, 3) := by decide +kernel
theorem dX14_init_9 : decode cX14_init 9 = .ok (.aload_n 0, 1) := by decide +kernel
theorem dX14_init_10 : decode cX14_init 10 = .ok (.sipush 1200, 3) := by decide +kernel
theorem dX14_init_13 : decode cX14_init 13 = .ok (.newarray .byte, 2) := by decide +kernel
theorem dX14_init_15 : decode cX14_init 15 = .ok (.putfield 13, 3) := by decide +kernel
theorem dX14_init_18 : decode cX14_init 18 = .ok (.aload_n 0, 1) := by decide +kernel
theorem dX14_init_19 : decode cX14_init 19 = .ok (.bipush 8, 2) := by decide +kernel
theorem dX14_init_21 : decode cX14_init 21 = .ok (.newarray .int, 2) := by decide +kernel
theorem dX14_init_23 : decode cX14_init 23 = .ok (.putfield 17, 3) := by decide +kernel
theorem dX14_init_26 : decode cX14_init 26 = .ok (.aload_n 0, 1) := by decide +kernel
theorem dX14_init_27 : decode cX14_init 27 = .ok (.bipush 18, 2) := by decide +kernel
theorem dX14_init_29 : decode cX14_init 29 = .ok (.newarray .int, 2) := by decide +kernel
theorem dX14_init_31 : decode cX14_init 31 = .ok (.putfield 21, 3) := by decide +kernel
theorem dX14_init_34 : decode cX14_init 34 = .ok (.aload_n 0, 1) := by decide +kernel
theorem dX14_init_35 : decode cX14_init 35 = .ok (.sipush 288, 3) := by decide +kernel
theorem dX14_init_38 : decode cX14_init 38 = .ok (.newarray .int, 2) := by decide +kernel
theorem dX14_init_40 : decode cX14_init 40 = .ok (.putfield 24, 3) := by decide +kernel
theorem dX14_init_43 : decode cX14_init 43 = .ok (.aload_n 0, 1) := by decide +kernel
theorem dX14_init_44 : decode cX14_init 44 = .ok (.bipush 54, 2) := by decide +kernel
theorem dX14_init_46 : decode cX14_init 46 = .ok (.newarray .int, 2) := by decide +kernel
theorem dX14_init_48 : decode cX14_init 48 = .ok (.putfield 27, 3) := by decide +kernel
theorem dX14_init_51 : decode cX14_init 51 = .ok (.aload_n 0, 1) := by decide +kernel
theorem dX14_init_52 : decode cX14_init 52 = .ok (.bipush 72, 2) := by decide +kernel
theorem dX14_init_54 : decode cX14_init 54 = .ok (.newarray .int, 2) := by decide +kernel
theorem dX14_init_56 : decode cX14_init 56 = .ok (.putfield 30, 3) := by decide +kernel
theorem dX14_init_59 : decode cX14_init 59 = .ok (.aload_n 0, 1) := by decide +kernel
theorem dX14_init_60 : decode cX14_init 60 = .ok (.bipush 72, 2) := by decide +kernel
theorem dX14_init_62 : decode cX14_init 62 = .ok (.newarray .int, 2) := by decide +kernel
theorem dX14_init_64 : decode cX14_init 64 = .ok (.putfield 33, 3) := by decide +kernel
theorem dX14_init_67 : decode cX14_init 67 = .ok (.aload_n 0, 1) := by decide +kernel
theorem dX14_init_68 : decode cX14_init 68 = .ok (.bipush 72, 2) := by decide +kernel
theorem dX14_init_70 : decode cX14_init 70 = .ok (.newarray .int, 2) := by decide +kernel
theorem dX14_init_72 : decode cX14_init 72 = .ok (.putfield 36, 3) := by decide +kernel
theorem dX14_init_75 : decode cX14_init 75 = .ok (.aload_n 0, 1) := by decide +kernel
theorem dX14_init_76 : decode cX14_init 76 = .ok (.bipush 32, 2) := by decide +kernel
theorem dX14_init_78 : decode cX14_init 78 = .ok (.newarray .int, 2) := by decide +kernel
theorem dX14_init_80 : decode cX14_init 80 = .ok (.putfield 39, 3) := by decide +kernel
theorem dX14_init_83 : decode cX14_init 83 = .ok (.aload_n 0, 1) := by decide +kernel
theorem dX14_init_84 : decode cX14_init 84 = .ok (.bipush 6, 2) := by decide +kernel
theorem dX14_init_86 : decode cX14_init 86 = .ok (.newarray .int, 2) := by decide +kernel
theorem dX14_init_88 : decode cX14_init 88 = .ok (.putfield 42, 3) := by decide +kernel
theorem dX14_init_91 : decode cX14_init 91 = .ok (.aload_n 0, 1) := by decide +kernel
theorem dX14_init_92 : decode cX14_init 92 = .ok (.bipush 6, 2) := by decide +kernel
theorem dX14_init_94 : decode cX14_init 94 = .ok (.newarray .int, 2) := by decide +kernel
theorem dX14_init_96 : decode cX14_init 96 = .ok (.putfield 45, 3) := by decide +kernel
theorem dX14_init_99 : decode cX14_init 99 = .ok (.aload_n 0, 1) := by decide +kernel
theorem dX14_init_100 : decode cX14_init 100 = .ok (.bipush 81, 2) := by decide +kernel
theorem dX14_init_102 : decode cX14_init 102 = .ok (.newarray .int, 2) := by decide +kernel
theorem dX14_init_104 : decode cX14_init 104 = .ok (.putfield 48, 3) := by decide +kernel
theorem dX14_init_107 : decode cX14_init 107 = .ok (.aload_n 0, 1) := by decide +kernel
theorem dX14_init_108 : decode cX14_init 108 = .ok (.bipush 81, 2) := by decide +kernel
theorem dX14_init_110 : decode cX14_init 110 = .ok (.newarray .int, 2) := by decide +kernel
theorem dX14_init_112 : decode cX14_init 112 = .ok (.putfield 51, 3) := by decide +kernel
theorem dX14_init_115 : decode cX14_init 115 = .ok (.aload_n 0, 1) := by decide +kernel
theorem dX14_init_116 : decode cX14_init 116 = .ok (.sipush 5832, 3) := by decide +kernel
theorem dX14_init_119 : decode cX14_init 119 = .ok (.newarray .int, 2) := by decide +kernel
theorem dX14_init_121 : decode cX14_init 121 = .ok (.putfield 54, 3) := by decide +kernel
theorem dX14_init_124 : decode cX14_init 124 = .ok (.aload_n 0, 1) := by decide +kernel
theorem dX14_init_125 : decode cX14_init 125 = .ok (.bipush 8, 2) := by decide +kernel
theorem dX14_init_127 : decode cX14_init 127 = .ok (.newarray .int, 2) := by decide +kernel
theorem dX14_init_129 : decode cX14_init 129 = .ok (.putfield 57, 3) := by decide +kernel
theorem dX14_init_132 : decode cX14_init 132 = .ok (.aload_n 0, 1) := by decide +kernel
theorem dX14_init_133 : decode cX14_init 133 = .ok (.bipush 6, 2) := by decide +kernel
theorem dX14_init_135 : decode cX14_init 135 = .ok (.newarray .int, 2) := by decide +kernel
theorem dX14_init_137 : decode cX14_init 137 = .ok (.putfield 60, 3) := by decide +kernel
theorem dX14_init_140 : decode cX14_init 140 = .ok (.aload_n 0, 1) := by decide +kernel
theorem dX14_init_141 : decode cX14_init 141 = .ok (.bipush 6, 2) := by decide +kernel
theorem dX14_init_143 : decode cX14_init 143 = .ok (.newarray .int, 2) := by decide +kernel
theorem dX14_init_145 : decode cX14_init 145 = .ok (.putfield 63, 3) := by decide +kernel
theorem dX14_init_148 : decode cX14_init 148 = .ok (.return_, 1) := by decide +kernel
def rX14_init (R : goMR) (n a : Nat) : goMR := (goWR (goWR (goWR (goWR (goWR (goWR (goWR (goWR (goWR (goWR (goWR (goWR (goWR (goWR (goWR (goWR (goWR R a 5 (some n)) a 16 (some (n + 1))) a 18 (some (n + 2))) a 19 (some (n + 3))) a 20 (some (n + 4))) a 23 (some (n + 5))) a 24 (some (n + 6))) a 25 (some (n + 7))) a 26 (some (n + 8))) a 27 (some (n + 9))) a 28 (some (n + 10))) a 29 (some (n + 11))) a 32 (some (n + 12))) a 33 (some (n + 13))) a 34 (some (n + 14))) a 37 (some (n + 15))) a 38 (some (n + 16)))
theorem rX14_init_Z {m n a : Nat} {M : goMI} {L : goML} {R : goMR} (h : a < m ∧ n + 17 ≤ m) (hz : goZe m M L R) : goZe m M L (rX14_init R n a) := by
  unfold rX14_init
  exact (goZe.wR (goZe.wR (goZe.wR (goZe.wR (goZe.wR (goZe.wR (goZe.wR (goZe.wR (goZe.wR (goZe.wR (goZe.wR (goZe.wR (goZe.wR (goZe.wR (goZe.wR (goZe.wR (goZe.wR hz (by omega)) (by omega)) (by omega)) (by omega)) (by omega)) (by omega)) (by omega)) (by omega)) (by omega)) (by omega)) (by omega)) (by omega)) (by omega)) (by omega)) (by omega)) (by omega)) (by omega))
theorem rX14_init_lt {n a b : Nat} {R : goMR} (h : b < a ∧ b < n) : rX14_init R n a b = R b := by
  unfold rX14_init
  rw [goWR_ne (by omega), goWR_ne (by omega), goWR_ne (by omega), goWR_ne (by omega), goWR_ne (by omega), goWR_ne (by omega), goWR_ne (by omega), goWR_ne (by omega), goWR_ne (by omega), goWR_ne (by omega), goWR_ne (by omega), goWR_ne (by omega), goWR_ne (by omega), goWR_ne (by omega), goWR_ne (by omega), goWR_ne (by omega), goWR_ne (by omega)]
def MX14_init (M : goMI) (n a : Nat) : goMI := (goWI M a 2 (-1))
theorem MX14_init_Z {m n a : Nat} {M : goMI} {L : goML} {R : goMR} (h : a < m ∧ n + 17 ≤ m) (hz : goZe m M L R) : goZe m (MX14_init M n a) L R := by
  unfold MX14_init
  exact (goZe.wI hz (by omega))
set_option maxRecDepth 100000 in
set_option maxHeartbeats 4000000 in
theorem mX14_init {E : goEv} {l : Launch} {G : goG} {M : goMI} {L : goML} {R : goMR} {a : Nat} (hk : goKn E) (hs : a < G.2 ∧ G.1 a = (0, 12)) (hz : goZe G.2 M L R) (hle : G.2 + 17 ≤ 1000000) : Met l yX14_init (goCd yX14_init cX14_init 1 none) (goRoom 1 40 17 7842) (goPre E [.ref a] G M L R) (goQv E (goGb G [(2, 1200), (1, 8), (1, 18), (1, 288), (1, 54), (1, 72), (1, 72), (1, 72), (1, 32), (1, 6), (1, 6), (1, 81), (1, 81), (1, 5832), (1, 8), (1, 6), (1, 6)]) (MX14_init M G.2 a) L (rX14_init R G.2 a)) 17 7842 (goSet E) := by
  have ha := hs.1
  refine goMet pl_RX14 hk (lv := [some (.ref a)]) rfl (Nat.le_of_ble_eq_true rfl) ?_
  intro X hc hl hR hr hnm
  subst hl
  refine go_gnil ?_
  refine go_aload0 hc dX14_init_0 ?_
  refine go_objInit hc dX14_init_1 wml_RX14_3 hR rfl rfl (Nat.le_of_ble_eq_true rfl) ?_
  refine go_aload0 hc dX14_init_4 ?_
  refine go_iconst (v := (-1)) hc dX14_init_5 rfl ?_
  refine go_putI hc lk_RX14_9 dX14_init_6 (goGb_lt hs) ?_
  refine go_aload0 hc dX14_init_9 ?_
  refine go_sipush (v := 1200) hc dX14_init_10 rfl ?_
  refine go_newa2 hc (j := 0) (N := 1200) rfl dX14_init_13 rfl (by decide) (Nat.le_of_ble_eq_true rfl) ((hz.mono (by omega)).wI (by omega)) (by omega) hR rfl ?_
  refine go_putFR hc (.array .byte) lkf_RX14_13 hnm (by decide +kernel) (fun _ => ⟨rfl, rfl⟩) dX14_init_15 (goGb_lt hs) ?_
  refine go_aload0 hc dX14_init_18 ?_
  refine go_bipush (v := 8) hc dX14_init_19 rfl ?_
  refine go_newa1 hc (j := 1) (N := 8) rfl dX14_init_21 rfl (by decide) (Nat.le_of_ble_eq_true rfl) (((hz.mono (by omega)).wI (by omega)).wR (by omega)) (by omega) hR rfl ?_
  refine go_putFR hc (.array .int) lkf_RX14_17 hnm (by decide +kernel) (fun _ => ⟨rfl, rfl⟩) dX14_init_23 (goGb_lt hs) ?_
  refine go_aload0 hc dX14_init_26 ?_
  refine go_bipush (v := 18) hc dX14_init_27 rfl ?_
  refine go_newa1 hc (j := 2) (N := 18) rfl dX14_init_29 rfl (by decide) (Nat.le_of_ble_eq_true rfl) ((((hz.mono (by omega)).wI (by omega)).wR (by omega)).wR (by omega)) (by omega) hR rfl ?_
  refine go_putFR hc (.array .int) lkf_RX14_21 hnm (by decide +kernel) (fun _ => ⟨rfl, rfl⟩) dX14_init_31 (goGb_lt hs) ?_
  refine go_aload0 hc dX14_init_34 ?_
  refine go_sipush (v := 288) hc dX14_init_35 rfl ?_
  refine go_newa1 hc (j := 3) (N := 288) rfl dX14_init_38 rfl (by decide) (Nat.le_of_ble_eq_true rfl) (((((hz.mono (by omega)).wI (by omega)).wR (by omega)).wR (by omega)).wR (by omega)) (by omega) hR rfl ?_
  refine go_putFR hc (.array .int) lkf_RX14_24 hnm (by decide +kernel) (fun _ => ⟨rfl, rfl⟩) dX14_init_40 (goGb_lt hs) ?_
  refine go_aload0 hc dX14_init_43 ?_
  refine go_bipush (v := 54) hc dX14_init_44 rfl ?_
  refine go_newa1 hc (j := 4) (N := 54) rfl dX14_init_46 rfl (by decide) (Nat.le_of_ble_eq_true rfl) ((((((hz.mono (by omega)).wI (by omega)).wR (by omega)).wR (by omega)).wR (by omega)).wR (by omega)) (by omega) hR rfl ?_
  refine go_putFR hc (.array .int) lkf_RX14_27 hnm (by decide +kernel) (fun _ => ⟨rfl, rfl⟩) dX14_init_48 (goGb_lt hs) ?_
  refine go_aload0 hc dX14_init_51 ?_
  refine go_bipush (v := 72) hc dX14_init_52 rfl ?_
  refine go_newa1 hc (j := 5) (N := 72) rfl dX14_init_54 rfl (by decide) (Nat.le_of_ble_eq_true rfl) (((((((hz.mono (by omega)).wI (by omega)).wR (by omega)).wR (by omega)).wR (by omega)).wR (by omega)).wR (by omega)) (by omega) hR rfl ?_
  refine go_putFR hc (.array .int) lkf_RX14_30 hnm (by decide +kernel) (fun _ => ⟨rfl, rfl⟩) dX14_init_56 (goGb_lt hs) ?_
  refine go_aload0 hc dX14_init_59 ?_
  refine go_bipush (v := 72) hc dX14_init_60 rfl ?_
  refine go_newa1 hc (j := 6) (N := 72) rfl dX14_init_62 rfl (by decide) (Nat.le_of_ble_eq_true rfl) ((((((((hz.mono (by omega)).wI (by omega)).wR (by omega)).wR (by omega)).wR (by omega)).wR (by omega)).wR (by omega)).wR (by omega)) (by omega) hR rfl ?_
  refine go_putFR hc (.array .int) lkf_RX14_33 hnm (by decide +kernel) (fun _ => ⟨rfl, rfl⟩) dX14_init_64 (goGb_lt hs) ?_
  refine go_aload0 hc dX14_init_67 ?_
  refine go_bipush (v := 72) hc dX14_init_68 rfl ?_
  refine go_newa1 hc (j := 7) (N := 72) rfl dX14_init_70 rfl (by decide) (Nat.le_of_ble_eq_true rfl) (((((((((hz.mono (by omega)).wI (by omega)).wR (by omega)).wR (by omega)).wR (by omega)).wR (by omega)).wR (by omega)).wR (by omega)).wR (by omega)) (by omega) hR rfl ?_
  refine go_putFR hc (.array .int) lkf_RX14_36 hnm (by decide +kernel) (fun _ => ⟨rfl, rfl⟩) dX14_init_72 (goGb_lt hs) ?_
  refine go_aload0 hc dX14_init_75 ?_
  refine go_bipush (v := 32) hc dX14_init_76 rfl ?_
  refine go_newa1 hc (j := 8) (N := 32) rfl dX14_init_78 rfl (by decide) (Nat.le_of_ble_eq_true rfl) ((((((((((hz.mono (by omega)).wI (by omega)).wR (by omega)).wR (by omega)).wR (by omega)).wR (by omega)).wR (by omega)).wR (by omega)).wR (by omega)).wR (by omega)) (by omega) hR rfl ?_
  refine go_putFR hc (.array .int) lkf_RX14_39 hnm (by decide +kernel) (fun _ => ⟨rfl, rfl⟩) dX14_init_80 (goGb_lt hs) ?_
  refine go_aload0 hc dX14_init_83 ?_
  refine go_bipush (v := 6) hc dX14_init_84 rfl ?_
  refine go_newa1 hc (j := 9) (N := 6) rfl dX14_init_86 rfl (by decide) (Nat.le_of_ble_eq_true rfl) (((((((((((hz.mono (by omega)).wI (by omega)).wR (by omega)).wR (by omega)).wR (by omega)).wR (by omega)).wR (by omega)).wR (by omega)).wR (by omega)).wR (by omega)).wR (by omega)) (by omega) hR rfl ?_
  refine go_putFR hc (.array .int) lkf_RX14_42 hnm (by decide +kernel) (fun _ => ⟨rfl, rfl⟩) dX14_init_88 (goGb_lt hs) ?_
  refine go_aload0 hc dX14_init_91 ?_
  refine go_bipush (v := 6) hc dX14_init_92 rfl ?_
  refine go_newa1 hc (j := 10) (N := 6) rfl dX14_init_94 rfl (by decide) (Nat.le_of_ble_eq_true rfl) ((((((((((((hz.mono (by omega)).wI (by omega)).wR (by omega)).wR (by omega)).wR (by omega)).wR (by omega)).wR (by omega)).wR (by omega)).wR (by omega)).wR (by omega)).wR (by omega)).wR (by omega)) (by omega) hR rfl ?_
  refine go_putFR hc (.array .int) lkf_RX14_45 hnm (by decide +kernel) (fun _ => ⟨rfl, rfl⟩) dX14_init_96 (goGb_lt hs) ?_
  refine go_aload0 hc dX14_init_99 ?_
  refine go_bipush (v := 81) hc dX14_init_100 rfl ?_
  refine go_newa1 hc (j := 11) (N := 81) rfl dX14_init_102 rfl (by decide) (Nat.le_of_ble_eq_true rfl) (((((((((((((hz.mono (by omega)).wI (by omega)).wR (by omega)).wR (by omega)).wR (by omega)).wR (by omega)).wR (by omega)).wR (by omega)).wR (by omega)).wR (by omega)).wR (by omega)).wR (by omega)).wR (by omega)) (by omega) hR rfl ?_
  refine go_putFR hc (.array .int) lkf_RX14_48 hnm (by decide +kernel) (fun _ => ⟨rfl, rfl⟩) dX14_init_104 (goGb_lt hs) ?_
  refine go_aload0 hc dX14_init_107 ?_
  refine go_bipush (v := 81) hc dX14_init_108 rfl ?_
  refine go_newa1 hc (j := 12) (N := 81) rfl dX14_init_110 rfl (by decide) (Nat.le_of_ble_eq_true rfl) ((((((((((((((hz.mono (by omega)).wI (by omega)).wR (by omega)).wR (by omega)).wR (by omega)).wR (by omega)).wR (by omega)).wR (by omega)).wR (by omega)).wR (by omega)).wR (by omega)).wR (by omega)).wR (by omega)).wR (by omega)) (by omega) hR rfl ?_
  refine go_putFR hc (.array .int) lkf_RX14_51 hnm (by decide +kernel) (fun _ => ⟨rfl, rfl⟩) dX14_init_112 (goGb_lt hs) ?_
  refine go_aload0 hc dX14_init_115 ?_
  refine go_sipush (v := 5832) hc dX14_init_116 rfl ?_
  refine go_newa1 hc (j := 13) (N := 5832) rfl dX14_init_119 rfl (by decide) (Nat.le_of_ble_eq_true rfl) (((((((((((((((hz.mono (by omega)).wI (by omega)).wR (by omega)).wR (by omega)).wR (by omega)).wR (by omega)).wR (by omega)).wR (by omega)).wR (by omega)).wR (by omega)).wR (by omega)).wR (by omega)).wR (by omega)).wR (by omega)).wR (by omega)) (by omega) hR rfl ?_
  refine go_putFR hc (.array .int) lkf_RX14_54 hnm (by decide +kernel) (fun _ => ⟨rfl, rfl⟩) dX14_init_121 (goGb_lt hs) ?_
  refine go_aload0 hc dX14_init_124 ?_
  refine go_bipush (v := 8) hc dX14_init_125 rfl ?_
  refine go_newa1 hc (j := 14) (N := 8) rfl dX14_init_127 rfl (by decide) (Nat.le_of_ble_eq_true rfl) ((((((((((((((((hz.mono (by omega)).wI (by omega)).wR (by omega)).wR (by omega)).wR (by omega)).wR (by omega)).wR (by omega)).wR (by omega)).wR (by omega)).wR (by omega)).wR (by omega)).wR (by omega)).wR (by omega)).wR (by omega)).wR (by omega)).wR (by omega)) (by omega) hR rfl ?_
  refine go_putFR hc (.array .int) lkf_RX14_57 hnm (by decide +kernel) (fun _ => ⟨rfl, rfl⟩) dX14_init_129 (goGb_lt hs) ?_
  refine go_aload0 hc dX14_init_132 ?_
  refine go_bipush (v := 6) hc dX14_init_133 rfl ?_
  refine go_newa1 hc (j := 15) (N := 6) rfl dX14_init_135 rfl (by decide) (Nat.le_of_ble_eq_true rfl) (((((((((((((((((hz.mono (by omega)).wI (by omega)).wR (by omega)).wR (by omega)).wR (by omega)).wR (by omega)).wR (by omega)).wR (by omega)).wR (by omega)).wR (by omega)).wR (by omega)).wR (by omega)).wR (by omega)).wR (by omega)).wR (by omega)).wR (by omega)).wR (by omega)) (by omega) hR rfl ?_
  refine go_putFR hc (.array .int) lkf_RX14_60 hnm (by decide +kernel) (fun _ => ⟨rfl, rfl⟩) dX14_init_137 (goGb_lt hs) ?_
  refine go_aload0 hc dX14_init_140 ?_
  refine go_bipush (v := 6) hc dX14_init_141 rfl ?_
  refine go_newa1 hc (j := 16) (N := 6) rfl dX14_init_143 rfl (by decide) (Nat.le_of_ble_eq_true rfl) ((((((((((((((((((hz.mono (by omega)).wI (by omega)).wR (by omega)).wR (by omega)).wR (by omega)).wR (by omega)).wR (by omega)).wR (by omega)).wR (by omega)).wR (by omega)).wR (by omega)).wR (by omega)).wR (by omega)).wR (by omega)).wR (by omega)).wR (by omega)).wR (by omega)).wR (by omega)) (by omega) hR rfl ?_
  refine go_putFR hc (.array .int) lkf_RX14_63 hnm (by decide +kernel) (fun _ => ⟨rfl, rfl⟩) dX14_init_145 (goGb_lt hs) ?_
  exact go_vret hc dX14_init_148 hr
def goMsh : List (Nat × Nat) := [(0, 11), (1, 32), (1, 14), (1, 14), (1, 4), (1, 144), (1, 6), (1, 6), (1, 6), (1, 24), (1, 6), (1, 6), (1, 6), (1, 10), (1, 10), (1, 10), (1, 10), (1, 8), (1, 8), (1, 8), (1, 6), (1, 6), (1, 4), (4, 40), (1, 40), (1, 40)]
def goNewR (R : goMR) (g : Nat) : goMR := goWR (rX13_init (goClR R g) (g + 1) g) 102 4 (some g)
theorem goW_hill {G : goG} {R : goMR} (hW : goW G R) : goW (goGb G goMsh) (goNewR R G.2) := by
  obtain ⟨h1, h2, h3, h4, h5⟩ := hW
  have hlt : ∀ b, b < G.2 → b ≠ 102 → goNewR R G.2 b = R b := by
    intro b hb h9
    unfold goNewR
    rw [goWR_ne h9, rX13_init_lt (by omega), goClR_lt hb]
  have h102 : ∀ k, k ≠ 4 → goNewR R G.2 102 k = R 102 k := by
    intro k hk
    unfold goNewR
    rw [goWR_k hk, rX13_init_lt (by omega), goClR_lt (by omega)]
  have hG : ∀ b, b < G.2 → (goGb G goMsh).1 b = G.1 b := fun b hb => by show (if b < G.2 then _ else _) = _; rw [if_pos hb]
  have hnew : goIsM (goGb G goMsh) (goNewR R G.2) G.2 := by
    refine ⟨h1, Nat.le_refl _, fun j hj => ?_, fun q hq => ?_⟩
    · show (if G.2 + j < G.2 then _ else _) = _
      rw [if_neg (by omega), Nat.add_sub_cancel_left]
      rfl
    · unfold goNewR
      rw [goWR_ne (by omega)]
      unfold rX13_init
      simp only [goFxM, List.mem_cons, List.not_mem_nil, or_false] at hq
      rcases hq with rfl | rfl | rfl | rfl | rfl | rfl | rfl | rfl | rfl | rfl | rfl | rfl | rfl | rfl | rfl | rfl | rfl | rfl | rfl | rfl | rfl | rfl | rfl | rfl | rfl <;> simp [goWR]
  have hold : ∀ b, goIsM G R b → goIsM (goGb G goMsh) (goNewR R G.2) b := by
    rintro b ⟨g1, g2, g3, g4⟩
    refine ⟨g1, Nat.le_trans g2 (Nat.le_add_right _ _), fun j hj => ?_, fun q hq => ?_⟩
    · rw [hG _ (by omega)]; exact g3 j hj
    · rw [hlt b (by omega) (by omega)]; exact g4 q hq
  refine ⟨Nat.le_trans h1 (Nat.le_add_right _ _), fun a ha => ?_, fun q hq => ?_, fun q hq => ?_, fun j hj b hb => ?_⟩
  · rw [hG a (by omega)]; exact h2 a ha
  · have hq1 : q.1 < 121 := (show ∀ q ∈ goFx, q.1 < 121 by decide +kernel) q hq
    have hq2 : q.1 ≠ 102 ∨ q.2.1 ≠ 4 := (show ∀ q ∈ goFx, q.1 ≠ 102 ∨ q.2.1 ≠ 4 by decide +kernel) q hq
    rw [← h3 q hq]
    by_cases e : q.1 = 102
    · rw [e]; exact h102 _ (hq2.elim (fun h => absurd e h) id)
    · rw [hlt _ (by omega) e]
  · obtain ⟨x, hx, hm⟩ := h4 q hq
    have hq1 : q.1 < 121 ∧ q.1 ≠ 102 := (show ∀ q ∈ goMu, q.1 < 121 ∧ q.1 ≠ 102 by decide +kernel) q hq
    exact ⟨x, by rw [hlt _ (by omega) hq1.2]; exact hx, hm⟩
  · by_cases e : j = 4
    · subst e
      have : goNewR R G.2 102 4 = some G.2 := by unfold goNewR; exact goWR_eq
      rw [this] at hb
      cases hb
      exact hnew
    · rw [h102 j e] at hb
      exact hold b (h5 j hj b hb)
