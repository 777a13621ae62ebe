def goG0 : goG := (fun _ => (0, 0), 0)
def goSh1 : List (Nat × Nat) := (0, 10) :: ([(0, 9), (2, 1200), (0, 0), (1, 26), (1, 16), (1, 78), (0, 5), (1, 8), (1, 8), (1, 14), (1, 14), (1, 4), (1, 4), (1, 144), (1, 4), (0, 4), (1, 6), (1, 6), (1, 6), (1, 6), (1, 6), (1, 24), (1, 6), (1, 10), (1, 10), (1, 10), (1, 10), (0, 6), (1, 8), (1, 8), (1, 8), (0, 1), (1, 6), (1, 6), (4, 64), (1, 64), (0, 5), (1, 8), (1, 8), (1, 14), (1, 14), (1, 4), (1, 4), (1, 144), (1, 4), (0, 4), (1, 6), (1, 6), (1, 6), (1, 6), (1, 6), (1, 24), (1, 6), (1, 10), (1, 10), (1, 10), (1, 10), (0, 6), (1, 8), (1, 8), (1, 8), (0, 1), (1, 6), (1, 6), (4, 64), (1, 64), (0, 8), (4, 32), (1, 32), (1, 32), (1, 15), (1, 8), (4, 18), (0, 3), (1, 81), (2, 5832), (1, 8), (0, 2), (1, 14), (1, 24), (1, 8), (1, 72), (1, 72), (1, 72), (1, 24), (1, 192), (1, 6), (0, 7), (1, 182), (1, 182), (3, 96), (0, 2), (1, 14), (1, 24), (1, 8), (1, 72), (1, 72), (1, 72), (1, 24), (1, 192), (1, 6)] ++ ((0, 12) :: ([(2, 1200), (1, 8), (1, 18), (1, 288), (1, 54), (1, 72), (1, 72), (1, 72), (1, 32), (1, 6), (1, 6), (1, 81), (1, 81), (1, 5832), (1, 8), (1, 6), (1, 6)] ++ [(4, 1)])))
def goG1 : goG := goGb goG0 goSh1
def goM1 : goMI := MX14_init (MX12_init (fun _ _ => 0) 1 0) 103 102
def goL1 : goML := LX9_init (fun _ _ => 0) 68
def goR1 : goMR := rX14_init (rX12_init (fun _ _ => none) 1 0) 103 102
theorem goZ0 : goZe 0 (fun _ _ => 0) (fun _ _ => 0) (fun _ _ => none) := fun _ _ _ => ⟨rfl, rfl, rfl⟩
theorem goZ1 : goZe 102 (MX12_init (fun _ _ => 0) 1 0) goL1 (rX12_init (fun _ _ => none) 1 0) := rX12_init_Z (by omega) (MX12_init_Z (by omega) (LX9_init_Z (by omega) (goZ0.mono (by omega))))
theorem goZ2 : goZe 120 goM1 goL1 goR1 := rX14_init_Z (by omega) (MX14_init_Z (by omega) (goZ1.mono (by omega)))
set_option maxRecDepth 100000 in
set_option maxHeartbeats 4000000 in
theorem law_begin {E : goEv} {X : goX} {Q : State → Prop} (hc : goCx E X code RL 7) (hk : goKn E) (hR : X.2.2.2.1 = goRoom 16 614 601024 7293034)
    (kx : goA E X goG1 121 18000 Q 23 [some (.ref 1000800), some (.ref 0), some (.ref 102), some (.ref 120), some (.int 0), none, none] [] goM1 goL1 goR1) : goA E X goG0 0 0 Q 0 [some (.ref 1000800), none, none, none, none, none, none] [] (fun _ _ => 0) (fun _ _ => 0) (fun _ _ => none) := by
  refine go_gnil ?_
  refine go_new hc (j := 0) rfl dL_law_0 wcl_RL_8 wia_RX12 win_RX12 cl_10 df_10 goZ0 (Nat.le_of_ble_eq_true rfl) hR rfl ?_
  refine go_dupr hc dL_law_3 ?_
  refine go_callIv hc dL_law_4 (mX12_init hk (goGb_at 0 (Nat.le_of_ble_eq_true rfl) rfl) (goZ0.mono (Nat.zero_le _)) (Nat.le_of_ble_eq_true rfl)) ml_RL_15 yk_X12_init wim_X12_init rfl hR rfl rfl rfl (Nat.le_of_ble_eq_true rfl) rfl ?_
  refine go_gapp ?_
  refine go_astore1 hc dL_law_7 ?_
  refine go_new hc (j := 102) rfl dL_law_8 wcl_RL_16 wia_RX14 win_RX14 cl_12 df_12 goZ1 (Nat.le_of_ble_eq_true rfl) hR rfl ?_
  refine go_dupr hc dL_law_11 ?_
  refine go_callIv hc dL_law_12 (mX14_init hk (goGb_at 102 (Nat.le_of_ble_eq_true rfl) rfl) (goZ1.mono (by show 102 ≤ 103; omega)) (Nat.le_of_ble_eq_true rfl)) ml_RL_18 yk_X14_init wim_X14_init rfl hR rfl rfl rfl (Nat.le_of_ble_eq_true rfl) rfl ?_
  refine go_gapp ?_
  refine go_astore2 hc dL_law_15 ?_
  refine go_iconst (v := 1) hc dL_law_16 rfl ?_
  refine go_newa4 hc (N := 1) (j := 120) rfl dL_law_17 rfl (by decide) (Nat.le_of_ble_eq_true rfl) goZ2 (Nat.le_of_ble_eq_true rfl) hR rfl ?_
  refine go_astore3 hc dL_law_19 ?_
  refine go_iconst (v := 0) hc dL_law_20 rfl ?_
  refine go_istore4 hc dL_law_21 ?_
  exact go_widen (Nat.le_of_ble_eq_true rfl) (Nat.le_of_ble_eq_true rfl) kx
