/-! THE LAYOUT: the first 121 cells that the law makes; GoatCourt at 0, GoatCourtModel at 102 -/
def goSh (a : Nat) : Nat × Nat := ([(0, 10), (0, 9), (2, 1200), (0, 0), (1, 26), (1, 16), (1, 78), (0, 5), (1, 8), (1, 8), (1, 14), (1, 14), (1, 4), (1, 4), (1, 144), (1, 4), (0, 4), (1, 6), (1, 6), (1, 6), (1, 6), (1, 6), (1, 24), (1, 6), (1, 10), (1, 10), (1, 10), (1, 10), (0, 6), (1, 8), (1, 8), (1, 8), (0, 1), (1, 6), (1, 6), (4, 64), (1, 64), (0, 5), (1, 8), (1, 8), (1, 14), (1, 14), (1, 4), (1, 4), (1, 144), (1, 4), (0, 4), (1, 6), (1, 6), (1, 6), (1, 6), (1, 6), (1, 24), (1, 6), (1, 10), (1, 10), (1, 10), (1, 10), (0, 6), (1, 8), (1, 8), (1, 8), (0, 1), (1, 6), (1, 6), (4, 64), (1, 64), (0, 8), (4, 32), (1, 32), (1, 32), (1, 15), (1, 8), (4, 18), (0, 3), (1, 81), (2, 5832), (1, 8), (0, 2), (1, 14), (1, 24), (1, 8), (1, 72), (1, 72), (1, 72), (1, 24), (1, 192), (1, 6), (0, 7), (1, 182), (1, 182), (3, 96), (0, 2), (1, 14), (1, 24), (1, 8), (1, 72), (1, 72), (1, 72), (1, 24), (1, 192), (1, 6), (0, 12), (2, 1200), (1, 8), (1, 18), (1, 288), (1, 54), (1, 72), (1, 72), (1, 72), (1, 32), (1, 6), (1, 6), (1, 81), (1, 81), (1, 5832), (1, 8), (1, 6), (1, 6), (4, 1)] : List (Nat × Nat)).getD a (0, 0)
def goFx : List (Nat × Nat × Nat) := [(0, 0, 1), (0, 1, 67), (0, 2, 3), (0, 3, 74), (0, 4, 88), (1, 0, 2), (3, 0, 4), (3, 1, 5), (3, 2, 6), (7, 7, 8), (7, 8, 9), (7, 9, 10), (7, 10, 11), (7, 11, 12), (7, 12, 13), (7, 13, 14), (7, 14, 15), (7, 15, 16), (7, 16, 28), (7, 17, 32), (16, 2, 17), (16, 3, 18), (16, 4, 19), (16, 5, 20), (16, 6, 21), (16, 7, 22), (16, 8, 23), (16, 9, 24), (16, 10, 25), (16, 11, 26), (16, 12, 27), (28, 4, 29), (28, 5, 30), (28, 6, 31), (32, 1, 33), (32, 2, 34), (32, 3, 35), (32, 4, 36), (37, 7, 38), (37, 8, 39), (37, 9, 40), (37, 10, 41), (37, 11, 42), (37, 12, 43), (37, 13, 44), (37, 14, 45), (37, 15, 46), (37, 16, 58), (37, 17, 62), (46, 2, 47), (46, 3, 48), (46, 4, 49), (46, 5, 50), (46, 6, 51), (46, 7, 52), (46, 8, 53), (46, 9, 54), (46, 10, 55), (46, 11, 56), (46, 12, 57), (58, 4, 59), (58, 5, 60), (58, 6, 61), (62, 1, 63), (62, 2, 64), (62, 3, 65), (62, 4, 66), (67, 1, 68), (67, 2, 69), (67, 3, 70), (67, 4, 71), (67, 5, 72), (67, 6, 73), (74, 1, 78), (74, 3, 75), (74, 4, 76), (74, 5, 77), (78, 2, 79), (78, 3, 80), (78, 4, 81), (78, 5, 82), (78, 6, 83), (78, 7, 84), (78, 8, 85), (78, 9, 86), (78, 10, 87), (88, 0, 92), (88, 1, 89), (88, 2, 90), (88, 3, 91), (92, 2, 93), (92, 3, 94), (92, 4, 95), (92, 5, 96), (92, 6, 97), (92, 7, 98), (92, 8, 99), (92, 9, 100), (92, 10, 101), (102, 5, 103), (102, 16, 104), (102, 18, 105), (102, 19, 106), (102, 20, 107), (102, 23, 108), (102, 24, 109), (102, 25, 110), (102, 26, 111), (102, 27, 112), (102, 28, 113), (102, 29, 114), (102, 32, 115), (102, 33, 116), (102, 34, 117), (102, 37, 118), (102, 38, 119), (67, 0, 1), (74, 0, 3), (78, 0, 3), (92, 0, 3)]
def goMu : List (Nat × Nat) := [(0, 6), (0, 5), (78, 1), (92, 1), (74, 2), (67, 7)]
def goShM (j : Nat) : Nat × Nat := ([(0, 11), (1, 32), (1, 14), (1, 14), (1, 4), (1, 144), (1, 6), (1, 6), (1, 6), (1, 24), (1, 6), (1, 6), (1, 6), (1, 10), (1, 10), (1, 10), (1, 10), (1, 8), (1, 8), (1, 8), (1, 6), (1, 6), (1, 4), (4, 40), (1, 40), (1, 40)] : List (Nat × Nat)).getD j (0, 0)
def goFxM : List (Nat × Nat) := [(16, 1), (17, 2), (18, 3), (19, 4), (20, 5), (21, 6), (22, 7), (23, 8), (24, 9), (25, 10), (26, 11), (27, 12), (28, 13), (29, 14), (30, 15), (31, 16), (32, 17), (33, 18), (34, 19), (35, 20), (36, 21), (37, 22), (38, 23), (39, 24), (40, 25)]
def goIsM (G : goG) (R : goMR) (b : Nat) : Prop := 121 ≤ b ∧ b + 26 ≤ G.2 ∧ (∀ j, j < 26 → G.1 (b + j) = goShM j) ∧ ∀ q ∈ goFxM, R b q.1 = some (b + q.2)
def goW (G : goG) (R : goMR) : Prop := 121 ≤ G.2 ∧ (∀ a, a < 121 → G.1 a = goSh a) ∧ (∀ q ∈ goFx, R q.1 q.2.1 = some q.2.2) ∧ (∀ q ∈ goMu, ∃ x, R q.1 q.2 = some x ∧ (x = 7 ∨ x = 37)) ∧ ∀ k, k = 3 ∨ k = 4 → ∀ b, R 102 k = some b → goIsM G R b
section goLay
variable {G : goG} {R : goMR}
theorem sh_0 (hW : goW G R) : 0 < G.2 ∧ G.1 0 = (0, 10) := ⟨Nat.lt_of_lt_of_le (Nat.le_of_ble_eq_true rfl) hW.1, hW.2.1 0 (Nat.le_of_ble_eq_true rfl)⟩
theorem sh_1 (hW : goW G R) : 1 < G.2 ∧ G.1 1 = (0, 9) := ⟨Nat.lt_of_lt_of_le (Nat.le_of_ble_eq_true rfl) hW.1, hW.2.1 1 (Nat.le_of_ble_eq_true rfl)⟩
theorem sh_2 (hW : goW G R) : 2 < G.2 ∧ G.1 2 = (2, 1200) := ⟨Nat.lt_of_lt_of_le (Nat.le_of_ble_eq_true rfl) hW.1, hW.2.1 2 (Nat.le_of_ble_eq_true rfl)⟩
theorem sh_3 (hW : goW G R) : 3 < G.2 ∧ G.1 3 = (0, 0) := ⟨Nat.lt_of_lt_of_le (Nat.le_of_ble_eq_true rfl) hW.1, hW.2.1 3 (Nat.le_of_ble_eq_true rfl)⟩
theorem sh_4 (hW : goW G R) : 4 < G.2 ∧ G.1 4 = (1, 26) := ⟨Nat.lt_of_lt_of_le (Nat.le_of_ble_eq_true rfl) hW.1, hW.2.1 4 (Nat.le_of_ble_eq_true rfl)⟩
theorem sh_5 (hW : goW G R) : 5 < G.2 ∧ G.1 5 = (1, 16) := ⟨Nat.lt_of_lt_of_le (Nat.le_of_ble_eq_true rfl) hW.1, hW.2.1 5 (Nat.le_of_ble_eq_true rfl)⟩
theorem sh_6 (hW : goW G R) : 6 < G.2 ∧ G.1 6 = (1, 78) := ⟨Nat.lt_of_lt_of_le (Nat.le_of_ble_eq_true rfl) hW.1, hW.2.1 6 (Nat.le_of_ble_eq_true rfl)⟩
theorem sh_7 (hW : goW G R) : 7 < G.2 ∧ G.1 7 = (0, 5) := ⟨Nat.lt_of_lt_of_le (Nat.le_of_ble_eq_true rfl) hW.1, hW.2.1 7 (Nat.le_of_ble_eq_true rfl)⟩
theorem sh_8 (hW : goW G R) : 8 < G.2 ∧ G.1 8 = (1, 8) := ⟨Nat.lt_of_lt_of_le (Nat.le_of_ble_eq_true rfl) hW.1, hW.2.1 8 (Nat.le_of_ble_eq_true rfl)⟩
theorem sh_9 (hW : goW G R) : 9 < G.2 ∧ G.1 9 = (1, 8) := ⟨Nat.lt_of_lt_of_le (Nat.le_of_ble_eq_true rfl) hW.1, hW.2.1 9 (Nat.le_of_ble_eq_true rfl)⟩
theorem sh_10 (hW : goW G R) : 10 < G.2 ∧ G.1 10 = (1, 14) := ⟨Nat.lt_of_lt_of_le (Nat.le_of_ble_eq_true rfl) hW.1, hW.2.1 10 (Nat.le_of_ble_eq_true rfl)⟩
theorem sh_11 (hW : goW G R) : 11 < G.2 ∧ G.1 11 = (1, 14) := ⟨Nat.lt_of_lt_of_le (Nat.le_of_ble_eq_true rfl) hW.1, hW.2.1 11 (Nat.le_of_ble_eq_true rfl)⟩
theorem sh_12 (hW : goW G R) : 12 < G.2 ∧ G.1 12 = (1, 4) := ⟨Nat.lt_of_lt_of_le (Nat.le_of_ble_eq_true rfl) hW.1, hW.2.1 12 (Nat.le_of_ble_eq_true rfl)⟩
theorem sh_13 (hW : goW G R) : 13 < G.2 ∧ G.1 13 = (1, 4) := ⟨Nat.lt_of_lt_of_le (Nat.le_of_ble_eq_true rfl) hW.1, hW.2.1 13 (Nat.le_of_ble_eq_true rfl)⟩
theorem sh_14 (hW : goW G R) : 14 < G.2 ∧ G.1 14 = (1, 144) := ⟨Nat.lt_of_lt_of_le (Nat.le_of_ble_eq_true rfl) hW.1, hW.2.1 14 (Nat.le_of_ble_eq_true rfl)⟩
theorem sh_15 (hW : goW G R) : 15 < G.2 ∧ G.1 15 = (1, 4) := ⟨Nat.lt_of_lt_of_le (Nat.le_of_ble_eq_true rfl) hW.1, hW.2.1 15 (Nat.le_of_ble_eq_true rfl)⟩
theorem sh_16 (hW : goW G R) : 16 < G.2 ∧ G.1 16 = (0, 4) := ⟨Nat.lt_of_lt_of_le (Nat.le_of_ble_eq_true rfl) hW.1, hW.2.1 16 (Nat.le_of_ble_eq_true rfl)⟩
theorem sh_17 (hW : goW G R) : 17 < G.2 ∧ G.1 17 = (1, 6) := ⟨Nat.lt_of_lt_of_le (Nat.le_of_ble_eq_true rfl) hW.1, hW.2.1 17 (Nat.le_of_ble_eq_true rfl)⟩
theorem sh_18 (hW : goW G R) : 18 < G.2 ∧ G.1 18 = (1, 6) := ⟨Nat.lt_of_lt_of_le (Nat.le_of_ble_eq_true rfl) hW.1, hW.2.1 18 (Nat.le_of_ble_eq_true rfl)⟩
theorem sh_19 (hW : goW G R) : 19 < G.2 ∧ G.1 19 = (1, 6) := ⟨Nat.lt_of_lt_of_le (Nat.le_of_ble_eq_true rfl) hW.1, hW.2.1 19 (Nat.le_of_ble_eq_true rfl)⟩
theorem sh_20 (hW : goW G R) : 20 < G.2 ∧ G.1 20 = (1, 6) := ⟨Nat.lt_of_lt_of_le (Nat.le_of_ble_eq_true rfl) hW.1, hW.2.1 20 (Nat.le_of_ble_eq_true rfl)⟩
theorem sh_21 (hW : goW G R) : 21 < G.2 ∧ G.1 21 = (1, 6) := ⟨Nat.lt_of_lt_of_le (Nat.le_of_ble_eq_true rfl) hW.1, hW.2.1 21 (Nat.le_of_ble_eq_true rfl)⟩
theorem sh_22 (hW : goW G R) : 22 < G.2 ∧ G.1 22 = (1, 24) := ⟨Nat.lt_of_lt_of_le (Nat.le_of_ble_eq_true rfl) hW.1, hW.2.1 22 (Nat.le_of_ble_eq_true rfl)⟩
theorem sh_23 (hW : goW G R) : 23 < G.2 ∧ G.1 23 = (1, 6) := ⟨Nat.lt_of_lt_of_le (Nat.le_of_ble_eq_true rfl) hW.1, hW.2.1 23 (Nat.le_of_ble_eq_true rfl)⟩
theorem sh_24 (hW : goW G R) : 24 < G.2 ∧ G.1 24 = (1, 10) := ⟨Nat.lt_of_lt_of_le (Nat.le_of_ble_eq_true rfl) hW.1, hW.2.1 24 (Nat.le_of_ble_eq_true rfl)⟩
theorem sh_25 (hW : goW G R) : 25 < G.2 ∧ G.1 25 = (1, 10) := ⟨Nat.lt_of_lt_of_le (Nat.le_of_ble_eq_true rfl) hW.1, hW.2.1 25 (Nat.le_of_ble_eq_true rfl)⟩
theorem sh_26 (hW : goW G R) : 26 < G.2 ∧ G.1 26 = (1, 10) := ⟨Nat.lt_of_lt_of_le (Nat.le_of_ble_eq_true rfl) hW.1, hW.2.1 26 (Nat.le_of_ble_eq_true rfl)⟩
theorem sh_27 (hW : goW G R) : 27 < G.2 ∧ G.1 27 = (1, 10) := ⟨Nat.lt_of_lt_of_le (Nat.le_of_ble_eq_true rfl) hW.1, hW.2.1 27 (Nat.le_of_ble_eq_true rfl)⟩
theorem sh_28 (hW : goW G R) : 28 < G.2 ∧ G.1 28 = (0, 6) := ⟨Nat.lt_of_lt_of_le (Nat.le_of_ble_eq_true rfl) hW.1, hW.2.1 28 (Nat.le_of_ble_eq_true rfl)⟩
theorem sh_29 (hW : goW G R) : 29 < G.2 ∧ G.1 29 = (1, 8) := ⟨Nat.lt_of_lt_of_le (Nat.le_of_ble_eq_true rfl) hW.1, hW.2.1 29 (Nat.le_of_ble_eq_true rfl)⟩
theorem sh_30 (hW : goW G R) : 30 < G.2 ∧ G.1 30 = (1, 8) := ⟨Nat.lt_of_lt_of_le (Nat.le_of_ble_eq_true rfl) hW.1, hW.2.1 30 (Nat.le_of_ble_eq_true rfl)⟩
theorem sh_31 (hW : goW G R) : 31 < G.2 ∧ G.1 31 = (1, 8) := ⟨Nat.lt_of_lt_of_le (Nat.le_of_ble_eq_true rfl) hW.1, hW.2.1 31 (Nat.le_of_ble_eq_true rfl)⟩
theorem sh_32 (hW : goW G R) : 32 < G.2 ∧ G.1 32 = (0, 1) := ⟨Nat.lt_of_lt_of_le (Nat.le_of_ble_eq_true rfl) hW.1, hW.2.1 32 (Nat.le_of_ble_eq_true rfl)⟩
theorem sh_33 (hW : goW G R) : 33 < G.2 ∧ G.1 33 = (1, 6) := ⟨Nat.lt_of_lt_of_le (Nat.le_of_ble_eq_true rfl) hW.1, hW.2.1 33 (Nat.le_of_ble_eq_true rfl)⟩
theorem sh_34 (hW : goW G R) : 34 < G.2 ∧ G.1 34 = (1, 6) := ⟨Nat.lt_of_lt_of_le (Nat.le_of_ble_eq_true rfl) hW.1, hW.2.1 34 (Nat.le_of_ble_eq_true rfl)⟩
theorem sh_35 (hW : goW G R) : 35 < G.2 ∧ G.1 35 = (4, 64) := ⟨Nat.lt_of_lt_of_le (Nat.le_of_ble_eq_true rfl) hW.1, hW.2.1 35 (Nat.le_of_ble_eq_true rfl)⟩
theorem sh_36 (hW : goW G R) : 36 < G.2 ∧ G.1 36 = (1, 64) := ⟨Nat.lt_of_lt_of_le (Nat.le_of_ble_eq_true rfl) hW.1, hW.2.1 36 (Nat.le_of_ble_eq_true rfl)⟩
theorem sh_37 (hW : goW G R) : 37 < G.2 ∧ G.1 37 = (0, 5) := ⟨Nat.lt_of_lt_of_le (Nat.le_of_ble_eq_true rfl) hW.1, hW.2.1 37 (Nat.le_of_ble_eq_true rfl)⟩
theorem sh_38 (hW : goW G R) : 38 < G.2 ∧ G.1 38 = (1, 8) := ⟨Nat.lt_of_lt_of_le (Nat.le_of_ble_eq_true rfl) hW.1, hW.2.1 38 (Nat.le_of_ble_eq_true rfl)⟩
theorem sh_39 (hW : goW G R) : 39 < G.2 ∧ G.1 39 = (1, 8) := ⟨Nat.lt_of_lt_of_le (Nat.le_of_ble_eq_true rfl) hW.1, hW.2.1 39 (Nat.le_of_ble_eq_true rfl)⟩
theorem sh_40 (hW : goW G R) : 40 < G.2 ∧ G.1 40 = (1, 14) := ⟨Nat.lt_of_lt_of_le (Nat.le_of_ble_eq_true rfl) hW.1, hW.2.1 40 (Nat.le_of_ble_eq_true rfl)⟩
theorem sh_41 (hW : goW G R) : 41 < G.2 ∧ G.1 41 = (1, 14) := ⟨Nat.lt_of_lt_of_le (Nat.le_of_ble_eq_true rfl) hW.1, hW.2.1 41 (Nat.le_of_ble_eq_true rfl)⟩
theorem sh_42 (hW : goW G R) : 42 < G.2 ∧ G.1 42 = (1, 4) := ⟨Nat.lt_of_lt_of_le (Nat.le_of_ble_eq_true rfl) hW.1, hW.2.1 42 (Nat.le_of_ble_eq_true rfl)⟩
theorem sh_43 (hW : goW G R) : 43 < G.2 ∧ G.1 43 = (1, 4) := ⟨Nat.lt_of_lt_of_le (Nat.le_of_ble_eq_true rfl) hW.1, hW.2.1 43 (Nat.le_of_ble_eq_true rfl)⟩
theorem sh_44 (hW : goW G R) : 44 < G.2 ∧ G.1 44 = (1, 144) := ⟨Nat.lt_of_lt_of_le (Nat.le_of_ble_eq_true rfl) hW.1, hW.2.1 44 (Nat.le_of_ble_eq_true rfl)⟩
theorem sh_45 (hW : goW G R) : 45 < G.2 ∧ G.1 45 = (1, 4) := ⟨Nat.lt_of_lt_of_le (Nat.le_of_ble_eq_true rfl) hW.1, hW.2.1 45 (Nat.le_of_ble_eq_true rfl)⟩
theorem sh_46 (hW : goW G R) : 46 < G.2 ∧ G.1 46 = (0, 4) := ⟨Nat.lt_of_lt_of_le (Nat.le_of_ble_eq_true rfl) hW.1, hW.2.1 46 (Nat.le_of_ble_eq_true rfl)⟩
theorem sh_47 (hW : goW G R) : 47 < G.2 ∧ G.1 47 = (1, 6) := ⟨Nat.lt_of_lt_of_le (Nat.le_of_ble_eq_true rfl) hW.1, hW.2.1 47 (Nat.le_of_ble_eq_true rfl)⟩
theorem sh_48 (hW : goW G R) : 48 < G.2 ∧ G.1 48 = (1, 6) := ⟨Nat.lt_of_lt_of_le (Nat.le_of_ble_eq_true rfl) hW.1, hW.2.1 48 (Nat.le_of_ble_eq_true rfl)⟩
theorem sh_49 (hW : goW G R) : 49 < G.2 ∧ G.1 49 = (1, 6) := ⟨Nat.lt_of_lt_of_le (Nat.le_of_ble_eq_true rfl) hW.1, hW.2.1 49 (Nat.le_of_ble_eq_true rfl)⟩
theorem sh_50 (hW : goW G R) : 50 < G.2 ∧ G.1 50 = (1, 6) := ⟨Nat.lt_of_lt_of_le (Nat.le_of_ble_eq_true rfl) hW.1, hW.2.1 50 (Nat.le_of_ble_eq_true rfl)⟩
theorem sh_51 (hW : goW G R) : 51 < G.2 ∧ G.1 51 = (1, 6) := ⟨Nat.lt_of_lt_of_le (Nat.le_of_ble_eq_true rfl) hW.1, hW.2.1 51 (Nat.le_of_ble_eq_true rfl)⟩
theorem sh_52 (hW : goW G R) : 52 < G.2 ∧ G.1 52 = (1, 24) := ⟨Nat.lt_of_lt_of_le (Nat.le_of_ble_eq_true rfl) hW.1, hW.2.1 52 (Nat.le_of_ble_eq_true rfl)⟩
theorem sh_53 (hW : goW G R) : 53 < G.2 ∧ G.1 53 = (1, 6) := ⟨Nat.lt_of_lt_of_le (Nat.le_of_ble_eq_true rfl) hW.1, hW.2.1 53 (Nat.le_of_ble_eq_true rfl)⟩
theorem sh_54 (hW : goW G R) : 54 < G.2 ∧ G.1 54 = (1, 10) := ⟨Nat.lt_of_lt_of_le (Nat.le_of_ble_eq_true rfl) hW.1, hW.2.1 54 (Nat.le_of_ble_eq_true rfl)⟩
theorem sh_55 (hW : goW G R) : 55 < G.2 ∧ G.1 55 = (1, 10) := ⟨Nat.lt_of_lt_of_le (Nat.le_of_ble_eq_true rfl) hW.1, hW.2.1 55 (Nat.le_of_ble_eq_true rfl)⟩
theorem sh_56 (hW : goW G R) : 56 < G.2 ∧ G.1 56 = (1, 10) := ⟨Nat.lt_of_lt_of_le (Nat.le_of_ble_eq_true rfl) hW.1, hW.2.1 56 (Nat.le_of_ble_eq_true rfl)⟩
theorem sh_57 (hW : goW G R) : 57 < G.2 ∧ G.1 57 = (1, 10) := ⟨Nat.lt_of_lt_of_le (Nat.le_of_ble_eq_true rfl) hW.1, hW.2.1 57 (Nat.le_of_ble_eq_true rfl)⟩
theorem sh_58 (hW : goW G R) : 58 < G.2 ∧ G.1 58 = (0, 6) := ⟨Nat.lt_of_lt_of_le (Nat.le_of_ble_eq_true rfl) hW.1, hW.2.1 58 (Nat.le_of_ble_eq_true rfl)⟩
theorem sh_59 (hW : goW G R) : 59 < G.2 ∧ G.1 59 = (1, 8) := ⟨Nat.lt_of_lt_of_le (Nat.le_of_ble_eq_true rfl) hW.1, hW.2.1 59 (Nat.le_of_ble_eq_true rfl)⟩
theorem sh_60 (hW : goW G R) : 60 < G.2 ∧ G.1 60 = (1, 8) := ⟨Nat.lt_of_lt_of_le (Nat.le_of_ble_eq_true rfl) hW.1, hW.2.1 60 (Nat.le_of_ble_eq_true rfl)⟩
theorem sh_61 (hW : goW G R) : 61 < G.2 ∧ G.1 61 = (1, 8) := ⟨Nat.lt_of_lt_of_le (Nat.le_of_ble_eq_true rfl) hW.1, hW.2.1 61 (Nat.le_of_ble_eq_true rfl)⟩
theorem sh_62 (hW : goW G R) : 62 < G.2 ∧ G.1 62 = (0, 1) := ⟨Nat.lt_of_lt_of_le (Nat.le_of_ble_eq_true rfl) hW.1, hW.2.1 62 (Nat.le_of_ble_eq_true rfl)⟩
theorem sh_63 (hW : goW G R) : 63 < G.2 ∧ G.1 63 = (1, 6) := ⟨Nat.lt_of_lt_of_le (Nat.le_of_ble_eq_true rfl) hW.1, hW.2.1 63 (Nat.le_of_ble_eq_true rfl)⟩
theorem sh_64 (hW : goW G R) : 64 < G.2 ∧ G.1 64 = (1, 6) := ⟨Nat.lt_of_lt_of_le (Nat.le_of_ble_eq_true rfl) hW.1, hW.2.1 64 (Nat.le_of_ble_eq_true rfl)⟩
theorem sh_65 (hW : goW G R) : 65 < G.2 ∧ G.1 65 = (4, 64) := ⟨Nat.lt_of_lt_of_le (Nat.le_of_ble_eq_true rfl) hW.1, hW.2.1 65 (Nat.le_of_ble_eq_true rfl)⟩
theorem sh_66 (hW : goW G R) : 66 < G.2 ∧ G.1 66 = (1, 64) := ⟨Nat.lt_of_lt_of_le (Nat.le_of_ble_eq_true rfl) hW.1, hW.2.1 66 (Nat.le_of_ble_eq_true rfl)⟩
theorem sh_67 (hW : goW G R) : 67 < G.2 ∧ G.1 67 = (0, 8) := ⟨Nat.lt_of_lt_of_le (Nat.le_of_ble_eq_true rfl) hW.1, hW.2.1 67 (Nat.le_of_ble_eq_true rfl)⟩
theorem sh_68 (hW : goW G R) : 68 < G.2 ∧ G.1 68 = (4, 32) := ⟨Nat.lt_of_lt_of_le (Nat.le_of_ble_eq_true rfl) hW.1, hW.2.1 68 (Nat.le_of_ble_eq_true rfl)⟩
theorem sh_69 (hW : goW G R) : 69 < G.2 ∧ G.1 69 = (1, 32) := ⟨Nat.lt_of_lt_of_le (Nat.le_of_ble_eq_true rfl) hW.1, hW.2.1 69 (Nat.le_of_ble_eq_true rfl)⟩
theorem sh_70 (hW : goW G R) : 70 < G.2 ∧ G.1 70 = (1, 32) := ⟨Nat.lt_of_lt_of_le (Nat.le_of_ble_eq_true rfl) hW.1, hW.2.1 70 (Nat.le_of_ble_eq_true rfl)⟩
theorem sh_71 (hW : goW G R) : 71 < G.2 ∧ G.1 71 = (1, 15) := ⟨Nat.lt_of_lt_of_le (Nat.le_of_ble_eq_true rfl) hW.1, hW.2.1 71 (Nat.le_of_ble_eq_true rfl)⟩
theorem sh_72 (hW : goW G R) : 72 < G.2 ∧ G.1 72 = (1, 8) := ⟨Nat.lt_of_lt_of_le (Nat.le_of_ble_eq_true rfl) hW.1, hW.2.1 72 (Nat.le_of_ble_eq_true rfl)⟩
theorem sh_73 (hW : goW G R) : 73 < G.2 ∧ G.1 73 = (4, 18) := ⟨Nat.lt_of_lt_of_le (Nat.le_of_ble_eq_true rfl) hW.1, hW.2.1 73 (Nat.le_of_ble_eq_true rfl)⟩
theorem sh_74 (hW : goW G R) : 74 < G.2 ∧ G.1 74 = (0, 3) := ⟨Nat.lt_of_lt_of_le (Nat.le_of_ble_eq_true rfl) hW.1, hW.2.1 74 (Nat.le_of_ble_eq_true rfl)⟩
theorem sh_75 (hW : goW G R) : 75 < G.2 ∧ G.1 75 = (1, 81) := ⟨Nat.lt_of_lt_of_le (Nat.le_of_ble_eq_true rfl) hW.1, hW.2.1 75 (Nat.le_of_ble_eq_true rfl)⟩
theorem sh_76 (hW : goW G R) : 76 < G.2 ∧ G.1 76 = (2, 5832) := ⟨Nat.lt_of_lt_of_le (Nat.le_of_ble_eq_true rfl) hW.1, hW.2.1 76 (Nat.le_of_ble_eq_true rfl)⟩
theorem sh_77 (hW : goW G R) : 77 < G.2 ∧ G.1 77 = (1, 8) := ⟨Nat.lt_of_lt_of_le (Nat.le_of_ble_eq_true rfl) hW.1, hW.2.1 77 (Nat.le_of_ble_eq_true rfl)⟩
theorem sh_78 (hW : goW G R) : 78 < G.2 ∧ G.1 78 = (0, 2) := ⟨Nat.lt_of_lt_of_le (Nat.le_of_ble_eq_true rfl) hW.1, hW.2.1 78 (Nat.le_of_ble_eq_true rfl)⟩
theorem sh_79 (hW : goW G R) : 79 < G.2 ∧ G.1 79 = (1, 14) := ⟨Nat.lt_of_lt_of_le (Nat.le_of_ble_eq_true rfl) hW.1, hW.2.1 79 (Nat.le_of_ble_eq_true rfl)⟩
theorem sh_80 (hW : goW G R) : 80 < G.2 ∧ G.1 80 = (1, 24) := ⟨Nat.lt_of_lt_of_le (Nat.le_of_ble_eq_true rfl) hW.1, hW.2.1 80 (Nat.le_of_ble_eq_true rfl)⟩
theorem sh_81 (hW : goW G R) : 81 < G.2 ∧ G.1 81 = (1, 8) := ⟨Nat.lt_of_lt_of_le (Nat.le_of_ble_eq_true rfl) hW.1, hW.2.1 81 (Nat.le_of_ble_eq_true rfl)⟩
theorem sh_82 (hW : goW G R) : 82 < G.2 ∧ G.1 82 = (1, 72) := ⟨Nat.lt_of_lt_of_le (Nat.le_of_ble_eq_true rfl) hW.1, hW.2.1 82 (Nat.le_of_ble_eq_true rfl)⟩
theorem sh_83 (hW : goW G R) : 83 < G.2 ∧ G.1 83 = (1, 72) := ⟨Nat.lt_of_lt_of_le (Nat.le_of_ble_eq_true rfl) hW.1, hW.2.1 83 (Nat.le_of_ble_eq_true rfl)⟩
theorem sh_84 (hW : goW G R) : 84 < G.2 ∧ G.1 84 = (1, 72) := ⟨Nat.lt_of_lt_of_le (Nat.le_of_ble_eq_true rfl) hW.1, hW.2.1 84 (Nat.le_of_ble_eq_true rfl)⟩
theorem sh_85 (hW : goW G R) : 85 < G.2 ∧ G.1 85 = (1, 24) := ⟨Nat.lt_of_lt_of_le (Nat.le_of_ble_eq_true rfl) hW.1, hW.2.1 85 (Nat.le_of_ble_eq_true rfl)⟩
theorem sh_86 (hW : goW G R) : 86 < G.2 ∧ G.1 86 = (1, 192) := ⟨Nat.lt_of_lt_of_le (Nat.le_of_ble_eq_true rfl) hW.1, hW.2.1 86 (Nat.le_of_ble_eq_true rfl)⟩
theorem sh_87 (hW : goW G R) : 87 < G.2 ∧ G.1 87 = (1, 6) := ⟨Nat.lt_of_lt_of_le (Nat.le_of_ble_eq_true rfl) hW.1, hW.2.1 87 (Nat.le_of_ble_eq_true rfl)⟩
theorem sh_88 (hW : goW G R) : 88 < G.2 ∧ G.1 88 = (0, 7) := ⟨Nat.lt_of_lt_of_le (Nat.le_of_ble_eq_true rfl) hW.1, hW.2.1 88 (Nat.le_of_ble_eq_true rfl)⟩
theorem sh_89 (hW : goW G R) : 89 < G.2 ∧ G.1 89 = (1, 182) := ⟨Nat.lt_of_lt_of_le (Nat.le_of_ble_eq_true rfl) hW.1, hW.2.1 89 (Nat.le_of_ble_eq_true rfl)⟩
theorem sh_90 (hW : goW G R) : 90 < G.2 ∧ G.1 90 = (1, 182) := ⟨Nat.lt_of_lt_of_le (Nat.le_of_ble_eq_true rfl) hW.1, hW.2.1 90 (Nat.le_of_ble_eq_true rfl)⟩
theorem sh_91 (hW : goW G R) : 91 < G.2 ∧ G.1 91 = (3, 96) := ⟨Nat.lt_of_lt_of_le (Nat.le_of_ble_eq_true rfl) hW.1, hW.2.1 91 (Nat.le_of_ble_eq_true rfl)⟩
theorem sh_92 (hW : goW G R) : 92 < G.2 ∧ G.1 92 = (0, 2) := ⟨Nat.lt_of_lt_of_le (Nat.le_of_ble_eq_true rfl) hW.1, hW.2.1 92 (Nat.le_of_ble_eq_true rfl)⟩
theorem sh_93 (hW : goW G R) : 93 < G.2 ∧ G.1 93 = (1, 14) := ⟨Nat.lt_of_lt_of_le (Nat.le_of_ble_eq_true rfl) hW.1, hW.2.1 93 (Nat.le_of_ble_eq_true rfl)⟩
theorem sh_94 (hW : goW G R) : 94 < G.2 ∧ G.1 94 = (1, 24) := ⟨Nat.lt_of_lt_of_le (Nat.le_of_ble_eq_true rfl) hW.1, hW.2.1 94 (Nat.le_of_ble_eq_true rfl)⟩
theorem sh_95 (hW : goW G R) : 95 < G.2 ∧ G.1 95 = (1, 8) := ⟨Nat.lt_of_lt_of_le (Nat.le_of_ble_eq_true rfl) hW.1, hW.2.1 95 (Nat.le_of_ble_eq_true rfl)⟩
theorem sh_96 (hW : goW G R) : 96 < G.2 ∧ G.1 96 = (1, 72) := ⟨Nat.lt_of_lt_of_le (Nat.le_of_ble_eq_true rfl) hW.1, hW.2.1 96 (Nat.le_of_ble_eq_true rfl)⟩
theorem sh_97 (hW : goW G R) : 97 < G.2 ∧ G.1 97 = (1, 72) := ⟨Nat.lt_of_lt_of_le (Nat.le_of_ble_eq_true rfl) hW.1, hW.2.1 97 (Nat.le_of_ble_eq_true rfl)⟩
theorem sh_98 (hW : goW G R) : 98 < G.2 ∧ G.1 98 = (1, 72) := ⟨Nat.lt_of_lt_of_le (Nat.le_of_ble_eq_true rfl) hW.1, hW.2.1 98 (Nat.le_of_ble_eq_true rfl)⟩
theorem sh_99 (hW : goW G R) : 99 < G.2 ∧ G.1 99 = (1, 24) := ⟨Nat.lt_of_lt_of_le (Nat.le_of_ble_eq_true rfl) hW.1, hW.2.1 99 (Nat.le_of_ble_eq_true rfl)⟩
theorem sh_100 (hW : goW G R) : 100 < G.2 ∧ G.1 100 = (1, 192) := ⟨Nat.lt_of_lt_of_le (Nat.le_of_ble_eq_true rfl) hW.1, hW.2.1 100 (Nat.le_of_ble_eq_true rfl)⟩
theorem sh_101 (hW : goW G R) : 101 < G.2 ∧ G.1 101 = (1, 6) := ⟨Nat.lt_of_lt_of_le (Nat.le_of_ble_eq_true rfl) hW.1, hW.2.1 101 (Nat.le_of_ble_eq_true rfl)⟩
theorem sh_102 (hW : goW G R) : 102 < G.2 ∧ G.1 102 = (0, 12) := ⟨Nat.lt_of_lt_of_le (Nat.le_of_ble_eq_true rfl) hW.1, hW.2.1 102 (Nat.le_of_ble_eq_true rfl)⟩
theorem sh_103 (hW : goW G R) : 103 < G.2 ∧ G.1 103 = (2, 1200) := ⟨Nat.lt_of_lt_of_le (Nat.le_of_ble_eq_true rfl) hW.1, hW.2.1 103 (Nat.le_of_ble_eq_true rfl)⟩
theorem sh_104 (hW : goW G R) : 104 < G.2 ∧ G.1 104 = (1, 8) := ⟨Nat.lt_of_lt_of_le (Nat.le_of_ble_eq_true rfl) hW.1, hW.2.1 104 (Nat.le_of_ble_eq_true rfl)⟩
theorem sh_105 (hW : goW G R) : 105 < G.2 ∧ G.1 105 = (1, 18) := ⟨Nat.lt_of_lt_of_le (Nat.le_of_ble_eq_true rfl) hW.1, hW.2.1 105 (Nat.le_of_ble_eq_true rfl)⟩
theorem sh_106 (hW : goW G R) : 106 < G.2 ∧ G.1 106 = (1, 288) := ⟨Nat.lt_of_lt_of_le (Nat.le_of_ble_eq_true rfl) hW.1, hW.2.1 106 (Nat.le_of_ble_eq_true rfl)⟩
theorem sh_107 (hW : goW G R) : 107 < G.2 ∧ G.1 107 = (1, 54) := ⟨Nat.lt_of_lt_of_le (Nat.le_of_ble_eq_true rfl) hW.1, hW.2.1 107 (Nat.le_of_ble_eq_true rfl)⟩
theorem sh_108 (hW : goW G R) : 108 < G.2 ∧ G.1 108 = (1, 72) := ⟨Nat.lt_of_lt_of_le (Nat.le_of_ble_eq_true rfl) hW.1, hW.2.1 108 (Nat.le_of_ble_eq_true rfl)⟩
theorem sh_109 (hW : goW G R) : 109 < G.2 ∧ G.1 109 = (1, 72) := ⟨Nat.lt_of_lt_of_le (Nat.le_of_ble_eq_true rfl) hW.1, hW.2.1 109 (Nat.le_of_ble_eq_true rfl)⟩
theorem sh_110 (hW : goW G R) : 110 < G.2 ∧ G.1 110 = (1, 72) := ⟨Nat.lt_of_lt_of_le (Nat.le_of_ble_eq_true rfl) hW.1, hW.2.1 110 (Nat.le_of_ble_eq_true rfl)⟩
theorem sh_111 (hW : goW G R) : 111 < G.2 ∧ G.1 111 = (1, 32) := ⟨Nat.lt_of_lt_of_le (Nat.le_of_ble_eq_true rfl) hW.1, hW.2.1 111 (Nat.le_of_ble_eq_true rfl)⟩
theorem sh_112 (hW : goW G R) : 112 < G.2 ∧ G.1 112 = (1, 6) := ⟨Nat.lt_of_lt_of_le (Nat.le_of_ble_eq_true rfl) hW.1, hW.2.1 112 (Nat.le_of_ble_eq_true rfl)⟩
theorem sh_113 (hW : goW G R) : 113 < G.2 ∧ G.1 113 = (1, 6) := ⟨Nat.lt_of_lt_of_le (Nat.le_of_ble_eq_true rfl) hW.1, hW.2.1 113 (Nat.le_of_ble_eq_true rfl)⟩
theorem sh_114 (hW : goW G R) : 114 < G.2 ∧ G.1 114 = (1, 81) := ⟨Nat.lt_of_lt_of_le (Nat.le_of_ble_eq_true rfl) hW.1, hW.2.1 114 (Nat.le_of_ble_eq_true rfl)⟩
theorem sh_115 (hW : goW G R) : 115 < G.2 ∧ G.1 115 = (1, 81) := ⟨Nat.lt_of_lt_of_le (Nat.le_of_ble_eq_true rfl) hW.1, hW.2.1 115 (Nat.le_of_ble_eq_true rfl)⟩
theorem sh_116 (hW : goW G R) : 116 < G.2 ∧ G.1 116 = (1, 5832) := ⟨Nat.lt_of_lt_of_le (Nat.le_of_ble_eq_true rfl) hW.1, hW.2.1 116 (Nat.le_of_ble_eq_true rfl)⟩
theorem sh_117 (hW : goW G R) : 117 < G.2 ∧ G.1 117 = (1, 8) := ⟨Nat.lt_of_lt_of_le (Nat.le_of_ble_eq_true rfl) hW.1, hW.2.1 117 (Nat.le_of_ble_eq_true rfl)⟩
theorem sh_118 (hW : goW G R) : 118 < G.2 ∧ G.1 118 = (1, 6) := ⟨Nat.lt_of_lt_of_le (Nat.le_of_ble_eq_true rfl) hW.1, hW.2.1 118 (Nat.le_of_ble_eq_true rfl)⟩
theorem sh_119 (hW : goW G R) : 119 < G.2 ∧ G.1 119 = (1, 6) := ⟨Nat.lt_of_lt_of_le (Nat.le_of_ble_eq_true rfl) hW.1, hW.2.1 119 (Nat.le_of_ble_eq_true rfl)⟩
theorem sh_120 (hW : goW G R) : 120 < G.2 ∧ G.1 120 = (4, 1) := ⟨Nat.lt_of_lt_of_le (Nat.le_of_ble_eq_true rfl) hW.1, hW.2.1 120 (Nat.le_of_ble_eq_true rfl)⟩
theorem rf_0_0 (hW : goW G R) : R 0 0 = some 1 := hW.2.2.1 (0, 0, 1) (by decide +kernel)
theorem rf_0_1 (hW : goW G R) : R 0 1 = some 67 := hW.2.2.1 (0, 1, 67) (by decide +kernel)
theorem rf_0_2 (hW : goW G R) : R 0 2 = some 3 := hW.2.2.1 (0, 2, 3) (by decide +kernel)
theorem rf_0_3 (hW : goW G R) : R 0 3 = some 74 := hW.2.2.1 (0, 3, 74) (by decide +kernel)
theorem rf_0_4 (hW : goW G R) : R 0 4 = some 88 := hW.2.2.1 (0, 4, 88) (by decide +kernel)
theorem rf_1_0 (hW : goW G R) : R 1 0 = some 2 := hW.2.2.1 (1, 0, 2) (by decide +kernel)
theorem rf_3_0 (hW : goW G R) : R 3 0 = some 4 := hW.2.2.1 (3, 0, 4) (by decide +kernel)
theorem rf_3_1 (hW : goW G R) : R 3 1 = some 5 := hW.2.2.1 (3, 1, 5) (by decide +kernel)
theorem rf_3_2 (hW : goW G R) : R 3 2 = some 6 := hW.2.2.1 (3, 2, 6) (by decide +kernel)
theorem rf_7_7 (hW : goW G R) : R 7 7 = some 8 := hW.2.2.1 (7, 7, 8) (by decide +kernel)
theorem rf_7_8 (hW : goW G R) : R 7 8 = some 9 := hW.2.2.1 (7, 8, 9) (by decide +kernel)
theorem rf_7_9 (hW : goW G R) : R 7 9 = some 10 := hW.2.2.1 (7, 9, 10) (by decide +kernel)
theorem rf_7_10 (hW : goW G R) : R 7 10 = some 11 := hW.2.2.1 (7, 10, 11) (by decide +kernel)
theorem rf_7_11 (hW : goW G R) : R 7 11 = some 12 := hW.2.2.1 (7, 11, 12) (by decide +kernel)
theorem rf_7_12 (hW : goW G R) : R 7 12 = some 13 := hW.2.2.1 (7, 12, 13) (by decide +kernel)
theorem rf_7_13 (hW : goW G R) : R 7 13 = some 14 := hW.2.2.1 (7, 13, 14) (by decide +kernel)
theorem rf_7_14 (hW : goW G R) : R 7 14 = some 15 := hW.2.2.1 (7, 14, 15) (by decide +kernel)
theorem rf_7_15 (hW : goW G R) : R 7 15 = some 16 := hW.2.2.1 (7, 15, 16) (by decide +kernel)
theorem rf_7_16 (hW : goW G R) : R 7 16 = some 28 := hW.2.2.1 (7, 16, 28) (by decide +kernel)
theorem rf_7_17 (hW : goW G R) : R 7 17 = some 32 := hW.2.2.1 (7, 17, 32) (by decide +kernel)
theorem rf_16_2 (hW : goW G R) : R 16 2 = some 17 := hW.2.2.1 (16, 2, 17) (by decide +kernel)
theorem rf_16_3 (hW : goW G R) : R 16 3 = some 18 := hW.2.2.1 (16, 3, 18) (by decide +kernel)
theorem rf_16_4 (hW : goW G R) : R 16 4 = some 19 := hW.2.2.1 (16, 4, 19) (by decide +kernel)
theorem rf_16_5 (hW : goW G R) : R 16 5 = some 20 := hW.2.2.1 (16, 5, 20) (by decide +kernel)
theorem rf_16_6 (hW : goW G R) : R 16 6 = some 21 := hW.2.2.1 (16, 6, 21) (by decide +kernel)
theorem rf_16_7 (hW : goW G R) : R 16 7 = some 22 := hW.2.2.1 (16, 7, 22) (by decide +kernel)
theorem rf_16_8 (hW : goW G R) : R 16 8 = some 23 := hW.2.2.1 (16, 8, 23) (by decide +kernel)
theorem rf_16_9 (hW : goW G R) : R 16 9 = some 24 := hW.2.2.1 (16, 9, 24) (by decide +kernel)
theorem rf_16_10 (hW : goW G R) : R 16 10 = some 25 := hW.2.2.1 (16, 10, 25) (by decide +kernel)
theorem rf_16_11 (hW : goW G R) : R 16 11 = some 26 := hW.2.2.1 (16, 11, 26) (by decide +kernel)
theorem rf_16_12 (hW : goW G R) : R 16 12 = some 27 := hW.2.2.1 (16, 12, 27) (by decide +kernel)
theorem rf_28_4 (hW : goW G R) : R 28 4 = some 29 := hW.2.2.1 (28, 4, 29) (by decide +kernel)
theorem rf_28_5 (hW : goW G R) : R 28 5 = some 30 := hW.2.2.1 (28, 5, 30) (by decide +kernel)
theorem rf_28_6 (hW : goW G R) : R 28 6 = some 31 := hW.2.2.1 (28, 6, 31) (by decide +kernel)
theorem rf_32_1 (hW : goW G R) : R 32 1 = some 33 := hW.2.2.1 (32, 1, 33) (by decide +kernel)
theorem rf_32_2 (hW : goW G R) : R 32 2 = some 34 := hW.2.2.1 (32, 2, 34) (by decide +kernel)
theorem rf_32_3 (hW : goW G R) : R 32 3 = some 35 := hW.2.2.1 (32, 3, 35) (by decide +kernel)
theorem rf_32_4 (hW : goW G R) : R 32 4 = some 36 := hW.2.2.1 (32, 4, 36) (by decide +kernel)
theorem rf_37_7 (hW : goW G R) : R 37 7 = some 38 := hW.2.2.1 (37, 7, 38) (by decide +kernel)
theorem rf_37_8 (hW : goW G R) : R 37 8 = some 39 := hW.2.2.1 (37, 8, 39) (by decide +kernel)
theorem rf_37_9 (hW : goW G R) : R 37 9 = some 40 := hW.2.2.1 (37, 9, 40) (by decide +kernel)
theorem rf_37_10 (hW : goW G R) : R 37 10 = some 41 := hW.2.2.1 (37, 10, 41) (by decide +kernel)
theorem rf_37_11 (hW : goW G R) : R 37 11 = some 42 := hW.2.2.1 (37, 11, 42) (by decide +kernel)
theorem rf_37_12 (hW : goW G R) : R 37 12 = some 43 := hW.2.2.1 (37, 12, 43) (by decide +kernel)
theorem rf_37_13 (hW : goW G R) : R 37 13 = some 44 := hW.2.2.1 (37, 13, 44) (by decide +kernel)
theorem rf_37_14 (hW : goW G R) : R 37 14 = some 45 := hW.2.2.1 (37, 14, 45) (by decide +kernel)
theorem rf_37_15 (hW : goW G R) : R 37 15 = some 46 := hW.2.2.1 (37, 15, 46) (by decide +kernel)
theorem rf_37_16 (hW : goW G R) : R 37 16 = some 58 := hW.2.2.1 (37, 16, 58) (by decide +kernel)
theorem rf_37_17 (hW : goW G R) : R 37 17 = some 62 := hW.2.2.1 (37, 17, 62) (by decide +kernel)
theorem rf_46_2 (hW : goW G R) : R 46 2 = some 47 := hW.2.2.1 (46, 2, 47) (by decide +kernel)
theorem rf_46_3 (hW : goW G R) : R 46 3 = some 48 := hW.2.2.1 (46, 3, 48) (by decide +kernel)
theorem rf_46_4 (hW : goW G R) : R 46 4 = some 49 := hW.2.2.1 (46, 4, 49) (by decide +kernel)
theorem rf_46_5 (hW : goW G R) : R 46 5 = some 50 := hW.2.2.1 (46, 5, 50) (by decide +kernel)
theorem rf_46_6 (hW : goW G R) : R 46 6 = some 51 := hW.2.2.1 (46, 6, 51) (by decide +kernel)
theorem rf_46_7 (hW : goW G R) : R 46 7 = some 52 := hW.2.2.1 (46, 7, 52) (by decide +kernel)
theorem rf_46_8 (hW : goW G R) : R 46 8 = some 53 := hW.2.2.1 (46, 8, 53) (by decide +kernel)
theorem rf_46_9 (hW : goW G R) : R 46 9 = some 54 := hW.2.2.1 (46, 9, 54) (by decide +kernel)
theorem rf_46_10 (hW : goW G R) : R 46 10 = some 55 := hW.2.2.1 (46, 10, 55) (by decide +kernel)
theorem rf_46_11 (hW : goW G R) : R 46 11 = some 56 := hW.2.2.1 (46, 11, 56) (by decide +kernel)
theorem rf_46_12 (hW : goW G R) : R 46 12 = some 57 := hW.2.2.1 (46, 12, 57) (by decide +kernel)
theorem rf_58_4 (hW : goW G R) : R 58 4 = some 59 := hW.2.2.1 (58, 4, 59) (by decide +kernel)
theorem rf_58_5 (hW : goW G R) : R 58 5 = some 60 := hW.2.2.1 (58, 5, 60) (by decide +kernel)
theorem rf_58_6 (hW : goW G R) : R 58 6 = some 61 := hW.2.2.1 (58, 6, 61) (by decide +kernel)
theorem rf_62_1 (hW : goW G R) : R 62 1 = some 63 := hW.2.2.1 (62, 1, 63) (by decide +kernel)
theorem rf_62_2 (hW : goW G R) : R 62 2 = some 64 := hW.2.2.1 (62, 2, 64) (by decide +kernel)
theorem rf_62_3 (hW : goW G R) : R 62 3 = some 65 := hW.2.2.1 (62, 3, 65) (by decide +kernel)
theorem rf_62_4 (hW : goW G R) : R 62 4 = some 66 := hW.2.2.1 (62, 4, 66) (by decide +kernel)
theorem rf_67_1 (hW : goW G R) : R 67 1 = some 68 := hW.2.2.1 (67, 1, 68) (by decide +kernel)
theorem rf_67_2 (hW : goW G R) : R 67 2 = some 69 := hW.2.2.1 (67, 2, 69) (by decide +kernel)
theorem rf_67_3 (hW : goW G R) : R 67 3 = some 70 := hW.2.2.1 (67, 3, 70) (by decide +kernel)
theorem rf_67_4 (hW : goW G R) : R 67 4 = some 71 := hW.2.2.1 (67, 4, 71) (by decide +kernel)
theorem rf_67_5 (hW : goW G R) : R 67 5 = some 72 := hW.2.2.1 (67, 5, 72) (by decide +kernel)
theorem rf_67_6 (hW : goW G R) : R 67 6 = some 73 := hW.2.2.1 (67, 6, 73) (by decide +kernel)
theorem rf_74_1 (hW : goW G R) : R 74 1 = some 78 := hW.2.2.1 (74, 1, 78) (by decide +kernel)
theorem rf_74_3 (hW : goW G R) : R 74 3 = some 75 := hW.2.2.1 (74, 3, 75) (by decide +kernel)
theorem rf_74_4 (hW : goW G R) : R 74 4 = some 76 := hW.2.2.1 (74, 4, 76) (by decide +kernel)
theorem rf_74_5 (hW : goW G R) : R 74 5 = some 77 := hW.2.2.1 (74, 5, 77) (by decide +kernel)
theorem rf_78_2 (hW : goW G R) : R 78 2 = some 79 := hW.2.2.1 (78, 2, 79) (by decide +kernel)
theorem rf_78_3 (hW : goW G R) : R 78 3 = some 80 := hW.2.2.1 (78, 3, 80) (by decide +kernel)
theorem rf_78_4 (hW : goW G R) : R 78 4 = some 81 := hW.2.2.1 (78, 4, 81) (by decide +kernel)
theorem rf_78_5 (hW : goW G R) : R 78 5 = some 82 := hW.2.2.1 (78, 5, 82) (by decide +kernel)
theorem rf_78_6 (hW : goW G R) : R 78 6 = some 83 := hW.2.2.1 (78, 6, 83) (by decide +kernel)
theorem rf_78_7 (hW : goW G R) : R 78 7 = some 84 := hW.2.2.1 (78, 7, 84) (by decide +kernel)
theorem rf_78_8 (hW : goW G R) : R 78 8 = some 85 := hW.2.2.1 (78, 8, 85) (by decide +kernel)
theorem rf_78_9 (hW : goW G R) : R 78 9 = some 86 := hW.2.2.1 (78, 9, 86) (by decide +kernel)
theorem rf_78_10 (hW : goW G R) : R 78 10 = some 87 := hW.2.2.1 (78, 10, 87) (by decide +kernel)
theorem rf_88_0 (hW : goW G R) : R 88 0 = some 92 := hW.2.2.1 (88, 0, 92) (by decide +kernel)
theorem rf_88_1 (hW : goW G R) : R 88 1 = some 89 := hW.2.2.1 (88, 1, 89) (by decide +kernel)
theorem rf_88_2 (hW : goW G R) : R 88 2 = some 90 := hW.2.2.1 (88, 2, 90) (by decide +kernel)
theorem rf_88_3 (hW : goW G R) : R 88 3 = some 91 := hW.2.2.1 (88, 3, 91) (by decide +kernel)
theorem rf_92_2 (hW : goW G R) : R 92 2 = some 93 := hW.2.2.1 (92, 2, 93) (by decide +kernel)
theorem rf_92_3 (hW : goW G R) : R 92 3 = some 94 := hW.2.2.1 (92, 3, 94) (by decide +kernel)
theorem rf_92_4 (hW : goW G R) : R 92 4 = some 95 := hW.2.2.1 (92, 4, 95) (by decide +kernel)
theorem rf_92_5 (hW : goW G R) : R 92 5 = some 96 := hW.2.2.1 (92, 5, 96) (by decide +kernel)
theorem rf_92_6 (hW : goW G R) : R 92 6 = some 97 := hW.2.2.1 (92, 6, 97) (by decide +kernel)
theorem rf_92_7 (hW : goW G R) : R 92 7 = some 98 := hW.2.2.1 (92, 7, 98) (by decide +kernel)
theorem rf_92_8 (hW : goW G R) : R 92 8 = some 99 := hW.2.2.1 (92, 8, 99) (by decide +kernel)
theorem rf_92_9 (hW : goW G R) : R 92 9 = some 100 := hW.2.2.1 (92, 9, 100) (by decide +kernel)
theorem rf_92_10 (hW : goW G R) : R 92 10 = some 101 := hW.2.2.1 (92, 10, 101) (by decide +kernel)
theorem rf_102_5 (hW : goW G R) : R 102 5 = some 103 := hW.2.2.1 (102, 5, 103) (by decide +kernel)
theorem rf_102_16 (hW : goW G R) : R 102 16 = some 104 := hW.2.2.1 (102, 16, 104) (by decide +kernel)
theorem rf_102_18 (hW : goW G R) : R 102 18 = some 105 := hW.2.2.1 (102, 18, 105) (by decide +kernel)
theorem rf_102_19 (hW : goW G R) : R 102 19 = some 106 := hW.2.2.1 (102, 19, 106) (by decide +kernel)
theorem rf_102_20 (hW : goW G R) : R 102 20 = some 107 := hW.2.2.1 (102, 20, 107) (by decide +kernel)
theorem rf_102_23 (hW : goW G R) : R 102 23 = some 108 := hW.2.2.1 (102, 23, 108) (by decide +kernel)
theorem rf_102_24 (hW : goW G R) : R 102 24 = some 109 := hW.2.2.1 (102, 24, 109) (by decide +kernel)
theorem rf_102_25 (hW : goW G R) : R 102 25 = some 110 := hW.2.2.1 (102, 25, 110) (by decide +kernel)
theorem rf_102_26 (hW : goW G R) : R 102 26 = some 111 := hW.2.2.1 (102, 26, 111) (by decide +kernel)
theorem rf_102_27 (hW : goW G R) : R 102 27 = some 112 := hW.2.2.1 (102, 27, 112) (by decide +kernel)
theorem rf_102_28 (hW : goW G R) : R 102 28 = some 113 := hW.2.2.1 (102, 28, 113) (by decide +kernel)
theorem rf_102_29 (hW : goW G R) : R 102 29 = some 114 := hW.2.2.1 (102, 29, 114) (by decide +kernel)
theorem rf_102_32 (hW : goW G R) : R 102 32 = some 115 := hW.2.2.1 (102, 32, 115) (by decide +kernel)
theorem rf_102_33 (hW : goW G R) : R 102 33 = some 116 := hW.2.2.1 (102, 33, 116) (by decide +kernel)
theorem rf_102_34 (hW : goW G R) : R 102 34 = some 117 := hW.2.2.1 (102, 34, 117) (by decide +kernel)
theorem rf_102_37 (hW : goW G R) : R 102 37 = some 118 := hW.2.2.1 (102, 37, 118) (by decide +kernel)
theorem rf_102_38 (hW : goW G R) : R 102 38 = some 119 := hW.2.2.1 (102, 38, 119) (by decide +kernel)
theorem rf_67_0 (hW : goW G R) : R 67 0 = some 1 := hW.2.2.1 (67, 0, 1) (by decide +kernel)
theorem rf_74_0 (hW : goW G R) : R 74 0 = some 3 := hW.2.2.1 (74, 0, 3) (by decide +kernel)
theorem rf_78_0 (hW : goW G R) : R 78 0 = some 3 := hW.2.2.1 (78, 0, 3) (by decide +kernel)
theorem rf_92_0 (hW : goW G R) : R 92 0 = some 3 := hW.2.2.1 (92, 0, 3) (by decide +kernel)
theorem rm_0_6 (hW : goW G R) : R 0 6 = some (goRr R 0 6) := by obtain ⟨x, hx, _⟩ := hW.2.2.2.1 (0, 6) (by decide +kernel); have hx : R 0 6 = some x := hx; rw [goRr, hx]; rfl
theorem mm_0_6 (hW : goW G R) : goRr R 0 6 = 7 ∨ goRr R 0 6 = 37 := by obtain ⟨x, hx, hm⟩ := hW.2.2.2.1 (0, 6) (by decide +kernel); have hx : R 0 6 = some x := hx; rw [goRr, hx]; exact hm
theorem rm_0_5 (hW : goW G R) : R 0 5 = some (goRr R 0 5) := by obtain ⟨x, hx, _⟩ := hW.2.2.2.1 (0, 5) (by decide +kernel); have hx : R 0 5 = some x := hx; rw [goRr, hx]; rfl
theorem mm_0_5 (hW : goW G R) : goRr R 0 5 = 7 ∨ goRr R 0 5 = 37 := by obtain ⟨x, hx, hm⟩ := hW.2.2.2.1 (0, 5) (by decide +kernel); have hx : R 0 5 = some x := hx; rw [goRr, hx]; exact hm
theorem rm_78_1 (hW : goW G R) : R 78 1 = some (goRr R 78 1) := by obtain ⟨x, hx, _⟩ := hW.2.2.2.1 (78, 1) (by decide +kernel); have hx : R 78 1 = some x := hx; rw [goRr, hx]; rfl
theorem mm_78_1 (hW : goW G R) : goRr R 78 1 = 7 ∨ goRr R 78 1 = 37 := by obtain ⟨x, hx, hm⟩ := hW.2.2.2.1 (78, 1) (by decide +kernel); have hx : R 78 1 = some x := hx; rw [goRr, hx]; exact hm
theorem rm_92_1 (hW : goW G R) : R 92 1 = some (goRr R 92 1) := by obtain ⟨x, hx, _⟩ := hW.2.2.2.1 (92, 1) (by decide +kernel); have hx : R 92 1 = some x := hx; rw [goRr, hx]; rfl
theorem mm_92_1 (hW : goW G R) : goRr R 92 1 = 7 ∨ goRr R 92 1 = 37 := by obtain ⟨x, hx, hm⟩ := hW.2.2.2.1 (92, 1) (by decide +kernel); have hx : R 92 1 = some x := hx; rw [goRr, hx]; exact hm
theorem rm_74_2 (hW : goW G R) : R 74 2 = some (goRr R 74 2) := by obtain ⟨x, hx, _⟩ := hW.2.2.2.1 (74, 2) (by decide +kernel); have hx : R 74 2 = some x := hx; rw [goRr, hx]; rfl
theorem mm_74_2 (hW : goW G R) : goRr R 74 2 = 7 ∨ goRr R 74 2 = 37 := by obtain ⟨x, hx, hm⟩ := hW.2.2.2.1 (74, 2) (by decide +kernel); have hx : R 74 2 = some x := hx; rw [goRr, hx]; exact hm
theorem rm_67_7 (hW : goW G R) : R 67 7 = some (goRr R 67 7) := by obtain ⟨x, hx, _⟩ := hW.2.2.2.1 (67, 7) (by decide +kernel); have hx : R 67 7 = some x := hx; rw [goRr, hx]; rfl
theorem mm_67_7 (hW : goW G R) : goRr R 67 7 = 7 ∨ goRr R 67 7 = 37 := by obtain ⟨x, hx, hm⟩ := hW.2.2.2.1 (67, 7) (by decide +kernel); have hx : R 67 7 = some x := hx; rw [goRr, hx]; exact hm
theorem shHill_0 (hW : goW G R) {a : Nat} (m : a = 7 ∨ a = 37) : a < G.2 ∧ G.1 (a) = (0, 5) := by rcases m with rfl | rfl; exact sh_7 hW; exact sh_37 hW
theorem shHill_1 (hW : goW G R) {a : Nat} (m : a = 7 ∨ a = 37) : a + 1 < G.2 ∧ G.1 (a + 1) = (1, 8) := by rcases m with rfl | rfl; exact sh_8 hW; exact sh_38 hW
theorem shHill_2 (hW : goW G R) {a : Nat} (m : a = 7 ∨ a = 37) : a + 2 < G.2 ∧ G.1 (a + 2) = (1, 8) := by rcases m with rfl | rfl; exact sh_9 hW; exact sh_39 hW
theorem shHill_3 (hW : goW G R) {a : Nat} (m : a = 7 ∨ a = 37) : a + 3 < G.2 ∧ G.1 (a + 3) = (1, 14) := by rcases m with rfl | rfl; exact sh_10 hW; exact sh_40 hW
theorem shHill_4 (hW : goW G R) {a : Nat} (m : a = 7 ∨ a = 37) : a + 4 < G.2 ∧ G.1 (a + 4) = (1, 14) := by rcases m with rfl | rfl; exact sh_11 hW; exact sh_41 hW
theorem shHill_5 (hW : goW G R) {a : Nat} (m : a = 7 ∨ a = 37) : a + 5 < G.2 ∧ G.1 (a + 5) = (1, 4) := by rcases m with rfl | rfl; exact sh_12 hW; exact sh_42 hW
theorem shHill_6 (hW : goW G R) {a : Nat} (m : a = 7 ∨ a = 37) : a + 6 < G.2 ∧ G.1 (a + 6) = (1, 4) := by rcases m with rfl | rfl; exact sh_13 hW; exact sh_43 hW
theorem shHill_7 (hW : goW G R) {a : Nat} (m : a = 7 ∨ a = 37) : a + 7 < G.2 ∧ G.1 (a + 7) = (1, 144) := by rcases m with rfl | rfl; exact sh_14 hW; exact sh_44 hW
theorem shHill_8 (hW : goW G R) {a : Nat} (m : a = 7 ∨ a = 37) : a + 8 < G.2 ∧ G.1 (a + 8) = (1, 4) := by rcases m with rfl | rfl; exact sh_15 hW; exact sh_45 hW
theorem shHill_9 (hW : goW G R) {a : Nat} (m : a = 7 ∨ a = 37) : a + 9 < G.2 ∧ G.1 (a + 9) = (0, 4) := by rcases m with rfl | rfl; exact sh_16 hW; exact sh_46 hW
theorem shHill_10 (hW : goW G R) {a : Nat} (m : a = 7 ∨ a = 37) : a + 10 < G.2 ∧ G.1 (a + 10) = (1, 6) := by rcases m with rfl | rfl; exact sh_17 hW; exact sh_47 hW
theorem shHill_11 (hW : goW G R) {a : Nat} (m : a = 7 ∨ a = 37) : a + 11 < G.2 ∧ G.1 (a + 11) = (1, 6) := by rcases m with rfl | rfl; exact sh_18 hW; exact sh_48 hW
theorem shHill_12 (hW : goW G R) {a : Nat} (m : a = 7 ∨ a = 37) : a + 12 < G.2 ∧ G.1 (a + 12) = (1, 6) := by rcases m with rfl | rfl; exact sh_19 hW; exact sh_49 hW
theorem shHill_13 (hW : goW G R) {a : Nat} (m : a = 7 ∨ a = 37) : a + 13 < G.2 ∧ G.1 (a + 13) = (1, 6) := by rcases m with rfl | rfl; exact sh_20 hW; exact sh_50 hW
theorem shHill_14 (hW : goW G R) {a : Nat} (m : a = 7 ∨ a = 37) : a + 14 < G.2 ∧ G.1 (a + 14) = (1, 6) := by rcases m with rfl | rfl; exact sh_21 hW; exact sh_51 hW
theorem shHill_15 (hW : goW G R) {a : Nat} (m : a = 7 ∨ a = 37) : a + 15 < G.2 ∧ G.1 (a + 15) = (1, 24) := by rcases m with rfl | rfl; exact sh_22 hW; exact sh_52 hW
theorem shHill_16 (hW : goW G R) {a : Nat} (m : a = 7 ∨ a = 37) : a + 16 < G.2 ∧ G.1 (a + 16) = (1, 6) := by rcases m with rfl | rfl; exact sh_23 hW; exact sh_53 hW
theorem shHill_17 (hW : goW G R) {a : Nat} (m : a = 7 ∨ a = 37) : a + 17 < G.2 ∧ G.1 (a + 17) = (1, 10) := by rcases m with rfl | rfl; exact sh_24 hW; exact sh_54 hW
theorem shHill_18 (hW : goW G R) {a : Nat} (m : a = 7 ∨ a = 37) : a + 18 < G.2 ∧ G.1 (a + 18) = (1, 10) := by rcases m with rfl | rfl; exact sh_25 hW; exact sh_55 hW
theorem shHill_19 (hW : goW G R) {a : Nat} (m : a = 7 ∨ a = 37) : a + 19 < G.2 ∧ G.1 (a + 19) = (1, 10) := by rcases m with rfl | rfl; exact sh_26 hW; exact sh_56 hW
theorem shHill_20 (hW : goW G R) {a : Nat} (m : a = 7 ∨ a = 37) : a + 20 < G.2 ∧ G.1 (a + 20) = (1, 10) := by rcases m with rfl | rfl; exact sh_27 hW; exact sh_57 hW
theorem shHill_21 (hW : goW G R) {a : Nat} (m : a = 7 ∨ a = 37) : a + 21 < G.2 ∧ G.1 (a + 21) = (0, 6) := by rcases m with rfl | rfl; exact sh_28 hW; exact sh_58 hW
theorem shHill_22 (hW : goW G R) {a : Nat} (m : a = 7 ∨ a = 37) : a + 22 < G.2 ∧ G.1 (a + 22) = (1, 8) := by rcases m with rfl | rfl; exact sh_29 hW; exact sh_59 hW
theorem shHill_23 (hW : goW G R) {a : Nat} (m : a = 7 ∨ a = 37) : a + 23 < G.2 ∧ G.1 (a + 23) = (1, 8) := by rcases m with rfl | rfl; exact sh_30 hW; exact sh_60 hW
theorem shHill_24 (hW : goW G R) {a : Nat} (m : a = 7 ∨ a = 37) : a + 24 < G.2 ∧ G.1 (a + 24) = (1, 8) := by rcases m with rfl | rfl; exact sh_31 hW; exact sh_61 hW
theorem shHill_25 (hW : goW G R) {a : Nat} (m : a = 7 ∨ a = 37) : a + 25 < G.2 ∧ G.1 (a + 25) = (0, 1) := by rcases m with rfl | rfl; exact sh_32 hW; exact sh_62 hW
theorem shHill_26 (hW : goW G R) {a : Nat} (m : a = 7 ∨ a = 37) : a + 26 < G.2 ∧ G.1 (a + 26) = (1, 6) := by rcases m with rfl | rfl; exact sh_33 hW; exact sh_63 hW
theorem shHill_27 (hW : goW G R) {a : Nat} (m : a = 7 ∨ a = 37) : a + 27 < G.2 ∧ G.1 (a + 27) = (1, 6) := by rcases m with rfl | rfl; exact sh_34 hW; exact sh_64 hW
theorem shHill_28 (hW : goW G R) {a : Nat} (m : a = 7 ∨ a = 37) : a + 28 < G.2 ∧ G.1 (a + 28) = (4, 64) := by rcases m with rfl | rfl; exact sh_35 hW; exact sh_65 hW
theorem shHill_29 (hW : goW G R) {a : Nat} (m : a = 7 ∨ a = 37) : a + 29 < G.2 ∧ G.1 (a + 29) = (1, 64) := by rcases m with rfl | rfl; exact sh_36 hW; exact sh_66 hW
theorem rfHill_7 (hW : goW G R) {a : Nat} (m : a = 7 ∨ a = 37) : R a 7 = some (a + 1) := by rcases m with rfl | rfl; exact rf_7_7 hW; exact rf_37_7 hW
theorem rfHill_8 (hW : goW G R) {a : Nat} (m : a = 7 ∨ a = 37) : R a 8 = some (a + 2) := by rcases m with rfl | rfl; exact rf_7_8 hW; exact rf_37_8 hW
theorem rfHill_9 (hW : goW G R) {a : Nat} (m : a = 7 ∨ a = 37) : R a 9 = some (a + 3) := by rcases m with rfl | rfl; exact rf_7_9 hW; exact rf_37_9 hW
theorem rfHill_10 (hW : goW G R) {a : Nat} (m : a = 7 ∨ a = 37) : R a 10 = some (a + 4) := by rcases m with rfl | rfl; exact rf_7_10 hW; exact rf_37_10 hW
theorem rfHill_11 (hW : goW G R) {a : Nat} (m : a = 7 ∨ a = 37) : R a 11 = some (a + 5) := by rcases m with rfl | rfl; exact rf_7_11 hW; exact rf_37_11 hW
theorem rfHill_12 (hW : goW G R) {a : Nat} (m : a = 7 ∨ a = 37) : R a 12 = some (a + 6) := by rcases m with rfl | rfl; exact rf_7_12 hW; exact rf_37_12 hW
theorem rfHill_13 (hW : goW G R) {a : Nat} (m : a = 7 ∨ a = 37) : R a 13 = some (a + 7) := by rcases m with rfl | rfl; exact rf_7_13 hW; exact rf_37_13 hW
theorem rfHill_14 (hW : goW G R) {a : Nat} (m : a = 7 ∨ a = 37) : R a 14 = some (a + 8) := by rcases m with rfl | rfl; exact rf_7_14 hW; exact rf_37_14 hW
theorem rfHill_15 (hW : goW G R) {a : Nat} (m : a = 7 ∨ a = 37) : R a 15 = some (a + 9) := by rcases m with rfl | rfl; exact rf_7_15 hW; exact rf_37_15 hW
theorem rfHill_16 (hW : goW G R) {a : Nat} (m : a = 7 ∨ a = 37) : R a 16 = some (a + 21) := by rcases m with rfl | rfl; exact rf_7_16 hW; exact rf_37_16 hW
theorem rfHill_17 (hW : goW G R) {a : Nat} (m : a = 7 ∨ a = 37) : R a 17 = some (a + 25) := by rcases m with rfl | rfl; exact rf_7_17 hW; exact rf_37_17 hW
theorem shHerd_0 (hW : goW G R) {a : Nat} (m : a = 16 ∨ a = 46) : a < G.2 ∧ G.1 (a) = (0, 4) := by rcases m with rfl | rfl; exact sh_16 hW; exact sh_46 hW
theorem shHerd_1 (hW : goW G R) {a : Nat} (m : a = 16 ∨ a = 46) : a + 1 < G.2 ∧ G.1 (a + 1) = (1, 6) := by rcases m with rfl | rfl; exact sh_17 hW; exact sh_47 hW
theorem shHerd_2 (hW : goW G R) {a : Nat} (m : a = 16 ∨ a = 46) : a + 2 < G.2 ∧ G.1 (a + 2) = (1, 6) := by rcases m with rfl | rfl; exact sh_18 hW; exact sh_48 hW
theorem shHerd_3 (hW : goW G R) {a : Nat} (m : a = 16 ∨ a = 46) : a + 3 < G.2 ∧ G.1 (a + 3) = (1, 6) := by rcases m with rfl | rfl; exact sh_19 hW; exact sh_49 hW
theorem shHerd_4 (hW : goW G R) {a : Nat} (m : a = 16 ∨ a = 46) : a + 4 < G.2 ∧ G.1 (a + 4) = (1, 6) := by rcases m with rfl | rfl; exact sh_20 hW; exact sh_50 hW
theorem shHerd_5 (hW : goW G R) {a : Nat} (m : a = 16 ∨ a = 46) : a + 5 < G.2 ∧ G.1 (a + 5) = (1, 6) := by rcases m with rfl | rfl; exact sh_21 hW; exact sh_51 hW
theorem shHerd_6 (hW : goW G R) {a : Nat} (m : a = 16 ∨ a = 46) : a + 6 < G.2 ∧ G.1 (a + 6) = (1, 24) := by rcases m with rfl | rfl; exact sh_22 hW; exact sh_52 hW
theorem shHerd_7 (hW : goW G R) {a : Nat} (m : a = 16 ∨ a = 46) : a + 7 < G.2 ∧ G.1 (a + 7) = (1, 6) := by rcases m with rfl | rfl; exact sh_23 hW; exact sh_53 hW
theorem shHerd_8 (hW : goW G R) {a : Nat} (m : a = 16 ∨ a = 46) : a + 8 < G.2 ∧ G.1 (a + 8) = (1, 10) := by rcases m with rfl | rfl; exact sh_24 hW; exact sh_54 hW
theorem shHerd_9 (hW : goW G R) {a : Nat} (m : a = 16 ∨ a = 46) : a + 9 < G.2 ∧ G.1 (a + 9) = (1, 10) := by rcases m with rfl | rfl; exact sh_25 hW; exact sh_55 hW
theorem shHerd_10 (hW : goW G R) {a : Nat} (m : a = 16 ∨ a = 46) : a + 10 < G.2 ∧ G.1 (a + 10) = (1, 10) := by rcases m with rfl | rfl; exact sh_26 hW; exact sh_56 hW
theorem shHerd_11 (hW : goW G R) {a : Nat} (m : a = 16 ∨ a = 46) : a + 11 < G.2 ∧ G.1 (a + 11) = (1, 10) := by rcases m with rfl | rfl; exact sh_27 hW; exact sh_57 hW
theorem rfHerd_2 (hW : goW G R) {a : Nat} (m : a = 16 ∨ a = 46) : R a 2 = some (a + 1) := by rcases m with rfl | rfl; exact rf_16_2 hW; exact rf_46_2 hW
theorem rfHerd_3 (hW : goW G R) {a : Nat} (m : a = 16 ∨ a = 46) : R a 3 = some (a + 2) := by rcases m with rfl | rfl; exact rf_16_3 hW; exact rf_46_3 hW
theorem rfHerd_4 (hW : goW G R) {a : Nat} (m : a = 16 ∨ a = 46) : R a 4 = some (a + 3) := by rcases m with rfl | rfl; exact rf_16_4 hW; exact rf_46_4 hW
theorem rfHerd_5 (hW : goW G R) {a : Nat} (m : a = 16 ∨ a = 46) : R a 5 = some (a + 4) := by rcases m with rfl | rfl; exact rf_16_5 hW; exact rf_46_5 hW
theorem rfHerd_6 (hW : goW G R) {a : Nat} (m : a = 16 ∨ a = 46) : R a 6 = some (a + 5) := by rcases m with rfl | rfl; exact rf_16_6 hW; exact rf_46_6 hW
theorem rfHerd_7 (hW : goW G R) {a : Nat} (m : a = 16 ∨ a = 46) : R a 7 = some (a + 6) := by rcases m with rfl | rfl; exact rf_16_7 hW; exact rf_46_7 hW
theorem rfHerd_8 (hW : goW G R) {a : Nat} (m : a = 16 ∨ a = 46) : R a 8 = some (a + 7) := by rcases m with rfl | rfl; exact rf_16_8 hW; exact rf_46_8 hW
theorem rfHerd_9 (hW : goW G R) {a : Nat} (m : a = 16 ∨ a = 46) : R a 9 = some (a + 8) := by rcases m with rfl | rfl; exact rf_16_9 hW; exact rf_46_9 hW
theorem rfHerd_10 (hW : goW G R) {a : Nat} (m : a = 16 ∨ a = 46) : R a 10 = some (a + 9) := by rcases m with rfl | rfl; exact rf_16_10 hW; exact rf_46_10 hW
theorem rfHerd_11 (hW : goW G R) {a : Nat} (m : a = 16 ∨ a = 46) : R a 11 = some (a + 10) := by rcases m with rfl | rfl; exact rf_16_11 hW; exact rf_46_11 hW
theorem rfHerd_12 (hW : goW G R) {a : Nat} (m : a = 16 ∨ a = 46) : R a 12 = some (a + 11) := by rcases m with rfl | rfl; exact rf_16_12 hW; exact rf_46_12 hW
theorem shLaw_0 (hW : goW G R) {a : Nat} (m : a = 28 ∨ a = 58) : a < G.2 ∧ G.1 (a) = (0, 6) := by rcases m with rfl | rfl; exact sh_28 hW; exact sh_58 hW
theorem shLaw_1 (hW : goW G R) {a : Nat} (m : a = 28 ∨ a = 58) : a + 1 < G.2 ∧ G.1 (a + 1) = (1, 8) := by rcases m with rfl | rfl; exact sh_29 hW; exact sh_59 hW
theorem shLaw_2 (hW : goW G R) {a : Nat} (m : a = 28 ∨ a = 58) : a + 2 < G.2 ∧ G.1 (a + 2) = (1, 8) := by rcases m with rfl | rfl; exact sh_30 hW; exact sh_60 hW
theorem shLaw_3 (hW : goW G R) {a : Nat} (m : a = 28 ∨ a = 58) : a + 3 < G.2 ∧ G.1 (a + 3) = (1, 8) := by rcases m with rfl | rfl; exact sh_31 hW; exact sh_61 hW
theorem rfLaw_4 (hW : goW G R) {a : Nat} (m : a = 28 ∨ a = 58) : R a 4 = some (a + 1) := by rcases m with rfl | rfl; exact rf_28_4 hW; exact rf_58_4 hW
theorem rfLaw_5 (hW : goW G R) {a : Nat} (m : a = 28 ∨ a = 58) : R a 5 = some (a + 2) := by rcases m with rfl | rfl; exact rf_28_5 hW; exact rf_58_5 hW
theorem rfLaw_6 (hW : goW G R) {a : Nat} (m : a = 28 ∨ a = 58) : R a 6 = some (a + 3) := by rcases m with rfl | rfl; exact rf_28_6 hW; exact rf_58_6 hW
theorem shCourts_0 (hW : goW G R) {a : Nat} (m : a = 32 ∨ a = 62) : a < G.2 ∧ G.1 (a) = (0, 1) := by rcases m with rfl | rfl; exact sh_32 hW; exact sh_62 hW
theorem shCourts_1 (hW : goW G R) {a : Nat} (m : a = 32 ∨ a = 62) : a + 1 < G.2 ∧ G.1 (a + 1) = (1, 6) := by rcases m with rfl | rfl; exact sh_33 hW; exact sh_63 hW
theorem shCourts_2 (hW : goW G R) {a : Nat} (m : a = 32 ∨ a = 62) : a + 2 < G.2 ∧ G.1 (a + 2) = (1, 6) := by rcases m with rfl | rfl; exact sh_34 hW; exact sh_64 hW
theorem shCourts_3 (hW : goW G R) {a : Nat} (m : a = 32 ∨ a = 62) : a + 3 < G.2 ∧ G.1 (a + 3) = (4, 64) := by rcases m with rfl | rfl; exact sh_35 hW; exact sh_65 hW
theorem shCourts_4 (hW : goW G R) {a : Nat} (m : a = 32 ∨ a = 62) : a + 4 < G.2 ∧ G.1 (a + 4) = (1, 64) := by rcases m with rfl | rfl; exact sh_36 hW; exact sh_66 hW
theorem rfCourts_1 (hW : goW G R) {a : Nat} (m : a = 32 ∨ a = 62) : R a 1 = some (a + 1) := by rcases m with rfl | rfl; exact rf_32_1 hW; exact rf_62_1 hW
theorem rfCourts_2 (hW : goW G R) {a : Nat} (m : a = 32 ∨ a = 62) : R a 2 = some (a + 2) := by rcases m with rfl | rfl; exact rf_32_2 hW; exact rf_62_2 hW
theorem rfCourts_3 (hW : goW G R) {a : Nat} (m : a = 32 ∨ a = 62) : R a 3 = some (a + 3) := by rcases m with rfl | rfl; exact rf_32_3 hW; exact rf_62_3 hW
theorem rfCourts_4 (hW : goW G R) {a : Nat} (m : a = 32 ∨ a = 62) : R a 4 = some (a + 4) := by rcases m with rfl | rfl; exact rf_32_4 hW; exact rf_62_4 hW
theorem shDay_0 (hW : goW G R) {a : Nat} (m : a = 78 ∨ a = 92) : a < G.2 ∧ G.1 (a) = (0, 2) := by rcases m with rfl | rfl; exact sh_78 hW; exact sh_92 hW
theorem shDay_1 (hW : goW G R) {a : Nat} (m : a = 78 ∨ a = 92) : a + 1 < G.2 ∧ G.1 (a + 1) = (1, 14) := by rcases m with rfl | rfl; exact sh_79 hW; exact sh_93 hW
theorem shDay_2 (hW : goW G R) {a : Nat} (m : a = 78 ∨ a = 92) : a + 2 < G.2 ∧ G.1 (a + 2) = (1, 24) := by rcases m with rfl | rfl; exact sh_80 hW; exact sh_94 hW
theorem shDay_3 (hW : goW G R) {a : Nat} (m : a = 78 ∨ a = 92) : a + 3 < G.2 ∧ G.1 (a + 3) = (1, 8) := by rcases m with rfl | rfl; exact sh_81 hW; exact sh_95 hW
theorem shDay_4 (hW : goW G R) {a : Nat} (m : a = 78 ∨ a = 92) : a + 4 < G.2 ∧ G.1 (a + 4) = (1, 72) := by rcases m with rfl | rfl; exact sh_82 hW; exact sh_96 hW
theorem shDay_5 (hW : goW G R) {a : Nat} (m : a = 78 ∨ a = 92) : a + 5 < G.2 ∧ G.1 (a + 5) = (1, 72) := by rcases m with rfl | rfl; exact sh_83 hW; exact sh_97 hW
theorem shDay_6 (hW : goW G R) {a : Nat} (m : a = 78 ∨ a = 92) : a + 6 < G.2 ∧ G.1 (a + 6) = (1, 72) := by rcases m with rfl | rfl; exact sh_84 hW; exact sh_98 hW
theorem shDay_7 (hW : goW G R) {a : Nat} (m : a = 78 ∨ a = 92) : a + 7 < G.2 ∧ G.1 (a + 7) = (1, 24) := by rcases m with rfl | rfl; exact sh_85 hW; exact sh_99 hW
theorem shDay_8 (hW : goW G R) {a : Nat} (m : a = 78 ∨ a = 92) : a + 8 < G.2 ∧ G.1 (a + 8) = (1, 192) := by rcases m with rfl | rfl; exact sh_86 hW; exact sh_100 hW
theorem shDay_9 (hW : goW G R) {a : Nat} (m : a = 78 ∨ a = 92) : a + 9 < G.2 ∧ G.1 (a + 9) = (1, 6) := by rcases m with rfl | rfl; exact sh_87 hW; exact sh_101 hW
theorem rfDay_0 (hW : goW G R) {a : Nat} (m : a = 78 ∨ a = 92) : R a 0 = some 3 := by rcases m with rfl | rfl; exact rf_78_0 hW; exact rf_92_0 hW
theorem rfDay_2 (hW : goW G R) {a : Nat} (m : a = 78 ∨ a = 92) : R a 2 = some (a + 1) := by rcases m with rfl | rfl; exact rf_78_2 hW; exact rf_92_2 hW
theorem rfDay_3 (hW : goW G R) {a : Nat} (m : a = 78 ∨ a = 92) : R a 3 = some (a + 2) := by rcases m with rfl | rfl; exact rf_78_3 hW; exact rf_92_3 hW
theorem rfDay_4 (hW : goW G R) {a : Nat} (m : a = 78 ∨ a = 92) : R a 4 = some (a + 3) := by rcases m with rfl | rfl; exact rf_78_4 hW; exact rf_92_4 hW
theorem rfDay_5 (hW : goW G R) {a : Nat} (m : a = 78 ∨ a = 92) : R a 5 = some (a + 4) := by rcases m with rfl | rfl; exact rf_78_5 hW; exact rf_92_5 hW
theorem rfDay_6 (hW : goW G R) {a : Nat} (m : a = 78 ∨ a = 92) : R a 6 = some (a + 5) := by rcases m with rfl | rfl; exact rf_78_6 hW; exact rf_92_6 hW
theorem rfDay_7 (hW : goW G R) {a : Nat} (m : a = 78 ∨ a = 92) : R a 7 = some (a + 6) := by rcases m with rfl | rfl; exact rf_78_7 hW; exact rf_92_7 hW
theorem rfDay_8 (hW : goW G R) {a : Nat} (m : a = 78 ∨ a = 92) : R a 8 = some (a + 7) := by rcases m with rfl | rfl; exact rf_78_8 hW; exact rf_92_8 hW
theorem rfDay_9 (hW : goW G R) {a : Nat} (m : a = 78 ∨ a = 92) : R a 9 = some (a + 8) := by rcases m with rfl | rfl; exact rf_78_9 hW; exact rf_92_9 hW
theorem rfDay_10 (hW : goW G R) {a : Nat} (m : a = 78 ∨ a = 92) : R a 10 = some (a + 9) := by rcases m with rfl | rfl; exact rf_78_10 hW; exact rf_92_10 hW
theorem rmDay_1 (hW : goW G R) {a : Nat} (m : a = 78 ∨ a = 92) : R a 1 = some (goRr R a 1) := by rcases m with rfl | rfl; exact rm_78_1 hW; exact rm_92_1 hW
theorem mmDay_1 (hW : goW G R) {a : Nat} (m : a = 78 ∨ a = 92) : goRr R a 1 = 7 ∨ goRr R a 1 = 37 := by rcases m with rfl | rfl; exact mm_78_1 hW; exact mm_92_1 hW
theorem subHerd {a : Nat} (m : a = 7 ∨ a = 37) : a + 9 = 16 ∨ a + 9 = 46 := by omega
theorem subLaw {a : Nat} (m : a = 7 ∨ a = 37) : a + 21 = 28 ∨ a + 21 = 58 := by omega
theorem subCourts {a : Nat} (m : a = 7 ∨ a = 37) : a + 25 = 32 ∨ a + 25 = 62 := by omega
theorem mb_7 : 7 = 7 ∨ 7 = 37 := Or.inl rfl
theorem mb_37 : 37 = 7 ∨ 37 = 37 := Or.inr rfl
theorem mb_16 : 16 = 16 ∨ 16 = 46 := Or.inl rfl
theorem mb_46 : 46 = 16 ∨ 46 = 46 := Or.inr rfl
theorem mb_28 : 28 = 28 ∨ 28 = 58 := Or.inl rfl
theorem mb_58 : 58 = 28 ∨ 58 = 58 := Or.inr rfl
theorem mb_32 : 32 = 32 ∨ 32 = 62 := Or.inl rfl
theorem mb_62 : 62 = 32 ∨ 62 = 62 := Or.inr rfl
theorem mb_78 : 78 = 78 ∨ 78 = 92 := Or.inl rfl
theorem mb_92 : 92 = 78 ∨ 92 = 92 := Or.inr rfl
theorem goW_M3 (hW : goW G R) {b : Nat} (h : R 102 3 = some b) : goIsM G R b := hW.2.2.2.2 3 (Or.inl rfl) b h
theorem goW_M4 (hW : goW G R) {b : Nat} (h : R 102 4 = some b) : goIsM G R b := hW.2.2.2.2 4 (Or.inr rfl) b h
theorem shM_0 {b : Nat} (h : goIsM G R b) : b < G.2 ∧ G.1 (b) = (0, 11) := ⟨by have := h.2.1; omega, h.2.2.1 0 (Nat.le_of_ble_eq_true rfl)⟩
theorem shM_1 {b : Nat} (h : goIsM G R b) : b + 1 < G.2 ∧ G.1 (b + 1) = (1, 32) := ⟨by have := h.2.1; omega, h.2.2.1 1 (Nat.le_of_ble_eq_true rfl)⟩
theorem shM_2 {b : Nat} (h : goIsM G R b) : b + 2 < G.2 ∧ G.1 (b + 2) = (1, 14) := ⟨by have := h.2.1; omega, h.2.2.1 2 (Nat.le_of_ble_eq_true rfl)⟩
theorem shM_3 {b : Nat} (h : goIsM G R b) : b + 3 < G.2 ∧ G.1 (b + 3) = (1, 14) := ⟨by have := h.2.1; omega, h.2.2.1 3 (Nat.le_of_ble_eq_true rfl)⟩
theorem shM_4 {b : Nat} (h : goIsM G R b) : b + 4 < G.2 ∧ G.1 (b + 4) = (1, 4) := ⟨by have := h.2.1; omega, h.2.2.1 4 (Nat.le_of_ble_eq_true rfl)⟩
theorem shM_5 {b : Nat} (h : goIsM G R b) : b + 5 < G.2 ∧ G.1 (b + 5) = (1, 144) := ⟨by have := h.2.1; omega, h.2.2.1 5 (Nat.le_of_ble_eq_true rfl)⟩
theorem shM_6 {b : Nat} (h : goIsM G R b) : b + 6 < G.2 ∧ G.1 (b + 6) = (1, 6) := ⟨by have := h.2.1; omega, h.2.2.1 6 (Nat.le_of_ble_eq_true rfl)⟩
theorem shM_7 {b : Nat} (h : goIsM G R b) : b + 7 < G.2 ∧ G.1 (b + 7) = (1, 6) := ⟨by have := h.2.1; omega, h.2.2.1 7 (Nat.le_of_ble_eq_true rfl)⟩
theorem shM_8 {b : Nat} (h : goIsM G R b) : b + 8 < G.2 ∧ G.1 (b + 8) = (1, 6) := ⟨by have := h.2.1; omega, h.2.2.1 8 (Nat.le_of_ble_eq_true rfl)⟩
theorem shM_9 {b : Nat} (h : goIsM G R b) : b + 9 < G.2 ∧ G.1 (b + 9) = (1, 24) := ⟨by have := h.2.1; omega, h.2.2.1 9 (Nat.le_of_ble_eq_true rfl)⟩
theorem shM_10 {b : Nat} (h : goIsM G R b) : b + 10 < G.2 ∧ G.1 (b + 10) = (1, 6) := ⟨by have := h.2.1; omega, h.2.2.1 10 (Nat.le_of_ble_eq_true rfl)⟩
theorem shM_11 {b : Nat} (h : goIsM G R b) : b + 11 < G.2 ∧ G.1 (b + 11) = (1, 6) := ⟨by have := h.2.1; omega, h.2.2.1 11 (Nat.le_of_ble_eq_true rfl)⟩
theorem shM_12 {b : Nat} (h : goIsM G R b) : b + 12 < G.2 ∧ G.1 (b + 12) = (1, 6) := ⟨by have := h.2.1; omega, h.2.2.1 12 (Nat.le_of_ble_eq_true rfl)⟩
theorem shM_13 {b : Nat} (h : goIsM G R b) : b + 13 < G.2 ∧ G.1 (b + 13) = (1, 10) := ⟨by have := h.2.1; omega, h.2.2.1 13 (Nat.le_of_ble_eq_true rfl)⟩
theorem shM_14 {b : Nat} (h : goIsM G R b) : b + 14 < G.2 ∧ G.1 (b + 14) = (1, 10) := ⟨by have := h.2.1; omega, h.2.2.1 14 (Nat.le_of_ble_eq_true rfl)⟩
theorem shM_15 {b : Nat} (h : goIsM G R b) : b + 15 < G.2 ∧ G.1 (b + 15) = (1, 10) := ⟨by have := h.2.1; omega, h.2.2.1 15 (Nat.le_of_ble_eq_true rfl)⟩
theorem shM_16 {b : Nat} (h : goIsM G R b) : b + 16 < G.2 ∧ G.1 (b + 16) = (1, 10) := ⟨by have := h.2.1; omega, h.2.2.1 16 (Nat.le_of_ble_eq_true rfl)⟩
theorem shM_17 {b : Nat} (h : goIsM G R b) : b + 17 < G.2 ∧ G.1 (b + 17) = (1, 8) := ⟨by have := h.2.1; omega, h.2.2.1 17 (Nat.le_of_ble_eq_true rfl)⟩
theorem shM_18 {b : Nat} (h : goIsM G R b) : b + 18 < G.2 ∧ G.1 (b + 18) = (1, 8) := ⟨by have := h.2.1; omega, h.2.2.1 18 (Nat.le_of_ble_eq_true rfl)⟩
theorem shM_19 {b : Nat} (h : goIsM G R b) : b + 19 < G.2 ∧ G.1 (b + 19) = (1, 8) := ⟨by have := h.2.1; omega, h.2.2.1 19 (Nat.le_of_ble_eq_true rfl)⟩
theorem shM_20 {b : Nat} (h : goIsM G R b) : b + 20 < G.2 ∧ G.1 (b + 20) = (1, 6) := ⟨by have := h.2.1; omega, h.2.2.1 20 (Nat.le_of_ble_eq_true rfl)⟩
theorem shM_21 {b : Nat} (h : goIsM G R b) : b + 21 < G.2 ∧ G.1 (b + 21) = (1, 6) := ⟨by have := h.2.1; omega, h.2.2.1 21 (Nat.le_of_ble_eq_true rfl)⟩
theorem shM_22 {b : Nat} (h : goIsM G R b) : b + 22 < G.2 ∧ G.1 (b + 22) = (1, 4) := ⟨by have := h.2.1; omega, h.2.2.1 22 (Nat.le_of_ble_eq_true rfl)⟩
theorem shM_23 {b : Nat} (h : goIsM G R b) : b + 23 < G.2 ∧ G.1 (b + 23) = (4, 40) := ⟨by have := h.2.1; omega, h.2.2.1 23 (Nat.le_of_ble_eq_true rfl)⟩
theorem shM_24 {b : Nat} (h : goIsM G R b) : b + 24 < G.2 ∧ G.1 (b + 24) = (1, 40) := ⟨by have := h.2.1; omega, h.2.2.1 24 (Nat.le_of_ble_eq_true rfl)⟩
theorem shM_25 {b : Nat} (h : goIsM G R b) : b + 25 < G.2 ∧ G.1 (b + 25) = (1, 40) := ⟨by have := h.2.1; omega, h.2.2.1 25 (Nat.le_of_ble_eq_true rfl)⟩
theorem rfM_16 {b : Nat} (h : goIsM G R b) : R b 16 = some (b + 1) := h.2.2.2 (16, 1) (by decide +kernel)
theorem rfM_17 {b : Nat} (h : goIsM G R b) : R b 17 = some (b + 2) := h.2.2.2 (17, 2) (by decide +kernel)
theorem rfM_18 {b : Nat} (h : goIsM G R b) : R b 18 = some (b + 3) := h.2.2.2 (18, 3) (by decide +kernel)
theorem rfM_19 {b : Nat} (h : goIsM G R b) : R b 19 = some (b + 4) := h.2.2.2 (19, 4) (by decide +kernel)
theorem rfM_20 {b : Nat} (h : goIsM G R b) : R b 20 = some (b + 5) := h.2.2.2 (20, 5) (by decide +kernel)
theorem rfM_21 {b : Nat} (h : goIsM G R b) : R b 21 = some (b + 6) := h.2.2.2 (21, 6) (by decide +kernel)
theorem rfM_22 {b : Nat} (h : goIsM G R b) : R b 22 = some (b + 7) := h.2.2.2 (22, 7) (by decide +kernel)
theorem rfM_23 {b : Nat} (h : goIsM G R b) : R b 23 = some (b + 8) := h.2.2.2 (23, 8) (by decide +kernel)
theorem rfM_24 {b : Nat} (h : goIsM G R b) : R b 24 = some (b + 9) := h.2.2.2 (24, 9) (by decide +kernel)
theorem rfM_25 {b : Nat} (h : goIsM G R b) : R b 25 = some (b + 10) := h.2.2.2 (25, 10) (by decide +kernel)
theorem rfM_26 {b : Nat} (h : goIsM G R b) : R b 26 = some (b + 11) := h.2.2.2 (26, 11) (by decide +kernel)
theorem rfM_27 {b : Nat} (h : goIsM G R b) : R b 27 = some (b + 12) := h.2.2.2 (27, 12) (by decide +kernel)
theorem rfM_28 {b : Nat} (h : goIsM G R b) : R b 28 = some (b + 13) := h.2.2.2 (28, 13) (by decide +kernel)
theorem rfM_29 {b : Nat} (h : goIsM G R b) : R b 29 = some (b + 14) := h.2.2.2 (29, 14) (by decide +kernel)
theorem rfM_30 {b : Nat} (h : goIsM G R b) : R b 30 = some (b + 15) := h.2.2.2 (30, 15) (by decide +kernel)
theorem rfM_31 {b : Nat} (h : goIsM G R b) : R b 31 = some (b + 16) := h.2.2.2 (31, 16) (by decide +kernel)
theorem rfM_32 {b : Nat} (h : goIsM G R b) : R b 32 = some (b + 17) := h.2.2.2 (32, 17) (by decide +kernel)
theorem rfM_33 {b : Nat} (h : goIsM G R b) : R b 33 = some (b + 18) := h.2.2.2 (33, 18) (by decide +kernel)
theorem rfM_34 {b : Nat} (h : goIsM G R b) : R b 34 = some (b + 19) := h.2.2.2 (34, 19) (by decide +kernel)
theorem rfM_35 {b : Nat} (h : goIsM G R b) : R b 35 = some (b + 20) := h.2.2.2 (35, 20) (by decide +kernel)
theorem rfM_36 {b : Nat} (h : goIsM G R b) : R b 36 = some (b + 21) := h.2.2.2 (36, 21) (by decide +kernel)
theorem rfM_37 {b : Nat} (h : goIsM G R b) : R b 37 = some (b + 22) := h.2.2.2 (37, 22) (by decide +kernel)
theorem rfM_38 {b : Nat} (h : goIsM G R b) : R b 38 = some (b + 23) := h.2.2.2 (38, 23) (by decide +kernel)
theorem rfM_39 {b : Nat} (h : goIsM G R b) : R b 39 = some (b + 24) := h.2.2.2 (39, 24) (by decide +kernel)
theorem rfM_40 {b : Nat} (h : goIsM G R b) : R b 40 = some (b + 25) := h.2.2.2 (40, 25) (by decide +kernel)
/-- a write of a reference that may change keeps the layout -/
theorem goW_put {a k x : Nat} (hW : goW G R) (hmu : (a, k) ∈ goMu) (hx : x = 7 ∨ x = 37) (hf : ∀ q ∈ goFx, ¬ (q.1 = a ∧ q.2.1 = k)) (ha : a < 121) (ham : a ≠ 102) : goW G (goWR R a k (some x)) := by
  obtain ⟨h1, h2, h3, h4, h5⟩ := hW
  refine ⟨h1, h2, fun q hq => ?_, fun q hq => ?_, fun j hj b hb => ?_⟩
  · have := hf q hq
    rw [← h3 q hq]
    unfold goWR
    split
    · split
      · exact absurd ⟨by assumption, by assumption⟩ this
      · rfl
    · rfl
  · obtain ⟨z, hz, hm⟩ := h4 q hq
    unfold goWR
    split
    · split
      · exact ⟨x, rfl, hx⟩
      · exact ⟨z, hz, hm⟩
    · exact ⟨z, hz, hm⟩
  · have hb : R 102 j = some b := by
      unfold goWR at hb
      rw [if_neg (fun e => ham e.symm)] at hb
      exact hb
    obtain ⟨g1, g2, g3, g4⟩ := h5 j hj b hb
    refine ⟨g1, g2, g3, fun q hq => ?_⟩
    rw [← g4 q hq]
    unfold goWR
    rw [if_neg (by omega)]
theorem pt_0_6 (hW : goW G R) {x : Nat} (hx : x = 7 ∨ x = 37) : goW G (goWR R 0 6 (some x)) := goW_put hW (by decide +kernel) hx (by decide +kernel) (by decide) (by decide)
theorem pt_0_5 (hW : goW G R) {x : Nat} (hx : x = 7 ∨ x = 37) : goW G (goWR R 0 5 (some x)) := goW_put hW (by decide +kernel) hx (by decide +kernel) (by decide) (by decide)
theorem pt_78_1 (hW : goW G R) {x : Nat} (hx : x = 7 ∨ x = 37) : goW G (goWR R 78 1 (some x)) := goW_put hW (by decide +kernel) hx (by decide +kernel) (by decide) (by decide)
theorem pt_92_1 (hW : goW G R) {x : Nat} (hx : x = 7 ∨ x = 37) : goW G (goWR R 92 1 (some x)) := goW_put hW (by decide +kernel) hx (by decide +kernel) (by decide) (by decide)
theorem pt_74_2 (hW : goW G R) {x : Nat} (hx : x = 7 ∨ x = 37) : goW G (goWR R 74 2 (some x)) := goW_put hW (by decide +kernel) hx (by decide +kernel) (by decide) (by decide)
theorem pt_67_7 (hW : goW G R) {x : Nat} (hx : x = 7 ∨ x = 37) : goW G (goWR R 67 7 (some x)) := goW_put hW (by decide +kernel) hx (by decide +kernel) (by decide) (by decide)
theorem ptDay_1 (hW : goW G R) {a x : Nat} (m : a = 78 ∨ a = 92) (hx : x = 7 ∨ x = 37) : goW G (goWR R a 1 (some x)) := by rcases m with rfl | rfl; exact pt_78_1 hW hx; exact pt_92_1 hW hx
def rX4_use (R : goMR) (a1 : Nat) : goMR := goWR (goWR R 74 2 (some a1)) 78 1 (some a1)
theorem rX4_use_W (hW : goW G R) {a1 : Nat} (m : a1 = 7 ∨ a1 = 37) : goW G (rX4_use R a1) := pt_78_1 (pt_74_2 hW m) m
def rX8_use (R : goMR) (a1 : Nat) : goMR := goWR R 92 1 (some a1)
theorem rX8_use_W (hW : goW G R) {a1 : Nat} (m : a1 = 7 ∨ a1 = 37) : goW G (rX8_use R a1) := pt_92_1 hW m
def rX9_read (R : goMR) (a1 : Nat) : goMR := goWR R 67 7 (some a1)
theorem rX9_read_W (hW : goW G R) {a1 : Nat} (m : a1 = 7 ∨ a1 = 37) : goW G (rX9_read R a1) := pt_67_7 hW m
/-- another hill of the model's -/
theorem goW_setM {k b : Nat} (hW : goW G R) (hk : k = 3 ∨ k = 4) (hb : goIsM G R b) : goW G (goWR R 102 k (some b)) := by
  obtain ⟨h1, h2, h3, h4, h5⟩ := hW
  have hM : ∀ c, goIsM G R c → goIsM G (goWR R 102 k (some b)) c := by
    rintro c ⟨g1, g2, g3, g4⟩
    refine ⟨g1, g2, g3, fun q hq => ?_⟩
    rw [← g4 q hq]
    unfold goWR
    rw [if_neg (by omega)]
  refine ⟨h1, h2, fun q hq => ?_, fun q hq => ?_, fun j hj c hc => ?_⟩
  · rw [← h3 q hq]
    have hne : ¬ (q.1 = 102 ∧ (q.2.1 = 3 ∨ q.2.1 = 4)) := (show ∀ q ∈ goFx, ¬ (q.1 = 102 ∧ (q.2.1 = 3 ∨ q.2.1 = 4)) by decide +kernel) q hq
    unfold goWR
    split
    · split
      · rename_i e1 e2
        exact absurd ⟨e1, by rw [e2]; exact hk⟩ hne
      · rfl
    · rfl
  · obtain ⟨x, hx, hm⟩ := h4 q hq
    refine ⟨x, ?_, hm⟩
    have hne : q.1 ≠ 102 := (show ∀ q ∈ goMu, q.1 ≠ 102 by decide +kernel) q hq
    unfold goWR
    rw [if_neg hne]
    exact hx
  · unfold goWR at hc
    rw [if_pos rfl] at hc
    split at hc
    · cases hc; exact hM _ hb
    · exact hM _ (h5 j hj c hc)
end goLay
