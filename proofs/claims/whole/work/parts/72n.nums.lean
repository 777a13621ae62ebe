/-! LITERALS and plain arithmetic as nI -/
theorem gL_0 : (0 : Int32) = nI 0 := rfl
theorem gL_1 : (1 : Int32) = nI 1 := rfl
theorem gL_2 : (2 : Int32) = nI 2 := rfl
theorem gL_3 : (3 : Int32) = nI 3 := rfl
theorem gL_4 : (4 : Int32) = nI 4 := rfl
theorem gL_5 : (5 : Int32) = nI 5 := rfl
theorem gL_6 : (6 : Int32) = nI 6 := rfl
theorem gL_7 : (7 : Int32) = nI 7 := rfl
theorem gL_8 : (8 : Int32) = nI 8 := rfl
theorem gL_9 : (9 : Int32) = nI 9 := rfl
theorem gL_10 : (10 : Int32) = nI 10 := rfl
theorem gL_11 : (11 : Int32) = nI 11 := rfl
theorem gL_12 : (12 : Int32) = nI 12 := rfl
theorem gL_13 : (13 : Int32) = nI 13 := rfl
theorem gL_14 : (14 : Int32) = nI 14 := rfl
theorem gL_15 : (15 : Int32) = nI 15 := rfl
theorem gL_16 : (16 : Int32) = nI 16 := rfl
theorem gL_17 : (17 : Int32) = nI 17 := rfl
theorem gL_18 : (18 : Int32) = nI 18 := rfl
theorem gL_19 : (19 : Int32) = nI 19 := rfl
theorem gL_20 : (20 : Int32) = nI 20 := rfl
theorem gL_21 : (21 : Int32) = nI 21 := rfl
theorem gL_22 : (22 : Int32) = nI 22 := rfl
theorem gL_23 : (23 : Int32) = nI 23 := rfl
theorem gL_24 : (24 : Int32) = nI 24 := rfl
theorem gL_25 : (25 : Int32) = nI 25 := rfl
theorem gL_26 : (26 : Int32) = nI 26 := rfl
theorem gL_27 : (27 : Int32) = nI 27 := rfl
theorem gL_31 : (31 : Int32) = nI 31 := rfl
theorem gL_32 : (32 : Int32) = nI 32 := rfl
theorem gL_40 : (40 : Int32) = nI 40 := rfl
theorem gL_44 : (44 : Int32) = nI 44 := rfl
theorem gL_48 : (48 : Int32) = nI 48 := rfl
theorem gL_57 : (57 : Int32) = nI 57 := rfl
theorem gL_59 : (59 : Int32) = nI 59 := rfl
theorem gL_63 : (63 : Int32) = nI 63 := rfl
theorem gL_72 : (72 : Int32) = nI 72 := rfl
theorem gL_78 : (78 : Int32) = nI 78 := rfl
theorem gL_81 : (81 : Int32) = nI 81 := rfl
theorem gL_82 : (82 : Int32) = nI 82 := rfl
theorem gL_96 : (96 : Int32) = nI 96 := rfl
theorem gL_97 : (97 : Int32) = nI 97 := rfl
theorem gL_99 : (99 : Int32) = nI 99 := rfl
theorem gL_100 : (100 : Int32) = nI 100 := rfl
theorem gL_122 : (122 : Int32) = nI 122 := rfl
theorem gL_144 : (144 : Int32) = nI 144 := rfl
theorem gL_192 : (192 : Int32) = nI 192 := rfl
theorem gL_255 : (255 : Int32) = nI 255 := rfl
theorem gL_270 : (270 : Int32) = nI 270 := rfl
theorem gL_288 : (288 : Int32) = nI 288 := rfl
theorem gL_1200 : (1200 : Int32) = nI 1200 := rfl
theorem gM_2 (a : Nat) : nI a * nI 2 = nI (2 * a) := by rw [pk_mul, Nat.mul_comm]
theorem gN_2 (a : Nat) : nI 2 * nI a = nI (2 * a) := pk_mul _ _
theorem gM_3 (a : Nat) : nI a * nI 3 = nI (3 * a) := by rw [pk_mul, Nat.mul_comm]
theorem gN_3 (a : Nat) : nI 3 * nI a = nI (3 * a) := pk_mul _ _
theorem gM_4 (a : Nat) : nI a * nI 4 = nI (4 * a) := by rw [pk_mul, Nat.mul_comm]
theorem gN_4 (a : Nat) : nI 4 * nI a = nI (4 * a) := pk_mul _ _
theorem gM_8 (a : Nat) : nI a * nI 8 = nI (8 * a) := by rw [pk_mul, Nat.mul_comm]
theorem gN_8 (a : Nat) : nI 8 * nI a = nI (8 * a) := pk_mul _ _
theorem gM_10 (a : Nat) : nI a * nI 10 = nI (10 * a) := by rw [pk_mul, Nat.mul_comm]
theorem gN_10 (a : Nat) : nI 10 * nI a = nI (10 * a) := pk_mul _ _
theorem gM_12 (a : Nat) : nI a * nI 12 = nI (12 * a) := by rw [pk_mul, Nat.mul_comm]
theorem gN_12 (a : Nat) : nI 12 * nI a = nI (12 * a) := pk_mul _ _
theorem gM_14 (a : Nat) : nI a * nI 14 = nI (14 * a) := by rw [pk_mul, Nat.mul_comm]
theorem gN_14 (a : Nat) : nI 14 * nI a = nI (14 * a) := pk_mul _ _
theorem gM_16 (a : Nat) : nI a * nI 16 = nI (16 * a) := by rw [pk_mul, Nat.mul_comm]
theorem gN_16 (a : Nat) : nI 16 * nI a = nI (16 * a) := pk_mul _ _
theorem gM_18 (a : Nat) : nI a * nI 18 = nI (18 * a) := by rw [pk_mul, Nat.mul_comm]
theorem gN_18 (a : Nat) : nI 18 * nI a = nI (18 * a) := pk_mul _ _
theorem gM_26 (a : Nat) : nI a * nI 26 = nI (26 * a) := by rw [pk_mul, Nat.mul_comm]
theorem gN_26 (a : Nat) : nI 26 * nI a = nI (26 * a) := pk_mul _ _
theorem gM_32 (a : Nat) : nI a * nI 32 = nI (32 * a) := by rw [pk_mul, Nat.mul_comm]
theorem gN_32 (a : Nat) : nI 32 * nI a = nI (32 * a) := pk_mul _ _
theorem gM_72 (a : Nat) : nI a * nI 72 = nI (72 * a) := by rw [pk_mul, Nat.mul_comm]
theorem gN_72 (a : Nat) : nI 72 * nI a = nI (72 * a) := pk_mul _ _
theorem gM_100 (a : Nat) : nI a * nI 100 = nI (100 * a) := by rw [pk_mul, Nat.mul_comm]
theorem gN_100 (a : Nat) : nI 100 * nI a = nI (100 * a) := pk_mul _ _
theorem gMod (a d : Nat) : a - d * (a / d) = a % d := by have := Nat.div_add_mod a d; omega
theorem gI_bit14 {x k : Nat} (hx : x < 2 ^ 31) (hk : k < 32) : fX14_bit (nI x) (nI k) = nI (x.testBit k).toNat := by
  have e : (nI x >>> (nI k &&& 31)) &&& 1 = nI (x.testBit k).toNat := gI_bit hx hk
  unfold fX14_bit
  rw [e]
  cases x.testBit k <;> rfl
theorem gI_shl1n {k : Nat} (hk : k < 32) : nI 1 <<< (nI k &&& nI 31) = nI (2 ^ k) := gI_shl1 hk
theorem gI_shln {x k : Nat} (hk : k < 32) (h : x * 2 ^ k < 2 ^ 32) : nI x <<< (nI k &&& nI 31) = nI (x * 2 ^ k) := gI_shl hk h
theorem gI_shr31 {x k : Nat} (hx : x < 2 ^ 31) (hk : k < 32) : nI x >>> (nI k &&& nI 31) = nI (x / 2 ^ k) := gI_shr hx hk
theorem gI_not1 {a b : Nat} (ha : a < 2 ^ 32) : nI a &&& (nI b ^^^ (-nI 1)) = nI (dAn a b) := gI_not a b ha
theorem gI_tn1n {b : Bool} : nI b.toNat = nI 1 ↔ b = true := gI_tn1
theorem gI_tn0n {b : Bool} : nI b.toNat = nI 0 ↔ b = false := gI_tn0
theorem gIe00 : (nI 0 = nI 0) = True := by simp
theorem gIe11 : (nI 1 = nI 1) = True := by simp
theorem gIe01 : (nI 0 = nI 1) = False := by decide
theorem gIe10 : (nI 1 = nI 0) = False := by decide
theorem gI_and15 (y : Nat) : nI y &&& nI 15 = nI (y % 16) := by rw [gI_and]; exact congrArg nI (Nat.and_two_pow_sub_one_eq_mod y 4)
theorem gI_and1n (y : Nat) : nI y &&& nI 1 = nI (y % 2) := by rw [gI_and]; exact congrArg nI (Nat.and_two_pow_sub_one_eq_mod y 1)
theorem gI_m1 : (-nI 1 : Int32) = -1 := rfl
theorem gI_m2 : (-nI 2 : Int32) = -2 := rfl
theorem gI_neg1 (a : Nat) : nI (a + 1) + (-nI 1) = nI a := pk_m1 a
theorem gI_eq32 {a b : Nat} (ha : a < 4294967296) (hb : b < 4294967296) : nI a = nI b ↔ a = b := by
  constructor
  · intro h
    have h1 := pk_tn (n := a) (by omega)
    have h2 := pk_tn (n := b) (by omega)
    rw [h] at h1
    omega
  · intro h; rw [h]
theorem gI_lt0 {a : Nat} (h : a < 2 ^ 31) : ¬ nI a < nI 0 := nI_pos h
theorem gI_nn {x : Int32} : ∃ n : Nat, n < 4294967296 ∧ x = nI n := ⟨x.toBitVec.toNat, x.toBitVec.isLt, by
  apply Int32.toBitVec_inj.mp
  rw [gI_bv, BitVec.ofNat_toNat, BitVec.setWidth_eq]⟩
theorem gTb_lt {x n : Nat} (h : ∀ i, n ≤ i → x.testBit i = false) : x < 2 ^ n := Nat.lt_pow_two_of_testBit x h
theorem gTb_hi {x n i : Nat} (h : x < 2 ^ n) (hi : n ≤ i) : x.testBit i = false := Nat.testBit_lt_two_pow (Nat.lt_of_lt_of_le h (Nat.pow_le_pow_right (by decide) hi))
theorem dAn_lt {a b n : Nat} (h : a < 2 ^ n) : dAn a b < 2 ^ n := gI_andn_lt h
theorem dAn_tb (a b i : Nat) : (dAn a b).testBit i = (a.testBit i && !b.testBit i) := gI_tb_andn a b i
theorem gWI_self {M : goMI} {a k j : Nat} {x : Int32} : goWI M a k x a j = if j = k then x else M a j := by simp [goWI]
theorem gTn_lt {b : Bool} : b.toNat < 2 := by cases b <;> decide
