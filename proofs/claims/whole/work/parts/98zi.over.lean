/-! LINES: the model in state OVER (printed by gen98zi.py) -/
section lines30
variable {e s b st nn : Nat} {Rc Rm : goMR} {Mc Mm M1 : goMI} {Lc Lm L1 : goML} {T : tH}
theorem ov_plants {a n : Nat} {x y : Int32} (hRm : Rm 102 4 = some b) (h : M1 102 9 = 5) : fX14_readPlants 5000 M1 L1 Rm a n x y = some (M1, L1) := by
  have e : lX14_readPlants_3 5000 x y Rm a n (4999 + 1) 0 M1 L1 = some (M1, L1) := by
    rw [lX14_readPlants_3, hRm, gBd, if_pos h]
    split <;> rfl
  unfold fX14_readPlants
  show goB2 (lX14_readPlants_3 5000 x y Rm a n (4999 + 1) 0 M1 L1) _ = _
  rw [e, gB2]
theorem ov_plant (h : M1 102 9 = 5) : fX14_readPlant 5000 M1 L1 Rm = some (0, M1, L1) := by
  unfold fX14_readPlant
  rw [if_neg (ov_n (by decide) h), ov_fl h, gBd, gBd, if_pos h, gBd, if_pos h, gBd, ov_on h, gB2]
theorem mBeg {x y : Int32} (hRm : Rm 102 4 = some b) (hxy : ¬ x = y) (h0 : ¬ Mm b 0 = 0) (hg : fX14_goesOn 5000 Mm Lm = some (M1, L1)) : fX14_begins 5000 Mm Lm Rm x y = some (M1, L1) := by
  unfold fX14_begins
  rw [if_neg hxy, gBd, hRm, gBd, if_neg h0, gBd, hg, gB2]
theorem mBeg5 {x y : Int32} (hb : 121 ≤ b) (hRm : Rm 102 4 = some b) (h : rT e st Mc Lc Mm Lm) (hxy : x = y) : fX14_begins 5000 Mm Lm Rm x y = some (mF Mm 5 st, Lm) := by
  have ee : (if mF Mm 5 st b 0 = 0 then Option.bind (some (mF Mm 5 st)) fun M57 => some M57 else some (mF Mm 5 st)) = some (mF Mm 5 st) := by split <;> rfl
  unfold fX14_begins
  rw [if_pos hxy, mFlaw h.2.2.2.1 (rT_9 h), gBd, gBd, hRm, gBd, ov_fl mF_9, ee, gBd, ov_on mF_9, gB2]
theorem mBeg6 {x y : Int32} (hRm : Rm 102 4 = some b) (h : rT e st Mc Lc Mm Lm) (hxy : ¬ x = y) (h0 : Mm b 0 = 0) : fX14_begins 5000 Mm Lm Rm x y = some (mF Mm 6 st, Lm) := by
  unfold fX14_begins
  rw [if_neg hxy, gBd, hRm, gBd, if_pos h0, mFlaw h.2.2.2.1 (rT_9 h), gBd, gBd, ov_on mF_9, gB2]
theorem mBo {x : Int32} (hx : x = 0) : fX14_beginsOnce 5000 Mm Lm Rm x = fX14_begins 5000 Mm Lm Rm 0 1 := by
  unfold fX14_beginsOnce
  rw [if_pos hx, gBd]
  cases fX14_begins 5000 Mm Lm Rm 0 1 with
  | none => rfl
  | some z => rfl
theorem mBo3 {x : Int32} (hRm : Rm 102 4 = some b) (h : rT e st Mc Lc Mm Lm) (hx : ¬ x = 0) : fX14_beginsOnce 5000 Mm Lm Rm x = some (mF Mm 3 st, Lm) := by
  unfold fX14_beginsOnce
  rw [if_neg hx, mFlaw h.2.2.2.1 (rT_9 h), gBd, gBd, ov_begins hRm mF_9, gB2]
theorem ov_lplace (hRm : Rm 102 4 = some b) (hbeg : fX14_begins 5000 Mm Lm Rm (Mm b 2) 8 = some (M1, L1)) (hN : mNm b nn M1) (h : M1 102 9 = 5) : fX14_readPlace 5000 Mm Lm Rm = some (M1, L1) := by
  unfold fX14_readPlace
  simp only [hRm, gBd]
  rw [hbeg, gB2, ov_fresh hRm hN h, gB3]
  by_cases c : M1 b 2 < 8
  · rw [if_pos c, gBd, ov_plants hRm h, gB2, if_pos h]
  · rw [if_neg c, gBd, ov_plants hRm h, gB2, if_pos h]
theorem ov_lpath (hRm : Rm 102 4 = some b) (hbeg : fX14_begins 5000 Mm Lm Rm (Mm b 3) 14 = some (M1, L1)) (hN : mNm b nn M1) (h : M1 102 9 = 5) : fX14_readPath 5000 Mm Lm Rm = some (M1, L1) := by
  unfold fX14_readPath
  simp only [hRm, gBd]
  rw [hbeg, gB2, ov_rk hRm hN h, gB3, ov_known hRm hN h, gB2, if_pos h, gBd, ov_on h, gB2, if_pos h]
theorem ov_lperson (hRm : Rm 102 4 = some b) (hbeg : fX14_begins 5000 Mm Lm Rm (Mm b 4) 4 = some (M1, L1)) (hN : mNm b nn M1) (h : M1 102 9 = 5) : fX14_readPerson 5000 Mm Lm Rm = some (M1, L1) := by
  unfold fX14_readPerson
  simp only [hRm, gBd]
  rw [hbeg, gB2, ov_fresh hRm hN h, gB3, if_pos h]
theorem ov_lstory (hRm : Rm 102 4 = some b) (hbeg : fX14_begins 5000 Mm Lm Rm 0 1 = some (M1, L1)) (hN : mNm b nn M1) (h : M1 102 9 = 5) : fX14_readStory 5000 Mm Lm Rm = some (M1, L1) := by
  unfold fX14_readStory
  rw [hbeg, gB2, ov_known hRm hN h, gB2, if_pos h, gBd, ov_on h, gB2, if_pos h, gBd, gNm, ov_story hRm hN h]
theorem ov_lgoat (hRm : Rm 102 4 = some b) (hbeg : fX14_begins 5000 Mm Lm Rm (Mm b 5) 6 = some (M1, L1)) (hN : mNm b nn M1) (h : M1 102 9 = 5) : fX14_readGoat 5000 Mm Lm Rm = some (M1, L1) := by
  rw [mGoat rfl, hRm, gBd, hbeg, gB2, ov_fresh hRm hN h, gB3, ov_Kd h, ov_R1 hRm hN h]
theorem ov_lfears (hRm : Rm 102 4 = some b) (hbeg : fX14_begins 5000 Mm Lm Rm (Mm b 6) 8 = some (M1, L1)) (hN : mNm b nn M1) (h : M1 102 9 = 5) : fX14_readFears 5000 Mm Lm Rm = some (M1, L1) := by
  unfold fX14_readFears
  simp only [hRm, gBd]
  rw [hbeg, gB2, ov_rk hRm hN h, gB3, ov_known hRm hN h, gB2, if_pos h, gBd, ov_on h, gB2, if_pos h]
theorem ov_lfound (hRm : Rm 102 4 = some b) (hbeg : fX14_begins 5000 Mm Lm Rm (Mm b 7) 10 = some (M1, L1)) (hN : mNm b nn M1) (h : M1 102 9 = 5) : fX14_readClue 5000 Mm Lm Rm 0 = some (M1, L1) := by
  unfold fX14_readClue
  simp only [hRm, gBd]
  rw [hbeg, gB2, ov_rk hRm hN h, gB3, if_pos True.intro, ov_plant h, gB3, gB3, ov_rk hRm hN h, gB3, if_pos True.intro, gB3, if_pos h]
theorem ov_lseen (hRm : Rm 102 4 = some b) (hbeg : fX14_begins 5000 Mm Lm Rm (Mm b 7) 10 = some (M1, L1)) (hN : mNm b nn M1) (h : M1 102 9 = 5) : fX14_readClue 5000 Mm Lm Rm 1 = some (M1, L1) := by
  unfold fX14_readClue
  simp only [hRm, gBd]
  rw [hbeg, gB2, ov_rk hRm hN h, gB3, if_neg (by decide), gB3, ov_rk hRm hN h, gB3, if_neg (by decide), ov_whole h, gB3, gB3, if_pos h]
theorem ov_lshied (hRm : Rm 102 4 = some b) (hbeg : fX14_begins 5000 Mm Lm Rm (Mm b 7) 10 = some (M1, L1)) (hN : mNm b nn M1) (h : M1 102 9 = 5) : fX14_readClue 5000 Mm Lm Rm 2 = some (M1, L1) := by
  unfold fX14_readClue
  simp only [hRm, gBd]
  rw [hbeg, gB2, ov_rk hRm hN h, gB3, if_neg (by decide), gB3, ov_rk hRm hN h, gB3, if_neg (by decide), ov_whole h, gB3, gB3, if_pos h]
theorem ov_lfact (hRm : Rm 102 4 = some b) (hbeg : fX14_begins 5000 Mm Lm Rm (Mm b 8) 8 = some (M1, L1)) (hN : mNm b nn M1) (h : M1 102 9 = 5) : fX14_readFact 5000 Mm Lm Rm = some (M1, L1) := by
  unfold fX14_readFact
  simp only [hRm, gBd]
  rw [hbeg, gB2, ov_fresh hRm hN h, gB3, if_pos h]
theorem ov_lholds (hRm : Rm 102 4 = some b) (hbeg : fX14_begins 5000 Mm Lm Rm 0 1 = some (M1, L1)) (hN : mNm b nn M1) (h : M1 102 9 = 5) : fX14_readHolds 5000 Mm Lm Rm = some (M1, L1) := by
  unfold fX14_readHolds
  rw [hbeg, gB2, ov_known hRm hN h, gB2, if_pos h, gBd, ov_on h, gB2, if_pos h]
theorem ov_lrule (hRm : Rm 102 4 = some b) (hbeg : fX14_begins 5000 Mm Lm Rm (Mm b 9) 8 = some (M1, L1)) (hN : mNm b nn M1) (h : M1 102 9 = 5) : fX14_readRule 5000 Mm Lm Rm = some (M1, L1) := by
  unfold fX14_readRule
  simp only [hRm, gBd]
  rw [hbeg, gB2, ov_rk hRm hN h, gB3, ov_wants h, gB2, ov_rule hRm hN h]
theorem ov_lproof (hRm : Rm 102 4 = some b) (hbeg : fX14_beginsOnce 5000 Mm Lm Rm (Mm b 14) = some (M1, L1)) (hN : mNm b nn M1) (h : M1 102 9 = 5) : fX14_readProof 5000 Mm Lm Rm = some (M1, L1) := by
  unfold fX14_readProof
  simp only [hRm, gBd]
  rw [hbeg, gB2]
  have ee : (if M1 b 10 = 8 then Option.bind (some M1) fun M57 => some M57 else some M1) = some M1 := by split <;> rfl
  show lX14_readProof_13 5000 Rm (4999 + 1) 1 M1 L1 = _
  rw [lX14_readProof_13, if_neg (by decide), ov_known hRm hN h, gB2, hRm, gBd, ov_fl h, ee, gBd, ov_on h, gB2, if_pos h]
theorem ov_lcourt (hRm : Rm 102 4 = some b) (hbeg : fX14_begins 5000 Mm Lm Rm (Mm b 11) 6 = some (M1, L1)) (hN : mNm b nn M1) (h : M1 102 9 = 5) : fX14_readCourt 5000 Mm Lm Rm = some (M1, L1) := by
  unfold fX14_readCourt
  simp only [hRm, gBd]
  rw [hbeg, gB2, ov_fresh hRm hN h, gB3, ov_part h, gB3, ov_part h, gB3, if_pos h]
theorem ov_lcheese (hRm : Rm 102 4 = some b) (hbeg : fX14_beginsOnce 5000 Mm Lm Rm (Mm b 15) = some (M1, L1)) (hN : mNm b nn M1) (h : M1 102 9 = 5) : fX14_readCheese 5000 Mm Lm Rm = some (M1, L1) := by
  unfold fX14_readCheese
  simp only [hRm, gBd]
  rw [hbeg, gB2, ov_plants hRm h, gB2, if_pos h]
end lines30
