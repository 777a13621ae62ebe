theorem goSub6 {Ln : Nat} (h : Ln ≤ 3072) : (Int32.ofNat Ln - 6).toInt = (Ln : Int) - 6 := by
  rw [Int32.toInt_sub, Int32.toInt_ofNat_of_lt (by omega), show (6 : Int32).toInt = 6 from rfl]
  exact Int.bmod_eq_of_le (by omega) (by omega)
set_option maxRecDepth 100000 in
set_option maxHeartbeats 4000000 in
theorem law_loop {E : goEv} {X : goX} {c0 s0 Ln : Nat} {Q : State → Prop} {xs : Nat → Int32} {I : goInv} (hA : goAll I) (hmono : ∀ k G M L R, I k G M L R → I (k + 1) G M L R) (hc : goCx E X code RL 7) (hk : goKn E) (hfl : X.2.1.stackTraces = false) (hx : goXn E) (hR : X.2.2.2.1 = goRoom 16 614 601024 7293034) (hX : va_X (goAd E 1000800) Ln xs E.1 E.1.heap) (hbb : goAd E 1000800 < E.2.1) (hLn : Ln ≤ 3072) (hbs : X.2.2.2.2.1.heap.size ≤ E.2.1) (h0 : c0 + 27 * 600 ≤ 601024 ∧ s0 + 600 * 600 ≤ 7293034)
    (kend : ∀ (n ce sl : Nat) (G : goG) (M : goMI) (L : goML) (R : goMR) (d5 d6 : Option Value), ce ≤ 601024 → sl ≤ 7293034 → goA E X G ce sl Q 2049 [some (.ref 1000800), some (.ref 0), some (.ref 102), some (.ref 120), some (.int (Int32.ofNat n)), d5, d6] [] M L R) :
    ∀ (j n k : Nat) (G : goG) (M : goMI) (L : goML) (R : goMR) (d5 d6 : Option Value), j + k = 513 → n = 6 * k → I k G M L R → goA E X G (c0 + 27 * k) (s0 + 600 * k) Q 23 [some (.ref 1000800), some (.ref 0), some (.ref 102), some (.ref 120), some (.int (Int32.ofNat n)), d5, d6] [] M L R := by
  intro j
  induction j with
  | zero =>
    intro n k G M L R d5 d6 hj hn hI
    refine go_iload4 hc dL_law_23 ?_
    refine go_aload0 hc dL_law_25 ?_
    refine go_slenL hc hX hbb dL_law_26 ?_
    refine go_bipush (v := 6) hc dL_law_27 rfl ?_
    refine go_isub hc dL_law_29 ?_
    refine go_icmp_gt hc 2049 dL_law_30 rfl (fun c => ?_) (fun c => ?_)
    · exact kend _ _ _ _ _ _ _ _ _ (by omega) (by omega)
    · exfalso
      have c1 : Int32.ofNat n ≤ Int32.ofNat Ln - 6 := c
      rw [Int32.le_iff_toInt_le, goSub6 hLn, Int32.toInt_ofNat_of_lt (by omega)] at c1
      omega
  | succ j ih =>
    intro n k G M L R d5 d6 hj hn hI
    refine go_iload4 hc dL_law_23 ?_
    refine go_aload0 hc dL_law_25 ?_
    refine go_slenL hc hX hbb dL_law_26 ?_
    refine go_bipush (v := 6) hc dL_law_27 rfl ?_
    refine go_isub hc dL_law_29 ?_
    refine go_icmp_gt hc 2049 dL_law_30 rfl (fun c => ?_) (fun c => ?_)
    · exact kend _ _ _ _ _ _ _ _ _ (by omega) (by omega)
    · have hin : n + 6 ≤ Ln := by
        have c1 : Int32.ofNat n ≤ Int32.ofNat Ln - 6 := c
        rw [Int32.le_iff_toInt_le, goSub6 hLn, Int32.toInt_ofNat_of_lt (by omega)] at c1
        omega
      have hkk : k < 4000 := by omega
      have hce : c0 + 27 * k + 27 ≤ 601024 ∧ s0 + 600 * k + 600 ≤ 7293034 := ⟨by omega, by omega⟩
      have kx : ∀ (G' : goG) (M' : goMI) (L' : goML) (R' : goMR) (d5 d6 : Option Value), I (k + 1) G' M' L' R' → goA E X G' (c0 + 27 * k + 27) (s0 + 600 * k + 600) Q 2043 [some (.ref 1000800), some (.ref 0), some (.ref 102), some (.ref 120), some (.int (Int32.ofNat n)), d5, d6] [] M' L' R' := by
        intro G' M' L' R' d5 d6 hI'
        refine go_iinc4 (v := Int32.ofNat (n + 6)) hc dL_law_2043 (nI_add n 6) ?_
        refine go_goto hc 23 dL_law_2046 rfl ?_

        have K := ih (n + 6) (k + 1) G' M' L' R' d5 d6 (by omega) (by omega) hI'
        rw [show c0 + 27 * (k + 1) = c0 + 27 * k + 27 by omega, show s0 + 600 * (k + 1) = s0 + 600 * k + 600 by omega] at K
        exact K
      refine go_aload0 hc dL_law_33 ?_
      refine go_iload4 hc dL_law_34 ?_
      refine go_sld hc hX hbb (j := n) ⟨nI_clamp (by omega), nI_pos' (by omega)⟩ (by omega) dL_law_36 ?_
      refine go_bipush (v := 63) hc dL_law_37 rfl ?_
      refine go_iand hc dL_law_39 ?_
      obtain ⟨i, hi, he⟩ := pk_andE (xs n) (m := 63) 6 rfl
      rw [he]
      match i, hi with
      | 0, _ => exact go_tabIn hc 260 dL_law_40 (v := Int32.ofNat 0) rfl (by decide) (by decide) rfl rfl (law_feed hA hI hkk hc hk hR hX hbb hin hLn hce kx)
      | 1, _ => exact go_tabIn hc 333 dL_law_40 (v := Int32.ofNat 1) rfl (by decide) (by decide) rfl rfl (law_hill hA hI hkk hc hk hR hX hbb hin hLn hce hbs kx)
      | 2, _ => exact go_tabIn hc 358 dL_law_40 (v := Int32.ofNat 2) rfl (by decide) (by decide) rfl rfl (law_fault hA hI hkk hc hk hR hX hbb hin hLn hce kx)
      | 3, _ => exact go_tabIn hc 371 dL_law_40 (v := Int32.ofNat 3) rfl (by decide) (by decide) rfl rfl (law_where hA hI hkk hc hk hR hX hbb hin hLn hce kx)
      | 4, _ => exact go_tabIn hc 384 dL_law_40 (v := Int32.ofNat 4) rfl (by decide) (by decide) rfl rfl (law_plants hA hI hkk hc hk hR hX hbb hin hLn hce kx)
      | 5, _ => exact go_tabIn hc 421 dL_law_40 (v := Int32.ofNat 5) rfl (by decide) (by decide) rfl rfl (law_near hA hI hkk hc hk hR hX hbb hin hLn hce kx)
      | 6, _ => exact go_tabIn hc 446 dL_law_40 (v := Int32.ofNat 6) rfl (by decide) (by decide) rfl rfl (law_goat hA hI hkk hc hk hR hX hbb hin hLn hce kx)
      | 7, _ => exact go_tabIn hc 483 dL_law_40 (v := Int32.ofNat 7) rfl (by decide) (by decide) rfl rfl (law_likes hA hI hkk hc hk hR hX hbb hin hLn hce kx)
      | 8, _ => exact go_tabIn hc 520 dL_law_40 (v := Int32.ofNat 8) rfl (by decide) (by decide) rfl rfl (law_clue hA hI hkk hc hk hR hX hbb hin hLn hce kx)
      | 9, _ => exact go_tabIn hc 557 dL_law_40 (v := Int32.ofNat 9) rfl (by decide) (by decide) rfl rfl (law_story hA hI hkk hc hk hR hX hbb hin hLn hce kx)
      | 10, _ => exact go_tabIn hc 606 dL_law_40 (v := Int32.ofNat 10) rfl (by decide) (by decide) rfl rfl (law_stories hA hI hkk hc hk hR hX hbb hin hLn hce kx)
      | 11, _ => exact go_tabIn hc 631 dL_law_40 (v := Int32.ofNat 11) rfl (by decide) (by decide) rfl rfl (law_caseOf hA hI hkk hc hk hR hX hbb hin hLn hce kx)
      | 12, _ => exact go_tabIn hc 668 dL_law_40 (v := Int32.ofNat 12) rfl (by decide) (by decide) rfl rfl (law_at hA hI hkk hc hk hR hX hbb hin hLn hce kx)
      | 13, _ => exact go_tabIn hc 717 dL_law_40 (v := Int32.ofNat 13) rfl (by decide) (by decide) rfl rfl (law_ate hA hI hkk hc hk hR hX hbb hin hLn hce kx)
      | 14, _ => exact go_tabIn hc 766 dL_law_40 (v := Int32.ofNat 14) rfl (by decide) (by decide) rfl rfl (law_drops hA hI hkk hc hk hR hX hbb hin hLn hce kx)
      | 15, _ => exact go_tabIn hc 827 dL_law_40 (v := Int32.ofNat 15) rfl (by decide) (by decide) rfl rfl (law_flees hA hI hkk hc hk hR hX hbb hin hLn hce kx)
      | 16, _ => exact go_tabIn hc 864 dL_law_40 (v := Int32.ofNat 16) rfl (by decide) (by decide) rfl rfl (law_left hA hI hkk hc hk hR hX hbb hin hLn hce kx)
      | 17, _ => exact go_tabIn hc 913 dL_law_40 (v := Int32.ofNat 17) rfl (by decide) (by decide) rfl rfl (law_met hA hI hkk hc hk hR hX hbb hin hLn hce kx)
      | 18, _ => exact go_tabIn hc 962 dL_law_40 (v := Int32.ofNat 18) rfl (by decide) (by decide) rfl rfl (law_isTrue hA hI hkk hc hk hR hX hbb hin hLn hce kx)
      | 19, _ => exact go_tabIn hc 999 dL_law_40 (v := Int32.ofNat 19) rfl (by decide) (by decide) rfl rfl (law_fits hA hI hkk hc hk hR hX hbb hin hLn hce kx)
      | 20, _ => exact go_tabIn hc 1012 dL_law_40 (v := Int32.ofNat 20) rfl (by decide) (by decide) rfl rfl (law_fit hA hI hkk hc hk hR hX hbb hin hLn hce kx)
      | 21, _ => exact go_tabIn hc 1037 dL_law_40 (v := Int32.ofNat 21) rfl (by decide) (by decide) rfl rfl (law_could hA hI hkk hc hk hR hX hbb hin hLn hce kx)
      | 22, _ => exact go_tabIn hc 1074 dL_law_40 (v := Int32.ofNat 22) rfl (by decide) (by decide) rfl rfl (law_surely hA hI hkk hc hk hR hX hbb hin hLn hce kx)
      | 23, _ => exact go_tabIn hc 1111 dL_law_40 (v := Int32.ofNat 23) rfl (by decide) (by decide) rfl rfl (law_lies hA hI hkk hc hk hR hX hbb hin hLn hce kx)
      | 24, _ => exact go_tabIn hc 1136 dL_law_40 (v := Int32.ofNat 24) rfl (by decide) (by decide) rfl rfl (law_falseOnes hA hI hkk hc hk hR hX hbb hin hLn hce kx)
      | 25, _ => exact go_tabIn hc 1149 dL_law_40 (v := Int32.ofNat 25) rfl (by decide) (by decide) rfl rfl (law_odds hA hI hkk hc hk hR hX hbb hin hLn hce kx)
      | 26, _ => exact go_tabIn hc 1174 dL_law_40 (v := Int32.ofNat 26) rfl (by decide) (by decide) rfl rfl (law_likeliest hA hI hkk hc hk hR hX hbb hin hLn hce kx)
      | 27, _ => exact go_tabIn hc 1187 dL_law_40 (v := Int32.ofNat 27) rfl (by decide) (by decide) rfl rfl (law_proved hA hI hkk hc hk hR hX hbb hin hLn hce kx)
      | 28, _ => exact go_tabIn hc 1236 dL_law_40 (v := Int32.ofNat 28) rfl (by decide) (by decide) rfl rfl (law_ask hA hI hkk hc hk hR hX hbb hin hLn hce kx)
      | 29, _ => exact go_tabIn hc 1249 dL_law_40 (v := Int32.ofNat 29) rfl (by decide) (by decide) rfl rfl (law_askMost hA hI hkk hc hk hR hX hbb hin hLn hce kx)
      | 30, _ => exact go_tabIn hc 1262 dL_law_40 (v := Int32.ofNat 30) rfl (by decide) (by decide) rfl rfl (law_led hA hI hkk hc hk hR hX hbb hin hLn hce kx)
      | 31, _ => exact go_tabIn hc 1323 dL_law_40 (v := Int32.ofNat 31) rfl (by decide) (by decide) rfl rfl (law_ledAt hA hI hkk hc hk hR hX hbb hin hLn hce kx)
      | 32, _ => exact go_tabIn hc 1396 dL_law_40 (v := Int32.ofNat 32) rfl (by decide) (by decide) rfl rfl (law_scared hA hI hkk hc hk hR hX hbb hin hLn hce kx)
      | 33, _ => exact go_tabIn hc 1457 dL_law_40 (v := Int32.ofNat 33) rfl (by decide) (by decide) rfl rfl (law_follows hA hI hkk hc hk hR hX hbb hin hLn hce kx)
      | 34, _ => exact go_tabIn hc 1482 dL_law_40 (v := Int32.ofNat 34) rfl (by decide) (by decide) rfl rfl (law_step hA hI hkk hc hk hR hX hbb hin hLn hce kx)
      | 35, _ => exact go_tabIn hc 1495 dL_law_40 (v := Int32.ofNat 35) rfl (by decide) (by decide) rfl rfl (law_needs hA hI hkk hc hk hR hX hbb hin hLn hce kx)
      | 36, _ => exact go_tabIn hc 1520 dL_law_40 (v := Int32.ofNat 36) rfl (by decide) (by decide) rfl rfl (law_enough hA hI hkk hc hk hR hX hbb hin hLn hce kx)
      | 37, _ => exact go_tabIn hc 1545 dL_law_40 (v := Int32.ofNat 37) rfl (by decide) (by decide) rfl rfl (law_cheese hA hI hkk hc hk hR hX hbb hin hLn hce kx)
      | 38, _ => exact go_tabIn hc 1570 dL_law_40 (v := Int32.ofNat 38) rfl (by decide) (by decide) rfl rfl (law_cheeseOf hA hI hkk hc hk hR hX hbb hin hLn hce kx)
      | 39, _ => exact go_tabIn hc 1595 dL_law_40 (v := Int32.ofNat 39) rfl (by decide) (by decide) rfl rfl (law_appeals hA hI hkk hc hk hR hX hbb hin hLn hce kx)
      | 40, _ => exact go_tabIn hc 1609 dL_law_40 (v := Int32.ofNat 40) rfl (by decide) (by decide) rfl rfl (law_appealAt hA hI hkk hc hk hR hX hbb hin hLn hce kx)
      | 41, _ => exact go_tabIn hc 1634 dL_law_40 (v := Int32.ofNat 41) rfl (by decide) (by decide) rfl rfl (law_salt hA hI hkk hc hk hR hX hbb hin hLn hce kx)
      | 42, _ => exact go_tabIn hc 1699 dL_law_40 (v := Int32.ofNat 42) rfl (by decide) (by decide) rfl rfl (law_dog hA hI hkk hc hk hR hX hbb hin hLn hce kx)
      | 43, _ => exact go_tabIn hc 1764 dL_law_40 (v := Int32.ofNat 43) rfl (by decide) (by decide) rfl rfl (law_hedge hA hI hkk hc hk hR hX hbb hin hLn hce kx)
      | 44, _ => exact go_tabIn hc 1817 dL_law_40 (v := Int32.ofNat 44) rfl (by decide) (by decide) rfl rfl (law_hear hA hI hkk hc hk hR hX hbb hin hLn hce kx)
      | 45, _ => exact go_tabIn hc 1870 dL_law_40 (v := Int32.ofNat 45) rfl (by decide) (by decide) rfl rfl (law_undo hA hI hkk hc hk hR hX hbb hin hLn hce kx)
      | 46, _ => exact go_tabIn hc 1883 dL_law_40 (v := Int32.ofNat 46) rfl (by decide) (by decide) rfl rfl (law_mark hA hI hkk hc hk hR hX hbb hin hLn hce kx)
      | 47, _ => exact go_tabIn hc 1896 dL_law_40 (v := Int32.ofNat 47) rfl (by decide) (by decide) rfl rfl (law_back hA hI hkk hc hk hR hX hbb hin hLn hce kx)
      | 48, _ => exact go_tabIn hc 1921 dL_law_40 (v := Int32.ofNat 48) rfl (by decide) (by decide) rfl rfl (law_put hA hI hkk hfl hx hbs hc hk hR hX hbb hin hLn hce kx)
      | 49, _ => exact go_tabIn hc 2005 dL_law_40 (v := Int32.ofNat 49) rfl (by decide) (by decide) rfl rfl (law_size hA hI hkk hc hk hR hX hbb hin hLn hce kx)
      | 50, _ => exact go_tabIn hc 2030 dL_law_40 (v := Int32.ofNat 50) rfl (by decide) (by decide) rfl rfl (law_trouble hA hI hkk hc hk hR hX hbb hin hLn hce kx)
      | i + 51, hi =>
        refine go_tabOut hc 2043 dL_law_40 (Or.inr ?_) rfl (go_widen (by omega) (by omega) (kx _ _ _ _ _ _ ?_))
        · show (50 : Int) < (Int32.ofNat (i + 51)).toInt
          rw [Int32.toInt_ofNat_of_lt (by omega)]; omega
        · exact hmono _ _ _ _ _ hI
