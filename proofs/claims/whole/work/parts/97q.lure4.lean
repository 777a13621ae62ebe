/-! LURE: pairs in the component, and the whole of it -/
section lure4
variable {M M' M0 : goMI} {R : goMR} {T : tH} {t c w hr g p : Nat} {A L S : Nat → Nat}
theorem luInner (hk : luK R t T w hr g p) (hA : luW T (A 24) c hr g p A = false) (hone : ∀ x, luO T A w hr x → luW T (A 24) c hr g p (luF A w x) = false) {s1 lim b1 b2 : Nat} (hs1 : luO T A w hr s1) (hlim : lim = hr ∨ (lim = s1 % 12 ∧ luS T (A 24) c (luF A w s1) (s1 % 12 + 1) = luS T (A 24) c A (s1 % 12 + 1))) (hl1 : s1 % 12 ≤ lim) (hl2 : lim ≤ hr) (hC : luC M0 M t T (A 24) c w hr g p (luF A w s1) S) (hP : luP M 90 T (A 24) c (luF A w s1) (s1 % 12) (lim + 1)) (h8 : M 88 8 = nI b1) (h9 : M 88 9 = nI b2) (hB : luB T A c w hr g p b1 b2 (fun a _ => a < s1)) :
    ∃ M', lX8_findLater_59 5000 (nI s1) (nI (s1 % 12)) (nI lim) R 5000 (nI 0) M = some M' ∧ (∃ S', luC M0 M' t T (A 24) c w hr g p (luF A w s1) S') ∧ (∀ b, b = 89 ∨ b = 91 → M' b = M b) ∧ ∃ b1 b2, M' 88 8 = nI b1 ∧ M' 88 9 = nI b2 ∧ luB T A c w hr g p b1 b2 (fun a _ => a < s1 + 1) := by
  have hk' := hk
  obtain ⟨k1, k2, k3, k4, k5, k6, k7⟩ := hk'
  have hz := tO_sz k1
  have hs12 := hs1.1
  have hm1 := Nat.mod_lt s1 (show 0 < 12 by decide)
  refine gFor (fun n i M' => lX8_findLater_59 5000 (nI s1) (nI (s1 % 12)) (nI lim) R n (nI i) M') (fun i M' => (∃ S', luC M0 M' t T (A 24) c w hr g p (luF A w s1) S') ∧ (∀ b, b = 89 ∨ b = 90 ∨ b = 91 → M' b = M b) ∧ ∃ b1 b2, M' 88 8 = nI b1 ∧ M' 88 9 = nI b2 ∧ luB T A c w hr g p b1 b2 (fun a b => a < s1 ∨ (a = s1 ∧ b < i))) _ (12 * T 0 2) ?_ ?_ 5000 0 M (Nat.zero_le _) ⟨⟨S, hC⟩, fun _ _ => rfl, b1, b2, h8, h9, hB.1, fun a b hab => hB.2 a b (by rcases hab with h | h; exact h; omega)⟩ (by omega)
  · rintro n i M1 hi ⟨⟨S1, hC1⟩, fr, d1, d2, r8, r9, hB1⟩
    obtain ⟨l1, l2⟩ := luB_le k1 hB1
    have hmi := Nat.mod_lt i (show 0 < 12 by decide)
    have skip : ∀ M2 : goMI, (∃ S', luC M0 M2 t T (A 24) c w hr g p (luF A w s1) S') → (∀ b, b ≤ 92 → M2 b = M1 b) → (luQ s1 i → luO T A w hr i → luW T (A 24) c hr g p (luF (luF A w s1) w i) = true → 100 * d1 + d2 ≤ 100 * min s1 i + max s1 i) → (∃ S', luC M0 M2 t T (A 24) c w hr g p (luF A w s1) S') ∧ (∀ b, b = 89 ∨ b = 90 ∨ b = 91 → M2 b = M b) ∧ ∃ b1 b2, M2 88 8 = nI b1 ∧ M2 88 9 = nI b2 ∧ luB T A c w hr g p b1 b2 (fun a b => a < s1 ∨ (a = s1 ∧ b < i + 1)) := by
      intro M2 q1 q2 q3
      refine ⟨q1, fun b hb => by rw [q2 b (by omega)]; exact fr b hb, d1, d2, by rw [q2 88 (by decide)]; exact r8, by rw [q2 88 (by decide)]; exact r9, hB1.1, fun a b hab hQ hOa hOb hW => ?_⟩
      by_cases e : a = s1 ∧ b = i
      · rw [e.1, e.2] at hQ hW ⊢
        rw [e.2] at hOb
        exact q3 hQ hOb hW
      · exact hB1.2 a b (by omega) hQ hOa hOb hW
    show ∃ M2, lX8_findLater_59 _ _ _ _ _ _ _ _ = lX8_findLater_59 _ _ _ _ _ _ _ _ ∧ _
    rw [lX8_findLater_59, luPl hk hC1, if_pos (nI_lt hi (by omega)), luSm (by omega), gNm, luX30 hm1 (by omega) hmi (by omega) (by omega), gNm, nI_1]
    by_cases z : (s1 % 12 < i % 12 ∧ i % 12 ≤ lim) ∨ (i % 12 = s1 % 12 ∧ s1 < i)
    · rw [decide_eq_true z, if_neg (by decide), luSooner r8 r9 l1 l2 (by omega) (by omega)]
      by_cases z2 : 100 * min s1 i + max s1 i < 100 * d1 + d2
      · rw [decide_eq_true z2, if_neg (by decide), luFree hk hC1 (by omega), gBd, luF_bit (by omega)]
        cases hfr : (decide (i % 12 ≤ hr) && !(A (w + i % 12)).testBit (i / 12)) with
        | false =>
          rw [if_pos (show nI false.toNat = 0 from rfl), gBd]
          refine ⟨M1, rfl, skip M1 ⟨S1, hC1⟩ (fun _ _ => rfl) (fun hQ hO _ => ?_)⟩
          rw [decide_eq_true hO.2.1, hO.2.2] at hfr
          cases hfr
        | true =>
          rw [Bool.and_eq_true, decide_eq_true_eq, Bool.not_eq_true'] at hfr
          have hO : luO T A w hr i := ⟨hi, hfr.1, hfr.2⟩
          obtain ⟨x, M3, S3, e3, f3, g3, q0, q1⟩ := luChanges hk hC1 (a := 90) (s := i) (lo := s1 % 12) (hi := lim + 1) (Or.inr rfl) (by omega) hfr.1 (fun j h1 h2 i hi => by rw [fr 90 (by decide)]; exact hP j h1 h2 i hi) (by omega) (by omega)
          rw [if_neg (by decide), e3, gB2]
          cases x with
          | false =>
            have hq := q0 rfl
            rw [if_pos (show nI false.toNat = 0 from rfl), gBd]
            refine ⟨M3, rfl, skip M3 ⟨S3, f3⟩ (fun b hb => g3 b (by omega)) (fun hQ hO hW => ?_)⟩
            rw [luW_of (luS_late k7 (m := i % 12 + 1) (by omega) (by omega) (by omega) hq), hone s1 hs1] at hW
            cases hW
          | true =>
            have hq := q1 rfl
            have hw4 : decide (S3 (8 + g) = p) = luW T (A 24) c hr g p (luF (luF A w s1) w i) := by rw [hq]; rfl
            rw [if_neg (by decide), luThere hk f3, gBd, hw4]
            cases hww : luW T (A 24) c hr g p (luF (luF A w s1) w i) with
            | false =>
              rw [if_pos (show nI false.toNat = 0 from rfl), gBd]
              refine ⟨M3, rfl, skip M3 ⟨S3, f3⟩ (fun b hb => g3 b (by omega)) (fun hQ hO hW => ?_)⟩
              rw [hww] at hW
              cases hW
            | true =>
              rw [if_neg (by decide), gNm, gNm, gBd, gMn (by omega) (by omega), gMx (by omega) (by omega)]
              refine ⟨_, rfl, ⟨S3, luC_fr k3 f3 (fun b hb => by rw [goWI_ne (by omega), goWI_ne (by omega)]) (fun j hj => by rw [gWI_nk (by omega), gWI_nk (by omega)])⟩, fun b hb => by rw [goWI_ne (by omega), goWI_ne (by omega), g3 b (by omega)]; exact fr b hb, min s1 i, max s1 i, by rw [gWI_nk (by decide), gWI_self, if_pos rfl], by rw [gWI_self, if_pos rfl], Or.inr ?_, fun a b hab hQ hOa hOb hW => ?_⟩
              · have hne : s1 ≠ i := by omega
                by_cases hlt : s1 < i
                · rw [show min s1 i = s1 by omega, show max s1 i = i by omega]
                  exact ⟨hlt, hs1, hO, hww⟩
                · rw [show min s1 i = i by omega, show max s1 i = s1 by omega]
                  exact ⟨by omega, hO, hs1, by rw [luF_comm]; exact hww⟩
              · by_cases e : a = s1 ∧ b = i
                · rw [e.1, e.2]; exact Nat.le_refl _
                · exact Nat.le_trans (Nat.le_of_lt z2) (hB1.2 a b (by omega) hQ hOa hOb hW)
      · rw [decide_eq_false z2, if_pos (show nI false.toNat = 0 from rfl), gBd]
        exact ⟨M1, rfl, skip M1 ⟨S1, hC1⟩ (fun _ _ => rfl) (fun _ _ _ => by omega)⟩
    · rw [decide_eq_false z, if_pos (show nI false.toNat = 0 from rfl), gBd]
      refine ⟨M1, rfl, skip M1 ⟨S1, hC1⟩ (fun _ _ => rfl) (fun hQ hO hW => ?_)⟩
      unfold luQ at hQ
      have hir := hO.2.1
      rcases hlim with e | ⟨e1, e2⟩
      · omega
      · rw [luW_of (luS_dull k7 (by omega) (by omega) (by omega) e2), hone i hO] at hW
        cases hW
  · rintro n M1 ⟨hC1, fr, d1, d2, r8, r9, hB1⟩
    refine ⟨M1, ?_, hC1, fun b hb => fr b (by omega), d1, d2, r8, r9, hB1.1, fun a b hab hQ hOa hOb hW => hB1.2 a b ?_ hQ hOa hOb hW⟩
    · obtain ⟨S1, hC1⟩ := hC1
      show lX8_findLater_59 _ _ _ _ _ _ _ _ = _
      rw [lX8_findLater_59, luPl hk hC1, if_neg (nI_nlt (Nat.le_refl _) (by omega))]
    · have := hOb.1
      have hab' : a < s1 + 1 := hab
      show a < s1 ∨ (a = s1 ∧ b < 12 * T 0 2)
      omega
theorem luLater (hk : luK R t T w hr g p) (hA : luW T (A 24) c hr g p A = false) (hI : luI M0 M t T A c w hr g p (12 * T 0 2)) {s1 b1 b2 : Nat} (hs1 : luO T A w hr s1) (h8 : M 88 8 = nI b1) (h9 : M 88 9 = nI b2) (hB : luB T A c w hr g p b1 b2 (fun a _ => a < s1)) :
    ∃ M', fX8_findLater 5000 M R (nI s1) = some M' ∧ luI M0 M' t T A c w hr g p (12 * T 0 2) ∧ ∃ b1 b2, M' 88 8 = nI b1 ∧ M' 88 9 = nI b2 ∧ luB T A c w hr g p b1 b2 (fun a _ => a < s1 + 1) := by
  have hk' := hk
  obtain ⟨k1, k2, k3, k4, k5, k6, k7⟩ := hk'
  have hz := tO_sz k1
  have hs12 := hs1.1
  have hsr := hs1.2.1
  have hm1 := Nat.mod_lt s1 (show 0 < 12 by decide)
  obtain ⟨⟨S, hC⟩, hP, hD⟩ := hI
  have hone : ∀ x, luO T A w hr x → luW T (A 24) c hr g p (luF A w x) = false := fun x hO => (hD x hO.1 hO).1
  have hlx : ∃ lim, (if M 91 s1 = 0 then M 88 6 else nI (s1 % 12)) = nI lim ∧ (lim = hr ∨ (lim = s1 % 12 ∧ luS T (A 24) c (luF A w s1) (s1 % 12 + 1) = luS T (A 24) c A (s1 % 12 + 1))) ∧ s1 % 12 ≤ lim ∧ lim ≤ hr := by
    by_cases e : M 91 s1 = 0
    · rw [if_pos e, hC.2.2.2.2.2.1]
      exact ⟨hr, rfl, Or.inl rfl, hsr, Nat.le_refl _⟩
    · rw [if_neg e]
      rcases (hD s1 hs12 hs1).2 with h | h
      · exact absurd h e
      · exact ⟨_, rfl, Or.inr ⟨rfl, h⟩, Nat.le_refl _, hsr⟩
  obtain ⟨lim, el, q1, q2, q3⟩ := hlx
  obtain ⟨M1, e1, f1, g1⟩ := luTurn k7 k3 hC (s := s1) (by omega)
  obtain ⟨M2, e2, f2, g2⟩ := luLoad k3 f1 (a := 89) (j := s1 % 12) (X := luS T (A 24) c A (s1 % 12)) (by omega) (luS_ok k1 _) (fun i hi => by rw [g1 89 (by decide)]; exact hP _ (Nat.zero_le _) (by omega) i hi)
  rw [← luS_early (w := w) (s := s1) (L := A) k7 (Nat.le_refl _)] at f2
  obtain ⟨M3, e3, f3, g3, g3', g3''⟩ := luSave k3 f2 (a := 90) (Or.inr rfl) (j := s1 % 12) (by omega)
  obtain ⟨M4, e4, f4, p4, g4⟩ := luSaving hk (a := 90) (f := s1 % 12) (to := lim) (Or.inr rfl) (by omega) (by omega) f3 (fun j h1 h2 i hi => by rw [show j = s1 % 12 by omega]; exact g3 i hi)
  have fr4 : ∀ b, b = 88 ∨ b = 89 ∨ b = 91 → M4 b = M b := fun b hb => by rw [g4 b (by omega) (by omega), g3'' b (by omega), g2 b (by omega), g1 b (by omega)]
  obtain ⟨M5, e5, ⟨S5, f5⟩, g5, c1, c2, r8, r9, hB5⟩ := luInner hk hA hone hs1 q1 q2 q3 f4 p4 (by rw [fr4 88 (by decide)]; exact h8) (by rw [fr4 88 (by decide)]; exact h9) hB
  obtain ⟨M6, e6, f6, g6⟩ := luTurn k7 k3 f5 (s := s1) (by omega)
  rw [luF_uF] at f6
  have e5' : lX8_findLater_59 5000 (nI s1) (nI (s1 % 12)) (nI lim) R 5000 0 M4 = some M5 := e5
  refine ⟨M6, ?_, ⟨⟨S5, f6⟩, fun j h1 h2 i hi => ?_, fun x hx hO => ?_⟩, c1, c2, by rw [g6 88 (by decide)]; exact r8, by rw [g6 88 (by decide)]; exact r9, hB5⟩
  · unfold fX8_findLater
    rw [luSm (by omega), gNm, gRd (by omega), gBd, el, gNm, e1, gBd, e2, gBd, e3, gBd, e4, gBd, e5', gBd, e6, gBd]
  · rw [g6 89 (by decide), g5 89 (by decide), fr4 89 (by decide)]; exact hP j h1 h2 i hi
  · rw [g6 91 (by decide), g5 91 (by decide), fr4 91 (by decide)]; exact hD x hx hO
theorem luPairs (hk : luK R t T w hr g p) (hA : luW T (A 24) c hr g p A = false) (hI : luI M0 M t T A c w hr g p (12 * T 0 2)) (h8 : M 88 8 = nI 96) (h9 : M 88 9 = nI 96) :
    ∃ M', lX8_fewest_85 5000 R 5000 (nI 0) M = some M' ∧ luI M0 M' t T A c w hr g p (12 * T 0 2) ∧ ∃ b1 b2, M' 88 8 = nI b1 ∧ M' 88 9 = nI b2 ∧ luB T A c w hr g p b1 b2 (fun a _ => a < 12 * T 0 2) := by
  have hk' := hk
  obtain ⟨k1, k2, k3, k4, k5, k6, k7⟩ := hk'
  have hz := tO_sz k1
  refine gFor (fun n i M' => lX8_fewest_85 5000 R n (nI i) M') (fun i M' => luI M0 M' t T A c w hr g p (12 * T 0 2) ∧ ∃ b1 b2, M' 88 8 = nI b1 ∧ M' 88 9 = nI b2 ∧ luB T A c w hr g p b1 b2 (fun a _ => a < i)) _ (12 * T 0 2) ?_ ?_ 5000 0 M (Nat.zero_le _) ⟨hI, 96, 96, h8, h9, Or.inl ⟨rfl, rfl⟩, fun a b hab => absurd hab (Nat.not_lt_zero _)⟩ (by omega)
  · rintro n i M1 hi ⟨hI1, d1, d2, r8, r9, hB1⟩
    obtain ⟨S1, hC1⟩ := hI1.1
    show ∃ M2, lX8_fewest_85 _ _ _ _ _ = lX8_fewest_85 _ _ _ _ _ ∧ _
    rw [lX8_fewest_85, luPl hk hC1, if_pos (nI_lt hi (by omega)), luFree hk hC1 (by omega), gBd]
    cases hfr : (decide (i % 12 ≤ hr) && !(A (w + i % 12)).testBit (i / 12)) with
    | false =>
      rw [if_pos (show nI false.toNat = 0 from rfl), gBd, nI_1]
      refine ⟨M1, rfl, hI1, d1, d2, r8, r9, hB1.1, fun a b hab hQ hOa hOb hW => ?_⟩
      by_cases e : a = i
      · exfalso
        rw [e] at hOa
        rw [decide_eq_true hOa.2.1, hOa.2.2] at hfr
        cases hfr
      · exact hB1.2 a b (by have : a < i + 1 := hab; show a < i; omega) hQ hOa hOb hW
    | true =>
      rw [Bool.and_eq_true, decide_eq_true_eq, Bool.not_eq_true'] at hfr
      obtain ⟨M2, e2, f2, g2⟩ := luLater hk hA hI1 ⟨hi, hfr.1, hfr.2⟩ r8 r9 hB1
      rw [if_neg (by decide), e2, gBd, gBd, nI_1]
      exact ⟨M2, rfl, f2, g2⟩
  · rintro n M1 ⟨hI1, h⟩
    obtain ⟨S1, hC1⟩ := hI1.1
    refine ⟨M1, ?_, hI1, h⟩
    show lX8_fewest_85 _ _ _ _ _ = _
    rw [lX8_fewest_85, luPl hk hC1, if_neg (nI_nlt (Nat.le_refl _) (by omega))]
theorem luFewest (hk : luK R t T w hr g p) (hC : tC M t T) (h4 : ∀ i, i < 26 → M 4 i = nI (A i)) (hAb : ∀ i, i < 24 → A i < 256) (hA24 : A 24 < 16384) (h98 : ∀ i, i < 72 → ∃ n, n < 12 ∧ M 98 i = nI n) (hc : c < 2 ^ 31) :
    ∃ r M' s1 s2, fX8_fewest 5000 M R (nI c) (nI g) (nI p) (nI hr) (nI w) = some (r, M') ∧ luE M M' ∧ luAn T A c w hr g p r s1 s2 ∧ (r = 1 ∨ r = 2 → M' 88 8 = nI s1) ∧ (r = 2 → M' 88 9 = nI s2) := by
  have hk' := hk
  obtain ⟨k1, k2, k3, k4, k5, k6, k7⟩ := hk'
  have hz := tO_sz k1
  have frW : ∀ b, b ≠ 88 → goWI (goWI (goWI (goWI M 88 4 (nI g)) 88 5 (nI p)) 88 6 (nI hr)) 88 7 (nI w) b = M b := fun b hb => by rw [goWI_ne hb, goWI_ne hb, goWI_ne hb, goWI_ne hb]
  obtain ⟨M1, e1, hB, fr1, _, _, _⟩ := cPrepare (M := goWI (goWI (goWI (goWI M 88 4 (nI g)) 88 5 (nI p)) 88 6 (nI hr)) 88 7 (nI w)) (a := 92) (t := t) (T := T) (R := R) (A := A) (N := 5000) (tC_fr hC (fun r hr => frW _ (by omega))) k1 k2 (by omega) (by omega) (by decide) (fun i hi => by rw [frW 4 (by decide)]; exact h4 i hi) hA24 (fun i hi => by rw [frW _ (by decide)]; exact h98 i hi) hc
  have hC1 : luC M M1 t T (A 24) c w hr g p A (luS T (A 24) c A 0) := by
    refine ⟨hB, hAb, fun b hb => by rw [fr1 b (by omega), frW b (by omega)], ?_, ?_, ?_, ?_⟩
    · rw [fr1 88 (by decide), gWI_nk (by decide), gWI_nk (by decide), gWI_nk (by decide), gWI_self, if_pos rfl]
    · rw [fr1 88 (by decide), gWI_nk (by decide), gWI_nk (by decide), gWI_self, if_pos rfl]
    · rw [fr1 88 (by decide), gWI_nk (by decide), gWI_self, if_pos rfl]
    · rw [fr1 88 (by decide), gWI_self, if_pos rfl]
  obtain ⟨M2, e2, f2, g2, g2', g2''⟩ := luSave k3 hC1 (a := 89) (Or.inl rfl) (j := 0) (by decide)
  have e2' : fX8_save M1 89 182 0 = some M2 := e2
  obtain ⟨M3, e3, f3, p3, g3⟩ := luSaving hk (a := 89) (f := 0) (to := hr) (Or.inl rfl) (by omega) (by omega) f2 (fun j h1 h2 i hi => by rw [show j = 0 by omega]; exact g2 i hi)
  have e3' : fX8_playSaving 5000 M2 R 89 182 0 (nI hr) = some M3 := e3
  have hth : fX8_isThere M3 = some (nI (luW T (A 24) c hr g p A).toNat) := luThere hk f3
  unfold fX8_fewest
  rw [gNm, gNm, gNm, gNm, e1, gBd, e2', gBd, f2.2.2.2.2.2.1, e3', gBd, hth, gBd]
  cases hA : luW T (A 24) c hr g p A with
  | true =>
    rw [if_neg (by decide)]
    exact ⟨0, M3, 0, 0, rfl, luC_E f3, Or.inl ⟨rfl, hA⟩, (fun h => (by rcases h with h | h <;> cases h)), (fun h => (by cases h))⟩
  | false =>
    rw [if_pos (show nI false.toNat = 0 from rfl)]
    have hI0 : luI M M3 t T A c w hr g p 0 := ⟨⟨_, f3⟩, p3, fun x hx => absurd hx (Nat.not_lt_zero _)⟩
    obtain ⟨⟨r, M4⟩, e4, h⟩ := luOne hk hA hI0
    rw [e4, gB2]
    rcases h with ⟨h1, h2, s, h3, h5, h6, h7⟩ | ⟨h1, h2⟩
    · have h1' : r = 1 := h1
      rw [h1', if_neg (by decide)]
      exact ⟨1, M4, s, 0, rfl, h2, Or.inr ⟨hA, Or.inl ⟨rfl, ⟨h5, h6⟩, h7⟩⟩, fun _ => h3, fun h => by cases h⟩
    · have h1' : r = 0 := h1
      have h2' : luI M M4 t T A c w hr g p (12 * T 0 2) := h2
      have hone : ∀ x, luO T A w hr x → luW T (A 24) c hr g p (luF A w x) = false := fun x hO => (h2'.2.2 x hO.1 hO).1
      obtain ⟨⟨S4, f4⟩, p4, d4⟩ := h2'
      rw [h1', if_pos rfl, gNm, gNm]
      have hI5 : luI M (goWI (goWI M4 88 8 96) 88 9 96) t T A c w hr g p (12 * T 0 2) := by
        refine ⟨⟨S4, luC_fr k3 f4 (fun b hb => by rw [goWI_ne (by omega), goWI_ne (by omega)]) (fun j hj => by rw [gWI_nk (by omega), gWI_nk (by omega)])⟩, fun j h1 h2 i hi => ?_, fun x hx hO => ?_⟩
        · rw [gWI_na (by decide), gWI_na (by decide)]; exact p4 j h1 h2 i hi
        · rw [gWI_na (by decide), gWI_na (by decide)]; exact d4 x hx hO
      obtain ⟨M5, e5, hI6, b1, b2, r8, r9, hB6⟩ := luPairs hk hA hI5 (by rw [gWI_nk (by decide), gWI_self, if_pos rfl]; rfl) (by rw [gWI_self, if_pos rfl]; rfl)
      have e5' : lX8_fewest_85 5000 R 5000 0 (goWI (goWI M4 88 8 96) 88 9 96) = some M5 := e5
      obtain ⟨S6, f6⟩ := hI6.1
      have all : ∀ a b, luG T A c w hr g p a b → 100 * b1 + b2 ≤ 100 * a + b := by
        intro a b hG
        obtain ⟨q1, q2, q3, q4⟩ := hG
        have z1 := q2.1
        have z2 := q3.1
        by_cases hQ : luQ a b
        · have := hB6.2 a b z1 hQ q2 q3 q4
          rw [show min a b = a by omega, show max a b = b by omega] at this
          exact this
        · have hQ' : luQ b a := by unfold luQ at hQ ⊢; omega
          have := hB6.2 b a z2 hQ' q3 q2 (by rw [luF_comm]; exact q4)
          rw [show min b a = a by omega, show max b a = b by omega] at this
          exact this
      rw [e5', gBd, r8]
      rcases hB6.1 with ⟨x1, x2⟩ | hG
      · rw [x1, if_neg (by decide)]
        refine ⟨-2, M5, 0, 0, rfl, luC_E f6, Or.inr ⟨hA, Or.inr ⟨hone, Or.inr ⟨rfl, fun a b hG => ?_⟩⟩⟩, (fun h => (by rcases h with h | h <;> cases h)), (fun h => (by cases h))⟩
        have := all a b hG
        have := luG_lt k1 hG
        omega
      · have := luG_lt k1 hG
        rw [if_pos (show nI b1 < 96 from nI_lt (b := 96) this.1 (by decide))]
        exact ⟨2, M5, b1, b2, rfl, luC_E f6, Or.inr ⟨hA, Or.inr ⟨hone, Or.inl ⟨rfl, hG, all⟩⟩⟩, fun _ => r8, fun _ => r9⟩
end lure4
