/-! LURE: the search of the component -/
section lure3
variable {M M' M0 : goMI} {R : goMR} {T : tH} {t c w hr g p : Nat} {A L S : Nat → Nat}
theorem gWrZ0 {M : goMI} {a n i : Nat} (h : i < n) (hn : n < 2 ^ 31 := by decide) : goWrZ M a n (nI i) 0 = some (goWI M a i 0) := by
  unfold goWrZ
  rw [if_pos ⟨nI_pos' (by omega), by rw [nI_clamp (by omega)]; exact h⟩, nI_clamp (by omega)]
  rfl
theorem gWrZ1 {M : goMI} {a n i : Nat} (h : i < n) (hn : n < 2 ^ 31 := by decide) : goWrZ M a n (nI i) 1 = some (goWI M a i 1) := by
  unfold goWrZ
  rw [if_pos ⟨nI_pos' (by omega), by rw [nI_clamp (by omega)]; exact h⟩, nI_clamp (by omega)]
  rfl
def luE (M0 M : goMI) : Prop := (∀ b, b < 88 ∨ 101 < b → M b = M0 b) ∧ ∀ i, i < 72 → ∃ n, n < 12 ∧ M 98 i = nI n
theorem luC_E {hg : Nat} (h : luC M0 M t T hg c w hr g p L S) : luE M0 M := ⟨h.2.2.1, h.1.2.2.2.2.2.2⟩
/-- what is known of single spots -/
def luI (M0 M : goMI) (t : Nat) (T : tH) (A : Nat → Nat) (c w hr g p n : Nat) : Prop := (∃ S, luC M0 M t T (A 24) c w hr g p A S) ∧ luP M 89 T (A 24) c A 0 (hr + 1) ∧ ∀ x, x < n → luO T A w hr x → luW T (A 24) c hr g p (luF A w x) = false ∧ (M 91 x = 0 ∨ luS T (A 24) c (luF A w x) (x % 12 + 1) = luS T (A 24) c A (x % 12 + 1))
theorem luPl {hg : Nat} (hk : luK R t T w hr g p) (h : luC M0 M t T hg c w hr g p L S) : M (goRr R 92 1) 2 * 12 = nI (12 * T 0 2) := by
  rw [hk.2.1, tC_places h.1.1, gL_12, gM_12]
theorem luW_of {L1 L2 : Nat → Nat} {hg : Nat} (h : luS T hg c L1 (hr + 1) = luS T hg c L2 (hr + 1)) : luW T hg c hr g p L1 = luW T hg c hr g p L2 := by
  unfold luW; rw [h]
theorem luOne (hk : luK R t T w hr g p) (hA : luW T (A 24) c hr g p A = false) (h0 : luI M0 M t T A c w hr g p 0) : ∃ r, fX8_findOne 5000 M R = some r ∧ ((r.1 = 1 ∧ luE M0 r.2 ∧ ∃ s, r.2 88 8 = nI s ∧ luO T A w hr s ∧ luW T (A 24) c hr g p (luF A w s) = true ∧ ∀ x, x < s → luO T A w hr x → luW T (A 24) c hr g p (luF A w x) = false) ∨ (r.1 = 0 ∧ luI M0 r.2 t T A c w hr g p (12 * T 0 2))) := by
  have hk' := hk
  obtain ⟨k1, k2, k3, k4, k5, k6, k7⟩ := hk'
  have hz := tO_sz k1
  have key := gLoop (fun n (a : Nat × goMI) => lX8_findOne_2 5000 R n (nI a.1) a.2) (fun k a => k + a.1 = 12 * T 0 2 ∧ luI M0 a.2 t T A c w hr g p a.1) (fun r => (r.1 = 1 ∧ luE M0 r.2 ∧ ∃ s, r.2 88 8 = nI s ∧ luO T A w hr s ∧ luW T (A 24) c hr g p (luF A w s) = true ∧ ∀ x, x < s → luO T A w hr x → luW T (A 24) c hr g p (luF A w x) = false) ∨ (r.1 = 0 ∧ luI M0 r.2 t T A c w hr g p (12 * T 0 2))) ?_ 5000 (12 * T 0 2) (0, M) ⟨rfl, h0⟩ (by omega)
  · exact key
  · rintro n k ⟨s, M1⟩ ⟨h1, ⟨S1, hC⟩, hP, hI⟩
    have h1' : k + s = 12 * T 0 2 := h1
    have hI' : ∀ x, x < s → luO T A w hr x → luW T (A 24) c hr g p (luF A w x) = false ∧ (M1 91 x = 0 ∨ luS T (A 24) c (luF A w x) (x % 12 + 1) = luS T (A 24) c A (x % 12 + 1)) := hI
    have hC' : luC M0 M1 t T (A 24) c w hr g p A S1 := hC
    have hP' : luP M1 89 T (A 24) c A 0 (hr + 1) := hP
    show (∃ r, lX8_findOne_2 5000 R (n + 1) (nI s) M1 = some r ∧ _) ∨ ∃ a' j', j' < k ∧ lX8_findOne_2 5000 R (n + 1) (nI s) M1 = lX8_findOne_2 5000 R n (nI (Prod.fst a')) a'.2 ∧ _
    rw [lX8_findOne_2, luPl hk hC']
    by_cases hs : s < 12 * T 0 2
    · have hC2 : luC M0 (goWI M1 91 s 1) t T (A 24) c w hr g p A S1 := luC_fr k3 hC' (fun b hb => goWI_ne (by omega)) (fun j _ => gWI_na (by decide))
      have hP2 : luP (goWI M1 91 s 1) 89 T (A 24) c A 0 (hr + 1) := fun j h1 h2 i hi => by rw [gWI_na (by decide)]; exact hP' j h1 h2 i hi
      have hI2 : ∀ x, x < s → luO T A w hr x → luW T (A 24) c hr g p (luF A w x) = false ∧ (goWI M1 91 s 1 91 x = 0 ∨ luS T (A 24) c (luF A w x) (x % 12 + 1) = luS T (A 24) c A (x % 12 + 1)) := fun x hx hO => by rw [gWI_nk (by omega)]; exact hI' x hx hO
      rw [if_pos (nI_lt hs (by omega)), gWrZ1 (by omega), gBd, luFree hk hC2 (by omega), gBd]
      cases hfr : (decide (s % 12 ≤ hr) && !(A (w + s % 12)).testBit (s / 12)) with
      | false =>
        rw [if_pos (show nI false.toNat = 0 from rfl)]
        refine Or.inr ⟨(s + 1, goWI M1 91 s 1), k - 1, by omega, ?_, (by omega : k - 1 + (s + 1) = 12 * T 0 2), ⟨S1, hC2⟩, hP2, fun x hx hO => ?_⟩
        · rw [nI_1]
        · by_cases e : x = s
          · exfalso
            rw [e] at hO
            rw [decide_eq_true hO.2.1, hO.2.2] at hfr
            cases hfr
          · exact hI2 x (by have : x < s + 1 := hx; omega) hO
      | true =>
        rw [Bool.and_eq_true, decide_eq_true_eq, Bool.not_eq_true'] at hfr
        have hO : luO T A w hr s := ⟨hs, hfr.1, hfr.2⟩
        obtain ⟨x, M3, S3, e3, f3, g3, q0, q1⟩ := luChanges hk hC2 (a := 89) (s := s) (Or.inl rfl) (by omega) hfr.1 hP2 (Nat.zero_le _) (by omega)
        have hP3 : luP M3 89 T (A 24) c A 0 (hr + 1) := fun j h1 h2 i hi => by rw [g3 89 (by decide)]; exact hP2 j h1 h2 i hi
        rw [if_neg (by decide), e3, gB2]
        cases x with
        | false =>
          rw [if_pos (show nI false.toNat = 0 from rfl)]
          have hq := q0 rfl
          refine Or.inr ⟨(s + 1, M3), k - 1, by omega, by rw [nI_1], (by omega : k - 1 + (s + 1) = 12 * T 0 2), ⟨S3, f3⟩, hP3, fun x hx hO' => ?_⟩
          show _ ∧ (M3 91 x = 0 ∨ _)
          rw [g3 91 (by decide)]
          by_cases e : x = s
          · rw [e]
            refine ⟨?_, Or.inr hq⟩
            rw [luW_of (luS_late k7 (m := s % 12 + 1) (by omega) (by omega) (by omega) hq)]
            exact hA
          · exact hI2 x (by have : x < s + 1 := hx; omega) hO'
        | true =>
          have hq := q1 rfl
          have hC4 : luC M0 (goWI M3 91 s 0) t T (A 24) c w hr g p A S3 := luC_fr k3 f3 (fun b hb => goWI_ne (by omega)) (fun j _ => gWI_na (by decide))
          have hw4 : decide (S3 (8 + g) = p) = luW T (A 24) c hr g p (luF A w s) := by rw [hq]; rfl
          rw [if_neg (by decide), gWrZ0 (by omega), gBd, luThere hk hC4, gBd, hw4]
          cases hww : luW T (A 24) c hr g p (luF A w s) with
          | false =>
            rw [if_pos (show nI false.toNat = 0 from rfl)]
            refine Or.inr ⟨(s + 1, goWI M3 91 s 0), k - 1, by omega, by rw [nI_1], (by omega : k - 1 + (s + 1) = 12 * T 0 2), ⟨S3, hC4⟩, fun j h1 h2 i hi => (gWI_na (M := M3) (a := 91) (k := s) (x := 0) (b := 89) (by decide)).trans (hP3 j h1 h2 i hi), fun x hx hO' => ?_⟩
            show _ ∧ (goWI M3 91 s 0 91 x = 0 ∨ _)
            by_cases e : x = s
            · rw [e]
              exact ⟨hww, Or.inl (by rw [gWI_self, if_pos rfl])⟩
            · rw [gWI_nk e, g3 91 (by decide)]
              exact hI2 x (by have : x < s + 1 := hx; omega) hO'
          | true =>
            rw [if_neg (by decide), gNm]
            refine Or.inl ⟨_, rfl, Or.inl ⟨rfl, ?_, s, ?_, hO, hww, fun x hx hO' => (hI2 x hx hO').1⟩⟩
            · refine ⟨fun b hb => ?_, fun i hi => ?_⟩
              · show goWI (goWI M3 91 s 0) 88 8 (nI s) b = _
                rw [goWI_ne (by omega)]; exact hC4.2.2.1 b hb
              · show ∃ n, n < 12 ∧ goWI (goWI M3 91 s 0) 88 8 (nI s) 98 i = nI n
                rw [gWI_na (by decide)]; exact hC4.1.2.2.2.2.2.2 i hi
            · show goWI (goWI M3 91 s 0) 88 8 (nI s) 88 8 = _
              rw [gWI_self, if_pos rfl]
    · rw [if_neg (nI_nlt (by omega) (by omega))]
      refine Or.inl ⟨_, rfl, Or.inr ⟨rfl, ⟨S1, hC'⟩, hP', fun x hx hO => hI' x ?_ hO⟩⟩
      have : x < 12 * T 0 2 := hx
      omega
/-- which of two spots leads -/
def luQ (a b : Nat) : Prop := a % 12 < b % 12 ∨ (a % 12 = b % 12 ∧ a < b)
/-- the best pair so far -/
def luB (T : tH) (A : Nat → Nat) (c w hr g p b1 b2 : Nat) (Pd : Nat → Nat → Prop) : Prop := ((b1 = 96 ∧ b2 = 96) ∨ luG T A c w hr g p b1 b2) ∧ ∀ a b, Pd a b → luQ a b → luO T A w hr a → luO T A w hr b → luW T (A 24) c hr g p (luF (luF A w a) w b) = true → 100 * b1 + b2 ≤ 100 * min a b + max a b
theorem luB_le {b1 b2 : Nat} {Pd : Nat → Nat → Prop} (hT : tOk T) (h : luB T A c w hr g p b1 b2 Pd) : b1 ≤ 96 ∧ b2 ≤ 96 := by
  rcases h.1 with h | h
  · omega
  · have := luG_lt hT h; omega
theorem gMn {a b : Nat} (ha : a < 2 ^ 31) (hb : b < 2 ^ 31) : goMin (nI a) (nI b) = nI (min a b) := by
  unfold goMin
  by_cases h : b < a
  · rw [if_pos (nI_lt h ha), show min a b = b by omega]
  · rw [if_neg (nI_nlt (by omega) hb), show min a b = a by omega]
theorem gMx {a b : Nat} (ha : a < 2 ^ 31) (hb : b < 2 ^ 31) : goMax (nI a) (nI b) = nI (max a b) := by
  unfold goMax
  by_cases h : a < b
  · rw [if_pos (nI_lt h hb), show max a b = b by omega]
  · rw [if_neg (nI_nlt (by omega) ha), show max a b = a by omega]
theorem luSooner {b1 b2 a b : Nat} (h8 : M 88 8 = nI b1) (h9 : M 88 9 = nI b2) (hb1 : b1 ≤ 96) (hb2 : b2 ≤ 96) (ha : a < 96) (hb : b < 96) : fX8_isSooner M (nI a) (nI b) = nI (decide (100 * min a b + max a b < 100 * b1 + b2)).toNat := by
  unfold fX8_isSooner
  rw [gNm, gMn (by omega) (by omega), gMx (by omega) (by omega), h8, h9]
  by_cases c1 : b1 ≤ min a b
  · rw [if_pos (nI_le c1 (by omega))]
    by_cases c2 : min a b = b1
    · rw [if_pos (by rw [c2])]
      by_cases c3 : max a b < b2
      · rw [if_pos (nI_lt c3 (by omega)), decide_eq_true (by omega)]; rfl
      · rw [if_neg (nI_nlt (by omega) (by omega)), decide_eq_false (by omega)]; rfl
    · rw [if_neg (fun h => c2 ((nI_eq (by omega) (by omega)).mp h)), decide_eq_false (by omega)]; rfl
  · rw [if_neg (fun h => c1 ((nI_leI (by omega) (by omega)).mp h)), decide_eq_true (by omega)]; rfl
theorem luX30 {h1 lim h4 s1 i : Nat} (a1 : h1 < 12) (a2 : lim < 12) (a3 : h4 < 12) (a4 : s1 < 96) (a5 : i < 96) : (if nI h1 < nI h4 then if nI lim < nI h4 then if nI h4 = nI h1 then if nI s1 < nI i then (1 : Int32) else 0 else 0 else 1 else if nI h4 = nI h1 then if nI s1 < nI i then 1 else 0 else 0) = nI (decide ((h1 < h4 ∧ h4 ≤ lim) ∨ (h4 = h1 ∧ s1 < i))).toNat := by
  by_cases c1 : h1 < h4
  · rw [if_pos (nI_lt c1 (by omega))]
    by_cases c2 : lim < h4
    · rw [if_pos (nI_lt c2 (by omega)), if_neg (fun h => by have := (nI_eq (by omega) (by omega)).mp h; omega), decide_eq_false (by omega)]; rfl
    · rw [if_neg (nI_nlt (by omega) (by omega)), decide_eq_true (by omega)]; rfl
  · rw [if_neg (nI_nlt (by omega) (by omega))]
    by_cases c2 : h4 = h1
    · rw [if_pos (by rw [c2])]
      by_cases c3 : s1 < i
      · rw [if_pos (nI_lt c3 (by omega)), decide_eq_true (by omega)]; rfl
      · rw [if_neg (nI_nlt (by omega) (by omega)), decide_eq_false (by omega)]; rfl
    · rw [if_neg (fun h => c2 ((nI_eq (by omega) (by omega)).mp h)), decide_eq_false (by omega)]; rfl
end lure3
