/-! LINES: story -/
section lines21
variable {e s b : Nat} {Rc Rm : goMR}
/-- the component at the name of a place -/
noncomputable def cSt (R : goMR) (n : Nat) (v1 v2 : Int32) (M : goMI) (L : goML) : Option (Int32 × goMI × goML) :=
  goB2 (fX9_named 5000 M L 0) fun x46 M47 =>
  if x46 < 0 then
  some (0, M47, L)
  else
  if (M47 (goRr R 67 7) 0) ≤ v2 then
  goB2 (fX9_fail M47 5) fun x56 M57 =>
  Option.bind (goZr x56) fun x59 =>
  some (x59, M57, L)
  else
  Option.bind (fX6_tellFrom 5000 M47 (goRr R 67 7) v1 v2 x46) fun M51 =>
  goB2 (fX11_advance 5000 M51 L) fun M53 L54 =>
  lX9_storyLine_40 5000 v1 R n (v2 + 1) M53 L54
theorem cSt_0 {n : Nat} {v1 : Int32} {M : goMI} {L : goML} (h : (0 : Int32) ≤ M (goRr Rc 67 7) 0) : lX9_storyLine_40 5000 v1 Rc (n + 1) 0 M L = cSt Rc n v1 0 M L := by
  rw [lX9_storyLine_40, if_pos h, if_neg (by decide)]
  rfl
theorem cSt_c {n : Nat} {v1 v2 : Int32} {M : goMI} {L : goML} (h : v2 ≤ M (goRr Rc 67 7) 0) (h2 : 0 < v2) (h4 : M 1 4 = 4) : lX9_storyLine_40 5000 v1 Rc (n + 1) v2 M L = goB2 (fX11_advance 5000 M L) fun M43 L44 => cSt Rc n v1 v2 M43 L44 := by
  rw [lX9_storyLine_40, if_pos h, if_pos h2, if_pos h4]
  rfl
theorem rStoryL {p : Nat} (hs : s = 7 ∨ s = 37) (hb : 121 ≤ b) (hRc : goRr Rc 67 7 = s) (hRm : Rm 102 4 = some b) (hp4 : p < 4) : ∀ (d k st : Nat) (Mc Mm : goMI) (Lc Lm : goML) (T : tH) (n m : Nat), k + d = T 0 0 → d < n → d < m → (∀ i, i < 18 → Lc 73 i = kw i) → rT e st Mc Lc Mm Lm → rD s b Mc Lc Mm Lm T → T 0 0 ≠ 0 → T 4 p < 3 → (0 < k → ∀ h, h < 12 → Mc (s + 7) (12 * (3 * p + T 4 p) + h) = nI (T 5 (12 * (3 * p + T 4 p) + h)) ∧ T 5 (12 * (3 * p + T 4 p) + h) < T 0 2) →
    rOut e s b st Mc Lc Mm Lm (cSt Rc n (nI p) (nI k) Mc Lc) (lX14_readStory_76 5000 (nI p) (nI (12 * (3 * p + T 4 p))) Rm m (nI k) 1 Mm Lm) (fun T' => T' 0 = T 0) := by
  intro d
  induction d with
  | zero =>
    intro k st Mc Mm Lc Lm T n m hk hn hm hL h hD h0 h3 hc
    obtain ⟨m, rfl⟩ : ∃ z, m = z + 1 := ⟨m - 1, by omega⟩
    obtain ⟨d1, d2, d3, d4, d5⟩ := id hD
    have a0 := d3.1.1
    have a2 := d3.1.2.2.1
    have k0 : Mc s 0 = nI (T 0 0) := d2.1.1
    have k0' : Mm b 0 = nI (T 0 0) := tM_0 d1 (by decide)
    have hke : k = T 0 0 := by omega
    unfold cSt
    rw [lX14_readStory_76, if_neg (by decide)]
    rcases rNamed hRm hb hL h d4 (s := 0) (by decide) (pN_le d3) with ⟨g, hg, c1, m1, q, q1, q2, q3, q4⟩ | ⟨f, hf, c1, m1⟩
    · have c1' : fX9_named 5000 Mc Lc 0 = some (nI g, Mc) := c1
      have m1' : fX14_known 5000 Mm Lm Rm 0 = some (nI g, Mm) := m1
      have hg8 : g < T 0 2 := hg
      rw [c1', gB2, if_neg (nI_nn (by omega)), hRc, k0, if_pos (nI_le (by omega) (by omega)), cFail h.2.2.1, gB2, m1', gB2, hRm, gBd, k0', if_pos (by rw [hke]), mFlaw h.2.2.2.1 (rT_9 h), gBd, gBd, ov_on mF_9, gB2, if_pos mF_9]
      exact rOut_f (f := 5) (by decide) rfl rfl gFr_refl
    · have c1' : fX9_named 5000 Mc Lc 0 = some (-1, cF Mc f st) := c1
      have m1' : fX14_known 5000 Mm Lm Rm 0 = some (0, mF Mm f st) := m1
      have ee : (if nI k = mF Mm f st b 0 then Option.bind (some (mF Mm f st)) fun M57 => some M57 else some (mF Mm f st)) = some (mF Mm f st) := by split <;> rfl
      rw [c1', gB2, if_pos (by decide), m1', gB2, hRm, gBd, ov_fl mF_9, ee, gBd, ov_on mF_9, gB2, if_pos mF_9]
      exact rOut_f (f := f) (by rcases hf with e | e <;> rw [e] <;> decide) rfl rfl gFr_refl
  | succ d ih =>
    intro k st Mc Mm Lc Lm T n m hk hn hm hL h hD h0 h3 hc
    obtain ⟨m, rfl⟩ : ∃ z, m = z + 1 := ⟨m - 1, by omega⟩
    obtain ⟨n, rfl⟩ : ∃ z, n = z + 1 := ⟨n - 1, by omega⟩
    obtain ⟨d1, d2, d3, d4, d5⟩ := id hD
    have a0 := d3.1.1
    have a2 := d3.1.2.2.1
    have k0 : Mc s 0 = nI (T 0 0) := d2.1.1
    have k0' : Mm b 0 = nI (T 0 0) := tM_0 d1 (by decide)
    have k4 : Mc (s + 5) p = nI (T 4 p) := d2.2.2.2.2.1 p hp4
    generalize ho : 12 * (3 * p + T 4 p) = o at hc ⊢
    have hp : o + 12 ≤ 144 := by omega
    unfold cSt
    rw [lX14_readStory_76, if_neg (by decide)]
    rcases rNamed hRm hb hL h d4 (s := 0) (by decide) (pN_le d3) with ⟨g, hg, c1, m1, q, q1, q2, q3, q4⟩ | ⟨f, hf, c1, m1⟩
    · have c1' : fX9_named 5000 Mc Lc 0 = some (nI g, Mc) := c1
      have m1' : fX14_known 5000 Mm Lm Rm 0 = some (nI g, Mm) := m1
      have hg8 : g < T 0 2 := hg
      obtain ⟨st1, Mc1, Lc1, Mm1, Lm1, i1, n1, n1', t1, f1⟩ := rNext (Mc2 := gFl Mc (s + 7) o k (nI g)) (Lc2 := Lc) (Mm2 := Mm) (Lm2 := Lm) h q1 q2 q3 q4 (gFl_ne (by omega)) (gFl_ne (by omega)) rfl rfl
      have cTell : fX6_tellFrom 5000 Mc s (nI p) (nI k) (nI g) = some (gFl Mc (s + 7) o k (nI g)) := by
        unfold fX6_tellFrom
        rw [gRd hp4, gBd, k4, gNm, show (nI p * 3 + nI (T 4 p)) * 12 = nI o from by rw [gL_3, gL_12, gM_3, nI_add, gM_12, ho], cTellL hp (12 - k) k Mc 5000 (by omega) (by omega), gBd]
      have hT1 : ∀ r, r ≠ 5 → tFl T o k g r = T r := fun r hr => tFl_r hr
      have hD1 : rD s b (gFl Mc (s + 7) o k (nI g)) Lc (gFl Mm (b + 5) o k (nI g)) Lm (tFl T o k g) := rD_5 hs hb hD h0 hT1 (tM_fl d1) (fun a ha => gFl_ne ha) (fun a ha => gFl_ne ha) (fun p' i h' hp' hi hh => by
        have h33 := d3.2.2.2.2.1 p' hp'
        have hne : ¬ (o + k ≤ 12 * (3 * p' + i) + h' ∧ 12 * (3 * p' + i) + h' < o + 12) := by
          intro hx
          have : 3 * p' + i = 3 * p + T 4 p := by omega
          by_cases c : p' = p
          · rw [c] at hi this; omega
          · omega
        exact ⟨gFl_out hne, tFl_out hne⟩)
      have hD2 : rD s b Mc1 Lc1 (gFl Mm1 (b + 5) o k (nI g)) Lm1 (tFl T o k g) := rD_fr hD1 (fun a ha => f1.1 a (by omega)) (by rw [f1.1 67 (by decide)]) (f1.2.1 68 (by decide)) (fun a h1 h2 => gFl_c (f1.2.2.1 a (by omega) (by omega))) (f1.2.2.2.2.1 _ (by omega))
      have t1' : rT e st1 Mc1 Lc1 (gFl Mm1 (b + 5) o k (nI g)) Lm1 := rT_fr t1 rfl rfl (gFl_ne (by omega)) (gFl_ne (by omega)) (gFl_ne (by omega)) rfl rfl
      have hT0 : tFl T o k g 0 = T 0 := hT1 0 (by decide)
      have hT4 : tFl T o k g 4 = T 4 := hT1 4 (by decide)
      have hc1 : ∀ h', h' < 12 → Mc1 (s + 7) (o + h') = nI (tFl T o k g 5 (o + h')) ∧ tFl T o k g 5 (o + h') < T 0 2 := by
        intro h' hh
        rw [f1.1 _ (by omega)]
        by_cases c : k ≤ h'
        · rw [gFl_in (by omega) (by omega), tFl_in (by omega) (by omega)]
          exact ⟨rfl, hg8⟩
        · rw [gFl_out (by omega), tFl_out (by omega)]
          exact hc (by omega) h' hh
      have g1 : gFr s b Mc Lc Mm Lm Mc1 Lc1 (gFl Mm1 (b + 5) o k (nI g)) Lm1 := gFr_trans (gFr_trans ⟨fun a h1 h2 h3 h4 => gFl_ne (x := nI g) (h := k) (o := o) (a := s + 7) (by omega), fun j _ => by rw [gFl_ne (by omega)], fun _ _ _ _ => rfl, fun _ _ _ _ => rfl, fun _ _ => rfl, fun _ _ _ => rfl⟩ (gFr_tok f1)) ⟨fun _ _ _ _ _ => rfl, fun _ _ => rfl, fun _ _ _ _ => rfl, fun a h1 h2 h3 => gFl_ne (by omega), fun j hj => by rw [gFl_ne (by omega)], fun _ _ _ => rfl⟩
      have w71 : rKp Mc Mm Mc1 (gFl Mm1 (b + 5) o k (nI g)) := rKp_trans (rKp_w (Mc' := gFl Mc (s + 7) o k (nI g)) (Mm' := Mm) (gFl_ne (by omega)) (gFl_ne (by omega)) rfl) (rKp_trans (rKp_tok f1) (rKp_w rfl rfl (gFl_ne (by omega))))
      have k01 : Mc1 s 0 = nI (T 0 0) := by rw [f1.1 _ (by omega), gFl_ne (by omega)]; exact k0
      rw [c1', gB2, if_neg (nI_nn (by omega)), hRc, k0, if_neg (fun h => by have := (nI_leI (by omega) (by omega)).mp h; omega), cTell, gBd, n1, gB2, m1', gB2, hRm, gBd, k0', if_neg (fun h => by have := (nI_eq (by omega) (by omega)).mp h; omega), gBd, n1', gB2, if_neg (rT_9 t1), mTellL hRm hp (12 - k) k Mm1 5000 (by omega) (by omega), gBd, nI_1]
      have hle : nI (k + 1) ≤ Mc1 (goRr Rc 67 7) 0 := by rw [hRc, k01]; exact nI_le (by omega) (by omega)
      have hpos : 0 < nI (k + 1) := nI_lt (a := 0) (by omega) (by omega)
      obtain ⟨s1, s2, s3, s4⟩ := rT_s t1'
      by_cases c4 : Mc1 1 4 = 4
      · obtain ⟨m9, m11⟩ := s1.mp c4
        obtain ⟨q', q1', q2', q3', q4'⟩ := s4 (Or.inl c4)
        obtain ⟨st2, Mc2, Lc2, Mm2, Lm2, i2, n2, n2', t2, f2⟩ := rNext (Mc2 := Mc1) (Lc2 := Lc1) (Mm2 := gFl Mm1 (b + 5) o k (nI g)) (Lm2 := Lm1) t1' q1' q2' q3' q4' rfl rfl rfl rfl
        rw [cSt_c hle hpos c4, n2, gB2, mEatY m9 m11, n2', gB2, gB3]
        have key := ih (k + 1) st2 Mc2 Mm2 Lc2 Lm2 (tFl T o k g) n m (by rw [hT0]; omega) (by omega) (by omega) (fun i hi => by rw [f2.2.1 73 (by decide), f1.2.1 73 (by decide)]; exact hL i hi) t2 (rD_tok hs hb hD2 f2) (by rw [hT0]; exact h0) (by rw [hT4]; exact h3) (fun _ h' hh => by
          rw [hT4, ho, f2.1 _ (by omega), hT0]
          exact hc1 h' hh)
        rw [hT4, ho] at key
        exact rOut_tr (by omega) (gFr_trans g1 (gFr_tok f2)) (rKp_trans w71 (rKp_tok f2)) key (fun T' hq => hq.trans hT0)
      · obtain ⟨m, rfl⟩ : ∃ z, m = z + 1 := ⟨m - 1, by omega⟩
        have k41 : Mc1 (s + 5) p = nI (T 4 p) := by rw [f1.1 _ (by omega), gFl_ne (by omega)]; exact k4
        have k4m : gFl Mm1 (b + 5) o k (nI g) (b + 4) p = nI (T 4 p) := by rw [gFl_ne (by omega), f1.2.2.1 _ (by omega) (by omega)]; exact tM_4 d1 hp4
        have hD3 := rD_4 (p := p) hs hb hD2 (by rw [hT0]; exact h0) hp4 (by rw [hT4]; exact h3) (fun h' hh => by rw [hT4, ho, hT0]; exact hc1 h' hh)
        rw [hT4] at hD3
        rw [lX9_storyLine_40, if_pos hle, if_pos hpos, if_neg c4, hRc, gRd hp4, gBd, k41, nI_1, gWr hp4, gBd, mEatN (fun hx => c4 (s1.mpr hx)), gB3, lX14_readStory_76, if_pos rfl, hRm, gBd, gRd hp4, gBd, k4m, nI_1, gWr hp4, gBd]
        exact Or.inl ⟨st1, _, Lc1, _, Lm1, _, by omega, rfl, rfl, rT_fr t1' (goWI_ne (by omega)) (goWI_ne (by omega)) (goWI_ne (by omega)) (goWI_ne (by omega)) (goWI_ne (by omega)) rfl rfl, hD3, rKp_trans w71 (rKp_w (goWI_ne (by omega)) (goWI_ne (by omega)) (goWI_ne (by omega))), gFr_trans g1 ⟨fun a h1 h2 h3 h4 => goWI_ne (by omega), fun j hj => gWI_na (by omega), fun _ _ _ _ => rfl, fun a h1 h2 h3 => goWI_ne (by omega), fun j hj => gWI_na (by omega), fun _ _ _ => rfl⟩, (tW_r (by decide)).trans hT0⟩
    · have c1' : fX9_named 5000 Mc Lc 0 = some (-1, cF Mc f st) := c1
      have m1' : fX14_known 5000 Mm Lm Rm 0 = some (0, mF Mm f st) := m1
      have ee : (if nI k = mF Mm f st b 0 then Option.bind (some (mF Mm f st)) fun M57 => some M57 else some (mF Mm f st)) = some (mF Mm f st) := by split <;> rfl
      rw [c1', gB2, if_pos (by decide), m1', gB2, hRm, gBd, ov_fl mF_9, ee, gBd, ov_on mF_9, gB2, if_pos mF_9]
      exact rOut_f (f := f) (by rcases hf with e | e <;> rw [e] <;> decide) rfl rfl gFr_refl
theorem ov_story {nn m : Nat} {Mm : goMI} {Lm : goML} {v1 v2 v3 : Int32} (hRm : Rm 102 4 = some b) (hN : mNm b nn Mm) (h : Mm 102 9 = 5) : lX14_readStory_76 5000 v1 v2 Rm (m + 1) v3 1 Mm Lm = some (Mm, Lm) := by
  have ee : (if v3 = Mm b 0 then Option.bind (some Mm) fun M57 => some M57 else some Mm) = some Mm := by split <;> rfl
  rw [lX14_readStory_76, if_neg (by decide), ov_known hRm hN h, gB2, hRm, gBd, ov_fl h, ee, gBd, ov_on h, gB2, if_pos h]
theorem rStory {st : Nat} {Mc Mm Mm0 : goMI} {Lc Lm Lm0 : goML} {T : tH} (hs : s = 7 ∨ s = 37) (hb : 121 ≤ b) (hRc : goRr Rc 67 7 = s) (hRm : Rm 102 4 = some b) (hL : ∀ i, i < 18 → Lc 73 i = kw i) (h0 : T 0 0 ≠ 0) (hbeg : fX14_begins 5000 Mm0 Lm0 Rm 0 1 = some (Mm, Lm)) (h : rT e st Mc Lc Mm Lm) (hD : rD s b Mc Lc Mm Lm T) :
    rOut e s b st Mc Lc Mm Lm (fX9_storyLine 5000 Mc Lc Rc) (fX14_readStory 5000 Mm0 Lm0 Rm) (fun T' => ∀ j, j ≠ 12 → T' 0 j = T 0 j) := by
  obtain ⟨d1, d2, d3, d4, d5⟩ := id hD
  have a0 := d3.1.1
  have a4 : T 0 4 ≤ 4 := d3.1.2.2.2.2.1
  unfold fX9_storyLine fX14_readStory
  rw [hbeg, gB2]
  rcases rNamed hRm hb hL h d4 (s := 1) (by decide) (pN_le d3) with ⟨p, hp, c1, m1, q, q1, q2, q3, q4⟩ | ⟨f, hf, c1, m1⟩
  · have c1' : fX9_named 5000 Mc Lc 1 = some (nI p, Mc) := c1
    have m1' : fX14_known 5000 Mm Lm Rm 1 = some (nI p, Mm) := m1
    have hp' : p < T 0 4 := hp
    have hp4 : p < 4 := by omega
    have k4 : Mc (s + 5) p = nI (T 4 p) := d2.2.2.2.2.1 p hp4
    have k4m : Mm (b + 4) p = nI (T 4 p) := tM_4 d1 hp4
    have h33 := d3.2.2.2.2.1 p hp4
    rw [c1', gB2, if_neg (nI_nn (by omega)), hRc, gRd hp4, gBd, k4, m1', gB2, if_neg (rT_9 h), hRm, gBd, gRd hp4, gBd, k4m]
    by_cases c3 : T 4 p = 3
    · rw [if_pos (show (3 : Int32) ≤ nI (T 4 p) by rw [c3]; decide), cFail h.2.2.1, gB2, if_pos (show nI (T 4 p) = 3 by rw [c3]; rfl), mFlaw h.2.2.2.1 (rT_9 h), gBd, gBd, ov_on mF_9, gB2, if_pos mF_9, gBd, gNm, ov_story hRm (mF_b hb (rNm_m d4)) mF_9]
      exact rOut_f (f := 5) (by decide) rfl rfl gFr_refl
    · obtain ⟨st1, Mc1, Lc1, Mm1, Lm1, i1, n1, n1', t1, f1⟩ := rNext (Mc2 := Mc) (Lc2 := Lc) (Mm2 := Mm) (Lm2 := Lm) h q1 q2 q3 q4 rfl rfl rfl rfl
      have hD1 := rD_tok hs hb hD f1
      have k4m1 : Mm1 (b + 4) p = nI (T 4 p) := tM_4 hD1.1 hp4
      have k01 : Mc1 s 0 = nI (T 0 0) := hD1.2.1.1.1
      have key := rStoryL (e := e) (p := p) hs hb hRc hRm hp4 (T 0 0) 0 st1 Mc1 Mm1 Lc1 Lm1 T 4999 5000 (by omega) (by omega) (by omega) (fun i hi => by rw [f1.2.1 73 (by decide)]; exact hL i hi) t1 hD1 h0 (by omega) (fun hx => absurd hx (Nat.lt_irrefl _))
      have key' : rOut e s b st1 Mc1 Lc1 Mm1 Lm1 (cSt Rc 4999 (nI p) 0 Mc1 Lc1) (lX14_readStory_76 5000 (nI p) (nI (12 * (3 * p + T 4 p))) Rm 5000 0 1 Mm1 Lm1) (fun T' => T' 0 = T 0) := key
      rw [if_neg (show ¬ (3 : Int32) ≤ nI (T 4 p) from fun hx => by have := (nI_leI (a := 3) (by omega) (by omega)).mp hx; omega), n1, gB2, if_neg (show ¬ nI (T 4 p) = 3 from fun hx => c3 ((nI_eq (b := 3) (by omega) (by decide)).mp hx)), gBd, n1', gB2, if_neg (rT_9 t1), gBd, gRd hp4, gBd, k4m1, gBd, gNm, show (3 * nI p + nI (T 4 p)) * 12 = nI (12 * (3 * p + T 4 p)) from by rw [gL_3, gL_12, gN_3, nI_add, gM_12], cSt_0 (by rw [hRc, k01]; exact nI_pos' (by omega))]
      exact rOut_tr (by omega) (gFr_tok f1) (rKp_tok f1) key' (fun T' hq j _ => by rw [hq])
  · have c1' : fX9_named 5000 Mc Lc 1 = some (-1, cF Mc f st) := c1
    have m1' : fX14_known 5000 Mm Lm Rm 1 = some (0, mF Mm f st) := m1
    rw [c1', gB2, if_pos (by decide), m1', gB2, if_pos mF_9, gBd, ov_on mF_9, gB2, if_pos mF_9, gBd, gNm, ov_story hRm (mF_b hb (rNm_m d4)) mF_9]
    exact rOut_f (f := f) (by rcases hf with e | e <;> rw [e] <;> decide) rfl rfl gFr_refl
end lines21
