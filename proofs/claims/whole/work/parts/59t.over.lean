set_option maxHeartbeats 4000000 in
set_option maxRecDepth 100000 in
theorem whole_over {I : goInv} (hA : goAll I) (hmono : ∀ k G M L R, I k G M L R → I (k + 1) G M L R) (hI0 : I 0 goG1 goM1 goL1 goR1) {p : Program} {e : Env} {s : State} {m : MethodId} {below : List Frame} {meth : Method} {c : Code} (l : Launch) (hflags : l.flags = flags0) {b L : Nat} {xs : Nat → Int32} (hL : L ≤ 3072) (C0 : lw_At p s m meth c b L xs) : W p l e room_1 s m #[Value.ref b] below meth c s.heap [] 0 0 (lw_Z below #[Value.ref b] s) (entryFrame m ([Value.ref b] : List Value).toArray 7) := by
  obtain ⟨E, hE1, hE2, hEb, hk, hx⟩ := go_found C0
  obtain ⟨hex, hcode, hret, hml, hown, hts, hX, hbl, hlk, hgv⟩ := C0
  have hc : goCx E (p, l, e, room_1, s, m, #[Value.ref b], below, meth, c) code RL 7 := ⟨hex, hcode, hml, hown, fun w h => hts w (goTb_in h), hlk, by rw [hE1]; exact State.WarmedH.refl _, hk, Nat.le_of_eq hE2, fun q _ => by rw [hE1]⟩
  have hfl : l.stackTraces = false := by unfold Launch.stackTraces; rw [hflags]; rfl
  have hbb : goAd E 1000800 < E.2.1 := by rw [hEb, hE2]; exact hbl
  have hX' : va_X (goAd E 1000800) L xs E.1 E.1.heap := by rw [hEb, hE1]; exact hX
  have kend : ∀ (n ce sl : Nat) (G : goG) (M : goMI) (L : goML) (R : goMR) (d5 d6 : Option Value), ce ≤ 601024 → sl ≤ 7293034 → goA E (p, l, e, room_1, s, m, #[Value.ref b], below, meth, c) G ce sl (lw_Z below #[Value.ref b] s) 2049 [some (.ref 1000800), some (.ref 0), some (.ref 102), some (.ref 120), some (.int (Int32.ofNat n)), d5, d6] [] M L R := by
    intro n ce sl G M L R d5 d6 h1 h2
    refine go_iconst (v := 1) hc dL_law_2049 rfl ?_
    intro H locs ls a1 a2 a3 a4
    refine va_forget (fun q hq => ?_) (W.widen h1 h2 (lw_ret hex hcode hret hlk dL_law_2050))
    have h3 : E.2.1 ≤ q.base := a2.2.2 q hq
    rw [hE2] at h3
    exact h3
  have K := law_begin hc hk rfl (law_loop (c0 := 121) (s0 := 18000) hA hmono hc hk hfl hx rfl hX' hbb hL (Nat.le_of_eq hE2.symm) ⟨by omega, by omega⟩ kend 513 0 0 goG1 goM1 goL1 goR1 none none rfl rfl hI0)
  rw [lg_entry_eq]
  refine K s.heap [] _ ⟨by rw [hE2]; rfl, Nat.zero_le _, fun a ha => absurd ha (Nat.not_lt_zero a)⟩ va_S.rf (fun q _ => by rw [hE1]) ?_
  have hl := lv_entry ([Value.ref b]) (n := 7) (Nat.le_of_ble_eq_true rfl)
  refine ⟨hl.1, hl.2.1, fun q hq => ?_⟩
  obtain ⟨j, v, h1, rfl⟩ := goAsc_mem.mp hq
  match j, h1 with
  | 0, h1 => cases h1; exact hl.2.2 _ (by show (0 + 0, Value.ref (goAd E 1000800)) ∈ _; rw [hEb]; exact List.mem_cons_self)
  | 1, h1 => cases h1
  | 2, h1 => cases h1
  | 3, h1 => cases h1
  | 4, h1 => cases h1
  | 5, h1 => cases h1
  | 6, h1 => cases h1
  | j + 7, h1 => simp at h1
