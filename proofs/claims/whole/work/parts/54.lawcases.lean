theorem goIx {n j : Nat} (h : n + j < 100000) : (Int32.ofNat n + Int32.ofNat j).toNatClampNeg = n + j ∧ (0 : Int32) ≤ Int32.ofNat n + Int32.ofNat j := by
  have e : Int32.ofNat n + Int32.ofNat j = Int32.ofNat (n + j) := nI_add n j
  rw [e]
  exact ⟨nI_clamp (by omega), nI_pos' (by omega)⟩
theorem goFit_i {f w mc ms mL ce sl F W0 MC MS : Nat} (h1 : f + 1 ≤ F) (h2 : 8 + (mL + 11) + w ≤ W0) (h3 : ce + mc ≤ MC) (h4 : sl + ms ≤ MS) : goFit f w mc ms mL ce sl F W0 MC MS = true := by
  unfold goFit
  simp only [Bool.and_eq_true, Nat.ble_eq]
  exact ⟨h1, h2, h3, h4⟩
section goLaw
variable {E : goEv} {X : goX} {G : goG} {ce sl : Nat} {Q : State → Prop} {pc : Nat} {lv : List (Option Value)} {st : List Value} {M : goMI} {L : goML} {R : goMR} {cc : ByteArray} {own : String} {nL : Nat}
theorem go_sld (h : goCx E X cc own nL) {Ln j : Nat} {xs : Nat → Int32} {i : Int32} (hX : va_X (goAd E 1000800) Ln xs E.1 E.1.heap) (hb : goAd E 1000800 < E.2.1) (hi : i.toNatClampNeg = j ∧ 0 ≤ i) (hj : j < Ln) (hd : decode cc pc = .ok (.iaload, 1)) (k : goA E X G ce sl Q (pc + 1) lv (.int (xs j) :: st) M L R) : goA E X G ce sl Q pc lv (.int i :: .ref 1000800 :: st) M L R := by
  intro H locs ls a1 a2 a3 a4
  have hX2 : va_X (goAd E 1000800) Ln xs X.2.2.2.2.1 X.2.2.2.2.1.heap := (hX.moved h.2.2.2.2.2.2.1.alike).kept (h.2.2.2.2.2.2.2.2.2 _ hb)
  refine va_sld h.1 h.2.1 hX2 (Nat.lt_of_lt_of_le hb h.2.2.2.2.2.2.2.2.1) (Nat.not_le.mpr hb) a2 (fun q => q.elim (fun q => absurd hi.2 (Int32.not_le.mpr q)) (fun q => absurd hj (Nat.not_lt.mpr (by rw [← hi.1]; exact q)))) hd ?_
  rw [hi.1]
  exact k H locs ls a1 a2 a3 a4
theorem go_slenL (h : goCx E X cc own nL) {Ln : Nat} {xs : Nat → Int32} (hX : va_X (goAd E 1000800) Ln xs E.1 E.1.heap) (hb : goAd E 1000800 < E.2.1) (hd : decode cc pc = .ok (.arraylength, 1)) (k : goA E X G ce sl Q (pc + 1) lv (.int (Int32.ofNat Ln) :: st) M L R) : goA E X G ce sl Q pc lv (.ref 1000800 :: st) M L R := by
  intro H locs ls a1 a2 a3 a4
  have hX2 : va_X (goAd E 1000800) Ln xs X.2.2.2.2.1 X.2.2.2.2.1.heap := (hX.moved h.2.2.2.2.2.2.1.alike).kept (h.2.2.2.2.2.2.2.2.2 _ hb)
  exact va_slen h.1 h.2.1 hX2 (Nat.lt_of_lt_of_le hb h.2.2.2.2.2.2.2.2.1) (Nat.not_le.mpr hb) a2 hd (k H locs ls a1 a2 a3 a4)
theorem go_bound (hb : X.2.2.2.2.1.heap.size ≤ E.2.1) (k : G.2 ≤ ce → goA E X G ce sl Q pc lv st M L R) : goA E X G ce sl Q pc lv st M L R := by
  intro H locs ls a1 a2 a3 a4 T hT X0
  have h1 := X0.heapSize
  rw [hT, a1.1] at h1
  exact k (by omega) H locs ls a1 a2 a3 a4 T hT X0
end goLaw
theorem goCmp_self (x : Int64) : lg_cmp x x = 0 := by simp [lg_cmp]
set_option maxRecDepth 100000 in
set_option maxHeartbeats 4000000 in
theorem law_feed {E : goEv} {X : goX} {G : goG} {ce sl n Ln : Nat} {Q : State → Prop} {M : goMI} {L : goML} {R : goMR} {xs : Nat → Int32} {d5 d6 : Option Value} {I : goInv} {k : Nat} (hA : goAll I) (hI : I k G M L R) (hkk : k < 4000) (hc : goCx E X code RL 7) (hk : goKn E) (hR : X.2.2.2.1 = goRoom 16 614 601024 7293034) (hX : va_X (goAd E 1000800) Ln xs E.1 E.1.heap) (hbb : goAd E 1000800 < E.2.1) (hin : n + 6 ≤ Ln) (hLn : Ln ≤ 3072) (hce : ce + 27 ≤ 601024 ∧ sl + 600 ≤ 7293034) (kx : ∀ (G' : goG) (M' : goMI) (L' : goML) (R' : goMR) (d5 d6 : Option Value), I (k + 1) G' M' L' R' → goA E X G' (ce + 27) (sl + 600) Q 2043 [some (.ref 1000800), some (.ref 0), some (.ref 102), some (.ref 120), some (.int (Int32.ofNat n)), d5, d6] [] M' L' R') : goA E X G ce sl Q 260 [some (.ref 1000800), some (.ref 0), some (.ref 102), some (.ref 120), some (.int (Int32.ofNat n)), d5, d6] [] M L R := by
  have hW := hA.1 _ _ _ _ _ hI
  obtain ⟨N, r, M1, M2, e1, e2, hI2⟩ := hA.2.2.1 k G M L R (xs (n + 1)) (xs (n + 2)) (xs (n + 3)) (xs (n + 4)) (xs (n + 5)) hI hkk
  refine go_aload1 hc dL_law_260 ?_
  refine go_aload0 hc dL_law_261 ?_
  refine go_iload4 hc dL_law_262 ?_
  refine go_iconst (v := Int32.ofNat 1) hc dL_law_264 rfl ?_
  refine go_iadd hc dL_law_265 ?_
  refine go_sld hc hX hbb (goIx (by omega)) (by omega) dL_law_266 ?_
  refine go_aload0 hc dL_law_267 ?_
  refine go_iload4 hc dL_law_268 ?_
  refine go_iconst (v := Int32.ofNat 2) hc dL_law_270 rfl ?_
  refine go_iadd hc dL_law_271 ?_
  refine go_sld hc hX hbb (goIx (by omega)) (by omega) dL_law_272 ?_
  refine go_aload0 hc dL_law_273 ?_
  refine go_iload4 hc dL_law_274 ?_
  refine go_iconst (v := Int32.ofNat 3) hc dL_law_276 rfl ?_
  refine go_iadd hc dL_law_277 ?_
  refine go_sld hc hX hbb (goIx (by omega)) (by omega) dL_law_278 ?_
  refine go_aload0 hc dL_law_279 ?_
  refine go_iload4 hc dL_law_280 ?_
  refine go_iconst (v := Int32.ofNat 4) hc dL_law_282 rfl ?_
  refine go_iadd hc dL_law_283 ?_
  refine go_sld hc hX hbb (goIx (by omega)) (by omega) dL_law_284 ?_
  refine go_aload0 hc dL_law_285 ?_
  refine go_iload4 hc dL_law_286 ?_
  refine go_iconst (v := Int32.ofNat 5) hc dL_law_288 rfl ?_
  refine go_iadd hc dL_law_289 ?_
  refine go_sld hc hX hbb (goIx (by omega)) (by omega) dL_law_290 ?_
  refine go_callVi hc dL_law_291 (mX12_feed hk hW e1) ml_RL_19 yk_X12_feed ⟨wim_X12_feed, wse_X12_feed⟩ hR (goFit_i (Nat.le_of_ble_eq_true rfl) (Nat.le_of_ble_eq_true rfl) (by omega) (by omega)) (sh_0 hW) rfl rfl rfl (Nat.le_of_ble_eq_true rfl) rfl ?_
  refine go_aload2 hc dL_law_294 ?_
  refine go_aload0 hc dL_law_295 ?_
  refine go_iload4 hc dL_law_296 ?_
  refine go_iconst (v := Int32.ofNat 1) hc dL_law_298 rfl ?_
  refine go_iadd hc dL_law_299 ?_
  refine go_sld hc hX hbb (goIx (by omega)) (by omega) dL_law_300 ?_
  refine go_aload0 hc dL_law_301 ?_
  refine go_iload4 hc dL_law_302 ?_
  refine go_iconst (v := Int32.ofNat 2) hc dL_law_304 rfl ?_
  refine go_iadd hc dL_law_305 ?_
  refine go_sld hc hX hbb (goIx (by omega)) (by omega) dL_law_306 ?_
  refine go_aload0 hc dL_law_307 ?_
  refine go_iload4 hc dL_law_308 ?_
  refine go_iconst (v := Int32.ofNat 3) hc dL_law_310 rfl ?_
  refine go_iadd hc dL_law_311 ?_
  refine go_sld hc hX hbb (goIx (by omega)) (by omega) dL_law_312 ?_
  refine go_aload0 hc dL_law_313 ?_
  refine go_iload4 hc dL_law_314 ?_
  refine go_iconst (v := Int32.ofNat 4) hc dL_law_316 rfl ?_
  refine go_iadd hc dL_law_317 ?_
  refine go_sld hc hX hbb (goIx (by omega)) (by omega) dL_law_318 ?_
  refine go_aload0 hc dL_law_319 ?_
  refine go_iload4 hc dL_law_320 ?_
  refine go_iconst (v := Int32.ofNat 5) hc dL_law_322 rfl ?_
  refine go_iadd hc dL_law_323 ?_
  refine go_sld hc hX hbb (goIx (by omega)) (by omega) dL_law_324 ?_
  refine go_callVi hc dL_law_325 (mX14_feed hk hW e2) ml_RL_23 yk_X14_feed ⟨wim_X14_feed, wse_X14_feed⟩ hR (goFit_i (Nat.le_of_ble_eq_true rfl) (Nat.le_of_ble_eq_true rfl) (by omega) (by omega)) (sh_102 hW) rfl rfl rfl (Nat.le_of_ble_eq_true rfl) rfl ?_
  refine go_icmp_eq hc 2043 dL_law_328 rfl (fun _ => ?_) (fun c => absurd rfl c)
  refine go_widen (by omega) (by omega) (kx _ _ _ _ _ _ hI2)
set_option maxRecDepth 100000 in
set_option maxHeartbeats 4000000 in
theorem law_hill {E : goEv} {X : goX} {G : goG} {ce sl n Ln : Nat} {Q : State → Prop} {M : goMI} {L : goML} {R : goMR} {xs : Nat → Int32} {d5 d6 : Option Value} {I : goInv} {k : Nat} (hA : goAll I) (hI : I k G M L R) (hkk : k < 4000) (hc : goCx E X code RL 7) (hk : goKn E) (hR : X.2.2.2.1 = goRoom 16 614 601024 7293034) (hX : va_X (goAd E 1000800) Ln xs E.1 E.1.heap) (hbb : goAd E 1000800 < E.2.1) (hin : n + 6 ≤ Ln) (hLn : Ln ≤ 3072) (hce : ce + 27 ≤ 601024 ∧ sl + 600 ≤ 7293034) (hbs : X.2.2.2.2.1.heap.size ≤ E.2.1) (kx : ∀ (G' : goG) (M' : goMI) (L' : goML) (R' : goMR) (d5 d6 : Option Value), I (k + 1) G' M' L' R' → goA E X G' (ce + 27) (sl + 600) Q 2043 [some (.ref 1000800), some (.ref 0), some (.ref 102), some (.ref 120), some (.int (Int32.ofNat n)), d5, d6] [] M' L' R') : goA E X G ce sl Q 333 [some (.ref 1000800), some (.ref 0), some (.ref 102), some (.ref 120), some (.int (Int32.ofNat n)), d5, d6] [] M L R := by
  have hW := hA.1 _ _ _ _ _ hI
  refine go_bound hbs (fun hGb => ?_)
  obtain ⟨N, r, M1, L1, R1, M2, L2, R2, z, e1, hW1, e2, hI2⟩ := hA.2.2.2.1 k G M L R (xs (n + 1)) hI hkk (by omega)
  refine go_aload1 hc dL_law_333 ?_
  refine go_aload0 hc dL_law_334 ?_
  refine go_iload4 hc dL_law_335 ?_
  refine go_iconst (v := Int32.ofNat 1) hc dL_law_337 rfl ?_
  refine go_iadd hc dL_law_338 ?_
  refine go_sld hc hX hbb (goIx (by omega)) (by omega) dL_law_339 ?_
  refine go_callVi hc dL_law_340 (mX12_hill hk hW e1) ml_RL_24 yk_X12_hill ⟨wim_X12_hill, wse_X12_hill⟩ hR (goFit_i (Nat.le_of_ble_eq_true rfl) (Nat.le_of_ble_eq_true rfl) (by omega) (by omega)) (sh_0 hW) rfl rfl rfl (Nat.le_of_ble_eq_true rfl) rfl ?_
  refine go_aload2 hc dL_law_343 ?_
  refine go_aload0 hc dL_law_344 ?_
  refine go_iload4 hc dL_law_345 ?_
  refine go_iconst (v := Int32.ofNat 1) hc dL_law_347 rfl ?_
  refine go_iadd hc dL_law_348 ?_
  refine go_sld hc hX hbb (goIx (by omega)) (by omega) dL_law_349 ?_
  refine go_callVi hc dL_law_350 (mX14_hill hk hW1 (by omega) e2) ml_RL_28 yk_X14_hill ⟨wim_X14_hill, wse_X14_hill⟩ hR (goFit_i (Nat.le_of_ble_eq_true rfl) (Nat.le_of_ble_eq_true rfl) (by omega) (by omega)) (sh_102 hW1) rfl rfl rfl (Nat.le_of_ble_eq_true rfl) rfl ?_
  refine go_icmp_eq hc 2043 dL_law_353 rfl (fun _ => ?_) (fun c => absurd rfl c)
  refine go_widen (by omega) (by omega) (kx _ _ _ _ _ _ hI2)
set_option maxRecDepth 100000 in
set_option maxHeartbeats 4000000 in
theorem law_fault {E : goEv} {X : goX} {G : goG} {ce sl n Ln : Nat} {Q : State → Prop} {M : goMI} {L : goML} {R : goMR} {xs : Nat → Int32} {d5 d6 : Option Value} {I : goInv} {k : Nat} (hA : goAll I) (hI : I k G M L R) (hkk : k < 4000) (hc : goCx E X code RL 7) (hk : goKn E) (hR : X.2.2.2.1 = goRoom 16 614 601024 7293034) (hX : va_X (goAd E 1000800) Ln xs E.1 E.1.heap) (hbb : goAd E 1000800 < E.2.1) (hin : n + 6 ≤ Ln) (hLn : Ln ≤ 3072) (hce : ce + 27 ≤ 601024 ∧ sl + 600 ≤ 7293034) (kx : ∀ (G' : goG) (M' : goMI) (L' : goML) (R' : goMR) (d5 d6 : Option Value), I (k + 1) G' M' L' R' → goA E X G' (ce + 27) (sl + 600) Q 2043 [some (.ref 1000800), some (.ref 0), some (.ref 102), some (.ref 120), some (.int (Int32.ofNat n)), d5, d6] [] M' L' R') : goA E X G ce sl Q 358 [some (.ref 1000800), some (.ref 0), some (.ref 102), some (.ref 120), some (.int (Int32.ofNat n)), d5, d6] [] M L R := by
  have hW := hA.1 _ _ _ _ _ hI
  obtain ⟨N, M2, e2, hI2⟩ := hA.2.2.2.2.1 k G M L R hI hkk
  refine go_aload1 hc dL_law_358 ?_
  refine go_callVi hc dL_law_359 (mX12_fault hk hW rfl) ml_RL_29 yk_X12_fault ⟨wim_X12_fault, wse_X12_fault⟩ hR (goFit_i (Nat.le_of_ble_eq_true rfl) (Nat.le_of_ble_eq_true rfl) (by omega) (by omega)) (sh_0 hW) rfl rfl rfl (Nat.le_of_ble_eq_true rfl) rfl ?_
  refine go_aload2 hc dL_law_362 ?_
  refine go_callVi hc dL_law_363 (mX14_fault hk hW e2) ml_RL_33 yk_X14_fault ⟨wim_X14_fault, wse_X14_fault⟩ hR (goFit_i (Nat.le_of_ble_eq_true rfl) (Nat.le_of_ble_eq_true rfl) (by omega) (by omega)) (sh_102 hW) rfl rfl rfl (Nat.le_of_ble_eq_true rfl) rfl ?_
  refine go_icmp_eq hc 2043 dL_law_366 rfl (fun _ => ?_) (fun c => absurd rfl c)
  refine go_widen (by omega) (by omega) (kx _ _ _ _ _ _ hI2)
set_option maxRecDepth 100000 in
set_option maxHeartbeats 4000000 in
theorem law_where {E : goEv} {X : goX} {G : goG} {ce sl n Ln : Nat} {Q : State → Prop} {M : goMI} {L : goML} {R : goMR} {xs : Nat → Int32} {d5 d6 : Option Value} {I : goInv} {k : Nat} (hA : goAll I) (hI : I k G M L R) (hkk : k < 4000) (hc : goCx E X code RL 7) (hk : goKn E) (hR : X.2.2.2.1 = goRoom 16 614 601024 7293034) (hX : va_X (goAd E 1000800) Ln xs E.1 E.1.heap) (hbb : goAd E 1000800 < E.2.1) (hin : n + 6 ≤ Ln) (hLn : Ln ≤ 3072) (hce : ce + 27 ≤ 601024 ∧ sl + 600 ≤ 7293034) (kx : ∀ (G' : goG) (M' : goMI) (L' : goML) (R' : goMR) (d5 d6 : Option Value), I (k + 1) G' M' L' R' → goA E X G' (ce + 27) (sl + 600) Q 2043 [some (.ref 1000800), some (.ref 0), some (.ref 102), some (.ref 120), some (.int (Int32.ofNat n)), d5, d6] [] M' L' R') : goA E X G ce sl Q 371 [some (.ref 1000800), some (.ref 0), some (.ref 102), some (.ref 120), some (.int (Int32.ofNat n)), d5, d6] [] M L R := by
  have hW := hA.1 _ _ _ _ _ hI
  obtain ⟨N, M2, e2, hI2⟩ := hA.2.2.2.2.2.1 k G M L R hI hkk
  refine go_aload1 hc dL_law_371 ?_
  refine go_callVi hc dL_law_372 (mX12_where hk hW rfl) ml_RL_34 yk_X12_where ⟨wim_X12_where, wse_X12_where⟩ hR (goFit_i (Nat.le_of_ble_eq_true rfl) (Nat.le_of_ble_eq_true rfl) (by omega) (by omega)) (sh_0 hW) rfl rfl rfl (Nat.le_of_ble_eq_true rfl) rfl ?_
  refine go_aload2 hc dL_law_375 ?_
  refine go_callVi hc dL_law_376 (mX14_where hk hW e2) ml_RL_37 yk_X14_where ⟨wim_X14_where, wse_X14_where⟩ hR (goFit_i (Nat.le_of_ble_eq_true rfl) (Nat.le_of_ble_eq_true rfl) (by omega) (by omega)) (sh_102 hW) rfl rfl rfl (Nat.le_of_ble_eq_true rfl) rfl ?_
  refine go_icmp_eq hc 2043 dL_law_379 rfl (fun _ => ?_) (fun c => absurd rfl c)
  refine go_widen (by omega) (by omega) (kx _ _ _ _ _ _ hI2)
set_option maxRecDepth 100000 in
set_option maxHeartbeats 4000000 in
theorem law_plants {E : goEv} {X : goX} {G : goG} {ce sl n Ln : Nat} {Q : State → Prop} {M : goMI} {L : goML} {R : goMR} {xs : Nat → Int32} {d5 d6 : Option Value} {I : goInv} {k : Nat} (hA : goAll I) (hI : I k G M L R) (hkk : k < 4000) (hc : goCx E X code RL 7) (hk : goKn E) (hR : X.2.2.2.1 = goRoom 16 614 601024 7293034) (hX : va_X (goAd E 1000800) Ln xs E.1 E.1.heap) (hbb : goAd E 1000800 < E.2.1) (hin : n + 6 ≤ Ln) (hLn : Ln ≤ 3072) (hce : ce + 27 ≤ 601024 ∧ sl + 600 ≤ 7293034) (kx : ∀ (G' : goG) (M' : goMI) (L' : goML) (R' : goMR) (d5 d6 : Option Value), I (k + 1) G' M' L' R' → goA E X G' (ce + 27) (sl + 600) Q 2043 [some (.ref 1000800), some (.ref 0), some (.ref 102), some (.ref 120), some (.int (Int32.ofNat n)), d5, d6] [] M' L' R') : goA E X G ce sl Q 384 [some (.ref 1000800), some (.ref 0), some (.ref 102), some (.ref 120), some (.int (Int32.ofNat n)), d5, d6] [] M L R := by
  have hW := hA.1 _ _ _ _ _ hI
  obtain ⟨N, r, M1, M2, e1, e2, hI2⟩ := hA.2.2.2.2.2.2.1 k G M L R (xs (n + 1)) (xs (n + 2)) hI hkk
  refine go_aload1 hc dL_law_384 ?_
  refine go_aload0 hc dL_law_385 ?_
  refine go_iload4 hc dL_law_386 ?_
  refine go_iconst (v := Int32.ofNat 1) hc dL_law_388 rfl ?_
  refine go_iadd hc dL_law_389 ?_
  refine go_sld hc hX hbb (goIx (by omega)) (by omega) dL_law_390 ?_
  refine go_aload0 hc dL_law_391 ?_
  refine go_iload4 hc dL_law_392 ?_
  refine go_iconst (v := Int32.ofNat 2) hc dL_law_394 rfl ?_
  refine go_iadd hc dL_law_395 ?_
  refine go_sld hc hX hbb (goIx (by omega)) (by omega) dL_law_396 ?_
  refine go_callVi hc dL_law_397 (mX12_plants hk hW e1) ml_RL_38 yk_X12_plants ⟨wim_X12_plants, wse_X12_plants⟩ hR (goFit_i (Nat.le_of_ble_eq_true rfl) (Nat.le_of_ble_eq_true rfl) (by omega) (by omega)) (sh_0 hW) rfl rfl rfl (Nat.le_of_ble_eq_true rfl) rfl ?_
  refine go_aload2 hc dL_law_400 ?_
  refine go_aload0 hc dL_law_401 ?_
  refine go_iload4 hc dL_law_402 ?_
  refine go_iconst (v := Int32.ofNat 1) hc dL_law_404 rfl ?_
  refine go_iadd hc dL_law_405 ?_
  refine go_sld hc hX hbb (goIx (by omega)) (by omega) dL_law_406 ?_
  refine go_aload0 hc dL_law_407 ?_
  refine go_iload4 hc dL_law_408 ?_
  refine go_iconst (v := Int32.ofNat 2) hc dL_law_410 rfl ?_
  refine go_iadd hc dL_law_411 ?_
  refine go_sld hc hX hbb (goIx (by omega)) (by omega) dL_law_412 ?_
  refine go_callVi hc dL_law_413 (mX14_plants hk hW e2) ml_RL_42 yk_X14_plants ⟨wim_X14_plants, wse_X14_plants⟩ hR (goFit_i (Nat.le_of_ble_eq_true rfl) (Nat.le_of_ble_eq_true rfl) (by omega) (by omega)) (sh_102 hW) rfl rfl rfl (Nat.le_of_ble_eq_true rfl) rfl ?_
  refine go_icmp_eq hc 2043 dL_law_416 rfl (fun _ => ?_) (fun c => absurd rfl c)
  refine go_widen (by omega) (by omega) (kx _ _ _ _ _ _ hI2)
set_option maxRecDepth 100000 in
set_option maxHeartbeats 4000000 in
theorem law_near {E : goEv} {X : goX} {G : goG} {ce sl n Ln : Nat} {Q : State → Prop} {M : goMI} {L : goML} {R : goMR} {xs : Nat → Int32} {d5 d6 : Option Value} {I : goInv} {k : Nat} (hA : goAll I) (hI : I k G M L R) (hkk : k < 4000) (hc : goCx E X code RL 7) (hk : goKn E) (hR : X.2.2.2.1 = goRoom 16 614 601024 7293034) (hX : va_X (goAd E 1000800) Ln xs E.1 E.1.heap) (hbb : goAd E 1000800 < E.2.1) (hin : n + 6 ≤ Ln) (hLn : Ln ≤ 3072) (hce : ce + 27 ≤ 601024 ∧ sl + 600 ≤ 7293034) (kx : ∀ (G' : goG) (M' : goMI) (L' : goML) (R' : goMR) (d5 d6 : Option Value), I (k + 1) G' M' L' R' → goA E X G' (ce + 27) (sl + 600) Q 2043 [some (.ref 1000800), some (.ref 0), some (.ref 102), some (.ref 120), some (.int (Int32.ofNat n)), d5, d6] [] M' L' R') : goA E X G ce sl Q 421 [some (.ref 1000800), some (.ref 0), some (.ref 102), some (.ref 120), some (.int (Int32.ofNat n)), d5, d6] [] M L R := by
  have hW := hA.1 _ _ _ _ _ hI
  obtain ⟨N, r, M1, M2, e1, e2, hI2⟩ := hA.2.2.2.2.2.2.2.1 k G M L R (xs (n + 1)) hI hkk
  refine go_aload1 hc dL_law_421 ?_
  refine go_aload0 hc dL_law_422 ?_
  refine go_iload4 hc dL_law_423 ?_
  refine go_iconst (v := Int32.ofNat 1) hc dL_law_425 rfl ?_
  refine go_iadd hc dL_law_426 ?_
  refine go_sld hc hX hbb (goIx (by omega)) (by omega) dL_law_427 ?_
  refine go_callVi hc dL_law_428 (mX12_near hk hW e1) ml_RL_43 yk_X12_near ⟨wim_X12_near, wse_X12_near⟩ hR (goFit_i (Nat.le_of_ble_eq_true rfl) (Nat.le_of_ble_eq_true rfl) (by omega) (by omega)) (sh_0 hW) rfl rfl rfl (Nat.le_of_ble_eq_true rfl) rfl ?_
  refine go_aload2 hc dL_law_431 ?_
  refine go_aload0 hc dL_law_432 ?_
  refine go_iload4 hc dL_law_433 ?_
  refine go_iconst (v := Int32.ofNat 1) hc dL_law_435 rfl ?_
  refine go_iadd hc dL_law_436 ?_
  refine go_sld hc hX hbb (goIx (by omega)) (by omega) dL_law_437 ?_
  refine go_callVi hc dL_law_438 (mX14_near hk hW e2) ml_RL_46 yk_X14_near ⟨wim_X14_near, wse_X14_near⟩ hR (goFit_i (Nat.le_of_ble_eq_true rfl) (Nat.le_of_ble_eq_true rfl) (by omega) (by omega)) (sh_102 hW) rfl rfl rfl (Nat.le_of_ble_eq_true rfl) rfl ?_
  refine go_icmp_eq hc 2043 dL_law_441 rfl (fun _ => ?_) (fun c => absurd rfl c)
  refine go_widen (by omega) (by omega) (kx _ _ _ _ _ _ hI2)
set_option maxRecDepth 100000 in
set_option maxHeartbeats 4000000 in
theorem law_goat {E : goEv} {X : goX} {G : goG} {ce sl n Ln : Nat} {Q : State → Prop} {M : goMI} {L : goML} {R : goMR} {xs : Nat → Int32} {d5 d6 : Option Value} {I : goInv} {k : Nat} (hA : goAll I) (hI : I k G M L R) (hkk : k < 4000) (hc : goCx E X code RL 7) (hk : goKn E) (hR : X.2.2.2.1 = goRoom 16 614 601024 7293034) (hX : va_X (goAd E 1000800) Ln xs E.1 E.1.heap) (hbb : goAd E 1000800 < E.2.1) (hin : n + 6 ≤ Ln) (hLn : Ln ≤ 3072) (hce : ce + 27 ≤ 601024 ∧ sl + 600 ≤ 7293034) (kx : ∀ (G' : goG) (M' : goMI) (L' : goML) (R' : goMR) (d5 d6 : Option Value), I (k + 1) G' M' L' R' → goA E X G' (ce + 27) (sl + 600) Q 2043 [some (.ref 1000800), some (.ref 0), some (.ref 102), some (.ref 120), some (.int (Int32.ofNat n)), d5, d6] [] M' L' R') : goA E X G ce sl Q 446 [some (.ref 1000800), some (.ref 0), some (.ref 102), some (.ref 120), some (.int (Int32.ofNat n)), d5, d6] [] M L R := by
  have hW := hA.1 _ _ _ _ _ hI
  obtain ⟨N, r, M1, M2, e1, e2, hI2⟩ := hA.2.2.2.2.2.2.2.2.1 k G M L R (xs (n + 1)) (xs (n + 2)) hI hkk
  refine go_aload1 hc dL_law_446 ?_
  refine go_aload0 hc dL_law_447 ?_
  refine go_iload4 hc dL_law_448 ?_
  refine go_iconst (v := Int32.ofNat 1) hc dL_law_450 rfl ?_
  refine go_iadd hc dL_law_451 ?_
  refine go_sld hc hX hbb (goIx (by omega)) (by omega) dL_law_452 ?_
  refine go_aload0 hc dL_law_453 ?_
  refine go_iload4 hc dL_law_454 ?_
  refine go_iconst (v := Int32.ofNat 2) hc dL_law_456 rfl ?_
  refine go_iadd hc dL_law_457 ?_
  refine go_sld hc hX hbb (goIx (by omega)) (by omega) dL_law_458 ?_
  refine go_callVi hc dL_law_459 (mX12_goat hk hW e1) ml_RL_47 yk_X12_goat ⟨wim_X12_goat, wse_X12_goat⟩ hR (goFit_i (Nat.le_of_ble_eq_true rfl) (Nat.le_of_ble_eq_true rfl) (by omega) (by omega)) (sh_0 hW) rfl rfl rfl (Nat.le_of_ble_eq_true rfl) rfl ?_
  refine go_aload2 hc dL_law_462 ?_
  refine go_aload0 hc dL_law_463 ?_
  refine go_iload4 hc dL_law_464 ?_
  refine go_iconst (v := Int32.ofNat 1) hc dL_law_466 rfl ?_
  refine go_iadd hc dL_law_467 ?_
  refine go_sld hc hX hbb (goIx (by omega)) (by omega) dL_law_468 ?_
  refine go_aload0 hc dL_law_469 ?_
  refine go_iload4 hc dL_law_470 ?_
  refine go_iconst (v := Int32.ofNat 2) hc dL_law_472 rfl ?_
  refine go_iadd hc dL_law_473 ?_
  refine go_sld hc hX hbb (goIx (by omega)) (by omega) dL_law_474 ?_
  refine go_callVi hc dL_law_475 (mX14_goat hk hW e2) ml_RL_50 yk_X14_goat ⟨wim_X14_goat, wse_X14_goat⟩ hR (goFit_i (Nat.le_of_ble_eq_true rfl) (Nat.le_of_ble_eq_true rfl) (by omega) (by omega)) (sh_102 hW) rfl rfl rfl (Nat.le_of_ble_eq_true rfl) rfl ?_
  refine go_icmp_eq hc 2043 dL_law_478 rfl (fun _ => ?_) (fun c => absurd rfl c)
  refine go_widen (by omega) (by omega) (kx _ _ _ _ _ _ hI2)
set_option maxRecDepth 100000 in
set_option maxHeartbeats 4000000 in
theorem law_likes {E : goEv} {X : goX} {G : goG} {ce sl n Ln : Nat} {Q : State → Prop} {M : goMI} {L : goML} {R : goMR} {xs : Nat → Int32} {d5 d6 : Option Value} {I : goInv} {k : Nat} (hA : goAll I) (hI : I k G M L R) (hkk : k < 4000) (hc : goCx E X code RL 7) (hk : goKn E) (hR : X.2.2.2.1 = goRoom 16 614 601024 7293034) (hX : va_X (goAd E 1000800) Ln xs E.1 E.1.heap) (hbb : goAd E 1000800 < E.2.1) (hin : n + 6 ≤ Ln) (hLn : Ln ≤ 3072) (hce : ce + 27 ≤ 601024 ∧ sl + 600 ≤ 7293034) (kx : ∀ (G' : goG) (M' : goMI) (L' : goML) (R' : goMR) (d5 d6 : Option Value), I (k + 1) G' M' L' R' → goA E X G' (ce + 27) (sl + 600) Q 2043 [some (.ref 1000800), some (.ref 0), some (.ref 102), some (.ref 120), some (.int (Int32.ofNat n)), d5, d6] [] M' L' R') : goA E X G ce sl Q 483 [some (.ref 1000800), some (.ref 0), some (.ref 102), some (.ref 120), some (.int (Int32.ofNat n)), d5, d6] [] M L R := by
  have hW := hA.1 _ _ _ _ _ hI
  obtain ⟨N, r, M1, M2, e1, e2, hI2⟩ := hA.2.2.2.2.2.2.2.2.2.1 k G M L R (xs (n + 1)) (xs (n + 2)) hI hkk
  refine go_aload1 hc dL_law_483 ?_
  refine go_aload0 hc dL_law_484 ?_
  refine go_iload4 hc dL_law_485 ?_
  refine go_iconst (v := Int32.ofNat 1) hc dL_law_487 rfl ?_
  refine go_iadd hc dL_law_488 ?_
  refine go_sld hc hX hbb (goIx (by omega)) (by omega) dL_law_489 ?_
  refine go_aload0 hc dL_law_490 ?_
  refine go_iload4 hc dL_law_491 ?_
  refine go_iconst (v := Int32.ofNat 2) hc dL_law_493 rfl ?_
  refine go_iadd hc dL_law_494 ?_
  refine go_sld hc hX hbb (goIx (by omega)) (by omega) dL_law_495 ?_
  refine go_callVi hc dL_law_496 (mX12_likes hk hW e1) ml_RL_51 yk_X12_likes ⟨wim_X12_likes, wse_X12_likes⟩ hR (goFit_i (Nat.le_of_ble_eq_true rfl) (Nat.le_of_ble_eq_true rfl) (by omega) (by omega)) (sh_0 hW) rfl rfl rfl (Nat.le_of_ble_eq_true rfl) rfl ?_
  refine go_aload2 hc dL_law_499 ?_
  refine go_aload0 hc dL_law_500 ?_
  refine go_iload4 hc dL_law_501 ?_
  refine go_iconst (v := Int32.ofNat 1) hc dL_law_503 rfl ?_
  refine go_iadd hc dL_law_504 ?_
  refine go_sld hc hX hbb (goIx (by omega)) (by omega) dL_law_505 ?_
  refine go_aload0 hc dL_law_506 ?_
  refine go_iload4 hc dL_law_507 ?_
  refine go_iconst (v := Int32.ofNat 2) hc dL_law_509 rfl ?_
  refine go_iadd hc dL_law_510 ?_
  refine go_sld hc hX hbb (goIx (by omega)) (by omega) dL_law_511 ?_
  refine go_callVi hc dL_law_512 (mX14_likes hk hW e2) ml_RL_54 yk_X14_likes ⟨wim_X14_likes, wse_X14_likes⟩ hR (goFit_i (Nat.le_of_ble_eq_true rfl) (Nat.le_of_ble_eq_true rfl) (by omega) (by omega)) (sh_102 hW) rfl rfl rfl (Nat.le_of_ble_eq_true rfl) rfl ?_
  refine go_icmp_eq hc 2043 dL_law_515 rfl (fun _ => ?_) (fun c => absurd rfl c)
  refine go_widen (by omega) (by omega) (kx _ _ _ _ _ _ hI2)
set_option maxRecDepth 100000 in
set_option maxHeartbeats 4000000 in
theorem law_clue {E : goEv} {X : goX} {G : goG} {ce sl n Ln : Nat} {Q : State → Prop} {M : goMI} {L : goML} {R : goMR} {xs : Nat → Int32} {d5 d6 : Option Value} {I : goInv} {k : Nat} (hA : goAll I) (hI : I k G M L R) (hkk : k < 4000) (hc : goCx E X code RL 7) (hk : goKn E) (hR : X.2.2.2.1 = goRoom 16 614 601024 7293034) (hX : va_X (goAd E 1000800) Ln xs E.1 E.1.heap) (hbb : goAd E 1000800 < E.2.1) (hin : n + 6 ≤ Ln) (hLn : Ln ≤ 3072) (hce : ce + 27 ≤ 601024 ∧ sl + 600 ≤ 7293034) (kx : ∀ (G' : goG) (M' : goMI) (L' : goML) (R' : goMR) (d5 d6 : Option Value), I (k + 1) G' M' L' R' → goA E X G' (ce + 27) (sl + 600) Q 2043 [some (.ref 1000800), some (.ref 0), some (.ref 102), some (.ref 120), some (.int (Int32.ofNat n)), d5, d6] [] M' L' R') : goA E X G ce sl Q 520 [some (.ref 1000800), some (.ref 0), some (.ref 102), some (.ref 120), some (.int (Int32.ofNat n)), d5, d6] [] M L R := by
  have hW := hA.1 _ _ _ _ _ hI
  obtain ⟨N, r, M1, M2, e1, e2, hI2⟩ := hA.2.2.2.2.2.2.2.2.2.2.1 k G M L R (xs (n + 1)) (xs (n + 2)) hI hkk
  refine go_aload1 hc dL_law_520 ?_
  refine go_aload0 hc dL_law_521 ?_
  refine go_iload4 hc dL_law_522 ?_
  refine go_iconst (v := Int32.ofNat 1) hc dL_law_524 rfl ?_
  refine go_iadd hc dL_law_525 ?_
  refine go_sld hc hX hbb (goIx (by omega)) (by omega) dL_law_526 ?_
  refine go_aload0 hc dL_law_527 ?_
  refine go_iload4 hc dL_law_528 ?_
  refine go_iconst (v := Int32.ofNat 2) hc dL_law_530 rfl ?_
  refine go_iadd hc dL_law_531 ?_
  refine go_sld hc hX hbb (goIx (by omega)) (by omega) dL_law_532 ?_
  refine go_callVi hc dL_law_533 (mX12_clue hk hW e1) ml_RL_55 yk_X12_clue ⟨wim_X12_clue, wse_X12_clue⟩ hR (goFit_i (Nat.le_of_ble_eq_true rfl) (Nat.le_of_ble_eq_true rfl) (by omega) (by omega)) (sh_0 hW) rfl rfl rfl (Nat.le_of_ble_eq_true rfl) rfl ?_
  refine go_aload2 hc dL_law_536 ?_
  refine go_aload0 hc dL_law_537 ?_
  refine go_iload4 hc dL_law_538 ?_
  refine go_iconst (v := Int32.ofNat 1) hc dL_law_540 rfl ?_
  refine go_iadd hc dL_law_541 ?_
  refine go_sld hc hX hbb (goIx (by omega)) (by omega) dL_law_542 ?_
  refine go_aload0 hc dL_law_543 ?_
  refine go_iload4 hc dL_law_544 ?_
  refine go_iconst (v := Int32.ofNat 2) hc dL_law_546 rfl ?_
  refine go_iadd hc dL_law_547 ?_
  refine go_sld hc hX hbb (goIx (by omega)) (by omega) dL_law_548 ?_
  refine go_callVi hc dL_law_549 (mX14_clue hk hW e2) ml_RL_58 yk_X14_clue ⟨wim_X14_clue, wse_X14_clue⟩ hR (goFit_i (Nat.le_of_ble_eq_true rfl) (Nat.le_of_ble_eq_true rfl) (by omega) (by omega)) (sh_102 hW) rfl rfl rfl (Nat.le_of_ble_eq_true rfl) rfl ?_
  refine go_icmp_eq hc 2043 dL_law_552 rfl (fun _ => ?_) (fun c => absurd rfl c)
  refine go_widen (by omega) (by omega) (kx _ _ _ _ _ _ hI2)
set_option maxRecDepth 100000 in
set_option maxHeartbeats 4000000 in
theorem law_story {E : goEv} {X : goX} {G : goG} {ce sl n Ln : Nat} {Q : State → Prop} {M : goMI} {L : goML} {R : goMR} {xs : Nat → Int32} {d5 d6 : Option Value} {I : goInv} {k : Nat} (hA : goAll I) (hI : I k G M L R) (hkk : k < 4000) (hc : goCx E X code RL 7) (hk : goKn E) (hR : X.2.2.2.1 = goRoom 16 614 601024 7293034) (hX : va_X (goAd E 1000800) Ln xs E.1 E.1.heap) (hbb : goAd E 1000800 < E.2.1) (hin : n + 6 ≤ Ln) (hLn : Ln ≤ 3072) (hce : ce + 27 ≤ 601024 ∧ sl + 600 ≤ 7293034) (kx : ∀ (G' : goG) (M' : goMI) (L' : goML) (R' : goMR) (d5 d6 : Option Value), I (k + 1) G' M' L' R' → goA E X G' (ce + 27) (sl + 600) Q 2043 [some (.ref 1000800), some (.ref 0), some (.ref 102), some (.ref 120), some (.int (Int32.ofNat n)), d5, d6] [] M' L' R') : goA E X G ce sl Q 557 [some (.ref 1000800), some (.ref 0), some (.ref 102), some (.ref 120), some (.int (Int32.ofNat n)), d5, d6] [] M L R := by
  have hW := hA.1 _ _ _ _ _ hI
  obtain ⟨N, r, M1, M2, e1, e2, hI2⟩ := hA.2.2.2.2.2.2.2.2.2.2.2.1 k G M L R (xs (n + 1)) (xs (n + 2)) (xs (n + 3)) hI hkk
  refine go_aload1 hc dL_law_557 ?_
  refine go_aload0 hc dL_law_558 ?_
  refine go_iload4 hc dL_law_559 ?_
  refine go_iconst (v := Int32.ofNat 1) hc dL_law_561 rfl ?_
  refine go_iadd hc dL_law_562 ?_
  refine go_sld hc hX hbb (goIx (by omega)) (by omega) dL_law_563 ?_
  refine go_aload0 hc dL_law_564 ?_
  refine go_iload4 hc dL_law_565 ?_
  refine go_iconst (v := Int32.ofNat 2) hc dL_law_567 rfl ?_
  refine go_iadd hc dL_law_568 ?_
  refine go_sld hc hX hbb (goIx (by omega)) (by omega) dL_law_569 ?_
  refine go_aload0 hc dL_law_570 ?_
  refine go_iload4 hc dL_law_571 ?_
  refine go_iconst (v := Int32.ofNat 3) hc dL_law_573 rfl ?_
  refine go_iadd hc dL_law_574 ?_
  refine go_sld hc hX hbb (goIx (by omega)) (by omega) dL_law_575 ?_
  refine go_callVi hc dL_law_576 (mX12_story hk hW e1) ml_RL_59 yk_X12_story ⟨wim_X12_story, wse_X12_story⟩ hR (goFit_i (Nat.le_of_ble_eq_true rfl) (Nat.le_of_ble_eq_true rfl) (by omega) (by omega)) (sh_0 hW) rfl rfl rfl (Nat.le_of_ble_eq_true rfl) rfl ?_
  refine go_aload2 hc dL_law_579 ?_
  refine go_aload0 hc dL_law_580 ?_
  refine go_iload4 hc dL_law_581 ?_
  refine go_iconst (v := Int32.ofNat 1) hc dL_law_583 rfl ?_
  refine go_iadd hc dL_law_584 ?_
  refine go_sld hc hX hbb (goIx (by omega)) (by omega) dL_law_585 ?_
  refine go_aload0 hc dL_law_586 ?_
  refine go_iload4 hc dL_law_587 ?_
  refine go_iconst (v := Int32.ofNat 2) hc dL_law_589 rfl ?_
  refine go_iadd hc dL_law_590 ?_
  refine go_sld hc hX hbb (goIx (by omega)) (by omega) dL_law_591 ?_
  refine go_aload0 hc dL_law_592 ?_
  refine go_iload4 hc dL_law_593 ?_
  refine go_iconst (v := Int32.ofNat 3) hc dL_law_595 rfl ?_
  refine go_iadd hc dL_law_596 ?_
  refine go_sld hc hX hbb (goIx (by omega)) (by omega) dL_law_597 ?_
  refine go_callVi hc dL_law_598 (mX14_story hk hW e2) ml_RL_63 yk_X14_story ⟨wim_X14_story, wse_X14_story⟩ hR (goFit_i (Nat.le_of_ble_eq_true rfl) (Nat.le_of_ble_eq_true rfl) (by omega) (by omega)) (sh_102 hW) rfl rfl rfl (Nat.le_of_ble_eq_true rfl) rfl ?_
  refine go_icmp_eq hc 2043 dL_law_601 rfl (fun _ => ?_) (fun c => absurd rfl c)
  refine go_widen (by omega) (by omega) (kx _ _ _ _ _ _ hI2)
set_option maxRecDepth 100000 in
set_option maxHeartbeats 4000000 in
theorem law_stories {E : goEv} {X : goX} {G : goG} {ce sl n Ln : Nat} {Q : State → Prop} {M : goMI} {L : goML} {R : goMR} {xs : Nat → Int32} {d5 d6 : Option Value} {I : goInv} {k : Nat} (hA : goAll I) (hI : I k G M L R) (hkk : k < 4000) (hc : goCx E X code RL 7) (hk : goKn E) (hR : X.2.2.2.1 = goRoom 16 614 601024 7293034) (hX : va_X (goAd E 1000800) Ln xs E.1 E.1.heap) (hbb : goAd E 1000800 < E.2.1) (hin : n + 6 ≤ Ln) (hLn : Ln ≤ 3072) (hce : ce + 27 ≤ 601024 ∧ sl + 600 ≤ 7293034) (kx : ∀ (G' : goG) (M' : goMI) (L' : goML) (R' : goMR) (d5 d6 : Option Value), I (k + 1) G' M' L' R' → goA E X G' (ce + 27) (sl + 600) Q 2043 [some (.ref 1000800), some (.ref 0), some (.ref 102), some (.ref 120), some (.int (Int32.ofNat n)), d5, d6] [] M' L' R') : goA E X G ce sl Q 606 [some (.ref 1000800), some (.ref 0), some (.ref 102), some (.ref 120), some (.int (Int32.ofNat n)), d5, d6] [] M L R := by
  have hW := hA.1 _ _ _ _ _ hI
  obtain ⟨N, r, M1, M2, e1, e2, hI2⟩ := hA.2.2.2.2.2.2.2.2.2.2.2.2.1 k G M L R (xs (n + 1)) hI hkk
  refine go_aload1 hc dL_law_606 ?_
  refine go_aload0 hc dL_law_607 ?_
  refine go_iload4 hc dL_law_608 ?_
  refine go_iconst (v := Int32.ofNat 1) hc dL_law_610 rfl ?_
  refine go_iadd hc dL_law_611 ?_
  refine go_sld hc hX hbb (goIx (by omega)) (by omega) dL_law_612 ?_
  refine go_callVi hc dL_law_613 (mX12_stories hk hW e1) ml_RL_64 yk_X12_stories ⟨wim_X12_stories, wse_X12_stories⟩ hR (goFit_i (Nat.le_of_ble_eq_true rfl) (Nat.le_of_ble_eq_true rfl) (by omega) (by omega)) (sh_0 hW) rfl rfl rfl (Nat.le_of_ble_eq_true rfl) rfl ?_
  refine go_aload2 hc dL_law_616 ?_
  refine go_aload0 hc dL_law_617 ?_
  refine go_iload4 hc dL_law_618 ?_
  refine go_iconst (v := Int32.ofNat 1) hc dL_law_620 rfl ?_
  refine go_iadd hc dL_law_621 ?_
  refine go_sld hc hX hbb (goIx (by omega)) (by omega) dL_law_622 ?_
  refine go_callVi hc dL_law_623 (mX14_stories hk hW e2) ml_RL_67 yk_X14_stories ⟨wim_X14_stories, wse_X14_stories⟩ hR (goFit_i (Nat.le_of_ble_eq_true rfl) (Nat.le_of_ble_eq_true rfl) (by omega) (by omega)) (sh_102 hW) rfl rfl rfl (Nat.le_of_ble_eq_true rfl) rfl ?_
  refine go_icmp_eq hc 2043 dL_law_626 rfl (fun _ => ?_) (fun c => absurd rfl c)
  refine go_widen (by omega) (by omega) (kx _ _ _ _ _ _ hI2)
set_option maxRecDepth 100000 in
set_option maxHeartbeats 4000000 in
theorem law_caseOf {E : goEv} {X : goX} {G : goG} {ce sl n Ln : Nat} {Q : State → Prop} {M : goMI} {L : goML} {R : goMR} {xs : Nat → Int32} {d5 d6 : Option Value} {I : goInv} {k : Nat} (hA : goAll I) (hI : I k G M L R) (hkk : k < 4000) (hc : goCx E X code RL 7) (hk : goKn E) (hR : X.2.2.2.1 = goRoom 16 614 601024 7293034) (hX : va_X (goAd E 1000800) Ln xs E.1 E.1.heap) (hbb : goAd E 1000800 < E.2.1) (hin : n + 6 ≤ Ln) (hLn : Ln ≤ 3072) (hce : ce + 27 ≤ 601024 ∧ sl + 600 ≤ 7293034) (kx : ∀ (G' : goG) (M' : goMI) (L' : goML) (R' : goMR) (d5 d6 : Option Value), I (k + 1) G' M' L' R' → goA E X G' (ce + 27) (sl + 600) Q 2043 [some (.ref 1000800), some (.ref 0), some (.ref 102), some (.ref 120), some (.int (Int32.ofNat n)), d5, d6] [] M' L' R') : goA E X G ce sl Q 631 [some (.ref 1000800), some (.ref 0), some (.ref 102), some (.ref 120), some (.int (Int32.ofNat n)), d5, d6] [] M L R := by
  have hW := hA.1 _ _ _ _ _ hI
  obtain ⟨N, r, M1, M2, e1, e2, hI2⟩ := hA.2.2.2.2.2.2.2.2.2.2.2.2.2.1 k G M L R (xs (n + 1)) (xs (n + 2)) hI hkk
  refine go_aload1 hc dL_law_631 ?_
  refine go_aload0 hc dL_law_632 ?_
  refine go_iload4 hc dL_law_633 ?_
  refine go_iconst (v := Int32.ofNat 1) hc dL_law_635 rfl ?_
  refine go_iadd hc dL_law_636 ?_
  refine go_sld hc hX hbb (goIx (by omega)) (by omega) dL_law_637 ?_
  refine go_aload0 hc dL_law_638 ?_
  refine go_iload4 hc dL_law_639 ?_
  refine go_iconst (v := Int32.ofNat 2) hc dL_law_641 rfl ?_
  refine go_iadd hc dL_law_642 ?_
  refine go_sld hc hX hbb (goIx (by omega)) (by omega) dL_law_643 ?_
  refine go_callVi hc dL_law_644 (mX12_caseOf hk hW e1) ml_RL_68 yk_X12_caseOf ⟨wim_X12_caseOf, wse_X12_caseOf⟩ hR (goFit_i (Nat.le_of_ble_eq_true rfl) (Nat.le_of_ble_eq_true rfl) (by omega) (by omega)) (sh_0 hW) rfl rfl rfl (Nat.le_of_ble_eq_true rfl) rfl ?_
  refine go_aload2 hc dL_law_647 ?_
  refine go_aload0 hc dL_law_648 ?_
  refine go_iload4 hc dL_law_649 ?_
  refine go_iconst (v := Int32.ofNat 1) hc dL_law_651 rfl ?_
  refine go_iadd hc dL_law_652 ?_
  refine go_sld hc hX hbb (goIx (by omega)) (by omega) dL_law_653 ?_
  refine go_aload0 hc dL_law_654 ?_
  refine go_iload4 hc dL_law_655 ?_
  refine go_iconst (v := Int32.ofNat 2) hc dL_law_657 rfl ?_
  refine go_iadd hc dL_law_658 ?_
  refine go_sld hc hX hbb (goIx (by omega)) (by omega) dL_law_659 ?_
  refine go_callVi hc dL_law_660 (mX14_caseOf hk hW e2) ml_RL_71 yk_X14_caseOf ⟨wim_X14_caseOf, wse_X14_caseOf⟩ hR (goFit_i (Nat.le_of_ble_eq_true rfl) (Nat.le_of_ble_eq_true rfl) (by omega) (by omega)) (sh_102 hW) rfl rfl rfl (Nat.le_of_ble_eq_true rfl) rfl ?_
  refine go_icmp_eq hc 2043 dL_law_663 rfl (fun _ => ?_) (fun c => absurd rfl c)
  refine go_widen (by omega) (by omega) (kx _ _ _ _ _ _ hI2)
set_option maxRecDepth 100000 in
set_option maxHeartbeats 4000000 in
theorem law_at {E : goEv} {X : goX} {G : goG} {ce sl n Ln : Nat} {Q : State → Prop} {M : goMI} {L : goML} {R : goMR} {xs : Nat → Int32} {d5 d6 : Option Value} {I : goInv} {k : Nat} (hA : goAll I) (hI : I k G M L R) (hkk : k < 4000) (hc : goCx E X code RL 7) (hk : goKn E) (hR : X.2.2.2.1 = goRoom 16 614 601024 7293034) (hX : va_X (goAd E 1000800) Ln xs E.1 E.1.heap) (hbb : goAd E 1000800 < E.2.1) (hin : n + 6 ≤ Ln) (hLn : Ln ≤ 3072) (hce : ce + 27 ≤ 601024 ∧ sl + 600 ≤ 7293034) (kx : ∀ (G' : goG) (M' : goMI) (L' : goML) (R' : goMR) (d5 d6 : Option Value), I (k + 1) G' M' L' R' → goA E X G' (ce + 27) (sl + 600) Q 2043 [some (.ref 1000800), some (.ref 0), some (.ref 102), some (.ref 120), some (.int (Int32.ofNat n)), d5, d6] [] M' L' R') : goA E X G ce sl Q 668 [some (.ref 1000800), some (.ref 0), some (.ref 102), some (.ref 120), some (.int (Int32.ofNat n)), d5, d6] [] M L R := by
  have hW := hA.1 _ _ _ _ _ hI
  obtain ⟨N, r, M1, M2, e1, e2, hI2⟩ := hA.2.2.2.2.2.2.2.2.2.2.2.2.2.2.1 k G M L R (xs (n + 1)) (xs (n + 2)) (xs (n + 3)) hI hkk
  refine go_aload1 hc dL_law_668 ?_
  refine go_aload0 hc dL_law_669 ?_
  refine go_iload4 hc dL_law_670 ?_
  refine go_iconst (v := Int32.ofNat 1) hc dL_law_672 rfl ?_
  refine go_iadd hc dL_law_673 ?_
  refine go_sld hc hX hbb (goIx (by omega)) (by omega) dL_law_674 ?_
  refine go_aload0 hc dL_law_675 ?_
  refine go_iload4 hc dL_law_676 ?_
  refine go_iconst (v := Int32.ofNat 2) hc dL_law_678 rfl ?_
  refine go_iadd hc dL_law_679 ?_
  refine go_sld hc hX hbb (goIx (by omega)) (by omega) dL_law_680 ?_
  refine go_aload0 hc dL_law_681 ?_
  refine go_iload4 hc dL_law_682 ?_
  refine go_iconst (v := Int32.ofNat 3) hc dL_law_684 rfl ?_
  refine go_iadd hc dL_law_685 ?_
  refine go_sld hc hX hbb (goIx (by omega)) (by omega) dL_law_686 ?_
  refine go_callVi hc dL_law_687 (mX12_at hk hW e1) ml_RL_72 yk_X12_at ⟨wim_X12_at, wse_X12_at⟩ hR (goFit_i (Nat.le_of_ble_eq_true rfl) (Nat.le_of_ble_eq_true rfl) (by omega) (by omega)) (sh_0 hW) rfl rfl rfl (Nat.le_of_ble_eq_true rfl) rfl ?_
  refine go_aload2 hc dL_law_690 ?_
  refine go_aload0 hc dL_law_691 ?_
  refine go_iload4 hc dL_law_692 ?_
  refine go_iconst (v := Int32.ofNat 1) hc dL_law_694 rfl ?_
  refine go_iadd hc dL_law_695 ?_
  refine go_sld hc hX hbb (goIx (by omega)) (by omega) dL_law_696 ?_
  refine go_aload0 hc dL_law_697 ?_
  refine go_iload4 hc dL_law_698 ?_
  refine go_iconst (v := Int32.ofNat 2) hc dL_law_700 rfl ?_
  refine go_iadd hc dL_law_701 ?_
  refine go_sld hc hX hbb (goIx (by omega)) (by omega) dL_law_702 ?_
  refine go_aload0 hc dL_law_703 ?_
  refine go_iload4 hc dL_law_704 ?_
  refine go_iconst (v := Int32.ofNat 3) hc dL_law_706 rfl ?_
  refine go_iadd hc dL_law_707 ?_
  refine go_sld hc hX hbb (goIx (by omega)) (by omega) dL_law_708 ?_
  refine go_callVi hc dL_law_709 (mX14_at hk hW e2) ml_RL_75 yk_X14_at ⟨wim_X14_at, wse_X14_at⟩ hR (goFit_i (Nat.le_of_ble_eq_true rfl) (Nat.le_of_ble_eq_true rfl) (by omega) (by omega)) (sh_102 hW) rfl rfl rfl (Nat.le_of_ble_eq_true rfl) rfl ?_
  refine go_icmp_eq hc 2043 dL_law_712 rfl (fun _ => ?_) (fun c => absurd rfl c)
  refine go_widen (by omega) (by omega) (kx _ _ _ _ _ _ hI2)
set_option maxRecDepth 100000 in
set_option maxHeartbeats 4000000 in
theorem law_ate {E : goEv} {X : goX} {G : goG} {ce sl n Ln : Nat} {Q : State → Prop} {M : goMI} {L : goML} {R : goMR} {xs : Nat → Int32} {d5 d6 : Option Value} {I : goInv} {k : Nat} (hA : goAll I) (hI : I k G M L R) (hkk : k < 4000) (hc : goCx E X code RL 7) (hk : goKn E) (hR : X.2.2.2.1 = goRoom 16 614 601024 7293034) (hX : va_X (goAd E 1000800) Ln xs E.1 E.1.heap) (hbb : goAd E 1000800 < E.2.1) (hin : n + 6 ≤ Ln) (hLn : Ln ≤ 3072) (hce : ce + 27 ≤ 601024 ∧ sl + 600 ≤ 7293034) (kx : ∀ (G' : goG) (M' : goMI) (L' : goML) (R' : goMR) (d5 d6 : Option Value), I (k + 1) G' M' L' R' → goA E X G' (ce + 27) (sl + 600) Q 2043 [some (.ref 1000800), some (.ref 0), some (.ref 102), some (.ref 120), some (.int (Int32.ofNat n)), d5, d6] [] M' L' R') : goA E X G ce sl Q 717 [some (.ref 1000800), some (.ref 0), some (.ref 102), some (.ref 120), some (.int (Int32.ofNat n)), d5, d6] [] M L R := by
  have hW := hA.1 _ _ _ _ _ hI
  obtain ⟨N, r, M1, M2, e1, e2, hI2⟩ := hA.2.2.2.2.2.2.2.2.2.2.2.2.2.2.2.1 k G M L R (xs (n + 1)) (xs (n + 2)) (xs (n + 3)) hI hkk
  refine go_aload1 hc dL_law_717 ?_
  refine go_aload0 hc dL_law_718 ?_
  refine go_iload4 hc dL_law_719 ?_
  refine go_iconst (v := Int32.ofNat 1) hc dL_law_721 rfl ?_
  refine go_iadd hc dL_law_722 ?_
  refine go_sld hc hX hbb (goIx (by omega)) (by omega) dL_law_723 ?_
  refine go_aload0 hc dL_law_724 ?_
  refine go_iload4 hc dL_law_725 ?_
  refine go_iconst (v := Int32.ofNat 2) hc dL_law_727 rfl ?_
  refine go_iadd hc dL_law_728 ?_
  refine go_sld hc hX hbb (goIx (by omega)) (by omega) dL_law_729 ?_
  refine go_aload0 hc dL_law_730 ?_
  refine go_iload4 hc dL_law_731 ?_
  refine go_iconst (v := Int32.ofNat 3) hc dL_law_733 rfl ?_
  refine go_iadd hc dL_law_734 ?_
  refine go_sld hc hX hbb (goIx (by omega)) (by omega) dL_law_735 ?_
  refine go_callVi hc dL_law_736 (mX12_ate hk hW e1) ml_RL_76 yk_X12_ate ⟨wim_X12_ate, wse_X12_ate⟩ hR (goFit_i (Nat.le_of_ble_eq_true rfl) (Nat.le_of_ble_eq_true rfl) (by omega) (by omega)) (sh_0 hW) rfl rfl rfl (Nat.le_of_ble_eq_true rfl) rfl ?_
  refine go_aload2 hc dL_law_739 ?_
  refine go_aload0 hc dL_law_740 ?_
  refine go_iload4 hc dL_law_741 ?_
  refine go_iconst (v := Int32.ofNat 1) hc dL_law_743 rfl ?_
  refine go_iadd hc dL_law_744 ?_
  refine go_sld hc hX hbb (goIx (by omega)) (by omega) dL_law_745 ?_
  refine go_aload0 hc dL_law_746 ?_
  refine go_iload4 hc dL_law_747 ?_
  refine go_iconst (v := Int32.ofNat 2) hc dL_law_749 rfl ?_
  refine go_iadd hc dL_law_750 ?_
  refine go_sld hc hX hbb (goIx (by omega)) (by omega) dL_law_751 ?_
  refine go_aload0 hc dL_law_752 ?_
  refine go_iload4 hc dL_law_753 ?_
  refine go_iconst (v := Int32.ofNat 3) hc dL_law_755 rfl ?_
  refine go_iadd hc dL_law_756 ?_
  refine go_sld hc hX hbb (goIx (by omega)) (by omega) dL_law_757 ?_
  refine go_callVi hc dL_law_758 (mX14_ate hk hW e2) ml_RL_79 yk_X14_ate ⟨wim_X14_ate, wse_X14_ate⟩ hR (goFit_i (Nat.le_of_ble_eq_true rfl) (Nat.le_of_ble_eq_true rfl) (by omega) (by omega)) (sh_102 hW) rfl rfl rfl (Nat.le_of_ble_eq_true rfl) rfl ?_
  refine go_icmp_eq hc 2043 dL_law_761 rfl (fun _ => ?_) (fun c => absurd rfl c)
  refine go_widen (by omega) (by omega) (kx _ _ _ _ _ _ hI2)
set_option maxRecDepth 100000 in
set_option maxHeartbeats 4000000 in
theorem law_drops {E : goEv} {X : goX} {G : goG} {ce sl n Ln : Nat} {Q : State → Prop} {M : goMI} {L : goML} {R : goMR} {xs : Nat → Int32} {d5 d6 : Option Value} {I : goInv} {k : Nat} (hA : goAll I) (hI : I k G M L R) (hkk : k < 4000) (hc : goCx E X code RL 7) (hk : goKn E) (hR : X.2.2.2.1 = goRoom 16 614 601024 7293034) (hX : va_X (goAd E 1000800) Ln xs E.1 E.1.heap) (hbb : goAd E 1000800 < E.2.1) (hin : n + 6 ≤ Ln) (hLn : Ln ≤ 3072) (hce : ce + 27 ≤ 601024 ∧ sl + 600 ≤ 7293034) (kx : ∀ (G' : goG) (M' : goMI) (L' : goML) (R' : goMR) (d5 d6 : Option Value), I (k + 1) G' M' L' R' → goA E X G' (ce + 27) (sl + 600) Q 2043 [some (.ref 1000800), some (.ref 0), some (.ref 102), some (.ref 120), some (.int (Int32.ofNat n)), d5, d6] [] M' L' R') : goA E X G ce sl Q 766 [some (.ref 1000800), some (.ref 0), some (.ref 102), some (.ref 120), some (.int (Int32.ofNat n)), d5, d6] [] M L R := by
  have hW := hA.1 _ _ _ _ _ hI
  obtain ⟨N, r, M1, M2, e1, e2, hI2⟩ := hA.2.2.2.2.2.2.2.2.2.2.2.2.2.2.2.2.1 k G M L R (xs (n + 1)) (xs (n + 2)) (xs (n + 3)) (xs (n + 4)) hI hkk
  refine go_aload1 hc dL_law_766 ?_
  refine go_aload0 hc dL_law_767 ?_
  refine go_iload4 hc dL_law_768 ?_
  refine go_iconst (v := Int32.ofNat 1) hc dL_law_770 rfl ?_
  refine go_iadd hc dL_law_771 ?_
  refine go_sld hc hX hbb (goIx (by omega)) (by omega) dL_law_772 ?_
  refine go_aload0 hc dL_law_773 ?_
  refine go_iload4 hc dL_law_774 ?_
  refine go_iconst (v := Int32.ofNat 2) hc dL_law_776 rfl ?_
  refine go_iadd hc dL_law_777 ?_
  refine go_sld hc hX hbb (goIx (by omega)) (by omega) dL_law_778 ?_
  refine go_aload0 hc dL_law_779 ?_
  refine go_iload4 hc dL_law_780 ?_
  refine go_iconst (v := Int32.ofNat 3) hc dL_law_782 rfl ?_
  refine go_iadd hc dL_law_783 ?_
  refine go_sld hc hX hbb (goIx (by omega)) (by omega) dL_law_784 ?_
  refine go_aload0 hc dL_law_785 ?_
  refine go_iload4 hc dL_law_786 ?_
  refine go_iconst (v := Int32.ofNat 4) hc dL_law_788 rfl ?_
  refine go_iadd hc dL_law_789 ?_
  refine go_sld hc hX hbb (goIx (by omega)) (by omega) dL_law_790 ?_
  refine go_callVi hc dL_law_791 (mX12_drops hk hW e1) ml_RL_80 yk_X12_drops ⟨wim_X12_drops, wse_X12_drops⟩ hR (goFit_i (Nat.le_of_ble_eq_true rfl) (Nat.le_of_ble_eq_true rfl) (by omega) (by omega)) (sh_0 hW) rfl rfl rfl (Nat.le_of_ble_eq_true rfl) rfl ?_
  refine go_aload2 hc dL_law_794 ?_
  refine go_aload0 hc dL_law_795 ?_
  refine go_iload4 hc dL_law_796 ?_
  refine go_iconst (v := Int32.ofNat 1) hc dL_law_798 rfl ?_
  refine go_iadd hc dL_law_799 ?_
  refine go_sld hc hX hbb (goIx (by omega)) (by omega) dL_law_800 ?_
  refine go_aload0 hc dL_law_801 ?_
  refine go_iload4 hc dL_law_802 ?_
  refine go_iconst (v := Int32.ofNat 2) hc dL_law_804 rfl ?_
  refine go_iadd hc dL_law_805 ?_
  refine go_sld hc hX hbb (goIx (by omega)) (by omega) dL_law_806 ?_
  refine go_aload0 hc dL_law_807 ?_
  refine go_iload4 hc dL_law_808 ?_
  refine go_iconst (v := Int32.ofNat 3) hc dL_law_810 rfl ?_
  refine go_iadd hc dL_law_811 ?_
  refine go_sld hc hX hbb (goIx (by omega)) (by omega) dL_law_812 ?_
  refine go_aload0 hc dL_law_813 ?_
  refine go_iload4 hc dL_law_814 ?_
  refine go_iconst (v := Int32.ofNat 4) hc dL_law_816 rfl ?_
  refine go_iadd hc dL_law_817 ?_
  refine go_sld hc hX hbb (goIx (by omega)) (by omega) dL_law_818 ?_
  refine go_callVi hc dL_law_819 (mX14_drops hk hW e2) ml_RL_84 yk_X14_drops ⟨wim_X14_drops, wse_X14_drops⟩ hR (goFit_i (Nat.le_of_ble_eq_true rfl) (Nat.le_of_ble_eq_true rfl) (by omega) (by omega)) (sh_102 hW) rfl rfl rfl (Nat.le_of_ble_eq_true rfl) rfl ?_
  refine go_icmp_eq hc 2043 dL_law_822 rfl (fun _ => ?_) (fun c => absurd rfl c)
  refine go_widen (by omega) (by omega) (kx _ _ _ _ _ _ hI2)
set_option maxRecDepth 100000 in
set_option maxHeartbeats 4000000 in
theorem law_flees {E : goEv} {X : goX} {G : goG} {ce sl n Ln : Nat} {Q : State → Prop} {M : goMI} {L : goML} {R : goMR} {xs : Nat → Int32} {d5 d6 : Option Value} {I : goInv} {k : Nat} (hA : goAll I) (hI : I k G M L R) (hkk : k < 4000) (hc : goCx E X code RL 7) (hk : goKn E) (hR : X.2.2.2.1 = goRoom 16 614 601024 7293034) (hX : va_X (goAd E 1000800) Ln xs E.1 E.1.heap) (hbb : goAd E 1000800 < E.2.1) (hin : n + 6 ≤ Ln) (hLn : Ln ≤ 3072) (hce : ce + 27 ≤ 601024 ∧ sl + 600 ≤ 7293034) (kx : ∀ (G' : goG) (M' : goMI) (L' : goML) (R' : goMR) (d5 d6 : Option Value), I (k + 1) G' M' L' R' → goA E X G' (ce + 27) (sl + 600) Q 2043 [some (.ref 1000800), some (.ref 0), some (.ref 102), some (.ref 120), some (.int (Int32.ofNat n)), d5, d6] [] M' L' R') : goA E X G ce sl Q 827 [some (.ref 1000800), some (.ref 0), some (.ref 102), some (.ref 120), some (.int (Int32.ofNat n)), d5, d6] [] M L R := by
  have hW := hA.1 _ _ _ _ _ hI
  obtain ⟨N, r, M1, M2, e1, e2, hI2⟩ := hA.2.2.2.2.2.2.2.2.2.2.2.2.2.2.2.2.2.1 k G M L R (xs (n + 1)) (xs (n + 2)) hI hkk
  refine go_aload1 hc dL_law_827 ?_
  refine go_aload0 hc dL_law_828 ?_
  refine go_iload4 hc dL_law_829 ?_
  refine go_iconst (v := Int32.ofNat 1) hc dL_law_831 rfl ?_
  refine go_iadd hc dL_law_832 ?_
  refine go_sld hc hX hbb (goIx (by omega)) (by omega) dL_law_833 ?_
  refine go_aload0 hc dL_law_834 ?_
  refine go_iload4 hc dL_law_835 ?_
  refine go_iconst (v := Int32.ofNat 2) hc dL_law_837 rfl ?_
  refine go_iadd hc dL_law_838 ?_
  refine go_sld hc hX hbb (goIx (by omega)) (by omega) dL_law_839 ?_
  refine go_callVi hc dL_law_840 (mX12_flees hk hW e1) ml_RL_85 yk_X12_flees ⟨wim_X12_flees, wse_X12_flees⟩ hR (goFit_i (Nat.le_of_ble_eq_true rfl) (Nat.le_of_ble_eq_true rfl) (by omega) (by omega)) (sh_0 hW) rfl rfl rfl (Nat.le_of_ble_eq_true rfl) rfl ?_
  refine go_aload2 hc dL_law_843 ?_
  refine go_aload0 hc dL_law_844 ?_
  refine go_iload4 hc dL_law_845 ?_
  refine go_iconst (v := Int32.ofNat 1) hc dL_law_847 rfl ?_
  refine go_iadd hc dL_law_848 ?_
  refine go_sld hc hX hbb (goIx (by omega)) (by omega) dL_law_849 ?_
  refine go_aload0 hc dL_law_850 ?_
  refine go_iload4 hc dL_law_851 ?_
  refine go_iconst (v := Int32.ofNat 2) hc dL_law_853 rfl ?_
  refine go_iadd hc dL_law_854 ?_
  refine go_sld hc hX hbb (goIx (by omega)) (by omega) dL_law_855 ?_
  refine go_callVi hc dL_law_856 (mX14_flees hk hW e2) ml_RL_88 yk_X14_flees ⟨wim_X14_flees, wse_X14_flees⟩ hR (goFit_i (Nat.le_of_ble_eq_true rfl) (Nat.le_of_ble_eq_true rfl) (by omega) (by omega)) (sh_102 hW) rfl rfl rfl (Nat.le_of_ble_eq_true rfl) rfl ?_
  refine go_icmp_eq hc 2043 dL_law_859 rfl (fun _ => ?_) (fun c => absurd rfl c)
  refine go_widen (by omega) (by omega) (kx _ _ _ _ _ _ hI2)
set_option maxRecDepth 100000 in
set_option maxHeartbeats 4000000 in
theorem law_left {E : goEv} {X : goX} {G : goG} {ce sl n Ln : Nat} {Q : State → Prop} {M : goMI} {L : goML} {R : goMR} {xs : Nat → Int32} {d5 d6 : Option Value} {I : goInv} {k : Nat} (hA : goAll I) (hI : I k G M L R) (hkk : k < 4000) (hc : goCx E X code RL 7) (hk : goKn E) (hR : X.2.2.2.1 = goRoom 16 614 601024 7293034) (hX : va_X (goAd E 1000800) Ln xs E.1 E.1.heap) (hbb : goAd E 1000800 < E.2.1) (hin : n + 6 ≤ Ln) (hLn : Ln ≤ 3072) (hce : ce + 27 ≤ 601024 ∧ sl + 600 ≤ 7293034) (kx : ∀ (G' : goG) (M' : goMI) (L' : goML) (R' : goMR) (d5 d6 : Option Value), I (k + 1) G' M' L' R' → goA E X G' (ce + 27) (sl + 600) Q 2043 [some (.ref 1000800), some (.ref 0), some (.ref 102), some (.ref 120), some (.int (Int32.ofNat n)), d5, d6] [] M' L' R') : goA E X G ce sl Q 864 [some (.ref 1000800), some (.ref 0), some (.ref 102), some (.ref 120), some (.int (Int32.ofNat n)), d5, d6] [] M L R := by
  have hW := hA.1 _ _ _ _ _ hI
  obtain ⟨N, r, M1, M2, e1, e2, hI2⟩ := hA.2.2.2.2.2.2.2.2.2.2.2.2.2.2.2.2.2.2.1 k G M L R (xs (n + 1)) (xs (n + 2)) (xs (n + 3)) hI hkk
  refine go_aload1 hc dL_law_864 ?_
  refine go_aload0 hc dL_law_865 ?_
  refine go_iload4 hc dL_law_866 ?_
  refine go_iconst (v := Int32.ofNat 1) hc dL_law_868 rfl ?_
  refine go_iadd hc dL_law_869 ?_
  refine go_sld hc hX hbb (goIx (by omega)) (by omega) dL_law_870 ?_
  refine go_aload0 hc dL_law_871 ?_
  refine go_iload4 hc dL_law_872 ?_
  refine go_iconst (v := Int32.ofNat 2) hc dL_law_874 rfl ?_
  refine go_iadd hc dL_law_875 ?_
  refine go_sld hc hX hbb (goIx (by omega)) (by omega) dL_law_876 ?_
  refine go_aload0 hc dL_law_877 ?_
  refine go_iload4 hc dL_law_878 ?_
  refine go_iconst (v := Int32.ofNat 3) hc dL_law_880 rfl ?_
  refine go_iadd hc dL_law_881 ?_
  refine go_sld hc hX hbb (goIx (by omega)) (by omega) dL_law_882 ?_
  refine go_callVi hc dL_law_883 (mX12_left hk hW e1) ml_RL_89 yk_X12_left ⟨wim_X12_left, wse_X12_left⟩ hR (goFit_i (Nat.le_of_ble_eq_true rfl) (Nat.le_of_ble_eq_true rfl) (by omega) (by omega)) (sh_0 hW) rfl rfl rfl (Nat.le_of_ble_eq_true rfl) rfl ?_
  refine go_aload2 hc dL_law_886 ?_
  refine go_aload0 hc dL_law_887 ?_
  refine go_iload4 hc dL_law_888 ?_
  refine go_iconst (v := Int32.ofNat 1) hc dL_law_890 rfl ?_
  refine go_iadd hc dL_law_891 ?_
  refine go_sld hc hX hbb (goIx (by omega)) (by omega) dL_law_892 ?_
  refine go_aload0 hc dL_law_893 ?_
  refine go_iload4 hc dL_law_894 ?_
  refine go_iconst (v := Int32.ofNat 2) hc dL_law_896 rfl ?_
  refine go_iadd hc dL_law_897 ?_
  refine go_sld hc hX hbb (goIx (by omega)) (by omega) dL_law_898 ?_
  refine go_aload0 hc dL_law_899 ?_
  refine go_iload4 hc dL_law_900 ?_
  refine go_iconst (v := Int32.ofNat 3) hc dL_law_902 rfl ?_
  refine go_iadd hc dL_law_903 ?_
  refine go_sld hc hX hbb (goIx (by omega)) (by omega) dL_law_904 ?_
  refine go_callVi hc dL_law_905 (mX14_left hk hW e2) ml_RL_92 yk_X14_left ⟨wim_X14_left, wse_X14_left⟩ hR (goFit_i (Nat.le_of_ble_eq_true rfl) (Nat.le_of_ble_eq_true rfl) (by omega) (by omega)) (sh_102 hW) rfl rfl rfl (Nat.le_of_ble_eq_true rfl) rfl ?_
  refine go_icmp_eq hc 2043 dL_law_908 rfl (fun _ => ?_) (fun c => absurd rfl c)
  refine go_widen (by omega) (by omega) (kx _ _ _ _ _ _ hI2)
set_option maxRecDepth 100000 in
set_option maxHeartbeats 4000000 in
theorem law_met {E : goEv} {X : goX} {G : goG} {ce sl n Ln : Nat} {Q : State → Prop} {M : goMI} {L : goML} {R : goMR} {xs : Nat → Int32} {d5 d6 : Option Value} {I : goInv} {k : Nat} (hA : goAll I) (hI : I k G M L R) (hkk : k < 4000) (hc : goCx E X code RL 7) (hk : goKn E) (hR : X.2.2.2.1 = goRoom 16 614 601024 7293034) (hX : va_X (goAd E 1000800) Ln xs E.1 E.1.heap) (hbb : goAd E 1000800 < E.2.1) (hin : n + 6 ≤ Ln) (hLn : Ln ≤ 3072) (hce : ce + 27 ≤ 601024 ∧ sl + 600 ≤ 7293034) (kx : ∀ (G' : goG) (M' : goMI) (L' : goML) (R' : goMR) (d5 d6 : Option Value), I (k + 1) G' M' L' R' → goA E X G' (ce + 27) (sl + 600) Q 2043 [some (.ref 1000800), some (.ref 0), some (.ref 102), some (.ref 120), some (.int (Int32.ofNat n)), d5, d6] [] M' L' R') : goA E X G ce sl Q 913 [some (.ref 1000800), some (.ref 0), some (.ref 102), some (.ref 120), some (.int (Int32.ofNat n)), d5, d6] [] M L R := by
  have hW := hA.1 _ _ _ _ _ hI
  obtain ⟨N, r, M1, M2, e1, e2, hI2⟩ := hA.2.2.2.2.2.2.2.2.2.2.2.2.2.2.2.2.2.2.2.1 k G M L R (xs (n + 1)) (xs (n + 2)) (xs (n + 3)) hI hkk
  refine go_aload1 hc dL_law_913 ?_
  refine go_aload0 hc dL_law_914 ?_
  refine go_iload4 hc dL_law_915 ?_
  refine go_iconst (v := Int32.ofNat 1) hc dL_law_917 rfl ?_
  refine go_iadd hc dL_law_918 ?_
  refine go_sld hc hX hbb (goIx (by omega)) (by omega) dL_law_919 ?_
  refine go_aload0 hc dL_law_920 ?_
  refine go_iload4 hc dL_law_921 ?_
  refine go_iconst (v := Int32.ofNat 2) hc dL_law_923 rfl ?_
  refine go_iadd hc dL_law_924 ?_
  refine go_sld hc hX hbb (goIx (by omega)) (by omega) dL_law_925 ?_
  refine go_aload0 hc dL_law_926 ?_
  refine go_iload4 hc dL_law_927 ?_
  refine go_iconst (v := Int32.ofNat 3) hc dL_law_929 rfl ?_
  refine go_iadd hc dL_law_930 ?_
  refine go_sld hc hX hbb (goIx (by omega)) (by omega) dL_law_931 ?_
  refine go_callVi hc dL_law_932 (mX12_met hk hW e1) ml_RL_93 yk_X12_met ⟨wim_X12_met, wse_X12_met⟩ hR (goFit_i (Nat.le_of_ble_eq_true rfl) (Nat.le_of_ble_eq_true rfl) (by omega) (by omega)) (sh_0 hW) rfl rfl rfl (Nat.le_of_ble_eq_true rfl) rfl ?_
  refine go_aload2 hc dL_law_935 ?_
  refine go_aload0 hc dL_law_936 ?_
  refine go_iload4 hc dL_law_937 ?_
  refine go_iconst (v := Int32.ofNat 1) hc dL_law_939 rfl ?_
  refine go_iadd hc dL_law_940 ?_
  refine go_sld hc hX hbb (goIx (by omega)) (by omega) dL_law_941 ?_
  refine go_aload0 hc dL_law_942 ?_
  refine go_iload4 hc dL_law_943 ?_
  refine go_iconst (v := Int32.ofNat 2) hc dL_law_945 rfl ?_
  refine go_iadd hc dL_law_946 ?_
  refine go_sld hc hX hbb (goIx (by omega)) (by omega) dL_law_947 ?_
  refine go_aload0 hc dL_law_948 ?_
  refine go_iload4 hc dL_law_949 ?_
  refine go_iconst (v := Int32.ofNat 3) hc dL_law_951 rfl ?_
  refine go_iadd hc dL_law_952 ?_
  refine go_sld hc hX hbb (goIx (by omega)) (by omega) dL_law_953 ?_
  refine go_callVi hc dL_law_954 (mX14_met hk hW e2) ml_RL_96 yk_X14_met ⟨wim_X14_met, wse_X14_met⟩ hR (goFit_i (Nat.le_of_ble_eq_true rfl) (Nat.le_of_ble_eq_true rfl) (by omega) (by omega)) (sh_102 hW) rfl rfl rfl (Nat.le_of_ble_eq_true rfl) rfl ?_
  refine go_icmp_eq hc 2043 dL_law_957 rfl (fun _ => ?_) (fun c => absurd rfl c)
  refine go_widen (by omega) (by omega) (kx _ _ _ _ _ _ hI2)
set_option maxRecDepth 100000 in
set_option maxHeartbeats 4000000 in
theorem law_isTrue {E : goEv} {X : goX} {G : goG} {ce sl n Ln : Nat} {Q : State → Prop} {M : goMI} {L : goML} {R : goMR} {xs : Nat → Int32} {d5 d6 : Option Value} {I : goInv} {k : Nat} (hA : goAll I) (hI : I k G M L R) (hkk : k < 4000) (hc : goCx E X code RL 7) (hk : goKn E) (hR : X.2.2.2.1 = goRoom 16 614 601024 7293034) (hX : va_X (goAd E 1000800) Ln xs E.1 E.1.heap) (hbb : goAd E 1000800 < E.2.1) (hin : n + 6 ≤ Ln) (hLn : Ln ≤ 3072) (hce : ce + 27 ≤ 601024 ∧ sl + 600 ≤ 7293034) (kx : ∀ (G' : goG) (M' : goMI) (L' : goML) (R' : goMR) (d5 d6 : Option Value), I (k + 1) G' M' L' R' → goA E X G' (ce + 27) (sl + 600) Q 2043 [some (.ref 1000800), some (.ref 0), some (.ref 102), some (.ref 120), some (.int (Int32.ofNat n)), d5, d6] [] M' L' R') : goA E X G ce sl Q 962 [some (.ref 1000800), some (.ref 0), some (.ref 102), some (.ref 120), some (.int (Int32.ofNat n)), d5, d6] [] M L R := by
  have hW := hA.1 _ _ _ _ _ hI
  obtain ⟨N, r, M1, M2, e1, e2, hI2⟩ := hA.2.2.2.2.2.2.2.2.2.2.2.2.2.2.2.2.2.2.2.2.1 k G M L R (xs (n + 1)) (xs (n + 2)) hI hkk
  refine go_aload1 hc dL_law_962 ?_
  refine go_aload0 hc dL_law_963 ?_
  refine go_iload4 hc dL_law_964 ?_
  refine go_iconst (v := Int32.ofNat 1) hc dL_law_966 rfl ?_
  refine go_iadd hc dL_law_967 ?_
  refine go_sld hc hX hbb (goIx (by omega)) (by omega) dL_law_968 ?_
  refine go_aload0 hc dL_law_969 ?_
  refine go_iload4 hc dL_law_970 ?_
  refine go_iconst (v := Int32.ofNat 2) hc dL_law_972 rfl ?_
  refine go_iadd hc dL_law_973 ?_
  refine go_sld hc hX hbb (goIx (by omega)) (by omega) dL_law_974 ?_
  refine go_callVi hc dL_law_975 (mX12_isTrue hk hW e1) ml_RL_97 yk_X12_isTrue ⟨wim_X12_isTrue, wse_X12_isTrue⟩ hR (goFit_i (Nat.le_of_ble_eq_true rfl) (Nat.le_of_ble_eq_true rfl) (by omega) (by omega)) (sh_0 hW) rfl rfl rfl (Nat.le_of_ble_eq_true rfl) rfl ?_
  refine go_aload2 hc dL_law_978 ?_
  refine go_aload0 hc dL_law_979 ?_
  refine go_iload4 hc dL_law_980 ?_
  refine go_iconst (v := Int32.ofNat 1) hc dL_law_982 rfl ?_
  refine go_iadd hc dL_law_983 ?_
  refine go_sld hc hX hbb (goIx (by omega)) (by omega) dL_law_984 ?_
  refine go_aload0 hc dL_law_985 ?_
  refine go_iload4 hc dL_law_986 ?_
  refine go_iconst (v := Int32.ofNat 2) hc dL_law_988 rfl ?_
  refine go_iadd hc dL_law_989 ?_
  refine go_sld hc hX hbb (goIx (by omega)) (by omega) dL_law_990 ?_
  refine go_callVi hc dL_law_991 (mX14_isTrue hk hW e2) ml_RL_100 yk_X14_isTrue ⟨wim_X14_isTrue, wse_X14_isTrue⟩ hR (goFit_i (Nat.le_of_ble_eq_true rfl) (Nat.le_of_ble_eq_true rfl) (by omega) (by omega)) (sh_102 hW) rfl rfl rfl (Nat.le_of_ble_eq_true rfl) rfl ?_
  refine go_icmp_eq hc 2043 dL_law_994 rfl (fun _ => ?_) (fun c => absurd rfl c)
  refine go_widen (by omega) (by omega) (kx _ _ _ _ _ _ hI2)
set_option maxRecDepth 100000 in
set_option maxHeartbeats 4000000 in
theorem law_fits {E : goEv} {X : goX} {G : goG} {ce sl n Ln : Nat} {Q : State → Prop} {M : goMI} {L : goML} {R : goMR} {xs : Nat → Int32} {d5 d6 : Option Value} {I : goInv} {k : Nat} (hA : goAll I) (hI : I k G M L R) (hkk : k < 4000) (hc : goCx E X code RL 7) (hk : goKn E) (hR : X.2.2.2.1 = goRoom 16 614 601024 7293034) (hX : va_X (goAd E 1000800) Ln xs E.1 E.1.heap) (hbb : goAd E 1000800 < E.2.1) (hin : n + 6 ≤ Ln) (hLn : Ln ≤ 3072) (hce : ce + 27 ≤ 601024 ∧ sl + 600 ≤ 7293034) (kx : ∀ (G' : goG) (M' : goMI) (L' : goML) (R' : goMR) (d5 d6 : Option Value), I (k + 1) G' M' L' R' → goA E X G' (ce + 27) (sl + 600) Q 2043 [some (.ref 1000800), some (.ref 0), some (.ref 102), some (.ref 120), some (.int (Int32.ofNat n)), d5, d6] [] M' L' R') : goA E X G ce sl Q 999 [some (.ref 1000800), some (.ref 0), some (.ref 102), some (.ref 120), some (.int (Int32.ofNat n)), d5, d6] [] M L R := by
  have hW := hA.1 _ _ _ _ _ hI
  obtain ⟨N, r, M1, M2, e1, e2, hI2⟩ := hA.2.2.2.2.2.2.2.2.2.2.2.2.2.2.2.2.2.2.2.2.2.1 k G M L R hI hkk
  refine go_aload1 hc dL_law_999 ?_
  refine go_callVi hc dL_law_1000 (mX12_fits hk hW e1) ml_RL_101 yk_X12_fits ⟨wim_X12_fits, wse_X12_fits⟩ hR (goFit_i (Nat.le_of_ble_eq_true rfl) (Nat.le_of_ble_eq_true rfl) (by omega) (by omega)) (sh_0 hW) rfl rfl rfl (Nat.le_of_ble_eq_true rfl) rfl ?_
  refine go_aload2 hc dL_law_1003 ?_
  refine go_callVi hc dL_law_1004 (mX14_fits hk hW e2) ml_RL_104 yk_X14_fits ⟨wim_X14_fits, wse_X14_fits⟩ hR (goFit_i (Nat.le_of_ble_eq_true rfl) (Nat.le_of_ble_eq_true rfl) (by omega) (by omega)) (sh_102 hW) rfl rfl rfl (Nat.le_of_ble_eq_true rfl) rfl ?_
  refine go_icmp_eq hc 2043 dL_law_1007 rfl (fun _ => ?_) (fun c => absurd rfl c)
  refine go_widen (by omega) (by omega) (kx _ _ _ _ _ _ hI2)
set_option maxRecDepth 100000 in
set_option maxHeartbeats 4000000 in
theorem law_fit {E : goEv} {X : goX} {G : goG} {ce sl n Ln : Nat} {Q : State → Prop} {M : goMI} {L : goML} {R : goMR} {xs : Nat → Int32} {d5 d6 : Option Value} {I : goInv} {k : Nat} (hA : goAll I) (hI : I k G M L R) (hkk : k < 4000) (hc : goCx E X code RL 7) (hk : goKn E) (hR : X.2.2.2.1 = goRoom 16 614 601024 7293034) (hX : va_X (goAd E 1000800) Ln xs E.1 E.1.heap) (hbb : goAd E 1000800 < E.2.1) (hin : n + 6 ≤ Ln) (hLn : Ln ≤ 3072) (hce : ce + 27 ≤ 601024 ∧ sl + 600 ≤ 7293034) (kx : ∀ (G' : goG) (M' : goMI) (L' : goML) (R' : goMR) (d5 d6 : Option Value), I (k + 1) G' M' L' R' → goA E X G' (ce + 27) (sl + 600) Q 2043 [some (.ref 1000800), some (.ref 0), some (.ref 102), some (.ref 120), some (.int (Int32.ofNat n)), d5, d6] [] M' L' R') : goA E X G ce sl Q 1012 [some (.ref 1000800), some (.ref 0), some (.ref 102), some (.ref 120), some (.int (Int32.ofNat n)), d5, d6] [] M L R := by
  have hW := hA.1 _ _ _ _ _ hI
  obtain ⟨N, r, M1, M2, e1, e2, hI2⟩ := hA.2.2.2.2.2.2.2.2.2.2.2.2.2.2.2.2.2.2.2.2.2.2.1 k G M L R (xs (n + 1)) hI hkk
  refine go_aload1 hc dL_law_1012 ?_
  refine go_aload0 hc dL_law_1013 ?_
  refine go_iload4 hc dL_law_1014 ?_
  refine go_iconst (v := Int32.ofNat 1) hc dL_law_1016 rfl ?_
  refine go_iadd hc dL_law_1017 ?_
  refine go_sld hc hX hbb (goIx (by omega)) (by omega) dL_law_1018 ?_
  refine go_callVi hc dL_law_1019 (mX12_fit hk hW e1) ml_RL_105 yk_X12_fit ⟨wim_X12_fit, wse_X12_fit⟩ hR (goFit_i (Nat.le_of_ble_eq_true rfl) (Nat.le_of_ble_eq_true rfl) (by omega) (by omega)) (sh_0 hW) rfl rfl rfl (Nat.le_of_ble_eq_true rfl) rfl ?_
  refine go_aload2 hc dL_law_1022 ?_
  refine go_aload0 hc dL_law_1023 ?_
  refine go_iload4 hc dL_law_1024 ?_
  refine go_iconst (v := Int32.ofNat 1) hc dL_law_1026 rfl ?_
  refine go_iadd hc dL_law_1027 ?_
  refine go_sld hc hX hbb (goIx (by omega)) (by omega) dL_law_1028 ?_
  refine go_callVi hc dL_law_1029 (mX14_fit hk hW e2) ml_RL_108 yk_X14_fit ⟨wim_X14_fit, wse_X14_fit⟩ hR (goFit_i (Nat.le_of_ble_eq_true rfl) (Nat.le_of_ble_eq_true rfl) (by omega) (by omega)) (sh_102 hW) rfl rfl rfl (Nat.le_of_ble_eq_true rfl) rfl ?_
  refine go_icmp_eq hc 2043 dL_law_1032 rfl (fun _ => ?_) (fun c => absurd rfl c)
  refine go_widen (by omega) (by omega) (kx _ _ _ _ _ _ hI2)
set_option maxRecDepth 100000 in
set_option maxHeartbeats 4000000 in
theorem law_could {E : goEv} {X : goX} {G : goG} {ce sl n Ln : Nat} {Q : State → Prop} {M : goMI} {L : goML} {R : goMR} {xs : Nat → Int32} {d5 d6 : Option Value} {I : goInv} {k : Nat} (hA : goAll I) (hI : I k G M L R) (hkk : k < 4000) (hc : goCx E X code RL 7) (hk : goKn E) (hR : X.2.2.2.1 = goRoom 16 614 601024 7293034) (hX : va_X (goAd E 1000800) Ln xs E.1 E.1.heap) (hbb : goAd E 1000800 < E.2.1) (hin : n + 6 ≤ Ln) (hLn : Ln ≤ 3072) (hce : ce + 27 ≤ 601024 ∧ sl + 600 ≤ 7293034) (kx : ∀ (G' : goG) (M' : goMI) (L' : goML) (R' : goMR) (d5 d6 : Option Value), I (k + 1) G' M' L' R' → goA E X G' (ce + 27) (sl + 600) Q 2043 [some (.ref 1000800), some (.ref 0), some (.ref 102), some (.ref 120), some (.int (Int32.ofNat n)), d5, d6] [] M' L' R') : goA E X G ce sl Q 1037 [some (.ref 1000800), some (.ref 0), some (.ref 102), some (.ref 120), some (.int (Int32.ofNat n)), d5, d6] [] M L R := by
  have hW := hA.1 _ _ _ _ _ hI
  obtain ⟨N, r, M1, M2, e1, e2, hI2⟩ := hA.2.2.2.2.2.2.2.2.2.2.2.2.2.2.2.2.2.2.2.2.2.2.2.1 k G M L R (xs (n + 1)) (xs (n + 2)) hI hkk
  refine go_aload1 hc dL_law_1037 ?_
  refine go_aload0 hc dL_law_1038 ?_
  refine go_iload4 hc dL_law_1039 ?_
  refine go_iconst (v := Int32.ofNat 1) hc dL_law_1041 rfl ?_
  refine go_iadd hc dL_law_1042 ?_
  refine go_sld hc hX hbb (goIx (by omega)) (by omega) dL_law_1043 ?_
  refine go_aload0 hc dL_law_1044 ?_
  refine go_iload4 hc dL_law_1045 ?_
  refine go_iconst (v := Int32.ofNat 2) hc dL_law_1047 rfl ?_
  refine go_iadd hc dL_law_1048 ?_
  refine go_sld hc hX hbb (goIx (by omega)) (by omega) dL_law_1049 ?_
  refine go_callVi hc dL_law_1050 (mX12_could hk hW e1) ml_RL_109 yk_X12_could ⟨wim_X12_could, wse_X12_could⟩ hR (goFit_i (Nat.le_of_ble_eq_true rfl) (Nat.le_of_ble_eq_true rfl) (by omega) (by omega)) (sh_0 hW) rfl rfl rfl (Nat.le_of_ble_eq_true rfl) rfl ?_
  refine go_aload2 hc dL_law_1053 ?_
  refine go_aload0 hc dL_law_1054 ?_
  refine go_iload4 hc dL_law_1055 ?_
  refine go_iconst (v := Int32.ofNat 1) hc dL_law_1057 rfl ?_
  refine go_iadd hc dL_law_1058 ?_
  refine go_sld hc hX hbb (goIx (by omega)) (by omega) dL_law_1059 ?_
  refine go_aload0 hc dL_law_1060 ?_
  refine go_iload4 hc dL_law_1061 ?_
  refine go_iconst (v := Int32.ofNat 2) hc dL_law_1063 rfl ?_
  refine go_iadd hc dL_law_1064 ?_
  refine go_sld hc hX hbb (goIx (by omega)) (by omega) dL_law_1065 ?_
  refine go_callVi hc dL_law_1066 (mX14_could hk hW e2) ml_RL_112 yk_X14_could ⟨wim_X14_could, wse_X14_could⟩ hR (goFit_i (Nat.le_of_ble_eq_true rfl) (Nat.le_of_ble_eq_true rfl) (by omega) (by omega)) (sh_102 hW) rfl rfl rfl (Nat.le_of_ble_eq_true rfl) rfl ?_
  refine go_icmp_eq hc 2043 dL_law_1069 rfl (fun _ => ?_) (fun c => absurd rfl c)
  refine go_widen (by omega) (by omega) (kx _ _ _ _ _ _ hI2)
set_option maxRecDepth 100000 in
set_option maxHeartbeats 4000000 in
theorem law_surely {E : goEv} {X : goX} {G : goG} {ce sl n Ln : Nat} {Q : State → Prop} {M : goMI} {L : goML} {R : goMR} {xs : Nat → Int32} {d5 d6 : Option Value} {I : goInv} {k : Nat} (hA : goAll I) (hI : I k G M L R) (hkk : k < 4000) (hc : goCx E X code RL 7) (hk : goKn E) (hR : X.2.2.2.1 = goRoom 16 614 601024 7293034) (hX : va_X (goAd E 1000800) Ln xs E.1 E.1.heap) (hbb : goAd E 1000800 < E.2.1) (hin : n + 6 ≤ Ln) (hLn : Ln ≤ 3072) (hce : ce + 27 ≤ 601024 ∧ sl + 600 ≤ 7293034) (kx : ∀ (G' : goG) (M' : goMI) (L' : goML) (R' : goMR) (d5 d6 : Option Value), I (k + 1) G' M' L' R' → goA E X G' (ce + 27) (sl + 600) Q 2043 [some (.ref 1000800), some (.ref 0), some (.ref 102), some (.ref 120), some (.int (Int32.ofNat n)), d5, d6] [] M' L' R') : goA E X G ce sl Q 1074 [some (.ref 1000800), some (.ref 0), some (.ref 102), some (.ref 120), some (.int (Int32.ofNat n)), d5, d6] [] M L R := by
  have hW := hA.1 _ _ _ _ _ hI
  obtain ⟨N, r, M1, M2, e1, e2, hI2⟩ := hA.2.2.2.2.2.2.2.2.2.2.2.2.2.2.2.2.2.2.2.2.2.2.2.2.1 k G M L R (xs (n + 1)) (xs (n + 2)) hI hkk
  refine go_aload1 hc dL_law_1074 ?_
  refine go_aload0 hc dL_law_1075 ?_
  refine go_iload4 hc dL_law_1076 ?_
  refine go_iconst (v := Int32.ofNat 1) hc dL_law_1078 rfl ?_
  refine go_iadd hc dL_law_1079 ?_
  refine go_sld hc hX hbb (goIx (by omega)) (by omega) dL_law_1080 ?_
  refine go_aload0 hc dL_law_1081 ?_
  refine go_iload4 hc dL_law_1082 ?_
  refine go_iconst (v := Int32.ofNat 2) hc dL_law_1084 rfl ?_
  refine go_iadd hc dL_law_1085 ?_
  refine go_sld hc hX hbb (goIx (by omega)) (by omega) dL_law_1086 ?_
  refine go_callVi hc dL_law_1087 (mX12_surely hk hW e1) ml_RL_113 yk_X12_surely ⟨wim_X12_surely, wse_X12_surely⟩ hR (goFit_i (Nat.le_of_ble_eq_true rfl) (Nat.le_of_ble_eq_true rfl) (by omega) (by omega)) (sh_0 hW) rfl rfl rfl (Nat.le_of_ble_eq_true rfl) rfl ?_
  refine go_aload2 hc dL_law_1090 ?_
  refine go_aload0 hc dL_law_1091 ?_
  refine go_iload4 hc dL_law_1092 ?_
  refine go_iconst (v := Int32.ofNat 1) hc dL_law_1094 rfl ?_
  refine go_iadd hc dL_law_1095 ?_
  refine go_sld hc hX hbb (goIx (by omega)) (by omega) dL_law_1096 ?_
  refine go_aload0 hc dL_law_1097 ?_
  refine go_iload4 hc dL_law_1098 ?_
  refine go_iconst (v := Int32.ofNat 2) hc dL_law_1100 rfl ?_
  refine go_iadd hc dL_law_1101 ?_
  refine go_sld hc hX hbb (goIx (by omega)) (by omega) dL_law_1102 ?_
  refine go_callVi hc dL_law_1103 (mX14_surely hk hW e2) ml_RL_116 yk_X14_surely ⟨wim_X14_surely, wse_X14_surely⟩ hR (goFit_i (Nat.le_of_ble_eq_true rfl) (Nat.le_of_ble_eq_true rfl) (by omega) (by omega)) (sh_102 hW) rfl rfl rfl (Nat.le_of_ble_eq_true rfl) rfl ?_
  refine go_icmp_eq hc 2043 dL_law_1106 rfl (fun _ => ?_) (fun c => absurd rfl c)
  refine go_widen (by omega) (by omega) (kx _ _ _ _ _ _ hI2)
set_option maxRecDepth 100000 in
set_option maxHeartbeats 4000000 in
theorem law_lies {E : goEv} {X : goX} {G : goG} {ce sl n Ln : Nat} {Q : State → Prop} {M : goMI} {L : goML} {R : goMR} {xs : Nat → Int32} {d5 d6 : Option Value} {I : goInv} {k : Nat} (hA : goAll I) (hI : I k G M L R) (hkk : k < 4000) (hc : goCx E X code RL 7) (hk : goKn E) (hR : X.2.2.2.1 = goRoom 16 614 601024 7293034) (hX : va_X (goAd E 1000800) Ln xs E.1 E.1.heap) (hbb : goAd E 1000800 < E.2.1) (hin : n + 6 ≤ Ln) (hLn : Ln ≤ 3072) (hce : ce + 27 ≤ 601024 ∧ sl + 600 ≤ 7293034) (kx : ∀ (G' : goG) (M' : goMI) (L' : goML) (R' : goMR) (d5 d6 : Option Value), I (k + 1) G' M' L' R' → goA E X G' (ce + 27) (sl + 600) Q 2043 [some (.ref 1000800), some (.ref 0), some (.ref 102), some (.ref 120), some (.int (Int32.ofNat n)), d5, d6] [] M' L' R') : goA E X G ce sl Q 1111 [some (.ref 1000800), some (.ref 0), some (.ref 102), some (.ref 120), some (.int (Int32.ofNat n)), d5, d6] [] M L R := by
  have hW := hA.1 _ _ _ _ _ hI
  obtain ⟨N, r, M1, M2, e1, e2, hI2⟩ := hA.2.2.2.2.2.2.2.2.2.2.2.2.2.2.2.2.2.2.2.2.2.2.2.2.2.1 k G M L R (xs (n + 1)) hI hkk
  refine go_aload1 hc dL_law_1111 ?_
  refine go_aload0 hc dL_law_1112 ?_
  refine go_iload4 hc dL_law_1113 ?_
  refine go_iconst (v := Int32.ofNat 1) hc dL_law_1115 rfl ?_
  refine go_iadd hc dL_law_1116 ?_
  refine go_sld hc hX hbb (goIx (by omega)) (by omega) dL_law_1117 ?_
  refine go_callVi hc dL_law_1118 (mX12_lies hk hW e1) ml_RL_117 yk_X12_lies ⟨wim_X12_lies, wse_X12_lies⟩ hR (goFit_i (Nat.le_of_ble_eq_true rfl) (Nat.le_of_ble_eq_true rfl) (by omega) (by omega)) (sh_0 hW) rfl rfl rfl (Nat.le_of_ble_eq_true rfl) rfl ?_
  refine go_aload2 hc dL_law_1121 ?_
  refine go_aload0 hc dL_law_1122 ?_
  refine go_iload4 hc dL_law_1123 ?_
  refine go_iconst (v := Int32.ofNat 1) hc dL_law_1125 rfl ?_
  refine go_iadd hc dL_law_1126 ?_
  refine go_sld hc hX hbb (goIx (by omega)) (by omega) dL_law_1127 ?_
  refine go_callVi hc dL_law_1128 (mX14_lies hk hW e2) ml_RL_120 yk_X14_lies ⟨wim_X14_lies, wse_X14_lies⟩ hR (goFit_i (Nat.le_of_ble_eq_true rfl) (Nat.le_of_ble_eq_true rfl) (by omega) (by omega)) (sh_102 hW) rfl rfl rfl (Nat.le_of_ble_eq_true rfl) rfl ?_
  refine go_icmp_eq hc 2043 dL_law_1131 rfl (fun _ => ?_) (fun c => absurd rfl c)
  refine go_widen (by omega) (by omega) (kx _ _ _ _ _ _ hI2)
set_option maxRecDepth 100000 in
set_option maxHeartbeats 4000000 in
theorem law_falseOnes {E : goEv} {X : goX} {G : goG} {ce sl n Ln : Nat} {Q : State → Prop} {M : goMI} {L : goML} {R : goMR} {xs : Nat → Int32} {d5 d6 : Option Value} {I : goInv} {k : Nat} (hA : goAll I) (hI : I k G M L R) (hkk : k < 4000) (hc : goCx E X code RL 7) (hk : goKn E) (hR : X.2.2.2.1 = goRoom 16 614 601024 7293034) (hX : va_X (goAd E 1000800) Ln xs E.1 E.1.heap) (hbb : goAd E 1000800 < E.2.1) (hin : n + 6 ≤ Ln) (hLn : Ln ≤ 3072) (hce : ce + 27 ≤ 601024 ∧ sl + 600 ≤ 7293034) (kx : ∀ (G' : goG) (M' : goMI) (L' : goML) (R' : goMR) (d5 d6 : Option Value), I (k + 1) G' M' L' R' → goA E X G' (ce + 27) (sl + 600) Q 2043 [some (.ref 1000800), some (.ref 0), some (.ref 102), some (.ref 120), some (.int (Int32.ofNat n)), d5, d6] [] M' L' R') : goA E X G ce sl Q 1136 [some (.ref 1000800), some (.ref 0), some (.ref 102), some (.ref 120), some (.int (Int32.ofNat n)), d5, d6] [] M L R := by
  have hW := hA.1 _ _ _ _ _ hI
  obtain ⟨N, r, M1, M2, e1, e2, hI2⟩ := hA.2.2.2.2.2.2.2.2.2.2.2.2.2.2.2.2.2.2.2.2.2.2.2.2.2.2.1 k G M L R hI hkk
  refine go_aload1 hc dL_law_1136 ?_
  refine go_callVi hc dL_law_1137 (mX12_falseOnes hk hW e1) ml_RL_121 yk_X12_falseOnes ⟨wim_X12_falseOnes, wse_X12_falseOnes⟩ hR (goFit_i (Nat.le_of_ble_eq_true rfl) (Nat.le_of_ble_eq_true rfl) (by omega) (by omega)) (sh_0 hW) rfl rfl rfl (Nat.le_of_ble_eq_true rfl) rfl ?_
  refine go_aload2 hc dL_law_1140 ?_
  refine go_callVi hc dL_law_1141 (mX14_falseOnes hk hW e2) ml_RL_124 yk_X14_falseOnes ⟨wim_X14_falseOnes, wse_X14_falseOnes⟩ hR (goFit_i (Nat.le_of_ble_eq_true rfl) (Nat.le_of_ble_eq_true rfl) (by omega) (by omega)) (sh_102 hW) rfl rfl rfl (Nat.le_of_ble_eq_true rfl) rfl ?_
  refine go_icmp_eq hc 2043 dL_law_1144 rfl (fun _ => ?_) (fun c => absurd rfl c)
  refine go_widen (by omega) (by omega) (kx _ _ _ _ _ _ hI2)
set_option maxRecDepth 100000 in
set_option maxHeartbeats 4000000 in
theorem law_odds {E : goEv} {X : goX} {G : goG} {ce sl n Ln : Nat} {Q : State → Prop} {M : goMI} {L : goML} {R : goMR} {xs : Nat → Int32} {d5 d6 : Option Value} {I : goInv} {k : Nat} (hA : goAll I) (hI : I k G M L R) (hkk : k < 4000) (hc : goCx E X code RL 7) (hk : goKn E) (hR : X.2.2.2.1 = goRoom 16 614 601024 7293034) (hX : va_X (goAd E 1000800) Ln xs E.1 E.1.heap) (hbb : goAd E 1000800 < E.2.1) (hin : n + 6 ≤ Ln) (hLn : Ln ≤ 3072) (hce : ce + 27 ≤ 601024 ∧ sl + 600 ≤ 7293034) (kx : ∀ (G' : goG) (M' : goMI) (L' : goML) (R' : goMR) (d5 d6 : Option Value), I (k + 1) G' M' L' R' → goA E X G' (ce + 27) (sl + 600) Q 2043 [some (.ref 1000800), some (.ref 0), some (.ref 102), some (.ref 120), some (.int (Int32.ofNat n)), d5, d6] [] M' L' R') : goA E X G ce sl Q 1149 [some (.ref 1000800), some (.ref 0), some (.ref 102), some (.ref 120), some (.int (Int32.ofNat n)), d5, d6] [] M L R := by
  have hW := hA.1 _ _ _ _ _ hI
  obtain ⟨N, r, M1, M2, e1, e2, hI2⟩ := hA.2.2.2.2.2.2.2.2.2.2.2.2.2.2.2.2.2.2.2.2.2.2.2.2.2.2.2.1 k G M L R (xs (n + 1)) hI hkk
  refine go_aload1 hc dL_law_1149 ?_
  refine go_aload0 hc dL_law_1150 ?_
  refine go_iload4 hc dL_law_1151 ?_
  refine go_iconst (v := Int32.ofNat 1) hc dL_law_1153 rfl ?_
  refine go_iadd hc dL_law_1154 ?_
  refine go_sld hc hX hbb (goIx (by omega)) (by omega) dL_law_1155 ?_
  refine go_callVi hc dL_law_1156 (mX12_odds hk hW e1) ml_RL_125 yk_X12_odds ⟨wim_X12_odds, wse_X12_odds⟩ hR (goFit_i (Nat.le_of_ble_eq_true rfl) (Nat.le_of_ble_eq_true rfl) (by omega) (by omega)) (sh_0 hW) rfl rfl rfl (Nat.le_of_ble_eq_true rfl) rfl ?_
  refine go_aload2 hc dL_law_1159 ?_
  refine go_aload0 hc dL_law_1160 ?_
  refine go_iload4 hc dL_law_1161 ?_
  refine go_iconst (v := Int32.ofNat 1) hc dL_law_1163 rfl ?_
  refine go_iadd hc dL_law_1164 ?_
  refine go_sld hc hX hbb (goIx (by omega)) (by omega) dL_law_1165 ?_
  refine go_callVi hc dL_law_1166 (mX14_odds hk hW e2) ml_RL_128 yk_X14_odds ⟨wim_X14_odds, wse_X14_odds⟩ hR (goFit_i (Nat.le_of_ble_eq_true rfl) (Nat.le_of_ble_eq_true rfl) (by omega) (by omega)) (sh_102 hW) rfl rfl rfl (Nat.le_of_ble_eq_true rfl) rfl ?_
  refine go_icmp_eq hc 2043 dL_law_1169 rfl (fun _ => ?_) (fun c => absurd rfl c)
  refine go_widen (by omega) (by omega) (kx _ _ _ _ _ _ hI2)
set_option maxRecDepth 100000 in
set_option maxHeartbeats 4000000 in
theorem law_likeliest {E : goEv} {X : goX} {G : goG} {ce sl n Ln : Nat} {Q : State → Prop} {M : goMI} {L : goML} {R : goMR} {xs : Nat → Int32} {d5 d6 : Option Value} {I : goInv} {k : Nat} (hA : goAll I) (hI : I k G M L R) (hkk : k < 4000) (hc : goCx E X code RL 7) (hk : goKn E) (hR : X.2.2.2.1 = goRoom 16 614 601024 7293034) (hX : va_X (goAd E 1000800) Ln xs E.1 E.1.heap) (hbb : goAd E 1000800 < E.2.1) (hin : n + 6 ≤ Ln) (hLn : Ln ≤ 3072) (hce : ce + 27 ≤ 601024 ∧ sl + 600 ≤ 7293034) (kx : ∀ (G' : goG) (M' : goMI) (L' : goML) (R' : goMR) (d5 d6 : Option Value), I (k + 1) G' M' L' R' → goA E X G' (ce + 27) (sl + 600) Q 2043 [some (.ref 1000800), some (.ref 0), some (.ref 102), some (.ref 120), some (.int (Int32.ofNat n)), d5, d6] [] M' L' R') : goA E X G ce sl Q 1174 [some (.ref 1000800), some (.ref 0), some (.ref 102), some (.ref 120), some (.int (Int32.ofNat n)), d5, d6] [] M L R := by
  have hW := hA.1 _ _ _ _ _ hI
  obtain ⟨N, r, M1, M2, e1, e2, hI2⟩ := hA.2.2.2.2.2.2.2.2.2.2.2.2.2.2.2.2.2.2.2.2.2.2.2.2.2.2.2.2.1 k G M L R hI hkk
  refine go_aload1 hc dL_law_1174 ?_
  refine go_callVi hc dL_law_1175 (mX12_likeliest hk hW e1) ml_RL_129 yk_X12_likeliest ⟨wim_X12_likeliest, wse_X12_likeliest⟩ hR (goFit_i (Nat.le_of_ble_eq_true rfl) (Nat.le_of_ble_eq_true rfl) (by omega) (by omega)) (sh_0 hW) rfl rfl rfl (Nat.le_of_ble_eq_true rfl) rfl ?_
  refine go_aload2 hc dL_law_1178 ?_
  refine go_callVi hc dL_law_1179 (mX14_likeliest hk hW e2) ml_RL_132 yk_X14_likeliest ⟨wim_X14_likeliest, wse_X14_likeliest⟩ hR (goFit_i (Nat.le_of_ble_eq_true rfl) (Nat.le_of_ble_eq_true rfl) (by omega) (by omega)) (sh_102 hW) rfl rfl rfl (Nat.le_of_ble_eq_true rfl) rfl ?_
  refine go_icmp_eq hc 2043 dL_law_1182 rfl (fun _ => ?_) (fun c => absurd rfl c)
  refine go_widen (by omega) (by omega) (kx _ _ _ _ _ _ hI2)
set_option maxRecDepth 100000 in
set_option maxHeartbeats 4000000 in
theorem law_proved {E : goEv} {X : goX} {G : goG} {ce sl n Ln : Nat} {Q : State → Prop} {M : goMI} {L : goML} {R : goMR} {xs : Nat → Int32} {d5 d6 : Option Value} {I : goInv} {k : Nat} (hA : goAll I) (hI : I k G M L R) (hkk : k < 4000) (hc : goCx E X code RL 7) (hk : goKn E) (hR : X.2.2.2.1 = goRoom 16 614 601024 7293034) (hX : va_X (goAd E 1000800) Ln xs E.1 E.1.heap) (hbb : goAd E 1000800 < E.2.1) (hin : n + 6 ≤ Ln) (hLn : Ln ≤ 3072) (hce : ce + 27 ≤ 601024 ∧ sl + 600 ≤ 7293034) (kx : ∀ (G' : goG) (M' : goMI) (L' : goML) (R' : goMR) (d5 d6 : Option Value), I (k + 1) G' M' L' R' → goA E X G' (ce + 27) (sl + 600) Q 2043 [some (.ref 1000800), some (.ref 0), some (.ref 102), some (.ref 120), some (.int (Int32.ofNat n)), d5, d6] [] M' L' R') : goA E X G ce sl Q 1187 [some (.ref 1000800), some (.ref 0), some (.ref 102), some (.ref 120), some (.int (Int32.ofNat n)), d5, d6] [] M L R := by
  have hW := hA.1 _ _ _ _ _ hI
  obtain ⟨N, r, M1, M2, e1, e2, hI2⟩ := hA.2.2.2.2.2.2.2.2.2.2.2.2.2.2.2.2.2.2.2.2.2.2.2.2.2.2.2.2.2.1 k G M L R (xs (n + 1)) (xs (n + 2)) (xs (n + 3)) hI hkk
  refine go_aload1 hc dL_law_1187 ?_
  refine go_aload0 hc dL_law_1188 ?_
  refine go_iload4 hc dL_law_1189 ?_
  refine go_iconst (v := Int32.ofNat 1) hc dL_law_1191 rfl ?_
  refine go_iadd hc dL_law_1192 ?_
  refine go_sld hc hX hbb (goIx (by omega)) (by omega) dL_law_1193 ?_
  refine go_aload0 hc dL_law_1194 ?_
  refine go_iload4 hc dL_law_1195 ?_
  refine go_iconst (v := Int32.ofNat 2) hc dL_law_1197 rfl ?_
  refine go_iadd hc dL_law_1198 ?_
  refine go_sld hc hX hbb (goIx (by omega)) (by omega) dL_law_1199 ?_
  refine go_aload0 hc dL_law_1200 ?_
  refine go_iload4 hc dL_law_1201 ?_
  refine go_iconst (v := Int32.ofNat 3) hc dL_law_1203 rfl ?_
  refine go_iadd hc dL_law_1204 ?_
  refine go_sld hc hX hbb (goIx (by omega)) (by omega) dL_law_1205 ?_
  refine go_callVi hc dL_law_1206 (mX12_proved hk hW e1) ml_RL_133 yk_X12_proved ⟨wim_X12_proved, wse_X12_proved⟩ hR (goFit_i (Nat.le_of_ble_eq_true rfl) (Nat.le_of_ble_eq_true rfl) (by omega) (by omega)) (sh_0 hW) rfl rfl rfl (Nat.le_of_ble_eq_true rfl) rfl ?_
  refine go_aload2 hc dL_law_1209 ?_
  refine go_aload0 hc dL_law_1210 ?_
  refine go_iload4 hc dL_law_1211 ?_
  refine go_iconst (v := Int32.ofNat 1) hc dL_law_1213 rfl ?_
  refine go_iadd hc dL_law_1214 ?_
  refine go_sld hc hX hbb (goIx (by omega)) (by omega) dL_law_1215 ?_
  refine go_aload0 hc dL_law_1216 ?_
  refine go_iload4 hc dL_law_1217 ?_
  refine go_iconst (v := Int32.ofNat 2) hc dL_law_1219 rfl ?_
  refine go_iadd hc dL_law_1220 ?_
  refine go_sld hc hX hbb (goIx (by omega)) (by omega) dL_law_1221 ?_
  refine go_aload0 hc dL_law_1222 ?_
  refine go_iload4 hc dL_law_1223 ?_
  refine go_iconst (v := Int32.ofNat 3) hc dL_law_1225 rfl ?_
  refine go_iadd hc dL_law_1226 ?_
  refine go_sld hc hX hbb (goIx (by omega)) (by omega) dL_law_1227 ?_
  refine go_callVi hc dL_law_1228 (mX14_proved hk hW e2) ml_RL_136 yk_X14_proved ⟨wim_X14_proved, wse_X14_proved⟩ hR (goFit_i (Nat.le_of_ble_eq_true rfl) (Nat.le_of_ble_eq_true rfl) (by omega) (by omega)) (sh_102 hW) rfl rfl rfl (Nat.le_of_ble_eq_true rfl) rfl ?_
  refine go_icmp_eq hc 2043 dL_law_1231 rfl (fun _ => ?_) (fun c => absurd rfl c)
  refine go_widen (by omega) (by omega) (kx _ _ _ _ _ _ hI2)
set_option maxRecDepth 100000 in
set_option maxHeartbeats 4000000 in
theorem law_ask {E : goEv} {X : goX} {G : goG} {ce sl n Ln : Nat} {Q : State → Prop} {M : goMI} {L : goML} {R : goMR} {xs : Nat → Int32} {d5 d6 : Option Value} {I : goInv} {k : Nat} (hA : goAll I) (hI : I k G M L R) (hkk : k < 4000) (hc : goCx E X code RL 7) (hk : goKn E) (hR : X.2.2.2.1 = goRoom 16 614 601024 7293034) (hX : va_X (goAd E 1000800) Ln xs E.1 E.1.heap) (hbb : goAd E 1000800 < E.2.1) (hin : n + 6 ≤ Ln) (hLn : Ln ≤ 3072) (hce : ce + 27 ≤ 601024 ∧ sl + 600 ≤ 7293034) (kx : ∀ (G' : goG) (M' : goMI) (L' : goML) (R' : goMR) (d5 d6 : Option Value), I (k + 1) G' M' L' R' → goA E X G' (ce + 27) (sl + 600) Q 2043 [some (.ref 1000800), some (.ref 0), some (.ref 102), some (.ref 120), some (.int (Int32.ofNat n)), d5, d6] [] M' L' R') : goA E X G ce sl Q 1236 [some (.ref 1000800), some (.ref 0), some (.ref 102), some (.ref 120), some (.int (Int32.ofNat n)), d5, d6] [] M L R := by
  have hW := hA.1 _ _ _ _ _ hI
  obtain ⟨N, r, M1, M2, e1, e2, hI2⟩ := hA.2.2.2.2.2.2.2.2.2.2.2.2.2.2.2.2.2.2.2.2.2.2.2.2.2.2.2.2.2.2.1 k G M L R hI hkk
  refine go_aload1 hc dL_law_1236 ?_
  refine go_callVi hc dL_law_1237 (mX12_ask hk hW e1) ml_RL_137 yk_X12_ask ⟨wim_X12_ask, wse_X12_ask⟩ hR (goFit_i (Nat.le_of_ble_eq_true rfl) (Nat.le_of_ble_eq_true rfl) (by omega) (by omega)) (sh_0 hW) rfl rfl rfl (Nat.le_of_ble_eq_true rfl) rfl ?_
  refine go_aload2 hc dL_law_1240 ?_
  refine go_callVi hc dL_law_1241 (mX14_ask hk hW e2) ml_RL_140 yk_X14_ask ⟨wim_X14_ask, wse_X14_ask⟩ hR (goFit_i (Nat.le_of_ble_eq_true rfl) (Nat.le_of_ble_eq_true rfl) (by omega) (by omega)) (sh_102 hW) rfl rfl rfl (Nat.le_of_ble_eq_true rfl) rfl ?_
  refine go_icmp_eq hc 2043 dL_law_1244 rfl (fun _ => ?_) (fun c => absurd rfl c)
  refine go_widen (by omega) (by omega) (kx _ _ _ _ _ _ hI2)
set_option maxRecDepth 100000 in
set_option maxHeartbeats 4000000 in
theorem law_askMost {E : goEv} {X : goX} {G : goG} {ce sl n Ln : Nat} {Q : State → Prop} {M : goMI} {L : goML} {R : goMR} {xs : Nat → Int32} {d5 d6 : Option Value} {I : goInv} {k : Nat} (hA : goAll I) (hI : I k G M L R) (hkk : k < 4000) (hc : goCx E X code RL 7) (hk : goKn E) (hR : X.2.2.2.1 = goRoom 16 614 601024 7293034) (hX : va_X (goAd E 1000800) Ln xs E.1 E.1.heap) (hbb : goAd E 1000800 < E.2.1) (hin : n + 6 ≤ Ln) (hLn : Ln ≤ 3072) (hce : ce + 27 ≤ 601024 ∧ sl + 600 ≤ 7293034) (kx : ∀ (G' : goG) (M' : goMI) (L' : goML) (R' : goMR) (d5 d6 : Option Value), I (k + 1) G' M' L' R' → goA E X G' (ce + 27) (sl + 600) Q 2043 [some (.ref 1000800), some (.ref 0), some (.ref 102), some (.ref 120), some (.int (Int32.ofNat n)), d5, d6] [] M' L' R') : goA E X G ce sl Q 1249 [some (.ref 1000800), some (.ref 0), some (.ref 102), some (.ref 120), some (.int (Int32.ofNat n)), d5, d6] [] M L R := by
  have hW := hA.1 _ _ _ _ _ hI
  obtain ⟨N, r, M1, M2, e1, e2, hI2⟩ := hA.2.2.2.2.2.2.2.2.2.2.2.2.2.2.2.2.2.2.2.2.2.2.2.2.2.2.2.2.2.2.2.1 k G M L R hI hkk
  refine go_aload1 hc dL_law_1249 ?_
  refine go_callVi hc dL_law_1250 (mX12_askMost hk hW e1) ml_RL_141 yk_X12_askMost ⟨wim_X12_askMost, wse_X12_askMost⟩ hR (goFit_i (Nat.le_of_ble_eq_true rfl) (Nat.le_of_ble_eq_true rfl) (by omega) (by omega)) (sh_0 hW) rfl rfl rfl (Nat.le_of_ble_eq_true rfl) rfl ?_
  refine go_aload2 hc dL_law_1253 ?_
  refine go_callVi hc dL_law_1254 (mX14_askMost hk hW e2) ml_RL_144 yk_X14_askMost ⟨wim_X14_askMost, wse_X14_askMost⟩ hR (goFit_i (Nat.le_of_ble_eq_true rfl) (Nat.le_of_ble_eq_true rfl) (by omega) (by omega)) (sh_102 hW) rfl rfl rfl (Nat.le_of_ble_eq_true rfl) rfl ?_
  refine go_icmp_eq hc 2043 dL_law_1257 rfl (fun _ => ?_) (fun c => absurd rfl c)
  refine go_widen (by omega) (by omega) (kx _ _ _ _ _ _ hI2)
set_option maxRecDepth 100000 in
set_option maxHeartbeats 4000000 in
theorem law_led {E : goEv} {X : goX} {G : goG} {ce sl n Ln : Nat} {Q : State → Prop} {M : goMI} {L : goML} {R : goMR} {xs : Nat → Int32} {d5 d6 : Option Value} {I : goInv} {k : Nat} (hA : goAll I) (hI : I k G M L R) (hkk : k < 4000) (hc : goCx E X code RL 7) (hk : goKn E) (hR : X.2.2.2.1 = goRoom 16 614 601024 7293034) (hX : va_X (goAd E 1000800) Ln xs E.1 E.1.heap) (hbb : goAd E 1000800 < E.2.1) (hin : n + 6 ≤ Ln) (hLn : Ln ≤ 3072) (hce : ce + 27 ≤ 601024 ∧ sl + 600 ≤ 7293034) (kx : ∀ (G' : goG) (M' : goMI) (L' : goML) (R' : goMR) (d5 d6 : Option Value), I (k + 1) G' M' L' R' → goA E X G' (ce + 27) (sl + 600) Q 2043 [some (.ref 1000800), some (.ref 0), some (.ref 102), some (.ref 120), some (.int (Int32.ofNat n)), d5, d6] [] M' L' R') : goA E X G ce sl Q 1262 [some (.ref 1000800), some (.ref 0), some (.ref 102), some (.ref 120), some (.int (Int32.ofNat n)), d5, d6] [] M L R := by
  have hW := hA.1 _ _ _ _ _ hI
  obtain ⟨N, r, M1, M2, e1, e2, hI2⟩ := hA.2.2.2.2.2.2.2.2.2.2.2.2.2.2.2.2.2.2.2.2.2.2.2.2.2.2.2.2.2.2.2.2.1 k G M L R (xs (n + 1)) (xs (n + 2)) (xs (n + 3)) (xs (n + 4)) hI hkk
  refine go_aload1 hc dL_law_1262 ?_
  refine go_aload0 hc dL_law_1263 ?_
  refine go_iload4 hc dL_law_1264 ?_
  refine go_iconst (v := Int32.ofNat 1) hc dL_law_1266 rfl ?_
  refine go_iadd hc dL_law_1267 ?_
  refine go_sld hc hX hbb (goIx (by omega)) (by omega) dL_law_1268 ?_
  refine go_aload0 hc dL_law_1269 ?_
  refine go_iload4 hc dL_law_1270 ?_
  refine go_iconst (v := Int32.ofNat 2) hc dL_law_1272 rfl ?_
  refine go_iadd hc dL_law_1273 ?_
  refine go_sld hc hX hbb (goIx (by omega)) (by omega) dL_law_1274 ?_
  refine go_aload0 hc dL_law_1275 ?_
  refine go_iload4 hc dL_law_1276 ?_
  refine go_iconst (v := Int32.ofNat 3) hc dL_law_1278 rfl ?_
  refine go_iadd hc dL_law_1279 ?_
  refine go_sld hc hX hbb (goIx (by omega)) (by omega) dL_law_1280 ?_
  refine go_aload0 hc dL_law_1281 ?_
  refine go_iload4 hc dL_law_1282 ?_
  refine go_iconst (v := Int32.ofNat 4) hc dL_law_1284 rfl ?_
  refine go_iadd hc dL_law_1285 ?_
  refine go_sld hc hX hbb (goIx (by omega)) (by omega) dL_law_1286 ?_
  refine go_callVi hc dL_law_1287 (mX12_led hk hW e1) ml_RL_145 yk_X12_led ⟨wim_X12_led, wse_X12_led⟩ hR (goFit_i (Nat.le_of_ble_eq_true rfl) (Nat.le_of_ble_eq_true rfl) (by omega) (by omega)) (sh_0 hW) rfl rfl rfl (Nat.le_of_ble_eq_true rfl) rfl ?_
  refine go_aload2 hc dL_law_1290 ?_
  refine go_aload0 hc dL_law_1291 ?_
  refine go_iload4 hc dL_law_1292 ?_
  refine go_iconst (v := Int32.ofNat 1) hc dL_law_1294 rfl ?_
  refine go_iadd hc dL_law_1295 ?_
  refine go_sld hc hX hbb (goIx (by omega)) (by omega) dL_law_1296 ?_
  refine go_aload0 hc dL_law_1297 ?_
  refine go_iload4 hc dL_law_1298 ?_
  refine go_iconst (v := Int32.ofNat 2) hc dL_law_1300 rfl ?_
  refine go_iadd hc dL_law_1301 ?_
  refine go_sld hc hX hbb (goIx (by omega)) (by omega) dL_law_1302 ?_
  refine go_aload0 hc dL_law_1303 ?_
  refine go_iload4 hc dL_law_1304 ?_
  refine go_iconst (v := Int32.ofNat 3) hc dL_law_1306 rfl ?_
  refine go_iadd hc dL_law_1307 ?_
  refine go_sld hc hX hbb (goIx (by omega)) (by omega) dL_law_1308 ?_
  refine go_aload0 hc dL_law_1309 ?_
  refine go_iload4 hc dL_law_1310 ?_
  refine go_iconst (v := Int32.ofNat 4) hc dL_law_1312 rfl ?_
  refine go_iadd hc dL_law_1313 ?_
  refine go_sld hc hX hbb (goIx (by omega)) (by omega) dL_law_1314 ?_
  refine go_callVi hc dL_law_1315 (mX14_led hk hW e2) ml_RL_148 yk_X14_led ⟨wim_X14_led, wse_X14_led⟩ hR (goFit_i (Nat.le_of_ble_eq_true rfl) (Nat.le_of_ble_eq_true rfl) (by omega) (by omega)) (sh_102 hW) rfl rfl rfl (Nat.le_of_ble_eq_true rfl) rfl ?_
  refine go_icmp_eq hc 2043 dL_law_1318 rfl (fun _ => ?_) (fun c => absurd rfl c)
  refine go_widen (by omega) (by omega) (kx _ _ _ _ _ _ hI2)
set_option maxRecDepth 100000 in
set_option maxHeartbeats 4000000 in
theorem law_ledAt {E : goEv} {X : goX} {G : goG} {ce sl n Ln : Nat} {Q : State → Prop} {M : goMI} {L : goML} {R : goMR} {xs : Nat → Int32} {d5 d6 : Option Value} {I : goInv} {k : Nat} (hA : goAll I) (hI : I k G M L R) (hkk : k < 4000) (hc : goCx E X code RL 7) (hk : goKn E) (hR : X.2.2.2.1 = goRoom 16 614 601024 7293034) (hX : va_X (goAd E 1000800) Ln xs E.1 E.1.heap) (hbb : goAd E 1000800 < E.2.1) (hin : n + 6 ≤ Ln) (hLn : Ln ≤ 3072) (hce : ce + 27 ≤ 601024 ∧ sl + 600 ≤ 7293034) (kx : ∀ (G' : goG) (M' : goMI) (L' : goML) (R' : goMR) (d5 d6 : Option Value), I (k + 1) G' M' L' R' → goA E X G' (ce + 27) (sl + 600) Q 2043 [some (.ref 1000800), some (.ref 0), some (.ref 102), some (.ref 120), some (.int (Int32.ofNat n)), d5, d6] [] M' L' R') : goA E X G ce sl Q 1323 [some (.ref 1000800), some (.ref 0), some (.ref 102), some (.ref 120), some (.int (Int32.ofNat n)), d5, d6] [] M L R := by
  have hW := hA.1 _ _ _ _ _ hI
  obtain ⟨N, r, M1, M2, e1, e2, hI2⟩ := hA.2.2.2.2.2.2.2.2.2.2.2.2.2.2.2.2.2.2.2.2.2.2.2.2.2.2.2.2.2.2.2.2.2.1 k G M L R (xs (n + 1)) (xs (n + 2)) (xs (n + 3)) (xs (n + 4)) (xs (n + 5)) hI hkk
  refine go_aload1 hc dL_law_1323 ?_
  refine go_aload0 hc dL_law_1324 ?_
  refine go_iload4 hc dL_law_1325 ?_
  refine go_iconst (v := Int32.ofNat 1) hc dL_law_1327 rfl ?_
  refine go_iadd hc dL_law_1328 ?_
  refine go_sld hc hX hbb (goIx (by omega)) (by omega) dL_law_1329 ?_
  refine go_aload0 hc dL_law_1330 ?_
  refine go_iload4 hc dL_law_1331 ?_
  refine go_iconst (v := Int32.ofNat 2) hc dL_law_1333 rfl ?_
  refine go_iadd hc dL_law_1334 ?_
  refine go_sld hc hX hbb (goIx (by omega)) (by omega) dL_law_1335 ?_
  refine go_aload0 hc dL_law_1336 ?_
  refine go_iload4 hc dL_law_1337 ?_
  refine go_iconst (v := Int32.ofNat 3) hc dL_law_1339 rfl ?_
  refine go_iadd hc dL_law_1340 ?_
  refine go_sld hc hX hbb (goIx (by omega)) (by omega) dL_law_1341 ?_
  refine go_aload0 hc dL_law_1342 ?_
  refine go_iload4 hc dL_law_1343 ?_
  refine go_iconst (v := Int32.ofNat 4) hc dL_law_1345 rfl ?_
  refine go_iadd hc dL_law_1346 ?_
  refine go_sld hc hX hbb (goIx (by omega)) (by omega) dL_law_1347 ?_
  refine go_aload0 hc dL_law_1348 ?_
  refine go_iload4 hc dL_law_1349 ?_
  refine go_iconst (v := Int32.ofNat 5) hc dL_law_1351 rfl ?_
  refine go_iadd hc dL_law_1352 ?_
  refine go_sld hc hX hbb (goIx (by omega)) (by omega) dL_law_1353 ?_
  refine go_callVi hc dL_law_1354 (mX12_ledAt hk hW e1) ml_RL_149 yk_X12_ledAt ⟨wim_X12_ledAt, wse_X12_ledAt⟩ hR (goFit_i (Nat.le_of_ble_eq_true rfl) (Nat.le_of_ble_eq_true rfl) (by omega) (by omega)) (sh_0 hW) rfl rfl rfl (Nat.le_of_ble_eq_true rfl) rfl ?_
  refine go_aload2 hc dL_law_1357 ?_
  refine go_aload0 hc dL_law_1358 ?_
  refine go_iload4 hc dL_law_1359 ?_
  refine go_iconst (v := Int32.ofNat 1) hc dL_law_1361 rfl ?_
  refine go_iadd hc dL_law_1362 ?_
  refine go_sld hc hX hbb (goIx (by omega)) (by omega) dL_law_1363 ?_
  refine go_aload0 hc dL_law_1364 ?_
  refine go_iload4 hc dL_law_1365 ?_
  refine go_iconst (v := Int32.ofNat 2) hc dL_law_1367 rfl ?_
  refine go_iadd hc dL_law_1368 ?_
  refine go_sld hc hX hbb (goIx (by omega)) (by omega) dL_law_1369 ?_
  refine go_aload0 hc dL_law_1370 ?_
  refine go_iload4 hc dL_law_1371 ?_
  refine go_iconst (v := Int32.ofNat 3) hc dL_law_1373 rfl ?_
  refine go_iadd hc dL_law_1374 ?_
  refine go_sld hc hX hbb (goIx (by omega)) (by omega) dL_law_1375 ?_
  refine go_aload0 hc dL_law_1376 ?_
  refine go_iload4 hc dL_law_1377 ?_
  refine go_iconst (v := Int32.ofNat 4) hc dL_law_1379 rfl ?_
  refine go_iadd hc dL_law_1380 ?_
  refine go_sld hc hX hbb (goIx (by omega)) (by omega) dL_law_1381 ?_
  refine go_aload0 hc dL_law_1382 ?_
  refine go_iload4 hc dL_law_1383 ?_
  refine go_iconst (v := Int32.ofNat 5) hc dL_law_1385 rfl ?_
  refine go_iadd hc dL_law_1386 ?_
  refine go_sld hc hX hbb (goIx (by omega)) (by omega) dL_law_1387 ?_
  refine go_callVi hc dL_law_1388 (mX14_ledAt hk hW e2) ml_RL_152 yk_X14_ledAt ⟨wim_X14_ledAt, wse_X14_ledAt⟩ hR (goFit_i (Nat.le_of_ble_eq_true rfl) (Nat.le_of_ble_eq_true rfl) (by omega) (by omega)) (sh_102 hW) rfl rfl rfl (Nat.le_of_ble_eq_true rfl) rfl ?_
  refine go_icmp_eq hc 2043 dL_law_1391 rfl (fun _ => ?_) (fun c => absurd rfl c)
  refine go_widen (by omega) (by omega) (kx _ _ _ _ _ _ hI2)
set_option maxRecDepth 100000 in
set_option maxHeartbeats 4000000 in
theorem law_scared {E : goEv} {X : goX} {G : goG} {ce sl n Ln : Nat} {Q : State → Prop} {M : goMI} {L : goML} {R : goMR} {xs : Nat → Int32} {d5 d6 : Option Value} {I : goInv} {k : Nat} (hA : goAll I) (hI : I k G M L R) (hkk : k < 4000) (hc : goCx E X code RL 7) (hk : goKn E) (hR : X.2.2.2.1 = goRoom 16 614 601024 7293034) (hX : va_X (goAd E 1000800) Ln xs E.1 E.1.heap) (hbb : goAd E 1000800 < E.2.1) (hin : n + 6 ≤ Ln) (hLn : Ln ≤ 3072) (hce : ce + 27 ≤ 601024 ∧ sl + 600 ≤ 7293034) (kx : ∀ (G' : goG) (M' : goMI) (L' : goML) (R' : goMR) (d5 d6 : Option Value), I (k + 1) G' M' L' R' → goA E X G' (ce + 27) (sl + 600) Q 2043 [some (.ref 1000800), some (.ref 0), some (.ref 102), some (.ref 120), some (.int (Int32.ofNat n)), d5, d6] [] M' L' R') : goA E X G ce sl Q 1396 [some (.ref 1000800), some (.ref 0), some (.ref 102), some (.ref 120), some (.int (Int32.ofNat n)), d5, d6] [] M L R := by
  have hW := hA.1 _ _ _ _ _ hI
  obtain ⟨N, r, M1, M2, e1, e2, hI2⟩ := hA.2.2.2.2.2.2.2.2.2.2.2.2.2.2.2.2.2.2.2.2.2.2.2.2.2.2.2.2.2.2.2.2.2.2.1 k G M L R (xs (n + 1)) (xs (n + 2)) (xs (n + 3)) (xs (n + 4)) hI hkk
  refine go_aload1 hc dL_law_1396 ?_
  refine go_aload0 hc dL_law_1397 ?_
  refine go_iload4 hc dL_law_1398 ?_
  refine go_iconst (v := Int32.ofNat 1) hc dL_law_1400 rfl ?_
  refine go_iadd hc dL_law_1401 ?_
  refine go_sld hc hX hbb (goIx (by omega)) (by omega) dL_law_1402 ?_
  refine go_aload0 hc dL_law_1403 ?_
  refine go_iload4 hc dL_law_1404 ?_
  refine go_iconst (v := Int32.ofNat 2) hc dL_law_1406 rfl ?_
  refine go_iadd hc dL_law_1407 ?_
  refine go_sld hc hX hbb (goIx (by omega)) (by omega) dL_law_1408 ?_
  refine go_aload0 hc dL_law_1409 ?_
  refine go_iload4 hc dL_law_1410 ?_
  refine go_iconst (v := Int32.ofNat 3) hc dL_law_1412 rfl ?_
  refine go_iadd hc dL_law_1413 ?_
  refine go_sld hc hX hbb (goIx (by omega)) (by omega) dL_law_1414 ?_
  refine go_aload0 hc dL_law_1415 ?_
  refine go_iload4 hc dL_law_1416 ?_
  refine go_iconst (v := Int32.ofNat 4) hc dL_law_1418 rfl ?_
  refine go_iadd hc dL_law_1419 ?_
  refine go_sld hc hX hbb (goIx (by omega)) (by omega) dL_law_1420 ?_
  refine go_callVi hc dL_law_1421 (mX12_scared hk hW e1) ml_RL_153 yk_X12_scared ⟨wim_X12_scared, wse_X12_scared⟩ hR (goFit_i (Nat.le_of_ble_eq_true rfl) (Nat.le_of_ble_eq_true rfl) (by omega) (by omega)) (sh_0 hW) rfl rfl rfl (Nat.le_of_ble_eq_true rfl) rfl ?_
  refine go_aload2 hc dL_law_1424 ?_
  refine go_aload0 hc dL_law_1425 ?_
  refine go_iload4 hc dL_law_1426 ?_
  refine go_iconst (v := Int32.ofNat 1) hc dL_law_1428 rfl ?_
  refine go_iadd hc dL_law_1429 ?_
  refine go_sld hc hX hbb (goIx (by omega)) (by omega) dL_law_1430 ?_
  refine go_aload0 hc dL_law_1431 ?_
  refine go_iload4 hc dL_law_1432 ?_
  refine go_iconst (v := Int32.ofNat 2) hc dL_law_1434 rfl ?_
  refine go_iadd hc dL_law_1435 ?_
  refine go_sld hc hX hbb (goIx (by omega)) (by omega) dL_law_1436 ?_
  refine go_aload0 hc dL_law_1437 ?_
  refine go_iload4 hc dL_law_1438 ?_
  refine go_iconst (v := Int32.ofNat 3) hc dL_law_1440 rfl ?_
  refine go_iadd hc dL_law_1441 ?_
  refine go_sld hc hX hbb (goIx (by omega)) (by omega) dL_law_1442 ?_
  refine go_aload0 hc dL_law_1443 ?_
  refine go_iload4 hc dL_law_1444 ?_
  refine go_iconst (v := Int32.ofNat 4) hc dL_law_1446 rfl ?_
  refine go_iadd hc dL_law_1447 ?_
  refine go_sld hc hX hbb (goIx (by omega)) (by omega) dL_law_1448 ?_
  refine go_callVi hc dL_law_1449 (mX14_scared hk hW e2) ml_RL_156 yk_X14_scared ⟨wim_X14_scared, wse_X14_scared⟩ hR (goFit_i (Nat.le_of_ble_eq_true rfl) (Nat.le_of_ble_eq_true rfl) (by omega) (by omega)) (sh_102 hW) rfl rfl rfl (Nat.le_of_ble_eq_true rfl) rfl ?_
  refine go_icmp_eq hc 2043 dL_law_1452 rfl (fun _ => ?_) (fun c => absurd rfl c)
  refine go_widen (by omega) (by omega) (kx _ _ _ _ _ _ hI2)
set_option maxRecDepth 100000 in
set_option maxHeartbeats 4000000 in
theorem law_follows {E : goEv} {X : goX} {G : goG} {ce sl n Ln : Nat} {Q : State → Prop} {M : goMI} {L : goML} {R : goMR} {xs : Nat → Int32} {d5 d6 : Option Value} {I : goInv} {k : Nat} (hA : goAll I) (hI : I k G M L R) (hkk : k < 4000) (hc : goCx E X code RL 7) (hk : goKn E) (hR : X.2.2.2.1 = goRoom 16 614 601024 7293034) (hX : va_X (goAd E 1000800) Ln xs E.1 E.1.heap) (hbb : goAd E 1000800 < E.2.1) (hin : n + 6 ≤ Ln) (hLn : Ln ≤ 3072) (hce : ce + 27 ≤ 601024 ∧ sl + 600 ≤ 7293034) (kx : ∀ (G' : goG) (M' : goMI) (L' : goML) (R' : goMR) (d5 d6 : Option Value), I (k + 1) G' M' L' R' → goA E X G' (ce + 27) (sl + 600) Q 2043 [some (.ref 1000800), some (.ref 0), some (.ref 102), some (.ref 120), some (.int (Int32.ofNat n)), d5, d6] [] M' L' R') : goA E X G ce sl Q 1457 [some (.ref 1000800), some (.ref 0), some (.ref 102), some (.ref 120), some (.int (Int32.ofNat n)), d5, d6] [] M L R := by
  have hW := hA.1 _ _ _ _ _ hI
  obtain ⟨N, r, M1, M2, e1, e2, hI2⟩ := hA.2.2.2.2.2.2.2.2.2.2.2.2.2.2.2.2.2.2.2.2.2.2.2.2.2.2.2.2.2.2.2.2.2.2.2.1 k G M L R (xs (n + 1)) hI hkk
  refine go_aload1 hc dL_law_1457 ?_
  refine go_aload0 hc dL_law_1458 ?_
  refine go_iload4 hc dL_law_1459 ?_
  refine go_iconst (v := Int32.ofNat 1) hc dL_law_1461 rfl ?_
  refine go_iadd hc dL_law_1462 ?_
  refine go_sld hc hX hbb (goIx (by omega)) (by omega) dL_law_1463 ?_
  refine go_callVi hc dL_law_1464 (mX12_follows hk hW e1) ml_RL_157 yk_X12_follows ⟨wim_X12_follows, wse_X12_follows⟩ hR (goFit_i (Nat.le_of_ble_eq_true rfl) (Nat.le_of_ble_eq_true rfl) (by omega) (by omega)) (sh_0 hW) rfl rfl rfl (Nat.le_of_ble_eq_true rfl) rfl ?_
  refine go_aload2 hc dL_law_1467 ?_
  refine go_aload0 hc dL_law_1468 ?_
  refine go_iload4 hc dL_law_1469 ?_
  refine go_iconst (v := Int32.ofNat 1) hc dL_law_1471 rfl ?_
  refine go_iadd hc dL_law_1472 ?_
  refine go_sld hc hX hbb (goIx (by omega)) (by omega) dL_law_1473 ?_
  refine go_callVi hc dL_law_1474 (mX14_follows hk hW e2) ml_RL_160 yk_X14_follows ⟨wim_X14_follows, wse_X14_follows⟩ hR (goFit_i (Nat.le_of_ble_eq_true rfl) (Nat.le_of_ble_eq_true rfl) (by omega) (by omega)) (sh_102 hW) rfl rfl rfl (Nat.le_of_ble_eq_true rfl) rfl ?_
  refine go_icmp_eq hc 2043 dL_law_1477 rfl (fun _ => ?_) (fun c => absurd rfl c)
  refine go_widen (by omega) (by omega) (kx _ _ _ _ _ _ hI2)
set_option maxRecDepth 100000 in
set_option maxHeartbeats 4000000 in
theorem law_step {E : goEv} {X : goX} {G : goG} {ce sl n Ln : Nat} {Q : State → Prop} {M : goMI} {L : goML} {R : goMR} {xs : Nat → Int32} {d5 d6 : Option Value} {I : goInv} {k : Nat} (hA : goAll I) (hI : I k G M L R) (hkk : k < 4000) (hc : goCx E X code RL 7) (hk : goKn E) (hR : X.2.2.2.1 = goRoom 16 614 601024 7293034) (hX : va_X (goAd E 1000800) Ln xs E.1 E.1.heap) (hbb : goAd E 1000800 < E.2.1) (hin : n + 6 ≤ Ln) (hLn : Ln ≤ 3072) (hce : ce + 27 ≤ 601024 ∧ sl + 600 ≤ 7293034) (kx : ∀ (G' : goG) (M' : goMI) (L' : goML) (R' : goMR) (d5 d6 : Option Value), I (k + 1) G' M' L' R' → goA E X G' (ce + 27) (sl + 600) Q 2043 [some (.ref 1000800), some (.ref 0), some (.ref 102), some (.ref 120), some (.int (Int32.ofNat n)), d5, d6] [] M' L' R') : goA E X G ce sl Q 1482 [some (.ref 1000800), some (.ref 0), some (.ref 102), some (.ref 120), some (.int (Int32.ofNat n)), d5, d6] [] M L R := by
  have hW := hA.1 _ _ _ _ _ hI
  obtain ⟨N, r, M1, M2, e1, e2, hI2⟩ := hA.2.2.2.2.2.2.2.2.2.2.2.2.2.2.2.2.2.2.2.2.2.2.2.2.2.2.2.2.2.2.2.2.2.2.2.2.1 k G M L R hI hkk
  refine go_aload1 hc dL_law_1482 ?_
  refine go_callVi hc dL_law_1483 (mX12_step hk hW e1) ml_RL_161 yk_X12_step ⟨wim_X12_step, wse_X12_step⟩ hR (goFit_i (Nat.le_of_ble_eq_true rfl) (Nat.le_of_ble_eq_true rfl) (by omega) (by omega)) (sh_0 hW) rfl rfl rfl (Nat.le_of_ble_eq_true rfl) rfl ?_
  refine go_aload2 hc dL_law_1486 ?_
  refine go_callVi hc dL_law_1487 (mX14_step hk hW e2) ml_RL_164 yk_X14_step ⟨wim_X14_step, wse_X14_step⟩ hR (goFit_i (Nat.le_of_ble_eq_true rfl) (Nat.le_of_ble_eq_true rfl) (by omega) (by omega)) (sh_102 hW) rfl rfl rfl (Nat.le_of_ble_eq_true rfl) rfl ?_
  refine go_icmp_eq hc 2043 dL_law_1490 rfl (fun _ => ?_) (fun c => absurd rfl c)
  refine go_widen (by omega) (by omega) (kx _ _ _ _ _ _ hI2)
set_option maxRecDepth 100000 in
set_option maxHeartbeats 4000000 in
theorem law_needs {E : goEv} {X : goX} {G : goG} {ce sl n Ln : Nat} {Q : State → Prop} {M : goMI} {L : goML} {R : goMR} {xs : Nat → Int32} {d5 d6 : Option Value} {I : goInv} {k : Nat} (hA : goAll I) (hI : I k G M L R) (hkk : k < 4000) (hc : goCx E X code RL 7) (hk : goKn E) (hR : X.2.2.2.1 = goRoom 16 614 601024 7293034) (hX : va_X (goAd E 1000800) Ln xs E.1 E.1.heap) (hbb : goAd E 1000800 < E.2.1) (hin : n + 6 ≤ Ln) (hLn : Ln ≤ 3072) (hce : ce + 27 ≤ 601024 ∧ sl + 600 ≤ 7293034) (kx : ∀ (G' : goG) (M' : goMI) (L' : goML) (R' : goMR) (d5 d6 : Option Value), I (k + 1) G' M' L' R' → goA E X G' (ce + 27) (sl + 600) Q 2043 [some (.ref 1000800), some (.ref 0), some (.ref 102), some (.ref 120), some (.int (Int32.ofNat n)), d5, d6] [] M' L' R') : goA E X G ce sl Q 1495 [some (.ref 1000800), some (.ref 0), some (.ref 102), some (.ref 120), some (.int (Int32.ofNat n)), d5, d6] [] M L R := by
  have hW := hA.1 _ _ _ _ _ hI
  obtain ⟨N, r, M1, M2, e1, e2, hI2⟩ := hA.2.2.2.2.2.2.2.2.2.2.2.2.2.2.2.2.2.2.2.2.2.2.2.2.2.2.2.2.2.2.2.2.2.2.2.2.2.1 k G M L R (xs (n + 1)) hI hkk
  refine go_aload1 hc dL_law_1495 ?_
  refine go_aload0 hc dL_law_1496 ?_
  refine go_iload4 hc dL_law_1497 ?_
  refine go_iconst (v := Int32.ofNat 1) hc dL_law_1499 rfl ?_
  refine go_iadd hc dL_law_1500 ?_
  refine go_sld hc hX hbb (goIx (by omega)) (by omega) dL_law_1501 ?_
  refine go_callVi hc dL_law_1502 (mX12_needs hk hW e1) ml_RL_165 yk_X12_needs ⟨wim_X12_needs, wse_X12_needs⟩ hR (goFit_i (Nat.le_of_ble_eq_true rfl) (Nat.le_of_ble_eq_true rfl) (by omega) (by omega)) (sh_0 hW) rfl rfl rfl (Nat.le_of_ble_eq_true rfl) rfl ?_
  refine go_aload2 hc dL_law_1505 ?_
  refine go_aload0 hc dL_law_1506 ?_
  refine go_iload4 hc dL_law_1507 ?_
  refine go_iconst (v := Int32.ofNat 1) hc dL_law_1509 rfl ?_
  refine go_iadd hc dL_law_1510 ?_
  refine go_sld hc hX hbb (goIx (by omega)) (by omega) dL_law_1511 ?_
  refine go_callVi hc dL_law_1512 (mX14_needs hk hW e2) ml_RL_168 yk_X14_needs ⟨wim_X14_needs, wse_X14_needs⟩ hR (goFit_i (Nat.le_of_ble_eq_true rfl) (Nat.le_of_ble_eq_true rfl) (by omega) (by omega)) (sh_102 hW) rfl rfl rfl (Nat.le_of_ble_eq_true rfl) rfl ?_
  refine go_icmp_eq hc 2043 dL_law_1515 rfl (fun _ => ?_) (fun c => absurd rfl c)
  refine go_widen (by omega) (by omega) (kx _ _ _ _ _ _ hI2)
set_option maxRecDepth 100000 in
set_option maxHeartbeats 4000000 in
theorem law_enough {E : goEv} {X : goX} {G : goG} {ce sl n Ln : Nat} {Q : State → Prop} {M : goMI} {L : goML} {R : goMR} {xs : Nat → Int32} {d5 d6 : Option Value} {I : goInv} {k : Nat} (hA : goAll I) (hI : I k G M L R) (hkk : k < 4000) (hc : goCx E X code RL 7) (hk : goKn E) (hR : X.2.2.2.1 = goRoom 16 614 601024 7293034) (hX : va_X (goAd E 1000800) Ln xs E.1 E.1.heap) (hbb : goAd E 1000800 < E.2.1) (hin : n + 6 ≤ Ln) (hLn : Ln ≤ 3072) (hce : ce + 27 ≤ 601024 ∧ sl + 600 ≤ 7293034) (kx : ∀ (G' : goG) (M' : goMI) (L' : goML) (R' : goMR) (d5 d6 : Option Value), I (k + 1) G' M' L' R' → goA E X G' (ce + 27) (sl + 600) Q 2043 [some (.ref 1000800), some (.ref 0), some (.ref 102), some (.ref 120), some (.int (Int32.ofNat n)), d5, d6] [] M' L' R') : goA E X G ce sl Q 1520 [some (.ref 1000800), some (.ref 0), some (.ref 102), some (.ref 120), some (.int (Int32.ofNat n)), d5, d6] [] M L R := by
  have hW := hA.1 _ _ _ _ _ hI
  obtain ⟨N, r, M1, M2, e1, e2, hI2⟩ := hA.2.2.2.2.2.2.2.2.2.2.2.2.2.2.2.2.2.2.2.2.2.2.2.2.2.2.2.2.2.2.2.2.2.2.2.2.2.2.1 k G M L R (xs (n + 1)) hI hkk
  refine go_aload1 hc dL_law_1520 ?_
  refine go_aload0 hc dL_law_1521 ?_
  refine go_iload4 hc dL_law_1522 ?_
  refine go_iconst (v := Int32.ofNat 1) hc dL_law_1524 rfl ?_
  refine go_iadd hc dL_law_1525 ?_
  refine go_sld hc hX hbb (goIx (by omega)) (by omega) dL_law_1526 ?_
  refine go_callVi hc dL_law_1527 (mX12_enough hk hW e1) ml_RL_169 yk_X12_enough ⟨wim_X12_enough, wse_X12_enough⟩ hR (goFit_i (Nat.le_of_ble_eq_true rfl) (Nat.le_of_ble_eq_true rfl) (by omega) (by omega)) (sh_0 hW) rfl rfl rfl (Nat.le_of_ble_eq_true rfl) rfl ?_
  refine go_aload2 hc dL_law_1530 ?_
  refine go_aload0 hc dL_law_1531 ?_
  refine go_iload4 hc dL_law_1532 ?_
  refine go_iconst (v := Int32.ofNat 1) hc dL_law_1534 rfl ?_
  refine go_iadd hc dL_law_1535 ?_
  refine go_sld hc hX hbb (goIx (by omega)) (by omega) dL_law_1536 ?_
  refine go_callVi hc dL_law_1537 (mX14_enough hk hW e2) ml_RL_172 yk_X14_enough ⟨wim_X14_enough, wse_X14_enough⟩ hR (goFit_i (Nat.le_of_ble_eq_true rfl) (Nat.le_of_ble_eq_true rfl) (by omega) (by omega)) (sh_102 hW) rfl rfl rfl (Nat.le_of_ble_eq_true rfl) rfl ?_
  refine go_icmp_eq hc 2043 dL_law_1540 rfl (fun _ => ?_) (fun c => absurd rfl c)
  refine go_widen (by omega) (by omega) (kx _ _ _ _ _ _ hI2)
set_option maxRecDepth 100000 in
set_option maxHeartbeats 4000000 in
theorem law_cheese {E : goEv} {X : goX} {G : goG} {ce sl n Ln : Nat} {Q : State → Prop} {M : goMI} {L : goML} {R : goMR} {xs : Nat → Int32} {d5 d6 : Option Value} {I : goInv} {k : Nat} (hA : goAll I) (hI : I k G M L R) (hkk : k < 4000) (hc : goCx E X code RL 7) (hk : goKn E) (hR : X.2.2.2.1 = goRoom 16 614 601024 7293034) (hX : va_X (goAd E 1000800) Ln xs E.1 E.1.heap) (hbb : goAd E 1000800 < E.2.1) (hin : n + 6 ≤ Ln) (hLn : Ln ≤ 3072) (hce : ce + 27 ≤ 601024 ∧ sl + 600 ≤ 7293034) (kx : ∀ (G' : goG) (M' : goMI) (L' : goML) (R' : goMR) (d5 d6 : Option Value), I (k + 1) G' M' L' R' → goA E X G' (ce + 27) (sl + 600) Q 2043 [some (.ref 1000800), some (.ref 0), some (.ref 102), some (.ref 120), some (.int (Int32.ofNat n)), d5, d6] [] M' L' R') : goA E X G ce sl Q 1545 [some (.ref 1000800), some (.ref 0), some (.ref 102), some (.ref 120), some (.int (Int32.ofNat n)), d5, d6] [] M L R := by
  have hW := hA.1 _ _ _ _ _ hI
  obtain ⟨N, r, M1, M2, e1, e2, hI2⟩ := hA.2.2.2.2.2.2.2.2.2.2.2.2.2.2.2.2.2.2.2.2.2.2.2.2.2.2.2.2.2.2.2.2.2.2.2.2.2.2.2.1 k G M L R (xs (n + 1)) hI hkk
  refine go_aload1 hc dL_law_1545 ?_
  refine go_aload0 hc dL_law_1546 ?_
  refine go_iload4 hc dL_law_1547 ?_
  refine go_iconst (v := Int32.ofNat 1) hc dL_law_1549 rfl ?_
  refine go_iadd hc dL_law_1550 ?_
  refine go_sld hc hX hbb (goIx (by omega)) (by omega) dL_law_1551 ?_
  refine go_callVi hc dL_law_1552 (mX12_cheese hk hW e1) ml_RL_173 yk_X12_cheese ⟨wim_X12_cheese, wse_X12_cheese⟩ hR (goFit_i (Nat.le_of_ble_eq_true rfl) (Nat.le_of_ble_eq_true rfl) (by omega) (by omega)) (sh_0 hW) rfl rfl rfl (Nat.le_of_ble_eq_true rfl) rfl ?_
  refine go_aload2 hc dL_law_1555 ?_
  refine go_aload0 hc dL_law_1556 ?_
  refine go_iload4 hc dL_law_1557 ?_
  refine go_iconst (v := Int32.ofNat 1) hc dL_law_1559 rfl ?_
  refine go_iadd hc dL_law_1560 ?_
  refine go_sld hc hX hbb (goIx (by omega)) (by omega) dL_law_1561 ?_
  refine go_callVi hc dL_law_1562 (mX14_cheese hk hW e2) ml_RL_176 yk_X14_cheese ⟨wim_X14_cheese, wse_X14_cheese⟩ hR (goFit_i (Nat.le_of_ble_eq_true rfl) (Nat.le_of_ble_eq_true rfl) (by omega) (by omega)) (sh_102 hW) rfl rfl rfl (Nat.le_of_ble_eq_true rfl) rfl ?_
  refine go_icmp_eq hc 2043 dL_law_1565 rfl (fun _ => ?_) (fun c => absurd rfl c)
  refine go_widen (by omega) (by omega) (kx _ _ _ _ _ _ hI2)
set_option maxRecDepth 100000 in
set_option maxHeartbeats 4000000 in
theorem law_cheeseOf {E : goEv} {X : goX} {G : goG} {ce sl n Ln : Nat} {Q : State → Prop} {M : goMI} {L : goML} {R : goMR} {xs : Nat → Int32} {d5 d6 : Option Value} {I : goInv} {k : Nat} (hA : goAll I) (hI : I k G M L R) (hkk : k < 4000) (hc : goCx E X code RL 7) (hk : goKn E) (hR : X.2.2.2.1 = goRoom 16 614 601024 7293034) (hX : va_X (goAd E 1000800) Ln xs E.1 E.1.heap) (hbb : goAd E 1000800 < E.2.1) (hin : n + 6 ≤ Ln) (hLn : Ln ≤ 3072) (hce : ce + 27 ≤ 601024 ∧ sl + 600 ≤ 7293034) (kx : ∀ (G' : goG) (M' : goMI) (L' : goML) (R' : goMR) (d5 d6 : Option Value), I (k + 1) G' M' L' R' → goA E X G' (ce + 27) (sl + 600) Q 2043 [some (.ref 1000800), some (.ref 0), some (.ref 102), some (.ref 120), some (.int (Int32.ofNat n)), d5, d6] [] M' L' R') : goA E X G ce sl Q 1570 [some (.ref 1000800), some (.ref 0), some (.ref 102), some (.ref 120), some (.int (Int32.ofNat n)), d5, d6] [] M L R := by
  have hW := hA.1 _ _ _ _ _ hI
  obtain ⟨N, r, M1, M2, e1, e2, hI2⟩ := hA.2.2.2.2.2.2.2.2.2.2.2.2.2.2.2.2.2.2.2.2.2.2.2.2.2.2.2.2.2.2.2.2.2.2.2.2.2.2.2.2.1 k G M L R (xs (n + 1)) hI hkk
  refine go_aload1 hc dL_law_1570 ?_
  refine go_aload0 hc dL_law_1571 ?_
  refine go_iload4 hc dL_law_1572 ?_
  refine go_iconst (v := Int32.ofNat 1) hc dL_law_1574 rfl ?_
  refine go_iadd hc dL_law_1575 ?_
  refine go_sld hc hX hbb (goIx (by omega)) (by omega) dL_law_1576 ?_
  refine go_callVi hc dL_law_1577 (mX12_cheeseOf hk hW e1) ml_RL_177 yk_X12_cheeseOf ⟨wim_X12_cheeseOf, wse_X12_cheeseOf⟩ hR (goFit_i (Nat.le_of_ble_eq_true rfl) (Nat.le_of_ble_eq_true rfl) (by omega) (by omega)) (sh_0 hW) rfl rfl rfl (Nat.le_of_ble_eq_true rfl) rfl ?_
  refine go_aload2 hc dL_law_1580 ?_
  refine go_aload0 hc dL_law_1581 ?_
  refine go_iload4 hc dL_law_1582 ?_
  refine go_iconst (v := Int32.ofNat 1) hc dL_law_1584 rfl ?_
  refine go_iadd hc dL_law_1585 ?_
  refine go_sld hc hX hbb (goIx (by omega)) (by omega) dL_law_1586 ?_
  refine go_callVi hc dL_law_1587 (mX14_cheeseOf hk hW e2) ml_RL_180 yk_X14_cheeseOf ⟨wim_X14_cheeseOf, wse_X14_cheeseOf⟩ hR (goFit_i (Nat.le_of_ble_eq_true rfl) (Nat.le_of_ble_eq_true rfl) (by omega) (by omega)) (sh_102 hW) rfl rfl rfl (Nat.le_of_ble_eq_true rfl) rfl ?_
  refine go_icmp_eq hc 2043 dL_law_1590 rfl (fun _ => ?_) (fun c => absurd rfl c)
  refine go_widen (by omega) (by omega) (kx _ _ _ _ _ _ hI2)
set_option maxRecDepth 100000 in
set_option maxHeartbeats 4000000 in
theorem law_appeals {E : goEv} {X : goX} {G : goG} {ce sl n Ln : Nat} {Q : State → Prop} {M : goMI} {L : goML} {R : goMR} {xs : Nat → Int32} {d5 d6 : Option Value} {I : goInv} {k : Nat} (hA : goAll I) (hI : I k G M L R) (hkk : k < 4000) (hc : goCx E X code RL 7) (hk : goKn E) (hR : X.2.2.2.1 = goRoom 16 614 601024 7293034) (hX : va_X (goAd E 1000800) Ln xs E.1 E.1.heap) (hbb : goAd E 1000800 < E.2.1) (hin : n + 6 ≤ Ln) (hLn : Ln ≤ 3072) (hce : ce + 27 ≤ 601024 ∧ sl + 600 ≤ 7293034) (kx : ∀ (G' : goG) (M' : goMI) (L' : goML) (R' : goMR) (d5 d6 : Option Value), I (k + 1) G' M' L' R' → goA E X G' (ce + 27) (sl + 600) Q 2043 [some (.ref 1000800), some (.ref 0), some (.ref 102), some (.ref 120), some (.int (Int32.ofNat n)), d5, d6] [] M' L' R') : goA E X G ce sl Q 1595 [some (.ref 1000800), some (.ref 0), some (.ref 102), some (.ref 120), some (.int (Int32.ofNat n)), d5, d6] [] M L R := by
  have hW := hA.1 _ _ _ _ _ hI
  obtain ⟨N, r, M1, L1, M2, e1, e2, hI2⟩ := hA.2.2.2.2.2.2.2.2.2.2.2.2.2.2.2.2.2.2.2.2.2.2.2.2.2.2.2.2.2.2.2.2.2.2.2.2.2.2.2.2.2.1 k G M L R hI hkk
  refine go_aload1 hc dL_law_1595 ?_
  refine go_callVl hc dL_law_1596 (mX12_appeals hk hW e1) ml_RL_181 yk_X12_appeals ⟨wim_X12_appeals, wse_X12_appeals⟩ hR (goFit_i (Nat.le_of_ble_eq_true rfl) (Nat.le_of_ble_eq_true rfl) (by omega) (by omega)) (sh_0 hW) rfl rfl rfl (Nat.le_of_ble_eq_true rfl) rfl ?_
  refine go_aload2 hc dL_law_1599 ?_
  refine go_callVl hc dL_law_1600 (mX14_appeals hk hW e2) ml_RL_185 yk_X14_appeals ⟨wim_X14_appeals, wse_X14_appeals⟩ hR (goFit_i (Nat.le_of_ble_eq_true rfl) (Nat.le_of_ble_eq_true rfl) (by omega) (by omega)) (sh_102 hW) rfl rfl rfl (Nat.le_of_ble_eq_true rfl) rfl ?_
  refine go_lcmp hc dL_law_1603 ?_
  refine go_if_eq hc 2043 dL_law_1604 rfl (fun _ => ?_) (fun c => absurd (goCmp_self _) c)
  refine go_widen (by omega) (by omega) (kx _ _ _ _ _ _ hI2)
set_option maxRecDepth 100000 in
set_option maxHeartbeats 4000000 in
theorem law_appealAt {E : goEv} {X : goX} {G : goG} {ce sl n Ln : Nat} {Q : State → Prop} {M : goMI} {L : goML} {R : goMR} {xs : Nat → Int32} {d5 d6 : Option Value} {I : goInv} {k : Nat} (hA : goAll I) (hI : I k G M L R) (hkk : k < 4000) (hc : goCx E X code RL 7) (hk : goKn E) (hR : X.2.2.2.1 = goRoom 16 614 601024 7293034) (hX : va_X (goAd E 1000800) Ln xs E.1 E.1.heap) (hbb : goAd E 1000800 < E.2.1) (hin : n + 6 ≤ Ln) (hLn : Ln ≤ 3072) (hce : ce + 27 ≤ 601024 ∧ sl + 600 ≤ 7293034) (kx : ∀ (G' : goG) (M' : goMI) (L' : goML) (R' : goMR) (d5 d6 : Option Value), I (k + 1) G' M' L' R' → goA E X G' (ce + 27) (sl + 600) Q 2043 [some (.ref 1000800), some (.ref 0), some (.ref 102), some (.ref 120), some (.int (Int32.ofNat n)), d5, d6] [] M' L' R') : goA E X G ce sl Q 1609 [some (.ref 1000800), some (.ref 0), some (.ref 102), some (.ref 120), some (.int (Int32.ofNat n)), d5, d6] [] M L R := by
  have hW := hA.1 _ _ _ _ _ hI
  obtain ⟨N, r, M1, L1, M2, e1, e2, hI2⟩ := hA.2.2.2.2.2.2.2.2.2.2.2.2.2.2.2.2.2.2.2.2.2.2.2.2.2.2.2.2.2.2.2.2.2.2.2.2.2.2.2.2.2.2.1 k G M L R (xs (n + 1)) hI hkk
  refine go_aload1 hc dL_law_1609 ?_
  refine go_aload0 hc dL_law_1610 ?_
  refine go_iload4 hc dL_law_1611 ?_
  refine go_iconst (v := Int32.ofNat 1) hc dL_law_1613 rfl ?_
  refine go_iadd hc dL_law_1614 ?_
  refine go_sld hc hX hbb (goIx (by omega)) (by omega) dL_law_1615 ?_
  refine go_callVi hc dL_law_1616 (mX12_appealAt hk hW e1) ml_RL_186 yk_X12_appealAt ⟨wim_X12_appealAt, wse_X12_appealAt⟩ hR (goFit_i (Nat.le_of_ble_eq_true rfl) (Nat.le_of_ble_eq_true rfl) (by omega) (by omega)) (sh_0 hW) rfl rfl rfl (Nat.le_of_ble_eq_true rfl) rfl ?_
  refine go_aload2 hc dL_law_1619 ?_
  refine go_aload0 hc dL_law_1620 ?_
  refine go_iload4 hc dL_law_1621 ?_
  refine go_iconst (v := Int32.ofNat 1) hc dL_law_1623 rfl ?_
  refine go_iadd hc dL_law_1624 ?_
  refine go_sld hc hX hbb (goIx (by omega)) (by omega) dL_law_1625 ?_
  refine go_callVi hc dL_law_1626 (mX14_appealAt hk hW e2) ml_RL_189 yk_X14_appealAt ⟨wim_X14_appealAt, wse_X14_appealAt⟩ hR (goFit_i (Nat.le_of_ble_eq_true rfl) (Nat.le_of_ble_eq_true rfl) (by omega) (by omega)) (sh_102 hW) rfl rfl rfl (Nat.le_of_ble_eq_true rfl) rfl ?_
  refine go_icmp_eq hc 2043 dL_law_1629 rfl (fun _ => ?_) (fun c => absurd rfl c)
  refine go_widen (by omega) (by omega) (kx _ _ _ _ _ _ hI2)
set_option maxRecDepth 100000 in
set_option maxHeartbeats 4000000 in
theorem law_salt {E : goEv} {X : goX} {G : goG} {ce sl n Ln : Nat} {Q : State → Prop} {M : goMI} {L : goML} {R : goMR} {xs : Nat → Int32} {d5 d6 : Option Value} {I : goInv} {k : Nat} (hA : goAll I) (hI : I k G M L R) (hkk : k < 4000) (hc : goCx E X code RL 7) (hk : goKn E) (hR : X.2.2.2.1 = goRoom 16 614 601024 7293034) (hX : va_X (goAd E 1000800) Ln xs E.1 E.1.heap) (hbb : goAd E 1000800 < E.2.1) (hin : n + 6 ≤ Ln) (hLn : Ln ≤ 3072) (hce : ce + 27 ≤ 601024 ∧ sl + 600 ≤ 7293034) (kx : ∀ (G' : goG) (M' : goMI) (L' : goML) (R' : goMR) (d5 d6 : Option Value), I (k + 1) G' M' L' R' → goA E X G' (ce + 27) (sl + 600) Q 2043 [some (.ref 1000800), some (.ref 0), some (.ref 102), some (.ref 120), some (.int (Int32.ofNat n)), d5, d6] [] M' L' R') : goA E X G ce sl Q 1634 [some (.ref 1000800), some (.ref 0), some (.ref 102), some (.ref 120), some (.int (Int32.ofNat n)), d5, d6] [] M L R := by
  have hW := hA.1 _ _ _ _ _ hI
  obtain ⟨N, r, M1, M2, e1, e2, hI2⟩ := hA.2.2.2.2.2.2.2.2.2.2.2.2.2.2.2.2.2.2.2.2.2.2.2.2.2.2.2.2.2.2.2.2.2.2.2.2.2.2.2.2.2.2.2.1 k G M L R (xs (n + 1)) (xs (n + 2)) (xs (n + 3)) hI hkk
  refine go_aload1 hc dL_law_1634 ?_
  refine go_aload0 hc dL_law_1635 ?_
  refine go_iload4 hc dL_law_1636 ?_
  refine go_iconst (v := Int32.ofNat 1) hc dL_law_1638 rfl ?_
  refine go_iadd hc dL_law_1639 ?_
  refine go_sld hc hX hbb (goIx (by omega)) (by omega) dL_law_1640 ?_
  refine go_aload0 hc dL_law_1641 ?_
  refine go_iload4 hc dL_law_1642 ?_
  refine go_iconst (v := Int32.ofNat 2) hc dL_law_1644 rfl ?_
  refine go_iadd hc dL_law_1645 ?_
  refine go_sld hc hX hbb (goIx (by omega)) (by omega) dL_law_1646 ?_
  refine go_aload0 hc dL_law_1647 ?_
  refine go_iload4 hc dL_law_1648 ?_
  refine go_iconst (v := Int32.ofNat 3) hc dL_law_1650 rfl ?_
  refine go_iadd hc dL_law_1651 ?_
  refine go_sld hc hX hbb (goIx (by omega)) (by omega) dL_law_1652 ?_
  have kj1653 : goA E X G ce sl Q 1661 [some (.ref 1000800), some (.ref 0), some (.ref 102), some (.ref 120), some (.int (Int32.ofNat n)), d5, d6] [.int (goNb (xs (n + 3))), .int (xs (n + 2)), .int (xs (n + 1)), .ref 0] M L R := by
    refine go_callVi hc dL_law_1661 (mX12_salt hk hW e1) ml_RL_190 yk_X12_salt ⟨wim_X12_salt, wse_X12_salt⟩ hR (goFit_i (Nat.le_of_ble_eq_true rfl) (Nat.le_of_ble_eq_true rfl) (by omega) (by omega)) (sh_0 hW) rfl rfl rfl (Nat.le_of_ble_eq_true rfl) rfl ?_
    refine go_aload2 hc dL_law_1664 ?_
    refine go_aload0 hc dL_law_1665 ?_
    refine go_iload4 hc dL_law_1666 ?_
    refine go_iconst (v := Int32.ofNat 1) hc dL_law_1668 rfl ?_
    refine go_iadd hc dL_law_1669 ?_
    refine go_sld hc hX hbb (goIx (by omega)) (by omega) dL_law_1670 ?_
    refine go_aload0 hc dL_law_1671 ?_
    refine go_iload4 hc dL_law_1672 ?_
    refine go_iconst (v := Int32.ofNat 2) hc dL_law_1674 rfl ?_
    refine go_iadd hc dL_law_1675 ?_
    refine go_sld hc hX hbb (goIx (by omega)) (by omega) dL_law_1676 ?_
    refine go_aload0 hc dL_law_1677 ?_
    refine go_iload4 hc dL_law_1678 ?_
    refine go_iconst (v := Int32.ofNat 3) hc dL_law_1680 rfl ?_
    refine go_iadd hc dL_law_1681 ?_
    refine go_sld hc hX hbb (goIx (by omega)) (by omega) dL_law_1682 ?_
    have kj1683 : goA E X G ce sl Q 1691 [some (.ref 1000800), some (.ref 0), some (.ref 102), some (.ref 120), some (.int (Int32.ofNat n)), d5, d6] [.int (goNb (xs (n + 3))), .int (xs (n + 2)), .int (xs (n + 1)), .ref 102, .int r] M1 L R := by
      refine go_callVi hc dL_law_1691 (mX14_salt hk hW e2) ml_RL_194 yk_X14_salt ⟨wim_X14_salt, wse_X14_salt⟩ hR (goFit_i (Nat.le_of_ble_eq_true rfl) (Nat.le_of_ble_eq_true rfl) (by omega) (by omega)) (sh_102 hW) rfl rfl rfl (Nat.le_of_ble_eq_true rfl) rfl ?_
      refine go_icmp_eq hc 2043 dL_law_1694 rfl (fun _ => ?_) (fun c => absurd rfl c)
      refine go_widen (by omega) (by omega) (kx _ _ _ _ _ _ hI2)
    refine go_if_eq hc 1690 dL_law_1683 rfl (fun c => ?_) (fun c => ?_)
    · rw [show goNb (xs (n + 3)) = 0 from if_pos c] at kj1683
      exact go_iconst (v := 0) hc dL_law_1690 rfl kj1683
    · rw [show goNb (xs (n + 3)) = 1 from if_neg c] at kj1683
      refine go_iconst (v := 1) hc dL_law_1686 rfl ?_
      exact go_goto hc 1691 dL_law_1687 rfl kj1683
  refine go_if_eq hc 1660 dL_law_1653 rfl (fun c => ?_) (fun c => ?_)
  · rw [show goNb (xs (n + 3)) = 0 from if_pos c] at kj1653
    exact go_iconst (v := 0) hc dL_law_1660 rfl kj1653
  · rw [show goNb (xs (n + 3)) = 1 from if_neg c] at kj1653
    refine go_iconst (v := 1) hc dL_law_1656 rfl ?_
    exact go_goto hc 1661 dL_law_1657 rfl kj1653
set_option maxRecDepth 100000 in
set_option maxHeartbeats 4000000 in
theorem law_dog {E : goEv} {X : goX} {G : goG} {ce sl n Ln : Nat} {Q : State → Prop} {M : goMI} {L : goML} {R : goMR} {xs : Nat → Int32} {d5 d6 : Option Value} {I : goInv} {k : Nat} (hA : goAll I) (hI : I k G M L R) (hkk : k < 4000) (hc : goCx E X code RL 7) (hk : goKn E) (hR : X.2.2.2.1 = goRoom 16 614 601024 7293034) (hX : va_X (goAd E 1000800) Ln xs E.1 E.1.heap) (hbb : goAd E 1000800 < E.2.1) (hin : n + 6 ≤ Ln) (hLn : Ln ≤ 3072) (hce : ce + 27 ≤ 601024 ∧ sl + 600 ≤ 7293034) (kx : ∀ (G' : goG) (M' : goMI) (L' : goML) (R' : goMR) (d5 d6 : Option Value), I (k + 1) G' M' L' R' → goA E X G' (ce + 27) (sl + 600) Q 2043 [some (.ref 1000800), some (.ref 0), some (.ref 102), some (.ref 120), some (.int (Int32.ofNat n)), d5, d6] [] M' L' R') : goA E X G ce sl Q 1699 [some (.ref 1000800), some (.ref 0), some (.ref 102), some (.ref 120), some (.int (Int32.ofNat n)), d5, d6] [] M L R := by
  have hW := hA.1 _ _ _ _ _ hI
  obtain ⟨N, r, M1, M2, e1, e2, hI2⟩ := hA.2.2.2.2.2.2.2.2.2.2.2.2.2.2.2.2.2.2.2.2.2.2.2.2.2.2.2.2.2.2.2.2.2.2.2.2.2.2.2.2.2.2.2.2.1 k G M L R (xs (n + 1)) (xs (n + 2)) (xs (n + 3)) hI hkk
  refine go_aload1 hc dL_law_1699 ?_
  refine go_aload0 hc dL_law_1700 ?_
  refine go_iload4 hc dL_law_1701 ?_
  refine go_iconst (v := Int32.ofNat 1) hc dL_law_1703 rfl ?_
  refine go_iadd hc dL_law_1704 ?_
  refine go_sld hc hX hbb (goIx (by omega)) (by omega) dL_law_1705 ?_
  refine go_aload0 hc dL_law_1706 ?_
  refine go_iload4 hc dL_law_1707 ?_
  refine go_iconst (v := Int32.ofNat 2) hc dL_law_1709 rfl ?_
  refine go_iadd hc dL_law_1710 ?_
  refine go_sld hc hX hbb (goIx (by omega)) (by omega) dL_law_1711 ?_
  refine go_aload0 hc dL_law_1712 ?_
  refine go_iload4 hc dL_law_1713 ?_
  refine go_iconst (v := Int32.ofNat 3) hc dL_law_1715 rfl ?_
  refine go_iadd hc dL_law_1716 ?_
  refine go_sld hc hX hbb (goIx (by omega)) (by omega) dL_law_1717 ?_
  have kj1718 : goA E X G ce sl Q 1726 [some (.ref 1000800), some (.ref 0), some (.ref 102), some (.ref 120), some (.int (Int32.ofNat n)), d5, d6] [.int (goNb (xs (n + 3))), .int (xs (n + 2)), .int (xs (n + 1)), .ref 0] M L R := by
    refine go_callVi hc dL_law_1726 (mX12_dog hk hW e1) ml_RL_195 yk_X12_dog ⟨wim_X12_dog, wse_X12_dog⟩ hR (goFit_i (Nat.le_of_ble_eq_true rfl) (Nat.le_of_ble_eq_true rfl) (by omega) (by omega)) (sh_0 hW) rfl rfl rfl (Nat.le_of_ble_eq_true rfl) rfl ?_
    refine go_aload2 hc dL_law_1729 ?_
    refine go_aload0 hc dL_law_1730 ?_
    refine go_iload4 hc dL_law_1731 ?_
    refine go_iconst (v := Int32.ofNat 1) hc dL_law_1733 rfl ?_
    refine go_iadd hc dL_law_1734 ?_
    refine go_sld hc hX hbb (goIx (by omega)) (by omega) dL_law_1735 ?_
    refine go_aload0 hc dL_law_1736 ?_
    refine go_iload4 hc dL_law_1737 ?_
    refine go_iconst (v := Int32.ofNat 2) hc dL_law_1739 rfl ?_
    refine go_iadd hc dL_law_1740 ?_
    refine go_sld hc hX hbb (goIx (by omega)) (by omega) dL_law_1741 ?_
    refine go_aload0 hc dL_law_1742 ?_
    refine go_iload4 hc dL_law_1743 ?_
    refine go_iconst (v := Int32.ofNat 3) hc dL_law_1745 rfl ?_
    refine go_iadd hc dL_law_1746 ?_
    refine go_sld hc hX hbb (goIx (by omega)) (by omega) dL_law_1747 ?_
    have kj1748 : goA E X G ce sl Q 1756 [some (.ref 1000800), some (.ref 0), some (.ref 102), some (.ref 120), some (.int (Int32.ofNat n)), d5, d6] [.int (goNb (xs (n + 3))), .int (xs (n + 2)), .int (xs (n + 1)), .ref 102, .int r] M1 L R := by
      refine go_callVi hc dL_law_1756 (mX14_dog hk hW e2) ml_RL_198 yk_X14_dog ⟨wim_X14_dog, wse_X14_dog⟩ hR (goFit_i (Nat.le_of_ble_eq_true rfl) (Nat.le_of_ble_eq_true rfl) (by omega) (by omega)) (sh_102 hW) rfl rfl rfl (Nat.le_of_ble_eq_true rfl) rfl ?_
      refine go_icmp_eq hc 2043 dL_law_1759 rfl (fun _ => ?_) (fun c => absurd rfl c)
      refine go_widen (by omega) (by omega) (kx _ _ _ _ _ _ hI2)
    refine go_if_eq hc 1755 dL_law_1748 rfl (fun c => ?_) (fun c => ?_)
    · rw [show goNb (xs (n + 3)) = 0 from if_pos c] at kj1748
      exact go_iconst (v := 0) hc dL_law_1755 rfl kj1748
    · rw [show goNb (xs (n + 3)) = 1 from if_neg c] at kj1748
      refine go_iconst (v := 1) hc dL_law_1751 rfl ?_
      exact go_goto hc 1756 dL_law_1752 rfl kj1748
  refine go_if_eq hc 1725 dL_law_1718 rfl (fun c => ?_) (fun c => ?_)
  · rw [show goNb (xs (n + 3)) = 0 from if_pos c] at kj1718
    exact go_iconst (v := 0) hc dL_law_1725 rfl kj1718
  · rw [show goNb (xs (n + 3)) = 1 from if_neg c] at kj1718
    refine go_iconst (v := 1) hc dL_law_1721 rfl ?_
    exact go_goto hc 1726 dL_law_1722 rfl kj1718
set_option maxRecDepth 100000 in
set_option maxHeartbeats 4000000 in
theorem law_hedge {E : goEv} {X : goX} {G : goG} {ce sl n Ln : Nat} {Q : State → Prop} {M : goMI} {L : goML} {R : goMR} {xs : Nat → Int32} {d5 d6 : Option Value} {I : goInv} {k : Nat} (hA : goAll I) (hI : I k G M L R) (hkk : k < 4000) (hc : goCx E X code RL 7) (hk : goKn E) (hR : X.2.2.2.1 = goRoom 16 614 601024 7293034) (hX : va_X (goAd E 1000800) Ln xs E.1 E.1.heap) (hbb : goAd E 1000800 < E.2.1) (hin : n + 6 ≤ Ln) (hLn : Ln ≤ 3072) (hce : ce + 27 ≤ 601024 ∧ sl + 600 ≤ 7293034) (kx : ∀ (G' : goG) (M' : goMI) (L' : goML) (R' : goMR) (d5 d6 : Option Value), I (k + 1) G' M' L' R' → goA E X G' (ce + 27) (sl + 600) Q 2043 [some (.ref 1000800), some (.ref 0), some (.ref 102), some (.ref 120), some (.int (Int32.ofNat n)), d5, d6] [] M' L' R') : goA E X G ce sl Q 1764 [some (.ref 1000800), some (.ref 0), some (.ref 102), some (.ref 120), some (.int (Int32.ofNat n)), d5, d6] [] M L R := by
  have hW := hA.1 _ _ _ _ _ hI
  obtain ⟨N, r, M1, M2, e1, e2, hI2⟩ := hA.2.2.2.2.2.2.2.2.2.2.2.2.2.2.2.2.2.2.2.2.2.2.2.2.2.2.2.2.2.2.2.2.2.2.2.2.2.2.2.2.2.2.2.2.2.1 k G M L R (xs (n + 1)) (xs (n + 2)) hI hkk
  refine go_aload1 hc dL_law_1764 ?_
  refine go_aload0 hc dL_law_1765 ?_
  refine go_iload4 hc dL_law_1766 ?_
  refine go_iconst (v := Int32.ofNat 1) hc dL_law_1768 rfl ?_
  refine go_iadd hc dL_law_1769 ?_
  refine go_sld hc hX hbb (goIx (by omega)) (by omega) dL_law_1770 ?_
  refine go_aload0 hc dL_law_1771 ?_
  refine go_iload4 hc dL_law_1772 ?_
  refine go_iconst (v := Int32.ofNat 2) hc dL_law_1774 rfl ?_
  refine go_iadd hc dL_law_1775 ?_
  refine go_sld hc hX hbb (goIx (by omega)) (by omega) dL_law_1776 ?_
  have kj1777 : goA E X G ce sl Q 1785 [some (.ref 1000800), some (.ref 0), some (.ref 102), some (.ref 120), some (.int (Int32.ofNat n)), d5, d6] [.int (goNb (xs (n + 2))), .int (xs (n + 1)), .ref 0] M L R := by
    refine go_callVi hc dL_law_1785 (mX12_hedge hk hW e1) ml_RL_199 yk_X12_hedge ⟨wim_X12_hedge, wse_X12_hedge⟩ hR (goFit_i (Nat.le_of_ble_eq_true rfl) (Nat.le_of_ble_eq_true rfl) (by omega) (by omega)) (sh_0 hW) rfl rfl rfl (Nat.le_of_ble_eq_true rfl) rfl ?_
    refine go_aload2 hc dL_law_1788 ?_
    refine go_aload0 hc dL_law_1789 ?_
    refine go_iload4 hc dL_law_1790 ?_
    refine go_iconst (v := Int32.ofNat 1) hc dL_law_1792 rfl ?_
    refine go_iadd hc dL_law_1793 ?_
    refine go_sld hc hX hbb (goIx (by omega)) (by omega) dL_law_1794 ?_
    refine go_aload0 hc dL_law_1795 ?_
    refine go_iload4 hc dL_law_1796 ?_
    refine go_iconst (v := Int32.ofNat 2) hc dL_law_1798 rfl ?_
    refine go_iadd hc dL_law_1799 ?_
    refine go_sld hc hX hbb (goIx (by omega)) (by omega) dL_law_1800 ?_
    have kj1801 : goA E X G ce sl Q 1809 [some (.ref 1000800), some (.ref 0), some (.ref 102), some (.ref 120), some (.int (Int32.ofNat n)), d5, d6] [.int (goNb (xs (n + 2))), .int (xs (n + 1)), .ref 102, .int r] M1 L R := by
      refine go_callVi hc dL_law_1809 (mX14_hedge hk hW e2) ml_RL_203 yk_X14_hedge ⟨wim_X14_hedge, wse_X14_hedge⟩ hR (goFit_i (Nat.le_of_ble_eq_true rfl) (Nat.le_of_ble_eq_true rfl) (by omega) (by omega)) (sh_102 hW) rfl rfl rfl (Nat.le_of_ble_eq_true rfl) rfl ?_
      refine go_icmp_eq hc 2043 dL_law_1812 rfl (fun _ => ?_) (fun c => absurd rfl c)
      refine go_widen (by omega) (by omega) (kx _ _ _ _ _ _ hI2)
    refine go_if_eq hc 1808 dL_law_1801 rfl (fun c => ?_) (fun c => ?_)
    · rw [show goNb (xs (n + 2)) = 0 from if_pos c] at kj1801
      exact go_iconst (v := 0) hc dL_law_1808 rfl kj1801
    · rw [show goNb (xs (n + 2)) = 1 from if_neg c] at kj1801
      refine go_iconst (v := 1) hc dL_law_1804 rfl ?_
      exact go_goto hc 1809 dL_law_1805 rfl kj1801
  refine go_if_eq hc 1784 dL_law_1777 rfl (fun c => ?_) (fun c => ?_)
  · rw [show goNb (xs (n + 2)) = 0 from if_pos c] at kj1777
    exact go_iconst (v := 0) hc dL_law_1784 rfl kj1777
  · rw [show goNb (xs (n + 2)) = 1 from if_neg c] at kj1777
    refine go_iconst (v := 1) hc dL_law_1780 rfl ?_
    exact go_goto hc 1785 dL_law_1781 rfl kj1777
set_option maxRecDepth 100000 in
set_option maxHeartbeats 4000000 in
theorem law_hear {E : goEv} {X : goX} {G : goG} {ce sl n Ln : Nat} {Q : State → Prop} {M : goMI} {L : goML} {R : goMR} {xs : Nat → Int32} {d5 d6 : Option Value} {I : goInv} {k : Nat} (hA : goAll I) (hI : I k G M L R) (hkk : k < 4000) (hc : goCx E X code RL 7) (hk : goKn E) (hR : X.2.2.2.1 = goRoom 16 614 601024 7293034) (hX : va_X (goAd E 1000800) Ln xs E.1 E.1.heap) (hbb : goAd E 1000800 < E.2.1) (hin : n + 6 ≤ Ln) (hLn : Ln ≤ 3072) (hce : ce + 27 ≤ 601024 ∧ sl + 600 ≤ 7293034) (kx : ∀ (G' : goG) (M' : goMI) (L' : goML) (R' : goMR) (d5 d6 : Option Value), I (k + 1) G' M' L' R' → goA E X G' (ce + 27) (sl + 600) Q 2043 [some (.ref 1000800), some (.ref 0), some (.ref 102), some (.ref 120), some (.int (Int32.ofNat n)), d5, d6] [] M' L' R') : goA E X G ce sl Q 1817 [some (.ref 1000800), some (.ref 0), some (.ref 102), some (.ref 120), some (.int (Int32.ofNat n)), d5, d6] [] M L R := by
  have hW := hA.1 _ _ _ _ _ hI
  obtain ⟨N, r, M1, M2, e1, e2, hI2⟩ := hA.2.2.2.2.2.2.2.2.2.2.2.2.2.2.2.2.2.2.2.2.2.2.2.2.2.2.2.2.2.2.2.2.2.2.2.2.2.2.2.2.2.2.2.2.2.2.1 k G M L R (xs (n + 1)) (xs (n + 2)) hI hkk
  refine go_aload1 hc dL_law_1817 ?_
  refine go_aload0 hc dL_law_1818 ?_
  refine go_iload4 hc dL_law_1819 ?_
  refine go_iconst (v := Int32.ofNat 1) hc dL_law_1821 rfl ?_
  refine go_iadd hc dL_law_1822 ?_
  refine go_sld hc hX hbb (goIx (by omega)) (by omega) dL_law_1823 ?_
  refine go_aload0 hc dL_law_1824 ?_
  refine go_iload4 hc dL_law_1825 ?_
  refine go_iconst (v := Int32.ofNat 2) hc dL_law_1827 rfl ?_
  refine go_iadd hc dL_law_1828 ?_
  refine go_sld hc hX hbb (goIx (by omega)) (by omega) dL_law_1829 ?_
  have kj1830 : goA E X G ce sl Q 1838 [some (.ref 1000800), some (.ref 0), some (.ref 102), some (.ref 120), some (.int (Int32.ofNat n)), d5, d6] [.int (goNb (xs (n + 2))), .int (xs (n + 1)), .ref 0] M L R := by
    refine go_callVi hc dL_law_1838 (mX12_hear hk hW e1) ml_RL_204 yk_X12_hear ⟨wim_X12_hear, wse_X12_hear⟩ hR (goFit_i (Nat.le_of_ble_eq_true rfl) (Nat.le_of_ble_eq_true rfl) (by omega) (by omega)) (sh_0 hW) rfl rfl rfl (Nat.le_of_ble_eq_true rfl) rfl ?_
    refine go_aload2 hc dL_law_1841 ?_
    refine go_aload0 hc dL_law_1842 ?_
    refine go_iload4 hc dL_law_1843 ?_
    refine go_iconst (v := Int32.ofNat 1) hc dL_law_1845 rfl ?_
    refine go_iadd hc dL_law_1846 ?_
    refine go_sld hc hX hbb (goIx (by omega)) (by omega) dL_law_1847 ?_
    refine go_aload0 hc dL_law_1848 ?_
    refine go_iload4 hc dL_law_1849 ?_
    refine go_iconst (v := Int32.ofNat 2) hc dL_law_1851 rfl ?_
    refine go_iadd hc dL_law_1852 ?_
    refine go_sld hc hX hbb (goIx (by omega)) (by omega) dL_law_1853 ?_
    have kj1854 : goA E X G ce sl Q 1862 [some (.ref 1000800), some (.ref 0), some (.ref 102), some (.ref 120), some (.int (Int32.ofNat n)), d5, d6] [.int (goNb (xs (n + 2))), .int (xs (n + 1)), .ref 102, .int r] M1 L R := by
      refine go_callVi hc dL_law_1862 (mX14_hear hk hW e2) ml_RL_207 yk_X14_hear ⟨wim_X14_hear, wse_X14_hear⟩ hR (goFit_i (Nat.le_of_ble_eq_true rfl) (Nat.le_of_ble_eq_true rfl) (by omega) (by omega)) (sh_102 hW) rfl rfl rfl (Nat.le_of_ble_eq_true rfl) rfl ?_
      refine go_icmp_eq hc 2043 dL_law_1865 rfl (fun _ => ?_) (fun c => absurd rfl c)
      refine go_widen (by omega) (by omega) (kx _ _ _ _ _ _ hI2)
    refine go_if_eq hc 1861 dL_law_1854 rfl (fun c => ?_) (fun c => ?_)
    · rw [show goNb (xs (n + 2)) = 0 from if_pos c] at kj1854
      exact go_iconst (v := 0) hc dL_law_1861 rfl kj1854
    · rw [show goNb (xs (n + 2)) = 1 from if_neg c] at kj1854
      refine go_iconst (v := 1) hc dL_law_1857 rfl ?_
      exact go_goto hc 1862 dL_law_1858 rfl kj1854
  refine go_if_eq hc 1837 dL_law_1830 rfl (fun c => ?_) (fun c => ?_)
  · rw [show goNb (xs (n + 2)) = 0 from if_pos c] at kj1830
    exact go_iconst (v := 0) hc dL_law_1837 rfl kj1830
  · rw [show goNb (xs (n + 2)) = 1 from if_neg c] at kj1830
    refine go_iconst (v := 1) hc dL_law_1833 rfl ?_
    exact go_goto hc 1838 dL_law_1834 rfl kj1830
set_option maxRecDepth 100000 in
set_option maxHeartbeats 4000000 in
theorem law_undo {E : goEv} {X : goX} {G : goG} {ce sl n Ln : Nat} {Q : State → Prop} {M : goMI} {L : goML} {R : goMR} {xs : Nat → Int32} {d5 d6 : Option Value} {I : goInv} {k : Nat} (hA : goAll I) (hI : I k G M L R) (hkk : k < 4000) (hc : goCx E X code RL 7) (hk : goKn E) (hR : X.2.2.2.1 = goRoom 16 614 601024 7293034) (hX : va_X (goAd E 1000800) Ln xs E.1 E.1.heap) (hbb : goAd E 1000800 < E.2.1) (hin : n + 6 ≤ Ln) (hLn : Ln ≤ 3072) (hce : ce + 27 ≤ 601024 ∧ sl + 600 ≤ 7293034) (kx : ∀ (G' : goG) (M' : goMI) (L' : goML) (R' : goMR) (d5 d6 : Option Value), I (k + 1) G' M' L' R' → goA E X G' (ce + 27) (sl + 600) Q 2043 [some (.ref 1000800), some (.ref 0), some (.ref 102), some (.ref 120), some (.int (Int32.ofNat n)), d5, d6] [] M' L' R') : goA E X G ce sl Q 1870 [some (.ref 1000800), some (.ref 0), some (.ref 102), some (.ref 120), some (.int (Int32.ofNat n)), d5, d6] [] M L R := by
  have hW := hA.1 _ _ _ _ _ hI
  obtain ⟨N, r, M1, M2, e1, e2, hI2⟩ := hA.2.2.2.2.2.2.2.2.2.2.2.2.2.2.2.2.2.2.2.2.2.2.2.2.2.2.2.2.2.2.2.2.2.2.2.2.2.2.2.2.2.2.2.2.2.2.2.1 k G M L R hI hkk
  refine go_aload1 hc dL_law_1870 ?_
  refine go_callVi hc dL_law_1871 (mX12_undo hk hW e1) ml_RL_208 yk_X12_undo ⟨wim_X12_undo, wse_X12_undo⟩ hR (goFit_i (Nat.le_of_ble_eq_true rfl) (Nat.le_of_ble_eq_true rfl) (by omega) (by omega)) (sh_0 hW) rfl rfl rfl (Nat.le_of_ble_eq_true rfl) rfl ?_
  refine go_aload2 hc dL_law_1874 ?_
  refine go_callVi hc dL_law_1875 (mX14_undo hk hW e2) ml_RL_212 yk_X14_undo ⟨wim_X14_undo, wse_X14_undo⟩ hR (goFit_i (Nat.le_of_ble_eq_true rfl) (Nat.le_of_ble_eq_true rfl) (by omega) (by omega)) (sh_102 hW) rfl rfl rfl (Nat.le_of_ble_eq_true rfl) rfl ?_
  refine go_icmp_eq hc 2043 dL_law_1878 rfl (fun _ => ?_) (fun c => absurd rfl c)
  refine go_widen (by omega) (by omega) (kx _ _ _ _ _ _ hI2)
set_option maxRecDepth 100000 in
set_option maxHeartbeats 4000000 in
theorem law_mark {E : goEv} {X : goX} {G : goG} {ce sl n Ln : Nat} {Q : State → Prop} {M : goMI} {L : goML} {R : goMR} {xs : Nat → Int32} {d5 d6 : Option Value} {I : goInv} {k : Nat} (hA : goAll I) (hI : I k G M L R) (hkk : k < 4000) (hc : goCx E X code RL 7) (hk : goKn E) (hR : X.2.2.2.1 = goRoom 16 614 601024 7293034) (hX : va_X (goAd E 1000800) Ln xs E.1 E.1.heap) (hbb : goAd E 1000800 < E.2.1) (hin : n + 6 ≤ Ln) (hLn : Ln ≤ 3072) (hce : ce + 27 ≤ 601024 ∧ sl + 600 ≤ 7293034) (kx : ∀ (G' : goG) (M' : goMI) (L' : goML) (R' : goMR) (d5 d6 : Option Value), I (k + 1) G' M' L' R' → goA E X G' (ce + 27) (sl + 600) Q 2043 [some (.ref 1000800), some (.ref 0), some (.ref 102), some (.ref 120), some (.int (Int32.ofNat n)), d5, d6] [] M' L' R') : goA E X G ce sl Q 1883 [some (.ref 1000800), some (.ref 0), some (.ref 102), some (.ref 120), some (.int (Int32.ofNat n)), d5, d6] [] M L R := by
  have hW := hA.1 _ _ _ _ _ hI
  obtain ⟨N, r, M1, M2, e1, e2, hI2⟩ := hA.2.2.2.2.2.2.2.2.2.2.2.2.2.2.2.2.2.2.2.2.2.2.2.2.2.2.2.2.2.2.2.2.2.2.2.2.2.2.2.2.2.2.2.2.2.2.2.2.1 k G M L R hI hkk
  refine go_aload1 hc dL_law_1883 ?_
  refine go_callVi hc dL_law_1884 (mX12_mark hk hW e1) ml_RL_213 yk_X12_mark ⟨wim_X12_mark, wse_X12_mark⟩ hR (goFit_i (Nat.le_of_ble_eq_true rfl) (Nat.le_of_ble_eq_true rfl) (by omega) (by omega)) (sh_0 hW) rfl rfl rfl (Nat.le_of_ble_eq_true rfl) rfl ?_
  refine go_aload2 hc dL_law_1887 ?_
  refine go_callVi hc dL_law_1888 (mX14_mark hk hW e2) ml_RL_216 yk_X14_mark ⟨wim_X14_mark, wse_X14_mark⟩ hR (goFit_i (Nat.le_of_ble_eq_true rfl) (Nat.le_of_ble_eq_true rfl) (by omega) (by omega)) (sh_102 hW) rfl rfl rfl (Nat.le_of_ble_eq_true rfl) rfl ?_
  refine go_icmp_eq hc 2043 dL_law_1891 rfl (fun _ => ?_) (fun c => absurd rfl c)
  refine go_widen (by omega) (by omega) (kx _ _ _ _ _ _ hI2)
set_option maxRecDepth 100000 in
set_option maxHeartbeats 4000000 in
theorem law_back {E : goEv} {X : goX} {G : goG} {ce sl n Ln : Nat} {Q : State → Prop} {M : goMI} {L : goML} {R : goMR} {xs : Nat → Int32} {d5 d6 : Option Value} {I : goInv} {k : Nat} (hA : goAll I) (hI : I k G M L R) (hkk : k < 4000) (hc : goCx E X code RL 7) (hk : goKn E) (hR : X.2.2.2.1 = goRoom 16 614 601024 7293034) (hX : va_X (goAd E 1000800) Ln xs E.1 E.1.heap) (hbb : goAd E 1000800 < E.2.1) (hin : n + 6 ≤ Ln) (hLn : Ln ≤ 3072) (hce : ce + 27 ≤ 601024 ∧ sl + 600 ≤ 7293034) (kx : ∀ (G' : goG) (M' : goMI) (L' : goML) (R' : goMR) (d5 d6 : Option Value), I (k + 1) G' M' L' R' → goA E X G' (ce + 27) (sl + 600) Q 2043 [some (.ref 1000800), some (.ref 0), some (.ref 102), some (.ref 120), some (.int (Int32.ofNat n)), d5, d6] [] M' L' R') : goA E X G ce sl Q 1896 [some (.ref 1000800), some (.ref 0), some (.ref 102), some (.ref 120), some (.int (Int32.ofNat n)), d5, d6] [] M L R := by
  have hW := hA.1 _ _ _ _ _ hI
  obtain ⟨N, r, M1, M2, e1, e2, hI2⟩ := hA.2.2.2.2.2.2.2.2.2.2.2.2.2.2.2.2.2.2.2.2.2.2.2.2.2.2.2.2.2.2.2.2.2.2.2.2.2.2.2.2.2.2.2.2.2.2.2.2.2.1 k G M L R (xs (n + 1)) hI hkk
  refine go_aload1 hc dL_law_1896 ?_
  refine go_aload0 hc dL_law_1897 ?_
  refine go_iload4 hc dL_law_1898 ?_
  refine go_iconst (v := Int32.ofNat 1) hc dL_law_1900 rfl ?_
  refine go_iadd hc dL_law_1901 ?_
  refine go_sld hc hX hbb (goIx (by omega)) (by omega) dL_law_1902 ?_
  refine go_callVi hc dL_law_1903 (mX12_back hk hW e1) ml_RL_217 yk_X12_back ⟨wim_X12_back, wse_X12_back⟩ hR (goFit_i (Nat.le_of_ble_eq_true rfl) (Nat.le_of_ble_eq_true rfl) (by omega) (by omega)) (sh_0 hW) rfl rfl rfl (Nat.le_of_ble_eq_true rfl) rfl ?_
  refine go_aload2 hc dL_law_1906 ?_
  refine go_aload0 hc dL_law_1907 ?_
  refine go_iload4 hc dL_law_1908 ?_
  refine go_iconst (v := Int32.ofNat 1) hc dL_law_1910 rfl ?_
  refine go_iadd hc dL_law_1911 ?_
  refine go_sld hc hX hbb (goIx (by omega)) (by omega) dL_law_1912 ?_
  refine go_callVi hc dL_law_1913 (mX14_back hk hW e2) ml_RL_221 yk_X14_back ⟨wim_X14_back, wse_X14_back⟩ hR (goFit_i (Nat.le_of_ble_eq_true rfl) (Nat.le_of_ble_eq_true rfl) (by omega) (by omega)) (sh_102 hW) rfl rfl rfl (Nat.le_of_ble_eq_true rfl) rfl ?_
  refine go_icmp_eq hc 2043 dL_law_1916 rfl (fun _ => ?_) (fun c => absurd rfl c)
  refine go_widen (by omega) (by omega) (kx _ _ _ _ _ _ hI2)
set_option maxRecDepth 100000 in
set_option maxHeartbeats 4000000 in
theorem law_size {E : goEv} {X : goX} {G : goG} {ce sl n Ln : Nat} {Q : State → Prop} {M : goMI} {L : goML} {R : goMR} {xs : Nat → Int32} {d5 d6 : Option Value} {I : goInv} {k : Nat} (hA : goAll I) (hI : I k G M L R) (hkk : k < 4000) (hc : goCx E X code RL 7) (hk : goKn E) (hR : X.2.2.2.1 = goRoom 16 614 601024 7293034) (hX : va_X (goAd E 1000800) Ln xs E.1 E.1.heap) (hbb : goAd E 1000800 < E.2.1) (hin : n + 6 ≤ Ln) (hLn : Ln ≤ 3072) (hce : ce + 27 ≤ 601024 ∧ sl + 600 ≤ 7293034) (kx : ∀ (G' : goG) (M' : goMI) (L' : goML) (R' : goMR) (d5 d6 : Option Value), I (k + 1) G' M' L' R' → goA E X G' (ce + 27) (sl + 600) Q 2043 [some (.ref 1000800), some (.ref 0), some (.ref 102), some (.ref 120), some (.int (Int32.ofNat n)), d5, d6] [] M' L' R') : goA E X G ce sl Q 2005 [some (.ref 1000800), some (.ref 0), some (.ref 102), some (.ref 120), some (.int (Int32.ofNat n)), d5, d6] [] M L R := by
  have hW := hA.1 _ _ _ _ _ hI
  obtain ⟨N, M2, e2, hI2⟩ := hA.2.2.2.2.2.2.2.2.2.2.2.2.2.2.2.2.2.2.2.2.2.2.2.2.2.2.2.2.2.2.2.2.2.2.2.2.2.2.2.2.2.2.2.2.2.2.2.2.2.2.2.1 k G M L R (xs (n + 1)) hI hkk
  refine go_aload1 hc dL_law_2005 ?_
  refine go_aload0 hc dL_law_2006 ?_
  refine go_iload4 hc dL_law_2007 ?_
  refine go_iconst (v := Int32.ofNat 1) hc dL_law_2009 rfl ?_
  refine go_iadd hc dL_law_2010 ?_
  refine go_sld hc hX hbb (goIx (by omega)) (by omega) dL_law_2011 ?_
  refine go_callVi hc dL_law_2012 (mX12_size hk hW rfl) ml_RL_231 yk_X12_size ⟨wim_X12_size, wse_X12_size⟩ hR (goFit_i (Nat.le_of_ble_eq_true rfl) (Nat.le_of_ble_eq_true rfl) (by omega) (by omega)) (sh_0 hW) rfl rfl rfl (Nat.le_of_ble_eq_true rfl) rfl ?_
  refine go_aload2 hc dL_law_2015 ?_
  refine go_aload0 hc dL_law_2016 ?_
  refine go_iload4 hc dL_law_2017 ?_
  refine go_iconst (v := Int32.ofNat 1) hc dL_law_2019 rfl ?_
  refine go_iadd hc dL_law_2020 ?_
  refine go_sld hc hX hbb (goIx (by omega)) (by omega) dL_law_2021 ?_
  refine go_callVi hc dL_law_2022 (mX14_size hk hW e2) ml_RL_234 yk_X14_size ⟨wim_X14_size, wse_X14_size⟩ hR (goFit_i (Nat.le_of_ble_eq_true rfl) (Nat.le_of_ble_eq_true rfl) (by omega) (by omega)) (sh_102 hW) rfl rfl rfl (Nat.le_of_ble_eq_true rfl) rfl ?_
  refine go_icmp_eq hc 2043 dL_law_2025 rfl (fun _ => ?_) (fun c => absurd rfl c)
  refine go_widen (by omega) (by omega) (kx _ _ _ _ _ _ hI2)
set_option maxRecDepth 100000 in
set_option maxHeartbeats 4000000 in
theorem law_trouble {E : goEv} {X : goX} {G : goG} {ce sl n Ln : Nat} {Q : State → Prop} {M : goMI} {L : goML} {R : goMR} {xs : Nat → Int32} {d5 d6 : Option Value} {I : goInv} {k : Nat} (hA : goAll I) (hI : I k G M L R) (hkk : k < 4000) (hc : goCx E X code RL 7) (hk : goKn E) (hR : X.2.2.2.1 = goRoom 16 614 601024 7293034) (hX : va_X (goAd E 1000800) Ln xs E.1 E.1.heap) (hbb : goAd E 1000800 < E.2.1) (hin : n + 6 ≤ Ln) (hLn : Ln ≤ 3072) (hce : ce + 27 ≤ 601024 ∧ sl + 600 ≤ 7293034) (kx : ∀ (G' : goG) (M' : goMI) (L' : goML) (R' : goMR) (d5 d6 : Option Value), I (k + 1) G' M' L' R' → goA E X G' (ce + 27) (sl + 600) Q 2043 [some (.ref 1000800), some (.ref 0), some (.ref 102), some (.ref 120), some (.int (Int32.ofNat n)), d5, d6] [] M' L' R') : goA E X G ce sl Q 2030 [some (.ref 1000800), some (.ref 0), some (.ref 102), some (.ref 120), some (.int (Int32.ofNat n)), d5, d6] [] M L R := by
  have hW := hA.1 _ _ _ _ _ hI
  obtain ⟨N, M2, e2, hI2⟩ := hA.2.2.2.2.2.2.2.2.2.2.2.2.2.2.2.2.2.2.2.2.2.2.2.2.2.2.2.2.2.2.2.2.2.2.2.2.2.2.2.2.2.2.2.2.2.2.2.2.2.2.2.2 k G M L R hI hkk
  refine go_aload1 hc dL_law_2030 ?_
  refine go_callVi hc dL_law_2031 (mX12_trouble hk hW rfl) ml_RL_235 yk_X12_trouble ⟨wim_X12_trouble, wse_X12_trouble⟩ hR (goFit_i (Nat.le_of_ble_eq_true rfl) (Nat.le_of_ble_eq_true rfl) (by omega) (by omega)) (sh_0 hW) rfl rfl rfl (Nat.le_of_ble_eq_true rfl) rfl ?_
  refine go_aload2 hc dL_law_2034 ?_
  refine go_callVi hc dL_law_2035 (mX14_trouble hk hW e2) ml_RL_238 yk_X14_trouble ⟨wim_X14_trouble, wse_X14_trouble⟩ hR (goFit_i (Nat.le_of_ble_eq_true rfl) (Nat.le_of_ble_eq_true rfl) (by omega) (by omega)) (sh_102 hW) rfl rfl rfl (Nat.le_of_ble_eq_true rfl) rfl ?_
  refine go_icmp_eq hc 2043 dL_law_2038 rfl (fun _ => ?_) (fun c => absurd rfl c)
  refine go_widen (by omega) (by omega) (kx _ _ _ _ _ _ hI2)
