theorem dJx29ce0_ordinal_8abf5_0 : decode cJx29ce0_ordinal_8abf5 0 = .ok (.aload_n 0, 1) := by decide +kernel
theorem dJx29ce0_ordinal_8abf5_1 : decode cJx29ce0_ordinal_8abf5 1 = .ok (.getfield 7, 3) := by decide +kernel
theorem dJx29ce0_ordinal_8abf5_4 : decode cJx29ce0_ordinal_8abf5 4 = .ok (.ireturn, 1) := by decide +kernel
theorem dJ0_length_8abf5_0 : decode cJ0_length_8abf5 0 = .ok (.aload_n 0, 1) := by decide +kernel
theorem dJ0_length_8abf5_1 : decode cJ0_length_8abf5 1 = .ok (.getfield 9, 3) := by decide +kernel
theorem dJ0_length_8abf5_4 : decode cJ0_length_8abf5 4 = .ok (.arraylength, 1) := by decide +kernel
theorem dJ0_length_8abf5_5 : decode cJ0_length_8abf5 5 = .ok (.aload_n 0, 1) := by decide +kernel
theorem dJ0_length_8abf5_6 : decode cJ0_length_8abf5 6 = .ok (.invokevirtual 335, 3) := by decide +kernel
theorem dJ0_length_8abf5_9 : decode cJ0_length_8abf5 9 = .ok (.ishr, 1) := by decide +kernel
theorem dJ0_length_8abf5_10 : decode cJ0_length_8abf5 10 = .ok (.ireturn, 1) := by decide +kernel
theorem dJ0_charAt_5068e_0 : decode cJ0_charAt_5068e 0 = .ok (.aload_n 0, 1) := by decide +kernel
theorem dJ0_charAt_5068e_1 : decode cJ0_charAt_5068e 1 = .ok (.invokevirtual 492, 3) := by decide +kernel
theorem dJ0_charAt_5068e_4 : decode cJ0_charAt_5068e 4 = .ok (.ifCond .eq 12, 3) := by decide +kernel
theorem dJ0_charAt_5068e_7 : decode cJ0_charAt_5068e 7 = .ok (.aload_n 0, 1) := by decide +kernel
theorem dJ0_charAt_5068e_8 : decode cJ0_charAt_5068e 8 = .ok (.getfield 9, 3) := by decide +kernel
theorem dJ0_charAt_5068e_11 : decode cJ0_charAt_5068e 11 = .ok (.iload_n 1, 1) := by decide +kernel
theorem dJ0_charAt_5068e_12 : decode cJ0_charAt_5068e 12 = .ok (.invokestatic 495, 3) := by decide +kernel
theorem dJ0_charAt_5068e_15 : decode cJ0_charAt_5068e 15 = .ok (.ireturn, 1) := by decide +kernel
theorem dJ0_charAt_5068e_16 : decode cJ0_charAt_5068e 16 = .ok (.aload_n 0, 1) := by decide +kernel
theorem dJ0_charAt_5068e_17 : decode cJ0_charAt_5068e 17 = .ok (.getfield 9, 3) := by decide +kernel
theorem dJ0_charAt_5068e_20 : decode cJ0_charAt_5068e 20 = .ok (.iload_n 1, 1) := by decide +kernel
theorem dJ0_charAt_5068e_21 : decode cJ0_charAt_5068e 21 = .ok (.invokestatic 498, 3) := by decide +kernel
theorem dJ0_charAt_5068e_24 : decode cJ0_charAt_5068e 24 = .ok (.ireturn, 1) := by decide +kernel
theorem dJ0_coder_7d493_0 : decode cJ0_coder_7d493 0 = .ok (.getstatic 38, 3) := by decide +kernel
theorem dJ0_coder_7d493_3 : decode cJ0_coder_7d493 3 = .ok (.ifCond .eq 10, 3) := by decide +kernel
theorem dJ0_coder_7d493_6 : decode cJ0_coder_7d493 6 = .ok (.aload_n 0, 1) := by decide +kernel
theorem dJ0_coder_7d493_7 : decode cJ0_coder_7d493 7 = .ok (.getfield 15, 3) := by decide +kernel
theorem dJ0_coder_7d493_10 : decode cJ0_coder_7d493 10 = .ok (.goto 4, 3) := by decide +kernel
theorem dJ0_coder_7d493_13 : decode cJ0_coder_7d493 13 = .ok (.iconst 1, 1) := by decide +kernel
theorem dJ0_coder_7d493_14 : decode cJ0_coder_7d493 14 = .ok (.ireturn, 1) := by decide +kernel
theorem dJ0_isLatin1_aae02_0 : decode cJ0_isLatin1_aae02 0 = .ok (.getstatic 38, 3) := by decide +kernel
theorem dJ0_isLatin1_aae02_3 : decode cJ0_isLatin1_aae02 3 = .ok (.ifCond .eq 14, 3) := by decide +kernel
theorem dJ0_isLatin1_aae02_6 : decode cJ0_isLatin1_aae02 6 = .ok (.aload_n 0, 1) := by decide +kernel
theorem dJ0_isLatin1_aae02_7 : decode cJ0_isLatin1_aae02 7 = .ok (.getfield 15, 3) := by decide +kernel
theorem dJ0_isLatin1_aae02_10 : decode cJ0_isLatin1_aae02 10 = .ok (.ifCond .ne 7, 3) := by decide +kernel
theorem dJ0_isLatin1_aae02_13 : decode cJ0_isLatin1_aae02 13 = .ok (.iconst 1, 1) := by decide +kernel
theorem dJ0_isLatin1_aae02_14 : decode cJ0_isLatin1_aae02 14 = .ok (.goto 4, 3) := by decide +kernel
theorem dJ0_isLatin1_aae02_17 : decode cJ0_isLatin1_aae02 17 = .ok (.iconst 0, 1) := by decide +kernel
theorem dJ0_isLatin1_aae02_18 : decode cJ0_isLatin1_aae02 18 = .ok (.ireturn, 1) := by decide +kernel
theorem dJ0_checkIndex_df160_0 : decode cJ0_checkIndex_df160 0 = .ok (.iload_n 0, 1) := by decide +kernel
theorem dJ0_checkIndex_df160_1 : decode cJ0_checkIndex_df160 1 = .ok (.iload_n 1, 1) := by decide +kernel
theorem dJ0_checkIndex_df160_2 : decode cJ0_checkIndex_df160 2 = .ok (.getstatic 1053, 3) := by decide +kernel
theorem dJ0_checkIndex_df160_5 : decode cJ0_checkIndex_df160 5 = .ok (.invokestatic 1059, 3) := by decide +kernel
theorem dJ0_checkIndex_df160_8 : decode cJ0_checkIndex_df160 8 = .ok (.pop, 1) := by decide +kernel
theorem dJ0_checkIndex_df160_9 : decode cJ0_checkIndex_df160 9 = .ok (.return_, 1) := by decide +kernel
theorem dJ1_charAt_3b067_0 : decode cJ1_charAt_3b067 0 = .ok (.iload_n 1, 1) := by decide +kernel
theorem dJ1_charAt_3b067_1 : decode cJ1_charAt_3b067 1 = .ok (.aload_n 0, 1) := by decide +kernel
theorem dJ1_charAt_3b067_2 : decode cJ1_charAt_3b067 2 = .ok (.arraylength, 1) := by decide +kernel
theorem dJ1_charAt_3b067_3 : decode cJ1_charAt_3b067 3 = .ok (.invokestatic 9, 3) := by decide +kernel
theorem dJ1_charAt_3b067_6 : decode cJ1_charAt_3b067 6 = .ok (.aload_n 0, 1) := by decide +kernel
theorem dJ1_charAt_3b067_7 : decode cJ1_charAt_3b067 7 = .ok (.iload_n 1, 1) := by decide +kernel
theorem dJ1_charAt_3b067_8 : decode cJ1_charAt_3b067 8 = .ok (.baload, 1) := by decide +kernel
theorem dJ1_charAt_3b067_9 : decode cJ1_charAt_3b067 9 = .ok (.sipush 255, 3) := by decide +kernel
theorem dJ1_charAt_3b067_12 : decode cJ1_charAt_3b067 12 = .ok (.iand, 1) := by decide +kernel
theorem dJ1_charAt_3b067_13 : decode cJ1_charAt_3b067 13 = .ok (.i2c, 1) := by decide +kernel
theorem dJ1_charAt_3b067_14 : decode cJ1_charAt_3b067 14 = .ok (.ireturn, 1) := by decide +kernel
theorem dJ3_checkIndex_8e157_0 : decode cJ3_checkIndex_8e157 0 = .ok (.iload_n 0, 1) := by decide +kernel
theorem dJ3_checkIndex_8e157_1 : decode cJ3_checkIndex_8e157 1 = .ok (.ifCond .lt 8, 3) := by decide +kernel
theorem dJ3_checkIndex_8e157_4 : decode cJ3_checkIndex_8e157 4 = .ok (.iload_n 0, 1) := by decide +kernel
theorem dJ3_checkIndex_8e157_5 : decode cJ3_checkIndex_8e157 5 = .ok (.iload_n 1, 1) := by decide +kernel
theorem dJ3_checkIndex_8e157_6 : decode cJ3_checkIndex_8e157 6 = .ok (.if_icmp .lt 10, 3) := by decide +kernel
theorem dJ3_checkIndex_8e157_9 : decode cJ3_checkIndex_8e157 9 = .ok (.aload_n 2, 1) := by decide +kernel
theorem dJ3_checkIndex_8e157_10 : decode cJ3_checkIndex_8e157 10 = .ok (.iload_n 0, 1) := by decide +kernel
theorem dJ3_checkIndex_8e157_11 : decode cJ3_checkIndex_8e157 11 = .ok (.iload_n 1, 1) := by decide +kernel
theorem dJ3_checkIndex_8e157_12 : decode cJ3_checkIndex_8e157 12 = .ok (.invokestatic 95, 3) := by decide +kernel
theorem dJ3_checkIndex_8e157_15 : decode cJ3_checkIndex_8e157 15 = .ok (.athrow, 1) := by decide +kernel
theorem dJ3_checkIndex_8e157_16 : decode cJ3_checkIndex_8e157 16 = .ok (.iload_n 0, 1) := by decide +kernel
theorem dJ3_checkIndex_8e157_17 : decode cJ3_checkIndex_8e157 17 = .ok (.ireturn, 1) := by decide +kernel
section goForeign
variable {E : goEv} {X : goX} {G : goG} {ce sl : Nat} {Q : State → Prop} {pc : Nat} {lv : List (Option Value)} {st : List Value} {M : goMI} {L : goML} {R : goMR} {cc : ByteArray} {own : String} {nL : Nat}
theorem goLowK (h : goCx E X cc own nL) : ∀ a : Nat, a < E.1.heap.size → ¬ goSet E a → X.2.2.2.2.1.heap[a]? = E.1.heap[a]? := fun a _ h2 => h.2.2.2.2.2.2.2.2.2 a (Nat.not_le.mp h2)
theorem goFoZ (h : goCx E X cc own nL) {C n d : String} {v : Value} (hZ : va_Z C n d v (goSet E) E.1 E.1.heap) : va_Z C n d v (goSet E) X.2.2.2.2.1 X.2.2.2.2.1.heap := (hZ.moved h.2.2.2.2.2.2.1.alike).kept (goLowK h)
theorem goFoT (h : goCx E X cc own nL) {ty : FieldType} {t N : Nat} {f : Nat → Value} (hZ : va_T ty t N f (goSet E) E.1 E.1.heap) : va_T ty t N f (goSet E) X.2.2.2.2.1 X.2.2.2.2.1.heap := (hZ.moved h.2.2.2.2.2.2.1.alike).kept (goLowK h)
theorem goFoF (h : goCx E X cc own nL) {o n d : String} {v : Value} {t : Nat} (hZ : va_OF o n d v t (goSet E) E.1 E.1.heap) : va_OF o n d v t (goSet E) X.2.2.2.2.1 X.2.2.2.2.1.heap := (hZ.moved h.2.2.2.2.2.2.1.alike).kept (goLowK h)
theorem goCx_fo (h : goCx E X cc own nL) : goFo E := h.2.2.2.2.2.2.2.1.2.2.2
theorem go_gets (h : goCx E X cc own nL) {C n d : String} {v v' : Value} {idx : Nat} (hZ : va_Z C n d v (goSet E) E.1 E.1.heap) (hv : goCv E v' = v) (hl : Cond.fieldLink own idx C n d ∈ goTb ∨ ∃ host, Cond.fieldLinkNest own idx C n d host ∈ lw_tbl) (hd : decode cc pc = .ok (.getstatic idx, 3)) (k : goA E X G ce sl Q (pc + 3) lv (v' :: st) M L R) : goA E X G ce sl Q pc lv st M L R := by
  subst hv
  intro H locs ls a1 a2 a3 a4
  rcases hl with hl | ⟨host, hl⟩
  · exact va_gets h.1 h.2.1 (goFoZ h hZ) a2 h.2.2.2.1 (h.2.2.2.2.1 _ hl) (fun _ q => q) hd (k H locs ls a1 a2 a3 a4)
  · exact va_getsN h.1 h.2.1 (goFoZ h hZ) a2 h.2.2.2.1 (goCx_N h hl) (fun _ q => q) hd (k H locs ls a1 a2 a3 a4)
theorem go_fget (h : goCx E X cc own nL) {o n d : String} {v v' : Value} {idx id : Nat} (hF : va_OF o n d v (goAd E id) (goSet E) E.1 E.1.heap) (hv : goCv E v' = v) (hl : Cond.fieldLink own idx o n d ∈ goTb) (hd : decode cc pc = .ok (.getfield idx, 3)) (k : goA E X G ce sl Q (pc + 3) lv (v' :: st) M L R) : goA E X G ce sl Q pc lv (.ref id :: st) M L R := by
  subst hv
  intro H locs ls a1 a2 a3 a4
  exact vk_getf h.1 h.2.1 (goFoF h hF) a2 h.2.2.2.1 (h.2.2.2.2.1 _ hl) (fun _ q => q) hd (k H locs ls a1 a2 a3 a4)
theorem go_flen (h : goCx E X cc own nL) {ty : FieldType} {N id : Nat} {f : Nat → Value} (hT : va_T ty (goAd E id) N f (goSet E) E.1 E.1.heap) (hd : decode cc pc = .ok (.arraylength, 1)) (k : goA E X G ce sl Q (pc + 1) lv (.int (Int32.ofNat N) :: st) M L R) : goA E X G ce sl Q pc lv (.ref id :: st) M L R :=
  fun H locs ls a1 a2 a3 a4 => va_tlen h.1 h.2.1 (goFoT h hT) a2 rfl hd (k H locs ls a1 a2 a3 a4)
theorem go_fbld (h : goCx E X cc own nL) {N id : Nat} {f : Nat → Value} {i x : Int32} (hT : va_T .byte (goAd E id) N f (goSet E) E.1 E.1.heap) (hi : goIn i N) (hx : f i.toNatClampNeg = .int x) (hd : decode cc pc = .ok (.baload, 1)) (k : goA E X G ce sl Q (pc + 1) lv (.int x :: st) M L R) : goA E X G ce sl Q pc lv (.int i :: .ref id :: st) M L R :=
  fun H locs ls a1 a2 a3 a4 => va_tb h.1 h.2.1 (goFoT h hT) a2 (goIn_in hi) hx hd (k H locs ls a1 a2 a3 a4)
theorem go_fild (h : goCx E X cc own nL) {N id : Nat} {f : Nat → Value} {i x : Int32} (hT : va_T .int (goAd E id) N f (goSet E) E.1 E.1.heap) (hi : goIn i N) (hx : f i.toNatClampNeg = .int x) (hd : decode cc pc = .ok (.iaload, 1)) (k : goA E X G ce sl Q (pc + 1) lv (.int x :: st) M L R) : goA E X G ce sl Q pc lv (.int i :: .ref id :: st) M L R :=
  fun H locs ls a1 a2 a3 a4 => va_ti h.1 h.2.1 (goFoT h hT) a2 (goIn_in hi) hx hd (k H locs ls a1 a2 a3 a4)
theorem go_fald (h : goCx E X cc own nL) {C : String} {N id x : Nat} {f : Nat → Value} {i : Int32} (hT : va_T (.object C) (goAd E id) N f (goSet E) E.1 E.1.heap) (hi : goIn i N) (hx : f i.toNatClampNeg = .ref (goAd E x)) (hd : decode cc pc = .ok (.aaload, 1)) (k : goA E X G ce sl Q (pc + 1) lv (.ref x :: st) M L R) : goA E X G ce sl Q pc lv (.int i :: .ref id :: st) M L R := by
  intro H locs ls a1 a2 a3 a4
  obtain ⟨cell, h1, h2, h3, h4, h5, h6, h7⟩ := goFoT h hT
  have ht : goAd E id < E.2.1 := Nat.not_le.mp h7
  have hc : H[goAd E id]? = some cell := by rw [a3 _ ht, ← h.2.2.2.2.2.2.2.2.2 _ ht]; exact h1
  exact W.aald (v := .ref (goAd E x)) h.1 h.2.1 hc h2 rfl h3 (fun q => q.elim (fun q => absurd hi.1 (Int32.not_le.mpr q)) (fun q => absurd (Nat.lt_of_lt_of_le hi.2 h4) (Nat.not_lt.mpr q))) (by rw [h6 _ hi.2, hx]) rfl rfl hd (k H locs ls a1 a2 a3 a4)
theorem go_ldcS (h : goCx E X cc own nL) {i q idx : Nat} (hi : i < 58) (hq : 1000100 + i = q) (ho : (goSck.getD i ("", 0, "")).1 = own) (hx : (goSck.getD i ("", 0, "")).2.1 = idx) (hd : decode cc pc = .ok (.ldc idx, 2)) (k : goA E X G ce sl Q (pc + 2) lv (.ref q :: st) M L R) : goA E X G ce sl Q pc lv st M L R := by
  subst hq; subst ho; subst hx
  exact fun H locs ls a1 a2 a3 a4 => va_ldcS h.1 h.2.1 h.2.2.2.1 (((goCx_fo h).2.2.2.2.1 i hi).1.warm h.2.2.2.2.2.2.1) hd (k H locs ls a1 a2 a3 a4)
theorem goLdcwS {p : Program} {l : Launch} {e : Env} {R : Room} {s : State} {m : MethodId} {args : Array Value} {below : List Frame} {meth : Method} {c : Code} {T : State} {locs : List Loc} {cells slots : Nat}
    (X : Stand p l e R s m args below meth c T locs cells slots) (hexec : p.tables.exec = Jvm.exec) {own text : String} {index : Nat} {a : Addr} (hown : s.vm.findClass own = some m.cls)
    (hconst : (Cond.stringRef own index text).before args s = true) (hev : (Term.string own index).eval args s none [] s = some (.ref a)) {g : JFrame} (hg : g.method = m) (hdg : decode c.code g.pc = .ok (.ldc_w index, 3)) :
    ∀ target, Steps p.tables e below (T.setTop { g with pc := g.pc + 3, stack := .ref a :: g.stack }) target → Steps p.tables e below (T.setTop g) target := by
  obtain ⟨k, cf, i, a', hk, hcf, hcp, -, hr, hev'⟩ := Cond.stringRef_spec hown hconst
  cases hev.symm.trans hev'
  obtain ⟨k', hk', he⟩ := X.warmed.alike.2.2 _ _ hk
  have hr' : k'.resolved[index]? = some (some (.string a)) := by
    rcases X.warmed.entry hk hk' index with h | ⟨h, -⟩
    · rw [h]; exact hr
    · rw [hr] at h; cases h
  intro target hrest
  subst hg
  jvm_step X.here [hexec, hdg, ldc_w.wp_string (e := e) (s := T) (f := g) X.here.top hk' (by rw [he]; exact hcf) hcp hr']
  exact hrest
theorem go_ldcwS (h : goCx E X cc own nL) {i q idx : Nat} (hi : i < 58) (hq : 1000100 + i = q) (ho : (goSck.getD i ("", 0, "")).1 = own) (hx : (goSck.getD i ("", 0, "")).2.1 = idx) (hd : decode cc pc = .ok (.ldc_w idx, 3)) (k : goA E X G ce sl Q (pc + 3) lv (.ref q :: st) M L R) : goA E X G ce sl Q pc lv st M L R := by
  subst hq; subst ho; subst hx
  intro H locs ls a1 a2 a3 a4 T hT X0
  have hZ := ((goCx_fo h).2.2.2.2.1 i hi).1.warm h.2.2.2.2.2.2.1
  have h1 : (Cond.stringRef (goSck.getD i ("", 0, "")).1 (goSck.getD i ("", 0, "")).2.1 (goSck.getD i ("", 0, "")).2.2).before #[] X.2.2.2.2.1 = true := hZ.1
  obtain ⟨t, b1, b2⟩ := k H locs ls a1 a2 a3 a4 T hT X0
  exact ⟨t, goLdcwS X0 h.1 h.2.2.2.1 (text := (goSck.getD i ("", 0, "")).2.2) (a := goAd E (1000100 + i)) hZ.1 hZ.2 (g := F0 _ pc ls (st.map (goCv E))) rfl (by rw [h.2.1]; exact hd) t b1, b2⟩
theorem goEs_some {l : List Int32} {x : Nat} {v : Int32} (h : goEs l x = some v) (hl : l.length = 18) : ∃ j, j < 18 ∧ x = 1000000 + j ∧ l.getD j 0 = v := by
  unfold goEs at h
  split at h
  · rename_i c
    obtain ⟨h1, h2⟩ := List.getElem?_eq_some_iff.mp h
    refine ⟨x - 1000000, by omega, by omega, ?_⟩
    rw [List.getD_eq_getElem?_getD, h]; rfl
  · cases h
theorem goEc_some {x : Nat} {u : Unit} (h : goEc x = some u) : ∃ j, j < 18 ∧ x = 1000000 + j := by
  unfold goEc at h
  split at h
  · rename_i c; exact ⟨x - 1000000, by omega, by omega⟩
  · cases h
theorem go_en_group (h : goCx E X cc own nL) {idx x : Nat} {v : Int32} (hd : decode cc pc = .ok (.getfield idx, 3)) (hl : Cond.fieldLink own idx "GoatCourt$Reserved" "group" "I" ∈ goTb) (hg : goEg x = some v) (k : goA E X G ce sl Q (pc + 3) lv (.int v :: st) M L R) : goA E X G ce sl Q pc lv (.ref x :: st) M L R := by
  obtain ⟨j, hj, rfl, rfl⟩ := goEs_some hg rfl
  exact go_fget h ((goCx_fo h).2.2.1 j hj).2.2.1 rfl hl hd k
theorem go_en_room (h : goCx E X cc own nL) {idx x : Nat} {v : Int32} (hd : decode cc pc = .ok (.getfield idx, 3)) (hl : Cond.fieldLink own idx "GoatCourt$Reserved" "room" "I" ∈ goTb) (hg : goEr x = some v) (k : goA E X G ce sl Q (pc + 3) lv (.int v :: st) M L R) : goA E X G ce sl Q pc lv (.ref x :: st) M L R := by
  obtain ⟨j, hj, rfl, rfl⟩ := goEs_some hg rfl
  exact go_fget h ((goCx_fo h).2.2.1 j hj).2.2.2.1 rfl hl hd k
theorem go_en_word (h : goCx E X cc own nL) {idx x v : Nat} (hd : decode cc pc = .ok (.getfield idx, 3)) (hl : Cond.fieldLink own idx "GoatCourt$Reserved" "word" "Ljava/lang/String;" ∈ goTb) (hg : goEw x = some v) (k : goA E X G ce sl Q (pc + 3) lv (.ref v :: st) M L R) : goA E X G ce sl Q pc lv (.ref x :: st) M L R := by
  unfold goEw at hg
  split at hg
  · rename_i c
    obtain ⟨h1, h2⟩ := List.getElem?_eq_some_iff.mp hg
    have hj : x - 1000000 < 18 := h1
    have hF := ((goCx_fo h).2.2.1 _ hj).2.2.2.2.2
    rw [List.getD_eq_getElem?_getD, hg, show 1000000 + (x - 1000000) = x by omega] at hF
    exact go_fget h hF rfl hl hd k
  · cases hg
theorem go_getsRA (h : goCx E X cc RX9 nL) (hd : decode cc pc = .ok (.getstatic 28, 3)) (k : goA E X G ce sl Q (pc + 3) lv (.ref 1000600 :: st) M L R) : goA E X G ce sl Q pc lv st M L R := go_gets h (goCx_fo h).1.1 rfl (Or.inr ⟨_, wfn_RX9_28⟩) hd k
theorem go_getsSM (h : goCx E X cc RX9 nL) (hd : decode cc pc = .ok (.getstatic 111, 3)) (k : goA E X G ce sl Q (pc + 3) lv (.ref 1000601 :: st) M L R) : goA E X G ce sl Q pc lv st M L R := go_gets h (goCx_fo h).2.1.1 rfl (Or.inl wfl_RX9_111) hd k
theorem go_getsE_HILL (h : goCx E X cc RX9 nL) (hd : decode cc pc = .ok (.getstatic 104, 3)) (k : goA E X G ce sl Q (pc + 3) lv (.ref 1000000 :: st) M L R) : goA E X G ce sl Q pc lv st M L R := go_gets h ((goCx_fo h).2.2.1 0 (Nat.le_of_ble_eq_true rfl)).1 rfl (Or.inl wfl_RX9_104) hd k
theorem go_getsE_OTHER (h : goCx E X cc RX9 nL) (hd : decode cc pc = .ok (.getstatic 339, 3)) (k : goA E X G ce sl Q (pc + 3) lv (.ref 1000017 :: st) M L R) : goA E X G ce sl Q pc lv st M L R := go_gets h ((goCx_fo h).2.2.1 17 (Nat.le_of_ble_eq_true rfl)).1 rfl (Or.inl wfl_RX9_339) hd k
theorem go_raLen (h : goCx E X cc own nL) (hd : decode cc pc = .ok (.arraylength, 1)) (k : goA E X G ce sl Q (pc + 1) lv (.int 18 :: st) M L R) : goA E X G ce sl Q pc lv (.ref 1000600 :: st) M L R := go_flen h (goCx_fo h).1.2 hd k
theorem go_raLd (h : goCx E X cc own nL) {i : Int32} {x : Nat} (hd : decode cc pc = .ok (.aaload, 1)) (hg : goRa i = some x) (k : goA E X G ce sl Q (pc + 1) lv (.ref x :: st) M L R) : goA E X G ce sl Q pc lv (.int i :: .ref 1000600 :: st) M L R := by
  unfold goRa at hg
  split at hg
  · rename_i c; cases hg
    exact go_fald h (goCx_fo h).1.2 c rfl hd k
  · cases hg
theorem go_smLd (h : goCx E X cc own nL) {i x : Int32} (hd : decode cc pc = .ok (.iaload, 1)) (hg : goSm i = some x) (k : goA E X G ce sl Q (pc + 1) lv (.int x :: st) M L R) : goA E X G ce sl Q pc lv (.int i :: .ref 1000601 :: st) M L R := by
  unfold goSm at hg
  split at hg
  · rename_i c
    obtain ⟨h1, h2⟩ := List.getElem?_eq_some_iff.mp hg
    exact go_fild h (goCx_fo h).2.1.2 ⟨c, h1⟩ (by show Value.int (goSwl.getD i.toNatClampNeg 0) = _; rw [List.getD_eq_getElem?_getD, hg]; rfl) hd k
  · cases hg
theorem go_acmp_eq (h : goCx E X cc own nL) {x y : Nat} {u v : Unit} {off : Int} (tgt : Nat) (hd : decode cc pc = .ok (.if_acmp .eq off, 3)) (ht : (pc : Int) + off = (tgt : Int)) (hx : goEc x = some u) (hy : goEc y = some v) (kt : x = y → goA E X G ce sl Q tgt lv st M L R) (kf : ¬ x = y → goA E X G ce sl Q (pc + 3) lv st M L R) : goA E X G ce sl Q pc lv (.ref y :: .ref x :: st) M L R := by
  obtain ⟨i, hi, rfl⟩ := goEc_some hx
  obtain ⟨j, hj, rfl⟩ := goEc_some hy
  intro H locs ls a1 a2 a3 a4
  refine lv_acmp_eq (rx := some (goAd E (1000000 + i))) (ry := some (goAd E (1000000 + j))) h.1 h.2.1 hd ht (fun q => ?_) (fun q => ?_)
  · exact kt (by rw [(goCx_fo h).2.2.2.1 i j hi hj (Option.some.inj q)]) H locs ls a1 a2 a3 a4
  · exact kf (fun e => q (by rw [e])) H locs ls a1 a2 a3 a4
end goForeign
section goTexts
variable {E : goEv} {l : Launch} {G : goG} {M : goMI} {L : goML} {R : goMR}
theorem mJx29ce0_ordinal {j : Nat} (hk : goKn E) (hj : j < 18) : Met l yJx29ce0_ordinal_8abf5 (goCd yJx29ce0_ordinal_8abf5 cJx29ce0_ordinal_8abf5 1 (some .int)) (goRoom 0 0 0 0) (goPre E [.ref (1000000 + j)] G M L R) (goQi E (Int32.ofNat j) G M L R) 0 0 (goSet E) := by
  refine goMet pl_RJx29ce0 hk (lv := [some (.ref (1000000 + j))]) rfl (Nat.le_of_ble_eq_true rfl) ?_
  intro X hc hl hR hr hnm
  subst hl
  refine go_aload0 hc dJx29ce0_ordinal_8abf5_0 ?_
  refine go_fget hc (v' := .int (Int32.ofNat j)) (hk.2.2.2.2.2.1 j hj).2.2.2.2.1 rfl wfl_RJx29ce0_7 dJx29ce0_ordinal_8abf5_1 ?_
  exact go_iret hc dJx29ce0_ordinal_8abf5_4 hr
theorem mJ0_coder {i : Nat} (hk : goKn E) (hi : i < 58) : Met l yJ0_coder_7d493 (goCd yJ0_coder_7d493 cJ0_coder_7d493 1 (some .byte)) (goRoom 0 0 0 0) (goPre E [.ref (1000100 + i)] G M L R) (goQi E 0 G M L R) 0 0 (goSet E) := by
  refine goMet pl_RJ0 hk (lv := [some (.ref (1000100 + i))]) rfl (Nat.le_of_ble_eq_true rfl) ?_
  intro X hc hl hR hr hnm
  subst hl
  refine go_gets hc (v' := .int 1) hk.2.2.2.2.2.2.2.2.1 rfl (Or.inl wfl_RJ0_38) dJ0_coder_7d493_0 ?_
  refine go_if_eq hc 13 dJ0_coder_7d493_3 rfl (fun c => absurd c (by decide)) (fun _ => ?_)
  refine go_aload0 hc dJ0_coder_7d493_6 ?_
  refine go_fget hc (v' := .int 0) (hk.2.2.2.2.2.2.2.1 i hi).2.2.1 rfl wfl_RJ0_15 dJ0_coder_7d493_7 ?_
  refine go_goto hc 14 dJ0_coder_7d493_10 rfl ?_
  exact go_zret hc dJ0_coder_7d493_14 hr rfl
theorem mJ0_isLatin1 {i : Nat} (hk : goKn E) (hi : i < 58) : Met l yJ0_isLatin1_aae02 (goCd yJ0_isLatin1_aae02 cJ0_isLatin1_aae02 1 (some .boolean)) (goRoom 0 0 0 0) (goPre E [.ref (1000100 + i)] G M L R) (goQi E 1 G M L R) 0 0 (goSet E) := by
  refine goMet pl_RJ0 hk (lv := [some (.ref (1000100 + i))]) rfl (Nat.le_of_ble_eq_true rfl) ?_
  intro X hc hl hR hr hnm
  subst hl
  refine go_gets hc (v' := .int 1) hk.2.2.2.2.2.2.2.2.1 rfl (Or.inl wfl_RJ0_38) dJ0_isLatin1_aae02_0 ?_
  refine go_if_eq hc 17 dJ0_isLatin1_aae02_3 rfl (fun c => absurd c (by decide)) (fun _ => ?_)
  refine go_aload0 hc dJ0_isLatin1_aae02_6 ?_
  refine go_fget hc (v' := .int 0) (hk.2.2.2.2.2.2.2.1 i hi).2.2.1 rfl wfl_RJ0_15 dJ0_isLatin1_aae02_7 ?_
  refine go_if_ne hc 17 dJ0_isLatin1_aae02_10 rfl (fun c => absurd rfl c) (fun _ => ?_)
  refine go_iconst (v := 1) hc dJ0_isLatin1_aae02_13 rfl ?_
  refine go_goto hc 18 dJ0_isLatin1_aae02_14 rfl ?_
  exact go_zret hc dJ0_isLatin1_aae02_18 hr rfl
theorem mJ0_length {i : Nat} (hk : goKn E) (hi : i < 58) : Met l yJ0_length_8abf5 (goCd yJ0_length_8abf5 cJ0_length_8abf5 1 (some .int)) (goRoom 1 20 0 0) (goPre E [.ref (1000100 + i)] G M L R) (goQi E (Int32.ofNat (goStr.getD i []).length) G M L R) 0 0 (goSet E) := by
  refine goMet pl_RJ0 hk (lv := [some (.ref (1000100 + i))]) rfl (Nat.le_of_ble_eq_true rfl) ?_
  intro X hc hl hR hr hnm
  subst hl
  refine go_aload0 hc dJ0_length_8abf5_0 ?_
  refine go_fget hc (v' := .ref (1000300 + i)) (hk.2.2.2.2.2.2.2.1 i hi).2.2.2.1 rfl wfl_RJ0_9 dJ0_length_8abf5_1 ?_
  refine go_flen hc (hk.2.2.2.2.2.2.2.1 i hi).2.2.2.2 dJ0_length_8abf5_4 ?_
  refine go_aload0 hc dJ0_length_8abf5_5 ?_
  refine go_callOi hc dJ0_length_8abf5_6 (mJ0_coder hk hi) ml_RJ0_335 yk_J0_coder_7d493 ⟨wim_J0_coder_7d493, wse_J0_coder_7d493⟩ hR rfl (hk.2.2.2.2.2.2.2.1 i hi).2.1 rfl rfl (Nat.le_of_ble_eq_true rfl) rfl ?_
  refine go_ishr hc dJ0_length_8abf5_9 ?_
  rw [show (Int32.ofNat (goStr.getD i []).length >>> ((0 : Int32) &&& 31)) = Int32.ofNat (goStr.getD i []).length from sb_shr0 _]
  exact go_iret hc dJ0_length_8abf5_10 hr
theorem mJ3_checkIndex {j n : Int32} {v : Value} (hv : v = .null ∨ v = .ref 1000700) (hk : goKn E) (h0 : 0 ≤ j) (h1 : j < n) : Met l yJ3_checkIndex_8e157 (goCd yJ3_checkIndex_8e157 cJ3_checkIndex_8e157 3 (some .int)) (goRoom 0 0 0 0) (goPre E [.int j, .int n, v] G M L R) (goQi E j G M L R) 0 0 (goSet E) := by
  refine goMet pl_RJ3 hk (lv := [some (.int j), some (.int n), some v]) (by rcases hv with rfl | rfl <;> rfl) (by rcases hv with rfl | rfl <;> exact Nat.le_of_ble_eq_true rfl) ?_
  intro X hc hl hR hr hnm
  subst hl
  refine go_iload0 hc dJ3_checkIndex_8e157_0 ?_
  refine go_if_lt hc 9 dJ3_checkIndex_8e157_1 rfl (fun c => absurd h0 c) (fun _ => ?_)
  refine go_iload0 hc dJ3_checkIndex_8e157_4 ?_
  refine go_iload1 hc dJ3_checkIndex_8e157_5 ?_
  refine go_icmp_lt hc 16 dJ3_checkIndex_8e157_6 rfl (fun _ => ?_) (fun c => absurd h1 (Int32.not_lt.mpr c))
  refine go_iload0 hc dJ3_checkIndex_8e157_16 ?_
  exact go_iret hc dJ3_checkIndex_8e157_17 hr
theorem mJ0_checkIndex {j n : Int32} (hk : goKn E) (h0 : 0 ≤ j) (h1 : j < n) : Met l yJ0_checkIndex_df160 (goCd yJ0_checkIndex_df160 cJ0_checkIndex_df160 2 none) (goRoom 1 22 0 0) (goPre E [.int j, .int n] G M L R) (goQv E G M L R) 0 0 (goSet E) := by
  refine goMet pl_RJ0 hk (lv := [some (.int j), some (.int n)]) rfl (Nat.le_of_ble_eq_true rfl) ?_
  intro X hc hl hR hr hnm
  subst hl
  refine go_iload0 hc dJ0_checkIndex_df160_0 ?_
  refine go_iload1 hc dJ0_checkIndex_df160_1 ?_
  rcases hk.2.2.2.2.2.2.2.2.2 with hz | hz
  · refine go_gets hc (v' := .null) hz rfl (Or.inl wfl_RJ0_1053) dJ0_checkIndex_df160_2 ?_
    refine go_callSi hc dJ0_checkIndex_df160_5 (mJ3_checkIndex (v := .null) (Or.inl rfl) hk h0 h1) ml_RJ0_1059 yk_J3_checkIndex_8e157 wst_J3_checkIndex_8e157 hR rfl rfl rfl (Nat.le_of_ble_eq_true rfl) rfl ?_
    refine go_popi hc dJ0_checkIndex_df160_8 ?_
    exact go_vret hc dJ0_checkIndex_df160_9 hr
  · refine go_gets hc (v' := .ref 1000700) hz rfl (Or.inl wfl_RJ0_1053) dJ0_checkIndex_df160_2 ?_
    refine go_callSi hc dJ0_checkIndex_df160_5 (mJ3_checkIndex (v := .ref 1000700) (Or.inr rfl) hk h0 h1) ml_RJ0_1059 yk_J3_checkIndex_8e157 wst_J3_checkIndex_8e157 hR rfl rfl rfl (Nat.le_of_ble_eq_true rfl) rfl ?_
    refine go_popi hc dJ0_checkIndex_df160_8 ?_
    exact go_vret hc dJ0_checkIndex_df160_9 hr
/-- the signs are those of texts: below 128 -/
theorem goStr_sign : ∀ t ∈ goStr, ∀ c ∈ t, ((c &&& 255).toUInt32 % 65536).toInt32 = c := by decide +kernel
theorem goStr_len : ∀ t ∈ goStr, t.length < 20 := by decide +kernel
theorem goStr_mem {i : Nat} (hi : i < 58) : goStr.getD i [] ∈ goStr := by
  have h : i < goStr.length := hi
  rw [List.getD_eq_getElem?_getD, List.getElem?_eq_getElem h]
  exact List.getElem_mem h
theorem mJ1_charAt {i : Nat} {j x : Int32} (hk : goKn E) (hi : i < 58) (h0 : 0 ≤ j) (hx : (goStr.getD i [])[j.toNatClampNeg]? = some x) : Met l yJ1_charAt_3b067 (goCd yJ1_charAt_3b067 cJ1_charAt_3b067 2 (some .char)) (goRoom 2 43 0 0) (goPre E [.ref (1000300 + i), .int j] G M L R) (goQi E x G M L R) 0 0 (goSet E) := by
  obtain ⟨hlt, hxe⟩ := List.getElem?_eq_some_iff.mp hx
  have hln := goStr_len _ (goStr_mem hi)
  have hjn : j < Int32.ofNat (goStr.getD i []).length := by
    rw [Int32.lt_iff_toInt_lt]
    have e1 : (Int32.ofNat (goStr.getD i []).length).toInt = ((goStr.getD i []).length : Int) := nI_toInt (by omega)
    rw [e1]
    have e2 : j.toInt = (j.toNatClampNeg : Int) := by
      have := Int32.le_iff_toInt_le.mp h0
      show j.toInt = ((j.toInt.toNat : Nat) : Int)
      have h00 : (0 : Int32).toInt = 0 := rfl
      omega
    omega
  refine goMet pl_RJ1 hk (lv := [some (.ref (1000300 + i)), some (.int j)]) rfl (Nat.le_of_ble_eq_true rfl) ?_
  intro X hc hl hR hr hnm
  subst hl
  refine go_iload1 hc dJ1_charAt_3b067_0 ?_
  refine go_aload0 hc dJ1_charAt_3b067_1 ?_
  refine go_flen hc (hk.2.2.2.2.2.2.2.1 i hi).2.2.2.2 dJ1_charAt_3b067_2 ?_
  refine go_callSv hc dJ1_charAt_3b067_3 (mJ0_checkIndex hk h0 hjn) ml_RJ1_9 yk_J0_checkIndex_df160 wst_J0_checkIndex_df160 hR rfl rfl rfl (Nat.le_of_ble_eq_true rfl) rfl ?_
  refine go_aload0 hc dJ1_charAt_3b067_6 ?_
  refine go_iload1 hc dJ1_charAt_3b067_7 ?_
  refine go_fbld hc (x := x) (hk.2.2.2.2.2.2.2.1 i hi).2.2.2.2 ⟨h0, hlt⟩ (by show Value.int ((goStr.getD i []).getD j.toNatClampNeg 0) = _; rw [List.getD_eq_getElem?_getD, hx]; rfl) dJ1_charAt_3b067_8 ?_
  refine go_sipush (v := 255) hc dJ1_charAt_3b067_9 rfl ?_
  refine go_iand hc dJ1_charAt_3b067_12 ?_
  refine go_i2c hc dJ1_charAt_3b067_13 ?_
  have hs := goStr_sign _ (goStr_mem hi) x (List.mem_of_getElem? hx)
  rw [hs]
  refine go_zret hc dJ1_charAt_3b067_14 hr ?_
  have := pk_nc (x &&& 255)
  rw [hs] at this
  exact this
theorem mJ0_charAt {i : Nat} {j x : Int32} (hk : goKn E) (hi : i < 58) (h0 : 0 ≤ j) (hx : (goStr.getD i [])[j.toNatClampNeg]? = some x) : Met l yJ0_charAt_5068e (goCd yJ0_charAt_5068e cJ0_charAt_5068e 2 (some .char)) (goRoom 3 64 0 0) (goPre E [.ref (1000100 + i), .int j] G M L R) (goQi E x G M L R) 0 0 (goSet E) := by
  refine goMet pl_RJ0 hk (lv := [some (.ref (1000100 + i)), some (.int j)]) rfl (Nat.le_of_ble_eq_true rfl) ?_
  intro X hc hl hR hr hnm
  subst hl
  refine go_aload0 hc dJ0_charAt_5068e_0 ?_
  refine go_callOi hc dJ0_charAt_5068e_1 (mJ0_isLatin1 hk hi) ml_RJ0_492 yk_J0_isLatin1_aae02 ⟨wim_J0_isLatin1_aae02, wse_J0_isLatin1_aae02⟩ hR rfl (hk.2.2.2.2.2.2.2.1 i hi).2.1 rfl rfl (Nat.le_of_ble_eq_true rfl) rfl ?_
  refine go_if_eq hc 16 dJ0_charAt_5068e_4 rfl (fun c => absurd c (by decide)) (fun _ => ?_)
  refine go_aload0 hc dJ0_charAt_5068e_7 ?_
  refine go_fget hc (v' := .ref (1000300 + i)) (hk.2.2.2.2.2.2.2.1 i hi).2.2.2.1 rfl wfl_RJ0_9 dJ0_charAt_5068e_8 ?_
  refine go_iload1 hc dJ0_charAt_5068e_11 ?_
  refine go_callSi hc dJ0_charAt_5068e_12 (mJ1_charAt hk hi h0 hx) ml_RJ0_495 yk_J1_charAt_3b067 wst_J1_charAt_3b067 hR rfl rfl rfl (Nat.le_of_ble_eq_true rfl) rfl ?_
  refine go_zret hc dJ0_charAt_5068e_15 hr ?_
  have hs := goStr_sign _ (goStr_mem hi) x (List.mem_of_getElem? hx)
  have := pk_nc (x &&& 255)
  rw [hs] at this
  exact this
end goTexts
section goTextRows
variable {E : goEv} {X : goX} {G : goG} {ce sl : Nat} {Q : State → Prop} {pc : Nat} {lv : List (Option Value)} {st : List Value} {M : goMI} {L : goML} {R : goMR} {cc : ByteArray} {own : String} {nL : Nat}
theorem go_slen (hk : goKn E) (h : goCx E X cc own nL) {idx w F W0 MC MS : Nat} {x : Int32} (hd : decode cc pc = .ok (.invokevirtual idx, 3)) (hl : Cond.methodLink own idx yJ0_length_8abf5 ∈ goTb) (hR : X.2.2.2.1 = goRoom F W0 MC MS) (hb : goFit 1 20 0 0 1 ce sl F W0 MC MS = true) (hlv : lv.length = nL) (hcat : (st.map Value.category).sum ≤ 8) (hg : goSl w = some x) (k : goA E X G ce sl Q (pc + 3) lv (.int x :: st) M L R) : goA E X G ce sl Q pc lv (.ref w :: st) M L R := by
  unfold goSl at hg
  split at hg
  · rename_i c
    obtain ⟨t, ht, rfl⟩ := Option.map_eq_some_iff.mp hg
    obtain ⟨h1, h2⟩ := List.getElem?_eq_some_iff.mp ht
    have hi : w - 1000100 < 58 := h1
    have hM := mJ0_length (l := X.2.1) (G := G) (M := M) (L := L) (R := R) hk hi
    rw [List.getD_eq_getElem?_getD, ht, show 1000100 + (w - 1000100) = w by omega] at hM
    have ho := (hk.2.2.2.2.2.2.2.1 _ hi).2.1
    rw [show 1000100 + (w - 1000100) = w by omega] at ho
    exact go_callOi h hd hM (Or.inl hl) yk_J0_length_8abf5 ⟨wim_J0_length_8abf5, wse_J0_length_8abf5⟩ hR hb ho rfl rfl hcat hlv k
  · cases hg
theorem go_schr (hk : goKn E) (h : goCx E X cc own nL) {idx w F W0 MC MS : Nat} {j x : Int32} (hd : decode cc pc = .ok (.invokevirtual idx, 3)) (hl : Cond.methodLink own idx yJ0_charAt_5068e ∈ goTb) (hR : X.2.2.2.1 = goRoom F W0 MC MS) (hb : goFit 3 64 0 0 2 ce sl F W0 MC MS = true) (hlv : lv.length = nL) (hcat : (st.map Value.category).sum ≤ 8) (hg : goSc w j = some x) (k : goA E X G ce sl Q (pc + 3) lv (.int x :: st) M L R) : goA E X G ce sl Q pc lv (.int j :: .ref w :: st) M L R := by
  unfold goSc at hg
  split at hg
  · rename_i c
    obtain ⟨t, ht, hx⟩ := goBind hg
    obtain ⟨h1, h2⟩ := List.getElem?_eq_some_iff.mp ht
    have hi : w - 1000100 < 58 := h1
    have hM := mJ0_charAt (l := X.2.1) (G := G) (M := M) (L := L) (R := R) (j := j) (x := x) hk hi c.2 (by rw [List.getD_eq_getElem?_getD, ht]; exact hx)
    rw [show 1000100 + (w - 1000100) = w by omega] at hM
    have ho := (hk.2.2.2.2.2.2.2.1 _ hi).2.1
    rw [show 1000100 + (w - 1000100) = w by omega] at ho
    exact go_callOi h hd hM (Or.inl hl) yk_J0_charAt_5068e ⟨wim_J0_charAt_5068e, wse_J0_charAt_5068e⟩ hR hb ho rfl rfl hcat hlv k
  · cases hg
theorem go_ord (hk : goKn E) (h : goCx E X cc RX9 nL) {w F W0 MC MS : Nat} {x : Int32} (hd : decode cc pc = .ok (.invokevirtual 116, 3)) (hR : X.2.2.2.1 = goRoom F W0 MC MS) (hb : goFit 0 0 0 0 1 ce sl F W0 MC MS = true) (hlv : lv.length = nL) (hcat : (st.map Value.category).sum ≤ 8) (hg : goEo w = some x) (k : goA E X G ce sl Q (pc + 3) lv (.int x :: st) M L R) : goA E X G ce sl Q pc lv (.ref w :: st) M L R := by
  obtain ⟨j, hj, rfl, hjx⟩ := goEs_some hg rfl
  have hxj : Int32.ofNat j = x := by
    rw [← hjx]
    exact (show ∀ j, j < 18 → Int32.ofNat j = ([0, 1, 2, 3, 4, 5, 6, 7, 8, 9, 10, 11, 12, 13, 14, 15, 16, 17] : List Int32).getD j 0 by decide +kernel) j hj
  subst hxj
  intro H locs ls a1 a2 a3 a4
  have hfit := goFit_of hb
  have hgood : GoodIn goTb (va_wsU RX9 116 RX10 RJx29ce0 ⟨RX10, "ordinal", "()I"⟩ yJx29ce0_ordinal_8abf5 (goCd yJx29ce0_ordinal_8abf5 cJx29ce0_ordinal_8abf5 1 (some .int))) := by
    intro w hw
    have hm : w ∈ goTb := by
      unfold va_wsU at hw
      rcases List.mem_append.mp hw with hw | hw
      · simp only [List.mem_cons, List.not_mem_nil, or_false] at hw
        rcases hw with rfl | rfl | rfl | rfl | rfl
        · exact wml_RX9_116
        · exact wsm_ordinal
        · exact wse_ordinal
        · exact wim_Jx29ce0_ordinal_8abf5
        · exact win_RJx29ce0
      · exact (List.mem_cons.mp hw).elim (fun e => by rw [e]; exact wco_Jx29ce0_ordinal_8abf5) id
    exact ⟨hm, good_of_word (List.mem_filter.mp hm).2⟩
  have hM := mJx29ce0_ordinal (l := X.2.1) (G := G) (M := M) (L := L) (R := R) hk hj
  refine va_calli (va_runU (As := []) (rest := st.map (goCv E)) (b := goAd E (1000000 + j)) ⟨h.1, h.2.1, h.2.2.1, h.2.2.2.1, h.2.2.2.2.1⟩ hM (va_cwU 0 h.2.2.2.2.1 hgood rfl rfl rfl rfl (by decide +kernel) (by rw [hR]; exact hfit.1)) ⟨goPre_blind, goRecvO h a1 a3 (hk.2.2.2.2.2.1 j hj).2.1, goPreOk h a1 a3 (as := [.ref (1000000 + j)])⟩ rfl rfl (a4.1.trans hlv) rfl (lv_room (by rw [goCat_map]; exact hcat)) hd (by rw [hR]; exact hfit.2)) a2 (fun _ _ q => q) (fun _ q => q) (fun r u t H1 locs1 ht hvm hw hB hz hk1 hS => ?_)
  cases hw
  try dsimp only at hB
  rw [ht] at hB
  exact k H1 locs1 ls hB hS (goLow_call a1 a3 hk1) a4
end goTextRows
