/-! LINES: the head of a line, dispatch (printed by gen98zi.py) -/
section lines31
variable {e s b st nn : Nat} {Rc Rm : goMR} {Mc Mm : goMI} {Lc Lm : goML} {T : tH}
/-- the component's dispatch -/
noncomputable def cDs (x184 : Int32) (M179 : goMI) (L180 : goML) (R : goMR) : Option (Int32 × goMI × goML) :=
  if x184 = 1 then
  goB3 (fX9_hillLine 5000 M179 L180 R) fun x188 M189 L190 =>
  Option.bind (goZr x188) fun x192 =>
  some (x192, M189, L190)
  else
  if x184 = 2 then
  goB3 (fX9_placeLine 5000 M179 L180 R) fun x188 M189 L190 =>
  Option.bind (goZr x188) fun x192 =>
  some (x192, M189, L190)
  else
  if x184 = 3 then
  goB3 (fX9_pathLine 5000 M179 L180 R) fun x188 M189 L190 =>
  Option.bind (goZr x188) fun x192 =>
  some (x192, M189, L190)
  else
  if x184 = 4 then
  goB3 (fX9_personLine 5000 M179 L180 R) fun x188 M189 L190 =>
  Option.bind (goZr x188) fun x192 =>
  some (x192, M189, L190)
  else
  if x184 = 5 then
  goB3 (fX9_storyLine 5000 M179 L180 R) fun x188 M189 L190 =>
  Option.bind (goZr x188) fun x192 =>
  some (x192, M189, L190)
  else
  if x184 = 6 then
  goB3 (fX9_goatLine 5000 M179 L180 R) fun x188 M189 L190 =>
  Option.bind (goZr x188) fun x192 =>
  some (x192, M189, L190)
  else
  if x184 = 7 then
  goB3 (fX9_fearLine 5000 M179 L180 R) fun x188 M189 L190 =>
  Option.bind (goZr x188) fun x192 =>
  some (x192, M189, L190)
  else
  if x184 = 8 then
  goB3 (fX9_foundLine 5000 M179 L180 R) fun x188 M189 L190 =>
  Option.bind (goZr x188) fun x192 =>
  some (x192, M189, L190)
  else
  if x184 = 9 then
  goB3 (fX9_seenLine 5000 M179 L180 R 1) fun x188 M189 L190 =>
  Option.bind (goZr x188) fun x192 =>
  some (x192, M189, L190)
  else
  if x184 = 10 then
  goB3 (fX9_seenLine 5000 M179 L180 R 2) fun x188 M189 L190 =>
  Option.bind (goZr x188) fun x192 =>
  some (x192, M189, L190)
  else
  if x184 = 11 then
  goB3 (fX9_factLine 5000 M179 L180 R) fun x188 M189 L190 =>
  Option.bind (goZr x188) fun x192 =>
  some (x192, M189, L190)
  else
  if x184 = 12 then
  goB3 (fX9_holdsLine 5000 M179 L180 R) fun x188 M189 L190 =>
  Option.bind (goZr x188) fun x192 =>
  some (x192, M189, L190)
  else
  if x184 = 13 then
  goB3 (fX9_ruleLine 5000 M179 L180 R) fun x188 M189 L190 =>
  Option.bind (goZr x188) fun x192 =>
  some (x192, M189, L190)
  else
  if x184 = 14 then
  goB3 (fX9_proofLine 5000 M179 L180 R) fun x188 M189 L190 =>
  Option.bind (goZr x188) fun x192 =>
  some (x192, M189, L190)
  else
  if x184 = 15 then
  goB3 (fX9_courtLine 5000 M179 L180 R) fun x188 M189 L190 =>
  Option.bind (goZr x188) fun x192 =>
  some (x192, M189, L190)
  else
  goB3 (fX9_cheeseLine 5000 M179 L180 R) fun x292 M293 L294 =>
  Option.bind (goZr x292) fun x296 =>
  some (x296, M293, L294)
/-- the component's head of a line -/
noncomputable def cHd (x11 : Nat) (M : goMI) (L : goML) (R : goMR) : Option (Int32 × goMI × goML) :=
  Option.bind (goEg x11) fun x18 =>
  Option.bind (goRd M 71 15 x18) fun x20 =>
  Option.bind (goEr x11) fun x22 =>
  if x22 ≤ x20 then
  Option.bind (goEr x11) fun x150 =>
  goNm (α := Int32) (if x150 = 1 then
  3
  else
  5) fun x152 =>
  goB2 (fX9_fail M x152) fun x156 M157 =>
  Option.bind (goZr x156) fun x159 =>
  some (x159, M157, L)
  else
  Option.bind (goEg x11) fun x25 =>
  Option.bind (goRd M 71 15 x25) fun x27 =>
  Option.bind (goWr M 71 15 x25 (x27 + 1)) fun M29 =>
  goB2 (fX11_advance 5000 M29 L) fun M31 L32 =>
  Option.bind (goEo x11) fun x34 =>
  Option.bind (goSm x34) fun x36 => cDs x36 M31 L32 R
theorem cLn {N : Nat} (hN : N = 5000) : fX9_line N Mc Lc Rc = Option.bind (fX9_reservedHere 5000 Mc Lc) fun x11 => Option.bind (goEr x11) fun x13 => if x13 = 0 then goB2 (fX9_fail Mc 1) fun x314 M315 => Option.bind (goZr x314) fun x317 => some (x317, M315, Lc) else Option.bind (goEc x11) fun _ => if x11 = 1000000 then cHd x11 Mc Lc Rc else Option.bind (goEg 1000000) fun x161 => Option.bind (goRd Mc 71 15 x161) fun x163 => if x163 = 0 then goB2 (fX9_fail Mc 6) fun x309 M310 => Option.bind (goZr x309) fun x312 => some (x312, M310, Lc) else cHd x11 Mc Lc Rc := by
  rw [hN]
  rfl
theorem cHd_full {x11 gi lim x : Nat} (h : Mc 1 5 = nI st) (hEg : goEg x11 = some (nI gi)) (hgi : gi < 15) (hEr : goEr x11 = some (nI lim)) (hl : lim < 2 ^ 31) (hx : x < 2 ^ 31) (h71 : Mc 71 gi = nI x) (hle : lim ≤ x) : cHd x11 Mc Lc Rc = some (0, cF Mc (if lim = 1 then 3 else 5) st, Lc) := by
  unfold cHd
  rw [hEg, gBd, gRd hgi, gBd, hEr, gBd, h71, if_pos (nI_le hle hx), gBd]
  by_cases c : lim = 1
  · rw [if_pos (show nI lim = 1 by rw [c]; rfl), gNm, if_pos c, cFail h, gB2]
    rfl
  · rw [if_neg (show ¬ nI lim = 1 from fun hh => c ((nI_eq (b := 1) hl (by decide)).mp hh)), gNm, if_neg c, cFail h, gB2]
    rfl
theorem cHd_go {x11 gi lim x : Nat} {xo sw : Int32} (hEg : goEg x11 = some (nI gi)) (hgi : gi < 15) (hEr : goEr x11 = some (nI lim)) (hl : lim < 2 ^ 31) (hx : x < 2 ^ 31) (h71 : Mc 71 gi = nI x) (hlt : x < lim) (hEo : goEo x11 = some xo) (hSm : goSm xo = some sw) : cHd x11 Mc Lc Rc = goB2 (fX11_advance 5000 (goWI Mc 71 gi (nI (x + 1))) Lc) fun M L => cDs sw M L Rc := by
  unfold cHd
  rw [hEg, gBd, gRd hgi, gBd, hEr, gBd, h71, if_neg (fun hh => by have := (nI_leI hl hx).mp hh; omega), gBd, gRd hgi, gBd, h71, nI_1, gWr hgi, gBd, hEo]
  cases fX11_advance 5000 (goWI Mc 71 gi (nI (x + 1))) Lc with
  | none => rfl
  | some z =>
    obtain ⟨z1, z2⟩ := z
    rw [gB2, gB2, gBd, hSm, gBd]
theorem cLn_w {x11 lim t0 : Nat} (hres : fX9_reservedHere 5000 Mc Lc = some x11) (hEr : goEr x11 = some (nI lim)) (hl : lim < 2 ^ 31) (hl0 : lim ≠ 0) (hEc : goEc x11 = some ()) (hne : x11 ≠ 1000000) (ht : t0 < 2) (h71 : Mc 71 0 = nI t0) (h5 : Mc 1 5 = nI st) : fX9_line 5000 Mc Lc Rc = if t0 = 0 then some (0, cF Mc 6 st, Lc) else cHd x11 Mc Lc Rc := by
  rw [cLn rfl, hres, gBd, hEr, gBd, if_neg (show ¬ nI lim = 0 from fun hh => hl0 ((nI_eq (b := 0) hl (by decide)).mp hh)), hEc, gBd, if_neg hne, show goEg 1000000 = some (nI 0) from rfl, gBd, gRd (by decide), gBd, h71]
  by_cases c : t0 = 0
  · rw [if_pos (show nI t0 = 0 by rw [c]; rfl), if_pos c, cFail h5, gB2]
    rfl
  · rw [if_neg (show ¬ nI t0 = 0 from fun hh => c ((nI_eq (b := 0) (by omega) (by decide)).mp hh)), if_neg c]
theorem cLn_h (hres : fX9_reservedHere 5000 Mc Lc = some 1000000) : fX9_line 5000 Mc Lc Rc = cHd 1000000 Mc Lc Rc := by
  rw [cLn rfl, hres, gBd, show goEr 1000000 = some 1 from rfl, gBd, if_neg (by decide), show goEc 1000000 = some () from rfl, gBd, if_pos rfl]
theorem cLn_n {x11 : Nat} (hres : fX9_reservedHere 5000 Mc Lc = some x11) (hEr : goEr x11 = some 0) (h5 : Mc 1 5 = nI st) : fX9_line 5000 Mc Lc Rc = some (0, cF Mc 1 st, Lc) := by
  rw [cLn rfl, hres, gBd, hEr, gBd, if_pos rfl, cFail h5, gB2]
  rfl
theorem goB2_id {α β : Type} {x : Option (α × β)} : (goB2 x fun M L => some (M, L)) = x := by
  cases x with
  | none => rfl
  | some z => rfl
theorem mNo {i : Nat} (hi : i < 17) (h9 : Mm 102 9 = 2) (h : ¬ Lm 102 17 = kw i) : fX14_isWord 5000 Mm Lm (1000130 + i) = some 0 := by rw [mW hi h9, if_neg h]
theorem mYes {i : Nat} (hi : i < 17) (h9 : Mm 102 9 = 2) (h : Lm 102 17 = kw i) : fX14_isWord 5000 Mm Lm (1000130 + i) = some 1 := by rw [mW hi h9, if_pos h]
theorem mLn_hill (h9 : Mm 102 9 = 2) (hk : kR (Lm 102 17) = 0) : fX14_readLine 5000 Mm Lm Rm = fX14_readHill 5000 Mm Lm Rm := by
  have hn : ∀ i, i < 0 → ¬ Lm 102 17 = kw i := fun i hi => kR_ne (by omega)
  have hy : Lm 102 17 = kw 0 := by have := kR_eq (w := Lm 102 17) (by omega); rw [hk] at this; exact this
  unfold fX14_readLine
  rw [show fX14_isWord 5000 Mm Lm 1000130 = some 1 from mYes (i := 0) (by decide) h9 hy, gBd, if_neg (by decide), goB2_id]
theorem mLn_place (h9 : Mm 102 9 = 2) (hk : kR (Lm 102 17) = 1) : fX14_readLine 5000 Mm Lm Rm = fX14_readPlace 5000 Mm Lm Rm := by
  have hn : ∀ i, i < 1 → ¬ Lm 102 17 = kw i := fun i hi => kR_ne (by omega)
  have hy : Lm 102 17 = kw 1 := by have := kR_eq (w := Lm 102 17) (by omega); rw [hk] at this; exact this
  unfold fX14_readLine
  rw [show fX14_isWord 5000 Mm Lm 1000130 = some 0 from mNo (i := 0) (by decide) h9 (hn 0 (by decide)), gBd, if_pos rfl, show fX14_isWord 5000 Mm Lm 1000131 = some 1 from mYes (i := 1) (by decide) h9 hy, gBd, if_neg (by decide), goB2_id]
theorem mLn_path (h9 : Mm 102 9 = 2) (hk : kR (Lm 102 17) = 2) : fX14_readLine 5000 Mm Lm Rm = fX14_readPath 5000 Mm Lm Rm := by
  have hn : ∀ i, i < 2 → ¬ Lm 102 17 = kw i := fun i hi => kR_ne (by omega)
  have hy : Lm 102 17 = kw 2 := by have := kR_eq (w := Lm 102 17) (by omega); rw [hk] at this; exact this
  unfold fX14_readLine
  rw [show fX14_isWord 5000 Mm Lm 1000130 = some 0 from mNo (i := 0) (by decide) h9 (hn 0 (by decide)), gBd, if_pos rfl, show fX14_isWord 5000 Mm Lm 1000131 = some 0 from mNo (i := 1) (by decide) h9 (hn 1 (by decide)), gBd, if_pos rfl, show fX14_isWord 5000 Mm Lm 1000132 = some 1 from mYes (i := 2) (by decide) h9 hy, gBd, if_neg (by decide), goB2_id]
theorem mLn_person (h9 : Mm 102 9 = 2) (hk : kR (Lm 102 17) = 3) : fX14_readLine 5000 Mm Lm Rm = fX14_readPerson 5000 Mm Lm Rm := by
  have hn : ∀ i, i < 3 → ¬ Lm 102 17 = kw i := fun i hi => kR_ne (by omega)
  have hy : Lm 102 17 = kw 3 := by have := kR_eq (w := Lm 102 17) (by omega); rw [hk] at this; exact this
  unfold fX14_readLine
  rw [show fX14_isWord 5000 Mm Lm 1000130 = some 0 from mNo (i := 0) (by decide) h9 (hn 0 (by decide)), gBd, if_pos rfl, show fX14_isWord 5000 Mm Lm 1000131 = some 0 from mNo (i := 1) (by decide) h9 (hn 1 (by decide)), gBd, if_pos rfl, show fX14_isWord 5000 Mm Lm 1000132 = some 0 from mNo (i := 2) (by decide) h9 (hn 2 (by decide)), gBd, if_pos rfl, show fX14_isWord 5000 Mm Lm 1000133 = some 1 from mYes (i := 3) (by decide) h9 hy, gBd, if_neg (by decide), goB2_id]
theorem mLn_story (h9 : Mm 102 9 = 2) (hk : kR (Lm 102 17) = 4) : fX14_readLine 5000 Mm Lm Rm = fX14_readStory 5000 Mm Lm Rm := by
  have hn : ∀ i, i < 4 → ¬ Lm 102 17 = kw i := fun i hi => kR_ne (by omega)
  have hy : Lm 102 17 = kw 4 := by have := kR_eq (w := Lm 102 17) (by omega); rw [hk] at this; exact this
  unfold fX14_readLine
  rw [show fX14_isWord 5000 Mm Lm 1000130 = some 0 from mNo (i := 0) (by decide) h9 (hn 0 (by decide)), gBd, if_pos rfl, show fX14_isWord 5000 Mm Lm 1000131 = some 0 from mNo (i := 1) (by decide) h9 (hn 1 (by decide)), gBd, if_pos rfl, show fX14_isWord 5000 Mm Lm 1000132 = some 0 from mNo (i := 2) (by decide) h9 (hn 2 (by decide)), gBd, if_pos rfl, show fX14_isWord 5000 Mm Lm 1000133 = some 0 from mNo (i := 3) (by decide) h9 (hn 3 (by decide)), gBd, if_pos rfl, show fX14_isWord 5000 Mm Lm 1000134 = some 1 from mYes (i := 4) (by decide) h9 hy, gBd, if_neg (by decide), goB2_id]
theorem mLn_goat (h9 : Mm 102 9 = 2) (hk : kR (Lm 102 17) = 5) : fX14_readLine 5000 Mm Lm Rm = fX14_readGoat 5000 Mm Lm Rm := by
  have hn : ∀ i, i < 5 → ¬ Lm 102 17 = kw i := fun i hi => kR_ne (by omega)
  have hy : Lm 102 17 = kw 5 := by have := kR_eq (w := Lm 102 17) (by omega); rw [hk] at this; exact this
  unfold fX14_readLine
  rw [show fX14_isWord 5000 Mm Lm 1000130 = some 0 from mNo (i := 0) (by decide) h9 (hn 0 (by decide)), gBd, if_pos rfl, show fX14_isWord 5000 Mm Lm 1000131 = some 0 from mNo (i := 1) (by decide) h9 (hn 1 (by decide)), gBd, if_pos rfl, show fX14_isWord 5000 Mm Lm 1000132 = some 0 from mNo (i := 2) (by decide) h9 (hn 2 (by decide)), gBd, if_pos rfl, show fX14_isWord 5000 Mm Lm 1000133 = some 0 from mNo (i := 3) (by decide) h9 (hn 3 (by decide)), gBd, if_pos rfl, show fX14_isWord 5000 Mm Lm 1000134 = some 0 from mNo (i := 4) (by decide) h9 (hn 4 (by decide)), gBd, if_pos rfl, show fX14_isWord 5000 Mm Lm 1000135 = some 1 from mYes (i := 5) (by decide) h9 hy, gBd, if_neg (by decide), goB2_id]
theorem mLn_fears (h9 : Mm 102 9 = 2) (hk : kR (Lm 102 17) = 6) : fX14_readLine 5000 Mm Lm Rm = fX14_readFears 5000 Mm Lm Rm := by
  have hn : ∀ i, i < 6 → ¬ Lm 102 17 = kw i := fun i hi => kR_ne (by omega)
  have hy : Lm 102 17 = kw 6 := by have := kR_eq (w := Lm 102 17) (by omega); rw [hk] at this; exact this
  unfold fX14_readLine
  rw [show fX14_isWord 5000 Mm Lm 1000130 = some 0 from mNo (i := 0) (by decide) h9 (hn 0 (by decide)), gBd, if_pos rfl, show fX14_isWord 5000 Mm Lm 1000131 = some 0 from mNo (i := 1) (by decide) h9 (hn 1 (by decide)), gBd, if_pos rfl, show fX14_isWord 5000 Mm Lm 1000132 = some 0 from mNo (i := 2) (by decide) h9 (hn 2 (by decide)), gBd, if_pos rfl, show fX14_isWord 5000 Mm Lm 1000133 = some 0 from mNo (i := 3) (by decide) h9 (hn 3 (by decide)), gBd, if_pos rfl, show fX14_isWord 5000 Mm Lm 1000134 = some 0 from mNo (i := 4) (by decide) h9 (hn 4 (by decide)), gBd, if_pos rfl, show fX14_isWord 5000 Mm Lm 1000135 = some 0 from mNo (i := 5) (by decide) h9 (hn 5 (by decide)), gBd, if_pos rfl, show fX14_isWord 5000 Mm Lm 1000136 = some 1 from mYes (i := 6) (by decide) h9 hy, gBd, if_neg (by decide), goB2_id]
theorem mLn_found (h9 : Mm 102 9 = 2) (hk : kR (Lm 102 17) = 7) : fX14_readLine 5000 Mm Lm Rm = fX14_readClue 5000 Mm Lm Rm 0 := by
  have hn : ∀ i, i < 7 → ¬ Lm 102 17 = kw i := fun i hi => kR_ne (by omega)
  have hy : Lm 102 17 = kw 7 := by have := kR_eq (w := Lm 102 17) (by omega); rw [hk] at this; exact this
  unfold fX14_readLine
  rw [show fX14_isWord 5000 Mm Lm 1000130 = some 0 from mNo (i := 0) (by decide) h9 (hn 0 (by decide)), gBd, if_pos rfl, show fX14_isWord 5000 Mm Lm 1000131 = some 0 from mNo (i := 1) (by decide) h9 (hn 1 (by decide)), gBd, if_pos rfl, show fX14_isWord 5000 Mm Lm 1000132 = some 0 from mNo (i := 2) (by decide) h9 (hn 2 (by decide)), gBd, if_pos rfl, show fX14_isWord 5000 Mm Lm 1000133 = some 0 from mNo (i := 3) (by decide) h9 (hn 3 (by decide)), gBd, if_pos rfl, show fX14_isWord 5000 Mm Lm 1000134 = some 0 from mNo (i := 4) (by decide) h9 (hn 4 (by decide)), gBd, if_pos rfl, show fX14_isWord 5000 Mm Lm 1000135 = some 0 from mNo (i := 5) (by decide) h9 (hn 5 (by decide)), gBd, if_pos rfl, show fX14_isWord 5000 Mm Lm 1000136 = some 0 from mNo (i := 6) (by decide) h9 (hn 6 (by decide)), gBd, if_pos rfl, show fX14_isWord 5000 Mm Lm 1000137 = some 1 from mYes (i := 7) (by decide) h9 hy, gBd, if_neg (by decide), goB2_id]
theorem mLn_seen (h9 : Mm 102 9 = 2) (hk : kR (Lm 102 17) = 8) : fX14_readLine 5000 Mm Lm Rm = fX14_readClue 5000 Mm Lm Rm 1 := by
  have hn : ∀ i, i < 8 → ¬ Lm 102 17 = kw i := fun i hi => kR_ne (by omega)
  have hy : Lm 102 17 = kw 8 := by have := kR_eq (w := Lm 102 17) (by omega); rw [hk] at this; exact this
  unfold fX14_readLine
  rw [show fX14_isWord 5000 Mm Lm 1000130 = some 0 from mNo (i := 0) (by decide) h9 (hn 0 (by decide)), gBd, if_pos rfl, show fX14_isWord 5000 Mm Lm 1000131 = some 0 from mNo (i := 1) (by decide) h9 (hn 1 (by decide)), gBd, if_pos rfl, show fX14_isWord 5000 Mm Lm 1000132 = some 0 from mNo (i := 2) (by decide) h9 (hn 2 (by decide)), gBd, if_pos rfl, show fX14_isWord 5000 Mm Lm 1000133 = some 0 from mNo (i := 3) (by decide) h9 (hn 3 (by decide)), gBd, if_pos rfl, show fX14_isWord 5000 Mm Lm 1000134 = some 0 from mNo (i := 4) (by decide) h9 (hn 4 (by decide)), gBd, if_pos rfl, show fX14_isWord 5000 Mm Lm 1000135 = some 0 from mNo (i := 5) (by decide) h9 (hn 5 (by decide)), gBd, if_pos rfl, show fX14_isWord 5000 Mm Lm 1000136 = some 0 from mNo (i := 6) (by decide) h9 (hn 6 (by decide)), gBd, if_pos rfl, show fX14_isWord 5000 Mm Lm 1000137 = some 0 from mNo (i := 7) (by decide) h9 (hn 7 (by decide)), gBd, if_pos rfl, show fX14_isWord 5000 Mm Lm 1000138 = some 1 from mYes (i := 8) (by decide) h9 hy, gBd, if_neg (by decide), goB2_id]
theorem mLn_shied (h9 : Mm 102 9 = 2) (hk : kR (Lm 102 17) = 9) : fX14_readLine 5000 Mm Lm Rm = fX14_readClue 5000 Mm Lm Rm 2 := by
  have hn : ∀ i, i < 9 → ¬ Lm 102 17 = kw i := fun i hi => kR_ne (by omega)
  have hy : Lm 102 17 = kw 9 := by have := kR_eq (w := Lm 102 17) (by omega); rw [hk] at this; exact this
  unfold fX14_readLine
  rw [show fX14_isWord 5000 Mm Lm 1000130 = some 0 from mNo (i := 0) (by decide) h9 (hn 0 (by decide)), gBd, if_pos rfl, show fX14_isWord 5000 Mm Lm 1000131 = some 0 from mNo (i := 1) (by decide) h9 (hn 1 (by decide)), gBd, if_pos rfl, show fX14_isWord 5000 Mm Lm 1000132 = some 0 from mNo (i := 2) (by decide) h9 (hn 2 (by decide)), gBd, if_pos rfl, show fX14_isWord 5000 Mm Lm 1000133 = some 0 from mNo (i := 3) (by decide) h9 (hn 3 (by decide)), gBd, if_pos rfl, show fX14_isWord 5000 Mm Lm 1000134 = some 0 from mNo (i := 4) (by decide) h9 (hn 4 (by decide)), gBd, if_pos rfl, show fX14_isWord 5000 Mm Lm 1000135 = some 0 from mNo (i := 5) (by decide) h9 (hn 5 (by decide)), gBd, if_pos rfl, show fX14_isWord 5000 Mm Lm 1000136 = some 0 from mNo (i := 6) (by decide) h9 (hn 6 (by decide)), gBd, if_pos rfl, show fX14_isWord 5000 Mm Lm 1000137 = some 0 from mNo (i := 7) (by decide) h9 (hn 7 (by decide)), gBd, if_pos rfl, show fX14_isWord 5000 Mm Lm 1000138 = some 0 from mNo (i := 8) (by decide) h9 (hn 8 (by decide)), gBd, if_pos rfl, show fX14_isWord 5000 Mm Lm 1000139 = some 1 from mYes (i := 9) (by decide) h9 hy, gBd, if_neg (by decide), goB2_id]
theorem mLn_fact (h9 : Mm 102 9 = 2) (hk : kR (Lm 102 17) = 10) : fX14_readLine 5000 Mm Lm Rm = fX14_readFact 5000 Mm Lm Rm := by
  have hn : ∀ i, i < 10 → ¬ Lm 102 17 = kw i := fun i hi => kR_ne (by omega)
  have hy : Lm 102 17 = kw 10 := by have := kR_eq (w := Lm 102 17) (by omega); rw [hk] at this; exact this
  unfold fX14_readLine
  rw [show fX14_isWord 5000 Mm Lm 1000130 = some 0 from mNo (i := 0) (by decide) h9 (hn 0 (by decide)), gBd, if_pos rfl, show fX14_isWord 5000 Mm Lm 1000131 = some 0 from mNo (i := 1) (by decide) h9 (hn 1 (by decide)), gBd, if_pos rfl, show fX14_isWord 5000 Mm Lm 1000132 = some 0 from mNo (i := 2) (by decide) h9 (hn 2 (by decide)), gBd, if_pos rfl, show fX14_isWord 5000 Mm Lm 1000133 = some 0 from mNo (i := 3) (by decide) h9 (hn 3 (by decide)), gBd, if_pos rfl, show fX14_isWord 5000 Mm Lm 1000134 = some 0 from mNo (i := 4) (by decide) h9 (hn 4 (by decide)), gBd, if_pos rfl, show fX14_isWord 5000 Mm Lm 1000135 = some 0 from mNo (i := 5) (by decide) h9 (hn 5 (by decide)), gBd, if_pos rfl, show fX14_isWord 5000 Mm Lm 1000136 = some 0 from mNo (i := 6) (by decide) h9 (hn 6 (by decide)), gBd, if_pos rfl, show fX14_isWord 5000 Mm Lm 1000137 = some 0 from mNo (i := 7) (by decide) h9 (hn 7 (by decide)), gBd, if_pos rfl, show fX14_isWord 5000 Mm Lm 1000138 = some 0 from mNo (i := 8) (by decide) h9 (hn 8 (by decide)), gBd, if_pos rfl, show fX14_isWord 5000 Mm Lm 1000139 = some 0 from mNo (i := 9) (by decide) h9 (hn 9 (by decide)), gBd, if_pos rfl, show fX14_isWord 5000 Mm Lm 1000140 = some 1 from mYes (i := 10) (by decide) h9 hy, gBd, if_neg (by decide), goB2_id]
theorem mLn_holds (h9 : Mm 102 9 = 2) (hk : kR (Lm 102 17) = 11) : fX14_readLine 5000 Mm Lm Rm = fX14_readHolds 5000 Mm Lm Rm := by
  have hn : ∀ i, i < 11 → ¬ Lm 102 17 = kw i := fun i hi => kR_ne (by omega)
  have hy : Lm 102 17 = kw 11 := by have := kR_eq (w := Lm 102 17) (by omega); rw [hk] at this; exact this
  unfold fX14_readLine
  rw [show fX14_isWord 5000 Mm Lm 1000130 = some 0 from mNo (i := 0) (by decide) h9 (hn 0 (by decide)), gBd, if_pos rfl, show fX14_isWord 5000 Mm Lm 1000131 = some 0 from mNo (i := 1) (by decide) h9 (hn 1 (by decide)), gBd, if_pos rfl, show fX14_isWord 5000 Mm Lm 1000132 = some 0 from mNo (i := 2) (by decide) h9 (hn 2 (by decide)), gBd, if_pos rfl, show fX14_isWord 5000 Mm Lm 1000133 = some 0 from mNo (i := 3) (by decide) h9 (hn 3 (by decide)), gBd, if_pos rfl, show fX14_isWord 5000 Mm Lm 1000134 = some 0 from mNo (i := 4) (by decide) h9 (hn 4 (by decide)), gBd, if_pos rfl, show fX14_isWord 5000 Mm Lm 1000135 = some 0 from mNo (i := 5) (by decide) h9 (hn 5 (by decide)), gBd, if_pos rfl, show fX14_isWord 5000 Mm Lm 1000136 = some 0 from mNo (i := 6) (by decide) h9 (hn 6 (by decide)), gBd, if_pos rfl, show fX14_isWord 5000 Mm Lm 1000137 = some 0 from mNo (i := 7) (by decide) h9 (hn 7 (by decide)), gBd, if_pos rfl, show fX14_isWord 5000 Mm Lm 1000138 = some 0 from mNo (i := 8) (by decide) h9 (hn 8 (by decide)), gBd, if_pos rfl, show fX14_isWord 5000 Mm Lm 1000139 = some 0 from mNo (i := 9) (by decide) h9 (hn 9 (by decide)), gBd, if_pos rfl, show fX14_isWord 5000 Mm Lm 1000140 = some 0 from mNo (i := 10) (by decide) h9 (hn 10 (by decide)), gBd, if_pos rfl, show fX14_isWord 5000 Mm Lm 1000141 = some 1 from mYes (i := 11) (by decide) h9 hy, gBd, if_neg (by decide), goB2_id]
theorem mLn_rule (h9 : Mm 102 9 = 2) (hk : kR (Lm 102 17) = 12) : fX14_readLine 5000 Mm Lm Rm = fX14_readRule 5000 Mm Lm Rm := by
  have hn : ∀ i, i < 12 → ¬ Lm 102 17 = kw i := fun i hi => kR_ne (by omega)
  have hy : Lm 102 17 = kw 12 := by have := kR_eq (w := Lm 102 17) (by omega); rw [hk] at this; exact this
  unfold fX14_readLine
  rw [show fX14_isWord 5000 Mm Lm 1000130 = some 0 from mNo (i := 0) (by decide) h9 (hn 0 (by decide)), gBd, if_pos rfl, show fX14_isWord 5000 Mm Lm 1000131 = some 0 from mNo (i := 1) (by decide) h9 (hn 1 (by decide)), gBd, if_pos rfl, show fX14_isWord 5000 Mm Lm 1000132 = some 0 from mNo (i := 2) (by decide) h9 (hn 2 (by decide)), gBd, if_pos rfl, show fX14_isWord 5000 Mm Lm 1000133 = some 0 from mNo (i := 3) (by decide) h9 (hn 3 (by decide)), gBd, if_pos rfl, show fX14_isWord 5000 Mm Lm 1000134 = some 0 from mNo (i := 4) (by decide) h9 (hn 4 (by decide)), gBd, if_pos rfl, show fX14_isWord 5000 Mm Lm 1000135 = some 0 from mNo (i := 5) (by decide) h9 (hn 5 (by decide)), gBd, if_pos rfl, show fX14_isWord 5000 Mm Lm 1000136 = some 0 from mNo (i := 6) (by decide) h9 (hn 6 (by decide)), gBd, if_pos rfl, show fX14_isWord 5000 Mm Lm 1000137 = some 0 from mNo (i := 7) (by decide) h9 (hn 7 (by decide)), gBd, if_pos rfl, show fX14_isWord 5000 Mm Lm 1000138 = some 0 from mNo (i := 8) (by decide) h9 (hn 8 (by decide)), gBd, if_pos rfl, show fX14_isWord 5000 Mm Lm 1000139 = some 0 from mNo (i := 9) (by decide) h9 (hn 9 (by decide)), gBd, if_pos rfl, show fX14_isWord 5000 Mm Lm 1000140 = some 0 from mNo (i := 10) (by decide) h9 (hn 10 (by decide)), gBd, if_pos rfl, show fX14_isWord 5000 Mm Lm 1000141 = some 0 from mNo (i := 11) (by decide) h9 (hn 11 (by decide)), gBd, if_pos rfl, show fX14_isWord 5000 Mm Lm 1000142 = some 1 from mYes (i := 12) (by decide) h9 hy, gBd, if_neg (by decide), goB2_id]
theorem mLn_proof (h9 : Mm 102 9 = 2) (hk : kR (Lm 102 17) = 13) : fX14_readLine 5000 Mm Lm Rm = fX14_readProof 5000 Mm Lm Rm := by
  have hn : ∀ i, i < 13 → ¬ Lm 102 17 = kw i := fun i hi => kR_ne (by omega)
  have hy : Lm 102 17 = kw 13 := by have := kR_eq (w := Lm 102 17) (by omega); rw [hk] at this; exact this
  unfold fX14_readLine
  rw [show fX14_isWord 5000 Mm Lm 1000130 = some 0 from mNo (i := 0) (by decide) h9 (hn 0 (by decide)), gBd, if_pos rfl, show fX14_isWord 5000 Mm Lm 1000131 = some 0 from mNo (i := 1) (by decide) h9 (hn 1 (by decide)), gBd, if_pos rfl, show fX14_isWord 5000 Mm Lm 1000132 = some 0 from mNo (i := 2) (by decide) h9 (hn 2 (by decide)), gBd, if_pos rfl, show fX14_isWord 5000 Mm Lm 1000133 = some 0 from mNo (i := 3) (by decide) h9 (hn 3 (by decide)), gBd, if_pos rfl, show fX14_isWord 5000 Mm Lm 1000134 = some 0 from mNo (i := 4) (by decide) h9 (hn 4 (by decide)), gBd, if_pos rfl, show fX14_isWord 5000 Mm Lm 1000135 = some 0 from mNo (i := 5) (by decide) h9 (hn 5 (by decide)), gBd, if_pos rfl, show fX14_isWord 5000 Mm Lm 1000136 = some 0 from mNo (i := 6) (by decide) h9 (hn 6 (by decide)), gBd, if_pos rfl, show fX14_isWord 5000 Mm Lm 1000137 = some 0 from mNo (i := 7) (by decide) h9 (hn 7 (by decide)), gBd, if_pos rfl, show fX14_isWord 5000 Mm Lm 1000138 = some 0 from mNo (i := 8) (by decide) h9 (hn 8 (by decide)), gBd, if_pos rfl, show fX14_isWord 5000 Mm Lm 1000139 = some 0 from mNo (i := 9) (by decide) h9 (hn 9 (by decide)), gBd, if_pos rfl, show fX14_isWord 5000 Mm Lm 1000140 = some 0 from mNo (i := 10) (by decide) h9 (hn 10 (by decide)), gBd, if_pos rfl, show fX14_isWord 5000 Mm Lm 1000141 = some 0 from mNo (i := 11) (by decide) h9 (hn 11 (by decide)), gBd, if_pos rfl, show fX14_isWord 5000 Mm Lm 1000142 = some 0 from mNo (i := 12) (by decide) h9 (hn 12 (by decide)), gBd, if_pos rfl, show fX14_isWord 5000 Mm Lm 1000143 = some 1 from mYes (i := 13) (by decide) h9 hy, gBd, if_neg (by decide), goB2_id]
theorem mLn_court (h9 : Mm 102 9 = 2) (hk : kR (Lm 102 17) = 14) : fX14_readLine 5000 Mm Lm Rm = fX14_readCourt 5000 Mm Lm Rm := by
  have hn : ∀ i, i < 14 → ¬ Lm 102 17 = kw i := fun i hi => kR_ne (by omega)
  have hy : Lm 102 17 = kw 14 := by have := kR_eq (w := Lm 102 17) (by omega); rw [hk] at this; exact this
  unfold fX14_readLine
  rw [show fX14_isWord 5000 Mm Lm 1000130 = some 0 from mNo (i := 0) (by decide) h9 (hn 0 (by decide)), gBd, if_pos rfl, show fX14_isWord 5000 Mm Lm 1000131 = some 0 from mNo (i := 1) (by decide) h9 (hn 1 (by decide)), gBd, if_pos rfl, show fX14_isWord 5000 Mm Lm 1000132 = some 0 from mNo (i := 2) (by decide) h9 (hn 2 (by decide)), gBd, if_pos rfl, show fX14_isWord 5000 Mm Lm 1000133 = some 0 from mNo (i := 3) (by decide) h9 (hn 3 (by decide)), gBd, if_pos rfl, show fX14_isWord 5000 Mm Lm 1000134 = some 0 from mNo (i := 4) (by decide) h9 (hn 4 (by decide)), gBd, if_pos rfl, show fX14_isWord 5000 Mm Lm 1000135 = some 0 from mNo (i := 5) (by decide) h9 (hn 5 (by decide)), gBd, if_pos rfl, show fX14_isWord 5000 Mm Lm 1000136 = some 0 from mNo (i := 6) (by decide) h9 (hn 6 (by decide)), gBd, if_pos rfl, show fX14_isWord 5000 Mm Lm 1000137 = some 0 from mNo (i := 7) (by decide) h9 (hn 7 (by decide)), gBd, if_pos rfl, show fX14_isWord 5000 Mm Lm 1000138 = some 0 from mNo (i := 8) (by decide) h9 (hn 8 (by decide)), gBd, if_pos rfl, show fX14_isWord 5000 Mm Lm 1000139 = some 0 from mNo (i := 9) (by decide) h9 (hn 9 (by decide)), gBd, if_pos rfl, show fX14_isWord 5000 Mm Lm 1000140 = some 0 from mNo (i := 10) (by decide) h9 (hn 10 (by decide)), gBd, if_pos rfl, show fX14_isWord 5000 Mm Lm 1000141 = some 0 from mNo (i := 11) (by decide) h9 (hn 11 (by decide)), gBd, if_pos rfl, show fX14_isWord 5000 Mm Lm 1000142 = some 0 from mNo (i := 12) (by decide) h9 (hn 12 (by decide)), gBd, if_pos rfl, show fX14_isWord 5000 Mm Lm 1000143 = some 0 from mNo (i := 13) (by decide) h9 (hn 13 (by decide)), gBd, if_pos rfl, show fX14_isWord 5000 Mm Lm 1000144 = some 1 from mYes (i := 14) (by decide) h9 hy, gBd, if_neg (by decide), goB2_id]
theorem mLn_cheese (h9 : Mm 102 9 = 2) (hk : kR (Lm 102 17) = 15) : fX14_readLine 5000 Mm Lm Rm = fX14_readCheese 5000 Mm Lm Rm := by
  have hn : ∀ i, i < 15 → ¬ Lm 102 17 = kw i := fun i hi => kR_ne (by omega)
  have hy : Lm 102 17 = kw 15 := by have := kR_eq (w := Lm 102 17) (by omega); rw [hk] at this; exact this
  unfold fX14_readLine
  rw [show fX14_isWord 5000 Mm Lm 1000130 = some 0 from mNo (i := 0) (by decide) h9 (hn 0 (by decide)), gBd, if_pos rfl, show fX14_isWord 5000 Mm Lm 1000131 = some 0 from mNo (i := 1) (by decide) h9 (hn 1 (by decide)), gBd, if_pos rfl, show fX14_isWord 5000 Mm Lm 1000132 = some 0 from mNo (i := 2) (by decide) h9 (hn 2 (by decide)), gBd, if_pos rfl, show fX14_isWord 5000 Mm Lm 1000133 = some 0 from mNo (i := 3) (by decide) h9 (hn 3 (by decide)), gBd, if_pos rfl, show fX14_isWord 5000 Mm Lm 1000134 = some 0 from mNo (i := 4) (by decide) h9 (hn 4 (by decide)), gBd, if_pos rfl, show fX14_isWord 5000 Mm Lm 1000135 = some 0 from mNo (i := 5) (by decide) h9 (hn 5 (by decide)), gBd, if_pos rfl, show fX14_isWord 5000 Mm Lm 1000136 = some 0 from mNo (i := 6) (by decide) h9 (hn 6 (by decide)), gBd, if_pos rfl, show fX14_isWord 5000 Mm Lm 1000137 = some 0 from mNo (i := 7) (by decide) h9 (hn 7 (by decide)), gBd, if_pos rfl, show fX14_isWord 5000 Mm Lm 1000138 = some 0 from mNo (i := 8) (by decide) h9 (hn 8 (by decide)), gBd, if_pos rfl, show fX14_isWord 5000 Mm Lm 1000139 = some 0 from mNo (i := 9) (by decide) h9 (hn 9 (by decide)), gBd, if_pos rfl, show fX14_isWord 5000 Mm Lm 1000140 = some 0 from mNo (i := 10) (by decide) h9 (hn 10 (by decide)), gBd, if_pos rfl, show fX14_isWord 5000 Mm Lm 1000141 = some 0 from mNo (i := 11) (by decide) h9 (hn 11 (by decide)), gBd, if_pos rfl, show fX14_isWord 5000 Mm Lm 1000142 = some 0 from mNo (i := 12) (by decide) h9 (hn 12 (by decide)), gBd, if_pos rfl, show fX14_isWord 5000 Mm Lm 1000143 = some 0 from mNo (i := 13) (by decide) h9 (hn 13 (by decide)), gBd, if_pos rfl, show fX14_isWord 5000 Mm Lm 1000144 = some 0 from mNo (i := 14) (by decide) h9 (hn 14 (by decide)), gBd, if_pos rfl, show fX14_isWord 5000 Mm Lm 1000145 = some 1 from mYes (i := 15) (by decide) h9 hy, gBd, if_neg (by decide), goB2_id]
theorem mLn_none (h9 : Mm 102 9 = 2) (hk : 16 ≤ kR (Lm 102 17)) : fX14_readLine 5000 Mm Lm Rm = Option.bind (fX14_flaw Mm 1) fun M59 => some (M59, Lm) := by
  have hn : ∀ i, i < 16 → ¬ Lm 102 17 = kw i := fun i hi => kR_ne (by omega)
  unfold fX14_readLine
  rw [show fX14_isWord 5000 Mm Lm 1000130 = some 0 from mNo (i := 0) (by decide) h9 (hn 0 (by decide)), gBd, if_pos rfl, show fX14_isWord 5000 Mm Lm 1000131 = some 0 from mNo (i := 1) (by decide) h9 (hn 1 (by decide)), gBd, if_pos rfl, show fX14_isWord 5000 Mm Lm 1000132 = some 0 from mNo (i := 2) (by decide) h9 (hn 2 (by decide)), gBd, if_pos rfl, show fX14_isWord 5000 Mm Lm 1000133 = some 0 from mNo (i := 3) (by decide) h9 (hn 3 (by decide)), gBd, if_pos rfl, show fX14_isWord 5000 Mm Lm 1000134 = some 0 from mNo (i := 4) (by decide) h9 (hn 4 (by decide)), gBd, if_pos rfl, show fX14_isWord 5000 Mm Lm 1000135 = some 0 from mNo (i := 5) (by decide) h9 (hn 5 (by decide)), gBd, if_pos rfl, show fX14_isWord 5000 Mm Lm 1000136 = some 0 from mNo (i := 6) (by decide) h9 (hn 6 (by decide)), gBd, if_pos rfl, show fX14_isWord 5000 Mm Lm 1000137 = some 0 from mNo (i := 7) (by decide) h9 (hn 7 (by decide)), gBd, if_pos rfl, show fX14_isWord 5000 Mm Lm 1000138 = some 0 from mNo (i := 8) (by decide) h9 (hn 8 (by decide)), gBd, if_pos rfl, show fX14_isWord 5000 Mm Lm 1000139 = some 0 from mNo (i := 9) (by decide) h9 (hn 9 (by decide)), gBd, if_pos rfl, show fX14_isWord 5000 Mm Lm 1000140 = some 0 from mNo (i := 10) (by decide) h9 (hn 10 (by decide)), gBd, if_pos rfl, show fX14_isWord 5000 Mm Lm 1000141 = some 0 from mNo (i := 11) (by decide) h9 (hn 11 (by decide)), gBd, if_pos rfl, show fX14_isWord 5000 Mm Lm 1000142 = some 0 from mNo (i := 12) (by decide) h9 (hn 12 (by decide)), gBd, if_pos rfl, show fX14_isWord 5000 Mm Lm 1000143 = some 0 from mNo (i := 13) (by decide) h9 (hn 13 (by decide)), gBd, if_pos rfl, show fX14_isWord 5000 Mm Lm 1000144 = some 0 from mNo (i := 14) (by decide) h9 (hn 14 (by decide)), gBd, if_pos rfl, show fX14_isWord 5000 Mm Lm 1000145 = some 0 from mNo (i := 15) (by decide) h9 (hn 15 (by decide)), gBd, if_pos rfl]
theorem mLn_0 (h9 : ¬ Mm 102 9 = 2) : fX14_readLine 5000 Mm Lm Rm = Option.bind (fX14_flaw Mm 1) fun M59 => some (M59, Lm) := by
  unfold fX14_readLine
  rw [mIsWord0 (a := 1000130) h9, gBd, if_pos rfl, mIsWord0 (a := 1000131) h9, gBd, if_pos rfl, mIsWord0 (a := 1000132) h9, gBd, if_pos rfl, mIsWord0 (a := 1000133) h9, gBd, if_pos rfl, mIsWord0 (a := 1000134) h9, gBd, if_pos rfl, mIsWord0 (a := 1000135) h9, gBd, if_pos rfl, mIsWord0 (a := 1000136) h9, gBd, if_pos rfl, mIsWord0 (a := 1000137) h9, gBd, if_pos rfl, mIsWord0 (a := 1000138) h9, gBd, if_pos rfl, mIsWord0 (a := 1000139) h9, gBd, if_pos rfl, mIsWord0 (a := 1000140) h9, gBd, if_pos rfl, mIsWord0 (a := 1000141) h9, gBd, if_pos rfl, mIsWord0 (a := 1000142) h9, gBd, if_pos rfl, mIsWord0 (a := 1000143) h9, gBd, if_pos rfl, mIsWord0 (a := 1000144) h9, gBd, if_pos rfl, mIsWord0 (a := 1000145) h9, gBd, if_pos rfl]
end lines31
