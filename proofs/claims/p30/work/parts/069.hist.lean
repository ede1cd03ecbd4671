/-! COPIES OF ROWS; THE HISTORY; WHAT IS REMOVED AND PUT BACK -/
/-- the first n numbers of row i of o stand in row j of f -/
def cpk (f : Int → Int) (j : Int) (o : Int → Int) (i n : Int) : Int → Int := fun x => if 706 * j ≤ x ∧ x < 706 * j + n then o (x - 706 * j + 706 * i) else f x
theorem cpk_0 (f : Int → Int) (j : Int) (o : Int → Int) (i : Int) : cpk f j o i 0 = f := by
  funext x; unfold cpk; rw [if_neg (by omega)]
theorem cpk_s (f : Int → Int) (j : Int) (o : Int → Int) (i : Int) {n y v : Int} (h : 0 ≤ n) (hy : y = 706 * j + n) (hv : v = o (706 * i + n)) : uI (cpk f j o i n) y v = cpk f j o i (n + 1) := by
  subst hy hv
  funext x
  unfold uI cpk
  by_cases e : x = 706 * j + n
  · rw [if_pos e, if_pos (by omega)]
    congr 1
    omega
  · rw [if_neg e]
    by_cases e2 : 706 * j ≤ x ∧ x < 706 * j + n
    · rw [if_pos e2, if_pos (by omega)]
    · rw [if_neg e2, if_neg (by omega)]
theorem cpk_o (f : Int → Int) (j : Int) (o : Int → Int) (i : Int) {n x : Int} (h : x < 706 * j ∨ 706 * j + n ≤ x) : cpk f j o i n x = f x := by
  unfold cpk; rw [if_neg (by omega)]
/-- the first n rows are those above them -/
def hsh (f : Int → Int) (n : Int) : Int → Int := fun x => if 0 ≤ x ∧ x < 706 * n then f (x + 706) else f x
theorem hsh_0 (f : Int → Int) : hsh f 0 = f := by
  funext x; unfold hsh; rw [if_neg (by omega)]
theorem hsh_s (f : Int → Int) {n i k : Int} (h : 0 ≤ n) (hi : i = n + 1) (hk : k = n + 1) : cpk (hsh f n) n (hsh f n) i 706 = hsh f k := by
  subst hi hk
  funext x
  unfold cpk hsh
  by_cases e : 706 * n ≤ x ∧ x < 706 * n + 706
  · rw [if_pos e, if_neg (by omega), if_pos (by omega)]
    congr 1
    omega
  · rw [if_neg e]
    by_cases e2 : 0 ≤ x ∧ x < 706 * n
    · rw [if_pos e2, if_pos (by omega)]
    · rw [if_neg e2, if_neg (by omega)]
def kpH (hi : Int → Int) (dp : Int) (sa : Int → Int) : Int → Int := if dp = 10 then cpk (hsh hi 9) 9 sa 0 706 else cpk hi dp sa 0 706
def kpD (dp : Int) : Int := if dp = 10 then 10 else dp + 1
theorem kpH_1 {hi sa : Int → Int} {dp d : Int} (h : dp = 10) (hd : d = 9) : cpk (hsh hi 9) d sa 0 706 = kpH hi dp sa := by
  rw [hd]; exact (if_pos h).symm
theorem kpH_0 {hi sa : Int → Int} {dp d : Int} (h : dp ≠ 10) (hd : d = dp) : cpk hi d sa 0 706 = kpH hi dp sa := by
  rw [hd]; exact (if_neg h).symm
section RMV
variable {sa td s2 x : Int → Int} {T C : Nat → Int → Int} {J : Int → Int}
/-- halves of sheets f to f + k - 1 -/
abbrev haf (C : Nat → Int → Int) (f k : Int) : Int := sI (fun i => C 3 (f + i)) k
/-- sheets f to f + k - 1 removed -/
def rmA (C : Nat → Int → Int) (f k : Int) : Nat → Int → Int := st (st (st C 0 (fil (C 0) f (f + k) 6)) 9 (uI (C 9) 6 (C 9 6 + sI (fun i => C 3 (f + i)) k))) 3 (fil (C 3) f (f + k) 0)
def rmC (C : Nat → Int → Int) : Nat → Int → Int := clr (rmA C (C 11 0 - C 11 1) (C 11 1))
theorem rm_0 {f : Int} (h : RJ x T C J) : RJ x T (rmA C f 0) J := by
  refine RJ_cg h ?_ rfl rfl ?_ rfl rfl rfl rfl rfl ?_ rfl rfl
  · exact (fil_0 _ _ _ _ (by omega)).symm
  · exact (fil_0 _ _ _ _ (by omega)).symm
  · exact (uI_id (show C 9 6 + 0 = C 9 6 by omega)).symm
theorem rm_s {f k v : Int} {X : Nat → Int → Int} (h0 : 0 ≤ k) (e : X = rmA C f k) (hv : v = C 9 6 + sI (fun i => C 3 (f + i)) k + C 3 (f + k)) (h : RJ x T (st (st (st X 0 (uI (X 0) (f + k) 6)) 9 (uI (X 9) 6 v)) 3 (uI (X 3) (f + k) 0)) J) : RJ x T (rmA C f (k + 1)) J := by
  subst e hv
  refine RJ_cg h ?_ rfl rfl ?_ rfl rfl rfl rfl rfl ?_ rfl rfl
  · show uI (fil (C 0) f (f + k) 6) (f + k) 6 = fil (C 0) f (f + (k + 1)) 6
    rw [fil_s _ _ _ _ (by omega), Int.add_assoc]
  · show uI (fil (C 3) f (f + k) 0) (f + k) 0 = fil (C 3) f (f + (k + 1)) 0
    rw [fil_s _ _ _ _ (by omega), Int.add_assoc]
  · show uI (uI (C 9) 6 (C 9 6 + sI (fun i => C 3 (f + i)) k)) 6 (C 9 6 + sI (fun i => C 3 (f + i)) k + C 3 (f + k)) = uI (C 9) 6 (C 9 6 + sI (fun i => C 3 (f + i)) (k + 1))
    rw [uI_uI, sI_s _ h0, Int.add_assoc]
theorem rm_9 {f k : Int} : rmA C f k 9 6 = C 9 6 + sI (fun i => C 3 (f + i)) k := by
  show uI (C 9) 6 (C 9 6 + sI (fun i => C 3 (f + i)) k) 6 = _
  rw [uI_s]
theorem rm_3 {f k : Int} : rmA C f k 3 (f + k) = C 3 (f + k) := fil_out (by omega)
theorem WC_rmA {f k : Int} (h : WC T C) : WC T (rmA C f k) := by
  have a : WC T (st (st C 0 (fil (C 0) f (f + k) 6)) 9 (uI (C 9) 6 (C 9 6 + sI (fun i => C 3 (f + i)) k))) := WC_9 (WC_fil h ⟨by decide, by decide⟩)
  obtain ⟨h1, h2, h3, h4, h5, h6⟩ := a
  refine ⟨h1, h2, fun i p q => ?_, h4, h5, h6⟩
  obtain ⟨q1, q2, q3, q4, q5, q6, q7, q8, q9⟩ := h3 i p q
  refine ⟨q1, q2, q3, q4, q5, q6, ?_⟩
  show 0 ≤ fil (C 3) f (f + k) 0 i ∧ fil (C 3) f (f + k) 0 i ≤ 1 ∧ (fil (C 3) f (f + k) 0 i = 1 → T 5 i = -1)
  unfold fil
  split
  · omega
  · exact ⟨q7, q8, q9⟩
theorem WC_rmC (h : WC T C) : WC T (rmC C) := WC_clr (WC_rmA h)
/-- m sheets of the path put back -/
def pbA (C : Nat → Int → Int) (m : Int) : Nat → Int → Int := st (st (s1 (s1 C 1 (C 11 1 - m)) 0 (C 11 0 - m)) 0 (fil (C 0) (C 11 0 - m) (C 11 0) 0)) 2 (fil (C 2) (C 11 0 - m) (C 11 0) (-1))
/-- the first sheet's skew halved, the sheets counted -/
def pb0 (C : Nat → Int → Int) : Nat → Int → Int := st (acc C 7 (C 11 1)) 1 (uI (C 1) (C 11 0 - C 11 1) (Int.tdiv (C 1 (C 11 0 - C 11 1)) 2))
def pbC (C : Nat → Int → Int) : Nat → Int → Int := s1 (pbA (pb0 C) (C 11 1)) 2 0
theorem fil_l (f : Int → Int) {a b v : Int} (h : a ≤ b) : uI (fil f a b v) (a - 1) v = fil f (a - 1) b v := by
  funext j
  unfold uI fil
  by_cases e : j = a - 1
  · rw [if_pos e, if_pos (by omega)]
  · rw [if_neg e]
    by_cases e2 : a ≤ j ∧ j < b
    · rw [if_pos e2, if_pos (by omega)]
    · rw [if_neg e2, if_neg (by omega)]
theorem RJ_pu (h : RJ sa T C J) (hB : BB T C) (h1 : 1 ≤ C 11 1) (h2 : C 11 1 ≤ C 11 0) (h3 : C 11 0 ≤ T 8 0) : RJ (uI (uI (uI sa (186 + (T 8 0 - C 11 0)) (C 11 0 - 1)) 6 (T 8 0 - C 11 0 + 1)) 7 (C 11 1 - 1)) T (s1 (s1 C 1 (C 11 1 - 1)) 0 (C 11 0 - 1)) J := by
  obtain ⟨⟨a0, a5, a6, a7, a8, a15, a16⟩, hl, hg, ha, hs, hk, hp, hP, hj⟩ := h
  have b1 := hB.1
  have K : ∀ j : Int, j ≠ 186 + (T 8 0 - C 11 0) → j ≠ 6 → j ≠ 7 → uI (uI (uI sa (186 + (T 8 0 - C 11 0)) (C 11 0 - 1)) 6 (T 8 0 - C 11 0 + 1)) 7 (C 11 1 - 1) j = sa j := fun j x y z => by
    rw [uI_n _ _ _ z, uI_n _ _ _ y, uI_n _ _ _ x]
  obtain ⟨c1, c2, c3, c4, c5, c6⟩ := hB
  refine ⟨⟨?_, ?_, ?_, ?_, ?_, ?_, ?_⟩, fun k p q => ?_, fun k p q => ?_, fun k p q => ?_, fun k p q => ?_, fun k p q => ?_, fun k p q => ?_, fun k p q => ?_, fun k p q => ?_⟩
  · rw [K _ (by omega) (by omega) (by omega)]; exact a0
  · rw [K _ (by omega) (by omega) (by omega)]; exact a5
  · show _ = T 8 0 - (C 11 0 - 1)
    rw [uI_n _ _ _ (by decide), uI_s]; omega
  · show _ = C 11 1 - 1
    rw [uI_s]
  · rw [K _ (by omega) (by omega) (by omega)]; exact a8
  · rw [K _ (by omega) (by omega) (by omega)]; exact a15
  · rw [K _ (by omega) (by omega) (by omega)]; exact a16
  · rw [K _ (by omega) (by omega) (by omega)]; exact hl k p q
  · have q1 : k < C 11 6 := q
    rw [K _ (by omega) (by omega) (by omega)]; exact hg k p q
  · rw [K _ (by omega) (by omega) (by omega)]; exact ha k p q
  · obtain ⟨z1, z2, z3, z4⟩ := hs k p q
    exact ⟨by rw [K _ (by omega) (by omega) (by omega)]; exact z1, by rw [K _ (by omega) (by omega) (by omega)]; exact z2, by rw [K _ (by omega) (by omega) (by omega)]; exact z3, by rw [K _ (by omega) (by omega) (by omega)]; exact z4⟩
  · have q1 : k < T 8 0 - (C 11 0 - 1) := q
    by_cases e : k = T 8 0 - C 11 0
    · rw [uI_n _ _ _ (by omega), uI_n _ _ _ (by omega), e, uI_s]; omega
    · rw [K _ (by omega) (by omega) (by omega)]; exact hk k p (by omega)
  · have q1 : k < C 11 1 - 1 := q
    rw [K _ (by omega) (by omega) (by omega)]
    show _ = C 11 0 - 1 - (C 11 1 - 1) + k
    rw [hp k p (by omega)]; omega
  · have q1 : k < C 11 3 := q
    obtain ⟨z1, z2⟩ := hP k p q
    exact ⟨by rw [K _ (by omega) (by omega) (by omega)]; exact z1, by rw [K _ (by omega) (by omega) (by omega)]; exact z2⟩
  · have q1 : k < C 11 4 := q
    obtain ⟨z1, z2⟩ := hj k p q
    exact ⟨by rw [K _ (by omega) (by omega) (by omega)]; exact z1, by rw [K _ (by omega) (by omega) (by omega)]; exact z2⟩
theorem BB_pb {m : Int} (h : BB T C) (h0 : 0 ≤ m) (h1 : m ≤ C 11 0) (h2 : C 11 1 ≤ C 11 0) : BB T (pbA C m) := ⟨h.1, (show 0 ≤ C 11 0 - m by omega), (show C 11 1 - m ≤ 40 by have q := h.2.2.1; omega), h.2.2.2.1, h.2.2.2.2.1, h.2.2.2.2.2⟩
theorem pb_0 {m k : Int} (h : RJ x T C J) (em : m = 0) (ek : k = C 11 1) : RJ (uI x 7 k) T (pbA C m) J := by
  subst em ek
  have e : uI x 7 (C 11 1) = x := uI_id h.1.2.2.2.1.symm
  rw [e]
  refine RJ_cg h ?_ rfl ?_ rfl rfl rfl rfl rfl rfl rfl rfl ?_
  · exact (fil_0 _ _ _ _ (by omega)).symm
  · exact (fil_0 _ _ _ _ (by omega)).symm
  · show C 11 = uI (uI (C 11) 1 (C 11 1 - 0)) 0 (C 11 0 - 0)
    rw [uI_id (f := C 11) (show C 11 1 - 0 = C 11 1 by omega), uI_id (f := C 11) (show C 11 0 - 0 = C 11 0 by omega)]
theorem pb_s {m m2 k s i1 i2 i3 v7 v8 : Int} (h : RJ (uI x 7 k) T (pbA C m) J) (hB : BB T C) (hw : 0 ≤ m ∧ m < C 11 1 ∧ C 11 1 ≤ C 11 0 ∧ C 11 0 ≤ T 8 0) (ek : k = C 11 1 - m) (es : s = C 11 0 - m - 1) (e1 : i1 = 26 + 4 * s) (e2 : i2 = 26 + 4 * s + 2) (e3 : i3 = 186 + (T 8 0 - (C 11 0 - m))) (e7 : v7 = T 8 0 - (C 11 0 - m) + 1) (e8 : v8 = k - 1) (em : m2 = m + 1) : RJ (uI (uI (uI (uI (uI x i1 0) i2 (-1)) i3 s) 6 v7) 7 v8) T (pbA C m2) J := by
  subst em
  have c0 := hB.1
  have hb : BB T (pbA C m) := BB_pb hB (by omega) (by omega) hw.2.2.1
  have a := RJ_wh s 0 h hb (by omega) (by omega)
  have a2 := RJ_of s (-1) a hb (by omega) (by omega)
  have a3 := RJ_pu a2 hb (show 1 ≤ C 11 1 - m by omega) (show C 11 1 - m ≤ C 11 0 - m by omega) (show C 11 0 - m ≤ T 8 0 by omega)
  have ex : uI (uI (uI (uI (uI (uI x 7 k) (26 + 4 * s) 0) (26 + 4 * s + 2) (-1)) (186 + (T 8 0 - (C 11 0 - m))) (C 11 0 - m - 1)) 6 (T 8 0 - (C 11 0 - m) + 1)) 7 (C 11 1 - m - 1) = uI (uI (uI (uI (uI x i1 0) i2 (-1)) i3 s) 6 v7) 7 v8 := by
    rw [uI_c (f := x) (show (7 : Int) ≠ 26 + 4 * s by omega), uI_c (show (7 : Int) ≠ 26 + 4 * s + 2 by omega), uI_c (show (7 : Int) ≠ 186 + (T 8 0 - (C 11 0 - m)) by omega), uI_c (show (7 : Int) ≠ 6 by decide), uI_uI, e1, e2, e3, e7, e8, ek, es]
  have a4 : RJ (uI (uI (uI (uI (uI x i1 0) i2 (-1)) i3 s) 6 v7) 7 v8) T _ J := ex ▸ a3
  refine RJ_cg a4 ?_ rfl ?_ rfl rfl rfl rfl rfl rfl rfl rfl ?_
  · show uI (fil (C 0) (C 11 0 - m) (C 11 0) 0) s 0 = fil (C 0) (C 11 0 - (m + 1)) (C 11 0) 0
    rw [es, fil_l _ (by omega), show C 11 0 - (m + 1) = C 11 0 - m - 1 by omega]
  · show uI (fil (C 2) (C 11 0 - m) (C 11 0) (-1)) s (-1) = fil (C 2) (C 11 0 - (m + 1)) (C 11 0) (-1)
    rw [es, fil_l _ (by omega), show C 11 0 - (m + 1) = C 11 0 - m - 1 by omega]
  · show uI (uI (uI (uI (C 11) 1 (C 11 1 - m)) 0 (C 11 0 - m)) 1 (C 11 1 - m - 1)) 0 (C 11 0 - m - 1) = uI (uI (C 11) 1 (C 11 1 - (m + 1))) 0 (C 11 0 - (m + 1))
    rw [uI_c (show (0 : Int) ≠ 1 by decide), uI_uI, uI_uI, show C 11 1 - m - 1 = C 11 1 - (m + 1) by omega, show C 11 0 - m - 1 = C 11 0 - (m + 1) by omega]
theorem tdiv2 {a : Int} (h : -99 ≤ a ∧ a ≤ 99) : -99 ≤ Int.tdiv a 2 ∧ Int.tdiv a 2 ≤ 99 := by
  rcases Int.le_total 0 a with e | e
  · rw [Int.tdiv_eq_ediv_of_nonneg e]; omega
  · have z : Int.tdiv a 2 = -(Int.tdiv (-a) 2) := by rw [Int.neg_tdiv, Int.neg_neg]
    rw [z, Int.tdiv_eq_ediv_of_nonneg (by omega)]; omega
theorem WC_pbC (h : WC T C) (hs : 0 < C 11 2 ∨ C 11 1 = 0) : WC T (pbC C) := by
  have q := h.1
  obtain ⟨h1, h2, h3, h4, h5, h6⟩ := h
  refine ⟨?_, h2, fun i a b => ?_, h4, fun p a b => ?_, h6⟩
  · show 0 ≤ C 11 1 - C 11 1 ∧ C 11 1 - C 11 1 ≤ C 11 0 - C 11 1 ∧ C 11 0 - C 11 1 ≤ T 8 0 ∧ 0 ≤ (0 : Int) ∧ (0 : Int) ≤ 3 ∧ 0 ≤ C 11 3 ∧ C 11 3 ≤ 2 * (C 11 0 - C 11 1 - (C 11 1 - C 11 1)) ∧ 1 ≤ C 11 4 ∧ C 11 4 ≤ 99 + (C 11 0 - C 11 1 - (C 11 1 - C 11 1)) ∧ 0 ≤ C 11 5 ∧ C 11 5 ≤ 1 ∧ 0 ≤ C 11 6 ∧ C 11 6 ≤ 6 ∧ C 11 6 ≤ C 11 7 ∧ C 11 7 ≤ C 11 0 - C 11 1 ∧ (C 11 6 < 6 → C 11 7 = C 11 6) ∧ (0 < (0 : Int) ∨ C 11 1 - C 11 1 = 0 → C 11 7 ≤ C 11 0 - C 11 1 - (C 11 1 - C 11 1))
    omega
  · obtain ⟨q1, q2, q3, q4, q5, q6, q7⟩ := h3 i a b
    show 0 ≤ fil (C 0) (C 11 0 - C 11 1) (C 11 0) 0 i ∧ fil (C 0) (C 11 0 - C 11 1) (C 11 0) 0 i ≤ 6 ∧ -99 ≤ uI (C 1) (C 11 0 - C 11 1) (Int.tdiv (C 1 (C 11 0 - C 11 1)) 2) i ∧ uI (C 1) (C 11 0 - C 11 1) (Int.tdiv (C 1 (C 11 0 - C 11 1)) 2) i ≤ 99 ∧ -1 ≤ fil (C 2) (C 11 0 - C 11 1) (C 11 0) (-1) i ∧ fil (C 2) (C 11 0 - C 11 1) (C 11 0) (-1) i ≤ 400 ∧ 0 ≤ C 3 i ∧ C 3 i ≤ 1 ∧ (C 3 i = 1 → T 5 i = -1)
    have z : -99 ≤ uI (C 1) (C 11 0 - C 11 1) (Int.tdiv (C 1 (C 11 0 - C 11 1)) 2) i ∧ uI (C 1) (C 11 0 - C 11 1) (Int.tdiv (C 1 (C 11 0 - C 11 1)) 2) i ≤ 99 := by
      by_cases e : i = C 11 0 - C 11 1
      · rw [e, uI_s]
        rw [e] at q3 q4
        exact tdiv2 ⟨q3, q4⟩
      · rw [uI_n _ _ _ e]; exact ⟨q3, q4⟩
    have y1 : 0 ≤ fil (C 0) (C 11 0 - C 11 1) (C 11 0) 0 i ∧ fil (C 0) (C 11 0 - C 11 1) (C 11 0) 0 i ≤ 6 := by unfold fil; split <;> omega
    have y2 : -1 ≤ fil (C 2) (C 11 0 - C 11 1) (C 11 0) (-1) i ∧ fil (C 2) (C 11 0 - C 11 1) (C 11 0) (-1) i ≤ 400 := by unfold fil; split <;> omega
    exact ⟨y1.1, y1.2, z.1, z.2, y2.1, y2.2, q7⟩
  · have q2 := h5 p a b
    show 0 ≤ C 4 p ∧ C 4 p < C 11 0 - C 11 1 - (C 11 1 - C 11 1) ∧ 0 ≤ C 5 p ∧ C 5 p ≤ 1 ∧ 0 ≤ C 6 p ∧ C 6 p < C 11 4
    omega
/-- the path and the reason go together -/
def FR (C : Nat → Int → Int) : Prop := C 11 2 = 0 ↔ C 11 1 = 0
theorem shJ_bg {cd : Int} {j : Int} (h : WC T C) (h1 : j < C 11 4 + 1) : uI (shJ C) (C 11 4) 0 j = shJ (bgJ C cd) j := by
  have es : shJ (bgJ C cd) j = shJ C j := rfl
  rw [es]
  by_cases ej : j = C 11 4
  · rw [ej, uI_s]
    exact (shJ_no (fun p a b => by have z := h.2.2.2.2.1 p a b; omega)).symm
  · rw [uI_n _ _ _ ej]
theorem WC_li {w v : Int} (h : WC T C) (hv : (w = 0 → 101 ≤ v ∧ v ≤ 300) ∧ (w = 1 → 0 ≤ v ∧ v ≤ 200) ∧ (w = 2 → 0 ≤ v ∧ v ≤ 99) ∧ (w = 3 → 0 ≤ v ∧ v ≤ 1000)) : WC T (st C 8 (uI (C 8) w v)) := by
  obtain ⟨h1, h2, h3⟩ := h
  refine ⟨h1, ?_, h3⟩
  show 101 ≤ uI (C 8) w v 0 ∧ uI (C 8) w v 0 ≤ 300 ∧ 0 ≤ uI (C 8) w v 1 ∧ uI (C 8) w v 1 ≤ 200 ∧ 0 ≤ uI (C 8) w v 2 ∧ uI (C 8) w v 2 ≤ 99 ∧ 0 ≤ uI (C 8) w v 3 ∧ uI (C 8) w v 3 ≤ 1000
  unfold uI
  (repeat' split) <;> omega
theorem WC_dx {v : Int} (h : WC T C) (hv : 0 ≤ v ∧ v ≤ 1) : WC T (s1 C 5 v) := by
  have q := h.1
  have hm : ∀ p : Int, 0 ≤ p → p < C 11 3 → C 4 p < C 11 0 - C 11 1 := fun p a b => (h.2.2.2.2.1 p a b).2.1
  exact WC_sc (f := uI (C 11) 5 v) h (show 0 ≤ C 11 1 ∧ C 11 1 ≤ C 11 0 ∧ C 11 0 ≤ T 8 0 ∧ 0 ≤ C 11 2 ∧ C 11 2 ≤ 3 ∧ C 11 3 ≤ 2 * (C 11 0 - C 11 1) ∧ C 11 4 ≤ 99 + (C 11 0 - C 11 1) ∧ 0 ≤ v ∧ v ≤ 1 ∧ C 11 7 ≤ C 11 0 ∧ (0 < C 11 2 ∨ C 11 1 = 0 → C 11 7 ≤ C 11 0 - C 11 1) by omega) hm rfl rfl rfl rfl
theorem WC_bgJ {cd : Int} (h : WC T C) (hc : -1 ≤ cd ∧ cd ≤ 999) (hj : C 11 4 < 99) : WC T (bgJ C cd) := WC_bj h hc (by have q := h.1; omega)
end RMV
