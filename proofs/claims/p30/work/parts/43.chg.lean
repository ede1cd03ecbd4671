/-! CHANGES, row by row -/
section CHG
variable {T C : Nat → Int → Int} {f n cd : Int}
theorem bg_eq : st (st C 7 (uI (C 7) (C 11 4) cd)) 11 (uI (C 11) 4 (C 11 4 + 1)) = bgJ C cd := by
  unfold bgJ
  exact e12 (fun p hp => by rw [st_p hp (by decide), st_p hp (by decide), st_p hp (by decide), s1_p hp]) rfl rfl rfl rfl rfl rfl rfl rfl rfl rfl rfl rfl
theorem clr_p {p : Nat} (hp : 12 ≤ p) : clr C p = C p := (s1_p hp).trans (s1_p hp)
theorem clr_1 {X : Nat → Int → Int} : st X 11 (uI (uI (X 11) 1 0) 2 0) = clr X := e12 (fun p hp => by rw [st_p hp (by decide), clr_p hp]) rfl rfl rfl rfl rfl rfl rfl rfl rfl rfl rfl rfl
theorem goP_cl : goPg T (clr C) f = clr (goPg T C f) := by
  have a : ∀ X : Nat → Int → Int, ∀ sd : Int, adP (clr X) f sd = clr (adP X f sd) := fun X sd => by
    unfold adP
    refine e12 (fun p hp => by rw [st_p hp (by decide), st_p hp (by decide), st_p hp (by decide), s1_p hp, clr_p hp, clr_p hp, st_p hp (by decide), st_p hp (by decide), st_p hp (by decide), s1_p hp]) rfl rfl rfl rfl rfl rfl rfl rfl rfl rfl rfl ?_
    show uI (uI (uI (X 11) 1 0) 2 0) 3 (X 11 3 + 1) = uI (uI (uI (X 11) 3 (X 11 3 + 1)) 1 0) 2 0
    rw [uI_sw (i := 2) (j := 3) (by decide), uI_sw (i := 1) (j := 3) (by decide)]
  have b : goP0 T (clr C) f = clr (goP0 T C f) := by
    unfold goP0
    by_cases c : C 8 3 ≤ T 3 f
    · rw [if_pos c, if_pos (show clr C 8 3 ≤ T 3 f from c)]; exact a C 0
    · rw [if_neg c, if_neg (show ¬ clr C 8 3 ≤ T 3 f from c)]
  unfold goPg
  by_cases c : C 11 5 = 1 ∧ C 8 3 ≤ T 4 f
  · rw [if_pos c, if_pos (show clr C 11 5 = 1 ∧ clr C 8 3 ≤ T 4 f from c), b]; exact a _ 1
  · rw [if_neg c, if_neg (show ¬ (clr C 11 5 = 1 ∧ clr C 8 3 ≤ T 4 f) from c), b]
theorem clr_go : clr (goThr T C f n) = goThr T (clr C) f n := by
  have t0 : thr0 (clr C) f n = clr (thr0 C f n) := by
    unfold thr0
    exact e12 (fun p hp => by rw [st_p hp (by decide), acc_p hp, st_p hp (by decide), clr_p hp, clr_p hp, st_p hp (by decide), acc_p hp, st_p hp (by decide)]) rfl rfl rfl rfl rfl rfl rfl rfl rfl rfl rfl rfl
  unfold goThr
  by_cases c : T 5 f ≠ -1
  · rw [if_pos c, if_pos c, t0]
    unfold bgJ
    refine e12 (fun p hp => by rw [clr_p hp, st_p hp (by decide), s1_p hp, st_p hp (by decide), st_p hp (by decide), s1_p hp, st_p hp (by decide), clr_p hp]) rfl rfl rfl rfl rfl rfl rfl rfl rfl rfl rfl ?_
    show uI (uI (uI (thr0 C f n 11) 4 (thr0 C f n 11 4 + 1)) 1 0) 2 0 = uI (uI (uI (thr0 C f n 11) 1 0) 2 0) 4 (thr0 C f n 11 4 + 1)
    rw [uI_sw (i := 2) (j := 4) (by decide), uI_sw (i := 1) (j := 4) (by decide)]
  · rw [if_neg c, if_neg c, t0, goP_cl]
    exact e12 (fun p hp => by rw [clr_p hp, st_p hp (by decide), st_p hp (by decide), clr_p hp]) rfl rfl rfl rfl rfl rfl rfl rfl rfl rfl rfl rfl
theorem pb_eq (h : f = C 11 0 - C 11 1) : st (st (st (st (st C 0 (fil (C 0) f (C 11 0) 0)) 1 (uI (C 1) f (Int.tdiv (C 1 f) 2))) 2 (fil (C 2) f (C 11 0) (-1))) 9 (uI (C 9) 7 (C 9 7 + C 11 1))) 11 (uI (uI (uI (C 11) 0 f) 1 0) 2 0) = pbC C := by
  subst h
  unfold pbC pbA pb0
  refine e12 (fun p hp => by rw [st_p hp (by decide), st_p hp (by decide), st_p hp (by decide), st_p hp (by decide), st_p hp (by decide), s1_p hp, st_p hp (by decide), st_p hp (by decide), s1_p hp, s1_p hp, st_p hp (by decide), acc_p hp]) rfl rfl rfl rfl rfl rfl rfl rfl rfl rfl rfl ?_
  show uI (uI (uI (C 11) 0 (C 11 0 - C 11 1)) 1 0) 2 0 = uI (uI (uI (C 11) 1 (C 11 1 - C 11 1)) 0 (C 11 0 - C 11 1)) 2 0
  rw [Int.sub_self, uI_sw (i := 0) (j := 1) (by decide)]
theorem rm_eq (h : f = C 11 0 - C 11 1) : st (st (st (st C 0 (fil (C 0) f (C 11 0) 6)) 3 (fil (C 3) f (C 11 0) 0)) 9 (uI (C 9) 6 (C 9 6 + sI (fun i => C 3 (f + i)) (C 11 0 - f)))) 11 (uI (uI (C 11) 1 0) 2 0) = rmC C := by
  have e1 : C 11 0 - C 11 1 + C 11 1 = C 11 0 := by omega
  have e2 : C 11 0 - f = C 11 1 := by omega
  rw [e2]
  subst h
  unfold rmC rmA
  rw [e1]
  exact e12 (fun p hp => by rw [st_p hp (by decide), st_p hp (by decide), st_p hp (by decide), st_p hp (by decide), clr_p hp, st_p hp (by decide), st_p hp (by decide), st_p hp (by decide)]) rfl rfl rfl rfl rfl rfl rfl rfl rfl rfl rfl rfl
theorem pickR_p (h : pkr T C = 0) : pickR T C ≠ -1 := by
  unfold pickR goR pgs
  rw [if_pos h]
  split
  · decide
  · have a := bI_nn (q := C 8 3 ≤ T 3 (C 11 0))
    have b := bI_nn (q := C 11 5 = 1 ∧ C 8 3 ≤ T 4 (C 11 0))
    omega
end CHG
