/-! WHAT GOES THROUGH, row by row -/
section THR
variable {T C : Nat → Int → Int} {f n : Int}
theorem pg_eq (h : T 5 f = -1) : bI (T 5 f = -1 ∧ C 8 3 ≤ T 3 f) + bI (T 5 f = -1 ∧ C 11 5 = 1 ∧ C 8 3 ≤ T 4 f) = pgs T C f := by
  unfold pgs
  rw [if_neg (by omega), bI_c (show (T 5 f = -1 ∧ C 8 3 ≤ T 3 f) ↔ C 8 3 ≤ T 3 f from ⟨fun w => w.2, fun w => ⟨h, w⟩⟩), bI_c (show (T 5 f = -1 ∧ C 11 5 = 1 ∧ C 8 3 ≤ T 4 f) ↔ (C 11 5 = 1 ∧ C 8 3 ≤ T 4 f) from ⟨fun w => w.2, fun w => ⟨h, w⟩⟩)]
theorem go_y (h : T 5 f = -1) : goThr T C f n = st (goPg T (thr0 C f n) f) 0 (uI (goPg T (thr0 C f n) f 0) f (if 0 < pgs T C f then 2 else 3)) := by
  unfold goThr
  rw [if_neg (by omega)]
theorem pgs_v (h : T 5 f = -1) : pgs T C f = bI (C 8 3 ≤ T 3 f) + bI (C 11 5 = 1 ∧ C 8 3 ≤ T 4 f) := by
  unfold pgs
  rw [if_neg (by omega)]
theorem bI_nn {q : Prop} [Decidable q] : 0 ≤ bI q := by rcases bI_r (c := q) with h | h <;> rw [h] <;> decide
theorem gP0_y (h : C 8 3 ≤ T 3 f) : goP0 T C f = adP C f 0 := if_pos h
theorem gP0_n (h : ¬ C 8 3 ≤ T 3 f) : goP0 T C f = C := if_neg h
theorem gPg_y (h : C 11 5 = 1 ∧ C 8 3 ≤ T 4 f) : goPg T C f = adP (goP0 T C f) f 1 := if_pos h
theorem gPg_n (h : ¬ (C 11 5 = 1 ∧ C 8 3 ≤ T 4 f)) : goPg T C f = goP0 T C f := if_neg h
abbrev thA (C : Nat → Int → Int) (f n v : Int) : Int → Int := uI (fil (C 0) (f + 1) (f + n) 5) f v
abbrev th9 (C : Nat → Int → Int) (f : Int) : Int → Int := uI (C 9) 5 (C 9 5 + C 3 f)
theorem e12 {X Y : Nat → Int → Int} (h : ∀ p, 12 ≤ p → X p = Y p) (h0 : X 0 = Y 0) (h1 : X 1 = Y 1) (h2 : X 2 = Y 2) (h3 : X 3 = Y 3) (h4 : X 4 = Y 4) (h5 : X 5 = Y 5) (h6 : X 6 = Y 6) (h7 : X 7 = Y 7) (h8 : X 8 = Y 8) (h9 : X 9 = Y 9) (h10 : X 10 = Y 10) (h11 : X 11 = Y 11) : X = Y := ext12 h0 h1 h2 h3 h4 h5 h6 h7 h8 h9 h10 h11 h
theorem st_p {C : Nat → Int → Int} {i : Nat} {F : Int → Int} {p : Nat} (hp : 12 ≤ p) (hi : i < 12) : st C i F p = C p := if_neg (by omega)
theorem s1_p {k v : Int} {p : Nat} (hp : 12 ≤ p) : s1 C k v p = C p := st_p hp (by decide)
theorem acc_p {k v : Int} {p : Nat} (hp : 12 ≤ p) : acc C k v p = C p := st_p hp (by decide)
theorem thr0_p {p : Nat} (hp : 12 ≤ p) : thr0 C f n p = C p := by
  unfold thr0
  rw [st_p hp (by decide), acc_p hp, st_p hp (by decide)]
theorem adP_p {sh sd : Int} {p : Nat} (hp : 12 ≤ p) : adP C sh sd p = C p := by
  unfold adP
  rw [st_p hp (by decide), st_p hp (by decide), st_p hp (by decide), s1_p hp]
theorem go_00 (h : T 5 f = -1) (h0 : ¬ C 8 3 ≤ T 3 f) (h1 : ¬ (C 11 5 = 1 ∧ C 8 3 ≤ T 4 f)) : st (st (st C 0 (thA C f n 3)) 3 (uI (C 3) f 0)) 9 (th9 C f) = goThr T C f n := by
  rw [go_y h, gPg_n (C := thr0 C f n) h1, gP0_n (C := thr0 C f n) h0, pgs_v h, bI_f h0, bI_f h1, if_neg (by decide)]
  exact e12 (fun p hp => by rw [st_p hp (by decide), st_p hp (by decide), st_p hp (by decide), st_p hp (by decide), thr0_p hp]) rfl rfl rfl rfl rfl rfl rfl rfl rfl rfl rfl rfl
theorem go_10 (h : T 5 f = -1) (h0 : C 8 3 ≤ T 3 f) (h1 : ¬ (C 11 5 = 1 ∧ C 8 3 ≤ T 4 f)) : st (st (st (st (st (st (st C 0 (thA C f n 2)) 3 (uI (C 3) f 0)) 4 (uI (C 4) (C 11 3) f)) 5 (uI (C 5) (C 11 3) 0)) 6 (uI (C 6) (C 11 3) (C 11 4 - 1))) 9 (th9 C f)) 11 (uI (C 11) 3 (C 11 3 + 1)) = goThr T C f n := by
  rw [go_y h, gPg_n (C := thr0 C f n) h1, gP0_y (C := thr0 C f n) h0, pgs_v h, bI_t h0, bI_f h1, if_pos (by decide)]
  exact e12 (fun p hp => by rw [st_p hp (by decide), st_p hp (by decide), st_p hp (by decide), st_p hp (by decide), st_p hp (by decide), st_p hp (by decide), st_p hp (by decide), st_p hp (by decide), adP_p hp, thr0_p hp]) rfl rfl rfl rfl rfl rfl rfl rfl rfl rfl rfl rfl
theorem go_01 (h : T 5 f = -1) (h0 : ¬ C 8 3 ≤ T 3 f) (h1 : C 11 5 = 1 ∧ C 8 3 ≤ T 4 f) : st (st (st (st (st (st (st C 0 (thA C f n 2)) 3 (uI (C 3) f 0)) 4 (uI (C 4) (C 11 3) f)) 5 (uI (C 5) (C 11 3) 1)) 6 (uI (C 6) (C 11 3) (C 11 4 - 1))) 9 (th9 C f)) 11 (uI (C 11) 3 (C 11 3 + 1)) = goThr T C f n := by
  rw [go_y h, gPg_y (C := thr0 C f n) h1, gP0_n (C := thr0 C f n) h0, pgs_v h, bI_f h0, bI_t h1, if_pos (by decide)]
  exact e12 (fun p hp => by rw [st_p hp (by decide), st_p hp (by decide), st_p hp (by decide), st_p hp (by decide), st_p hp (by decide), st_p hp (by decide), st_p hp (by decide), st_p hp (by decide), adP_p hp, thr0_p hp]) rfl rfl rfl rfl rfl rfl rfl rfl rfl rfl rfl rfl
theorem go_11 (h : T 5 f = -1) (h0 : C 8 3 ≤ T 3 f) (h1 : C 11 5 = 1 ∧ C 8 3 ≤ T 4 f) : st (st (st (st (st (st (st C 0 (thA C f n 2)) 3 (uI (C 3) f 0)) 4 (uI (uI (C 4) (C 11 3) f) (C 11 3 + 1) f)) 5 (uI (uI (C 5) (C 11 3) 0) (C 11 3 + 1) 1)) 6 (uI (uI (C 6) (C 11 3) (C 11 4 - 1)) (C 11 3 + 1) (C 11 4 - 1))) 9 (th9 C f)) 11 (uI (C 11) 3 (C 11 3 + 1 + 1)) = goThr T C f n := by
  rw [go_y h, gPg_y (C := thr0 C f n) h1, gP0_y (C := thr0 C f n) h0, pgs_v h, bI_t h0, bI_t h1, if_pos (by decide)]
  exact e12 (fun p hp => by rw [st_p hp (by decide), st_p hp (by decide), st_p hp (by decide), st_p hp (by decide), st_p hp (by decide), st_p hp (by decide), st_p hp (by decide), st_p hp (by decide), adP_p hp, adP_p hp, thr0_p hp]) rfl rfl rfl rfl rfl rfl rfl rfl rfl rfl rfl (uI_uI _ _ _ _).symm
theorem go_c (h : T 5 f ≠ -1) : st (st (st (st (st C 0 (thA C f n 4)) 3 (uI (C 3) f 0)) 7 (uI (C 7) (C 11 4) (T 5 f))) 9 (th9 C f)) 11 (uI (C 11) 4 (C 11 4 + 1)) = goThr T C f n := by
  unfold goThr bgJ
  rw [if_pos h]
  exact e12 (fun p hp => by rw [st_p hp (by decide), st_p hp (by decide), st_p hp (by decide), st_p hp (by decide), st_p hp (by decide), st_p hp (by decide), s1_p hp, st_p hp (by decide), thr0_p hp]) rfl rfl rfl rfl rfl rfl rfl rfl rfl rfl rfl rfl
end THR
