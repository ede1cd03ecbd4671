/-! A SHEET, READ -/
section SHP
variable {f dr : Int → Int} {n ts te tk nu er eo hL hS : Int} {X : Nat → Int → Int}
abbrev lessQ (X : Nat → Int → Int) : Prop := X 9 3 = 0 ∧ X 9 2 = 4
def rsA (f : Int → Int) (n : Int) (X : Nat → Int → Int) : Nat → Int → Int := rdX f n 30 500 (rdX f n 50 500 X)
def rsB (f : Int → Int) (n : Int) (X : Nat → Int → Int) : Nat → Int → Int := if lessQ (rsA f n X) then nxX f n (rsA f n X) else rsA f n X
def rsX (f : Int → Int) (n : Int) (X : Nat → Int → Int) : Nat → Int → Int := rdX f n 0 99 (rsB f n X)
theorem rs_y (h : lessQ (rsA f n X)) : rsX f n X = rdX f n 0 99 (goX f n (rsA f n X)) := by
  unfold rsX rsB goX
  rw [if_pos h, if_pos h.1]
theorem rs_n (h : ¬ lessQ (rsA f n X)) : rsX f n X = rdX f n 0 99 (rsA f n X) := by
  unfold rsX rsB
  rw [if_neg h]
theorem rdX_f {lo hi : Int} (h : X 9 3 ≠ 0) : rdX f n lo hi X = X := if_neg h
theorem rdX_z {lo hi : Int} (h : rdX f n lo hi X 9 3 = 0) : X 9 3 = 0 := Classical.byContradiction (fun z => z (by rw [rdX_f z] at h; exact h))
theorem goX_z (h : goX f n X 9 3 = 0) : X 9 3 = 0 := Classical.byContradiction (fun z => z (by unfold goX at h; rw [if_neg z] at h; exact h))
theorem rsB_z (h : rsB f n X 9 3 = 0) : rsA f n X 9 3 = 0 := by
  unfold rsB at h
  split at h
  · rename_i c; exact c.1
  · exact h
theorem rsX_z (h : rsX f n X 9 3 = 0) : rsB f n X 9 3 = 0 ∧ rsA f n X 9 3 = 0 ∧ rdX f n 50 500 X 9 3 = 0 ∧ X 9 3 = 0 := by
  have a := rdX_z (X := rsB f n X) h
  have b := rsB_z a
  have c := rdX_z (X := rdX f n 50 500 X) b
  exact ⟨a, b, c, rdX_z c⟩
/-- the numbers of a shape -/
def shp (f : Int → Int) (n : Int) (X : Nat → Int → Int) (a b c : Int) : Prop := a = nuV f X ∧ b = nuV f (rdX f n 50 500 X) ∧ c = (if lessQ (rsA f n X) then -nuV f (rsB f n X) else nuV f (rsB f n X))
def shR2 (a b c : Int) : Prop := 50 ≤ a ∧ a ≤ 500 ∧ 30 ≤ b ∧ b ≤ 500 ∧ -99 ≤ c ∧ c ≤ 99
theorem rsX_r {p : Nat} (h : p < 9) : rsX f n X p = X p := by
  have a : rsA f n X p = X p := by unfold rsA; rw [rdX_r h, rdX_r h]
  unfold rsX
  rw [rdX_r h]
  unfold rsB
  split
  · rw [← nxX_r h, a]
  · exact a
theorem shp_y {a b c : Int} (hq : lessQ (rsA f n X)) (w : rsX f n X 9 3 = 0) (h1 : rdX f n 50 500 X 9 3 = 0 → a = nuV f X) (h2 : rsA f n X 9 3 = 0 → b = nuV f (rdX f n 50 500 X)) (h3 : rdX f n 0 99 (goX f n (rsA f n X)) 9 3 = 0 → c = nuV f (goX f n (rsA f n X))) : shp f n X a b (-c) := by
  have z := rsX_z w
  have e : rsB f n X = goX f n (rsA f n X) := by unfold rsB goX; rw [if_pos hq, if_pos hq.1]
  refine ⟨h1 z.2.2.1, h2 z.2.1, ?_⟩
  rw [if_pos hq, e, h3 (by rw [← rs_y hq]; exact w)]
theorem shp_n {a b c : Int} (hq : ¬ lessQ (rsA f n X)) (w : rsX f n X 9 3 = 0) (h1 : rdX f n 50 500 X 9 3 = 0 → a = nuV f X) (h2 : rsA f n X 9 3 = 0 → b = nuV f (rdX f n 50 500 X)) (h3 : rdX f n 0 99 (rsA f n X) 9 3 = 0 → c = nuV f (rsA f n X)) : shp f n X a b c := by
  have z := rsX_z w
  have e : rsB f n X = rsA f n X := by unfold rsB; rw [if_neg hq]
  refine ⟨h1 z.2.2.1, h2 z.2.1, ?_⟩
  rw [if_neg hq, e, h3 (by rw [← rs_n hq]; exact w)]
end SHP
