/-! AGAIN -/
section AGN
variable {f dr : Int → Int} {n ts te tk nu er eo hL hS : Int} {X : Nat → Int → Int}
/-- the first m numbers behind c sheets are the last sheet's, over and over -/
def agF (dr : Int → Int) (c m : Int) : Int → Int := fun x => if 8 + 7 * c ≤ x ∧ x < 8 + 7 * c + m then dr (8 + 7 * (c - 1) + (x - 8 - 7 * c) % 7) else dr x
theorem agF_0 (dr : Int → Int) (c : Int) {m : Int} (h : m ≤ 0) : agF dr c m = dr := by
  funext x; unfold agF; rw [if_neg (by omega)]
theorem agF_o {c m x : Int} (h : x < 8 + 7 * c ∨ 8 + 7 * c + m ≤ x) : agF dr c m x = dr x := by
  unfold agF; rw [if_neg (by omega)]
theorem agF_s {c m k i y v : Int} (hm : m = 7 * (k - 1) + i) (hk : 1 ≤ k) (hi : 0 ≤ i ∧ i < 7) (hy : y = 8 + 7 * c + m) (hv : v = dr (8 + 7 * (c - 1) + i)) : uI (agF dr c m) y v = agF dr c (m + 1) := by
  subst hy hv
  funext x
  unfold uI agF
  by_cases e : x = 8 + 7 * c + m
  · rw [if_pos e, if_pos (by omega)]
    congr 1
    omega
  · rw [if_neg e]
    by_cases e2 : 8 + 7 * c ≤ x ∧ x < 8 + 7 * c + m
    · rw [if_pos e2, if_pos (by omega)]
    · rw [if_neg e2, if_neg (by omega)]
/-- t sheets more, like the last -/
def repX (X : Nat → Int → Int) (t : Int) : Nat → Int → Int := fun p => if p < 7 then fil (X p) (X 8 0) (X 8 0 + t) (X p (X 8 0 - 1)) else if p = 8 then uI (X 8) 0 (X 8 0 + t) else X p
def agX (f : Int → Int) (n : Int) (X : Nat → Int → Int) : Nat → Int → Int := if X 9 3 = 0 ∧ 0 < X 8 0 then (if nxX f n X 9 2 = 2 then (if 1 ≤ nuV f (nxX f n X) ∧ nuV f (nxX f n X) ≤ 39 then (if X 8 0 + nuV f (nxX f n X) ≤ 40 then nxX f n (repX (nxX f n X) (nuV f (nxX f n X))) else faX 5 (nxX f n X)) else faX 4 (nxX f n X)) else faX 1 (nxX f n X)) else faX 3 X
theorem RT_rep {t : Int} (h : RT dr X) (h0 : 0 < X 8 0) (ht : 1 ≤ t) : RT (uI (agF dr (X 8 0) (7 * t)) 2 (X 8 0 + t)) (repX X t) := by
  obtain ⟨⟨a0, a1, a2, a3⟩, b, c⟩ := h
  refine ⟨⟨?_, ?_, ?_, ?_⟩, fun k p q => ?_, fun s p x y z => ?_⟩
  · rw [uI_n _ _ _ (by decide), agF_o (by omega)]; exact a0
  · rw [uI_n _ _ _ (by decide), agF_o (by omega)]; exact a1
  · rw [uI_s]; exact (uI_s (X 8) 0 _).symm
  · rw [uI_n _ _ _ (by decide), agF_o (by omega)]; exact a3
  · rw [uI_n _ _ _ (by omega), agF_o (by omega)]; exact b k p q
  · have y2 : s < X 8 0 + t := y
    rw [uI_n _ _ _ (by omega)]
    have er : repX X t p = fil (X p) (X 8 0) (X 8 0 + t) (X p (X 8 0 - 1)) := if_pos z
    rw [er]
    by_cases e : s < X 8 0
    · rw [agF_o (by omega), fil_out (by omega)]; exact c s p x e z
    · rw [fil_in (by omega) (by omega), ← c (X 8 0 - 1) p (by omega) (by omega) z]
      unfold agF
      rw [if_pos (by omega)]
      congr 1
      omega
theorem WT_rep {t : Int} (h : WT X) (h0 : 0 < X 8 0) (ht : 1 ≤ t) (h40 : X 8 0 + t ≤ 40) : WT (repX X t) := by
  obtain ⟨⟨w1, w2, w3⟩, w4, w5⟩ := h
  refine ⟨⟨(show 0 ≤ X 8 0 + t by omega), h40, w3⟩, w4, fun s x y => ?_⟩
  have y2 : s < X 8 0 + t := y
  show 50 ≤ fil (X 0) (X 8 0) (X 8 0 + t) (X 0 (X 8 0 - 1)) s ∧ fil (X 0) (X 8 0) (X 8 0 + t) (X 0 (X 8 0 - 1)) s ≤ 500 ∧ 30 ≤ fil (X 1) (X 8 0) (X 8 0 + t) (X 1 (X 8 0 - 1)) s ∧ fil (X 1) (X 8 0) (X 8 0 + t) (X 1 (X 8 0 - 1)) s ≤ 500 ∧ -99 ≤ fil (X 2) (X 8 0) (X 8 0 + t) (X 2 (X 8 0 - 1)) s ∧ fil (X 2) (X 8 0) (X 8 0 + t) (X 2 (X 8 0 - 1)) s ≤ 99 ∧ 0 ≤ fil (X 3) (X 8 0) (X 8 0 + t) (X 3 (X 8 0 - 1)) s ∧ fil (X 3) (X 8 0) (X 8 0 + t) (X 3 (X 8 0 - 1)) s ≤ 1000 ∧ 0 ≤ fil (X 4) (X 8 0) (X 8 0 + t) (X 4 (X 8 0 - 1)) s ∧ fil (X 4) (X 8 0) (X 8 0 + t) (X 4 (X 8 0 - 1)) s ≤ 1000 ∧ -1 ≤ fil (X 5) (X 8 0) (X 8 0 + t) (X 5 (X 8 0 - 1)) s ∧ fil (X 5) (X 8 0) (X 8 0 + t) (X 5 (X 8 0 - 1)) s ≤ 999 ∧ -1 ≤ fil (X 6) (X 8 0) (X 8 0 + t) (X 6 (X 8 0 - 1)) s ∧ fil (X 6) (X 8 0) (X 8 0 + t) (X 6 (X 8 0 - 1)) s ≤ 400
  by_cases e : s < X 8 0
  · have o : ¬ (X 8 0 ≤ s ∧ s < X 8 0 + t) := by omega
    rw [fil_out o, fil_out o, fil_out o, fil_out o, fil_out o, fil_out o, fil_out o]
    exact w5 s x e
  · have o1 : X 8 0 ≤ s := by omega
    rw [fil_in o1 y2, fil_in o1 y2, fil_in o1 y2, fil_in o1 y2, fil_in o1 y2, fil_in o1 y2, fil_in o1 y2]
    exact w5 (X 8 0 - 1) (by omega) (by omega)
theorem PR_goy {b k : Int} (h : PR f n ts te tk nu er eo (goX f n (muX b k X))) (hb : X 9 3 = 0 ∧ b = 1) : PR f n ts te tk nu er eo (nxX f n X) := by
  rw [show muX b k X = X from if_pos hb.2, show goX f n X = nxX f n X from if_pos hb.1] at h
  exact h
theorem PR_muy {b k : Int} (h : PR f n ts te tk nu er eo (muX b k X)) (hb : X 9 3 = 0 ∧ b = 1) : PR f n ts te tk nu er eo X := by
  rw [show muX b k X = X from if_pos hb.2] at h
  exact h
theorem PR_rep {t : Int} (h : PR f n ts te tk nu er eo X) : PR f n ts te tk nu er eo (repX X t) := PR_c9 h (fun _ _ _ => rfl)
theorem PR_gon (h : PR f n ts te tk nu er eo (goX f n X)) (h0 : X 9 3 = 0) : PR f n ts te tk nu er eo (nxX f n X) := by
  rw [show goX f n X = nxX f n X from if_pos h0] at h
  exact h
theorem DR_rep {t : Int} (h : DR dr hL hS X) (h3 : X 9 3 = 0) (h0 : 0 < X 8 0) (ht : 1 ≤ t) (h40 : X 8 0 + t ≤ 40) : DR (uI (agF dr (X 8 0) (7 * t)) 2 (X 8 0 + t)) hL hS (repX X t) := ⟨h.1, fun _ => ⟨RT_rep (h.2 h3).1 h0 ht, WT_rep (h.2 h3).2.1 h0 ht h40, (h.2 h3).2.2⟩⟩
theorem ag_3 (h : ¬ (X 9 3 = 0 ∧ 0 < X 8 0)) : agX f n X = faX 3 X := if_neg h
theorem ag_1 (h : X 9 3 = 0 ∧ 0 < X 8 0) (h2 : nxX f n X 9 2 ≠ 2) : agX f n X = faX 1 (nxX f n X) := by
  unfold agX; rw [if_pos h, if_neg h2]
theorem ag_4 (h : X 9 3 = 0 ∧ 0 < X 8 0) (h2 : nxX f n X 9 2 = 2) (h4 : ¬ (1 ≤ nuV f (nxX f n X) ∧ nuV f (nxX f n X) ≤ 39)) : agX f n X = faX 4 (nxX f n X) := by
  unfold agX; rw [if_pos h, if_pos h2, if_neg h4]
theorem ag_5 (h : X 9 3 = 0 ∧ 0 < X 8 0) (h2 : nxX f n X 9 2 = 2) (h4 : 1 ≤ nuV f (nxX f n X) ∧ nuV f (nxX f n X) ≤ 39) (h5 : ¬ X 8 0 + nuV f (nxX f n X) ≤ 40) : agX f n X = faX 5 (nxX f n X) := by
  unfold agX; rw [if_pos h, if_pos h2, if_pos h4, if_neg h5]
theorem ag_y (h : X 9 3 = 0 ∧ 0 < X 8 0) (h2 : nxX f n X 9 2 = 2) (h4 : 1 ≤ nuV f (nxX f n X) ∧ nuV f (nxX f n X) ≤ 39) (h5 : X 8 0 + nuV f (nxX f n X) ≤ 40) : agX f n X = nxX f n (repX (nxX f n X) (nuV f (nxX f n X))) := by
  unfold agX; rw [if_pos h, if_pos h2, if_pos h4, if_pos h5]
end AGN
