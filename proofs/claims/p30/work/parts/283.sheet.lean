/-! THE SHEET LINES -/
section SHT
variable {f dr : Int → Int} {n ts te tk nu er eo hL hS : Int} {X : Nat → Int → Int}
abbrev wdX (f : Int → Int) (X : Nat → Int → Int) (i : Nat) : Prop := isWd f (X 9 3) (X 9 2) (X 9 0) (X 9 1) (txL i)
theorem wd_PR {L : List Int} (h : PR f n ts te tk nu er eo X) : isWd f er tk ts te L ↔ isWd f (X 9 3) (X 9 2) (X 9 0) (X 9 1) L := by
  by_cases e : X 9 3 = 0
  · obtain ⟨b1, b2, b3, b4⟩ := h.2.2.2.1 e
    rw [← b1, ← b2, ← b3, ← h.1]
  · have h1 := h.1
    exact ⟨fun w => absurd w.1.1 (by omega), fun w => absurd w.1.1 e⟩
/-- what is glued -/
def glX (f : Int → Int) (n : Int) (X : Nat → Int → Int) : Nat → Int → Int := if wdX f X 6 then rdX f n 0 400 (nxX f n X) else X
def glV (f : Int → Int) (n : Int) (X : Nat → Int → Int) : Int := if wdX f X 6 then nuV f (nxX f n X) else -1
theorem gl_y (h : wdX f X 6) : glX f n X = rdX f n 0 400 (goX f n X) := by
  unfold glX goX
  rw [if_pos h, if_pos h.1.1]
theorem gl_n (h : ¬ wdX f X 6) : glX f n X = X := if_neg h
theorem glV_y {v : Int} (h : wdX f X 6) (hv : rdX f n 0 400 (goX f n X) 9 3 = 0 → v = nuV f (goX f n X)) : glX f n X 9 3 = 0 → v = glV f n X := fun w => by
  rw [gl_y h] at w
  unfold glV
  rw [if_pos h, hv w]
  unfold goX
  rw [if_pos h.1.1]
theorem glV_n (h : ¬ wdX f X 6) : -1 = glV f n X := (if_neg h).symm
theorem glX_r {p : Nat} (h : p < 9) : glX f n X p = X p := by
  unfold glX
  split
  · rw [rdX_r h, ← nxX_r h]
  · rfl
theorem glX_z (h : glX f n X 9 3 = 0) : X 9 3 = 0 := by
  unfold glX at h
  split at h
  · rename_i c; exact c.1.1
  · exact h
theorem DR_rs (h : DR dr hL hS X) : DR dr hL hS (rsX f n X) := by
  unfold rsX
  refine DR_rd ?_
  unfold rsB
  split
  · exact DR_nx (DR_rd (DR_rd h))
  · exact DR_rd (DR_rd h)
theorem DR_gl (h : DR dr hL hS X) : DR dr hL hS (glX f n X) := by
  unfold glX
  split
  · exact DR_rd (DR_nx h)
  · exact h
/-- one sheet more -/
def putS (X : Nat → Int → Int) (v : List Int) : Nat → Int → Int := fun p => if p < 7 then uI (X p) (X 8 0) (v.getD p 0) else if p = 8 then uI (X 8) 0 (X 8 0 + 1) else X p
def putD (dr : Int → Int) (a : Int) (v : List Int) : Int → Int := uI (uI (uI (uI (uI (uI (uI dr a (v.getD 0 0)) (a + 1) (v.getD 1 0)) (a + 2) (v.getD 2 0)) (a + 3) (v.getD 3 0)) (a + 4) (v.getD 4 0)) (a + 5) (v.getD 5 0)) (a + 6) (v.getD 6 0)
theorem putD_in {a : Int} {v : List Int} {p : Nat} (h : p < 7) : putD dr a v (a + p) = v.getD p 0 := by
  have c : p = 0 ∨ p = 1 ∨ p = 2 ∨ p = 3 ∨ p = 4 ∨ p = 5 ∨ p = 6 := by omega
  unfold putD
  rcases c with rfl | rfl | rfl | rfl | rfl | rfl | rfl <;> simp only [uI] <;> (repeat' split) <;> first | rfl | omega
theorem putD_o {a x : Int} {v : List Int} (h : x < a ∨ a + 7 ≤ x) : putD dr a v x = dr x := by
  unfold putD
  simp only [uI]
  (repeat' split) <;> first | rfl | omega
def vOk (v : List Int) : Prop := 50 ≤ v.getD 0 0 ∧ v.getD 0 0 ≤ 500 ∧ 30 ≤ v.getD 1 0 ∧ v.getD 1 0 ≤ 500 ∧ -99 ≤ v.getD 2 0 ∧ v.getD 2 0 ≤ 99 ∧ 0 ≤ v.getD 3 0 ∧ v.getD 3 0 ≤ 1000 ∧ 0 ≤ v.getD 4 0 ∧ v.getD 4 0 ≤ 1000 ∧ -1 ≤ v.getD 5 0 ∧ v.getD 5 0 ≤ 999 ∧ -1 ≤ v.getD 6 0 ∧ v.getD 6 0 ≤ 400
theorem DR_put {v : List Int} (h : DR dr hL hS X) (h0 : X 9 3 = 0) (h40 : X 8 0 < 40) (hv : vOk v) : DR (uI (putD dr (8 + 7 * X 8 0) v) 2 (X 8 0 + 1)) hL hS (putS X v) := by
  obtain ⟨b, h2⟩ := h
  obtain ⟨⟨⟨a0, a1, a2, a3⟩, r2, r3⟩, ⟨⟨w1, w2, w3⟩, w4, w5⟩, e1, e2⟩ := h2 h0
  refine ⟨b, fun _ => ⟨⟨⟨?_, ?_, ?_, ?_⟩, fun k p q => ?_, fun s p x y c => ?_⟩, ⟨⟨(show 0 ≤ X 8 0 + 1 by omega), (show X 8 0 + 1 ≤ 40 by omega), w3⟩, w4, fun s x y => ?_⟩, e1, e2⟩⟩
  · rw [uI_n _ _ _ (by decide), putD_o (by omega)]; exact a0
  · rw [uI_n _ _ _ (by decide), putD_o (by omega)]; exact a1
  · rw [uI_s]; exact (uI_s (X 8) 0 _).symm
  · rw [uI_n _ _ _ (by decide), putD_o (by omega)]; exact a3
  · rw [uI_n _ _ _ (by omega), putD_o (by omega)]; exact r2 k p q
  · have y2 : s < X 8 0 + 1 := y
    rw [uI_n _ _ _ (by omega)]
    have er : putS X v p = uI (X p) (X 8 0) (v.getD p 0) := if_pos c
    rw [er]
    by_cases e : s = X 8 0
    · rw [e, uI_s]; exact putD_in c
    · rw [uI_n _ _ _ e, putD_o (by omega)]; exact r3 s p x (by omega) c
  · have y2 : s < X 8 0 + 1 := y
    show 50 ≤ uI (X 0) (X 8 0) (v.getD 0 0) s ∧ uI (X 0) (X 8 0) (v.getD 0 0) s ≤ 500 ∧ 30 ≤ uI (X 1) (X 8 0) (v.getD 1 0) s ∧ uI (X 1) (X 8 0) (v.getD 1 0) s ≤ 500 ∧ -99 ≤ uI (X 2) (X 8 0) (v.getD 2 0) s ∧ uI (X 2) (X 8 0) (v.getD 2 0) s ≤ 99 ∧ 0 ≤ uI (X 3) (X 8 0) (v.getD 3 0) s ∧ uI (X 3) (X 8 0) (v.getD 3 0) s ≤ 1000 ∧ 0 ≤ uI (X 4) (X 8 0) (v.getD 4 0) s ∧ uI (X 4) (X 8 0) (v.getD 4 0) s ≤ 1000 ∧ -1 ≤ uI (X 5) (X 8 0) (v.getD 5 0) s ∧ uI (X 5) (X 8 0) (v.getD 5 0) s ≤ 999 ∧ -1 ≤ uI (X 6) (X 8 0) (v.getD 6 0) s ∧ uI (X 6) (X 8 0) (v.getD 6 0) s ≤ 400
    by_cases e : s = X 8 0
    · rw [e, uI_s, uI_s, uI_s, uI_s, uI_s, uI_s, uI_s]; exact hv
    · rw [uI_n _ _ _ e, uI_n _ _ _ e, uI_n _ _ _ e, uI_n _ _ _ e, uI_n _ _ _ e, uI_n _ _ _ e, uI_n _ _ _ e]
      exact w5 s x (by omega)
theorem PR_put {v : List Int} (h : PR f n ts te tk nu er eo X) : PR f n ts te tk nu er eo (putS X v) := PR_c9 h (fun _ _ _ => rfl)
/-- a sheet's line, its word read: from the token behind the word -/
def sh4 (f : Int → Int) (n : Int) (Y : Nat → Int → Int) : Nat → Int → Int := glX f n (rdX f n 0 1000 (rdX f n 0 1000 (rsX f n Y)))
def shv (f : Int → Int) (n : Int) (Y : Nat → Int → Int) : List Int := [nuV f Y, nuV f (rdX f n 50 500 Y), (if lessQ (rsA f n Y) then -nuV f (rsB f n Y) else nuV f (rsB f n Y)), nuV f (rsX f n Y), nuV f (rdX f n 0 1000 (rsX f n Y)), -1, glV f n (rdX f n 0 1000 (rdX f n 0 1000 (rsX f n Y)))]
def shtX (f : Int → Int) (n : Int) (X : Nat → Int → Int) : Nat → Int → Int := if X 9 3 = 0 ∧ X 8 0 < 40 then (if sh4 f n (nxX f n X) 9 3 = 0 then putS (sh4 f n (nxX f n X)) (shv f n (nxX f n X)) else sh4 f n (nxX f n X)) else faX 5 X
/-- .. of a code sheet -/
def cd4 (f : Int → Int) (n : Int) (Y : Nat → Int → Int) : Nat → Int → Int := glX f n (rsX f n (rdX f n 0 999 Y))
def cdv (f : Int → Int) (n : Int) (Y : Nat → Int → Int) : List Int := [nuV f (rdX f n 0 999 Y), nuV f (rdX f n 50 500 (rdX f n 0 999 Y)), (if lessQ (rsA f n (rdX f n 0 999 Y)) then -nuV f (rsB f n (rdX f n 0 999 Y)) else nuV f (rsB f n (rdX f n 0 999 Y))), 0, 0, nuV f Y, glV f n (rsX f n (rdX f n 0 999 Y))]
def codX (f : Int → Int) (n : Int) (X : Nat → Int → Int) : Nat → Int → Int := if X 9 3 = 0 ∧ X 8 0 < 40 then (if cd4 f n (nxX f n X) 9 3 = 0 then putS (cd4 f n (nxX f n X)) (cdv f n (nxX f n X)) else cd4 f n (nxX f n X)) else faX 5 X
theorem sh4_z {Y : Nat → Int → Int} (h : sh4 f n Y 9 3 = 0) : rdX f n 0 1000 (rdX f n 0 1000 (rsX f n Y)) 9 3 = 0 ∧ rdX f n 0 1000 (rsX f n Y) 9 3 = 0 ∧ rsX f n Y 9 3 = 0 := by
  have a := glX_z (X := rdX f n 0 1000 (rdX f n 0 1000 (rsX f n Y))) h
  exact ⟨a, rdX_z a, rdX_z (rdX_z a)⟩
theorem cd4_z {Y : Nat → Int → Int} (h : cd4 f n Y 9 3 = 0) : rsX f n (rdX f n 0 999 Y) 9 3 = 0 ∧ rdX f n 0 999 Y 9 3 = 0 := by
  have a := glX_z (X := rsX f n (rdX f n 0 999 Y)) h
  exact ⟨a, (rsX_z a).2.2.2⟩
theorem sh4_r {Y : Nat → Int → Int} {p : Nat} (h : p < 9) : sh4 f n Y p = Y p := by
  unfold sh4
  rw [glX_r h, rdX_r h, rdX_r h, rsX_r h]
theorem cd4_r {Y : Nat → Int → Int} {p : Nat} (h : p < 9) : cd4 f n Y p = Y p := by
  unfold cd4
  rw [glX_r h, rsX_r h, rdX_r h]
theorem DR_sh4 {Y : Nat → Int → Int} (h : DR dr hL hS Y) : DR dr hL hS (sh4 f n Y) := DR_gl (DR_rd (DR_rd (DR_rs h)))
theorem DR_cd4 {Y : Nat → Int → Int} (h : DR dr hL hS Y) : DR dr hL hS (cd4 f n Y) := DR_gl (DR_rs (DR_rd h))
/-- the line's end -/
theorem sht_e {a b c d e g : Int} (hC : X 9 3 = 0 ∧ X 8 0 < 40) (hD : DR dr hL hS X) (hs : rsX f n (nxX f n X) 9 3 = 0 → shp f n (nxX f n X) a b c) (hd : rdX f n 0 1000 (rsX f n (nxX f n X)) 9 3 = 0 → d = nuV f (rsX f n (nxX f n X))) (he : rdX f n 0 1000 (rdX f n 0 1000 (rsX f n (nxX f n X))) 9 3 = 0 → e = nuV f (rdX f n 0 1000 (rsX f n (nxX f n X)))) (hg : sh4 f n (nxX f n X) 9 3 = 0 → g = glV f n (rdX f n 0 1000 (rdX f n 0 1000 (rsX f n (nxX f n X))))) (hr : shR2 a b c ∧ (0 ≤ d ∧ d ≤ 1000) ∧ (0 ≤ e ∧ e ≤ 1000) ∧ -1 ≤ g ∧ g ≤ 400) (h4 : sh4 f n (nxX f n X) 9 3 = 0) :
    DR (uI (putD dr (8 + 7 * X 8 0) [a, b, c, d, e, -1, g]) 2 (X 8 0 + 1)) hL hS (shtX f n X) := by
  have z := sh4_z h4
  obtain ⟨s1, s2, s3⟩ := hs z.2.2
  have e0 : [a, b, c, d, e, -1, g] = shv f n (nxX f n X) := by
    unfold shv
    rw [s1, s2, s3, hd z.2.1, he z.1, hg h4]
  have e8 : sh4 f n (nxX f n X) 8 = X 8 := (sh4_r (by decide)).trans (nxX_r (by decide)).symm
  have q : DR dr hL hS (sh4 f n (nxX f n X)) := DR_sh4 (DR_nx hD)
  have w := DR_put (v := [a, b, c, d, e, -1, g]) q h4 (by rw [e8]; exact hC.2) (by obtain ⟨⟨r1, r2, r3, r4, r5, r6⟩, r7, r8, r9⟩ := hr; exact ⟨r1, r2, r3, r4, r5, r6, r7.1, r7.2, r8.1, r8.2, (by decide : (-1 : Int) ≤ -1), (by decide : (-1 : Int) ≤ 999), r9.1, r9.2⟩)
  rw [e8] at w
  unfold shtX
  rw [if_pos hC, if_pos h4, ← e0]
  exact w
theorem cod_e {a b c d g : Int} (hC : X 9 3 = 0 ∧ X 8 0 < 40) (hD : DR dr hL hS X) (hs : rsX f n (rdX f n 0 999 (nxX f n X)) 9 3 = 0 → shp f n (rdX f n 0 999 (nxX f n X)) a b c) (hd : rdX f n 0 999 (nxX f n X) 9 3 = 0 → d = nuV f (nxX f n X)) (hg : cd4 f n (nxX f n X) 9 3 = 0 → g = glV f n (rsX f n (rdX f n 0 999 (nxX f n X)))) (hr : shR2 a b c ∧ (0 ≤ d ∧ d ≤ 999) ∧ -1 ≤ g ∧ g ≤ 400) (h4 : cd4 f n (nxX f n X) 9 3 = 0) :
    DR (uI (putD dr (8 + 7 * X 8 0) [a, b, c, 0, 0, d, g]) 2 (X 8 0 + 1)) hL hS (codX f n X) := by
  have z := cd4_z h4
  obtain ⟨s1, s2, s3⟩ := hs z.1
  have e0 : [a, b, c, 0, 0, d, g] = cdv f n (nxX f n X) := by
    unfold cdv
    rw [s1, s2, s3, hd z.2, hg h4]
  have e8 : cd4 f n (nxX f n X) 8 = X 8 := (cd4_r (by decide)).trans (nxX_r (by decide)).symm
  have q : DR dr hL hS (cd4 f n (nxX f n X)) := DR_cd4 (DR_nx hD)
  have w := DR_put (v := [a, b, c, 0, 0, d, g]) q h4 (by rw [e8]; exact hC.2) (by obtain ⟨⟨r1, r2, r3, r4, r5, r6⟩, r7, r9⟩ := hr; exact ⟨r1, r2, r3, r4, r5, r6, (by decide : (0 : Int) ≤ 0), (by decide : (0 : Int) ≤ 1000), (by decide : (0 : Int) ≤ 0), (by decide : (0 : Int) ≤ 1000), (show -1 ≤ d by omega), r7.2, r9.1, r9.2⟩)
  rw [e8] at w
  unfold codX
  rw [if_pos hC, if_pos h4, ← e0]
  exact w
theorem sht_f (hC : X 9 3 = 0 ∧ X 8 0 < 40) (h4 : ¬ sh4 f n (nxX f n X) 9 3 = 0) : shtX f n X = sh4 f n (nxX f n X) := by
  unfold shtX
  rw [if_pos hC, if_neg h4]
theorem sht_t (hC : X 9 3 = 0 ∧ X 8 0 < 40) (h4 : sh4 f n (nxX f n X) 9 3 = 0) : shtX f n X = putS (sh4 f n (nxX f n X)) (shv f n (nxX f n X)) := by
  unfold shtX
  rw [if_pos hC, if_pos h4]
theorem cod_f (hC : X 9 3 = 0 ∧ X 8 0 < 40) (h4 : ¬ cd4 f n (nxX f n X) 9 3 = 0) : codX f n X = cd4 f n (nxX f n X) := by
  unfold codX
  rw [if_pos hC, if_neg h4]
theorem cod_t (hC : X 9 3 = 0 ∧ X 8 0 < 40) (h4 : cd4 f n (nxX f n X) 9 3 = 0) : codX f n X = putS (cd4 f n (nxX f n X)) (cdv f n (nxX f n X)) := by
  unfold codX
  rw [if_pos hC, if_pos h4]
end SHT
