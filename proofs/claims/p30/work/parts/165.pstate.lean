/-! THE PARSER'S STATE: rows as of a setup; row 9: 0 start, 1 end, 2 kind, 3 error, 4 its offset, 5 limits seen, 6 simplex seen -/
section PST
variable {f : Int → Int} {n ts te tk nu er eo : Int} {X : Nat → Int → Int}
/-- the next token -/
def nxX (f : Int → Int) (n : Int) (X : Nat → Int → Int) : Nat → Int → Int := st X 9 (uI (uI (uI (X 9) 0 (sk f n (X 9 1))) 1 (tkE f n (sk f n (X 9 1)))) 2 (tkK f n (sk f n (X 9 1))))
/-- go on, if nothing is wrong -/
def goX (f : Int → Int) (n : Int) (X : Nat → Int → Int) : Nat → Int → Int := if X 9 3 = 0 then nxX f n X else X
/-- a fault -/
def faX (k : Int) (X : Nat → Int → Int) : Nat → Int → Int := if X 9 3 = 0 then st X 9 (uI (uI (X 9) 3 k) 4 (X 9 0)) else X
def muX (b : Int) (k : Int) (X : Nat → Int → Int) : Nat → Int → Int := if b = 1 then X else faX k X
/-- the number that stands there -/
def nuV (f : Int → Int) (X : Nat → Int → Int) : Int := nv f (X 9 0) (X 9 1 - X 9 0)
def rdX (f : Int → Int) (n lo hi : Int) (X : Nat → Int → Int) : Nat → Int → Int := if X 9 3 = 0 then (if X 9 2 = 2 then (if lo ≤ nuV f X ∧ nuV f X ≤ hi then nxX f n X else faX 4 X) else faX 1 X) else X
/-- the reference's fields -/
def PR (f : Int → Int) (n ts te tk nu er eo : Int) (X : Nat → Int → Int) : Prop := er = X 9 3 ∧ (0 ≤ er ∧ er ≤ 5) ∧ (X 9 3 ≠ 0 → eo = X 9 4) ∧ (X 9 3 = 0 → ts = X 9 0 ∧ te = X 9 1 ∧ tk = X 9 2 ∧ (X 9 2 = 2 → nu = nuV f X ∧ 0 ≤ nu ∧ nu ≤ 9999)) ∧ (0 ≤ ts ∧ ts ≤ n ∧ 0 ≤ te ∧ te ≤ n ∧ 0 ≤ tk ∧ tk ≤ 5 ∧ rg nu ∧ 0 ≤ eo ∧ eo ≤ 700 ∧ n ≤ 700)
theorem tkE_bd {s : Int} (h0 : 0 ≤ s) (h : s ≤ n) : s ≤ tkE f n s ∧ tkE f n s ≤ n := by
  have a := ru_bd (f := f) (lo := 97) (hi := 122) h
  have b := ru_bd (f := f) (lo := 48) (hi := 57) h
  unfold tkE
  (repeat' split) <;> omega
theorem tkK_bd {s : Int} : 0 ≤ tkK f n s ∧ tkK f n s ≤ 5 := by
  unfold tkK
  (repeat' split) <;> omega
theorem PR_nx {ts2 te2 tk2 nu2 : Int} (h : PR f n ts te tk nu er eo X) (h0 : X 9 3 = 0) (e1 : ts2 = sk f n te) (e2 : te2 = tkE f n ts2) (e3 : tk2 = tkK f n ts2) (e4 : tk2 = 2 → nu2 = nv f ts2 (te2 - ts2)) (e5 : rg nu2) (e6 : tk2 = 2 → 0 ≤ nu2 ∧ nu2 ≤ 9999) : PR f n ts2 te2 tk2 nu2 er eo (nxX f n X) := by
  obtain ⟨a1, a2, a3, a4, a5⟩ := h
  obtain ⟨b1, b2, b3, b4⟩ := a4 h0
  have q := sk_bd (f := f) (n := n) (k := te) a5.2.2.2.1
  have q2 := tkE_bd (f := f) (n := n) (s := sk f n te) (by omega) q.2
  have q3 := tkK_bd (f := f) (n := n) (s := sk f n te)
  rw [b2] at e1 q q2 q3
  subst e1 e2 e3
  refine ⟨a1, a2, fun z => absurd h0 z, fun _ => ⟨rfl, rfl, rfl, fun z => ⟨e4 z, e6 z⟩⟩, by omega, q.2, by omega, q2.2, q3.1, q3.2, e5, a5.2.2.2.2.2.2.2⟩
theorem PR_fa {k : Int} (h : PR f n ts te tk nu er eo X) (h0 : er = 0) (hk : 1 ≤ k ∧ k ≤ 5) : PR f n ts te tk nu k ts (faX k X) := by
  obtain ⟨a1, a2, a3, a4, a5⟩ := h
  have h1 : X 9 3 = 0 := by omega
  obtain ⟨b1, b2, b3, b4⟩ := a4 h1
  have e : faX k X = st X 9 (uI (uI (X 9) 3 k) 4 (X 9 0)) := if_pos h1
  rw [e]
  have e3 : (st X 9 (uI (uI (X 9) 3 k) 4 (X 9 0))) 9 3 = k := rfl
  refine ⟨e3.symm, by omega, fun _ => b1, fun z => ?_, by omega⟩
  rw [e3] at z
  omega
theorem faX_n {k : Int} (h : X 9 3 ≠ 0) : faX k X = X := if_neg h
theorem faX_3 {k : Int} (hk : k ≠ 0) : faX k X 9 3 ≠ 0 := by
  unfold faX
  split
  · exact hk
  · assumption
theorem nxX_3 : nxX f n X 9 3 = X 9 3 := rfl
theorem muX_3 {b k : Int} (hk : k ≠ 0) : muX b k X 9 3 = 0 ↔ (X 9 3 = 0 ∧ b = 1) := by
  unfold muX
  split
  · rename_i hb; exact ⟨fun z => ⟨z, hb⟩, fun z => z.1⟩
  · rename_i hb; exact ⟨fun z => absurd z (faX_3 hk), fun z => absurd z.2 hb⟩
theorem nuV_bd (h : PR f n ts te tk nu er eo X) (h0 : X 9 3 = 0) (h2 : X 9 2 = 2) : 0 ≤ nuV f X ∧ nuV f X ≤ 9999 := by
  obtain ⟨a1, a2, a3, a4, a5⟩ := h
  obtain ⟨b1, b2, b3, b4⟩ := a4 h0
  have z := b4 h2
  omega
theorem PR_mu {b k : Int} (h : PR f n ts te tk nu er eo X) (hk : 1 ≤ k ∧ k ≤ 5) : PR f n ts te tk nu (if er = 0 ∧ b ≠ 1 then k else er) (if er = 0 ∧ b ≠ 1 then ts else eo) (muX b k X) := by
  by_cases e : er = 0 ∧ b ≠ 1
  · rw [if_pos e, if_pos e, show muX b k X = faX k X from if_neg e.2]
    exact PR_fa h e.1 hk
  · rw [if_neg e, if_neg e]
    by_cases eb : b = 1
    · rw [show muX b k X = X from if_pos eb]; exact h
    · have h1 := h.1
      rw [show muX b k X = faX k X from if_neg eb, faX_n (by omega)]; exact h
theorem rd_1 {b1 lo hi : Int} (h : PR f n ts te tk nu er eo X) (hb : b1 = 1 ↔ tk = 2) (h1 : ¬ muX b1 1 X 9 3 = 0) : goX f n (muX b1 1 X) = rdX f n lo hi X ∧ rdX f n lo hi X 9 3 ≠ 0 := by
  have e : rdX f n lo hi X = muX b1 1 X := by
    unfold rdX
    by_cases c : X 9 3 = 0
    · have q := (h.2.2.2.1 c).2.2.1
      have q2 := muX_3 (b := b1) (k := 1) (X := X) (by decide)
      have nb : ¬ b1 = 1 := fun z => h1 (q2.mpr ⟨c, z⟩)
      rw [if_pos c, if_neg (fun z => nb (hb.mpr (q.trans z)))]
      exact (if_neg nb).symm
    · rw [if_neg c]
      unfold muX
      split
      · rfl
      · exact (faX_n c).symm
  rw [e]
  exact ⟨if_neg h1, h1⟩
theorem rd_2 {b1 b2 lo hi : Int} (h : PR f n ts te tk nu er eo X) (hb : b1 = 1 ↔ tk = 2) (h1 : muX b1 1 X 9 3 = 0) (h2 : ¬ muX b2 4 (muX b1 1 X) 9 3 = 0) (hb2 : b2 = bI (lo ≤ nu ∧ nu ≤ hi)) : goX f n (muX b2 4 (muX b1 1 X)) = rdX f n lo hi X ∧ rdX f n lo hi X 9 3 ≠ 0 := by
  obtain ⟨c, c1⟩ := (muX_3 (b := b1) (k := 1) (X := X) (by decide)).mp h1
  have e1 : muX b1 1 X = X := if_pos c1
  rw [e1] at h2 ⊢
  obtain ⟨q1, q2, q3, q4⟩ := h.2.2.2.1 c
  have k2 : X 9 2 = 2 := q3.symm.trans (hb.mp c1)
  have nb : ¬ b2 = 1 := fun z => h2 ((muX_3 (by decide)).mpr ⟨c, z⟩)
  have nr : ¬ (lo ≤ nuV f X ∧ nuV f X ≤ hi) := fun z => by
    rw [← (q4 k2).1] at z
    exact nb (hb2.trans (bI_t z))
  have e2 : muX b2 4 X = faX 4 X := if_neg nb
  have e : rdX f n lo hi X = muX b2 4 X := by
    unfold rdX
    rw [if_pos c, if_pos k2, if_neg nr, e2]
  rw [e]
  exact ⟨if_neg h2, h2⟩
theorem rd_3 {b1 b2 lo hi : Int} (h : PR f n ts te tk nu er eo X) (hb : b1 = 1 ↔ tk = 2) (h1 : muX b1 1 X 9 3 = 0) (h2 : muX b2 4 (muX b1 1 X) 9 3 = 0) (hb2 : b2 = bI (lo ≤ nu ∧ nu ≤ hi)) : goX f n (muX b2 4 (muX b1 1 X)) = rdX f n lo hi X ∧ nu = nuV f X ∧ lo ≤ nu ∧ nu ≤ hi := by
  obtain ⟨c, c1⟩ := (muX_3 (b := b1) (k := 1) (X := X) (by decide)).mp h1
  have e1 : muX b1 1 X = X := if_pos c1
  rw [e1] at h2 ⊢
  obtain ⟨q1, q2, q3, q4⟩ := h.2.2.2.1 c
  have k2 : X 9 2 = 2 := q3.symm.trans (hb.mp c1)
  have b1' : b2 = 1 := ((muX_3 (by decide)).mp h2).2
  have r : lo ≤ nu ∧ nu ≤ hi := Classical.byContradiction (fun z => by
    rw [hb2, bI_f z] at b1'
    exact absurd b1' (by decide))
  have en := (q4 k2).1
  have r2 : lo ≤ nuV f X ∧ nuV f X ≤ hi := en ▸ r
  have e2 : muX b2 4 X = X := if_pos b1'
  rw [e2]
  refine ⟨?_, en, r⟩
  unfold rdX goX
  rw [if_pos c, if_pos c, if_pos k2, if_pos r2]
end PST
