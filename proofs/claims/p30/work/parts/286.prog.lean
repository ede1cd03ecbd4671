/-! STATEMENTS, THE WHOLE TEXT; how a text goes on -/
section PRG
variable {f dr : Int → Int} {n ts te tk nu er eo hL hS e : Int} {X : Nat → Int → Int}
def lnX (f : Int → Int) (n : Int) (X : Nat → Int → Int) : Nat → Int → Int := if wdX f X 1 then shtX f n X else if wdX f X 2 then codX f n X else if wdX f X 3 then agX f n X else if wdX f X 4 then limX f n X else if wdX f X 5 then simX f n X else faX 1 X
theorem ln_1 (h : wdX f X 1) : lnX f n X = shtX f n X := if_pos h
theorem ln_2 (h1 : ¬ wdX f X 1) (h : wdX f X 2) : lnX f n X = codX f n X := by unfold lnX; rw [if_neg h1, if_pos h]
theorem ln_3 (h1 : ¬ wdX f X 1) (h2 : ¬ wdX f X 2) (h : wdX f X 3) : lnX f n X = agX f n X := by unfold lnX; rw [if_neg h1, if_neg h2, if_pos h]
theorem ln_4 (h1 : ¬ wdX f X 1) (h2 : ¬ wdX f X 2) (h3 : ¬ wdX f X 3) (h : wdX f X 4) : lnX f n X = limX f n X := by unfold lnX; rw [if_neg h1, if_neg h2, if_neg h3, if_pos h]
theorem ln_5 (h1 : ¬ wdX f X 1) (h2 : ¬ wdX f X 2) (h3 : ¬ wdX f X 3) (h4 : ¬ wdX f X 4) (h : wdX f X 5) : lnX f n X = simX f n X := by unfold lnX; rw [if_neg h1, if_neg h2, if_neg h3, if_neg h4, if_pos h]
theorem ln_6 (h1 : ¬ wdX f X 1) (h2 : ¬ wdX f X 2) (h3 : ¬ wdX f X 3) (h4 : ¬ wdX f X 4) (h5 : ¬ wdX f X 5) : lnX f n X = faX 1 X := by unfold lnX; rw [if_neg h1, if_neg h2, if_neg h3, if_neg h4, if_neg h5]
def seX (f : Int → Int) (n : Int) (X : Nat → Int → Int) : Nat → Int → Int := if X 9 3 = 0 ∧ X 9 2 = 3 then nxX f n X else faX 1 X
def stX (f : Int → Int) (n : Int) (X : Nat → Int → Int) : Nat → Int → Int := seX f n (lnX f n X)
theorem se_t {b : Int} (h : PR f n ts te tk nu er eo X) (hb : b = 1 ↔ tk = 3) (h1 : muX b 1 X 9 3 = 0) : X 9 3 = 0 ∧ muX b 1 X = X ∧ seX f n X = nxX f n X := by
  obtain ⟨c, c1⟩ := (muX_3 (k := 1) (X := X) (by decide)).mp h1
  have q := (h.2.2.2.1 c).2.2.1
  exact ⟨c, if_pos c1, if_pos ⟨c, q.symm.trans (hb.mp c1)⟩⟩
theorem se_f {b : Int} (h : PR f n ts te tk nu er eo X) (hb : b = 1 ↔ tk = 3) (h1 : ¬ muX b 1 X 9 3 = 0) : muX b 1 X = seX f n X ∧ seX f n X 9 3 ≠ 0 := by
  have e : seX f n X = faX 1 X := if_neg (fun w => h1 ((muX_3 (k := 1) (X := X) (by decide)).mpr ⟨w.1, hb.mpr ((h.2.2.2.1 w.1).2.2.1.trans w.2)⟩))
  have e2 : muX b 1 X = faX 1 X := mu_fa (fun w => h1 ((muX_3 (k := 1) (X := X) (by decide)).mpr w))
  rw [e, e2]
  exact ⟨rfl, faX_3 (by decide)⟩
theorem DR_se (h : DR dr hL hS X) : DR dr hL hS (seX f n X) := by
  unfold seX
  split
  · exact DR_nx h
  · exact DR_fa h (by decide)
/-- the token that stands there lies behind e -/
def beh (n e : Int) (X : Nat → Int → Int) : Prop := X 9 3 = 0 → e ≤ X 9 0 ∧ X 9 0 ≤ X 9 1 ∧ X 9 1 ≤ n ∧ (X 9 2 ≠ 0 → X 9 0 < X 9 1)
theorem beh_no (h : X 9 3 ≠ 0) : beh n e X := fun z => absurd z h
theorem beh_9 {Y : Nat → Int → Int} (h : beh n e X) (q : Y 9 = X 9) : beh n e Y := by
  unfold beh
  rw [q]
  exact h
theorem tk_st {s : Int} (h : s < n) : s < tkE f n s := by
  unfold tkE
  rw [if_neg (by omega)]
  have a : 97 ≤ f s ∧ f s ≤ 122 → s < ru f n 97 122 s := fun w => by
    have z := ru_bd (f := f) (n := n) (lo := 97) (hi := 122) (k := s + 1) (by omega)
    rw [ru_s ⟨h, w⟩] at z
    omega
  have b : 48 ≤ f s ∧ f s ≤ 57 → s < ru f n 48 57 s := fun w => by
    have z := ru_bd (f := f) (n := n) (lo := 48) (hi := 57) (k := s + 1) (by omega)
    rw [ru_s ⟨h, w⟩] at z
    omega
  split
  · rename_i c; exact a c
  · split
    · rename_i c; exact b c
    · omega
theorem tkE_bb {s : Int} (h : s ≤ n) : s ≤ tkE f n s ∧ tkE f n s ≤ n := by
  have a := ru_bd (f := f) (lo := 97) (hi := 122) h
  have b := ru_bd (f := f) (lo := 48) (hi := 57) h
  unfold tkE
  (repeat' split) <;> omega
theorem beh_n0 (h : X 9 3 = 0 → e ≤ X 9 1 ∧ X 9 1 ≤ n) : beh n e (nxX f n X) := fun z => by
  have w := h z
  have a := sk_bd (f := f) (n := n) (k := X 9 1) w.2
  have b := tkE_bb (f := f) a.2
  show e ≤ sk f n (X 9 1) ∧ sk f n (X 9 1) ≤ tkE f n (sk f n (X 9 1)) ∧ tkE f n (sk f n (X 9 1)) ≤ n ∧ (tkK f n (sk f n (X 9 1)) ≠ 0 → sk f n (X 9 1) < tkE f n (sk f n (X 9 1)))
  refine ⟨by omega, b.1, b.2, fun y => ?_⟩
  by_cases c : sk f n (X 9 1) < n
  · exact tk_st c
  · exact absurd (show tkK f n (sk f n (X 9 1)) = 0 by unfold tkK; rw [if_pos (by omega)]) y
theorem beh_nx (h : beh n e X) : beh n e (nxX f n X) := beh_n0 (fun z => by have w := h z; omega)
theorem beh_fa {k : Int} (hk : k ≠ 0) : beh n e (faX k X) := beh_no (faX_3 hk)
theorem beh_rd {lo hi : Int} (h : beh n e X) : beh n e (rdX f n lo hi X) := by
  unfold rdX
  split
  · split
    · split
      · exact beh_nx h
      · exact beh_fa (by decide)
    · exact beh_fa (by decide)
  · exact h
theorem beh_rs (h : beh n e X) : beh n e (rsX f n X) := by
  unfold rsX
  refine beh_rd ?_
  unfold rsB
  split
  · exact beh_nx (beh_rd (beh_rd h))
  · exact beh_rd (beh_rd h)
theorem beh_gl (h : beh n e X) : beh n e (glX f n X) := by
  unfold glX
  split
  · exact beh_rd (beh_nx h)
  · exact h
theorem beh_li {k lo hi : Int} (h : beh n e X) : beh n e (liX f n k lo hi X) := by
  unfold liX
  split
  · exact beh_9 (beh_rd (lo := lo) (hi := hi) h) rfl
  · exact beh_rd h
/-- behind a line the token lies behind the line's word -/
theorem beh_ln (h : X 9 3 = 0 → e ≤ X 9 1 ∧ X 9 1 ≤ n) : beh n e (lnX f n X) := by
  have q : beh n e (nxX f n X) := beh_n0 h
  unfold lnX
  split
  · unfold shtX
    split
    · have a : beh n e (sh4 f n (nxX f n X)) := beh_gl (beh_rd (beh_rd (beh_rs q)))
      split
      · exact beh_9 a rfl
      · exact a
    · exact beh_fa (by decide)
  · split
    · unfold codX
      split
      · have a : beh n e (cd4 f n (nxX f n X)) := beh_gl (beh_rs (beh_rd q))
        split
        · exact beh_9 a rfl
        · exact a
      · exact beh_fa (by decide)
    · split
      · unfold agX
        split
        · split
          · split
            · split
              · exact beh_nx (beh_9 q rfl)
              · exact beh_fa (by decide)
            · exact beh_fa (by decide)
          · exact beh_fa (by decide)
        · exact beh_fa (by decide)
      · split
        · unfold limX
          split
          · exact beh_li (beh_li (beh_li (beh_li (beh_n0 (X := st X 9 (uI (X 9) 5 1)) h))))
          · exact beh_fa (by decide)
        · split
          · unfold simX
            split
            · exact beh_9 (beh_n0 (f := f) (X := st X 9 (uI (X 9) 6 1)) h) rfl
            · exact beh_fa (by decide)
          · exact beh_fa (by decide)
/-- a statement without a fault goes on -/
theorem st_on (h : X 9 3 = 0 → 0 ≤ X 9 1 ∧ X 9 1 ≤ n) (h0 : stX f n X 9 3 = 0) (hX : X 9 3 = 0) : X 9 1 < stX f n X 9 0 ∧ beh n 0 (stX f n X) := by
  have q := beh_ln (f := f) (X := X) (e := X 9 1) (n := n) (fun z => by have := h z; omega)
  unfold stX seX at h0 ⊢
  split at h0
  · rename_i c
    rw [if_pos c]
    have w := q c.1
    have w2 := w.2.2.2 (by rw [c.2]; decide)
    have y : beh n (lnX f n X 9 1) (nxX f n (lnX f n X)) := beh_n0 (fun _ => ⟨Int.le_refl _, w.2.2.1⟩)
    have y2 := y h0
    have hh := h hX
    exact ⟨by omega, fun z => by have y3 := y z; omega⟩
  · exact absurd h0 (faX_3 (by decide))
def loX (f : Int → Int) (n : Int) : Nat → (Nat → Int → Int) → Nat → Int → Int
  | 0, X => X
  | m + 1, X => if X 9 3 = 0 ∧ X 9 2 ≠ 0 then loX f n m (stX f n X) else X
theorem lo_e {m : Nat} (h : ¬ (X 9 3 = 0 ∧ X 9 2 ≠ 0)) : loX f n m X = X := by
  cases m with
  | zero => rfl
  | succ m => exact if_neg h
theorem lo_s {m : Nat} (h : X 9 3 = 0 ∧ X 9 2 ≠ 0) : loX f n (m + 1) X = loX f n m (stX f n X) := if_pos h
/-- where a text begins -/
def in0 : Nat → Int → Int := fun p k => if p = 7 then (if k = 0 then 150 else if k = 1 then 20 else if k = 2 then 30 else 5) else if p = 8 then (if k = 3 then 1 else 0) else 0
def fe0 (f : Int → Int) (n : Int) : Nat → Int → Int := nxX f n in0
def feX (f : Int → Int) (n : Int) : Nat → Int → Int := if wdX f (fe0 f n) 0 then nxX f n (fe0 f n) else faX 1 (fe0 f n)
def hd3 (f : Int → Int) (n : Int) : Nat → Int → Int := rdX f n 30 500 (rdX f n 50 500 (feX f n))
def hdX (f : Int → Int) (n : Int) : Nat → Int → Int := if hd3 f n 9 3 = 0 then st (hd3 f n) 8 (uI (uI (hd3 f n 8) 1 (nuV f (feX f n))) 2 (nuV f (rdX f n 50 500 (feX f n)))) else hd3 f n
/-- the whole text -/
def paX (f : Int → Int) (n : Int) : Nat → Int → Int := loX f n 701 (seX f n (hdX f n))
theorem fe0_3 : fe0 f n 9 3 = 0 := rfl
theorem beh_fe (hn : 0 ≤ n) : beh n 0 (feX f n) := by
  have q : beh n 0 (fe0 f n) := beh_n0 (fun _ => ⟨Int.le_refl 0, hn⟩)
  unfold feX
  split
  · exact beh_nx q
  · exact beh_fa (by decide)
theorem beh_hd (hn : 0 ≤ n) : beh n 0 (seX f n (hdX f n)) := by
  have q : beh n 0 (hd3 f n) := beh_rd (beh_rd (beh_fe hn))
  have q2 : beh n 0 (hdX f n) := by
    unfold hdX
    split
    · exact beh_9 q rfl
    · exact q
  unfold seX
  split
  · exact beh_nx q2
  · exact beh_fa (by decide)
theorem fe_r {p : Nat} (h : p < 9) : feX f n p = in0 p := by
  have a : ∀ (k : Int) (X : Nat → Int → Int), faX k X p = X p := fun k X => by
    unfold faX
    split
    · exact if_neg (by omega)
    · rfl
  unfold feX
  split
  · rw [← nxX_r h]; exact (nxX_r h).symm
  · rw [a]; exact (nxX_r h).symm
theorem hd3_r {p : Nat} (h : p < 9) : hd3 f n p = in0 p := by
  unfold hd3
  rw [rdX_r h, rdX_r h, fe_r h]
theorem fe_3 : wdX f (fe0 f n) 0 ↔ feX f n 9 3 = 0 := by
  unfold feX
  split
  · rename_i c
    exact ⟨fun _ => rfl, fun _ => c⟩
  · rename_i c
    exact ⟨fun w => absurd w c, fun w => absurd w (faX_3 (by decide))⟩
theorem hd_bits : hdX f n 9 = hd3 f n 9 := by
  unfold hdX
  split
  · rfl
  · rfl
end PRG
