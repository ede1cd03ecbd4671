/-! THE STATE. T: 0 length, 1 thick, 2 skew, 3 front, 4 back, 5 code, 6 offset, 7 limits, 8: sheets, usual length, usual thick, duplex. C: 0 where, 1 skew, 2 offset, 3 half, 4 page's sheet, 5 its side, 6 its job, 7 job's code, 8 limits, 9 accounts, 10 thicknesses; 11: top, in path, reason, pages, jobs, duplex, count of the thicknesses, so many were added -/
def st (C : Nat → Int → Int) (i : Nat) (f : Int → Int) : Nat → Int → Int := fun k => if k = i then f else C k
abbrev s1 (C : Nat → Int → Int) (k v : Int) : Nat → Int → Int := st C 11 (uI (C 11) k v)
def pgJ (C : Nat → Int → Int) (j : Int) : Int := kI (fun p => C 6 p = j) (C 11 3)
def shJ (C : Nat → Int → Int) (j : Int) : Int := kI (fun p => C 6 p = j ∧ (p = 0 ∨ C 4 p ≠ C 4 (p - 1))) (C 11 3)
def fsN (q : Int → Prop) [DecidablePred q] : Nat → Int → Int
  | 0, _ => -1
  | f + 1, s => if q s then s else fsN q f (s + 1)
def fsJ (C : Nat → Int → Int) (j : Int) : Int := fsN (fun p => C 6 p = j) (C 11 3).toNat 0
/-- what a text may tell -/
def WT (T : Nat → Int → Int) : Prop := (0 ≤ T 8 0 ∧ T 8 0 ≤ 40 ∧ 50 ≤ T 8 1 ∧ T 8 1 ≤ 500 ∧ 30 ≤ T 8 2 ∧ T 8 2 ≤ 500 ∧ 0 ≤ T 8 3 ∧ T 8 3 ≤ 1) ∧ (101 ≤ T 7 0 ∧ T 7 0 ≤ 300 ∧ 0 ≤ T 7 1 ∧ T 7 1 ≤ 200 ∧ 0 ≤ T 7 2 ∧ T 7 2 ≤ 99 ∧ 0 ≤ T 7 3 ∧ T 7 3 ≤ 1000) ∧ ∀ s : Int, 0 ≤ s → s < T 8 0 → 50 ≤ T 0 s ∧ T 0 s ≤ 500 ∧ 30 ≤ T 1 s ∧ T 1 s ≤ 500 ∧ -99 ≤ T 2 s ∧ T 2 s ≤ 99 ∧ 0 ≤ T 3 s ∧ T 3 s ≤ 1000 ∧ 0 ≤ T 4 s ∧ T 4 s ≤ 1000 ∧ -1 ≤ T 5 s ∧ T 5 s ≤ 999 ∧ -1 ≤ T 6 s ∧ T 6 s ≤ 400
/-- what was told, as the reference holds it -/
def RT (td : Int → Int) (T : Nat → Int → Int) : Prop := (td 0 = T 8 1 ∧ td 1 = T 8 2 ∧ td 2 = T 8 0 ∧ td 3 = T 8 3) ∧ (∀ k : Int, 0 ≤ k → k < 4 → td (4 + k) = T 7 k) ∧ ∀ (s : Int) (p : Nat), 0 ≤ s → s < T 8 0 → p < 7 → td (8 + 7 * s + p) = T p s
/-- a state that can be -/
def WC (T C : Nat → Int → Int) : Prop := (0 ≤ C 11 1 ∧ C 11 1 ≤ C 11 0 ∧ C 11 0 ≤ T 8 0 ∧ 0 ≤ C 11 2 ∧ C 11 2 ≤ 3 ∧ 0 ≤ C 11 3 ∧ C 11 3 ≤ 2 * (C 11 0 - C 11 1) ∧ 1 ≤ C 11 4 ∧ C 11 4 ≤ 99 + (C 11 0 - C 11 1) ∧ 0 ≤ C 11 5 ∧ C 11 5 ≤ 1 ∧ 0 ≤ C 11 6 ∧ C 11 6 ≤ 6 ∧ C 11 6 ≤ C 11 7 ∧ C 11 7 ≤ C 11 0 ∧ (C 11 6 < 6 → C 11 7 = C 11 6) ∧ (0 < C 11 2 ∨ C 11 1 = 0 → C 11 7 ≤ C 11 0 - C 11 1)) ∧
  (101 ≤ C 8 0 ∧ C 8 0 ≤ 300 ∧ 0 ≤ C 8 1 ∧ C 8 1 ≤ 200 ∧ 0 ≤ C 8 2 ∧ C 8 2 ≤ 99 ∧ 0 ≤ C 8 3 ∧ C 8 3 ≤ 1000) ∧
  (∀ s : Int, 0 ≤ s → s < T 8 0 → 0 ≤ C 0 s ∧ C 0 s ≤ 6 ∧ -99 ≤ C 1 s ∧ C 1 s ≤ 99 ∧ -1 ≤ C 2 s ∧ C 2 s ≤ 400 ∧ 0 ≤ C 3 s ∧ C 3 s ≤ 1 ∧ (C 3 s = 1 → T 5 s = -1)) ∧
  (∀ i : Int, 0 ≤ i → i < C 11 6 → 30 ≤ C 10 i ∧ C 10 i ≤ 500) ∧
  (∀ p : Int, 0 ≤ p → p < C 11 3 → 0 ≤ C 4 p ∧ C 4 p < C 11 0 - C 11 1 ∧ 0 ≤ C 5 p ∧ C 5 p ≤ 1 ∧ 0 ≤ C 6 p ∧ C 6 p < C 11 4) ∧
  (∀ j : Int, 0 ≤ j → j < C 11 4 → -1 ≤ C 7 j ∧ C 7 j ≤ 999)
/-- the state as the reference holds it -/
def RJ (sa : Int → Int) (T C : Nat → Int → Int) (J : Int → Int) : Prop := (sa 0 = C 11 5 ∧ sa 5 = C 11 2 ∧ sa 6 = T 8 0 - C 11 0 ∧ sa 7 = C 11 1 ∧ sa 8 = C 11 6 ∧ sa 15 = C 11 3 ∧ sa 16 = C 11 4) ∧
  (∀ k : Int, 0 ≤ k → k < 4 → sa (1 + k) = C 8 k) ∧
  (∀ i : Int, 0 ≤ i → i < C 11 6 → sa (9 + i) = C 10 ((C 11 7 - C 11 6 + i) % 6)) ∧
  (∀ k : Int, 0 ≤ k → k < 9 → sa (17 + k) = C 9 k) ∧
  (∀ s : Int, 0 ≤ s → s < T 8 0 → sa (26 + 4 * s) = C 0 s ∧ sa (26 + 4 * s + 1) = C 1 s ∧ sa (26 + 4 * s + 2) = C 2 s ∧ sa (26 + 4 * s + 3) = C 3 s) ∧
  (∀ k : Int, 0 ≤ k → k < T 8 0 - C 11 0 → sa (186 + k) = T 8 0 - 1 - k) ∧
  (∀ k : Int, 0 ≤ k → k < C 11 1 → sa (226 + k) = C 11 0 - C 11 1 + k) ∧
  (∀ p : Int, 0 ≤ p → p < C 11 3 → sa (266 + 2 * p) = 2 * C 4 p + C 5 p ∧ sa (266 + 2 * p + 1) = C 6 p) ∧
  (∀ j : Int, 0 ≤ j → j < C 11 4 → sa (426 + 2 * j) = C 7 j ∧ sa (426 + 2 * j + 1) = J j)
abbrev RR (sa : Int → Int) (T C : Nat → Int → Int) : Prop := RJ sa T C (shJ C)
def WM (td sa : Int → Int) (T C : Nat → Int → Int) : Prop := WT T ∧ RT td T ∧ WC T C ∧ RR sa T C
section WMs
variable {td sa : Int → Int} {T C : Nat → Int → Int}
theorem WM.sc (h : WM td sa T C) : (td 0 = T 8 1 ∧ td 1 = T 8 2 ∧ td 2 = T 8 0 ∧ td 3 = T 8 3) ∧ (0 ≤ T 8 0 ∧ T 8 0 ≤ 40 ∧ 50 ≤ T 8 1 ∧ T 8 1 ≤ 500 ∧ 30 ≤ T 8 2 ∧ T 8 2 ≤ 500 ∧ 0 ≤ T 8 3 ∧ T 8 3 ≤ 1) ∧ (sa 0 = C 11 5 ∧ sa 5 = C 11 2 ∧ sa 6 = T 8 0 - C 11 0 ∧ sa 7 = C 11 1 ∧ sa 8 = C 11 6 ∧ sa 15 = C 11 3 ∧ sa 16 = C 11 4) ∧ (0 ≤ C 11 1 ∧ C 11 1 ≤ C 11 0 ∧ C 11 0 ≤ T 8 0 ∧ 0 ≤ C 11 2 ∧ C 11 2 ≤ 3 ∧ 0 ≤ C 11 3 ∧ C 11 3 ≤ 2 * (C 11 0 - C 11 1) ∧ 1 ≤ C 11 4 ∧ C 11 4 ≤ 99 + (C 11 0 - C 11 1) ∧ 0 ≤ C 11 5 ∧ C 11 5 ≤ 1 ∧ 0 ≤ C 11 6 ∧ C 11 6 ≤ 6 ∧ C 11 6 ≤ C 11 7 ∧ C 11 7 ≤ C 11 0 ∧ (C 11 6 < 6 → C 11 7 = C 11 6) ∧ (0 < C 11 2 ∨ C 11 1 = 0 → C 11 7 ≤ C 11 0 - C 11 1)) := ⟨h.2.1.1, h.1.1, h.2.2.2.1, h.2.2.1.1⟩
theorem WM.lm (h : WM td sa T C) : (sa 1 = C 8 0 ∧ sa 2 = C 8 1 ∧ sa 3 = C 8 2 ∧ sa 4 = C 8 3) ∧ (101 ≤ C 8 0 ∧ C 8 0 ≤ 300 ∧ 0 ≤ C 8 1 ∧ C 8 1 ≤ 200 ∧ 0 ≤ C 8 2 ∧ C 8 2 ≤ 99 ∧ 0 ≤ C 8 3 ∧ C 8 3 ≤ 1000) := by
  have h1 := h.2.2.2.2.1
  exact ⟨⟨h1 0 (by decide) (by decide), h1 1 (by decide) (by decide), h1 2 (by decide) (by decide), h1 3 (by decide) (by decide)⟩, h.2.2.1.2.1⟩
/-- a sheet, told -/
theorem RT.tds (hT : WT T) (h : RT td T) (s : Int) (h0 : 0 ≤ s) (h1 : s < T 8 0) : (td (8 + 7 * s) = T 0 s ∧ td (8 + 7 * s + 0) = T 0 s ∧ td (8 + 7 * s + 1) = T 1 s ∧ td (8 + 7 * s + 2) = T 2 s ∧ td (8 + 7 * s + 3) = T 3 s ∧ td (8 + 7 * s + 4) = T 4 s ∧ td (8 + 7 * s + 5) = T 5 s ∧ td (8 + 7 * s + 6) = T 6 s) ∧ 50 ≤ T 0 s ∧ T 0 s ≤ 500 ∧ 30 ≤ T 1 s ∧ T 1 s ≤ 500 ∧ -99 ≤ T 2 s ∧ T 2 s ≤ 99 ∧ 0 ≤ T 3 s ∧ T 3 s ≤ 1000 ∧ 0 ≤ T 4 s ∧ T 4 s ≤ 1000 ∧ -1 ≤ T 5 s ∧ T 5 s ≤ 999 ∧ -1 ≤ T 6 s ∧ T 6 s ≤ 400 := by
  have q := fun p hp => h.2.2 s p h0 h1 hp
  have q0 := q 0 (by decide)
  refine ⟨⟨?_, q0, q 1 (by decide), q 2 (by decide), q 3 (by decide), q 4 (by decide), q 5 (by decide), q 6 (by decide)⟩, hT.2.2 s h0 h1⟩
  rw [← q0]; simp
theorem WM.tds (h : WM td sa T C) (s : Int) (h0 : 0 ≤ s) (h1 : s < T 8 0) : (td (8 + 7 * s) = T 0 s ∧ td (8 + 7 * s + 0) = T 0 s ∧ td (8 + 7 * s + 1) = T 1 s ∧ td (8 + 7 * s + 2) = T 2 s ∧ td (8 + 7 * s + 3) = T 3 s ∧ td (8 + 7 * s + 4) = T 4 s ∧ td (8 + 7 * s + 5) = T 5 s ∧ td (8 + 7 * s + 6) = T 6 s) ∧ 50 ≤ T 0 s ∧ T 0 s ≤ 500 ∧ 30 ≤ T 1 s ∧ T 1 s ≤ 500 ∧ -99 ≤ T 2 s ∧ T 2 s ≤ 99 ∧ 0 ≤ T 3 s ∧ T 3 s ≤ 1000 ∧ 0 ≤ T 4 s ∧ T 4 s ≤ 1000 ∧ -1 ≤ T 5 s ∧ T 5 s ≤ 999 ∧ -1 ≤ T 6 s ∧ T 6 s ≤ 400 := RT.tds h.1 h.2.1 s h0 h1
/-- a sheet's state -/
theorem WM.sh (h : WM td sa T C) (s : Int) (h0 : 0 ≤ s) (h1 : s < T 8 0) : (sa (26 + 4 * s) = C 0 s ∧ sa (26 + 4 * s + 0) = C 0 s ∧ sa (26 + 4 * s + 1) = C 1 s ∧ sa (26 + 4 * s + 2) = C 2 s ∧ sa (26 + 4 * s + 3) = C 3 s) ∧ 0 ≤ C 0 s ∧ C 0 s ≤ 6 ∧ -99 ≤ C 1 s ∧ C 1 s ≤ 99 ∧ -1 ≤ C 2 s ∧ C 2 s ≤ 400 ∧ 0 ≤ C 3 s ∧ C 3 s ≤ 1 ∧ (C 3 s = 1 → T 5 s = -1) := by
  have q := h.2.2.2.2.2.2.2.1 s h0 h1
  exact ⟨⟨q.1, by rw [Int.add_zero]; exact q.1, q.2.1, q.2.2.1, q.2.2.2⟩, h.2.2.1.2.2.1 s h0 h1⟩
theorem WM.sk (h : WM td sa T C) (k : Int) (h0 : 0 ≤ k) (h1 : k < T 8 0 - C 11 0) : sa (186 + k) = T 8 0 - 1 - k := h.2.2.2.2.2.2.2.2.1 k h0 h1
theorem WM.pt (h : WM td sa T C) (k : Int) (h0 : 0 ≤ k) (h1 : k < C 11 1) : sa (226 + k) = C 11 0 - C 11 1 + k := h.2.2.2.2.2.2.2.2.2.1 k h0 h1
theorem WM.ac (h : WM td sa T C) (k : Int) (h0 : 0 ≤ k) (h1 : k < 9) : sa (17 + k) = C 9 k := h.2.2.2.2.2.2.1 k h0 h1
theorem WM.li (h : WM td sa T C) (k : Int) (h0 : 0 ≤ k) (h1 : k < 4) : sa (1 + k) = C 8 k := h.2.2.2.2.1 k h0 h1
theorem WM.pg (h : WM td sa T C) (p : Int) (h0 : 0 ≤ p) (h1 : p < C 11 3) : (sa (266 + 2 * p) = 2 * C 4 p + C 5 p ∧ sa (266 + 2 * p + 1) = C 6 p) ∧ 0 ≤ C 4 p ∧ C 4 p < C 11 0 - C 11 1 ∧ 0 ≤ C 5 p ∧ C 5 p ≤ 1 ∧ 0 ≤ C 6 p ∧ C 6 p < C 11 4 := ⟨h.2.2.2.2.2.2.2.2.2.2.1 p h0 h1, h.2.2.1.2.2.2.2.1 p h0 h1⟩
theorem WM.jb (h : WM td sa T C) (j : Int) (h0 : 0 ≤ j) (h1 : j < C 11 4) : (sa (426 + 2 * j) = C 7 j ∧ sa (426 + 2 * j + 1) = shJ C j) ∧ -1 ≤ C 7 j ∧ C 7 j ≤ 999 := ⟨h.2.2.2.2.2.2.2.2.2.2.2 j h0 h1, h.2.2.1.2.2.2.2.2 j h0 h1⟩
theorem WM.gd (h : WM td sa T C) (i : Int) (h0 : 0 ≤ i) (h1 : i < C 11 6) : sa (9 + i) = C 10 ((C 11 7 - C 11 6 + i) % 6) ∧ 30 ≤ C 10 i ∧ C 10 i ≤ 500 := ⟨h.2.2.2.2.2.1 i h0 h1, h.2.2.1.2.2.2.1 i h0 h1⟩
end WMs
/-- six numbers around a ring -/
theorem ring_sum {f h : Int → Int} {c o : Int} (hc : 0 ≤ c) (hc6 : c ≤ 6) (ho : 0 ≤ o) (ho5 : o ≤ 5) (hz : c < 6 → o = 0) (hf : ∀ i : Int, 0 ≤ i → i < c → f i = h ((o + i) % 6)) : sI f c = sI h c := by
  by_cases e : c < 6
  · have e0 := hz e
    refine sI_cg (fun i h0 h1 => ?_)
    rw [hf i h0 h1, e0]
    congr 1
    omega
  · have e6 : c = 6 := by omega
    subst e6
    have q := fun i (a : 0 ≤ i) (b : i < 6) => hf i a b
    have x : ∀ g : Int → Int, sI g 6 = 0 + g 0 + g 1 + g 2 + g 3 + g 4 + g 5 := fun g => rfl
    rw [x, x]
    have q0 := q 0 (by decide) (by decide)
    have q1 := q 1 (by decide) (by decide)
    have q2 := q 2 (by decide) (by decide)
    have q3 := q 3 (by decide) (by decide)
    have q4 := q 4 (by decide) (by decide)
    have q5 := q 5 (by decide) (by decide)
    rw [q0, q1, q2, q3, q4, q5]
    rcases (show o = 0 ∨ o = 1 ∨ o = 2 ∨ o = 3 ∨ o = 4 ∨ o = 5 by omega) with rfl | rfl | rfl | rfl | rfl | rfl <;> simp <;> omega
theorem WM.su {td sa : Int → Int} {T C : Nat → Int → Int} (h : WM td sa T C) : sI (fun i => sa (9 + i)) (C 11 6) = sI (C 10) (C 11 6) := by
  have q := h.sc
  refine ring_sum (o := (C 11 7 - C 11 6) % 6) (by omega) (by omega) (by omega) (by omega) (fun z => by rw [show C 11 7 - C 11 6 = 0 by omega]; rfl) (fun i h0 h1 => ?_)
  rw [(h.gd i h0 h1).1, show ((C 11 7 - C 11 6) % 6 + i) % 6 = (C 11 7 - C 11 6 + i) % 6 by omega]
theorem us_bd {gt : Int → Int} {gc : Int} (h0 : 0 ≤ gc) (h : ∀ i : Int, 0 ≤ i → i < gc → 30 ≤ gt i ∧ gt i ≤ 500) : 30 * gc ≤ sI gt gc ∧ sI gt gc ≤ 500 * gc := sI_bd h0 h
theorem usG_bd {gt : Int → Int} {gc wo : Int} (hw : 30 ≤ wo ∧ wo ≤ 500) (h : ∀ i : Int, 0 ≤ i → i < gc → 30 ≤ gt i ∧ gt i ≤ 500) : 30 ≤ usG gt gc wo ∧ usG gt gc wo ≤ 500 := by
  unfold usG
  by_cases e : gc ≤ 0
  · rw [if_pos e]; exact hw
  · rw [if_neg e]
    obtain ⟨h1, h2⟩ := us_bd (by omega) h
    have hp : (0 : Int) < gc := by omega
    rw [Int.tdiv_eq_ediv_of_nonneg (by omega)]
    exact ⟨Int.le_ediv_of_mul_le hp h1, Int.ediv_le_of_le_mul hp h2⟩
theorem mulb {a b A B : Int} (h0 : 0 ≤ a) (h1 : a ≤ A) (h2 : 0 ≤ b) (h3 : b ≤ B) : 0 ≤ a * b ∧ a * b ≤ A * B := ⟨Int.mul_nonneg h0 h2, Int.mul_le_mul h1 h3 h2 (by omega)⟩
/-- the reason to stop a pick -/
def rsn (T C : Nat → Int → Int) (pct us th le sk : Int) : Int := if pct * us < th * 100 then 1 else if T 8 1 + C 8 1 < le ∨ le < T 8 1 - C 8 1 then 2 else if C 8 2 < absZ sk then 3 else 0
theorem rsn_bd (T C : Nat → Int → Int) (pct us th le sk : Int) : 0 ≤ rsn T C pct us th le sk ∧ rsn T C pct us th le sk ≤ 3 := by
  unfold rsn; split <;> (try split) <;> (try split) <;> omega
section WMb
variable {td sa : Int → Int} {T C : Nat → Int → Int}
theorem WM.thk (h : WM td sa T C) {k : Int} (h0 : 0 ≤ k) (h1 : k ≤ T 8 0 - C 11 0) : 30 * k ≤ thk T (C 11 0) k ∧ thk T (C 11 0) k ≤ 500 * k := by
  have q := h.sc
  exact sI_bd h0 (fun i a b => by have q2 := (h.tds (C 11 0 + i) (by omega) (by omega)); omega)
theorem WM.sta (h : WM td sa T C) {k : Int} (h0 : 0 ≤ k) (h1 : k ≤ T 8 0 - C 11 0) : -1 * k ≤ sta (C 2) (C 11 0) k ∧ sta (C 2) (C 11 0) k ≤ 400 * k := by
  have q := h.sc
  exact sI_bd h0 (fun i a b => by have q2 := (h.sh (C 11 0 + i) (by omega) (by omega)); omega)
theorem WM.lng (h : WM td sa T C) {k : Int} (h0 : 0 ≤ k) (h1 : k ≤ T 8 0 - C 11 0) : 0 ≤ lng T (C 2) (C 11 0) k ∧ lng T (C 2) (C 11 0) k ≤ 16500 := by
  have q := h.sc
  refine mI_bd (by decide) (fun i a b => ?_)
  by_cases e : 0 ≤ i
  · have q2 := h.tds (C 11 0 + i) (by omega) (by omega)
    have q3 := h.sta (k := i) e (by omega)
    omega
  · omega
theorem WM.us (h : WM td sa T C) : 30 ≤ usG (C 10) (C 11 6) (T 8 2) ∧ usG (C 10) (C 11 6) (T 8 2) ≤ 500 := by
  have q := h.sc
  exact usG_bd (by omega) (fun i a b => (h.gd i a b).2)
theorem WM.pk (h : WM td sa T C) (h1 : C 11 0 < T 8 0) : isPk (C 2) (T 8 0) (C 11 0) (pk (C 2) (T 8 0) (C 11 0)) := pk_is _ h1
end WMb
theorem fsN_y {q : Int → Prop} [DecidablePred q] {n k : Int} (h : k < n) (hq : q k) : fsN q (n - k).toNat k = k := by
  rw [show (n - k).toNat = (n - k - 1).toNat + 1 by omega, fsN, if_pos hq]
theorem fsN_n {q : Int → Prop} [DecidablePred q] {n k : Int} (h : k < n) (hk : 0 ≤ k) (hq : ¬ q k) : fsN q (n - k).toNat k = fsN q (n - (k + 1)).toNat (k + 1) := by
  rw [show (n - k).toNat = (n - (k + 1)).toNat + 1 by omega, fsN, if_neg hq]
theorem fsN_e {q : Int → Prop} [DecidablePred q] {n k : Int} (h : n ≤ k) : fsN q (n - k).toNat k = -1 := by
  rw [show (n - k).toNat = 0 by omega]; rfl
/-- blank sides of a sheet, of all -/
def blO (T : Nat → Int → Int) (b k : Int) : Int := if T 5 k ≠ -1 then 0 else bI (T 3 k < b) + bI (T 4 k < b)
def blS (T : Nat → Int → Int) (b : Int) : Int := sI (blO T b) (T 8 0)
/-- pages that come of a sheet -/
def pgs (T C : Nat → Int → Int) (sh : Int) : Int := if T 5 sh ≠ -1 then 0 else bI (C 8 3 ≤ T 3 sh) + bI (C 11 5 = 1 ∧ C 8 3 ≤ T 4 sh)
def ink (T : Nat → Int → Int) (sh sd : Int) : Int := if sd = 0 then T 3 sh else T 4 sh
/-- the answers of the readers -/
def sizV (T C : Nat → Int → Int) (ud w : Int) : Int := if w = 0 then T 8 0 else if w = 1 then T 8 0 - C 11 0 else if w = 2 then C 11 1 else if w = 3 then C 11 2 else if w = 4 then C 11 3 else if w = 5 then C 11 4 else if w = 6 then C 11 5 else if w = 7 then T 8 1 else if w = 8 then T 8 2 else if w = 9 then usG (C 10) (C 11 6) (T 8 2) else if w = 10 then sI (C 3) (T 8 0) else ud
def shtV (T C : Nat → Int → Int) (s w : Int) : Int := if w = 0 then T 0 s else if w = 1 then T 1 s else if w = 2 then C 1 s else if w = 3 then T 3 s else if w = 4 then T 4 s else if w = 5 then T 5 s else if w = 6 then C 2 s else C 0 s
def pagV (C : Nat → Int → Int) (p w : Int) : Int := if w = 0 then C 4 p else if w = 1 then C 5 p else C 6 p
def jobV (C : Nat → Int → Int) (j w : Int) : Int := if w = 0 then C 7 j else if w = 1 then pgJ C j else if w = 2 then fsJ C j else shJ C j
def nxtV (T C : Nat → Int → Int) (w : Int) : Int := if T 8 0 ≤ C 11 0 then -1 else if w = 0 then pk (C 2) (T 8 0) (C 11 0) else if w = 1 then thk T (C 11 0) (pk (C 2) (T 8 0) (C 11 0)) else if w = 2 then lng T (C 2) (C 11 0) (pk (C 2) (T 8 0) (C 11 0)) else if w = 3 then rsn T C (C 8 0) (usG (C 10) (C 11 6) (T 8 2)) (thk T (C 11 0) (pk (C 2) (T 8 0) (C 11 0))) (lng T (C 2) (C 11 0) (pk (C 2) (T 8 0) (C 11 0))) (C 1 (C 11 0)) else pgs T C (C 11 0)
def watV (T C : Nat → Int → Int) (w : Int) : Int := kI (fun s => C 0 s = w) (T 8 0)
/-- the lowest blank with which so many sides are blank -/
def isBf (T : Nat → Int → Int) (sd r : Int) : Prop := (0 ≤ r ∧ r ≤ 1000 ∧ sd ≤ blS T r ∧ ∀ b : Int, 0 ≤ b → b < r → blS T b < sd) ∨ (r = -1 ∧ ∀ b : Int, 0 ≤ b → b ≤ 1000 → blS T b < sd)
theorem blO_bd (T : Nat → Int → Int) (b k : Int) : 0 ≤ blO T b k ∧ blO T b k ≤ 2 := by
  unfold blO bI; (repeat' split) <;> omega
theorem blS_bd {T : Nat → Int → Int} (h : 0 ≤ T 8 0 ∧ T 8 0 ≤ 40) (b : Int) : 0 ≤ blS T b ∧ blS T b ≤ 80 := by
  have q := sI_bd (f := blO T b) (lo := 0) (hi := 2) h.1 (fun i _ _ => blO_bd T b i)
  unfold blS
  omega
