/-! THE SETUP THAT WAS READ -/
section TES
variable {us f1 f2 f3 ls ss : Int} {y0 y1 y2 y3 y4 y5 y6 y7 td sa : Int → Int} {X Y C : Nat → Int → Int}
/-- the parser's rows as a setup's -/
def puT (y0 y1 y2 y3 y4 y5 y6 y7 : Int → Int) (us f1 f2 f3 : Int) : Nat → Int → Int
  | 0 => y0 | 1 => y1 | 2 => y2 | 3 => y3 | 4 => y4 | 5 => y5 | 6 => y6 | 7 => y7
  | _ => fun k => if k = 0 then us else if k = 1 then f1 else if k = 2 then f2 else f3
/-- alike as far as the sheets go -/
def TE (X Y : Nat → Int → Int) : Prop := (X 8 0 = Y 8 0 ∧ X 8 1 = Y 8 1 ∧ X 8 2 = Y 8 2 ∧ X 8 3 = Y 8 3) ∧ (∀ k : Int, 0 ≤ k → k < 4 → Y 7 k = X 7 k) ∧ ∀ s : Int, 0 ≤ s → s < X 8 0 → ∀ p : Nat, p < 7 → Y p s = X p s
theorem OU_TE (h : OU us f1 f2 f3 y0 y1 y2 y3 y4 y5 y6 y7 ls ss X) (h0 : X 9 3 = 0) : TE X (puT y0 y1 y2 y3 y4 y5 y6 y7 us f1 f2 f3) := by
  obtain ⟨q, h2⟩ := h
  obtain ⟨⟨a0, a1, a2, a3⟩, r2, r3, w⟩ := h2 h0
  refine ⟨⟨a0.symm, a1.symm, a2.symm, a3.symm⟩, r2, fun s x y p hp => ?_⟩
  obtain ⟨z0, z1, z2, z3, z4, z5, z6⟩ := r3 s x (by omega)
  have c : p = 0 ∨ p = 1 ∨ p = 2 ∨ p = 3 ∨ p = 4 ∨ p = 5 ∨ p = 6 := by omega
  rcases c with rfl | rfl | rfl | rfl | rfl | rfl | rfl
  · exact z0
  · exact z1
  · exact z2
  · exact z3
  · exact z4
  · exact z5
  · exact z6
theorem WT_T (h : WT X) (e : TE X Y) : WT Y := by
  obtain ⟨a, b, c⟩ := h
  obtain ⟨⟨e0, e1, e2, e3⟩, e7, es⟩ := e
  refine ⟨?_, ?_, fun s x y => ?_⟩
  · rw [← e0, ← e1, ← e2, ← e3]; exact a
  · rw [e7 0 (by decide) (by decide), e7 1 (by decide) (by decide), e7 2 (by decide) (by decide), e7 3 (by decide) (by decide)]; exact b
  · have q := es s x (by omega)
    rw [q 0 (by decide), q 1 (by decide), q 2 (by decide), q 3 (by decide), q 4 (by decide), q 5 (by decide), q 6 (by decide)]
    exact c s x (by omega)
theorem WM_T (h : WM td sa X C) (e : TE X Y) : WM td sa Y C := by
  obtain ⟨hw, ⟨d1, d2, d3⟩, ⟨w1, w2, w3, w4⟩, r1, r2, r3, r4, r5, r6, r7⟩ := h
  refine ⟨WT_T hw e, ?_⟩
  obtain ⟨⟨e0, e1, e2, e3⟩, e7, es⟩ := e
  refine ⟨⟨?_, fun k x y => ?_, fun s p x y z => ?_⟩, ⟨?_, w2, fun s x y => ?_, w4⟩, ?_, r2, r3, r4, fun s x y => ?_, fun k x y => ?_, r7⟩
  · rw [← e0, ← e1, ← e2, ← e3]; exact d1
  · rw [e7 k x y]; exact d2 k x y
  · rw [es s x (by omega) p z]; exact d3 s p x (by omega) z
  · rw [← e0]; exact w1
  · rw [es s x (by omega) 5 (by decide)]; exact w3 s x (by omega)
  · rw [← e0]; exact r1
  · exact r5 s x (by omega)
  · rw [← e0]; exact r6 k x (by omega)
theorem frC_T (h : frC Y C) (e : TE X Y) : frC X C := by
  obtain ⟨h1, h2, h3, h4, h5⟩ := h
  obtain ⟨⟨e0, e1, e2, e3⟩, e7, es⟩ := e
  refine ⟨by rw [e3]; exact h1, fun k x y => by rw [← e7 k x y]; exact h2 k x y, h3, fun s x y => ?_, h5⟩
  rw [← es s x y 2 (by decide), ← es s x y 6 (by decide)]
  exact h4 s x (by omega)
end TES
