/-! A NEW SETUP TAKEN -/
section TDR
variable {T C : Nat → Int → Int}
/-- a state that has just begun -/
def frC (T C : Nat → Int → Int) : Prop := (C 11 0 = 0 ∧ C 11 1 = 0 ∧ C 11 2 = 0 ∧ C 11 3 = 0 ∧ C 11 4 = 1 ∧ C 11 5 = T 8 3 ∧ C 11 6 = 0 ∧ C 11 7 = 0) ∧ (∀ k : Int, 0 ≤ k → k < 4 → C 8 k = T 7 k) ∧ (∀ k : Int, 0 ≤ k → k < 9 → C 9 k = 0) ∧ (∀ s : Int, 0 ≤ s → s < T 8 0 → C 0 s = 0 ∧ C 1 s = T 2 s ∧ C 2 s = T 6 s ∧ C 3 s = 0) ∧ C 7 0 = -1
/-- the reference's row so far -/
def tk3 (T : Nat → Int → Int) (k : Int) (x : Int → Int) : Prop := x 0 = T 8 3 ∧ (∀ j : Int, 0 ≤ j → j < k → x (1 + j) = T 7 j) ∧ ∀ j : Int, 5 ≤ j → j < 706 → x j = 0
def tk4 (T : Nat → Int → Int) (k : Int) (x : Int → Int) : Prop := (x 0 = T 8 3 ∧ ∀ j : Int, 0 ≤ j → j < 4 → x (1 + j) = T 7 j) ∧ (∀ s : Int, 0 ≤ s → s < k → x (26 + 4 * s + 1) = T 2 s ∧ x (26 + 4 * s + 2) = T 6 s ∧ x (186 + (T 8 0 - 1 - s)) = s) ∧ (∀ j : Int, 5 ≤ j → j < 26 → x j = 0) ∧ (∀ s : Int, 0 ≤ s → s < 40 → x (26 + 4 * s) = 0 ∧ x (26 + 4 * s + 3) = 0) ∧ ∀ j : Int, 226 ≤ j → j < 706 → x j = 0
theorem tk3_0 {x : Int → Int} (h : ∀ j : Int, 0 ≤ j → j < 706 → x j = 0) : tk3 T 0 (uI x 0 (T 8 3)) := ⟨uI_s _ _ _, fun j a b => by omega, fun j a b => by rw [uI_n _ _ _ (by omega)]; exact h j (by omega) b⟩
theorem tk3_s {x : Int → Int} {k : Int} (h : tk3 T k x) (hk : 0 ≤ k ∧ k < 4) : tk3 T (k + 1) (uI x (1 + k) (T 7 k)) := by
  obtain ⟨a, b, c⟩ := h
  refine ⟨by rw [uI_n _ _ _ (by omega)]; exact a, fun j p q => ?_, fun j p q => by rw [uI_n _ _ _ (by omega)]; exact c j p q⟩
  by_cases e : j = k
  · rw [e, uI_s]
  · rw [uI_n _ _ _ (by omega)]; exact b j p (by omega)
theorem tk4_0 {x : Int → Int} (h : tk3 T 4 x) : tk4 T 0 x := ⟨⟨h.1, h.2.1⟩, fun s a b => by omega, fun j a b => h.2.2 j a (by omega), fun s a b => ⟨h.2.2 _ (by omega) (by omega), h.2.2 _ (by omega) (by omega)⟩, fun j a b => h.2.2 j (by omega) b⟩
theorem tk4_s {x : Int → Int} {k : Int} (h : tk4 T k x) (hn : T 8 0 ≤ 40) (hk : 0 ≤ k ∧ k < T 8 0) : tk4 T (k + 1) (uI (uI (uI x (26 + 4 * k + 1) (T 2 k)) (26 + 4 * k + 2) (T 6 k)) (186 + T 8 0 - 1 - k) k) := by
  obtain ⟨⟨a0, a⟩, b, c, d, e⟩ := h
  have o : ∀ j : Int, j ≠ 26 + 4 * k + 1 → j ≠ 26 + 4 * k + 2 → j ≠ 186 + T 8 0 - 1 - k → uI (uI (uI x (26 + 4 * k + 1) (T 2 k)) (26 + 4 * k + 2) (T 6 k)) (186 + T 8 0 - 1 - k) k j = x j := fun j p q r => by rw [uI_n _ _ _ r, uI_n _ _ _ q, uI_n _ _ _ p]
  refine ⟨⟨by rw [o _ (by omega) (by omega) (by omega)]; exact a0, fun j p q => by rw [o _ (by omega) (by omega) (by omega)]; exact a j p q⟩, fun s p q => ?_, fun j p q => by rw [o _ (by omega) (by omega) (by omega)]; exact c j p q, fun s p q => ⟨by rw [o _ (by omega) (by omega) (by omega)]; exact (d s p q).1, by rw [o _ (by omega) (by omega) (by omega)]; exact (d s p q).2⟩, fun j p q => by rw [o _ (by omega) (by omega) (by omega)]; exact e j p q⟩
  by_cases g : s = k
  · subst g
    refine ⟨?_, ?_, ?_⟩
    · rw [uI_n _ _ _ (by omega), uI_n _ _ _ (by omega), uI_s]
    · rw [uI_n _ _ _ (by omega), uI_s]
    · rw [show 186 + (T 8 0 - 1 - s) = 186 + T 8 0 - 1 - s by omega, uI_s]
  · have z := b s p (by omega)
    exact ⟨by rw [o _ (by omega) (by omega) (by omega)]; exact z.1, by rw [o _ (by omega) (by omega) (by omega)]; exact z.2.1, by rw [o _ (by omega) (by omega) (by omega)]; exact z.2.2⟩
theorem WM_dr {y x : Int → Int} (hW : WT T) (hR : RT y T) (h : tk4 T (T 8 0) x) : ∀ C : Nat → Int → Int, frC T C → WM y (uI (uI (uI x 6 (T 8 0)) 16 1) 426 (-1)) T C := by
  intro C hC
  obtain ⟨⟨c0, c1, c2, c3, c4, c5, c6, c7⟩, l4, k9, sh, j0⟩ := hC
  obtain ⟨⟨a0, a⟩, b, c, d, e⟩ := h
  have w := hW.1
  have wl := hW.2.1
  have ws := hW.2.2
  have o : ∀ j : Int, j ≠ 6 → j ≠ 16 → j ≠ 426 → uI (uI (uI x 6 (T 8 0)) 16 1) 426 (-1) j = x j := fun j p q r => by rw [uI_n _ _ _ r, uI_n _ _ _ q, uI_n _ _ _ p]
  refine ⟨hW, hR, ⟨by omega, ?_, fun s p q => ?_, fun i p q => by omega, fun p q r => by omega, fun j p q => ?_⟩, ⟨⟨?_, ?_, ?_, ?_, ?_, ?_, ?_⟩, fun k p q => ?_, fun i p q => by omega, fun k p q => ?_, fun s p q => ?_, fun k p q => ?_, fun k p q => by omega, fun p q r => by omega, fun j p q => ?_⟩⟩
  · rw [l4 0 (by decide) (by decide), l4 1 (by decide) (by decide), l4 2 (by decide) (by decide), l4 3 (by decide) (by decide)]; exact wl
  · have z := sh s p q
    have z2 := ws s p q
    rw [z.1, z.2.1, z.2.2.1, z.2.2.2]
    omega
  · rw [show j = 0 by omega, j0]; omega
  · rw [o _ (by decide) (by decide) (by decide), c5]; exact a0
  · rw [o _ (by decide) (by decide) (by decide), c2]; exact c 5 (by decide) (by decide)
  · rw [uI_n _ _ _ (by decide), uI_n _ _ _ (by decide), uI_s, c0]; omega
  · rw [o _ (by decide) (by decide) (by decide), c1]; exact c 7 (by decide) (by decide)
  · rw [o _ (by decide) (by decide) (by decide), c6]; exact c 8 (by decide) (by decide)
  · rw [o _ (by decide) (by decide) (by decide), c3]; exact c 15 (by decide) (by decide)
  · rw [uI_n _ _ _ (by decide), uI_s, c4]
  · rw [o _ (by omega) (by omega) (by omega), l4 k p q]; exact a k p q
  · rw [o _ (by omega) (by omega) (by omega), k9 k p q]; exact c _ (by omega) (by omega)
  · have z := sh s p q
    have z1 := b s p q
    have z2 := d s p (by omega)
    rw [o _ (by omega) (by omega) (by omega), o _ (by omega) (by omega) (by omega), o _ (by omega) (by omega) (by omega), o _ (by omega) (by omega) (by omega), z.1, z.2.1, z.2.2.1, z.2.2.2]
    exact ⟨z2.1, z1.1, z1.2.1, z2.2⟩
  · have z1 := (b (T 8 0 - 1 - k) (by omega) (by omega)).2.2
    rw [show 186 + (T 8 0 - 1 - (T 8 0 - 1 - k)) = 186 + k by omega] at z1
    rw [o _ (by omega) (by omega) (by omega)]
    exact z1
  · rw [show j = 0 by omega, j0]
    refine ⟨uI_s _ _ _, ?_⟩
    rw [o _ (by decide) (by decide) (by decide)]
    unfold shJ
    rw [c3, kI_0]
    exact e _ (by decide) (by decide)
theorem RT_eq {y dr : Int → Int} (h : RT dr T) (hn : T 8 0 ≤ 40) (e : ∀ j : Int, 0 ≤ j → j < 288 → y j = dr j) : RT y T := by
  obtain ⟨⟨a0, a1, a2, a3⟩, b, c⟩ := h
  exact ⟨⟨(e _ (by decide) (by decide)).trans a0, (e _ (by decide) (by decide)).trans a1, (e _ (by decide) (by decide)).trans a2, (e _ (by decide) (by decide)).trans a3⟩, fun k p q => (e _ (by omega) (by omega)).trans (b k p q), fun s p x y z => (e _ (by omega) (by omega)).trans (c s p x y z)⟩
end TDR
