/-! SO MANY PICKS -/
section FED
variable {T C : Nat → Int → Int} {sh sd cd f n k : Int}
def feedC (T : Nat → Int → Int) : Nat → (Nat → Int → Int) → Nat → Int → Int
  | 0, C => C
  | m + 1, C => if C 11 0 < T 8 0 ∧ C 11 2 = 0 then feedC T m (pickC T C) else C
def feedN (T : Nat → Int → Int) : Nat → (Nat → Int → Int) → Int
  | 0, _ => 0
  | m + 1, C => if C 11 0 < T 8 0 ∧ C 11 2 = 0 then (if pickR T C = -1 then 0 else 1) + feedN T m (pickC T C) else 0
theorem feedC_e {m : Nat} (h : m = 0 ∨ ¬ (C 11 0 < T 8 0 ∧ C 11 2 = 0)) : feedC T m C = C ∧ feedN T m C = 0 := by
  cases m with
  | zero => exact ⟨rfl, rfl⟩
  | succ m =>
    rcases h with h | h
    · exact absurd h (by omega)
    · exact ⟨if_neg h, if_neg h⟩
theorem feedC_s {p j : Int} (h : j < p) (hc : C 11 0 < T 8 0 ∧ C 11 2 = 0) : feedC T (p - j).toNat C = feedC T (p - (j + 1)).toNat (pickC T C) ∧ feedN T (p - j).toNat C = (if pickR T C = -1 then 0 else 1) + feedN T (p - (j + 1)).toNat (pickC T C) := by
  rw [show (p - j).toNat = (p - (j + 1)).toNat + 1 by omega]
  exact ⟨if_pos hc, if_pos hc⟩
theorem adP_11 (h : k ≠ 3) : adP C sh sd 11 k = C 11 k := uI_n _ _ _ h
theorem bgJ_11 (h : k ≠ 4) : bgJ C cd 11 k = C 11 k := uI_n _ _ _ h
theorem goThr_11 (h3 : k ≠ 3) (h4 : k ≠ 4) : goThr T C f n 11 k = C 11 k := by
  unfold goThr
  split
  · exact bgJ_11 (C := st (thr0 C f n) 0 (uI (thr0 C f n 0) f 4)) h4
  · show goPg T (thr0 C f n) f 11 k = C 11 k
    have a : goP0 T (thr0 C f n) f 11 k = C 11 k := by
      unfold goP0
      split
      · exact adP_11 (C := thr0 C f n) h3
      · rfl
    unfold goPg
    split
    · exact (adP_11 h3).trans a
    · exact a
theorem pickC_11 (h3 : k ≠ 3) (h4 : k ≠ 4) (h6 : k ≠ 6) (h7 : k ≠ 7) (h1 : k ≠ 1) (h2 : k ≠ 2) (h0 : k ≠ 0) : pickC T C 11 k = C 11 k := by
  have a1 : pk1 T C 11 k = C 11 k := uI_n _ _ _ h0
  have a3 : pk3 T C 11 k = C 11 k := by
    show uI (uI (pk1 T C 11) 2 (pkr T C)) 1 (pkn T C) k = C 11 k
    rw [uI_n _ _ _ h1, uI_n _ _ _ h2]; exact a1
  have a2 : pk2 T C 11 k = C 11 k := by
    unfold pk2
    split
    · exact (gAdd_11 (X := pk1 T C) (v := thk T (C 11 0) (pkn T C)) k h6 h7).trans a1
    · exact a1
  unfold pickC
  split
  · exact (goThr_11 h3 h4).trans a2
  · split
    · exact a3
    · exact a3
theorem FR_pickC (h1 : C 11 1 = 0) (h2 : C 11 2 = 0) (hn : 1 ≤ pkn T C) : FR (pickC T C) := by
  unfold FR pickC
  split
  · rename_i hr
    have b1 : pk2 T C 11 1 = C 11 1 := by
      unfold pk2
      split
      · exact gAdd_11 (X := pk1 T C) (v := thk T (C 11 0) (pkn T C)) 1 (by decide) (by decide)
      · rfl
    have b2 : pk2 T C 11 2 = C 11 2 := by
      unfold pk2
      split
      · exact gAdd_11 (X := pk1 T C) (v := thk T (C 11 0) (pkn T C)) 2 (by decide) (by decide)
      · rfl
    rw [goThr_11 (by decide) (by decide), goThr_11 (by decide) (by decide), b1, b2]
    omega
  · rename_i hr
    have c1 : pk3 T C 11 1 = pkn T C := rfl
    have c2 : pk3 T C 11 2 = pkr T C := rfl
    split
    · show pk3 T C 11 2 = 0 ↔ pk3 T C 11 1 = 0
      rw [c1, c2]; omega
    · rw [c1, c2]; omega
end FED
