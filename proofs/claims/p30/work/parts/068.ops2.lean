/-! THE PICK'S ENDS -/
section PKC
variable {sa td s2 : Int → Int} {T C X : Nat → Int → Int} {J : Int → Int}
theorem RJ.p0 (h : RJ sa T C J) (h1 : 1 ≤ C 11 1) : sa 226 = C 11 0 - C 11 1 := by
  have z := h.2.2.2.2.2.2.1 0 (by decide) (by omega)
  rw [show (226 : Int) + 0 = 226 by decide] at z
  omega
theorem gAdd_c {v : Int} (i : Nat) (h1 : i ≠ 10) (h2 : i ≠ 11) : gAdd X v i = X i := by
  unfold gAdd st; rw [if_neg h1, if_neg h2]
theorem gAdd_11 {v : Int} (k : Int) (h1 : k ≠ 6) (h2 : k ≠ 7) : gAdd X v 11 k = X 11 k := (uI_n _ _ _ h2).trans (uI_n _ _ _ h1)
theorem shJ_gA {v : Int} (j : Int) : shJ (acc (gAdd X v) 4 1) j = shJ X j := shJ_cg (gAdd_c (X := X) (v := v) 4 (by decide) (by decide)) (gAdd_c (X := X) (v := v) 6 (by decide) (by decide)) (gAdd_11 (X := X) (v := v) 3 (by decide) (by decide)) j
theorem goR_cg {Y : Nat → Int → Int} {f : Int} (e8 : X 8 3 = Y 8 3) (e5 : X 11 5 = Y 11 5) : goR T X f = goR T Y f := by
  unfold goR pgs; rw [e8, e5]
theorem pickR_N (hr : pkr T C = 0) : goR T (pkA T C) ((pkA T C) 11 0 - (pkA T C) 11 1) = pickR T C := by
  show goR T (pkA T C) (C 11 0 + pkn T C - pkn T C) = pickR T C
  rw [show C 11 0 + pkn T C - pkn T C = C 11 0 by omega]
  unfold pickR
  rw [if_pos hr]
  exact goR_cg rfl rfl
theorem pickR_1 {v : Int} (hr : pkr T C = 0) : goR T (acc (gAdd (pkA T C) v) 4 1) ((acc (gAdd (pkA T C) v) 4 1) 11 0 - (acc (gAdd (pkA T C) v) 4 1) 11 1) = pickR T C := by
  have a0 : (acc (gAdd (pkA T C) v) 4 1) 11 0 = C 11 0 + pkn T C := gAdd_110 (pkA T C) v
  have a1 : (acc (gAdd (pkA T C) v) 4 1) 11 1 = pkn T C := gAdd_111 (pkA T C) v
  rw [a0, a1, show C 11 0 + pkn T C - pkn T C = C 11 0 by omega]
  unfold pickR
  rw [if_pos hr]
  exact goR_cg (congrFun (gAdd_c (X := pkA T C) (v := v) 8 (by decide) (by decide)) 3) (gAdd_11 (X := pkA T C) (v := v) 5 (by decide) (by decide))
theorem WM_pkA (hM : WM td sa T C) (h1 : C 11 1 = 0) (hn : 1 ≤ pkn T C ∧ C 11 0 + pkn T C ≤ T 8 0) (h : RJ s2 T (pkA T C) (shJ C)) : WM td s2 T (pkA T C) := ⟨hM.1, hM.2.1, WC_pkA hM.2.2.1 h1 hn, h⟩
theorem WM_pkG {v : Int} (hM : WM td sa T C) (h1 : C 11 1 = 0) (h2 : C 11 2 = 0) (hn : 1 ≤ pkn T C ∧ C 11 0 + pkn T C ≤ T 8 0) (hv : 30 ≤ v ∧ v ≤ 500) (h : RJ s2 T (acc (gAdd (pkA T C) v) 4 1) (shJ C)) : WM td s2 T (acc (gAdd (pkA T C) v) 4 1) := ⟨hM.1, hM.2.1, WC_9 (WC_gd (WC_pkA hM.2.2.1 h1 hn) hv (show C 11 7 + 1 ≤ C 11 0 + pkn T C ∧ (0 < C 11 2 ∨ pkn T C = 0 → C 11 7 + 1 ≤ C 11 0 + pkn T C - pkn T C) by have q := hM.2.2.1.1; omega)), RJ_Jc h (fun j _ _ => (shJ_gA (X := pkA T C) j).symm)⟩
abbrev pkS (T C : Nat → Int → Int) : Nat → Int → Int := st (s1 (pkA T C) 2 (pkr T C)) 9 (uI (uI (C 9) 0 (C 9 0 + 1)) (pkr T C) ((uI (C 9) 0 (C 9 0 + 1)) (pkr T C) + 1))
theorem pick_s0 (hr : pkr T C ≠ 0) (hc : ¬ (pkr T C = 3 ∧ T 5 (C 11 0) = -1)) (h : RJ s2 T (pkS T C) (shJ C)) : RR s2 T (pickC T C) := by
  have e : pickC T C = pk3 T C := by unfold pickC; rw [if_neg hr, if_neg hc]
  rw [e]
  exact pk3_RJ h
theorem pick_s1 (hr : pkr T C ≠ 0) (hc : pkr T C = 3 ∧ T 5 (C 11 0) = -1) (h : RJ s2 T (st (pkS T C) 3 (uI (C 3) (C 11 0) 1)) (shJ C)) : RR s2 T (pickC T C) := by
  have e : pickC T C = st (pk3 T C) 3 (uI (C 3) (C 11 0) 1) := by unfold pickC; rw [if_neg hr, if_pos hc]
  rw [e]
  exact RJ_cg h rfl rfl rfl rfl rfl rfl rfl rfl rfl rfl rfl (uI_c (by decide))
theorem thk1 {t : Int} : thk T t 1 = T 1 t := by
  show 0 + T 1 (t + 0) = _
  rw [Int.add_zero, Int.zero_add]
theorem BB_ad0 (h : BB T C) (h1 : C 11 3 + 1 ≤ 80) : BB T (adP C 0 0) := BB_ad h h1
end PKC
