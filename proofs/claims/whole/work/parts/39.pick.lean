/-! A PICK, row by row -/
section PCK
variable {T C : Nat → Int → Int}
theorem uI_sw {F : Int → Int} {i j a b : Int} (h : i ≠ j) : uI (uI F i a) j b = uI (uI F j b) i a := by
  funext x
  unfold uI
  by_cases h1 : x = i
  · rw [if_pos h1, if_pos h1, if_neg (by omega)]
  · rw [if_neg h1, if_neg h1]
theorem pkr_0 (hr : pkr T C ≠ 0) (h : pkr T C = 3 ∧ T 5 (C 11 0) = -1) : st (st (st (st C 0 (fil (C 0) (C 11 0) (C 11 0 + pkn T C) 1)) 3 (uI (C 3) (C 11 0) 1)) 9 (uI (uI (C 9) 0 (C 9 0 + 1)) (pkr T C) (uI (C 9) 0 (C 9 0 + 1) (pkr T C) + 1))) 11 (uI (uI (uI (C 11) 0 (C 11 0 + pkn T C)) 1 (pkn T C)) 2 (pkr T C)) = pickC T C := by
  unfold pickC
  rw [if_neg hr, if_pos h]
  unfold pk3 pk1
  exact e12 (fun p hp => by rw [st_p hp (by decide), st_p hp (by decide), st_p hp (by decide), st_p hp (by decide), st_p hp (by decide), st_p hp (by decide), acc_p hp, s1_p hp, s1_p hp, s1_p hp, acc_p hp]) rfl rfl rfl rfl rfl rfl rfl rfl rfl rfl rfl (uI_sw (by decide))
theorem pkr_1 (hr : pkr T C ≠ 0) (h : ¬ (pkr T C = 3 ∧ T 5 (C 11 0) = -1)) : st (st (st (st C 0 (fil (C 0) (C 11 0) (C 11 0 + pkn T C) 1)) 3 (C 3)) 9 (uI (uI (C 9) 0 (C 9 0 + 1)) (pkr T C) (uI (C 9) 0 (C 9 0 + 1) (pkr T C) + 1))) 11 (uI (uI (uI (C 11) 0 (C 11 0 + pkn T C)) 1 (pkn T C)) 2 (pkr T C)) = pickC T C := by
  unfold pickC
  rw [if_neg hr, if_neg h]
  unfold pk3 pk1
  exact e12 (fun p hp => by rw [st_p hp (by decide), st_p hp (by decide), st_p hp (by decide), st_p hp (by decide), st_p hp (by decide), acc_p hp, s1_p hp, s1_p hp, s1_p hp, acc_p hp]) rfl rfl rfl rfl rfl rfl rfl rfl rfl rfl rfl (uI_sw (by decide))
/-- where the sheets that were picked together go through -/
theorem pkg_n (h : pkn T C ≠ 1) : st (st C 9 (uI (C 9) 0 (C 9 0 + 1))) 11 (uI (C 11) 0 (C 11 0 + pkn T C)) = pk2 T C := by
  unfold pk2 pk1
  rw [if_neg h]
  rfl
theorem pkg_6 (h : pkn T C = 1) (hg : C 11 6 < 6) : st (st (st C 9 (uI (uI (C 9) 0 (C 9 0 + 1)) 4 (uI (C 9) 0 (C 9 0 + 1) 4 + 1))) 10 (uI (C 10) (C 11 6) (thk T (C 11 0) (pkn T C)))) 11 (uI (uI (C 11) 0 (C 11 0 + pkn T C)) 6 (C 11 6 + 1)) = pk2 T C := by
  unfold pk2
  rw [if_pos h]
  have e : gAdd (pk1 T C) (thk T (C 11 0) (pkn T C)) = st (s1 (pk1 T C) 6 (pk1 T C 11 6 + 1)) 10 (uI (pk1 T C 10) (pk1 T C 11 6) (thk T (C 11 0) (pkn T C))) := if_pos hg
  rw [e]
  unfold pk1
  exact e12 (fun p hp => by rw [st_p hp (by decide), st_p hp (by decide), st_p hp (by decide), acc_p hp, st_p hp (by decide), s1_p hp, s1_p hp, acc_p hp]) rfl rfl rfl rfl rfl rfl rfl rfl rfl rfl rfl rfl
theorem pkg_7 (h : pkn T C = 1) (hg : ¬ C 11 6 < 6) : st (st (st C 9 (uI (uI (C 9) 0 (C 9 0 + 1)) 4 (uI (C 9) 0 (C 9 0 + 1) 4 + 1))) 10 (uI (C 10) (C 11 7) (thk T (C 11 0) (pkn T C)))) 11 (uI (uI (C 11) 0 (C 11 0 + pkn T C)) 7 (if C 11 7 < 5 then C 11 7 + 1 else 0)) = pk2 T C := by
  unfold pk2
  rw [if_pos h]
  have e : gAdd (pk1 T C) (thk T (C 11 0) (pkn T C)) = st (s1 (pk1 T C) 7 (if pk1 T C 11 7 < 5 then pk1 T C 11 7 + 1 else 0)) 10 (uI (pk1 T C 10) (pk1 T C 11 7) (thk T (C 11 0) (pkn T C))) := if_neg hg
  rw [e]
  unfold pk1
  exact e12 (fun p hp => by rw [st_p hp (by decide), st_p hp (by decide), st_p hp (by decide), acc_p hp, st_p hp (by decide), s1_p hp, s1_p hp, acc_p hp]) rfl rfl rfl rfl rfl rfl rfl rfl rfl rfl rfl rfl
theorem uI_i9 {F : Int → Int} {k v : Int} (h : v = F k) : uI F k v = F := by
  funext x
  unfold uI
  by_cases e : x = k
  · rw [if_pos e, h, e]
  · rw [if_neg e]
theorem pkg_e {c2 o2 : Int} {g2 : Int → Int} (h : pkn T C = 1) (hc : c2 = if C 11 6 < 6 then C 11 6 + 1 else C 11 6) (ho : o2 = if C 11 6 < 6 then C 11 7 else if C 11 7 < 5 then C 11 7 + 1 else 0) (hg : g2 = if C 11 6 < 6 then uI (C 10) (C 11 6) (thk T (C 11 0) (pkn T C)) else uI (C 10) (C 11 7) (thk T (C 11 0) (pkn T C))) : st (st (st C 9 (uI (uI (C 9) 0 (C 9 0 + 1)) 4 (C 9 4 + 1))) 10 g2) 11 (uI (uI (uI (C 11) 0 (C 11 0 + pkn T C)) 6 c2) 7 o2) = pk2 T C := by
  by_cases c : C 11 6 < 6
  · rw [if_pos c] at hc ho hg
    rw [hc, ho, hg, ← pkg_6 h c]
    congr 1
    exact uI_i9 rfl
  · rw [if_neg c] at hc ho hg
    rw [hc, ho, hg, ← pkg_7 h c]
    congr 1
    rw [uI_i9 (F := uI (C 11) 0 (C 11 0 + pkn T C)) (k := 6) (v := C 11 6) rfl]
theorem pick_g (h : pkr T C = 0) : goThr T (pk2 T C) (C 11 0) (pkn T C) = pickC T C := by
  unfold pickC
  rw [if_pos h]
theorem WT_shOk (hT : WT T) (hC : WC T C) : shOk T (C 2) (C 1) := fun s a b => by
  have z1 := hT.2.2 s a b
  have z2 := hC.2.2.1 s a b
  omega
end PCK
