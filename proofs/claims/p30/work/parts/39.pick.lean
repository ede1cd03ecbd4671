/-! A PICK, row by row -/
section PCK
variable {T C : Nat → Int → Int}
theorem uI_sw {F : Int → Int} {i j a b : Int} (h : i ≠ j) : uI (uI F i a) j b = uI (uI F j b) i a := by
  funext x
  unfold uI
  by_cases h1 : x = i
  · rw [if_pos h1, if_pos h1, if_neg (by omega)]
  · rw [if_neg h1, if_neg h1]
theorem pkr_0 (hr : pkr T C ≠ 0) (h : pkr T C = 3 ∧ T 5 (C 11 0) = -1) : st (st (st (st C 0 (fil (C 0) (C 11 0) (C 11 0 + pkn T C) 1)) 3 (uI (C 3) (C 11 0) 1)) 9 (uI (uI (C 9) 0 (C 9 0 + 1)) (pkr T C) (uI (C 9) 0 (C 9 0 + 1) (pkr T C) + 1))) 11 (uI (uI (uI (C 11) 0 (C 11 0 + pkn T C)) 1 (pkn T C)) 2 (pkr T C)) = pickC T C := by
  unfold pickC
  rw [if_neg hr, if_pos h]
  unfold pk3 pk1
  exact e12 (fun p hp => by rw [st_p hp (by decide), st_p hp (by decide), st_p hp (by decide), st_p hp (by decide), st_p hp (by decide), st_p hp (by decide), acc_p hp, s1_p hp, s1_p hp, s1_p hp, acc_p hp]) rfl rfl rfl rfl rfl rfl rfl rfl rfl rfl rfl (uI_sw (by decide))
theorem pkr_1 (hr : pkr T C ≠ 0) (h : ¬ (pkr T C = 3 ∧ T 5 (C 11 0) = -1)) : st (st (st (st C 0 (fil (C 0) (C 11 0) (C 11 0 + pkn T C) 1)) 3 (C 3)) 9 (uI (uI (C 9) 0 (C 9 0 + 1)) (pkr T C) (uI (C 9) 0 (C 9 0 + 1) (pkr T C) + 1))) 11 (uI (uI (uI (C 11) 0 (C 11 0 + pkn T C)) 1 (pkn T C)) 2 (pkr T C)) = pickC T C := by
  unfold pickC
  rw [if_neg hr, if_neg h]
  unfold pk3 pk1
  exact e12 (fun p hp => by rw [st_p hp (by decide), st_p hp (by decide), st_p hp (by decide), st_p hp (by decide), st_p hp (by decide), acc_p hp, s1_p hp, s1_p hp, s1_p hp, acc_p hp]) rfl rfl rfl rfl rfl rfl rfl rfl rfl rfl rfl (uI_sw (by decide))
/-- where the sheets that were picked together go through -/
theorem pkg_n (h : pkn T C ≠ 1) : st (st C 9 (uI (C 9) 0 (C 9 0 + 1))) 11 (uI (C 11) 0 (C 11 0 + pkn T C)) = pk2 T C := by
  unfold pk2 pk1
  rw [if_neg h]
  rfl
theorem pkg_e (h : pkn T C = 1) : st (st (st C 9 (uI (uI (C 9) 0 (C 9 0 + 1)) 4 (C 9 4 + 1))) 10 (uI (C 10) (C 11 7 % 6) (thk T (C 11 0) (pkn T C)))) 11 (uI (uI (uI (C 11) 0 (C 11 0 + pkn T C)) 6 (if C 11 6 < 6 then C 11 6 + 1 else 6)) 7 (C 11 7 + 1)) = pk2 T C := by
  unfold pk2
  rw [if_pos h]
  unfold gAdd pk1
  exact e12 (fun p hp => by rw [st_p hp (by decide), st_p hp (by decide), st_p hp (by decide), acc_p hp, st_p hp (by decide), st_p hp (by decide), s1_p hp, acc_p hp]) rfl rfl rfl rfl rfl rfl rfl rfl rfl rfl rfl rfl
theorem pick_g (h : pkr T C = 0) : goThr T (pk2 T C) (C 11 0) (pkn T C) = pickC T C := by
  unfold pickC
  rw [if_pos h]
theorem WT_shOk (hT : WT T) (hC : WC T C) : shOk T (C 2) (C 1) := fun s a b => by
  have z1 := hT.2.2 s a b
  have z2 := hC.2.2.1 s a b
  omega
end PCK
