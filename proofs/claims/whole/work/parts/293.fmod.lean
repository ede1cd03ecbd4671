/-! Math.floorMod of a number that is not negative -/
theorem xor_nn {x y : Int32} (hx : 0 ≤ x.toInt) (hy : 0 ≤ y.toInt) : 0 ≤ (x ^^^ y).toInt := by
  have h1 : x.toBitVec.msb = false := by rw [BitVec.msb_eq_toInt]; exact decide_eq_false (Int.not_lt.mpr hx)
  have h2 : y.toBitVec.msb = false := by rw [BitVec.msb_eq_toInt]; exact decide_eq_false (Int.not_lt.mpr hy)
  have h3 : (x ^^^ y).toBitVec.msb = false := by rw [Int32.toBitVec_xor, BitVec.msb_xor, h1, h2]; rfl
  rw [BitVec.msb_eq_toInt] at h3
  exact Int.not_lt.mp (of_decide_eq_false h3)
section FMD
variable {l : Launch} {D : va_G} {cI cB cZ cS cJ : ClassId}
theorem c_J9_floorMod (a b : Int) (ha : 0 ≤ a ∧ a < 2147483648) (hb0 : 0 < b ∧ b < 2147483648) : qP l D (tyG cI cB cZ cS cJ) yJ9_floorMod_7cf53 cJ9_floorMod_7cf53 3 (Option.some FieldType.int) 0 0 [.int (iI a), .int (iI b)] [] (some (.int (iI (a % b)))) := by
  refine qP_enter (by decide) (Nat.le_of_ble_eq_true rfl) (nar_i _) (fun p e R s m args below meth c Q ls X hR hP hl hret => ?_)
  obtain ⟨hx, hb, hml, hown, hts, hK⟩ := X
  have hl : lv_has ls 3 [(0, .int (iI a)), (1, .int (iI b))] := hl
  refine lv_iload_n hx hb dJ9_floorMod_7cf53_0 rfl (lv_at hl 0 rfl) ?_
  refine lv_iload_n hx hb dJ9_floorMod_7cf53_1 rfl (lv_at hl 1 rfl) ?_
  refine q_irem hx hb dJ9_floorMod_7cf53_2 ⟨by omega, by omega⟩ ⟨by omega, by omega⟩ (by omega) ?_
  refine q_top (a % b) (Int.tmod_eq_emod_of_nonneg ha.1) ?_
  refine lv_istore_n (lv' := [(2, .int (iI (a % b))), (0, .int (iI a)), (1, .int (iI b))]) hx hb dJ9_floorMod_7cf53_3 rfl hl (by decide) rfl (fun ls hl => ?_)
  refine lv_iload_n hx hb dJ9_floorMod_7cf53_4 rfl (lv_at hl 1 rfl) ?_
  refine lv_iload_n hx hb dJ9_floorMod_7cf53_5 rfl (lv_at hl 2 rfl) ?_
  refine lv_ixor hx hb dJ9_floorMod_7cf53_6 ?_
  have hn : 0 ≤ (iI a ^^^ iI b).toInt := xor_nn (by rw [iI_t ⟨by omega, by omega⟩]; exact ha.1) (by rw [iI_t ⟨by omega, by omega⟩]; exact Int.le_of_lt hb0.1)
  rw [show iI a ^^^ iI b = iI (iI a ^^^ iI b).toInt from (iI_of _).symm]
  refine q_if_ge (tgt := 18) hx hb dJ9_floorMod_7cf53_7 (by decide) (rg_of _) (fun c_7 => ?_) (fun c_7 => absurd hn (Int.not_le.mpr c_7))
  refine lv_iload_n hx hb dJ9_floorMod_7cf53_18 rfl (lv_at hl 0 rfl) ?_
  exact q_ret (hret 19 ls dJ9_floorMod_7cf53_19) rfl
end FMD
/-- how many thicknesses there are, of so many that were added -/
theorem mz_bd {a c : Int} (h0 : 0 ≤ a) (h : minZ a 6 = c) : 0 ≤ c ∧ c ≤ 6 ∧ c ≤ a := by
  unfold minZ at h
  split at h <;> omega
theorem mz_s {a o m : Int} (h0 : 0 ≤ a) (h : o = if m = 1 then a + 1 else a) : minZ o 6 = if m = 1 then (if minZ a 6 < 6 then minZ a 6 + 1 else 6) else minZ a 6 := by
  rw [h]
  unfold minZ
  (repeat' split) <;> omega
theorem mz_l {a : Int} (h : minZ a 6 < 6) : a = minZ a 6 := by
  unfold minZ at h ⊢
  split at h <;> (split <;> omega)
theorem mz_C {T C : Nat → Int → Int} (hC : WC T C) : minZ (C 11 7) 6 = C 11 6 := by
  have q := hC.1
  unfold minZ
  split <;> omega
