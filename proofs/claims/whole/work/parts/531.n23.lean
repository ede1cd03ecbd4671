/-! THE LAW'S HELPERS: what each hands on, and what it catches -/
theorem set_last {α : Type} (l : List α) (a b : α) : (l ++ [a]).set l.length b = l ++ [b] := by
  induction l with
  | nil => rfl
  | cons x l ih =>
    show x :: ((l ++ [a]).set l.length b) = x :: (l ++ [b])
    rw [ih]
theorem get_last {α : Type} (l : List α) (a : α) : (l ++ [a])[l.length]? = some a := by
  rw [List.getElem?_append_right (Nat.le_refl _), Nat.sub_self]
  rfl
abbrev outC (cJ : ClassId) (ao : Nat) (f : Nat → Int64) : Nat × va_E := (ao, .inl (cJ, 1, .inr (.inl f)))
theorem in_0 : vp_in (iI 0) 1 := iI_in (by omega) (by omega) (by omega)
theorem l64_0 : (iI 0).toInt64 = 0 := by decide
theorem l64_1 : (iI 1).toInt64 = 1 := by decide
variable {l : Launch} {z : Nat → Nat} {D : va_G} {cI cB cZ cS cJ : ClassId} {fr lo b0 ao : Nat} {f : Nat → Int64} {W0 : va_W} {fs : List Value}

theorem cw_L_parse : Cond.codeWith yL_parse cL_parse 4 (some .int) [(0, 9, 12, 13)] ∈ gW := gW_mem 558 (by decide +kernel) (by decide +kernel)
theorem c_L_parse {S : Type} {P : S → Prop} {val : S → Int} {W1 : S → va_W} (v1 : Int) (hq : W0[0]? = some (b0, .inr (6, fs))) (hM : qH l (ZY z) D (tyG cI cB cZ cS cJ) yX6_parse (.code yX6_parse cX6_parse 3 (Option.some FieldType.int) :: gW) fr lo 0 0 (.ref b0 :: [.int (iI v1)]) W0 P (fun u => some (.int (iI (val u)))) W1) : qH l (ZY z) D (tyG cI cB cZ cS cJ) yL_parse (.codeWith yL_parse cL_parse 4 (some .int) [(0, 9, 12, 13)] :: gW) (fr + 1) (8 + (3 + 11) + lo) 0 0 [.ref b0, .int (iI v1), .ref ao] (W0 ++ [outC cJ ao f]) P (fun _ => some (.int (iI 0))) (fun u => W1 u ++ [outC cJ ao (vp_updL f 0 (iI (val u)).toInt64)]) := by
  refine qH_enterW (val := fun _ => iI 0) (by decide) (Nat.le_of_ble_eq_true rfl) (fun u hu => ⟨rfl, rfl⟩) (fun p e R s m args below meth c Q ls A X hR hA hw hZ hl htab hret => ?_)
  obtain ⟨hx, hb, hml, hown, hts, hK⟩ := X
  have hl : lv_has ls 4 [(0, .ref b0), (1, .int (iI v1)), (2, .ref ao)] := hl
  refine lv_aload_n hx hb dL_parse_0 rfl (lv_at hl 2 rfl) ?_
  refine q_iconst hx hb dL_parse_1 ?_
  refine lv_aload_n hx hb dL_parse_2 rfl (lv_at hl 0 rfl) ?_
  refine lv_iload_n hx hb dL_parse_3 rfl (lv_at hl 1 rfl) ?_
  refine q_callH (As := [.int (iI v1)]) (rest := [.int (iI 0), .ref ao]) (zy_ok z) hx hb hml hown hts hK hM yi_X6_parse ml_L_7 (by rw [hR]; exact ⟨Nat.le_refl _, Nat.le_refl _⟩) hw hA hZ 0 hq rfl rfl rfl hl.1 (lv_room (Nat.le_of_ble_eq_true rfl)) dL_parse_4 ⟨by rw [hR]; exact Nat.zero_le _, by rw [hR]; exact Nat.zero_le _⟩ (fun u H locs hPu hw => ?_)
  refine lv_i2l hx hb dL_parse_7 rfl ?_
  refine q_last hx hb hK hw (W1 u).length 4 (get_last _ _) rfl in_0 dL_parse_8 (fun H locs hw => ?_)
  rw [set_last] at hw
  refine lv_goto (tgt := 15) hx hb dL_parse_9 (by decide) ?_
  refine q_iconst hx hb dL_parse_15 ?_
  exact hret u H locs 16 ls hPu hw dL_parse_16
theorem c_L_parse_x1 (v1 : Int) (hq : W0[0]? = some (b0, .inr (6, fs))) (hT : qT l (ZY z) D (tyG cI cB cZ cS cJ) yX6_parse cX6_parse 3 (Option.some FieldType.int) fr lo (.ref b0 :: [.int (iI v1)]) W0 EIA) : qH l (ZY z) D (tyG cI cB cZ cS cJ) yL_parse (.codeWith yL_parse cL_parse 4 (some .int) [(0, 9, 12, 13)] :: gW) (fr + 1) (8 + (3 + 11) + lo) 1 6 [.ref b0, .int (iI v1), .ref ao] (W0 ++ [outC cJ ao f]) (fun _ : Unit => True) (fun _ => some (.int (iI 1))) (fun _ => W0 ++ [outC cJ ao f]) := by
  refine qH_enterW (val := fun _ => iI 1) (by decide) (Nat.le_of_ble_eq_true rfl) (fun u hu => ⟨rfl, rfl⟩) (fun p e R s m args below meth c Q ls A X hR hA hw hZ hl htab hret => ?_)
  obtain ⟨hx, hb, hml, hown, hts, hK⟩ := X
  have hl : lv_has ls 4 [(0, .ref b0), (1, .int (iI v1)), (2, .ref ao)] := hl
  refine lv_aload_n hx hb dL_parse_0 rfl (lv_at hl 2 rfl) ?_
  refine q_iconst hx hb dL_parse_1 ?_
  refine lv_aload_n hx hb dL_parse_2 rfl (lv_at hl 0 rfl) ?_
  refine lv_iload_n hx hb dL_parse_3 rfl (lv_at hl 1 rfl) ?_
  refine q_callT (As := [.int (iI v1)]) (rest := [.int (iI 0), .ref ao]) (zy_ok z) hx hb hml hown hts hK hT yi_X6_parse ml_L_7 (by rw [hR]; exact ⟨Nat.le_refl _, Nat.le_refl _⟩) hw hA hZ 0 hq rfl rfl rfl hl.1 (lv_room (Nat.le_of_ble_eq_true rfl)) dL_parse_4 ⟨by rw [hR]; exact Nat.le_refl _, by rw [hR]; exact Nat.le_refl _⟩ [] ⟨0, 9, 12, 13⟩ [] (by rw [htab]; rfl) (fun z9 hz9 => by cases hz9) (by decide) (by decide) cl_L_13 (hZ.2.1 _ (List.mem_of_getElem? (i := 3) rfl)) (fun q9 H locs hw => ?_)
  refine lv_astore_n (lv' := [(3, .ref q9), (0, .ref b0), (1, .int (iI v1)), (2, .ref ao)]) hx hb dL_parse_12 rfl hl (by decide) rfl (fun ls hl => ?_)
  refine q_iconst hx hb dL_parse_13 ?_
  exact hret () H locs 14 ls trivial hw dL_parse_14
theorem cw_L_size : Cond.codeWith yL_size cL_size 4 (some .int) [(0, 9, 12, 13)] ∈ gW := gW_mem 756 (by decide +kernel) (by decide +kernel)
theorem c_L_size {S : Type} {P : S → Prop} {val : S → Int} {W1 : S → va_W} (v1 : Int) (hq : W0[0]? = some (b0, .inr (6, fs))) (hM : qH l (ZY z) D (tyG cI cB cZ cS cJ) yX6_size (.code yX6_size cX6_size 2 (Option.some FieldType.int) :: gW) fr lo 0 0 (.ref b0 :: [.int (iI v1)]) W0 P (fun u => some (.int (iI (val u)))) W1) : qH l (ZY z) D (tyG cI cB cZ cS cJ) yL_size (.codeWith yL_size cL_size 4 (some .int) [(0, 9, 12, 13)] :: gW) (fr + 1) (8 + (2 + 11) + lo) 0 0 [.ref b0, .int (iI v1), .ref ao] (W0 ++ [outC cJ ao f]) P (fun _ => some (.int (iI 0))) (fun u => W1 u ++ [outC cJ ao (vp_updL f 0 (iI (val u)).toInt64)]) := by
  refine qH_enterW (val := fun _ => iI 0) (by decide) (Nat.le_of_ble_eq_true rfl) (fun u hu => ⟨rfl, rfl⟩) (fun p e R s m args below meth c Q ls A X hR hA hw hZ hl htab hret => ?_)
  obtain ⟨hx, hb, hml, hown, hts, hK⟩ := X
  have hl : lv_has ls 4 [(0, .ref b0), (1, .int (iI v1)), (2, .ref ao)] := hl
  refine lv_aload_n hx hb dL_size_0 rfl (lv_at hl 2 rfl) ?_
  refine q_iconst hx hb dL_size_1 ?_
  refine lv_aload_n hx hb dL_size_2 rfl (lv_at hl 0 rfl) ?_
  refine lv_iload_n hx hb dL_size_3 rfl (lv_at hl 1 rfl) ?_
  refine q_callH (As := [.int (iI v1)]) (rest := [.int (iI 0), .ref ao]) (zy_ok z) hx hb hml hown hts hK hM yi_X6_size ml_L_15 (by rw [hR]; exact ⟨Nat.le_refl _, Nat.le_refl _⟩) hw hA hZ 0 hq rfl rfl rfl hl.1 (lv_room (Nat.le_of_ble_eq_true rfl)) dL_size_4 ⟨by rw [hR]; exact Nat.zero_le _, by rw [hR]; exact Nat.zero_le _⟩ (fun u H locs hPu hw => ?_)
  refine lv_i2l hx hb dL_size_7 rfl ?_
  refine q_last hx hb hK hw (W1 u).length 4 (get_last _ _) rfl in_0 dL_size_8 (fun H locs hw => ?_)
  rw [set_last] at hw
  refine lv_goto (tgt := 15) hx hb dL_size_9 (by decide) ?_
  refine q_iconst hx hb dL_size_15 ?_
  exact hret u H locs 16 ls hPu hw dL_size_16
theorem c_L_size_x1 (v1 : Int) (hq : W0[0]? = some (b0, .inr (6, fs))) (hT : qT l (ZY z) D (tyG cI cB cZ cS cJ) yX6_size cX6_size 2 (Option.some FieldType.int) fr lo (.ref b0 :: [.int (iI v1)]) W0 EIA) : qH l (ZY z) D (tyG cI cB cZ cS cJ) yL_size (.codeWith yL_size cL_size 4 (some .int) [(0, 9, 12, 13)] :: gW) (fr + 1) (8 + (2 + 11) + lo) 1 6 [.ref b0, .int (iI v1), .ref ao] (W0 ++ [outC cJ ao f]) (fun _ : Unit => True) (fun _ => some (.int (iI 1))) (fun _ => W0 ++ [outC cJ ao f]) := by
  refine qH_enterW (val := fun _ => iI 1) (by decide) (Nat.le_of_ble_eq_true rfl) (fun u hu => ⟨rfl, rfl⟩) (fun p e R s m args below meth c Q ls A X hR hA hw hZ hl htab hret => ?_)
  obtain ⟨hx, hb, hml, hown, hts, hK⟩ := X
  have hl : lv_has ls 4 [(0, .ref b0), (1, .int (iI v1)), (2, .ref ao)] := hl
  refine lv_aload_n hx hb dL_size_0 rfl (lv_at hl 2 rfl) ?_
  refine q_iconst hx hb dL_size_1 ?_
  refine lv_aload_n hx hb dL_size_2 rfl (lv_at hl 0 rfl) ?_
  refine lv_iload_n hx hb dL_size_3 rfl (lv_at hl 1 rfl) ?_
  refine q_callT (As := [.int (iI v1)]) (rest := [.int (iI 0), .ref ao]) (zy_ok z) hx hb hml hown hts hK hT yi_X6_size ml_L_15 (by rw [hR]; exact ⟨Nat.le_refl _, Nat.le_refl _⟩) hw hA hZ 0 hq rfl rfl rfl hl.1 (lv_room (Nat.le_of_ble_eq_true rfl)) dL_size_4 ⟨by rw [hR]; exact Nat.le_refl _, by rw [hR]; exact Nat.le_refl _⟩ [] ⟨0, 9, 12, 13⟩ [] (by rw [htab]; rfl) (fun z9 hz9 => by cases hz9) (by decide) (by decide) cl_L_13 (hZ.2.1 _ (List.mem_of_getElem? (i := 3) rfl)) (fun q9 H locs hw => ?_)
  refine lv_astore_n (lv' := [(3, .ref q9), (0, .ref b0), (1, .int (iI v1)), (2, .ref ao)]) hx hb dL_size_12 rfl hl (by decide) rfl (fun ls hl => ?_)
  refine q_iconst hx hb dL_size_13 ?_
  exact hret () H locs 14 ls trivial hw dL_size_14
theorem cw_L_limit : Cond.codeWith yL_limit cL_limit 4 (some .int) [(0, 9, 12, 13)] ∈ gW := gW_mem 768 (by decide +kernel) (by decide +kernel)
theorem c_L_limit {S : Type} {P : S → Prop} {val : S → Int} {W1 : S → va_W} (v1 : Int) (hq : W0[0]? = some (b0, .inr (6, fs))) (hM : qH l (ZY z) D (tyG cI cB cZ cS cJ) yX6_limit (.code yX6_limit cX6_limit 2 (Option.some FieldType.int) :: gW) fr lo 0 0 (.ref b0 :: [.int (iI v1)]) W0 P (fun u => some (.int (iI (val u)))) W1) : qH l (ZY z) D (tyG cI cB cZ cS cJ) yL_limit (.codeWith yL_limit cL_limit 4 (some .int) [(0, 9, 12, 13)] :: gW) (fr + 1) (8 + (2 + 11) + lo) 0 0 [.ref b0, .int (iI v1), .ref ao] (W0 ++ [outC cJ ao f]) P (fun _ => some (.int (iI 0))) (fun u => W1 u ++ [outC cJ ao (vp_updL f 0 (iI (val u)).toInt64)]) := by
  refine qH_enterW (val := fun _ => iI 0) (by decide) (Nat.le_of_ble_eq_true rfl) (fun u hu => ⟨rfl, rfl⟩) (fun p e R s m args below meth c Q ls A X hR hA hw hZ hl htab hret => ?_)
  obtain ⟨hx, hb, hml, hown, hts, hK⟩ := X
  have hl : lv_has ls 4 [(0, .ref b0), (1, .int (iI v1)), (2, .ref ao)] := hl
  refine lv_aload_n hx hb dL_limit_0 rfl (lv_at hl 2 rfl) ?_
  refine q_iconst hx hb dL_limit_1 ?_
  refine lv_aload_n hx hb dL_limit_2 rfl (lv_at hl 0 rfl) ?_
  refine lv_iload_n hx hb dL_limit_3 rfl (lv_at hl 1 rfl) ?_
  refine q_callH (As := [.int (iI v1)]) (rest := [.int (iI 0), .ref ao]) (zy_ok z) hx hb hml hown hts hK hM yi_X6_limit ml_L_18 (by rw [hR]; exact ⟨Nat.le_refl _, Nat.le_refl _⟩) hw hA hZ 0 hq rfl rfl rfl hl.1 (lv_room (Nat.le_of_ble_eq_true rfl)) dL_limit_4 ⟨by rw [hR]; exact Nat.zero_le _, by rw [hR]; exact Nat.zero_le _⟩ (fun u H locs hPu hw => ?_)
  refine lv_i2l hx hb dL_limit_7 rfl ?_
  refine q_last hx hb hK hw (W1 u).length 4 (get_last _ _) rfl in_0 dL_limit_8 (fun H locs hw => ?_)
  rw [set_last] at hw
  refine lv_goto (tgt := 15) hx hb dL_limit_9 (by decide) ?_
  refine q_iconst hx hb dL_limit_15 ?_
  exact hret u H locs 16 ls hPu hw dL_limit_16
theorem c_L_limit_x1 (v1 : Int) (hq : W0[0]? = some (b0, .inr (6, fs))) (hT : qT l (ZY z) D (tyG cI cB cZ cS cJ) yX6_limit cX6_limit 2 (Option.some FieldType.int) fr lo (.ref b0 :: [.int (iI v1)]) W0 EIA) : qH l (ZY z) D (tyG cI cB cZ cS cJ) yL_limit (.codeWith yL_limit cL_limit 4 (some .int) [(0, 9, 12, 13)] :: gW) (fr + 1) (8 + (2 + 11) + lo) 1 6 [.ref b0, .int (iI v1), .ref ao] (W0 ++ [outC cJ ao f]) (fun _ : Unit => True) (fun _ => some (.int (iI 1))) (fun _ => W0 ++ [outC cJ ao f]) := by
  refine qH_enterW (val := fun _ => iI 1) (by decide) (Nat.le_of_ble_eq_true rfl) (fun u hu => ⟨rfl, rfl⟩) (fun p e R s m args below meth c Q ls A X hR hA hw hZ hl htab hret => ?_)
  obtain ⟨hx, hb, hml, hown, hts, hK⟩ := X
  have hl : lv_has ls 4 [(0, .ref b0), (1, .int (iI v1)), (2, .ref ao)] := hl
  refine lv_aload_n hx hb dL_limit_0 rfl (lv_at hl 2 rfl) ?_
  refine q_iconst hx hb dL_limit_1 ?_
  refine lv_aload_n hx hb dL_limit_2 rfl (lv_at hl 0 rfl) ?_
  refine lv_iload_n hx hb dL_limit_3 rfl (lv_at hl 1 rfl) ?_
  refine q_callT (As := [.int (iI v1)]) (rest := [.int (iI 0), .ref ao]) (zy_ok z) hx hb hml hown hts hK hT yi_X6_limit ml_L_18 (by rw [hR]; exact ⟨Nat.le_refl _, Nat.le_refl _⟩) hw hA hZ 0 hq rfl rfl rfl hl.1 (lv_room (Nat.le_of_ble_eq_true rfl)) dL_limit_4 ⟨by rw [hR]; exact Nat.le_refl _, by rw [hR]; exact Nat.le_refl _⟩ [] ⟨0, 9, 12, 13⟩ [] (by rw [htab]; rfl) (fun z9 hz9 => by cases hz9) (by decide) (by decide) cl_L_13 (hZ.2.1 _ (List.mem_of_getElem? (i := 3) rfl)) (fun q9 H locs hw => ?_)
  refine lv_astore_n (lv' := [(3, .ref q9), (0, .ref b0), (1, .int (iI v1)), (2, .ref ao)]) hx hb dL_limit_12 rfl hl (by decide) rfl (fun ls hl => ?_)
  refine q_iconst hx hb dL_limit_13 ?_
  exact hret () H locs 14 ls trivial hw dL_limit_14
theorem cw_L_sheet : Cond.codeWith yL_sheet cL_sheet 5 (some .int) [(0, 10, 13, 25), (0, 10, 17, 13)] ∈ gW := gW_mem 775 (by decide +kernel) (by decide +kernel)
theorem c_L_sheet {S : Type} {P : S → Prop} {val : S → Int} {W1 : S → va_W} (v1 : Int) (v2 : Int) (hq : W0[0]? = some (b0, .inr (6, fs))) (hM : qH l (ZY z) D (tyG cI cB cZ cS cJ) yX6_sheet (.code yX6_sheet cX6_sheet 3 (Option.some FieldType.int) :: gW) fr lo 0 0 (.ref b0 :: [.int (iI v1), .int (iI v2)]) W0 P (fun u => some (.int (iI (val u)))) W1) : qH l (ZY z) D (tyG cI cB cZ cS cJ) yL_sheet (.codeWith yL_sheet cL_sheet 5 (some .int) [(0, 10, 13, 25), (0, 10, 17, 13)] :: gW) (fr + 1) (8 + (3 + 11) + lo) 0 0 [.ref b0, .int (iI v1), .int (iI v2), .ref ao] (W0 ++ [outC cJ ao f]) P (fun _ => some (.int (iI 0))) (fun u => W1 u ++ [outC cJ ao (vp_updL f 0 (iI (val u)).toInt64)]) := by
  refine qH_enterW (val := fun _ => iI 0) (by decide) (Nat.le_of_ble_eq_true rfl) (fun u hu => ⟨rfl, rfl⟩) (fun p e R s m args below meth c Q ls A X hR hA hw hZ hl htab hret => ?_)
  obtain ⟨hx, hb, hml, hown, hts, hK⟩ := X
  have hl : lv_has ls 5 [(0, .ref b0), (1, .int (iI v1)), (2, .int (iI v2)), (3, .ref ao)] := hl
  refine lv_aload_n hx hb dL_sheet_0 rfl (lv_at hl 3 rfl) ?_
  refine q_iconst hx hb dL_sheet_1 ?_
  refine lv_aload_n hx hb dL_sheet_2 rfl (lv_at hl 0 rfl) ?_
  refine lv_iload_n hx hb dL_sheet_3 rfl (lv_at hl 1 rfl) ?_
  refine lv_iload_n hx hb dL_sheet_4 rfl (lv_at hl 2 rfl) ?_
  refine q_callH (As := [.int (iI v1), .int (iI v2)]) (rest := [.int (iI 0), .ref ao]) (zy_ok z) hx hb hml hown hts hK hM yi_X6_sheet ml_L_21 (by rw [hR]; exact ⟨Nat.le_refl _, Nat.le_refl _⟩) hw hA hZ 0 hq rfl rfl rfl hl.1 (lv_room (Nat.le_of_ble_eq_true rfl)) dL_sheet_5 ⟨by rw [hR]; exact Nat.zero_le _, by rw [hR]; exact Nat.zero_le _⟩ (fun u H locs hPu hw => ?_)
  refine lv_i2l hx hb dL_sheet_8 rfl ?_
  refine q_last hx hb hK hw (W1 u).length 4 (get_last _ _) rfl in_0 dL_sheet_9 (fun H locs hw => ?_)
  rw [set_last] at hw
  refine lv_goto (tgt := 21) hx hb dL_sheet_10 (by decide) ?_
  refine q_iconst hx hb dL_sheet_21 ?_
  exact hret u H locs 22 ls hPu hw dL_sheet_22
theorem c_L_sheet_x1 (v1 : Int) (v2 : Int) (hq : W0[0]? = some (b0, .inr (6, fs))) (hT : qT l (ZY z) D (tyG cI cB cZ cS cJ) yX6_sheet cX6_sheet 3 (Option.some FieldType.int) fr lo (.ref b0 :: [.int (iI v1), .int (iI v2)]) W0 EIO) : qH l (ZY z) D (tyG cI cB cZ cS cJ) yL_sheet (.codeWith yL_sheet cL_sheet 5 (some .int) [(0, 10, 13, 25), (0, 10, 17, 13)] :: gW) (fr + 1) (8 + (3 + 11) + lo) 1 6 [.ref b0, .int (iI v1), .int (iI v2), .ref ao] (W0 ++ [outC cJ ao f]) (fun _ : Unit => True) (fun _ => some (.int (iI 1))) (fun _ => W0 ++ [outC cJ ao f]) := by
  refine qH_enterW (val := fun _ => iI 1) (by decide) (Nat.le_of_ble_eq_true rfl) (fun u hu => ⟨rfl, rfl⟩) (fun p e R s m args below meth c Q ls A X hR hA hw hZ hl htab hret => ?_)
  obtain ⟨hx, hb, hml, hown, hts, hK⟩ := X
  have hl : lv_has ls 5 [(0, .ref b0), (1, .int (iI v1)), (2, .int (iI v2)), (3, .ref ao)] := hl
  refine lv_aload_n hx hb dL_sheet_0 rfl (lv_at hl 3 rfl) ?_
  refine q_iconst hx hb dL_sheet_1 ?_
  refine lv_aload_n hx hb dL_sheet_2 rfl (lv_at hl 0 rfl) ?_
  refine lv_iload_n hx hb dL_sheet_3 rfl (lv_at hl 1 rfl) ?_
  refine lv_iload_n hx hb dL_sheet_4 rfl (lv_at hl 2 rfl) ?_
  refine q_callT (As := [.int (iI v1), .int (iI v2)]) (rest := [.int (iI 0), .ref ao]) (zy_ok z) hx hb hml hown hts hK hT yi_X6_sheet ml_L_21 (by rw [hR]; exact ⟨Nat.le_refl _, Nat.le_refl _⟩) hw hA hZ 0 hq rfl rfl rfl hl.1 (lv_room (Nat.le_of_ble_eq_true rfl)) dL_sheet_5 ⟨by rw [hR]; exact Nat.le_refl _, by rw [hR]; exact Nat.le_refl _⟩ [] ⟨0, 10, 13, 25⟩ [⟨0, 10, 17, 13⟩] (by rw [htab]; rfl) (fun z9 hz9 => by cases hz9) (by decide) (by decide) cl_L_25 (hZ.2.1 _ (List.mem_of_getElem? (i := 5) rfl)) (fun q9 H locs hw => ?_)
  refine lv_astore (lv' := [(4, .ref q9), (0, .ref b0), (1, .int (iI v1)), (2, .int (iI v2)), (3, .ref ao)]) hx hb dL_sheet_13 hl (by decide) rfl (fun ls hl => ?_)
  refine q_iconst hx hb dL_sheet_15 ?_
  exact hret () H locs 16 ls trivial hw dL_sheet_16
theorem c_L_sheet_x2 (v1 : Int) (v2 : Int) (hq : W0[0]? = some (b0, .inr (6, fs))) (hT : qT l (ZY z) D (tyG cI cB cZ cS cJ) yX6_sheet cX6_sheet 3 (Option.some FieldType.int) fr lo (.ref b0 :: [.int (iI v1), .int (iI v2)]) W0 EIA) : qH l (ZY z) D (tyG cI cB cZ cS cJ) yL_sheet (.codeWith yL_sheet cL_sheet 5 (some .int) [(0, 10, 13, 25), (0, 10, 17, 13)] :: gW) (fr + 1) (8 + (3 + 11) + lo) 1 6 [.ref b0, .int (iI v1), .int (iI v2), .ref ao] (W0 ++ [outC cJ ao f]) (fun _ : Unit => True) (fun _ => some (.int (iI 2))) (fun _ => W0 ++ [outC cJ ao f]) := by
  refine qH_enterW (val := fun _ => iI 2) (by decide) (Nat.le_of_ble_eq_true rfl) (fun u hu => ⟨rfl, rfl⟩) (fun p e R s m args below meth c Q ls A X hR hA hw hZ hl htab hret => ?_)
  obtain ⟨hx, hb, hml, hown, hts, hK⟩ := X
  have hl : lv_has ls 5 [(0, .ref b0), (1, .int (iI v1)), (2, .int (iI v2)), (3, .ref ao)] := hl
  refine lv_aload_n hx hb dL_sheet_0 rfl (lv_at hl 3 rfl) ?_
  refine q_iconst hx hb dL_sheet_1 ?_
  refine lv_aload_n hx hb dL_sheet_2 rfl (lv_at hl 0 rfl) ?_
  refine lv_iload_n hx hb dL_sheet_3 rfl (lv_at hl 1 rfl) ?_
  refine lv_iload_n hx hb dL_sheet_4 rfl (lv_at hl 2 rfl) ?_
  refine q_callT (As := [.int (iI v1), .int (iI v2)]) (rest := [.int (iI 0), .ref ao]) (zy_ok z) hx hb hml hown hts hK hT yi_X6_sheet ml_L_21 (by rw [hR]; exact ⟨Nat.le_refl _, Nat.le_refl _⟩) hw hA hZ 0 hq rfl rfl rfl hl.1 (lv_room (Nat.le_of_ble_eq_true rfl)) dL_sheet_5 ⟨by rw [hR]; exact Nat.le_refl _, by rw [hR]; exact Nat.le_refl _⟩ [⟨0, 10, 13, 25⟩] ⟨0, 10, 17, 13⟩ [] (by rw [htab]; rfl) (fun z9 hz9 => by cases List.mem_singleton.mp hz9; exact ⟨by decide, _, cl_L_25, hZ.2.2.1⟩) (by decide) (by decide) cl_L_13 (hZ.2.1 _ (List.mem_of_getElem? (i := 3) rfl)) (fun q9 H locs hw => ?_)
  refine lv_astore (lv' := [(4, .ref q9), (0, .ref b0), (1, .int (iI v1)), (2, .int (iI v2)), (3, .ref ao)]) hx hb dL_sheet_17 hl (by decide) rfl (fun ls hl => ?_)
  refine q_iconst hx hb dL_sheet_19 ?_
  exact hret () H locs 20 ls trivial hw dL_sheet_20
theorem cw_L_page : Cond.codeWith yL_page cL_page 5 (some .int) [(0, 10, 13, 25), (0, 10, 17, 13)] ∈ gW := gW_mem 799 (by decide +kernel) (by decide +kernel)
theorem c_L_page {S : Type} {P : S → Prop} {val : S → Int} {W1 : S → va_W} (v1 : Int) (v2 : Int) (hq : W0[0]? = some (b0, .inr (6, fs))) (hM : qH l (ZY z) D (tyG cI cB cZ cS cJ) yX6_page (.code yX6_page cX6_page 3 (Option.some FieldType.int) :: gW) fr lo 0 0 (.ref b0 :: [.int (iI v1), .int (iI v2)]) W0 P (fun u => some (.int (iI (val u)))) W1) : qH l (ZY z) D (tyG cI cB cZ cS cJ) yL_page (.codeWith yL_page cL_page 5 (some .int) [(0, 10, 13, 25), (0, 10, 17, 13)] :: gW) (fr + 1) (8 + (3 + 11) + lo) 0 0 [.ref b0, .int (iI v1), .int (iI v2), .ref ao] (W0 ++ [outC cJ ao f]) P (fun _ => some (.int (iI 0))) (fun u => W1 u ++ [outC cJ ao (vp_updL f 0 (iI (val u)).toInt64)]) := by
  refine qH_enterW (val := fun _ => iI 0) (by decide) (Nat.le_of_ble_eq_true rfl) (fun u hu => ⟨rfl, rfl⟩) (fun p e R s m args below meth c Q ls A X hR hA hw hZ hl htab hret => ?_)
  obtain ⟨hx, hb, hml, hown, hts, hK⟩ := X
  have hl : lv_has ls 5 [(0, .ref b0), (1, .int (iI v1)), (2, .int (iI v2)), (3, .ref ao)] := hl
  refine lv_aload_n hx hb dL_page_0 rfl (lv_at hl 3 rfl) ?_
  refine q_iconst hx hb dL_page_1 ?_
  refine lv_aload_n hx hb dL_page_2 rfl (lv_at hl 0 rfl) ?_
  refine lv_iload_n hx hb dL_page_3 rfl (lv_at hl 1 rfl) ?_
  refine lv_iload_n hx hb dL_page_4 rfl (lv_at hl 2 rfl) ?_
  refine q_callH (As := [.int (iI v1), .int (iI v2)]) (rest := [.int (iI 0), .ref ao]) (zy_ok z) hx hb hml hown hts hK hM yi_X6_page ml_L_27 (by rw [hR]; exact ⟨Nat.le_refl _, Nat.le_refl _⟩) hw hA hZ 0 hq rfl rfl rfl hl.1 (lv_room (Nat.le_of_ble_eq_true rfl)) dL_page_5 ⟨by rw [hR]; exact Nat.zero_le _, by rw [hR]; exact Nat.zero_le _⟩ (fun u H locs hPu hw => ?_)
  refine lv_i2l hx hb dL_page_8 rfl ?_
  refine q_last hx hb hK hw (W1 u).length 4 (get_last _ _) rfl in_0 dL_page_9 (fun H locs hw => ?_)
  rw [set_last] at hw
  refine lv_goto (tgt := 21) hx hb dL_page_10 (by decide) ?_
  refine q_iconst hx hb dL_page_21 ?_
  exact hret u H locs 22 ls hPu hw dL_page_22
theorem c_L_page_x1 (v1 : Int) (v2 : Int) (hq : W0[0]? = some (b0, .inr (6, fs))) (hT : qT l (ZY z) D (tyG cI cB cZ cS cJ) yX6_page cX6_page 3 (Option.some FieldType.int) fr lo (.ref b0 :: [.int (iI v1), .int (iI v2)]) W0 EIO) : qH l (ZY z) D (tyG cI cB cZ cS cJ) yL_page (.codeWith yL_page cL_page 5 (some .int) [(0, 10, 13, 25), (0, 10, 17, 13)] :: gW) (fr + 1) (8 + (3 + 11) + lo) 1 6 [.ref b0, .int (iI v1), .int (iI v2), .ref ao] (W0 ++ [outC cJ ao f]) (fun _ : Unit => True) (fun _ => some (.int (iI 1))) (fun _ => W0 ++ [outC cJ ao f]) := by
  refine qH_enterW (val := fun _ => iI 1) (by decide) (Nat.le_of_ble_eq_true rfl) (fun u hu => ⟨rfl, rfl⟩) (fun p e R s m args below meth c Q ls A X hR hA hw hZ hl htab hret => ?_)
  obtain ⟨hx, hb, hml, hown, hts, hK⟩ := X
  have hl : lv_has ls 5 [(0, .ref b0), (1, .int (iI v1)), (2, .int (iI v2)), (3, .ref ao)] := hl
  refine lv_aload_n hx hb dL_page_0 rfl (lv_at hl 3 rfl) ?_
  refine q_iconst hx hb dL_page_1 ?_
  refine lv_aload_n hx hb dL_page_2 rfl (lv_at hl 0 rfl) ?_
  refine lv_iload_n hx hb dL_page_3 rfl (lv_at hl 1 rfl) ?_
  refine lv_iload_n hx hb dL_page_4 rfl (lv_at hl 2 rfl) ?_
  refine q_callT (As := [.int (iI v1), .int (iI v2)]) (rest := [.int (iI 0), .ref ao]) (zy_ok z) hx hb hml hown hts hK hT yi_X6_page ml_L_27 (by rw [hR]; exact ⟨Nat.le_refl _, Nat.le_refl _⟩) hw hA hZ 0 hq rfl rfl rfl hl.1 (lv_room (Nat.le_of_ble_eq_true rfl)) dL_page_5 ⟨by rw [hR]; exact Nat.le_refl _, by rw [hR]; exact Nat.le_refl _⟩ [] ⟨0, 10, 13, 25⟩ [⟨0, 10, 17, 13⟩] (by rw [htab]; rfl) (fun z9 hz9 => by cases hz9) (by decide) (by decide) cl_L_25 (hZ.2.1 _ (List.mem_of_getElem? (i := 5) rfl)) (fun q9 H locs hw => ?_)
  refine lv_astore (lv' := [(4, .ref q9), (0, .ref b0), (1, .int (iI v1)), (2, .int (iI v2)), (3, .ref ao)]) hx hb dL_page_13 hl (by decide) rfl (fun ls hl => ?_)
  refine q_iconst hx hb dL_page_15 ?_
  exact hret () H locs 16 ls trivial hw dL_page_16
theorem c_L_page_x2 (v1 : Int) (v2 : Int) (hq : W0[0]? = some (b0, .inr (6, fs))) (hT : qT l (ZY z) D (tyG cI cB cZ cS cJ) yX6_page cX6_page 3 (Option.some FieldType.int) fr lo (.ref b0 :: [.int (iI v1), .int (iI v2)]) W0 EIA) : qH l (ZY z) D (tyG cI cB cZ cS cJ) yL_page (.codeWith yL_page cL_page 5 (some .int) [(0, 10, 13, 25), (0, 10, 17, 13)] :: gW) (fr + 1) (8 + (3 + 11) + lo) 1 6 [.ref b0, .int (iI v1), .int (iI v2), .ref ao] (W0 ++ [outC cJ ao f]) (fun _ : Unit => True) (fun _ => some (.int (iI 2))) (fun _ => W0 ++ [outC cJ ao f]) := by
  refine qH_enterW (val := fun _ => iI 2) (by decide) (Nat.le_of_ble_eq_true rfl) (fun u hu => ⟨rfl, rfl⟩) (fun p e R s m args below meth c Q ls A X hR hA hw hZ hl htab hret => ?_)
  obtain ⟨hx, hb, hml, hown, hts, hK⟩ := X
  have hl : lv_has ls 5 [(0, .ref b0), (1, .int (iI v1)), (2, .int (iI v2)), (3, .ref ao)] := hl
  refine lv_aload_n hx hb dL_page_0 rfl (lv_at hl 3 rfl) ?_
  refine q_iconst hx hb dL_page_1 ?_
  refine lv_aload_n hx hb dL_page_2 rfl (lv_at hl 0 rfl) ?_
  refine lv_iload_n hx hb dL_page_3 rfl (lv_at hl 1 rfl) ?_
  refine lv_iload_n hx hb dL_page_4 rfl (lv_at hl 2 rfl) ?_
  refine q_callT (As := [.int (iI v1), .int (iI v2)]) (rest := [.int (iI 0), .ref ao]) (zy_ok z) hx hb hml hown hts hK hT yi_X6_page ml_L_27 (by rw [hR]; exact ⟨Nat.le_refl _, Nat.le_refl _⟩) hw hA hZ 0 hq rfl rfl rfl hl.1 (lv_room (Nat.le_of_ble_eq_true rfl)) dL_page_5 ⟨by rw [hR]; exact Nat.le_refl _, by rw [hR]; exact Nat.le_refl _⟩ [⟨0, 10, 13, 25⟩] ⟨0, 10, 17, 13⟩ [] (by rw [htab]; rfl) (fun z9 hz9 => by cases List.mem_singleton.mp hz9; exact ⟨by decide, _, cl_L_25, hZ.2.2.1⟩) (by decide) (by decide) cl_L_13 (hZ.2.1 _ (List.mem_of_getElem? (i := 3) rfl)) (fun q9 H locs hw => ?_)
  refine lv_astore (lv' := [(4, .ref q9), (0, .ref b0), (1, .int (iI v1)), (2, .int (iI v2)), (3, .ref ao)]) hx hb dL_page_17 hl (by decide) rfl (fun ls hl => ?_)
  refine q_iconst hx hb dL_page_19 ?_
  exact hret () H locs 20 ls trivial hw dL_page_20
theorem cw_L_job : Cond.codeWith yL_job cL_job 5 (some .int) [(0, 10, 13, 25), (0, 10, 17, 13)] ∈ gW := gW_mem 807 (by decide +kernel) (by decide +kernel)
theorem c_L_job {S : Type} {P : S → Prop} {val : S → Int} {W1 : S → va_W} (v1 : Int) (v2 : Int) (hq : W0[0]? = some (b0, .inr (6, fs))) (hM : qH l (ZY z) D (tyG cI cB cZ cS cJ) yX6_job (.code yX6_job cX6_job 3 (Option.some FieldType.int) :: gW) fr lo 0 0 (.ref b0 :: [.int (iI v1), .int (iI v2)]) W0 P (fun u => some (.int (iI (val u)))) W1) : qH l (ZY z) D (tyG cI cB cZ cS cJ) yL_job (.codeWith yL_job cL_job 5 (some .int) [(0, 10, 13, 25), (0, 10, 17, 13)] :: gW) (fr + 1) (8 + (3 + 11) + lo) 0 0 [.ref b0, .int (iI v1), .int (iI v2), .ref ao] (W0 ++ [outC cJ ao f]) P (fun _ => some (.int (iI 0))) (fun u => W1 u ++ [outC cJ ao (vp_updL f 0 (iI (val u)).toInt64)]) := by
  refine qH_enterW (val := fun _ => iI 0) (by decide) (Nat.le_of_ble_eq_true rfl) (fun u hu => ⟨rfl, rfl⟩) (fun p e R s m args below meth c Q ls A X hR hA hw hZ hl htab hret => ?_)
  obtain ⟨hx, hb, hml, hown, hts, hK⟩ := X
  have hl : lv_has ls 5 [(0, .ref b0), (1, .int (iI v1)), (2, .int (iI v2)), (3, .ref ao)] := hl
  refine lv_aload_n hx hb dL_job_0 rfl (lv_at hl 3 rfl) ?_
  refine q_iconst hx hb dL_job_1 ?_
  refine lv_aload_n hx hb dL_job_2 rfl (lv_at hl 0 rfl) ?_
  refine lv_iload_n hx hb dL_job_3 rfl (lv_at hl 1 rfl) ?_
  refine lv_iload_n hx hb dL_job_4 rfl (lv_at hl 2 rfl) ?_
  refine q_callH (As := [.int (iI v1), .int (iI v2)]) (rest := [.int (iI 0), .ref ao]) (zy_ok z) hx hb hml hown hts hK hM yi_X6_job ml_L_30 (by rw [hR]; exact ⟨Nat.le_refl _, Nat.le_refl _⟩) hw hA hZ 0 hq rfl rfl rfl hl.1 (lv_room (Nat.le_of_ble_eq_true rfl)) dL_job_5 ⟨by rw [hR]; exact Nat.zero_le _, by rw [hR]; exact Nat.zero_le _⟩ (fun u H locs hPu hw => ?_)
  refine lv_i2l hx hb dL_job_8 rfl ?_
  refine q_last hx hb hK hw (W1 u).length 4 (get_last _ _) rfl in_0 dL_job_9 (fun H locs hw => ?_)
  rw [set_last] at hw
  refine lv_goto (tgt := 21) hx hb dL_job_10 (by decide) ?_
  refine q_iconst hx hb dL_job_21 ?_
  exact hret u H locs 22 ls hPu hw dL_job_22
theorem c_L_job_x1 (v1 : Int) (v2 : Int) (hq : W0[0]? = some (b0, .inr (6, fs))) (hT : qT l (ZY z) D (tyG cI cB cZ cS cJ) yX6_job cX6_job 3 (Option.some FieldType.int) fr lo (.ref b0 :: [.int (iI v1), .int (iI v2)]) W0 EIO) : qH l (ZY z) D (tyG cI cB cZ cS cJ) yL_job (.codeWith yL_job cL_job 5 (some .int) [(0, 10, 13, 25), (0, 10, 17, 13)] :: gW) (fr + 1) (8 + (3 + 11) + lo) 1 6 [.ref b0, .int (iI v1), .int (iI v2), .ref ao] (W0 ++ [outC cJ ao f]) (fun _ : Unit => True) (fun _ => some (.int (iI 1))) (fun _ => W0 ++ [outC cJ ao f]) := by
  refine qH_enterW (val := fun _ => iI 1) (by decide) (Nat.le_of_ble_eq_true rfl) (fun u hu => ⟨rfl, rfl⟩) (fun p e R s m args below meth c Q ls A X hR hA hw hZ hl htab hret => ?_)
  obtain ⟨hx, hb, hml, hown, hts, hK⟩ := X
  have hl : lv_has ls 5 [(0, .ref b0), (1, .int (iI v1)), (2, .int (iI v2)), (3, .ref ao)] := hl
  refine lv_aload_n hx hb dL_job_0 rfl (lv_at hl 3 rfl) ?_
  refine q_iconst hx hb dL_job_1 ?_
  refine lv_aload_n hx hb dL_job_2 rfl (lv_at hl 0 rfl) ?_
  refine lv_iload_n hx hb dL_job_3 rfl (lv_at hl 1 rfl) ?_
  refine lv_iload_n hx hb dL_job_4 rfl (lv_at hl 2 rfl) ?_
  refine q_callT (As := [.int (iI v1), .int (iI v2)]) (rest := [.int (iI 0), .ref ao]) (zy_ok z) hx hb hml hown hts hK hT yi_X6_job ml_L_30 (by rw [hR]; exact ⟨Nat.le_refl _, Nat.le_refl _⟩) hw hA hZ 0 hq rfl rfl rfl hl.1 (lv_room (Nat.le_of_ble_eq_true rfl)) dL_job_5 ⟨by rw [hR]; exact Nat.le_refl _, by rw [hR]; exact Nat.le_refl _⟩ [] ⟨0, 10, 13, 25⟩ [⟨0, 10, 17, 13⟩] (by rw [htab]; rfl) (fun z9 hz9 => by cases hz9) (by decide) (by decide) cl_L_25 (hZ.2.1 _ (List.mem_of_getElem? (i := 5) rfl)) (fun q9 H locs hw => ?_)
  refine lv_astore (lv' := [(4, .ref q9), (0, .ref b0), (1, .int (iI v1)), (2, .int (iI v2)), (3, .ref ao)]) hx hb dL_job_13 hl (by decide) rfl (fun ls hl => ?_)
  refine q_iconst hx hb dL_job_15 ?_
  exact hret () H locs 16 ls trivial hw dL_job_16
theorem c_L_job_x2 (v1 : Int) (v2 : Int) (hq : W0[0]? = some (b0, .inr (6, fs))) (hT : qT l (ZY z) D (tyG cI cB cZ cS cJ) yX6_job cX6_job 3 (Option.some FieldType.int) fr lo (.ref b0 :: [.int (iI v1), .int (iI v2)]) W0 EIA) : qH l (ZY z) D (tyG cI cB cZ cS cJ) yL_job (.codeWith yL_job cL_job 5 (some .int) [(0, 10, 13, 25), (0, 10, 17, 13)] :: gW) (fr + 1) (8 + (3 + 11) + lo) 1 6 [.ref b0, .int (iI v1), .int (iI v2), .ref ao] (W0 ++ [outC cJ ao f]) (fun _ : Unit => True) (fun _ => some (.int (iI 2))) (fun _ => W0 ++ [outC cJ ao f]) := by
  refine qH_enterW (val := fun _ => iI 2) (by decide) (Nat.le_of_ble_eq_true rfl) (fun u hu => ⟨rfl, rfl⟩) (fun p e R s m args below meth c Q ls A X hR hA hw hZ hl htab hret => ?_)
  obtain ⟨hx, hb, hml, hown, hts, hK⟩ := X
  have hl : lv_has ls 5 [(0, .ref b0), (1, .int (iI v1)), (2, .int (iI v2)), (3, .ref ao)] := hl
  refine lv_aload_n hx hb dL_job_0 rfl (lv_at hl 3 rfl) ?_
  refine q_iconst hx hb dL_job_1 ?_
  refine lv_aload_n hx hb dL_job_2 rfl (lv_at hl 0 rfl) ?_
  refine lv_iload_n hx hb dL_job_3 rfl (lv_at hl 1 rfl) ?_
  refine lv_iload_n hx hb dL_job_4 rfl (lv_at hl 2 rfl) ?_
  refine q_callT (As := [.int (iI v1), .int (iI v2)]) (rest := [.int (iI 0), .ref ao]) (zy_ok z) hx hb hml hown hts hK hT yi_X6_job ml_L_30 (by rw [hR]; exact ⟨Nat.le_refl _, Nat.le_refl _⟩) hw hA hZ 0 hq rfl rfl rfl hl.1 (lv_room (Nat.le_of_ble_eq_true rfl)) dL_job_5 ⟨by rw [hR]; exact Nat.le_refl _, by rw [hR]; exact Nat.le_refl _⟩ [⟨0, 10, 13, 25⟩] ⟨0, 10, 17, 13⟩ [] (by rw [htab]; rfl) (fun z9 hz9 => by cases List.mem_singleton.mp hz9; exact ⟨by decide, _, cl_L_25, hZ.2.2.1⟩) (by decide) (by decide) cl_L_13 (hZ.2.1 _ (List.mem_of_getElem? (i := 3) rfl)) (fun q9 H locs hw => ?_)
  refine lv_astore (lv' := [(4, .ref q9), (0, .ref b0), (1, .int (iI v1)), (2, .int (iI v2)), (3, .ref ao)]) hx hb dL_job_17 hl (by decide) rfl (fun ls hl => ?_)
  refine q_iconst hx hb dL_job_19 ?_
  exact hret () H locs 20 ls trivial hw dL_job_20
theorem cw_L_isHalf : Cond.codeWith yL_isHalf cL_isHalf 4 (some .int) [(0, 16, 19, 25)] ∈ gW := gW_mem 827 (by decide +kernel) (by decide +kernel)
theorem c_L_isHalf {S : Type} {P : S → Prop} {val : S → Int} {W1 : S → va_W} (v1 : Int) (hq : W0[0]? = some (b0, .inr (6, fs))) (hbo : ∀ u, P u → val u = 0 ∨ val u = 1) (hM : qH l (ZY z) D (tyG cI cB cZ cS cJ) yX6_isHalf (.code yX6_isHalf cX6_isHalf 2 (Option.some FieldType.boolean) :: gW) fr lo 0 0 (.ref b0 :: [.int (iI v1)]) W0 P (fun u => some (.int (iI (val u)))) W1) : qH l (ZY z) D (tyG cI cB cZ cS cJ) yL_isHalf (.codeWith yL_isHalf cL_isHalf 4 (some .int) [(0, 16, 19, 25)] :: gW) (fr + 1) (8 + (2 + 11) + lo) 0 0 [.ref b0, .int (iI v1), .ref ao] (W0 ++ [outC cJ ao f]) P (fun _ => some (.int (iI 0))) (fun u => W1 u ++ [outC cJ ao (vp_updL f 0 (iI (val u)).toInt64)]) := by
  refine qH_enterW (val := fun _ => iI 0) (by decide) (Nat.le_of_ble_eq_true rfl) (fun u hu => ⟨rfl, rfl⟩) (fun p e R s m args below meth c Q ls A X hR hA hw hZ hl htab hret => ?_)
  obtain ⟨hx, hb, hml, hown, hts, hK⟩ := X
  have hl : lv_has ls 4 [(0, .ref b0), (1, .int (iI v1)), (2, .ref ao)] := hl
  refine lv_aload_n hx hb dL_isHalf_0 rfl (lv_at hl 2 rfl) ?_
  refine q_iconst hx hb dL_isHalf_1 ?_
  refine lv_aload_n hx hb dL_isHalf_2 rfl (lv_at hl 0 rfl) ?_
  refine lv_iload_n hx hb dL_isHalf_3 rfl (lv_at hl 1 rfl) ?_
  refine q_callH (As := [.int (iI v1)]) (rest := [.int (iI 0), .ref ao]) (zy_ok z) hx hb hml hown hts hK hM yi_X6_isHalf ml_L_33 (by rw [hR]; exact ⟨Nat.le_refl _, Nat.le_refl _⟩) hw hA hZ 0 hq rfl rfl rfl hl.1 (lv_room (Nat.le_of_ble_eq_true rfl)) dL_isHalf_4 ⟨by rw [hR]; exact Nat.zero_le _, by rw [hR]; exact Nat.zero_le _⟩ (fun u H locs hPu hw => ?_)
  rcases hbo u hPu with hv | hv
  · refine q_if_eq (tgt := 14) hx hb dL_isHalf_7 (by decide) (by omega) (fun _ => ?_) (fun c9 => absurd hv c9)
    refine lv_lconst (v := 0) hx hb dL_isHalf_14 rfl ?_
    have hx0 : (0 : Int64) = (iI (val u)).toInt64 := by rw [hv]; exact l64_0.symm
    rw [hx0]
    refine q_last hx hb hK hw (W1 u).length 4 (get_last _ _) rfl in_0 dL_isHalf_15 (fun H locs hw => ?_)
    rw [set_last] at hw
    refine lv_goto (tgt := 22) hx hb dL_isHalf_16 (by decide) ?_
    refine q_iconst hx hb dL_isHalf_22 ?_
    exact hret u H locs 23 ls hPu hw dL_isHalf_23
  · refine q_if_eq (tgt := 14) hx hb dL_isHalf_7 (by decide) (by omega) (fun c9 => absurd (hv.symm.trans c9) (by decide)) (fun _ => ?_)
    refine lv_lconst (v := 1) hx hb dL_isHalf_10 rfl ?_
    refine lv_goto (tgt := 15) hx hb dL_isHalf_11 (by decide) ?_
    have hx0 : (1 : Int64) = (iI (val u)).toInt64 := by rw [hv]; exact l64_1.symm
    rw [hx0]
    refine q_last hx hb hK hw (W1 u).length 4 (get_last _ _) rfl in_0 dL_isHalf_15 (fun H locs hw => ?_)
    rw [set_last] at hw
    refine lv_goto (tgt := 22) hx hb dL_isHalf_16 (by decide) ?_
    refine q_iconst hx hb dL_isHalf_22 ?_
    exact hret u H locs 23 ls hPu hw dL_isHalf_23
theorem c_L_isHalf_x1 (v1 : Int) (hq : W0[0]? = some (b0, .inr (6, fs))) (hT : qT l (ZY z) D (tyG cI cB cZ cS cJ) yX6_isHalf cX6_isHalf 2 (Option.some FieldType.boolean) fr lo (.ref b0 :: [.int (iI v1)]) W0 EIO) : qH l (ZY z) D (tyG cI cB cZ cS cJ) yL_isHalf (.codeWith yL_isHalf cL_isHalf 4 (some .int) [(0, 16, 19, 25)] :: gW) (fr + 1) (8 + (2 + 11) + lo) 1 6 [.ref b0, .int (iI v1), .ref ao] (W0 ++ [outC cJ ao f]) (fun _ : Unit => True) (fun _ => some (.int (iI 1))) (fun _ => W0 ++ [outC cJ ao f]) := by
  refine qH_enterW (val := fun _ => iI 1) (by decide) (Nat.le_of_ble_eq_true rfl) (fun u hu => ⟨rfl, rfl⟩) (fun p e R s m args below meth c Q ls A X hR hA hw hZ hl htab hret => ?_)
  obtain ⟨hx, hb, hml, hown, hts, hK⟩ := X
  have hl : lv_has ls 4 [(0, .ref b0), (1, .int (iI v1)), (2, .ref ao)] := hl
  refine lv_aload_n hx hb dL_isHalf_0 rfl (lv_at hl 2 rfl) ?_
  refine q_iconst hx hb dL_isHalf_1 ?_
  refine lv_aload_n hx hb dL_isHalf_2 rfl (lv_at hl 0 rfl) ?_
  refine lv_iload_n hx hb dL_isHalf_3 rfl (lv_at hl 1 rfl) ?_
  refine q_callT (As := [.int (iI v1)]) (rest := [.int (iI 0), .ref ao]) (zy_ok z) hx hb hml hown hts hK hT yi_X6_isHalf ml_L_33 (by rw [hR]; exact ⟨Nat.le_refl _, Nat.le_refl _⟩) hw hA hZ 0 hq rfl rfl rfl hl.1 (lv_room (Nat.le_of_ble_eq_true rfl)) dL_isHalf_4 ⟨by rw [hR]; exact Nat.le_refl _, by rw [hR]; exact Nat.le_refl _⟩ [] ⟨0, 16, 19, 25⟩ [] (by rw [htab]; rfl) (fun z9 hz9 => by cases hz9) (by decide) (by decide) cl_L_25 (hZ.2.1 _ (List.mem_of_getElem? (i := 5) rfl)) (fun q9 H locs hw => ?_)
  refine lv_astore_n (lv' := [(3, .ref q9), (0, .ref b0), (1, .int (iI v1)), (2, .ref ao)]) hx hb dL_isHalf_19 rfl hl (by decide) rfl (fun ls hl => ?_)
  refine q_iconst hx hb dL_isHalf_20 ?_
  exact hret () H locs 21 ls trivial hw dL_isHalf_21
theorem cw_L_next : Cond.codeWith yL_next cL_next 4 (some .int) [(0, 9, 12, 13)] ∈ gW := gW_mem 834 (by decide +kernel) (by decide +kernel)
theorem c_L_next {S : Type} {P : S → Prop} {val : S → Int} {W1 : S → va_W} (v1 : Int) (hq : W0[0]? = some (b0, .inr (6, fs))) (hM : qH l (ZY z) D (tyG cI cB cZ cS cJ) yX6_next (.code yX6_next cX6_next 2 (Option.some FieldType.int) :: gW) fr lo 0 0 (.ref b0 :: [.int (iI v1)]) W0 P (fun u => some (.int (iI (val u)))) W1) : qH l (ZY z) D (tyG cI cB cZ cS cJ) yL_next (.codeWith yL_next cL_next 4 (some .int) [(0, 9, 12, 13)] :: gW) (fr + 1) (8 + (2 + 11) + lo) 0 0 [.ref b0, .int (iI v1), .ref ao] (W0 ++ [outC cJ ao f]) P (fun _ => some (.int (iI 0))) (fun u => W1 u ++ [outC cJ ao (vp_updL f 0 (iI (val u)).toInt64)]) := by
  refine qH_enterW (val := fun _ => iI 0) (by decide) (Nat.le_of_ble_eq_true rfl) (fun u hu => ⟨rfl, rfl⟩) (fun p e R s m args below meth c Q ls A X hR hA hw hZ hl htab hret => ?_)
  obtain ⟨hx, hb, hml, hown, hts, hK⟩ := X
  have hl : lv_has ls 4 [(0, .ref b0), (1, .int (iI v1)), (2, .ref ao)] := hl
  refine lv_aload_n hx hb dL_next_0 rfl (lv_at hl 2 rfl) ?_
  refine q_iconst hx hb dL_next_1 ?_
  refine lv_aload_n hx hb dL_next_2 rfl (lv_at hl 0 rfl) ?_
  refine lv_iload_n hx hb dL_next_3 rfl (lv_at hl 1 rfl) ?_
  refine q_callH (As := [.int (iI v1)]) (rest := [.int (iI 0), .ref ao]) (zy_ok z) hx hb hml hown hts hK hM yi_X6_next ml_L_37 (by rw [hR]; exact ⟨Nat.le_refl _, Nat.le_refl _⟩) hw hA hZ 0 hq rfl rfl rfl hl.1 (lv_room (Nat.le_of_ble_eq_true rfl)) dL_next_4 ⟨by rw [hR]; exact Nat.zero_le _, by rw [hR]; exact Nat.zero_le _⟩ (fun u H locs hPu hw => ?_)
  refine lv_i2l hx hb dL_next_7 rfl ?_
  refine q_last hx hb hK hw (W1 u).length 4 (get_last _ _) rfl in_0 dL_next_8 (fun H locs hw => ?_)
  rw [set_last] at hw
  refine lv_goto (tgt := 15) hx hb dL_next_9 (by decide) ?_
  refine q_iconst hx hb dL_next_15 ?_
  exact hret u H locs 16 ls hPu hw dL_next_16
theorem c_L_next_x1 (v1 : Int) (hq : W0[0]? = some (b0, .inr (6, fs))) (hT : qT l (ZY z) D (tyG cI cB cZ cS cJ) yX6_next cX6_next 2 (Option.some FieldType.int) fr lo (.ref b0 :: [.int (iI v1)]) W0 EIA) : qH l (ZY z) D (tyG cI cB cZ cS cJ) yL_next (.codeWith yL_next cL_next 4 (some .int) [(0, 9, 12, 13)] :: gW) (fr + 1) (8 + (2 + 11) + lo) 1 6 [.ref b0, .int (iI v1), .ref ao] (W0 ++ [outC cJ ao f]) (fun _ : Unit => True) (fun _ => some (.int (iI 1))) (fun _ => W0 ++ [outC cJ ao f]) := by
  refine qH_enterW (val := fun _ => iI 1) (by decide) (Nat.le_of_ble_eq_true rfl) (fun u hu => ⟨rfl, rfl⟩) (fun p e R s m args below meth c Q ls A X hR hA hw hZ hl htab hret => ?_)
  obtain ⟨hx, hb, hml, hown, hts, hK⟩ := X
  have hl : lv_has ls 4 [(0, .ref b0), (1, .int (iI v1)), (2, .ref ao)] := hl
  refine lv_aload_n hx hb dL_next_0 rfl (lv_at hl 2 rfl) ?_
  refine q_iconst hx hb dL_next_1 ?_
  refine lv_aload_n hx hb dL_next_2 rfl (lv_at hl 0 rfl) ?_
  refine lv_iload_n hx hb dL_next_3 rfl (lv_at hl 1 rfl) ?_
  refine q_callT (As := [.int (iI v1)]) (rest := [.int (iI 0), .ref ao]) (zy_ok z) hx hb hml hown hts hK hT yi_X6_next ml_L_37 (by rw [hR]; exact ⟨Nat.le_refl _, Nat.le_refl _⟩) hw hA hZ 0 hq rfl rfl rfl hl.1 (lv_room (Nat.le_of_ble_eq_true rfl)) dL_next_4 ⟨by rw [hR]; exact Nat.le_refl _, by rw [hR]; exact Nat.le_refl _⟩ [] ⟨0, 9, 12, 13⟩ [] (by rw [htab]; rfl) (fun z9 hz9 => by cases hz9) (by decide) (by decide) cl_L_13 (hZ.2.1 _ (List.mem_of_getElem? (i := 3) rfl)) (fun q9 H locs hw => ?_)
  refine lv_astore_n (lv' := [(3, .ref q9), (0, .ref b0), (1, .int (iI v1)), (2, .ref ao)]) hx hb dL_next_12 rfl hl (by decide) rfl (fun ls hl => ?_)
  refine q_iconst hx hb dL_next_13 ?_
  exact hret () H locs 14 ls trivial hw dL_next_14
theorem cw_L_ahead : Cond.codeWith yL_ahead cL_ahead 5 (some .int) [(0, 10, 13, 13)] ∈ gW := gW_mem 841 (by decide +kernel) (by decide +kernel)
theorem c_L_ahead {S : Type} {P : S → Prop} {val : S → Int} {W1 : S → va_W} (v1 : Int) (v2 : Int) (hq : W0[0]? = some (b0, .inr (6, fs))) (hM : qH l (ZY z) D (tyG cI cB cZ cS cJ) yX6_ahead (.code yX6_ahead cX6_ahead 3 (Option.some FieldType.int) :: gW) fr lo 0 0 (.ref b0 :: [.int (iI v1), .int (iI v2)]) W0 P (fun u => some (.int (iI (val u)))) W1) : qH l (ZY z) D (tyG cI cB cZ cS cJ) yL_ahead (.codeWith yL_ahead cL_ahead 5 (some .int) [(0, 10, 13, 13)] :: gW) (fr + 1) (8 + (3 + 11) + lo) 0 0 [.ref b0, .int (iI v1), .int (iI v2), .ref ao] (W0 ++ [outC cJ ao f]) P (fun _ => some (.int (iI 0))) (fun u => W1 u ++ [outC cJ ao (vp_updL f 0 (iI (val u)).toInt64)]) := by
  refine qH_enterW (val := fun _ => iI 0) (by decide) (Nat.le_of_ble_eq_true rfl) (fun u hu => ⟨rfl, rfl⟩) (fun p e R s m args below meth c Q ls A X hR hA hw hZ hl htab hret => ?_)
  obtain ⟨hx, hb, hml, hown, hts, hK⟩ := X
  have hl : lv_has ls 5 [(0, .ref b0), (1, .int (iI v1)), (2, .int (iI v2)), (3, .ref ao)] := hl
  refine lv_aload_n hx hb dL_ahead_0 rfl (lv_at hl 3 rfl) ?_
  refine q_iconst hx hb dL_ahead_1 ?_
  refine lv_aload_n hx hb dL_ahead_2 rfl (lv_at hl 0 rfl) ?_
  refine lv_iload_n hx hb dL_ahead_3 rfl (lv_at hl 1 rfl) ?_
  refine lv_iload_n hx hb dL_ahead_4 rfl (lv_at hl 2 rfl) ?_
  refine q_callH (As := [.int (iI v1), .int (iI v2)]) (rest := [.int (iI 0), .ref ao]) (zy_ok z) hx hb hml hown hts hK hM yi_X6_ahead ml_L_40 (by rw [hR]; exact ⟨Nat.le_refl _, Nat.le_refl _⟩) hw hA hZ 0 hq rfl rfl rfl hl.1 (lv_room (Nat.le_of_ble_eq_true rfl)) dL_ahead_5 ⟨by rw [hR]; exact Nat.zero_le _, by rw [hR]; exact Nat.zero_le _⟩ (fun u H locs hPu hw => ?_)
  refine lv_i2l hx hb dL_ahead_8 rfl ?_
  refine q_last hx hb hK hw (W1 u).length 4 (get_last _ _) rfl in_0 dL_ahead_9 (fun H locs hw => ?_)
  rw [set_last] at hw
  refine lv_goto (tgt := 17) hx hb dL_ahead_10 (by decide) ?_
  refine q_iconst hx hb dL_ahead_17 ?_
  exact hret u H locs 18 ls hPu hw dL_ahead_18
theorem c_L_ahead_x1 (v1 : Int) (v2 : Int) (hq : W0[0]? = some (b0, .inr (6, fs))) (hT : qT l (ZY z) D (tyG cI cB cZ cS cJ) yX6_ahead cX6_ahead 3 (Option.some FieldType.int) fr lo (.ref b0 :: [.int (iI v1), .int (iI v2)]) W0 EIA) : qH l (ZY z) D (tyG cI cB cZ cS cJ) yL_ahead (.codeWith yL_ahead cL_ahead 5 (some .int) [(0, 10, 13, 13)] :: gW) (fr + 1) (8 + (3 + 11) + lo) 1 6 [.ref b0, .int (iI v1), .int (iI v2), .ref ao] (W0 ++ [outC cJ ao f]) (fun _ : Unit => True) (fun _ => some (.int (iI 1))) (fun _ => W0 ++ [outC cJ ao f]) := by
  refine qH_enterW (val := fun _ => iI 1) (by decide) (Nat.le_of_ble_eq_true rfl) (fun u hu => ⟨rfl, rfl⟩) (fun p e R s m args below meth c Q ls A X hR hA hw hZ hl htab hret => ?_)
  obtain ⟨hx, hb, hml, hown, hts, hK⟩ := X
  have hl : lv_has ls 5 [(0, .ref b0), (1, .int (iI v1)), (2, .int (iI v2)), (3, .ref ao)] := hl
  refine lv_aload_n hx hb dL_ahead_0 rfl (lv_at hl 3 rfl) ?_
  refine q_iconst hx hb dL_ahead_1 ?_
  refine lv_aload_n hx hb dL_ahead_2 rfl (lv_at hl 0 rfl) ?_
  refine lv_iload_n hx hb dL_ahead_3 rfl (lv_at hl 1 rfl) ?_
  refine lv_iload_n hx hb dL_ahead_4 rfl (lv_at hl 2 rfl) ?_
  refine q_callT (As := [.int (iI v1), .int (iI v2)]) (rest := [.int (iI 0), .ref ao]) (zy_ok z) hx hb hml hown hts hK hT yi_X6_ahead ml_L_40 (by rw [hR]; exact ⟨Nat.le_refl _, Nat.le_refl _⟩) hw hA hZ 0 hq rfl rfl rfl hl.1 (lv_room (Nat.le_of_ble_eq_true rfl)) dL_ahead_5 ⟨by rw [hR]; exact Nat.le_refl _, by rw [hR]; exact Nat.le_refl _⟩ [] ⟨0, 10, 13, 13⟩ [] (by rw [htab]; rfl) (fun z9 hz9 => by cases hz9) (by decide) (by decide) cl_L_13 (hZ.2.1 _ (List.mem_of_getElem? (i := 3) rfl)) (fun q9 H locs hw => ?_)
  refine lv_astore (lv' := [(4, .ref q9), (0, .ref b0), (1, .int (iI v1)), (2, .int (iI v2)), (3, .ref ao)]) hx hb dL_ahead_13 hl (by decide) rfl (fun ls hl => ?_)
  refine q_iconst hx hb dL_ahead_15 ?_
  exact hret () H locs 16 ls trivial hw dL_ahead_16
theorem cw_L_blankFor : Cond.codeWith yL_blankFor cL_blankFor 4 (some .int) [(0, 9, 12, 13)] ∈ gW := gW_mem 849 (by decide +kernel) (by decide +kernel)
theorem c_L_blankFor {S : Type} {P : S → Prop} {val : S → Int} {W1 : S → va_W} (v1 : Int) (hq : W0[0]? = some (b0, .inr (6, fs))) (hM : qH l (ZY z) D (tyG cI cB cZ cS cJ) yX6_blankFor (.code yX6_blankFor cX6_blankFor 6 (Option.some FieldType.int) :: gW) fr lo 0 0 (.ref b0 :: [.int (iI v1)]) W0 P (fun u => some (.int (iI (val u)))) W1) : qH l (ZY z) D (tyG cI cB cZ cS cJ) yL_blankFor (.codeWith yL_blankFor cL_blankFor 4 (some .int) [(0, 9, 12, 13)] :: gW) (fr + 1) (8 + (6 + 11) + lo) 0 0 [.ref b0, .int (iI v1), .ref ao] (W0 ++ [outC cJ ao f]) P (fun _ => some (.int (iI 0))) (fun u => W1 u ++ [outC cJ ao (vp_updL f 0 (iI (val u)).toInt64)]) := by
  refine qH_enterW (val := fun _ => iI 0) (by decide) (Nat.le_of_ble_eq_true rfl) (fun u hu => ⟨rfl, rfl⟩) (fun p e R s m args below meth c Q ls A X hR hA hw hZ hl htab hret => ?_)
  obtain ⟨hx, hb, hml, hown, hts, hK⟩ := X
  have hl : lv_has ls 4 [(0, .ref b0), (1, .int (iI v1)), (2, .ref ao)] := hl
  refine lv_aload_n hx hb dL_blankFor_0 rfl (lv_at hl 2 rfl) ?_
  refine q_iconst hx hb dL_blankFor_1 ?_
  refine lv_aload_n hx hb dL_blankFor_2 rfl (lv_at hl 0 rfl) ?_
  refine lv_iload_n hx hb dL_blankFor_3 rfl (lv_at hl 1 rfl) ?_
  refine q_callH (As := [.int (iI v1)]) (rest := [.int (iI 0), .ref ao]) (zy_ok z) hx hb hml hown hts hK hM yi_X6_blankFor ml_L_43 (by rw [hR]; exact ⟨Nat.le_refl _, Nat.le_refl _⟩) hw hA hZ 0 hq rfl rfl rfl hl.1 (lv_room (Nat.le_of_ble_eq_true rfl)) dL_blankFor_4 ⟨by rw [hR]; exact Nat.zero_le _, by rw [hR]; exact Nat.zero_le _⟩ (fun u H locs hPu hw => ?_)
  refine lv_i2l hx hb dL_blankFor_7 rfl ?_
  refine q_last hx hb hK hw (W1 u).length 4 (get_last _ _) rfl in_0 dL_blankFor_8 (fun H locs hw => ?_)
  rw [set_last] at hw
  refine lv_goto (tgt := 15) hx hb dL_blankFor_9 (by decide) ?_
  refine q_iconst hx hb dL_blankFor_15 ?_
  exact hret u H locs 16 ls hPu hw dL_blankFor_16
theorem c_L_blankFor_x1 (v1 : Int) (hq : W0[0]? = some (b0, .inr (6, fs))) (hT : qT l (ZY z) D (tyG cI cB cZ cS cJ) yX6_blankFor cX6_blankFor 6 (Option.some FieldType.int) fr lo (.ref b0 :: [.int (iI v1)]) W0 EIA) : qH l (ZY z) D (tyG cI cB cZ cS cJ) yL_blankFor (.codeWith yL_blankFor cL_blankFor 4 (some .int) [(0, 9, 12, 13)] :: gW) (fr + 1) (8 + (6 + 11) + lo) 1 6 [.ref b0, .int (iI v1), .ref ao] (W0 ++ [outC cJ ao f]) (fun _ : Unit => True) (fun _ => some (.int (iI 1))) (fun _ => W0 ++ [outC cJ ao f]) := by
  refine qH_enterW (val := fun _ => iI 1) (by decide) (Nat.le_of_ble_eq_true rfl) (fun u hu => ⟨rfl, rfl⟩) (fun p e R s m args below meth c Q ls A X hR hA hw hZ hl htab hret => ?_)
  obtain ⟨hx, hb, hml, hown, hts, hK⟩ := X
  have hl : lv_has ls 4 [(0, .ref b0), (1, .int (iI v1)), (2, .ref ao)] := hl
  refine lv_aload_n hx hb dL_blankFor_0 rfl (lv_at hl 2 rfl) ?_
  refine q_iconst hx hb dL_blankFor_1 ?_
  refine lv_aload_n hx hb dL_blankFor_2 rfl (lv_at hl 0 rfl) ?_
  refine lv_iload_n hx hb dL_blankFor_3 rfl (lv_at hl 1 rfl) ?_
  refine q_callT (As := [.int (iI v1)]) (rest := [.int (iI 0), .ref ao]) (zy_ok z) hx hb hml hown hts hK hT yi_X6_blankFor ml_L_43 (by rw [hR]; exact ⟨Nat.le_refl _, Nat.le_refl _⟩) hw hA hZ 0 hq rfl rfl rfl hl.1 (lv_room (Nat.le_of_ble_eq_true rfl)) dL_blankFor_4 ⟨by rw [hR]; exact Nat.le_refl _, by rw [hR]; exact Nat.le_refl _⟩ [] ⟨0, 9, 12, 13⟩ [] (by rw [htab]; rfl) (fun z9 hz9 => by cases hz9) (by decide) (by decide) cl_L_13 (hZ.2.1 _ (List.mem_of_getElem? (i := 3) rfl)) (fun q9 H locs hw => ?_)
  refine lv_astore_n (lv' := [(3, .ref q9), (0, .ref b0), (1, .int (iI v1)), (2, .ref ao)]) hx hb dL_blankFor_12 rfl hl (by decide) rfl (fun ls hl => ?_)
  refine q_iconst hx hb dL_blankFor_13 ?_
  exact hret () H locs 14 ls trivial hw dL_blankFor_14
theorem cw_L_account : Cond.codeWith yL_account cL_account 4 (some .int) [(0, 9, 12, 13)] ∈ gW := gW_mem 861 (by decide +kernel) (by decide +kernel)
theorem c_L_account {S : Type} {P : S → Prop} {val : S → Int} {W1 : S → va_W} (v1 : Int) (hq : W0[0]? = some (b0, .inr (6, fs))) (hM : qH l (ZY z) D (tyG cI cB cZ cS cJ) yX6_account (.code yX6_account cX6_account 2 (Option.some FieldType.int) :: gW) fr lo 0 0 (.ref b0 :: [.int (iI v1)]) W0 P (fun u => some (.int (iI (val u)))) W1) : qH l (ZY z) D (tyG cI cB cZ cS cJ) yL_account (.codeWith yL_account cL_account 4 (some .int) [(0, 9, 12, 13)] :: gW) (fr + 1) (8 + (2 + 11) + lo) 0 0 [.ref b0, .int (iI v1), .ref ao] (W0 ++ [outC cJ ao f]) P (fun _ => some (.int (iI 0))) (fun u => W1 u ++ [outC cJ ao (vp_updL f 0 (iI (val u)).toInt64)]) := by
  refine qH_enterW (val := fun _ => iI 0) (by decide) (Nat.le_of_ble_eq_true rfl) (fun u hu => ⟨rfl, rfl⟩) (fun p e R s m args below meth c Q ls A X hR hA hw hZ hl htab hret => ?_)
  obtain ⟨hx, hb, hml, hown, hts, hK⟩ := X
  have hl : lv_has ls 4 [(0, .ref b0), (1, .int (iI v1)), (2, .ref ao)] := hl
  refine lv_aload_n hx hb dL_account_0 rfl (lv_at hl 2 rfl) ?_
  refine q_iconst hx hb dL_account_1 ?_
  refine lv_aload_n hx hb dL_account_2 rfl (lv_at hl 0 rfl) ?_
  refine lv_iload_n hx hb dL_account_3 rfl (lv_at hl 1 rfl) ?_
  refine q_callH (As := [.int (iI v1)]) (rest := [.int (iI 0), .ref ao]) (zy_ok z) hx hb hml hown hts hK hM yi_X6_account ml_L_46 (by rw [hR]; exact ⟨Nat.le_refl _, Nat.le_refl _⟩) hw hA hZ 0 hq rfl rfl rfl hl.1 (lv_room (Nat.le_of_ble_eq_true rfl)) dL_account_4 ⟨by rw [hR]; exact Nat.zero_le _, by rw [hR]; exact Nat.zero_le _⟩ (fun u H locs hPu hw => ?_)
  refine lv_i2l hx hb dL_account_7 rfl ?_
  refine q_last hx hb hK hw (W1 u).length 4 (get_last _ _) rfl in_0 dL_account_8 (fun H locs hw => ?_)
  rw [set_last] at hw
  refine lv_goto (tgt := 15) hx hb dL_account_9 (by decide) ?_
  refine q_iconst hx hb dL_account_15 ?_
  exact hret u H locs 16 ls hPu hw dL_account_16
theorem c_L_account_x1 (v1 : Int) (hq : W0[0]? = some (b0, .inr (6, fs))) (hT : qT l (ZY z) D (tyG cI cB cZ cS cJ) yX6_account cX6_account 2 (Option.some FieldType.int) fr lo (.ref b0 :: [.int (iI v1)]) W0 EIA) : qH l (ZY z) D (tyG cI cB cZ cS cJ) yL_account (.codeWith yL_account cL_account 4 (some .int) [(0, 9, 12, 13)] :: gW) (fr + 1) (8 + (2 + 11) + lo) 1 6 [.ref b0, .int (iI v1), .ref ao] (W0 ++ [outC cJ ao f]) (fun _ : Unit => True) (fun _ => some (.int (iI 1))) (fun _ => W0 ++ [outC cJ ao f]) := by
  refine qH_enterW (val := fun _ => iI 1) (by decide) (Nat.le_of_ble_eq_true rfl) (fun u hu => ⟨rfl, rfl⟩) (fun p e R s m args below meth c Q ls A X hR hA hw hZ hl htab hret => ?_)
  obtain ⟨hx, hb, hml, hown, hts, hK⟩ := X
  have hl : lv_has ls 4 [(0, .ref b0), (1, .int (iI v1)), (2, .ref ao)] := hl
  refine lv_aload_n hx hb dL_account_0 rfl (lv_at hl 2 rfl) ?_
  refine q_iconst hx hb dL_account_1 ?_
  refine lv_aload_n hx hb dL_account_2 rfl (lv_at hl 0 rfl) ?_
  refine lv_iload_n hx hb dL_account_3 rfl (lv_at hl 1 rfl) ?_
  refine q_callT (As := [.int (iI v1)]) (rest := [.int (iI 0), .ref ao]) (zy_ok z) hx hb hml hown hts hK hT yi_X6_account ml_L_46 (by rw [hR]; exact ⟨Nat.le_refl _, Nat.le_refl _⟩) hw hA hZ 0 hq rfl rfl rfl hl.1 (lv_room (Nat.le_of_ble_eq_true rfl)) dL_account_4 ⟨by rw [hR]; exact Nat.le_refl _, by rw [hR]; exact Nat.le_refl _⟩ [] ⟨0, 9, 12, 13⟩ [] (by rw [htab]; rfl) (fun z9 hz9 => by cases hz9) (by decide) (by decide) cl_L_13 (hZ.2.1 _ (List.mem_of_getElem? (i := 3) rfl)) (fun q9 H locs hw => ?_)
  refine lv_astore_n (lv' := [(3, .ref q9), (0, .ref b0), (1, .int (iI v1)), (2, .ref ao)]) hx hb dL_account_12 rfl hl (by decide) rfl (fun ls hl => ?_)
  refine q_iconst hx hb dL_account_13 ?_
  exact hret () H locs 14 ls trivial hw dL_account_14
theorem cw_L_sheetsAt : Cond.codeWith yL_sheetsAt cL_sheetsAt 4 (some .int) [(0, 9, 12, 13)] ∈ gW := gW_mem 868 (by decide +kernel) (by decide +kernel)
theorem c_L_sheetsAt {S : Type} {P : S → Prop} {val : S → Int} {W1 : S → va_W} (v1 : Int) (hq : W0[0]? = some (b0, .inr (6, fs))) (hM : qH l (ZY z) D (tyG cI cB cZ cS cJ) yX6_sheetsAt (.code yX6_sheetsAt cX6_sheetsAt 4 (Option.some FieldType.int) :: gW) fr lo 0 0 (.ref b0 :: [.int (iI v1)]) W0 P (fun u => some (.int (iI (val u)))) W1) : qH l (ZY z) D (tyG cI cB cZ cS cJ) yL_sheetsAt (.codeWith yL_sheetsAt cL_sheetsAt 4 (some .int) [(0, 9, 12, 13)] :: gW) (fr + 1) (8 + (4 + 11) + lo) 0 0 [.ref b0, .int (iI v1), .ref ao] (W0 ++ [outC cJ ao f]) P (fun _ => some (.int (iI 0))) (fun u => W1 u ++ [outC cJ ao (vp_updL f 0 (iI (val u)).toInt64)]) := by
  refine qH_enterW (val := fun _ => iI 0) (by decide) (Nat.le_of_ble_eq_true rfl) (fun u hu => ⟨rfl, rfl⟩) (fun p e R s m args below meth c Q ls A X hR hA hw hZ hl htab hret => ?_)
  obtain ⟨hx, hb, hml, hown, hts, hK⟩ := X
  have hl : lv_has ls 4 [(0, .ref b0), (1, .int (iI v1)), (2, .ref ao)] := hl
  refine lv_aload_n hx hb dL_sheetsAt_0 rfl (lv_at hl 2 rfl) ?_
  refine q_iconst hx hb dL_sheetsAt_1 ?_
  refine lv_aload_n hx hb dL_sheetsAt_2 rfl (lv_at hl 0 rfl) ?_
  refine lv_iload_n hx hb dL_sheetsAt_3 rfl (lv_at hl 1 rfl) ?_
  refine q_callH (As := [.int (iI v1)]) (rest := [.int (iI 0), .ref ao]) (zy_ok z) hx hb hml hown hts hK hM yi_X6_sheetsAt ml_L_49 (by rw [hR]; exact ⟨Nat.le_refl _, Nat.le_refl _⟩) hw hA hZ 0 hq rfl rfl rfl hl.1 (lv_room (Nat.le_of_ble_eq_true rfl)) dL_sheetsAt_4 ⟨by rw [hR]; exact Nat.zero_le _, by rw [hR]; exact Nat.zero_le _⟩ (fun u H locs hPu hw => ?_)
  refine lv_i2l hx hb dL_sheetsAt_7 rfl ?_
  refine q_last hx hb hK hw (W1 u).length 4 (get_last _ _) rfl in_0 dL_sheetsAt_8 (fun H locs hw => ?_)
  rw [set_last] at hw
  refine lv_goto (tgt := 15) hx hb dL_sheetsAt_9 (by decide) ?_
  refine q_iconst hx hb dL_sheetsAt_15 ?_
  exact hret u H locs 16 ls hPu hw dL_sheetsAt_16
theorem c_L_sheetsAt_x1 (v1 : Int) (hq : W0[0]? = some (b0, .inr (6, fs))) (hT : qT l (ZY z) D (tyG cI cB cZ cS cJ) yX6_sheetsAt cX6_sheetsAt 4 (Option.some FieldType.int) fr lo (.ref b0 :: [.int (iI v1)]) W0 EIA) : qH l (ZY z) D (tyG cI cB cZ cS cJ) yL_sheetsAt (.codeWith yL_sheetsAt cL_sheetsAt 4 (some .int) [(0, 9, 12, 13)] :: gW) (fr + 1) (8 + (4 + 11) + lo) 1 6 [.ref b0, .int (iI v1), .ref ao] (W0 ++ [outC cJ ao f]) (fun _ : Unit => True) (fun _ => some (.int (iI 1))) (fun _ => W0 ++ [outC cJ ao f]) := by
  refine qH_enterW (val := fun _ => iI 1) (by decide) (Nat.le_of_ble_eq_true rfl) (fun u hu => ⟨rfl, rfl⟩) (fun p e R s m args below meth c Q ls A X hR hA hw hZ hl htab hret => ?_)
  obtain ⟨hx, hb, hml, hown, hts, hK⟩ := X
  have hl : lv_has ls 4 [(0, .ref b0), (1, .int (iI v1)), (2, .ref ao)] := hl
  refine lv_aload_n hx hb dL_sheetsAt_0 rfl (lv_at hl 2 rfl) ?_
  refine q_iconst hx hb dL_sheetsAt_1 ?_
  refine lv_aload_n hx hb dL_sheetsAt_2 rfl (lv_at hl 0 rfl) ?_
  refine lv_iload_n hx hb dL_sheetsAt_3 rfl (lv_at hl 1 rfl) ?_
  refine q_callT (As := [.int (iI v1)]) (rest := [.int (iI 0), .ref ao]) (zy_ok z) hx hb hml hown hts hK hT yi_X6_sheetsAt ml_L_49 (by rw [hR]; exact ⟨Nat.le_refl _, Nat.le_refl _⟩) hw hA hZ 0 hq rfl rfl rfl hl.1 (lv_room (Nat.le_of_ble_eq_true rfl)) dL_sheetsAt_4 ⟨by rw [hR]; exact Nat.le_refl _, by rw [hR]; exact Nat.le_refl _⟩ [] ⟨0, 9, 12, 13⟩ [] (by rw [htab]; rfl) (fun z9 hz9 => by cases hz9) (by decide) (by decide) cl_L_13 (hZ.2.1 _ (List.mem_of_getElem? (i := 3) rfl)) (fun q9 H locs hw => ?_)
  refine lv_astore_n (lv' := [(3, .ref q9), (0, .ref b0), (1, .int (iI v1)), (2, .ref ao)]) hx hb dL_sheetsAt_12 rfl hl (by decide) rfl (fun ls hl => ?_)
  refine q_iconst hx hb dL_sheetsAt_13 ?_
  exact hret () H locs 14 ls trivial hw dL_sheetsAt_14
theorem cw_L_feed : Cond.codeWith yL_feed cL_feed 4 (some .int) [(0, 9, 12, 13), (0, 9, 15, 55)] ∈ gW := gW_mem 876 (by decide +kernel) (by decide +kernel)
theorem c_L_feed {S : Type} {P : S → Prop} {val : S → Int} {W1 : S → va_W} (v1 : Int) (hq : W0[0]? = some (b0, .inr (6, fs))) (hM : qH l (ZY z) D (tyG cI cB cZ cS cJ) yX6_feed (.code yX6_feed cX6_feed 4 (Option.some FieldType.int) :: gW) fr lo 0 0 (.ref b0 :: [.int (iI v1)]) W0 P (fun u => some (.int (iI (val u)))) W1) : qH l (ZY z) D (tyG cI cB cZ cS cJ) yL_feed (.codeWith yL_feed cL_feed 4 (some .int) [(0, 9, 12, 13), (0, 9, 15, 55)] :: gW) (fr + 1) (8 + (4 + 11) + lo) 0 0 [.ref b0, .int (iI v1), .ref ao] (W0 ++ [outC cJ ao f]) P (fun _ => some (.int (iI 0))) (fun u => W1 u ++ [outC cJ ao (vp_updL f 0 (iI (val u)).toInt64)]) := by
  refine qH_enterW (val := fun _ => iI 0) (by decide) (Nat.le_of_ble_eq_true rfl) (fun u hu => ⟨rfl, rfl⟩) (fun p e R s m args below meth c Q ls A X hR hA hw hZ hl htab hret => ?_)
  obtain ⟨hx, hb, hml, hown, hts, hK⟩ := X
  have hl : lv_has ls 4 [(0, .ref b0), (1, .int (iI v1)), (2, .ref ao)] := hl
  refine lv_aload_n hx hb dL_feed_0 rfl (lv_at hl 2 rfl) ?_
  refine q_iconst hx hb dL_feed_1 ?_
  refine lv_aload_n hx hb dL_feed_2 rfl (lv_at hl 0 rfl) ?_
  refine lv_iload_n hx hb dL_feed_3 rfl (lv_at hl 1 rfl) ?_
  refine q_callH (As := [.int (iI v1)]) (rest := [.int (iI 0), .ref ao]) (zy_ok z) hx hb hml hown hts hK hM yi_X6_feed ml_L_52 (by rw [hR]; exact ⟨Nat.le_refl _, Nat.le_refl _⟩) hw hA hZ 0 hq rfl rfl rfl hl.1 (lv_room (Nat.le_of_ble_eq_true rfl)) dL_feed_4 ⟨by rw [hR]; exact Nat.zero_le _, by rw [hR]; exact Nat.zero_le _⟩ (fun u H locs hPu hw => ?_)
  refine lv_i2l hx hb dL_feed_7 rfl ?_
  refine q_last hx hb hK hw (W1 u).length 4 (get_last _ _) rfl in_0 dL_feed_8 (fun H locs hw => ?_)
  rw [set_last] at hw
  refine lv_goto (tgt := 18) hx hb dL_feed_9 (by decide) ?_
  refine q_iconst hx hb dL_feed_18 ?_
  exact hret u H locs 19 ls hPu hw dL_feed_19
theorem c_L_feed_x1 (v1 : Int) (hq : W0[0]? = some (b0, .inr (6, fs))) (hT : qT l (ZY z) D (tyG cI cB cZ cS cJ) yX6_feed cX6_feed 4 (Option.some FieldType.int) fr lo (.ref b0 :: [.int (iI v1)]) W0 EIA) : qH l (ZY z) D (tyG cI cB cZ cS cJ) yL_feed (.codeWith yL_feed cL_feed 4 (some .int) [(0, 9, 12, 13), (0, 9, 15, 55)] :: gW) (fr + 1) (8 + (4 + 11) + lo) 1 6 [.ref b0, .int (iI v1), .ref ao] (W0 ++ [outC cJ ao f]) (fun _ : Unit => True) (fun _ => some (.int (iI 1))) (fun _ => W0 ++ [outC cJ ao f]) := by
  refine qH_enterW (val := fun _ => iI 1) (by decide) (Nat.le_of_ble_eq_true rfl) (fun u hu => ⟨rfl, rfl⟩) (fun p e R s m args below meth c Q ls A X hR hA hw hZ hl htab hret => ?_)
  obtain ⟨hx, hb, hml, hown, hts, hK⟩ := X
  have hl : lv_has ls 4 [(0, .ref b0), (1, .int (iI v1)), (2, .ref ao)] := hl
  refine lv_aload_n hx hb dL_feed_0 rfl (lv_at hl 2 rfl) ?_
  refine q_iconst hx hb dL_feed_1 ?_
  refine lv_aload_n hx hb dL_feed_2 rfl (lv_at hl 0 rfl) ?_
  refine lv_iload_n hx hb dL_feed_3 rfl (lv_at hl 1 rfl) ?_
  refine q_callT (As := [.int (iI v1)]) (rest := [.int (iI 0), .ref ao]) (zy_ok z) hx hb hml hown hts hK hT yi_X6_feed ml_L_52 (by rw [hR]; exact ⟨Nat.le_refl _, Nat.le_refl _⟩) hw hA hZ 0 hq rfl rfl rfl hl.1 (lv_room (Nat.le_of_ble_eq_true rfl)) dL_feed_4 ⟨by rw [hR]; exact Nat.le_refl _, by rw [hR]; exact Nat.le_refl _⟩ [] ⟨0, 9, 12, 13⟩ [⟨0, 9, 15, 55⟩] (by rw [htab]; rfl) (fun z9 hz9 => by cases hz9) (by decide) (by decide) cl_L_13 (hZ.2.1 _ (List.mem_of_getElem? (i := 3) rfl)) (fun q9 H locs hw => ?_)
  refine lv_astore_n (lv' := [(3, .ref q9), (0, .ref b0), (1, .int (iI v1)), (2, .ref ao)]) hx hb dL_feed_12 rfl hl (by decide) rfl (fun ls hl => ?_)
  refine q_iconst hx hb dL_feed_13 ?_
  exact hret () H locs 14 ls trivial hw dL_feed_14
theorem c_L_feed_x2 (v1 : Int) (hq : W0[0]? = some (b0, .inr (6, fs))) (hT : qT l (ZY z) D (tyG cI cB cZ cS cJ) yX6_feed cX6_feed 4 (Option.some FieldType.int) fr lo (.ref b0 :: [.int (iI v1)]) W0 EIS) : qH l (ZY z) D (tyG cI cB cZ cS cJ) yL_feed (.codeWith yL_feed cL_feed 4 (some .int) [(0, 9, 12, 13), (0, 9, 15, 55)] :: gW) (fr + 1) (8 + (4 + 11) + lo) 1 6 [.ref b0, .int (iI v1), .ref ao] (W0 ++ [outC cJ ao f]) (fun _ : Unit => True) (fun _ => some (.int (iI 2))) (fun _ => W0 ++ [outC cJ ao f]) := by
  refine qH_enterW (val := fun _ => iI 2) (by decide) (Nat.le_of_ble_eq_true rfl) (fun u hu => ⟨rfl, rfl⟩) (fun p e R s m args below meth c Q ls A X hR hA hw hZ hl htab hret => ?_)
  obtain ⟨hx, hb, hml, hown, hts, hK⟩ := X
  have hl : lv_has ls 4 [(0, .ref b0), (1, .int (iI v1)), (2, .ref ao)] := hl
  refine lv_aload_n hx hb dL_feed_0 rfl (lv_at hl 2 rfl) ?_
  refine q_iconst hx hb dL_feed_1 ?_
  refine lv_aload_n hx hb dL_feed_2 rfl (lv_at hl 0 rfl) ?_
  refine lv_iload_n hx hb dL_feed_3 rfl (lv_at hl 1 rfl) ?_
  refine q_callT (As := [.int (iI v1)]) (rest := [.int (iI 0), .ref ao]) (zy_ok z) hx hb hml hown hts hK hT yi_X6_feed ml_L_52 (by rw [hR]; exact ⟨Nat.le_refl _, Nat.le_refl _⟩) hw hA hZ 0 hq rfl rfl rfl hl.1 (lv_room (Nat.le_of_ble_eq_true rfl)) dL_feed_4 ⟨by rw [hR]; exact Nat.le_refl _, by rw [hR]; exact Nat.le_refl _⟩ [⟨0, 9, 12, 13⟩] ⟨0, 9, 15, 55⟩ [] (by rw [htab]; rfl) (fun z9 hz9 => by cases List.mem_singleton.mp hz9; exact ⟨by decide, _, cl_L_13, hZ.2.2.2⟩) (by decide) (by decide) cl_L_55 (hZ.2.1 _ (List.mem_of_getElem? (i := 4) rfl)) (fun q9 H locs hw => ?_)
  refine lv_astore_n (lv' := [(3, .ref q9), (0, .ref b0), (1, .int (iI v1)), (2, .ref ao)]) hx hb dL_feed_15 rfl hl (by decide) rfl (fun ls hl => ?_)
  refine q_iconst hx hb dL_feed_16 ?_
  exact hret () H locs 17 ls trivial hw dL_feed_17
theorem cw_L_putBack : Cond.codeWith yL_putBack cL_putBack 3 (some .int) [(0, 8, 11, 55)] ∈ gW := gW_mem 927 (by decide +kernel) (by decide +kernel)
theorem c_L_putBack {S : Type} {P : S → Prop} {val : S → Int} {W1 : S → va_W} (hq : W0[0]? = some (b0, .inr (6, fs))) (hM : qH l (ZY z) D (tyG cI cB cZ cS cJ) yX6_putBack (.code yX6_putBack cX6_putBack 3 (Option.some FieldType.int) :: gW) fr lo 0 0 (.ref b0 :: []) W0 P (fun u => some (.int (iI (val u)))) W1) : qH l (ZY z) D (tyG cI cB cZ cS cJ) yL_putBack (.codeWith yL_putBack cL_putBack 3 (some .int) [(0, 8, 11, 55)] :: gW) (fr + 1) (8 + (3 + 11) + lo) 0 0 [.ref b0, .ref ao] (W0 ++ [outC cJ ao f]) P (fun _ => some (.int (iI 0))) (fun u => W1 u ++ [outC cJ ao (vp_updL f 0 (iI (val u)).toInt64)]) := by
  refine qH_enterW (val := fun _ => iI 0) (by decide) (Nat.le_of_ble_eq_true rfl) (fun u hu => ⟨rfl, rfl⟩) (fun p e R s m args below meth c Q ls A X hR hA hw hZ hl htab hret => ?_)
  obtain ⟨hx, hb, hml, hown, hts, hK⟩ := X
  have hl : lv_has ls 3 [(0, .ref b0), (1, .ref ao)] := hl
  refine lv_aload_n hx hb dL_putBack_0 rfl (lv_at hl 1 rfl) ?_
  refine q_iconst hx hb dL_putBack_1 ?_
  refine lv_aload_n hx hb dL_putBack_2 rfl (lv_at hl 0 rfl) ?_
  refine q_callH (As := []) (rest := [.int (iI 0), .ref ao]) (zy_ok z) hx hb hml hown hts hK hM yi_X6_putBack ml_L_57 (by rw [hR]; exact ⟨Nat.le_refl _, Nat.le_refl _⟩) hw hA hZ 0 hq rfl rfl rfl hl.1 (lv_room (Nat.le_of_ble_eq_true rfl)) dL_putBack_3 ⟨by rw [hR]; exact Nat.zero_le _, by rw [hR]; exact Nat.zero_le _⟩ (fun u H locs hPu hw => ?_)
  refine lv_i2l hx hb dL_putBack_6 rfl ?_
  refine q_last hx hb hK hw (W1 u).length 4 (get_last _ _) rfl in_0 dL_putBack_7 (fun H locs hw => ?_)
  rw [set_last] at hw
  refine lv_goto (tgt := 14) hx hb dL_putBack_8 (by decide) ?_
  refine q_iconst hx hb dL_putBack_14 ?_
  exact hret u H locs 15 ls hPu hw dL_putBack_15
theorem c_L_putBack_x1 (hq : W0[0]? = some (b0, .inr (6, fs))) (hT : qT l (ZY z) D (tyG cI cB cZ cS cJ) yX6_putBack cX6_putBack 3 (Option.some FieldType.int) fr lo (.ref b0 :: []) W0 EIS) : qH l (ZY z) D (tyG cI cB cZ cS cJ) yL_putBack (.codeWith yL_putBack cL_putBack 3 (some .int) [(0, 8, 11, 55)] :: gW) (fr + 1) (8 + (3 + 11) + lo) 1 6 [.ref b0, .ref ao] (W0 ++ [outC cJ ao f]) (fun _ : Unit => True) (fun _ => some (.int (iI 1))) (fun _ => W0 ++ [outC cJ ao f]) := by
  refine qH_enterW (val := fun _ => iI 1) (by decide) (Nat.le_of_ble_eq_true rfl) (fun u hu => ⟨rfl, rfl⟩) (fun p e R s m args below meth c Q ls A X hR hA hw hZ hl htab hret => ?_)
  obtain ⟨hx, hb, hml, hown, hts, hK⟩ := X
  have hl : lv_has ls 3 [(0, .ref b0), (1, .ref ao)] := hl
  refine lv_aload_n hx hb dL_putBack_0 rfl (lv_at hl 1 rfl) ?_
  refine q_iconst hx hb dL_putBack_1 ?_
  refine lv_aload_n hx hb dL_putBack_2 rfl (lv_at hl 0 rfl) ?_
  refine q_callT (As := []) (rest := [.int (iI 0), .ref ao]) (zy_ok z) hx hb hml hown hts hK hT yi_X6_putBack ml_L_57 (by rw [hR]; exact ⟨Nat.le_refl _, Nat.le_refl _⟩) hw hA hZ 0 hq rfl rfl rfl hl.1 (lv_room (Nat.le_of_ble_eq_true rfl)) dL_putBack_3 ⟨by rw [hR]; exact Nat.le_refl _, by rw [hR]; exact Nat.le_refl _⟩ [] ⟨0, 8, 11, 55⟩ [] (by rw [htab]; rfl) (fun z9 hz9 => by cases hz9) (by decide) (by decide) cl_L_55 (hZ.2.1 _ (List.mem_of_getElem? (i := 4) rfl)) (fun q9 H locs hw => ?_)
  refine lv_astore_n (lv' := [(2, .ref q9), (0, .ref b0), (1, .ref ao)]) hx hb dL_putBack_11 rfl hl (by decide) rfl (fun ls hl => ?_)
  refine q_iconst hx hb dL_putBack_12 ?_
  exact hret () H locs 13 ls trivial hw dL_putBack_13
theorem cw_L_remove : Cond.codeWith yL_remove cL_remove 3 (some .int) [(0, 8, 11, 55)] ∈ gW := gW_mem 939 (by decide +kernel) (by decide +kernel)
theorem c_L_remove {S : Type} {P : S → Prop} {val : S → Int} {W1 : S → va_W} (hq : W0[0]? = some (b0, .inr (6, fs))) (hM : qH l (ZY z) D (tyG cI cB cZ cS cJ) yX6_remove (.code yX6_remove cX6_remove 2 (Option.some FieldType.int) :: gW) fr lo 0 0 (.ref b0 :: []) W0 P (fun u => some (.int (iI (val u)))) W1) : qH l (ZY z) D (tyG cI cB cZ cS cJ) yL_remove (.codeWith yL_remove cL_remove 3 (some .int) [(0, 8, 11, 55)] :: gW) (fr + 1) (8 + (2 + 11) + lo) 0 0 [.ref b0, .ref ao] (W0 ++ [outC cJ ao f]) P (fun _ => some (.int (iI 0))) (fun u => W1 u ++ [outC cJ ao (vp_updL f 0 (iI (val u)).toInt64)]) := by
  refine qH_enterW (val := fun _ => iI 0) (by decide) (Nat.le_of_ble_eq_true rfl) (fun u hu => ⟨rfl, rfl⟩) (fun p e R s m args below meth c Q ls A X hR hA hw hZ hl htab hret => ?_)
  obtain ⟨hx, hb, hml, hown, hts, hK⟩ := X
  have hl : lv_has ls 3 [(0, .ref b0), (1, .ref ao)] := hl
  refine lv_aload_n hx hb dL_remove_0 rfl (lv_at hl 1 rfl) ?_
  refine q_iconst hx hb dL_remove_1 ?_
  refine lv_aload_n hx hb dL_remove_2 rfl (lv_at hl 0 rfl) ?_
  refine q_callH (As := []) (rest := [.int (iI 0), .ref ao]) (zy_ok z) hx hb hml hown hts hK hM yi_X6_remove ml_L_61 (by rw [hR]; exact ⟨Nat.le_refl _, Nat.le_refl _⟩) hw hA hZ 0 hq rfl rfl rfl hl.1 (lv_room (Nat.le_of_ble_eq_true rfl)) dL_remove_3 ⟨by rw [hR]; exact Nat.zero_le _, by rw [hR]; exact Nat.zero_le _⟩ (fun u H locs hPu hw => ?_)
  refine lv_i2l hx hb dL_remove_6 rfl ?_
  refine q_last hx hb hK hw (W1 u).length 4 (get_last _ _) rfl in_0 dL_remove_7 (fun H locs hw => ?_)
  rw [set_last] at hw
  refine lv_goto (tgt := 14) hx hb dL_remove_8 (by decide) ?_
  refine q_iconst hx hb dL_remove_14 ?_
  exact hret u H locs 15 ls hPu hw dL_remove_15
theorem c_L_remove_x1 (hq : W0[0]? = some (b0, .inr (6, fs))) (hT : qT l (ZY z) D (tyG cI cB cZ cS cJ) yX6_remove cX6_remove 2 (Option.some FieldType.int) fr lo (.ref b0 :: []) W0 EIS) : qH l (ZY z) D (tyG cI cB cZ cS cJ) yL_remove (.codeWith yL_remove cL_remove 3 (some .int) [(0, 8, 11, 55)] :: gW) (fr + 1) (8 + (2 + 11) + lo) 1 6 [.ref b0, .ref ao] (W0 ++ [outC cJ ao f]) (fun _ : Unit => True) (fun _ => some (.int (iI 1))) (fun _ => W0 ++ [outC cJ ao f]) := by
  refine qH_enterW (val := fun _ => iI 1) (by decide) (Nat.le_of_ble_eq_true rfl) (fun u hu => ⟨rfl, rfl⟩) (fun p e R s m args below meth c Q ls A X hR hA hw hZ hl htab hret => ?_)
  obtain ⟨hx, hb, hml, hown, hts, hK⟩ := X
  have hl : lv_has ls 3 [(0, .ref b0), (1, .ref ao)] := hl
  refine lv_aload_n hx hb dL_remove_0 rfl (lv_at hl 1 rfl) ?_
  refine q_iconst hx hb dL_remove_1 ?_
  refine lv_aload_n hx hb dL_remove_2 rfl (lv_at hl 0 rfl) ?_
  refine q_callT (As := []) (rest := [.int (iI 0), .ref ao]) (zy_ok z) hx hb hml hown hts hK hT yi_X6_remove ml_L_61 (by rw [hR]; exact ⟨Nat.le_refl _, Nat.le_refl _⟩) hw hA hZ 0 hq rfl rfl rfl hl.1 (lv_room (Nat.le_of_ble_eq_true rfl)) dL_remove_3 ⟨by rw [hR]; exact Nat.le_refl _, by rw [hR]; exact Nat.le_refl _⟩ [] ⟨0, 8, 11, 55⟩ [] (by rw [htab]; rfl) (fun z9 hz9 => by cases hz9) (by decide) (by decide) cl_L_55 (hZ.2.1 _ (List.mem_of_getElem? (i := 4) rfl)) (fun q9 H locs hw => ?_)
  refine lv_astore_n (lv' := [(2, .ref q9), (0, .ref b0), (1, .ref ao)]) hx hb dL_remove_11 rfl hl (by decide) rfl (fun ls hl => ?_)
  refine q_iconst hx hb dL_remove_12 ?_
  exact hret () H locs 13 ls trivial hw dL_remove_13
theorem cw_L_accept : Cond.codeWith yL_accept cL_accept 3 (some .int) [(0, 8, 11, 55)] ∈ gW := gW_mem 946 (by decide +kernel) (by decide +kernel)
theorem c_L_accept {S : Type} {P : S → Prop} {val : S → Int} {W1 : S → va_W} (hq : W0[0]? = some (b0, .inr (6, fs))) (hM : qH l (ZY z) D (tyG cI cB cZ cS cJ) yX6_accept (.code yX6_accept cX6_accept 2 (Option.some FieldType.int) :: gW) fr lo 0 0 (.ref b0 :: []) W0 P (fun u => some (.int (iI (val u)))) W1) : qH l (ZY z) D (tyG cI cB cZ cS cJ) yL_accept (.codeWith yL_accept cL_accept 3 (some .int) [(0, 8, 11, 55)] :: gW) (fr + 1) (8 + (2 + 11) + lo) 0 0 [.ref b0, .ref ao] (W0 ++ [outC cJ ao f]) P (fun _ => some (.int (iI 0))) (fun u => W1 u ++ [outC cJ ao (vp_updL f 0 (iI (val u)).toInt64)]) := by
  refine qH_enterW (val := fun _ => iI 0) (by decide) (Nat.le_of_ble_eq_true rfl) (fun u hu => ⟨rfl, rfl⟩) (fun p e R s m args below meth c Q ls A X hR hA hw hZ hl htab hret => ?_)
  obtain ⟨hx, hb, hml, hown, hts, hK⟩ := X
  have hl : lv_has ls 3 [(0, .ref b0), (1, .ref ao)] := hl
  refine lv_aload_n hx hb dL_accept_0 rfl (lv_at hl 1 rfl) ?_
  refine q_iconst hx hb dL_accept_1 ?_
  refine lv_aload_n hx hb dL_accept_2 rfl (lv_at hl 0 rfl) ?_
  refine q_callH (As := []) (rest := [.int (iI 0), .ref ao]) (zy_ok z) hx hb hml hown hts hK hM yi_X6_accept ml_L_64 (by rw [hR]; exact ⟨Nat.le_refl _, Nat.le_refl _⟩) hw hA hZ 0 hq rfl rfl rfl hl.1 (lv_room (Nat.le_of_ble_eq_true rfl)) dL_accept_3 ⟨by rw [hR]; exact Nat.zero_le _, by rw [hR]; exact Nat.zero_le _⟩ (fun u H locs hPu hw => ?_)
  refine lv_i2l hx hb dL_accept_6 rfl ?_
  refine q_last hx hb hK hw (W1 u).length 4 (get_last _ _) rfl in_0 dL_accept_7 (fun H locs hw => ?_)
  rw [set_last] at hw
  refine lv_goto (tgt := 14) hx hb dL_accept_8 (by decide) ?_
  refine q_iconst hx hb dL_accept_14 ?_
  exact hret u H locs 15 ls hPu hw dL_accept_15
theorem c_L_accept_x1 (hq : W0[0]? = some (b0, .inr (6, fs))) (hT : qT l (ZY z) D (tyG cI cB cZ cS cJ) yX6_accept cX6_accept 2 (Option.some FieldType.int) fr lo (.ref b0 :: []) W0 EIS) : qH l (ZY z) D (tyG cI cB cZ cS cJ) yL_accept (.codeWith yL_accept cL_accept 3 (some .int) [(0, 8, 11, 55)] :: gW) (fr + 1) (8 + (2 + 11) + lo) 1 6 [.ref b0, .ref ao] (W0 ++ [outC cJ ao f]) (fun _ : Unit => True) (fun _ => some (.int (iI 1))) (fun _ => W0 ++ [outC cJ ao f]) := by
  refine qH_enterW (val := fun _ => iI 1) (by decide) (Nat.le_of_ble_eq_true rfl) (fun u hu => ⟨rfl, rfl⟩) (fun p e R s m args below meth c Q ls A X hR hA hw hZ hl htab hret => ?_)
  obtain ⟨hx, hb, hml, hown, hts, hK⟩ := X
  have hl : lv_has ls 3 [(0, .ref b0), (1, .ref ao)] := hl
  refine lv_aload_n hx hb dL_accept_0 rfl (lv_at hl 1 rfl) ?_
  refine q_iconst hx hb dL_accept_1 ?_
  refine lv_aload_n hx hb dL_accept_2 rfl (lv_at hl 0 rfl) ?_
  refine q_callT (As := []) (rest := [.int (iI 0), .ref ao]) (zy_ok z) hx hb hml hown hts hK hT yi_X6_accept ml_L_64 (by rw [hR]; exact ⟨Nat.le_refl _, Nat.le_refl _⟩) hw hA hZ 0 hq rfl rfl rfl hl.1 (lv_room (Nat.le_of_ble_eq_true rfl)) dL_accept_3 ⟨by rw [hR]; exact Nat.le_refl _, by rw [hR]; exact Nat.le_refl _⟩ [] ⟨0, 8, 11, 55⟩ [] (by rw [htab]; rfl) (fun z9 hz9 => by cases hz9) (by decide) (by decide) cl_L_55 (hZ.2.1 _ (List.mem_of_getElem? (i := 4) rfl)) (fun q9 H locs hw => ?_)
  refine lv_astore_n (lv' := [(2, .ref q9), (0, .ref b0), (1, .ref ao)]) hx hb dL_accept_11 rfl hl (by decide) rfl (fun ls hl => ?_)
  refine q_iconst hx hb dL_accept_12 ?_
  exact hret () H locs 13 ls trivial hw dL_accept_13
theorem cw_L_endJob : Cond.codeWith yL_endJob cL_endJob 4 (some .int) [(0, 9, 12, 13), (0, 9, 15, 55)] ∈ gW := gW_mem 954 (by decide +kernel) (by decide +kernel)
theorem c_L_endJob {S : Type} {P : S → Prop} {val : S → Int} {W1 : S → va_W} (v1 : Int) (hq : W0[0]? = some (b0, .inr (6, fs))) (hM : qH l (ZY z) D (tyG cI cB cZ cS cJ) yX6_endJob (.code yX6_endJob cX6_endJob 2 (Option.some FieldType.int) :: gW) fr lo 0 0 (.ref b0 :: [.int (iI v1)]) W0 P (fun u => some (.int (iI (val u)))) W1) : qH l (ZY z) D (tyG cI cB cZ cS cJ) yL_endJob (.codeWith yL_endJob cL_endJob 4 (some .int) [(0, 9, 12, 13), (0, 9, 15, 55)] :: gW) (fr + 1) (8 + (2 + 11) + lo) 0 0 [.ref b0, .int (iI v1), .ref ao] (W0 ++ [outC cJ ao f]) P (fun _ => some (.int (iI 0))) (fun u => W1 u ++ [outC cJ ao (vp_updL f 0 (iI (val u)).toInt64)]) := by
  refine qH_enterW (val := fun _ => iI 0) (by decide) (Nat.le_of_ble_eq_true rfl) (fun u hu => ⟨rfl, rfl⟩) (fun p e R s m args below meth c Q ls A X hR hA hw hZ hl htab hret => ?_)
  obtain ⟨hx, hb, hml, hown, hts, hK⟩ := X
  have hl : lv_has ls 4 [(0, .ref b0), (1, .int (iI v1)), (2, .ref ao)] := hl
  refine lv_aload_n hx hb dL_endJob_0 rfl (lv_at hl 2 rfl) ?_
  refine q_iconst hx hb dL_endJob_1 ?_
  refine lv_aload_n hx hb dL_endJob_2 rfl (lv_at hl 0 rfl) ?_
  refine lv_iload_n hx hb dL_endJob_3 rfl (lv_at hl 1 rfl) ?_
  refine q_callH (As := [.int (iI v1)]) (rest := [.int (iI 0), .ref ao]) (zy_ok z) hx hb hml hown hts hK hM yi_X6_endJob ml_L_67 (by rw [hR]; exact ⟨Nat.le_refl _, Nat.le_refl _⟩) hw hA hZ 0 hq rfl rfl rfl hl.1 (lv_room (Nat.le_of_ble_eq_true rfl)) dL_endJob_4 ⟨by rw [hR]; exact Nat.zero_le _, by rw [hR]; exact Nat.zero_le _⟩ (fun u H locs hPu hw => ?_)
  refine lv_i2l hx hb dL_endJob_7 rfl ?_
  refine q_last hx hb hK hw (W1 u).length 4 (get_last _ _) rfl in_0 dL_endJob_8 (fun H locs hw => ?_)
  rw [set_last] at hw
  refine lv_goto (tgt := 18) hx hb dL_endJob_9 (by decide) ?_
  refine q_iconst hx hb dL_endJob_18 ?_
  exact hret u H locs 19 ls hPu hw dL_endJob_19
theorem c_L_endJob_x1 (v1 : Int) (hq : W0[0]? = some (b0, .inr (6, fs))) (hT : qT l (ZY z) D (tyG cI cB cZ cS cJ) yX6_endJob cX6_endJob 2 (Option.some FieldType.int) fr lo (.ref b0 :: [.int (iI v1)]) W0 EIA) : qH l (ZY z) D (tyG cI cB cZ cS cJ) yL_endJob (.codeWith yL_endJob cL_endJob 4 (some .int) [(0, 9, 12, 13), (0, 9, 15, 55)] :: gW) (fr + 1) (8 + (2 + 11) + lo) 1 6 [.ref b0, .int (iI v1), .ref ao] (W0 ++ [outC cJ ao f]) (fun _ : Unit => True) (fun _ => some (.int (iI 1))) (fun _ => W0 ++ [outC cJ ao f]) := by
  refine qH_enterW (val := fun _ => iI 1) (by decide) (Nat.le_of_ble_eq_true rfl) (fun u hu => ⟨rfl, rfl⟩) (fun p e R s m args below meth c Q ls A X hR hA hw hZ hl htab hret => ?_)
  obtain ⟨hx, hb, hml, hown, hts, hK⟩ := X
  have hl : lv_has ls 4 [(0, .ref b0), (1, .int (iI v1)), (2, .ref ao)] := hl
  refine lv_aload_n hx hb dL_endJob_0 rfl (lv_at hl 2 rfl) ?_
  refine q_iconst hx hb dL_endJob_1 ?_
  refine lv_aload_n hx hb dL_endJob_2 rfl (lv_at hl 0 rfl) ?_
  refine lv_iload_n hx hb dL_endJob_3 rfl (lv_at hl 1 rfl) ?_
  refine q_callT (As := [.int (iI v1)]) (rest := [.int (iI 0), .ref ao]) (zy_ok z) hx hb hml hown hts hK hT yi_X6_endJob ml_L_67 (by rw [hR]; exact ⟨Nat.le_refl _, Nat.le_refl _⟩) hw hA hZ 0 hq rfl rfl rfl hl.1 (lv_room (Nat.le_of_ble_eq_true rfl)) dL_endJob_4 ⟨by rw [hR]; exact Nat.le_refl _, by rw [hR]; exact Nat.le_refl _⟩ [] ⟨0, 9, 12, 13⟩ [⟨0, 9, 15, 55⟩] (by rw [htab]; rfl) (fun z9 hz9 => by cases hz9) (by decide) (by decide) cl_L_13 (hZ.2.1 _ (List.mem_of_getElem? (i := 3) rfl)) (fun q9 H locs hw => ?_)
  refine lv_astore_n (lv' := [(3, .ref q9), (0, .ref b0), (1, .int (iI v1)), (2, .ref ao)]) hx hb dL_endJob_12 rfl hl (by decide) rfl (fun ls hl => ?_)
  refine q_iconst hx hb dL_endJob_13 ?_
  exact hret () H locs 14 ls trivial hw dL_endJob_14
theorem c_L_endJob_x2 (v1 : Int) (hq : W0[0]? = some (b0, .inr (6, fs))) (hT : qT l (ZY z) D (tyG cI cB cZ cS cJ) yX6_endJob cX6_endJob 2 (Option.some FieldType.int) fr lo (.ref b0 :: [.int (iI v1)]) W0 EIS) : qH l (ZY z) D (tyG cI cB cZ cS cJ) yL_endJob (.codeWith yL_endJob cL_endJob 4 (some .int) [(0, 9, 12, 13), (0, 9, 15, 55)] :: gW) (fr + 1) (8 + (2 + 11) + lo) 1 6 [.ref b0, .int (iI v1), .ref ao] (W0 ++ [outC cJ ao f]) (fun _ : Unit => True) (fun _ => some (.int (iI 2))) (fun _ => W0 ++ [outC cJ ao f]) := by
  refine qH_enterW (val := fun _ => iI 2) (by decide) (Nat.le_of_ble_eq_true rfl) (fun u hu => ⟨rfl, rfl⟩) (fun p e R s m args below meth c Q ls A X hR hA hw hZ hl htab hret => ?_)
  obtain ⟨hx, hb, hml, hown, hts, hK⟩ := X
  have hl : lv_has ls 4 [(0, .ref b0), (1, .int (iI v1)), (2, .ref ao)] := hl
  refine lv_aload_n hx hb dL_endJob_0 rfl (lv_at hl 2 rfl) ?_
  refine q_iconst hx hb dL_endJob_1 ?_
  refine lv_aload_n hx hb dL_endJob_2 rfl (lv_at hl 0 rfl) ?_
  refine lv_iload_n hx hb dL_endJob_3 rfl (lv_at hl 1 rfl) ?_
  refine q_callT (As := [.int (iI v1)]) (rest := [.int (iI 0), .ref ao]) (zy_ok z) hx hb hml hown hts hK hT yi_X6_endJob ml_L_67 (by rw [hR]; exact ⟨Nat.le_refl _, Nat.le_refl _⟩) hw hA hZ 0 hq rfl rfl rfl hl.1 (lv_room (Nat.le_of_ble_eq_true rfl)) dL_endJob_4 ⟨by rw [hR]; exact Nat.le_refl _, by rw [hR]; exact Nat.le_refl _⟩ [⟨0, 9, 12, 13⟩] ⟨0, 9, 15, 55⟩ [] (by rw [htab]; rfl) (fun z9 hz9 => by cases List.mem_singleton.mp hz9; exact ⟨by decide, _, cl_L_13, hZ.2.2.2⟩) (by decide) (by decide) cl_L_55 (hZ.2.1 _ (List.mem_of_getElem? (i := 4) rfl)) (fun q9 H locs hw => ?_)
  refine lv_astore_n (lv' := [(3, .ref q9), (0, .ref b0), (1, .int (iI v1)), (2, .ref ao)]) hx hb dL_endJob_15 rfl hl (by decide) rfl (fun ls hl => ?_)
  refine q_iconst hx hb dL_endJob_16 ?_
  exact hret () H locs 17 ls trivial hw dL_endJob_17
theorem cw_L_setLimit : Cond.codeWith yL_setLimit cL_setLimit 5 (some .int) [(0, 10, 13, 13)] ∈ gW := gW_mem 963 (by decide +kernel) (by decide +kernel)
theorem c_L_setLimit {S : Type} {P : S → Prop} {val : S → Int} {W1 : S → va_W} (v1 : Int) (v2 : Int) (hq : W0[0]? = some (b0, .inr (6, fs))) (hM : qH l (ZY z) D (tyG cI cB cZ cS cJ) yX6_setLimit (.code yX6_setLimit cX6_setLimit 4 (Option.some FieldType.int) :: gW) fr lo 0 0 (.ref b0 :: [.int (iI v1), .int (iI v2)]) W0 P (fun u => some (.int (iI (val u)))) W1) : qH l (ZY z) D (tyG cI cB cZ cS cJ) yL_setLimit (.codeWith yL_setLimit cL_setLimit 5 (some .int) [(0, 10, 13, 13)] :: gW) (fr + 1) (8 + (4 + 11) + lo) 0 0 [.ref b0, .int (iI v1), .int (iI v2), .ref ao] (W0 ++ [outC cJ ao f]) P (fun _ => some (.int (iI 0))) (fun u => W1 u ++ [outC cJ ao (vp_updL f 0 (iI (val u)).toInt64)]) := by
  refine qH_enterW (val := fun _ => iI 0) (by decide) (Nat.le_of_ble_eq_true rfl) (fun u hu => ⟨rfl, rfl⟩) (fun p e R s m args below meth c Q ls A X hR hA hw hZ hl htab hret => ?_)
  obtain ⟨hx, hb, hml, hown, hts, hK⟩ := X
  have hl : lv_has ls 5 [(0, .ref b0), (1, .int (iI v1)), (2, .int (iI v2)), (3, .ref ao)] := hl
  refine lv_aload_n hx hb dL_setLimit_0 rfl (lv_at hl 3 rfl) ?_
  refine q_iconst hx hb dL_setLimit_1 ?_
  refine lv_aload_n hx hb dL_setLimit_2 rfl (lv_at hl 0 rfl) ?_
  refine lv_iload_n hx hb dL_setLimit_3 rfl (lv_at hl 1 rfl) ?_
  refine lv_iload_n hx hb dL_setLimit_4 rfl (lv_at hl 2 rfl) ?_
  refine q_callH (As := [.int (iI v1), .int (iI v2)]) (rest := [.int (iI 0), .ref ao]) (zy_ok z) hx hb hml hown hts hK hM yi_X6_setLimit ml_L_70 (by rw [hR]; exact ⟨Nat.le_refl _, Nat.le_refl _⟩) hw hA hZ 0 hq rfl rfl rfl hl.1 (lv_room (Nat.le_of_ble_eq_true rfl)) dL_setLimit_5 ⟨by rw [hR]; exact Nat.zero_le _, by rw [hR]; exact Nat.zero_le _⟩ (fun u H locs hPu hw => ?_)
  refine lv_i2l hx hb dL_setLimit_8 rfl ?_
  refine q_last hx hb hK hw (W1 u).length 4 (get_last _ _) rfl in_0 dL_setLimit_9 (fun H locs hw => ?_)
  rw [set_last] at hw
  refine lv_goto (tgt := 17) hx hb dL_setLimit_10 (by decide) ?_
  refine q_iconst hx hb dL_setLimit_17 ?_
  exact hret u H locs 18 ls hPu hw dL_setLimit_18
theorem c_L_setLimit_x1 (v1 : Int) (v2 : Int) (hq : W0[0]? = some (b0, .inr (6, fs))) (hT : qT l (ZY z) D (tyG cI cB cZ cS cJ) yX6_setLimit cX6_setLimit 4 (Option.some FieldType.int) fr lo (.ref b0 :: [.int (iI v1), .int (iI v2)]) W0 EIA) : qH l (ZY z) D (tyG cI cB cZ cS cJ) yL_setLimit (.codeWith yL_setLimit cL_setLimit 5 (some .int) [(0, 10, 13, 13)] :: gW) (fr + 1) (8 + (4 + 11) + lo) 1 6 [.ref b0, .int (iI v1), .int (iI v2), .ref ao] (W0 ++ [outC cJ ao f]) (fun _ : Unit => True) (fun _ => some (.int (iI 1))) (fun _ => W0 ++ [outC cJ ao f]) := by
  refine qH_enterW (val := fun _ => iI 1) (by decide) (Nat.le_of_ble_eq_true rfl) (fun u hu => ⟨rfl, rfl⟩) (fun p e R s m args below meth c Q ls A X hR hA hw hZ hl htab hret => ?_)
  obtain ⟨hx, hb, hml, hown, hts, hK⟩ := X
  have hl : lv_has ls 5 [(0, .ref b0), (1, .int (iI v1)), (2, .int (iI v2)), (3, .ref ao)] := hl
  refine lv_aload_n hx hb dL_setLimit_0 rfl (lv_at hl 3 rfl) ?_
  refine q_iconst hx hb dL_setLimit_1 ?_
  refine lv_aload_n hx hb dL_setLimit_2 rfl (lv_at hl 0 rfl) ?_
  refine lv_iload_n hx hb dL_setLimit_3 rfl (lv_at hl 1 rfl) ?_
  refine lv_iload_n hx hb dL_setLimit_4 rfl (lv_at hl 2 rfl) ?_
  refine q_callT (As := [.int (iI v1), .int (iI v2)]) (rest := [.int (iI 0), .ref ao]) (zy_ok z) hx hb hml hown hts hK hT yi_X6_setLimit ml_L_70 (by rw [hR]; exact ⟨Nat.le_refl _, Nat.le_refl _⟩) hw hA hZ 0 hq rfl rfl rfl hl.1 (lv_room (Nat.le_of_ble_eq_true rfl)) dL_setLimit_5 ⟨by rw [hR]; exact Nat.le_refl _, by rw [hR]; exact Nat.le_refl _⟩ [] ⟨0, 10, 13, 13⟩ [] (by rw [htab]; rfl) (fun z9 hz9 => by cases hz9) (by decide) (by decide) cl_L_13 (hZ.2.1 _ (List.mem_of_getElem? (i := 3) rfl)) (fun q9 H locs hw => ?_)
  refine lv_astore (lv' := [(4, .ref q9), (0, .ref b0), (1, .int (iI v1)), (2, .int (iI v2)), (3, .ref ao)]) hx hb dL_setLimit_13 hl (by decide) rfl (fun ls hl => ?_)
  refine q_iconst hx hb dL_setLimit_15 ?_
  exact hret () H locs 16 ls trivial hw dL_setLimit_16
