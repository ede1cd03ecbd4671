abbrev mW (g : Nat → Nat) (cI cB cZ : ClassId) (th len tl ts te tk nu er eo hL hS dp : Int) (bf dr td sa ad hi sl sv tr : Int → Int) : va_W := [((g 0), .inr (7, [.int (iI th), .ref (g 1), .int (iI len), .int (iI tl), .int (iI ts), .int (iI te), .int (iI tk), .int (iI nu), .int (iI er), .int (iI eo), .ref (g 2), .ref (g 3), .int (iI hL), .int (iI hS), .ref (g 4), .ref (g 5), .ref (g 6), .int (iI dp), .ref (g 7), .ref (g 8), .ref (g 9)])), ((g 1), .inl (cB, 700, .inl (ai bf))), ((g 2), .inl (cI, 288, .inl (ai dr))), ((g 3), .inl (cI, 288, .inl (ai td))), ((g 4), .inl (cI, 706, .inl (ai sa))), ((g 5), .inl (cI, 706, .inl (ai ad))), ((g 6), .inl (cI, 7060, .inl (ai hi))), ((g 7), .inl (cI, 1412, .inl (ai sl))), ((g 8), .inl (cZ, 2, .inl (ai sv))), ((g 9), .inl (cI, 5, .inl (ai tr)))]
variable {l : Launch} {D : va_G} {cI cB cZ cS cJ : ClassId} {g : Nat → Nat} {th len tl ts te tk nu er eo hL hS dp : Int} {bf dr td sa ad hi sl sv tr : Int → Int}
set_option maxHeartbeats 4000000 in
set_option maxRecDepth 100000 in
theorem c_X7_within (v : Int) (lo : Int) (hi2 : Int) (hr_v : rg v) (hr_lo : rg lo) (hr_hi2 : rg hi2) : qP l D (tyG cI cB cZ cS cJ) yX7_within cX7_within 3 (Option.some FieldType.boolean) 0 0 [.int (iI v), .int (iI lo), .int (iI hi2)] [] (some (.int (iI (bI (lo ≤ v ∧ v ≤ hi2))))) := by
  refine qP_enter (by decide) (Nat.le_of_ble_eq_true rfl) (nar_z bI_r) (fun p e R s m args below meth c Q ls X hR hP hl hret => ?_)
  obtain ⟨hx, hb, hml, hown, hts, hK⟩ := X
  have hl : lv_has ls 3 [(0, .int (iI v)), (1, .int (iI lo)), (2, .int (iI hi2))] := hl
  refine lv_iload_n hx hb dX7_within_0 rfl (lv_at hl 0 rfl) ?_
  refine lv_iload_n hx hb dX7_within_1 rfl (lv_at hl 1 rfl) ?_
  refine q_icmp_lt (tgt := 14) hx hb dX7_within_2 (by decide) (by omega) (fun c_2 => ?_) (fun c_2 => ?_)
  · refine q_iconst hx hb dX7_within_14 ?_
    exact q_ret (hret 15 ls dX7_within_15) (by first | exact (bI_t ⟨by omega, by omega⟩).symm | exact (bI_f (by omega)).symm)
  · refine lv_iload_n hx hb dX7_within_5 rfl (lv_at hl 0 rfl) ?_
    refine lv_iload_n hx hb dX7_within_6 rfl (lv_at hl 2 rfl) ?_
    refine q_icmp_gt (tgt := 14) hx hb dX7_within_7 (by decide) (by omega) (fun c_7 => ?_) (fun c_7 => ?_)
    · refine q_iconst hx hb dX7_within_14 ?_
      exact q_ret (hret 15 ls dX7_within_15) (by first | exact (bI_t ⟨by omega, by omega⟩).symm | exact (bI_f (by omega)).symm)
    · refine q_iconst hx hb dX7_within_10 ?_
      refine lv_goto (tgt := 15) hx hb dX7_within_11 (by decide) ?_
      exact q_ret (hret 15 ls dX7_within_15) (by first | exact (bI_t ⟨by omega, by omega⟩).symm | exact (bI_f (by omega)).symm)

set_option maxHeartbeats 4000000 in
set_option maxRecDepth 100000 in
theorem c_X7_of (sh : Int) : qP l D (tyG cI cB cZ cS cJ) yX7_of cX7_of 1 (Option.some FieldType.int) 0 0 [.int (iI sh)] [] (some (.int (iI (26 + 4 * sh)))) := by
  refine qP_enter (by decide) (Nat.le_of_ble_eq_true rfl) (nar_i _) (fun p e R s m args below meth c Q ls X hR hP hl hret => ?_)
  obtain ⟨hx, hb, hml, hown, hts, hK⟩ := X
  have hl : lv_has ls 1 [(0, .int (iI sh))] := hl
  refine q_bipush hx hb dX7_of_0 rfl ?_
  refine q_iconst hx hb dX7_of_2 ?_
  refine lv_iload_n hx hb dX7_of_3 rfl (lv_at hl 0 rfl) ?_
  refine q_imul hx hb dX7_of_4 ?_
  refine q_iadd hx hb dX7_of_5 ?_
  exact q_ret (hret 6 ls dX7_of_6) (by first | rfl | omega)

set_option maxHeartbeats 4000000 in
set_option maxRecDepth 100000 in
theorem c_X7_lowest (k : Int) (hr_k : rg k) : qP l D (tyG cI cB cZ cS cJ) yX7_lowest cX7_lowest 1 (Option.some FieldType.int) 0 0 [.int (iI k)] [] (some (.int (iI (if k = 0 then 101 else 0)))) := by
  refine qP_enter (by decide) (Nat.le_of_ble_eq_true rfl) (nar_i _) (fun p e R s m args below meth c Q ls X hR hP hl hret => ?_)
  obtain ⟨hx, hb, hml, hown, hts, hK⟩ := X
  have hl : lv_has ls 1 [(0, .int (iI k))] := hl
  refine lv_iload_n hx hb dX7_lowest_0 rfl (lv_at hl 0 rfl) ?_
  refine q_if_ne (tgt := 9) hx hb dX7_lowest_1 (by decide) (by omega) (fun c_1 => ?_) (fun c_1 => ?_)
  · refine q_iconst hx hb dX7_lowest_9 ?_
    exact q_ret (hret 10 ls dX7_lowest_10) (by first | rw [if_pos (by omega)] | rw [if_neg (by omega)])
  · refine q_bipush hx hb dX7_lowest_4 rfl ?_
    refine lv_goto (tgt := 10) hx hb dX7_lowest_6 (by decide) ?_
    exact q_ret (hret 10 ls dX7_lowest_10) (by first | rw [if_pos (by omega)] | rw [if_neg (by omega)])

set_option maxHeartbeats 4000000 in
set_option maxRecDepth 100000 in
theorem c_X7_highest (k : Int) (hr_k : rg k) : qP l D (tyG cI cB cZ cS cJ) yX7_highest cX7_highest 1 (Option.some FieldType.int) 0 0 [.int (iI k)] [] (some (.int (iI (if k = 0 then 300 else if k = 1 then 200 else if k = 2 then 99 else 1000)))) := by
  refine qP_enter (by decide) (Nat.le_of_ble_eq_true rfl) (nar_i _) (fun p e R s m args below meth c Q ls X hR hP hl hret => ?_)
  obtain ⟨hx, hb, hml, hown, hts, hK⟩ := X
  have hl : lv_has ls 1 [(0, .int (iI k))] := hl
  refine lv_iload_n hx hb dX7_highest_0 rfl (lv_at hl 0 rfl) ?_
  refine q_if_ne (tgt := 10) hx hb dX7_highest_1 (by decide) (by omega) (fun c_1 => ?_) (fun c_1 => ?_)
  · refine lv_iload_n hx hb dX7_highest_10 rfl (lv_at hl 0 rfl) ?_
    refine q_iconst hx hb dX7_highest_11 ?_
    refine q_icmp_ne (tgt := 21) hx hb dX7_highest_12 (by decide) (by omega) (fun c_12 => ?_) (fun c_12 => ?_)
    · refine lv_iload_n hx hb dX7_highest_21 rfl (lv_at hl 0 rfl) ?_
      refine q_iconst hx hb dX7_highest_22 ?_
      refine q_icmp_ne (tgt := 31) hx hb dX7_highest_23 (by decide) (by omega) (fun c_23 => ?_) (fun c_23 => ?_)
      · refine q_sipush hx hb dX7_highest_31 rfl ?_
        exact q_ret (hret 34 ls dX7_highest_34) (by split <;> first | rfl | omega | (split <;> first | rfl | omega | (split <;> first | rfl | omega)))
      · refine q_bipush hx hb dX7_highest_26 rfl ?_
        refine lv_goto (tgt := 34) hx hb dX7_highest_28 (by decide) ?_
        exact q_ret (hret 34 ls dX7_highest_34) (by split <;> first | rfl | omega | (split <;> first | rfl | omega | (split <;> first | rfl | omega)))
    · refine q_sipush hx hb dX7_highest_15 rfl ?_
      refine lv_goto (tgt := 34) hx hb dX7_highest_18 (by decide) ?_
      exact q_ret (hret 34 ls dX7_highest_34) (by split <;> first | rfl | omega | (split <;> first | rfl | omega | (split <;> first | rfl | omega)))
  · refine q_sipush hx hb dX7_highest_4 rfl ?_
    refine lv_goto (tgt := 34) hx hb dX7_highest_7 (by decide) ?_
    exact q_ret (hret 34 ls dX7_highest_34) (by split <;> first | rfl | omega | (split <;> first | rfl | omega | (split <;> first | rfl | omega)))

set_option maxHeartbeats 4000000 in
set_option maxRecDepth 100000 in
theorem c_X7_thrown : qP l D (tyG cI cB cZ cS cJ) yX7_thrown cX7_thrown 1 (Option.some FieldType.int) 0 0 [.ref (g 0)] (mW g cI cB cZ th len tl ts te tk nu er eo hL hS dp bf dr td sa ad hi sl sv tr) (some (.int (iI th))) := by
  refine qP_enter (by decide) (Nat.le_of_ble_eq_true rfl) (nar_i _) (fun p e R s m args below meth c Q ls X hR hP hl hret => ?_)
  obtain ⟨hx, hb, hml, hown, hts, hK⟩ := X
  have hl : lv_has ls 1 [(0, .ref (g 0))] := hl
  refine lv_aload_n hx hb dX7_thrown_0 rfl (lv_at hl 0 rfl) ?_
  refine q_get hx hb hts hown hK hP ci_X7 0 rfl 0 (by decide) fl_X7_45 rfl dX7_thrown_1 ?_
  exact q_ret (hret 4 ls dX7_thrown_4) (by first | rfl | omega)

set_option maxHeartbeats 4000000 in
set_option maxRecDepth 100000 in
theorem c_X7_toldOf (sh : Int) (pt : Int) (h1 : 0 ≤ 8 + 7 * sh + pt) (h2 : 8 + 7 * sh + pt < 288) : qP l D (tyG cI cB cZ cS cJ) yX7_toldOf cX7_toldOf 3 (Option.some FieldType.int) 0 0 [.ref (g 0), .int (iI sh), .int (iI pt)] (mW g cI cB cZ th len tl ts te tk nu er eo hL hS dp bf dr td sa ad hi sl sv tr) (some (.int (iI (td (8 + 7 * sh + pt))))) := by
  refine qP_enter (by decide) (Nat.le_of_ble_eq_true rfl) (nar_i _) (fun p e R s m args below meth c Q ls X hR hP hl hret => ?_)
  obtain ⟨hx, hb, hml, hown, hts, hK⟩ := X
  have hl : lv_has ls 3 [(0, .ref (g 0)), (1, .int (iI sh)), (2, .int (iI pt))] := hl
  refine lv_aload_n hx hb dX7_toldOf_0 rfl (lv_at hl 0 rfl) ?_
  refine q_get hx hb hts hown hK hP ci_X7 0 rfl 11 (by decide) fl_X7_17 rfl dX7_toldOf_1 ?_
  refine q_bipush hx hb dX7_toldOf_4 rfl ?_
  refine q_bipush hx hb dX7_toldOf_6 rfl ?_
  refine lv_iload_n hx hb dX7_toldOf_8 rfl (lv_at hl 1 rfl) ?_
  refine q_imul hx hb dX7_toldOf_9 ?_
  refine q_iadd hx hb dX7_toldOf_10 ?_
  refine lv_iload_n hx hb dX7_toldOf_11 rfl (lv_at hl 2 rfl) ?_
  refine q_iadd hx hb dX7_toldOf_12 ?_
  refine q_iald hx hb hK hP 3 0 rfl rfl (z := (8 + 7 * sh + pt)) (v := (td (8 + 7 * sh + pt))) (by omega) rfl dX7_toldOf_13 ?_
  exact q_ret (hret 14 ls dX7_toldOf_14) (by first | rfl | omega)

set_option maxHeartbeats 4000000 in
set_option maxRecDepth 100000 in
theorem c_X7_sheets : qP l D (tyG cI cB cZ cS cJ) yX7_sheets cX7_sheets 1 (Option.some FieldType.int) 0 0 [.ref (g 0)] (mW g cI cB cZ th len tl ts te tk nu er eo hL hS dp bf dr td sa ad hi sl sv tr) (some (.int (iI (td 2)))) := by
  refine qP_enter (by decide) (Nat.le_of_ble_eq_true rfl) (nar_i _) (fun p e R s m args below meth c Q ls X hR hP hl hret => ?_)
  obtain ⟨hx, hb, hml, hown, hts, hK⟩ := X
  have hl : lv_has ls 1 [(0, .ref (g 0))] := hl
  refine lv_aload_n hx hb dX7_sheets_0 rfl (lv_at hl 0 rfl) ?_
  refine q_get hx hb hts hown hK hP ci_X7 0 rfl 11 (by decide) fl_X7_17 rfl dX7_sheets_1 ?_
  refine q_iconst hx hb dX7_sheets_4 ?_
  refine q_iald hx hb hK hP 3 0 rfl rfl (z := 2) (v := (td 2)) (by omega) rfl dX7_sheets_5 ?_
  exact q_ret (hret 6 ls dX7_sheets_6) (by first | rfl | omega)

set_option maxHeartbeats 4000000 in
set_option maxRecDepth 100000 in
theorem c_X7_isSheet (k : Int) (hr_k : rg k) (h1 : 0 ≤ td 2 ∧ td 2 ≤ 40) : qP l D (tyG cI cB cZ cS cJ) yX7_isSheet cX7_isSheet 2 (Option.some FieldType.boolean) 1 22 [.ref (g 0), .int (iI k)] (mW g cI cB cZ th len tl ts te tk nu er eo hL hS dp bf dr td sa ad hi sl sv tr) (some (.int (iI (bI (0 ≤ k ∧ k ≤ td 2 - 1))))) := by
  refine qP_enter (by decide) (Nat.le_of_ble_eq_true rfl) (nar_z bI_r) (fun p e R s m args below meth c Q ls X hR hP hl hret => ?_)
  obtain ⟨hx, hb, hml, hown, hts, hK⟩ := X
  have hl : lv_has ls 2 [(0, .ref (g 0)), (1, .int (iI k))] := hl
  refine lv_iload_n hx hb dX7_isSheet_0 rfl (lv_at hl 1 rfl) ?_
  refine q_iconst hx hb dX7_isSheet_1 ?_
  refine lv_aload_n hx hb dX7_isSheet_2 rfl (lv_at hl 0 rfl) ?_
  refine q_callP (As := []) (rest := [.int (iI 0), .int (iI k)]) hx hb hml hown hts hK c_X7_sheets yi_X7_sheets ml_X7_164 (by rw [hR]; decide) hP 0 rfl rfl rfl rfl hl.1 (lv_room (Nat.le_of_ble_eq_true rfl)) dX7_isSheet_3 ⟨by rw [hR]; exact Nat.zero_le _, by rw [hR]; exact Nat.zero_le _⟩ ?_
  refine q_iconst hx hb dX7_isSheet_6 ?_
  refine q_isub hx hb dX7_isSheet_7 ?_
  refine q_callPS (As := [.int (iI k), .int (iI 0), .int (iI (td 2 - 1))]) (rest := []) hx hb hml hown hts hK (c_X7_within (k) (0) (td 2 - 1) (by first | omega | assumption) (by first | omega | assumption) (by first | omega | assumption)) yt_X7_within ml_X7_72 (by rw [hR]; decide) (show va_P D vwCl [] _ from fun k q h => by simp at h)  rfl rfl hl.1 (lv_room (Nat.le_of_ble_eq_true rfl)) dX7_isSheet_8 ⟨by rw [hR]; exact Nat.zero_le _, by rw [hR]; exact Nat.zero_le _⟩ ?_
  exact q_ret (hret 11 ls dX7_isSheet_11) (by first | rfl | omega)

set_option maxHeartbeats 4000000 in
set_option maxRecDepth 100000 in
theorem c_X7_isCode (sh : Int) (h1 : 0 ≤ sh) (h2 : sh < 40) (h3 : rg (td (8 + 7 * sh + 5))) : qP l D (tyG cI cB cZ cS cJ) yX7_isCode cX7_isCode 2 (Option.some FieldType.boolean) 1 22 [.ref (g 0), .int (iI sh)] (mW g cI cB cZ th len tl ts te tk nu er eo hL hS dp bf dr td sa ad hi sl sv tr) (some (.int (iI (bI (td (8 + 7 * sh + 5) ≠ -1))))) := by
  refine qP_enter (by decide) (Nat.le_of_ble_eq_true rfl) (nar_z bI_r) (fun p e R s m args below meth c Q ls X hR hP hl hret => ?_)
  obtain ⟨hx, hb, hml, hown, hts, hK⟩ := X
  have hl : lv_has ls 2 [(0, .ref (g 0)), (1, .int (iI sh))] := hl
  refine lv_aload_n hx hb dX7_isCode_0 rfl (lv_at hl 0 rfl) ?_
  refine lv_iload_n hx hb dX7_isCode_1 rfl (lv_at hl 1 rfl) ?_
  refine q_iconst hx hb dX7_isCode_2 ?_
  refine q_callP (As := [.int (iI sh), .int (iI 5)]) (rest := []) hx hb hml hown hts hK (c_X7_toldOf (sh) (5) (by first | omega | assumption) (by first | omega | assumption)) yi_X7_toldOf ml_X7_170 (by rw [hR]; decide) hP 0 rfl rfl rfl rfl hl.1 (lv_room (Nat.le_of_ble_eq_true rfl)) dX7_isCode_3 ⟨by rw [hR]; exact Nat.zero_le _, by rw [hR]; exact Nat.zero_le _⟩ ?_
  refine q_iconst hx hb dX7_isCode_6 ?_
  refine q_icmp_eq (tgt := 14) hx hb dX7_isCode_7 (by decide) (by omega) (fun c_7 => ?_) (fun c_7 => ?_)
  · refine q_iconst hx hb dX7_isCode_14 ?_
    exact q_ret (hret 15 ls dX7_isCode_15) (by first | exact (bI_t (by omega)).symm | exact (bI_f (by omega)).symm)
  · refine q_iconst hx hb dX7_isCode_10 ?_
    refine lv_goto (tgt := 15) hx hb dX7_isCode_11 (by decide) ?_
    exact q_ret (hret 15 ls dX7_isCode_15) (by first | exact (bI_t (by omega)).symm | exact (bI_f (by omega)).symm)

set_option maxHeartbeats 4000000 in
set_option maxRecDepth 100000 in
theorem c_X7_sides : qP l D (tyG cI cB cZ cS cJ) yX7_sides cX7_sides 1 (Option.some FieldType.int) 0 0 [.ref (g 0)] (mW g cI cB cZ th len tl ts te tk nu er eo hL hS dp bf dr td sa ad hi sl sv tr) (some (.int (iI (sa 0 + 1)))) := by
  refine qP_enter (by decide) (Nat.le_of_ble_eq_true rfl) (nar_i _) (fun p e R s m args below meth c Q ls X hR hP hl hret => ?_)
  obtain ⟨hx, hb, hml, hown, hts, hK⟩ := X
  have hl : lv_has ls 1 [(0, .ref (g 0))] := hl
  refine lv_aload_n hx hb dX7_sides_0 rfl (lv_at hl 0 rfl) ?_
  refine q_get hx hb hts hown hK hP ci_X7 0 rfl 14 (by decide) fl_X7_20 rfl dX7_sides_1 ?_
  refine q_iconst hx hb dX7_sides_4 ?_
  refine q_iald hx hb hK hP 4 0 rfl rfl (z := 0) (v := (sa 0)) (by omega) rfl dX7_sides_5 ?_
  refine q_iconst hx hb dX7_sides_6 ?_
  refine q_iadd hx hb dX7_sides_7 ?_
  exact q_ret (hret 8 ls dX7_sides_8) (by first | rfl | omega)
