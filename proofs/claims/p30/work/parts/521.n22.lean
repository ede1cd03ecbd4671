variable {l : Launch} {z : Nat → Nat} {D : va_G} {cI cB cZ cS cJ : ClassId} {T C E : Nat → Int → Int} {x a b ap b2 : Nat → Nat} {lat und pfl pln pkd pst pen per pls pss us f1 f2 f3 : Int} {svd bf y0 y1 y2 y3 y4 y5 y6 y7 : Int → Int}
set_option maxHeartbeats 4000000 in
set_option maxRecDepth 100000 in
theorem c_X6_parse_x (nn : Int) (hst : l.stackTraces = false) (hpf : 0 ≤ pfl ∧ pfl ≤ 700) (hr_nn : rg nn) (hno : ¬ (0 ≤ nn ∧ nn ≤ pfl)) : qT l (ZY z) D (tyG cI cB cZ cS cJ) yX6_parse cX6_parse 3 (Option.some FieldType.int) 6 82 [.ref (x 0), .int (iI nn)] ([o6C x a b ap lat und] ++ [((ap 0), .inr (2, [.ref (ap 1), .int (iI pfl), .ref (b2 0), .int (iI pln), .int (iI pkd), .int (iI pst), .int (iI pen), .int (iI per), .int (iI pls), .int (iI pss)]))]) EIA := by
  refine qT_enter hst (zy_X z) (zy_U z) (by decide +kernel) ini_EIA (by decide) (Nat.le_of_ble_eq_true rfl) ⟨by decide, by decide⟩ (fun p e R s m args below meth c Q ls X hR hP hY hl hth => ?_)
  have hZ := hY.1
  obtain ⟨hx, hb, hml, hown, hts, hK⟩ := X
  have hl : lv_has ls 3 [(0, .ref (x 0)), (1, .int (iI nn))] := hl
  refine lv_iload_n hx hb dX6_parse_0 rfl (lv_at hl 1 rfl) ?_
  refine q_if_lt (tgt := 15) hx hb dX6_parse_1 (by decide) (by omega) (fun c_1 => ?_) (fun c_1 => ?_)
  · have h_lt := hZ.2.2.2.1 _ lt_X6_77
    exact hth 15 ls _ 75 77 79 _ hl.1 cl_X6_75 h_lt at_X6_79 dX6_parse_15 dX6_parse_18 (Or.inl ⟨dX6_parse_19, dX6_parse_21, dX6_parse_24⟩)
  · refine lv_iload_n hx hb dX6_parse_4 rfl (lv_at hl 1 rfl) ?_
    refine lv_aload_n hx hb dX6_parse_5 rfl (lv_at hl 0 rfl) ?_
    refine q_get hx hb hts hown hK hP ci_X6 0 rfl 0 (by decide) fl_X6_12 rfl dX6_parse_6 ?_
    refine q_getN hx hb hts hown hK hP ci_X2 1 rfl 1 (by decide) ((hZ.2.2.2.2.1 _ fn_X6_68).use rfl) (fun _ h => h) rfl dX6_parse_9 ?_
    refine q_icmp_le (tgt := 25) hx hb dX6_parse_12 (by decide) (by omega) (fun c_12 => absurd c_12 (by omega)) (fun c_12 => ?_)
    have h_lt := hZ.2.2.2.1 _ lt_X6_77
    exact hth 15 ls _ 75 77 79 _ hl.1 cl_X6_75 h_lt at_X6_79 dX6_parse_15 dX6_parse_18 (Or.inl ⟨dX6_parse_19, dX6_parse_21, dX6_parse_24⟩)

set_option maxHeartbeats 4000000 in
set_option maxRecDepth 100000 in
theorem c_X6_size_x (w : Int) (hT : WT T) (hC : WC T C) (hst : l.stackTraces = false) (hr_w : rg w) (hno : ¬ (0 ≤ w ∧ w ≤ 11)) : qT l (ZY z) D (tyG cI cB cZ cS cJ) yX6_size cX6_size 2 (Option.some FieldType.int) 6 82 [.ref (x 0), .int (iI w)] ([o6C x a b ap lat und] ++ suW b cI T ++ stW a cI C) EIA := by
  have q_w := hT.1
  have q_c := hC.1
  have q_l := hC.2.1
  refine qT_enter hst (zy_X z) (zy_U z) (by decide +kernel) ini_EIA (by decide) (Nat.le_of_ble_eq_true rfl) ⟨by decide, by decide⟩ (fun p e R s m args below meth c Q ls X hR hP hY hl hth => ?_)
  have hZ := hY.1
  obtain ⟨hx, hb, hml, hown, hts, hK⟩ := X
  have hl : lv_has ls 2 [(0, .ref (x 0)), (1, .int (iI w))] := hl
  refine lv_iload_n hx hb dX6_size_0 rfl (lv_at hl 1 rfl) ?_
  refine q_tabOut (tgt := 169) hx hb dX6_size_1 (by omega) (by omega) (by decide) ?_
  have h_lt := hZ.2.2.2.1 _ lt_X6_128
  exact hth 169 ls _ 75 128 79 _ hl.1 cl_X6_75 h_lt at_X6_79 dX6_size_169 dX6_size_172 (Or.inl ⟨dX6_size_173, dX6_size_175, dX6_size_178⟩)

set_option maxHeartbeats 4000000 in
set_option maxRecDepth 100000 in
theorem c_X6_limit_x (w : Int) (hT : WT T) (hC : WC T C) (hst : l.stackTraces = false) (hr_w : rg w) (hno : ¬ (0 ≤ w ∧ w ≤ 3)) : qT l (ZY z) D (tyG cI cB cZ cS cJ) yX6_limit cX6_limit 2 (Option.some FieldType.int) 6 82 [.ref (x 0), .int (iI w)] ([o6C x a b ap lat und] ++ suW b cI T ++ stW a cI C) EIA := by
  have q_w := hT.1
  have q_c := hC.1
  have q_l := hC.2.1
  refine qT_enter hst (zy_X z) (zy_U z) (by decide +kernel) ini_EIA (by decide) (Nat.le_of_ble_eq_true rfl) ⟨by decide, by decide⟩ (fun p e R s m args below meth c Q ls X hR hP hY hl hth => ?_)
  have hZ := hY.1
  obtain ⟨hx, hb, hml, hown, hts, hK⟩ := X
  have hl : lv_has ls 2 [(0, .ref (x 0)), (1, .int (iI w))] := hl
  refine lv_iload_n hx hb dX6_limit_0 rfl (lv_at hl 1 rfl) ?_
  refine q_if_lt (tgt := 9) hx hb dX6_limit_1 (by decide) (by omega) (fun c_1 => ?_) (fun c_1 => ?_)
  · have h_lt := hZ.2.2.2.1 _ lt_X6_128
    exact hth 9 ls _ 75 128 79 _ hl.1 cl_X6_75 h_lt at_X6_79 dX6_limit_9 dX6_limit_12 (Or.inl ⟨dX6_limit_13, dX6_limit_15, dX6_limit_18⟩)
  · refine lv_iload_n hx hb dX6_limit_4 rfl (lv_at hl 1 rfl) ?_
    refine q_iconst hx hb dX6_limit_5 ?_
    refine q_icmp_lt (tgt := 19) hx hb dX6_limit_6 (by decide) (by omega) (fun c_6 => absurd c_6 (by omega)) (fun c_6 => ?_)
    have h_lt := hZ.2.2.2.1 _ lt_X6_128
    exact hth 9 ls _ 75 128 79 _ hl.1 cl_X6_75 h_lt at_X6_79 dX6_limit_9 dX6_limit_12 (Or.inl ⟨dX6_limit_13, dX6_limit_15, dX6_limit_18⟩)

set_option maxHeartbeats 4000000 in
set_option maxRecDepth 100000 in
theorem c_X6_sheet_x1 (sh : Int) (w : Int) (hT : WT T) (hC : WC T C) (hst : l.stackTraces = false) (hr_sh : rg sh) (hno : ¬ (0 ≤ sh ∧ sh < T 8 0)) : qT l (ZY z) D (tyG cI cB cZ cS cJ) yX6_sheet cX6_sheet 3 (Option.some FieldType.int) 6 82 [.ref (x 0), .int (iI sh), .int (iI w)] ([o6C x a b ap lat und] ++ suW b cI T ++ stW a cI C) EIO := by
  have q_w := hT.1
  have q_c := hC.1
  have q_l := hC.2.1
  refine qT_enter hst (zy_X z) (zy_U z) (by decide +kernel) ini_EIO (by decide) (Nat.le_of_ble_eq_true rfl) ⟨by decide, by decide⟩ (fun p e R s m args below meth c Q ls X hR hP hY hl hth => ?_)
  have hZ := hY.1
  obtain ⟨hx, hb, hml, hown, hts, hK⟩ := X
  have hl : lv_has ls 3 [(0, .ref (x 0)), (1, .int (iI sh)), (2, .int (iI w))] := hl
  refine lv_aload_n hx hb dX6_sheet_0 rfl (lv_at hl 0 rfl) ?_
  refine lv_iload_n hx hb dX6_sheet_1 rfl (lv_at hl 1 rfl) ?_
  refine q_callP (As := [.int (iI sh)]) (rest := []) hx hb hml hown hts hK (c_X6_isSheet (sh) (by first | omega | assumption) (by first | omega | assumption)) yi_X6_isSheet ml_X6_134 (by rw [hR]; decide) (hP.sub [0, 1] rfl) 0 rfl rfl rfl rfl hl.1 (lv_room (Nat.le_of_ble_eq_true rfl)) dX6_sheet_2 ⟨by rw [hR]; exact Nat.zero_le _, by rw [hR]; exact Nat.zero_le _⟩ ?_
  refine q_ifb_ne (tgt := 18) hx hb dX6_sheet_5 (by decide) (fun c_5 => absurd c_5 (by omega)) (fun c_5 => ?_)
  have h_lt := hZ.2.2.2.1 _ lt_X6_140
  exact hth 8 ls _ 138 140 142 _ hl.1 cl_X6_138 h_lt at_X6_142 dX6_sheet_8 dX6_sheet_11 (Or.inl ⟨dX6_sheet_12, dX6_sheet_14, dX6_sheet_17⟩)

set_option maxHeartbeats 4000000 in
set_option maxRecDepth 100000 in
theorem c_X6_sheet_x2 (sh : Int) (w : Int) (hT : WT T) (hC : WC T C) (hst : l.stackTraces = false) (hsh : 0 ≤ sh ∧ sh < T 8 0) (hr_w : rg w) (hno : ¬ (0 ≤ w ∧ w ≤ 7)) : qT l (ZY z) D (tyG cI cB cZ cS cJ) yX6_sheet cX6_sheet 3 (Option.some FieldType.int) 6 82 [.ref (x 0), .int (iI sh), .int (iI w)] ([o6C x a b ap lat und] ++ suW b cI T ++ stW a cI C) EIA := by
  have q_w := hT.1
  have q_c := hC.1
  have q_l := hC.2.1
  refine qT_enter hst (zy_X z) (zy_U z) (by decide +kernel) ini_EIA (by decide) (Nat.le_of_ble_eq_true rfl) ⟨by decide, by decide⟩ (fun p e R s m args below meth c Q ls X hR hP hY hl hth => ?_)
  have hZ := hY.1
  obtain ⟨hx, hb, hml, hown, hts, hK⟩ := X
  have hl : lv_has ls 3 [(0, .ref (x 0)), (1, .int (iI sh)), (2, .int (iI w))] := hl
  refine lv_aload_n hx hb dX6_sheet_0 rfl (lv_at hl 0 rfl) ?_
  refine lv_iload_n hx hb dX6_sheet_1 rfl (lv_at hl 1 rfl) ?_
  refine q_callP (As := [.int (iI sh)]) (rest := []) hx hb hml hown hts hK (c_X6_isSheet (sh) (by first | omega | assumption) (by first | omega | assumption)) yi_X6_isSheet ml_X6_134 (by rw [hR]; decide) (hP.sub [0, 1] rfl) 0 rfl rfl rfl rfl hl.1 (lv_room (Nat.le_of_ble_eq_true rfl)) dX6_sheet_2 ⟨by rw [hR]; exact Nat.zero_le _, by rw [hR]; exact Nat.zero_le _⟩ ?_
  refine q_ifb_ne (tgt := 18) hx hb dX6_sheet_5 (by decide) (fun c_5 => ?_) (fun c_5 => absurd c_5 (by omega))
  refine lv_iload_n hx hb dX6_sheet_18 rfl (lv_at hl 2 rfl) ?_
  refine q_tabOut (tgt := 144) hx hb dX6_sheet_19 (by omega) (by omega) (by decide) ?_
  have h_lt := hZ.2.2.2.1 _ lt_X6_128
  exact hth 144 ls _ 75 128 79 _ hl.1 cl_X6_75 h_lt at_X6_79 dX6_sheet_144 dX6_sheet_147 (Or.inl ⟨dX6_sheet_148, dX6_sheet_150, dX6_sheet_153⟩)

set_option maxHeartbeats 4000000 in
set_option maxRecDepth 100000 in
theorem c_X6_page_x1 (pp : Int) (w : Int) (hT : WT T) (hC : WC T C) (hst : l.stackTraces = false) (hr_pp : rg pp) (hno : ¬ (0 ≤ pp ∧ pp < C 11 3)) : qT l (ZY z) D (tyG cI cB cZ cS cJ) yX6_page cX6_page 3 (Option.some FieldType.int) 6 82 [.ref (x 0), .int (iI pp), .int (iI w)] ([o6C x a b ap lat und] ++ suW b cI T ++ stW a cI C) EIO := by
  have q_w := hT.1
  have q_c := hC.1
  have q_l := hC.2.1
  refine qT_enter hst (zy_X z) (zy_U z) (by decide +kernel) ini_EIO (by decide) (Nat.le_of_ble_eq_true rfl) ⟨by decide, by decide⟩ (fun p e R s m args below meth c Q ls X hR hP hY hl hth => ?_)
  have hZ := hY.1
  obtain ⟨hx, hb, hml, hown, hts, hK⟩ := X
  have hl : lv_has ls 3 [(0, .ref (x 0)), (1, .int (iI pp)), (2, .int (iI w))] := hl
  refine lv_iload_n hx hb dX6_page_0 rfl (lv_at hl 1 rfl) ?_
  refine q_if_lt (tgt := 15) hx hb dX6_page_1 (by decide) (by omega) (fun c_1 => ?_) (fun c_1 => ?_)
  · have h_lt := hZ.2.2.2.1 _ lt_X6_173
    exact hth 15 ls _ 138 173 142 _ hl.1 cl_X6_138 h_lt at_X6_142 dX6_page_15 dX6_page_18 (Or.inl ⟨dX6_page_19, dX6_page_21, dX6_page_24⟩)
  · refine lv_iload_n hx hb dX6_page_4 rfl (lv_at hl 1 rfl) ?_
    refine lv_aload_n hx hb dX6_page_5 rfl (lv_at hl 0 rfl) ?_
    refine q_get hx hb hts hown hK hP ci_X6 0 rfl 2 (by decide) fl_X6_26 rfl dX6_page_6 ?_
    refine q_get hx hb hts hown hK hP ci_X5 10 rfl 14 (by decide) fl_X6_103 rfl dX6_page_9 ?_
    refine q_icmp_lt (tgt := 25) hx hb dX6_page_12 (by decide) (by omega) (fun c_12 => absurd c_12 (by omega)) (fun c_12 => ?_)
    have h_lt := hZ.2.2.2.1 _ lt_X6_173
    exact hth 15 ls _ 138 173 142 _ hl.1 cl_X6_138 h_lt at_X6_142 dX6_page_15 dX6_page_18 (Or.inl ⟨dX6_page_19, dX6_page_21, dX6_page_24⟩)

set_option maxHeartbeats 4000000 in
set_option maxRecDepth 100000 in
theorem c_X6_page_x2 (pp : Int) (w : Int) (hT : WT T) (hC : WC T C) (hst : l.stackTraces = false) (hpp : 0 ≤ pp ∧ pp < C 11 3) (hr_w : rg w) (hno : ¬ (0 ≤ w ∧ w ≤ 2)) : qT l (ZY z) D (tyG cI cB cZ cS cJ) yX6_page cX6_page 3 (Option.some FieldType.int) 6 82 [.ref (x 0), .int (iI pp), .int (iI w)] ([o6C x a b ap lat und] ++ suW b cI T ++ stW a cI C) EIA := by
  have q_w := hT.1
  have q_c := hC.1
  have q_l := hC.2.1
  refine qT_enter hst (zy_X z) (zy_U z) (by decide +kernel) ini_EIA (by decide) (Nat.le_of_ble_eq_true rfl) ⟨by decide, by decide⟩ (fun p e R s m args below meth c Q ls X hR hP hY hl hth => ?_)
  have hZ := hY.1
  obtain ⟨hx, hb, hml, hown, hts, hK⟩ := X
  have hl : lv_has ls 3 [(0, .ref (x 0)), (1, .int (iI pp)), (2, .int (iI w))] := hl
  refine lv_iload_n hx hb dX6_page_0 rfl (lv_at hl 1 rfl) ?_
  refine q_if_lt (tgt := 15) hx hb dX6_page_1 (by decide) (by omega) (fun c_1 => absurd c_1 (by omega)) (fun c_1 => ?_)
  refine lv_iload_n hx hb dX6_page_4 rfl (lv_at hl 1 rfl) ?_
  refine lv_aload_n hx hb dX6_page_5 rfl (lv_at hl 0 rfl) ?_
  refine q_get hx hb hts hown hK hP ci_X6 0 rfl 2 (by decide) fl_X6_26 rfl dX6_page_6 ?_
  refine q_get hx hb hts hown hK hP ci_X5 10 rfl 14 (by decide) fl_X6_103 rfl dX6_page_9 ?_
  refine q_icmp_lt (tgt := 25) hx hb dX6_page_12 (by decide) (by omega) (fun c_12 => ?_) (fun c_12 => absurd c_12 (by omega))
  refine lv_iload_n hx hb dX6_page_25 rfl (lv_at hl 2 rfl) ?_
  refine q_tabOut (tgt := 82) hx hb dX6_page_26 (by omega) (by omega) (by decide) ?_
  have h_lt := hZ.2.2.2.1 _ lt_X6_128
  exact hth 82 ls _ 75 128 79 _ hl.1 cl_X6_75 h_lt at_X6_79 dX6_page_82 dX6_page_85 (Or.inl ⟨dX6_page_86, dX6_page_88, dX6_page_91⟩)

set_option maxHeartbeats 4000000 in
set_option maxRecDepth 100000 in
theorem c_X6_job_x1 (pp : Int) (w : Int) (hT : WT T) (hC : WC T C) (hst : l.stackTraces = false) (hr_pp : rg pp) (hno : ¬ (0 ≤ pp ∧ pp < C 11 4)) : qT l (ZY z) D (tyG cI cB cZ cS cJ) yX6_job cX6_job 3 (Option.some FieldType.int) 6 82 [.ref (x 0), .int (iI pp), .int (iI w)] ([o6C x a b ap lat und] ++ suW b cI T ++ stW a cI C) EIO := by
  have q_w := hT.1
  have q_c := hC.1
  have q_l := hC.2.1
  refine qT_enter hst (zy_X z) (zy_U z) (by decide +kernel) ini_EIO (by decide) (Nat.le_of_ble_eq_true rfl) ⟨by decide, by decide⟩ (fun p e R s m args below meth c Q ls X hR hP hY hl hth => ?_)
  have hZ := hY.1
  obtain ⟨hx, hb, hml, hown, hts, hK⟩ := X
  have hl : lv_has ls 3 [(0, .ref (x 0)), (1, .int (iI pp)), (2, .int (iI w))] := hl
  refine lv_iload_n hx hb dX6_job_0 rfl (lv_at hl 1 rfl) ?_
  refine q_if_lt (tgt := 15) hx hb dX6_job_1 (by decide) (by omega) (fun c_1 => ?_) (fun c_1 => ?_)
  · have h_lt := hZ.2.2.2.1 _ lt_X6_184
    exact hth 15 ls _ 138 184 142 _ hl.1 cl_X6_138 h_lt at_X6_142 dX6_job_15 dX6_job_18 (Or.inl ⟨dX6_job_19, dX6_job_21, dX6_job_24⟩)
  · refine lv_iload_n hx hb dX6_job_4 rfl (lv_at hl 1 rfl) ?_
    refine lv_aload_n hx hb dX6_job_5 rfl (lv_at hl 0 rfl) ?_
    refine q_get hx hb hts hown hK hP ci_X6 0 rfl 2 (by decide) fl_X6_26 rfl dX6_job_6 ?_
    refine q_get hx hb hts hown hK hP ci_X5 10 rfl 15 (by decide) fl_X6_106 rfl dX6_job_9 ?_
    refine q_icmp_lt (tgt := 25) hx hb dX6_job_12 (by decide) (by omega) (fun c_12 => absurd c_12 (by omega)) (fun c_12 => ?_)
    have h_lt := hZ.2.2.2.1 _ lt_X6_184
    exact hth 15 ls _ 138 184 142 _ hl.1 cl_X6_138 h_lt at_X6_142 dX6_job_15 dX6_job_18 (Or.inl ⟨dX6_job_19, dX6_job_21, dX6_job_24⟩)

set_option maxHeartbeats 4000000 in
set_option maxRecDepth 100000 in
theorem c_X6_job_x2 (pp : Int) (w : Int) (hT : WT T) (hC : WC T C) (hst : l.stackTraces = false) (hpp : 0 ≤ pp ∧ pp < C 11 4) (hr_w : rg w) (hno : ¬ (0 ≤ w ∧ w ≤ 3)) : qT l (ZY z) D (tyG cI cB cZ cS cJ) yX6_job cX6_job 3 (Option.some FieldType.int) 6 82 [.ref (x 0), .int (iI pp), .int (iI w)] ([o6C x a b ap lat und] ++ suW b cI T ++ stW a cI C) EIA := by
  have q_w := hT.1
  have q_c := hC.1
  have q_l := hC.2.1
  refine qT_enter hst (zy_X z) (zy_U z) (by decide +kernel) ini_EIA (by decide) (Nat.le_of_ble_eq_true rfl) ⟨by decide, by decide⟩ (fun p e R s m args below meth c Q ls X hR hP hY hl hth => ?_)
  have hZ := hY.1
  obtain ⟨hx, hb, hml, hown, hts, hK⟩ := X
  have hl : lv_has ls 3 [(0, .ref (x 0)), (1, .int (iI pp)), (2, .int (iI w))] := hl
  refine lv_iload_n hx hb dX6_job_0 rfl (lv_at hl 1 rfl) ?_
  refine q_if_lt (tgt := 15) hx hb dX6_job_1 (by decide) (by omega) (fun c_1 => absurd c_1 (by omega)) (fun c_1 => ?_)
  refine lv_iload_n hx hb dX6_job_4 rfl (lv_at hl 1 rfl) ?_
  refine lv_aload_n hx hb dX6_job_5 rfl (lv_at hl 0 rfl) ?_
  refine q_get hx hb hts hown hK hP ci_X6 0 rfl 2 (by decide) fl_X6_26 rfl dX6_job_6 ?_
  refine q_get hx hb hts hown hK hP ci_X5 10 rfl 15 (by decide) fl_X6_106 rfl dX6_job_9 ?_
  refine q_icmp_lt (tgt := 25) hx hb dX6_job_12 (by decide) (by omega) (fun c_12 => ?_) (fun c_12 => absurd c_12 (by omega))
  refine lv_iload_n hx hb dX6_job_25 rfl (lv_at hl 2 rfl) ?_
  refine q_tabOut (tgt := 93) hx hb dX6_job_26 (by omega) (by omega) (by decide) ?_
  have h_lt := hZ.2.2.2.1 _ lt_X6_128
  exact hth 93 ls _ 75 128 79 _ hl.1 cl_X6_75 h_lt at_X6_79 dX6_job_93 dX6_job_96 (Or.inl ⟨dX6_job_97, dX6_job_99, dX6_job_102⟩)


set_option maxHeartbeats 4000000 in
set_option maxRecDepth 100000 in
theorem c_X6_next_x (w : Int) (hT : WT T) (hC : WC T C) (hst : l.stackTraces = false) (hr_w : rg w) (hno : ¬ (0 ≤ w ∧ w ≤ 4)) : qT l (ZY z) D (tyG cI cB cZ cS cJ) yX6_next cX6_next 2 (Option.some FieldType.int) 6 82 [.ref (x 0), .int (iI w)] ([o6C x a b ap lat und] ++ suW b cI T ++ stW a cI C) EIA := by
  have q_w := hT.1
  have q_c := hC.1
  have q_l := hC.2.1
  refine qT_enter hst (zy_X z) (zy_U z) (by decide +kernel) ini_EIA (by decide) (Nat.le_of_ble_eq_true rfl) ⟨by decide, by decide⟩ (fun p e R s m args below meth c Q ls X hR hP hY hl hth => ?_)
  have hZ := hY.1
  obtain ⟨hx, hb, hml, hown, hts, hK⟩ := X
  have hl : lv_has ls 2 [(0, .ref (x 0)), (1, .int (iI w))] := hl
  refine lv_iload_n hx hb dX6_next_0 rfl (lv_at hl 1 rfl) ?_
  refine q_if_lt (tgt := 9) hx hb dX6_next_1 (by decide) (by omega) (fun c_1 => ?_) (fun c_1 => ?_)
  · have h_lt := hZ.2.2.2.1 _ lt_X6_128
    exact hth 9 ls _ 75 128 79 _ hl.1 cl_X6_75 h_lt at_X6_79 dX6_next_9 dX6_next_12 (Or.inl ⟨dX6_next_13, dX6_next_15, dX6_next_18⟩)
  · refine lv_iload_n hx hb dX6_next_4 rfl (lv_at hl 1 rfl) ?_
    refine q_iconst hx hb dX6_next_5 ?_
    refine q_icmp_le (tgt := 19) hx hb dX6_next_6 (by decide) (by omega) (fun c_6 => absurd c_6 (by omega)) (fun c_6 => ?_)
    have h_lt := hZ.2.2.2.1 _ lt_X6_128
    exact hth 9 ls _ 75 128 79 _ hl.1 cl_X6_75 h_lt at_X6_79 dX6_next_9 dX6_next_12 (Or.inl ⟨dX6_next_13, dX6_next_15, dX6_next_18⟩)





set_option maxHeartbeats 4000000 in
set_option maxRecDepth 100000 in
theorem c_X6_sheetsAt_x (w : Int) (hT : WT T) (hC : WC T C) (hst : l.stackTraces = false) (hr_w : rg w) (hno : ¬ (0 ≤ w ∧ w ≤ 6)) : qT l (ZY z) D (tyG cI cB cZ cS cJ) yX6_sheetsAt cX6_sheetsAt 4 (Option.some FieldType.int) 6 82 [.ref (x 0), .int (iI w)] ([o6C x a b ap lat und] ++ suW b cI T ++ stW a cI C) EIA := by
  have q_w := hT.1
  have q_c := hC.1
  have q_l := hC.2.1
  refine qT_enter hst (zy_X z) (zy_U z) (by decide +kernel) ini_EIA (by decide) (Nat.le_of_ble_eq_true rfl) ⟨by decide, by decide⟩ (fun p e R s m args below meth c Q ls X hR hP hY hl hth => ?_)
  have hZ := hY.1
  obtain ⟨hx, hb, hml, hown, hts, hK⟩ := X
  have hl : lv_has ls 4 [(0, .ref (x 0)), (1, .int (iI w))] := hl
  refine lv_iload_n hx hb dX6_sheetsAt_0 rfl (lv_at hl 1 rfl) ?_
  refine q_if_lt (tgt := 10) hx hb dX6_sheetsAt_1 (by decide) (by omega) (fun c_1 => ?_) (fun c_1 => ?_)
  · have h_lt := hZ.2.2.2.1 _ lt_X6_257
    exact hth 10 ls _ 75 257 79 _ hl.1 cl_X6_75 h_lt at_X6_79 dX6_sheetsAt_10 dX6_sheetsAt_13 (Or.inr ⟨dX6_sheetsAt_14, dX6_sheetsAt_17, dX6_sheetsAt_20⟩)
  · refine lv_iload_n hx hb dX6_sheetsAt_4 rfl (lv_at hl 1 rfl) ?_
    refine q_bipush hx hb dX6_sheetsAt_5 rfl ?_
    refine q_icmp_le (tgt := 21) hx hb dX6_sheetsAt_7 (by decide) (by omega) (fun c_7 => absurd c_7 (by omega)) (fun c_7 => ?_)
    have h_lt := hZ.2.2.2.1 _ lt_X6_257
    exact hth 10 ls _ 75 257 79 _ hl.1 cl_X6_75 h_lt at_X6_79 dX6_sheetsAt_10 dX6_sheetsAt_13 (Or.inr ⟨dX6_sheetsAt_14, dX6_sheetsAt_17, dX6_sheetsAt_20⟩)

set_option maxHeartbeats 4000000 in
set_option maxRecDepth 100000 in
theorem c_X6_feed_x1 (n : Int) (hT : WT T) (hC : WC T C) (hst : l.stackTraces = false) (hr_n : rg n) (hno : ¬ (1 ≤ n ∧ n ≤ 40)) : qT l (ZY z) D (tyG cI cB cZ cS cJ) yX6_feed cX6_feed 4 (Option.some FieldType.int) 6 82 [.ref (x 0), .int (iI n)] ([o6C x a b ap lat und] ++ suW b cI T ++ stW a cI C) EIA := by
  have q_w := hT.1
  have q_c := hC.1
  have q_l := hC.2.1
  refine qT_enter hst (zy_X z) (zy_U z) (by decide +kernel) ini_EIA (by decide) (Nat.le_of_ble_eq_true rfl) ⟨by decide, by decide⟩ (fun p e R s m args below meth c Q ls X hR hP hY hl hth => ?_)
  have hZ := hY.1
  obtain ⟨hx, hb, hml, hown, hts, hK⟩ := X
  have hl : lv_has ls 4 [(0, .ref (x 0)), (1, .int (iI n))] := hl
  refine lv_iload_n hx hb dX6_feed_0 rfl (lv_at hl 1 rfl) ?_
  refine q_iconst hx hb dX6_feed_1 ?_
  refine q_icmp_lt (tgt := 11) hx hb dX6_feed_2 (by decide) (by omega) (fun c_2 => ?_) (fun c_2 => ?_)
  · have h_lt := hZ.2.2.2.1 _ lt_X6_262
    exact hth 11 ls _ 75 262 79 _ hl.1 cl_X6_75 h_lt at_X6_79 dX6_feed_11 dX6_feed_14 (Or.inr ⟨dX6_feed_15, dX6_feed_18, dX6_feed_21⟩)
  · refine lv_iload_n hx hb dX6_feed_5 rfl (lv_at hl 1 rfl) ?_
    refine q_bipush hx hb dX6_feed_6 rfl ?_
    refine q_icmp_le (tgt := 22) hx hb dX6_feed_8 (by decide) (by omega) (fun c_8 => absurd c_8 (by omega)) (fun c_8 => ?_)
    have h_lt := hZ.2.2.2.1 _ lt_X6_262
    exact hth 11 ls _ 75 262 79 _ hl.1 cl_X6_75 h_lt at_X6_79 dX6_feed_11 dX6_feed_14 (Or.inr ⟨dX6_feed_15, dX6_feed_18, dX6_feed_21⟩)

set_option maxHeartbeats 4000000 in
set_option maxRecDepth 100000 in
theorem c_X6_feed_x2 (n : Int) (hT : WT T) (hC : WC T C) (hst : l.stackTraces = false) (hn : 1 ≤ n ∧ n ≤ 40) (hs : C 11 2 ≠ 0) : qT l (ZY z) D (tyG cI cB cZ cS cJ) yX6_feed cX6_feed 4 (Option.some FieldType.int) 6 82 [.ref (x 0), .int (iI n)] ([o6C x a b ap lat und] ++ suW b cI T ++ stW a cI C) EIS := by
  have q_w := hT.1
  have q_c := hC.1
  have q_l := hC.2.1
  refine qT_enter hst (zy_X z) (zy_U z) (by decide +kernel) ini_EIS (by decide) (Nat.le_of_ble_eq_true rfl) ⟨by decide, by decide⟩ (fun p e R s m args below meth c Q ls X hR hP hY hl hth => ?_)
  have hZ := hY.1
  obtain ⟨hx, hb, hml, hown, hts, hK⟩ := X
  have hl : lv_has ls 4 [(0, .ref (x 0)), (1, .int (iI n))] := hl
  refine lv_iload_n hx hb dX6_feed_0 rfl (lv_at hl 1 rfl) ?_
  refine q_iconst hx hb dX6_feed_1 ?_
  refine q_icmp_lt (tgt := 11) hx hb dX6_feed_2 (by decide) (by omega) (fun c_2 => absurd c_2 (by omega)) (fun c_2 => ?_)
  refine lv_iload_n hx hb dX6_feed_5 rfl (lv_at hl 1 rfl) ?_
  refine q_bipush hx hb dX6_feed_6 rfl ?_
  refine q_icmp_le (tgt := 22) hx hb dX6_feed_8 (by decide) (by omega) (fun c_8 => ?_) (fun c_8 => absurd c_8 (by omega))
  refine lv_aload_n hx hb dX6_feed_22 rfl (lv_at hl 0 rfl) ?_
  refine q_callP (As := []) (rest := []) hx hb hml hown hts hK (c_X6_isStopped (by first | omega | assumption)) yi_X6_isStopped ml_X6_264 (by rw [hR]; decide) (hP.sub [0, 10] rfl) 0 rfl rfl rfl rfl hl.1 (lv_room (Nat.le_of_ble_eq_true rfl)) dX6_feed_23 ⟨by rw [hR]; exact Nat.zero_le _, by rw [hR]; exact Nat.zero_le _⟩ ?_
  refine q_ifb_eq (tgt := 40) hx hb dX6_feed_26 (by decide) (fun c_26 => absurd c_26 (by omega)) (fun c_26 => ?_)
  have h_lt := hZ.2.2.2.1 _ lt_X6_270
  exact hth 29 ls _ 268 270 272 _ hl.1 cl_X6_268 h_lt at_X6_272 dX6_feed_29 dX6_feed_32 (Or.inr ⟨dX6_feed_33, dX6_feed_36, dX6_feed_39⟩)

set_option maxHeartbeats 4000000 in
set_option maxRecDepth 100000 in
theorem c_X6_putBack_x (hT : WT T) (hC : WC T C) (hst : l.stackTraces = false) (hs : C 11 2 = 0) : qT l (ZY z) D (tyG cI cB cZ cS cJ) yX6_putBack cX6_putBack 3 (Option.some FieldType.int) 6 82 [.ref (x 0)] ([o6C x a b ap lat und] ++ suW b cI T ++ stW a cI C) EIS := by
  have q_w := hT.1
  have q_c := hC.1
  have q_l := hC.2.1
  refine qT_enter hst (zy_X z) (zy_U z) (by decide +kernel) ini_EIS (by decide) (Nat.le_of_ble_eq_true rfl) ⟨by decide, by decide⟩ (fun p e R s m args below meth c Q ls X hR hP hY hl hth => ?_)
  have hZ := hY.1
  obtain ⟨hx, hb, hml, hown, hts, hK⟩ := X
  have hl : lv_has ls 3 [(0, .ref (x 0))] := hl
  refine lv_aload_n hx hb dX6_putBack_0 rfl (lv_at hl 0 rfl) ?_
  refine q_callP (As := []) (rest := []) hx hb hml hown hts hK (c_X6_isStopped (by first | omega | assumption)) yi_X6_isStopped ml_X6_264 (by rw [hR]; decide) (hP.sub [0, 10] rfl) 0 rfl rfl rfl rfl hl.1 (lv_room (Nat.le_of_ble_eq_true rfl)) dX6_putBack_1 ⟨by rw [hR]; exact Nat.zero_le _, by rw [hR]; exact Nat.zero_le _⟩ ?_
  refine q_ifb_ne (tgt := 18) hx hb dX6_putBack_4 (by decide) (fun c_4 => absurd c_4 (by omega)) (fun c_4 => ?_)
  have h_lt := hZ.2.2.2.1 _ lt_X6_279
  exact hth 7 ls _ 268 279 272 _ hl.1 cl_X6_268 h_lt at_X6_272 dX6_putBack_7 dX6_putBack_10 (Or.inr ⟨dX6_putBack_11, dX6_putBack_14, dX6_putBack_17⟩)

set_option maxHeartbeats 4000000 in
set_option maxRecDepth 100000 in
theorem c_X6_remove_x (hT : WT T) (hC : WC T C) (hst : l.stackTraces = false) (hs : C 11 2 = 0) : qT l (ZY z) D (tyG cI cB cZ cS cJ) yX6_remove cX6_remove 2 (Option.some FieldType.int) 6 82 [.ref (x 0)] ([o6C x a b ap lat und] ++ suW b cI T ++ stW a cI C) EIS := by
  have q_w := hT.1
  have q_c := hC.1
  have q_l := hC.2.1
  refine qT_enter hst (zy_X z) (zy_U z) (by decide +kernel) ini_EIS (by decide) (Nat.le_of_ble_eq_true rfl) ⟨by decide, by decide⟩ (fun p e R s m args below meth c Q ls X hR hP hY hl hth => ?_)
  have hZ := hY.1
  obtain ⟨hx, hb, hml, hown, hts, hK⟩ := X
  have hl : lv_has ls 2 [(0, .ref (x 0))] := hl
  refine lv_aload_n hx hb dX6_remove_0 rfl (lv_at hl 0 rfl) ?_
  refine q_callP (As := []) (rest := []) hx hb hml hown hts hK (c_X6_isStopped (by first | omega | assumption)) yi_X6_isStopped ml_X6_264 (by rw [hR]; decide) (hP.sub [0, 10] rfl) 0 rfl rfl rfl rfl hl.1 (lv_room (Nat.le_of_ble_eq_true rfl)) dX6_remove_1 ⟨by rw [hR]; exact Nat.zero_le _, by rw [hR]; exact Nat.zero_le _⟩ ?_
  refine q_ifb_ne (tgt := 18) hx hb dX6_remove_4 (by decide) (fun c_4 => absurd c_4 (by omega)) (fun c_4 => ?_)
  have h_lt := hZ.2.2.2.1 _ lt_X6_279
  exact hth 7 ls _ 268 279 272 _ hl.1 cl_X6_268 h_lt at_X6_272 dX6_remove_7 dX6_remove_10 (Or.inr ⟨dX6_remove_11, dX6_remove_14, dX6_remove_17⟩)

set_option maxHeartbeats 4000000 in
set_option maxRecDepth 100000 in
theorem c_X6_accept_x (hT : WT T) (hC : WC T C) (hst : l.stackTraces = false) (hno : ¬ (C 11 2 ≠ 0 ∧ C 11 2 ≠ 3)) : qT l (ZY z) D (tyG cI cB cZ cS cJ) yX6_accept cX6_accept 2 (Option.some FieldType.int) 6 82 [.ref (x 0)] ([o6C x a b ap lat und] ++ suW b cI T ++ stW a cI C) EIS := by
  have q_w := hT.1
  have q_c := hC.1
  have q_l := hC.2.1
  refine qT_enter hst (zy_X z) (zy_U z) (by decide +kernel) ini_EIS (by decide) (Nat.le_of_ble_eq_true rfl) ⟨by decide, by decide⟩ (fun p e R s m args below meth c Q ls X hR hP hY hl hth => ?_)
  have hZ := hY.1
  obtain ⟨hx, hb, hml, hown, hts, hK⟩ := X
  have hl : lv_has ls 2 [(0, .ref (x 0))] := hl
  refine lv_aload_n hx hb dX6_accept_0 rfl (lv_at hl 0 rfl) ?_
  refine q_callP (As := []) (rest := []) hx hb hml hown hts hK (c_X6_isStopped (by first | omega | assumption)) yi_X6_isStopped ml_X6_264 (by rw [hR]; decide) (hP.sub [0, 10] rfl) 0 rfl rfl rfl rfl hl.1 (lv_room (Nat.le_of_ble_eq_true rfl)) dX6_accept_1 ⟨by rw [hR]; exact Nat.zero_le _, by rw [hR]; exact Nat.zero_le _⟩ ?_
  refine q_ifb_eq (tgt := 18) hx hb dX6_accept_4 (by decide) (fun c_4 => ?_) (fun c_4 => ?_)
  · have h_lt := hZ.2.2.2.1 _ lt_X6_288
    exact hth 18 ls _ 268 288 272 _ hl.1 cl_X6_268 h_lt at_X6_272 dX6_accept_18 dX6_accept_21 (Or.inr ⟨dX6_accept_22, dX6_accept_25, dX6_accept_28⟩)
  · refine lv_aload_n hx hb dX6_accept_7 rfl (lv_at hl 0 rfl) ?_
    refine q_get hx hb hts hown hK hP ci_X6 0 rfl 2 (by decide) fl_X6_26 rfl dX6_accept_8 ?_
    refine q_get hx hb hts hown hK hP ci_X5 10 rfl 13 (by decide) fl_X6_100 rfl dX6_accept_11 ?_
    refine q_iconst hx hb dX6_accept_14 ?_
    refine q_icmp_ne (tgt := 29) hx hb dX6_accept_15 (by decide) (by omega) (fun c_15 => absurd c_15 (by omega)) (fun c_15 => ?_)
    have h_lt := hZ.2.2.2.1 _ lt_X6_288
    exact hth 18 ls _ 268 288 272 _ hl.1 cl_X6_268 h_lt at_X6_272 dX6_accept_18 dX6_accept_21 (Or.inr ⟨dX6_accept_22, dX6_accept_25, dX6_accept_28⟩)




