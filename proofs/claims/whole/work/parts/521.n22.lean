variable {l : Launch} {z : Nat → Nat} {D : va_G} {cI cB cZ cS cJ : ClassId} {T C E : Nat → Int → Int} {x a b ap b2 : Nat → Nat} {lat und pfl pln pkd pst pen per pls pss us f1 f2 f3 : Int} {svd bf y0 y1 y2 y3 y4 y5 y6 y7 : Int → Int}
set_option maxHeartbeats 4000000 in
set_option maxRecDepth 100000 in
theorem c_X6_parse_x (nn : Int) (hst : l.stackTraces = false) (hpf : 0 ≤ pfl ∧ pfl ≤ 700) (hr_nn : rg nn) (hno : ¬ (0 ≤ nn ∧ nn ≤ pfl)) : qT l (ZY z) D (tyG cI cB cZ cS cJ) yX6_parse cX6_parse 3 (Option.some FieldType.int) 6 82 [.ref (x 0), .int (iI nn)] ([o6C x a b ap lat und] ++ [((ap 0), .inr (2, [.ref (ap 1), .int (iI pfl), .ref (b2 0), .int (iI pln), .int (iI pkd), .int (iI pst), .int (iI pen), .int (iI per), .int (iI pls), .int (iI pss)]))]) EIA := by
  refine qT_enter hst (zy_X z) (zy_U z) (by decide +kernel) ini_EIA (by decide) (Nat.le_of_ble_eq_true rfl) ⟨by decide, by decide⟩ (fun p e R s m args below meth c Q ls X hR hP hY hl hth => ?_)
  have hZ := hY.1
  obtain ⟨hx, hb, hml, hown, hts, hK⟩ := X
  have hl : lv_has ls 3 [(0, .ref (x 0)), (1, .int (iI nn))] := hl
  refine lv_iload_n hx hb dX6_parse_0 rfl (lv_at hl 1 rfl) ?_
  refine q_if_lt (tgt := 15) hx hb dX6_parse_1 (by decide) (by omega) (fun c_1 => ?_) (fun c_1 => ?_)
  · have h_lt := hZ.2.2.2.1 _ lt_X6_77
    exact hth 15 ls _ 75 77 79 _ hl.1 cl_X6_75 h_lt at_X6_79 dX6_parse_15 dX6_parse_18 (Or.inl ⟨dX6_parse_19, dX6_parse_21, dX6_parse_24⟩)
  · refine lv_iload_n hx hb dX6_parse_4 rfl (lv_at hl 1 rfl) ?_
    refine lv_aload_n hx hb dX6_parse_5 rfl (lv_at hl 0 rfl) ?_
    refine q_get hx hb hts hown hK hP ci_X6 0 rfl 0 (by decide) fl_X6_12 rfl dX6_parse_6 ?_
    refine q_getN hx hb hts hown hK hP ci_X2 1 rfl 1 (by decide) ((hZ.2.2.2.2.1 _ fn_X6_68).use rfl) (fun _ h => h) rfl dX6_parse_9 ?_
    refine q_icmp_le (tgt := 25) hx hb dX6_parse_12 (by decide) (by omega) (fun c_12 => absurd c_12 (by omega)) (fun c_12 => ?_)
    have h_lt := hZ.2.2.2.1 _ lt_X6_77
    exact hth 15 ls _ 75 77 79 _ hl.1 cl_X6_75 h_lt at_X6_79 dX6_parse_15 dX6_parse_18 (Or.inl ⟨dX6_parse_19, dX6_parse_21, dX6_parse_24⟩)

set_option maxHeartbeats 4000000 in
set_option maxRecDepth 100000 in
theorem c_X6_size_x (w : Int) (hT : WT T) (hC : WC T C) (hst : l.stackTraces = false) (hr_w : rg w) (hno : ¬ (0 ≤ w ∧ w ≤ 11)) : qT l (ZY z) D (tyG cI cB cZ cS cJ) yX6_size cX6_size 2 (Option.some FieldType.int) 6 82 [.ref (x 0), .int (iI w)] ([o6C x a b ap lat und] ++ suW b cI T ++ stW a cI C) EIA := by
  have q_w := hT.1
  have q_c := hC.1
  have q_l := hC.2.1
  refine qT_enter hst (zy_X z) (zy_U z) (by decide +kernel) ini_EIA (by decide) (Nat.le_of_ble_eq_true rfl) ⟨by decide, by decide⟩ (fun p e R s m args below meth c Q ls X hR hP hY hl hth => ?_)
  have hZ := hY.1
  obtain ⟨hx, hb, hml, hown, hts, hK⟩ := X
  have hl : lv_has ls 2 [(0, .ref (x 0)), (1, .int (iI w))] := hl
  refine lv_iload_n hx hb dX6_size_0 rfl (lv_at hl 1 rfl) ?_
  refine q_tabOut (tgt := 169) hx hb dX6_size_1 (by omega) (by omega) (by decide) ?_
  have h_lt := hZ.2.2.2.1 _ lt_X6_128
  exact hth 169 ls _ 75 128 79 _ hl.1 cl_X6_75 h_lt at_X6_79 dX6_size_169 dX6_size_172 (Or.inl ⟨dX6_size_173, dX6_size_175, dX6_size_178⟩)

set_option maxHeartbeats 4000000 in
set_option maxRecDepth 100000 in
theorem c_X6_limit_x (w : Int) (hT : WT T) (hC : WC T C) (hst : l.stackTraces = false) (hr_w : rg w) (hno : ¬ (0 ≤ w ∧ w ≤ 3)) : qT l (ZY z) D (tyG cI cB cZ cS cJ) yX6_limit cX6_limit 2 (Option.some FieldType.int) 6 82 [.ref (x 0), .int (iI w)] ([o6C x a b ap lat und] ++ suW b cI T ++ stW a cI C) EIA := by
  have q_w := hT.1
  have q_c := hC.1
  have q_l := hC.2.1
  refine qT_enter hst (zy_X z) (zy_U z) (by decide +kernel) ini_EIA (by decide) (Nat.le_of_ble_eq_true rfl) ⟨by decide, by decide⟩ (fun p e R s m args below meth c Q ls X hR hP hY hl hth => ?_)
  have hZ := hY.1
  obtain ⟨hx, hb, hml, hown, hts, hK⟩ := X
  have hl : lv_has ls 2 [(0, .ref (x 0)), (1, .int (iI w))] := hl
  refine lv_iload_n hx hb dX6_limit_0 rfl (lv_at hl 1 rfl) ?_
  refine q_if_lt (tgt := 9) hx hb dX6_limit_1 (by decide) (by omega) (fun c_1 => ?_) (fun c_1 => ?_)
  · have h_lt := hZ.2.2.2.1 _ lt_X6_128
    exact hth 9 ls _ 75 128 79 _ hl.1 cl_X6_75 h_lt at_X6_79 dX6_limit_9 dX6_limit_12 (Or.inl ⟨dX6_limit_13, dX6_limit_15, dX6_limit_18⟩)
  · refine lv_iload_n hx hb dX6_limit_4 rfl (lv_at hl 1 rfl) ?_
    refine q_iconst hx hb dX6_limit_5 ?_
    refine q_icmp_lt (tgt := 19) hx hb dX6_limit_6 (by decide) (by omega) (fun c_6 => absurd c_6 (by omega)) (fun c_6 => ?_)
    have h_lt := hZ.2.2.2.1 _ lt_X6_128
    exact hth 9 ls _ 75 128 79 _ hl.1 cl_X6_75 h_lt at_X6_79 dX6_limit_9 dX6_limit_12 (Or.inl ⟨dX6_limit_13, dX6_limit_15, dX6_limit_18⟩)

set_option maxHeartbeats 4000000 in
set_option maxRecDepth 100000 in
theorem c_X6_sheet_x1 (sh : Int) (w : Int) (hT : WT T) (hC : WC T C) (hst : l.stackTraces = false) (hr_sh : rg sh) (hno : ¬ (0 ≤ sh ∧ sh < T 8 0)) : qT l (ZY z) D (tyG cI cB cZ cS cJ) yX6_sheet cX6_sheet 3 (Option.some FieldType.int) 6 82 [.ref (x 0), .int (iI sh), .int (iI w)] ([o6C x a b ap lat und] ++ suW b cI T ++ stW a cI C) EIO := by
  have q_w := hT.1
  have q_c := hC.1
  have q_l := hC.2.1
  refine qT_enter hst (zy_X z) (zy_U z) (by decide +kernel) ini_EIO (by decide) (Nat.le_of_ble_eq_true rfl) ⟨by decide, by decide⟩ (fun p e R s m args below meth c Q ls X hR hP hY hl hth => ?_)
  have hZ := hY.1
  obtain ⟨hx, hb, hml, hown, hts, hK⟩ := X
  have hl : lv_has ls 3 [(0, .ref (x 0)), (1, .int (iI sh)), (2, .int (iI w))] := hl
  refine lv_aload_n hx hb dX6_sheet_0 rfl (lv_at hl 0 rfl) ?_
  refine lv_iload_n hx hb dX6_sheet_1 rfl (lv_at hl 1 rfl) ?_
  refine q_callP (As := [.int (iI sh)]) (rest := []) hx hb hml hown hts hK (c_X6_isSheet (sh) (by first | omega | assumption) (by first | omega | assumption)) yi_X6_isSheet ml_X6_134 (by rw [hR]; decide) (hP.sub [0, 1] rfl) 0 rfl rfl rfl rfl hl.1 (lv_room (Nat.le_of_ble_eq_true rfl)) dX6_sheet_2 ⟨by rw [hR]; exact Nat.zero_le _, by rw [hR]; exact Nat.zero_le _⟩ ?_
  refine q_ifb_ne (tgt := 18) hx hb dX6_sheet_5 (by decide) (fun c_5 => absurd c_5 (by omega)) (fun c_5 => ?_)
  have h_lt := hZ.2.2.2.1 _ lt_X6_140
  exact hth 8 ls _ 138 140 142 _ hl.1 cl_X6_138 h_lt at_X6_142 dX6_sheet_8 dX6_sheet_11 (Or.inl ⟨dX6_sheet_12, dX6_sheet_14, dX6_sheet_17⟩)

set_option maxHeartbeats 4000000 in
set_option maxRecDepth 100000 in
theorem c_X6_sheet_x2 (sh : Int) (w : Int) (hT : WT T) (hC : WC T C) (hst : l.stackTraces = false) (hsh : 0 ≤ sh ∧ sh < T 8 0) (hr_w : rg w) (hno : ¬ (0 ≤ w ∧ w ≤ 7)) : qT l (ZY z) D (tyG cI cB cZ cS cJ) yX6_sheet cX6_sheet 3 (Option.some FieldType.int) 6 82 [.ref (x 0), .int (iI sh), .int (iI w)] ([o6C x a b ap lat und] ++ suW b cI T ++ stW a cI C) EIA := by
  have q_w := hT.1
  have q_c := hC.1
  have q_l := hC.2.1
  refine qT_enter hst (zy_X z) (zy_U z) (by decide +kernel) ini_EIA (by decide) (Nat.le_of_ble_eq_true rfl) ⟨by decide, by decide⟩ (fun p e R s m args below meth c Q ls X hR hP hY hl hth => ?_)
  have hZ := hY.1
  obtain ⟨hx, hb, hml, hown, hts, hK⟩ := X
  have hl : lv_has ls 3 [(0, .ref (x 0)), (1, .int (iI sh)), (2, .int (iI w))] := hl
  refine lv_aload_n hx hb dX6_sheet_0 rfl (lv_at hl 0 rfl) ?_
  refine lv_iload_n hx hb dX6_sheet_1 rfl (lv_at hl 1 rfl) ?_
  refine q_callP (As := [.int (iI sh)]) (rest := []) hx hb hml hown hts hK (c_X6_isSheet (sh) (by first | omega | assumption) (by first | omega | assumption)) yi_X6_isSheet ml_X6_134 (by rw [hR]; decide) (hP.sub [0, 1] rfl) 0 rfl rfl rfl rfl hl.1 (lv_room (Nat.le_of_ble_eq_true rfl)) dX6_sheet_2 ⟨by rw [hR]; exact Nat.zero_le _, by rw [hR]; exact Nat.zero_le _⟩ ?_
  refine q_ifb_ne (tgt := 18) hx hb dX6_sheet_5 (by decide) (fun c_5 => ?_) (fun c_5 => absurd c_5 (by omega))
  refine lv_iload_n hx hb dX6_sheet_18 rfl (lv_at hl 2 rfl) ?_
  refine q_tabOut (tgt := 144) hx hb dX6_sheet_19 (by omega) (by omega) (by decide) ?_
  have h_lt := hZ.2.2.2.1 _ lt_X6_128
  exact hth 144 ls _ 75 128 79 _ hl.1 cl_X6_75 h_lt at_X6_79 dX6_sheet_144 dX6_sheet_147 (Or.inl ⟨dX6_sheet_148, dX6_sheet_150, dX6_sheet_153⟩)

set_option maxHeartbeats 4000000 in
set_option maxRecDepth 100000 in
theorem c_X6_page_x1 (pp : Int) (w : Int) (hT : WT T) (hC : WC T C) (hst : l.stackTraces = false) (hr_pp : rg pp) (hno : ¬ (0 ≤ pp ∧ pp < C 11 3)) : qT l (ZY z) D (tyG cI cB cZ cS cJ) yX6_page cX6_page 3 (Option.some FieldType.int) 6 82 [.ref (x 0), .int (iI pp), .int (iI w)] ([o6C x a b ap lat und] ++ suW b cI T ++ stW a cI C) EIO := by
  have q_w := hT.1
  have q_c := hC.1
  have q_l := hC.2.1
  refine qT_enter hst (zy_X z) (zy_U z) (by decide +kernel) ini_EIO (by decide) (Nat.le_of_ble_eq_true rfl) ⟨by decide, by decide⟩ (fun p e R s m args below meth c Q ls X hR hP hY hl hth => ?_)
  have hZ := hY.1
  obtain ⟨hx, hb, hml, hown, hts, hK⟩ := X
  have hl : lv_has ls 3 [(0, .ref (x 0)), (1, .int (iI pp)), (2, .int (iI w))] := hl
  refine lv_iload_n hx hb dX6_page_0 rfl (lv_at hl 1 rfl) ?_
  refine q_if_lt (tgt := 15) hx hb dX6_page_1 (by decide) (by omega) (fun c_1 => ?_) (fun c_1 => ?_)
  · have h_lt := hZ.2.2.2.1 _ lt_X6_173
    exact hth 15 ls _ 138 173 142 _ hl.1 cl_X6_138 h_lt at_X6_142 dX6_page_15 dX6_page_18 (Or.inl ⟨dX6_page_19, dX6_page_21, dX6_page_24⟩)
  · refine lv_iload_n hx hb dX6_page_4 rfl (lv_at hl 1 rfl) ?_
    refine lv_aload_n hx hb dX6_page_5 rfl (lv_at hl 0 rfl) ?_
    refine q_get hx hb hts hown hK hP ci_X6 0 rfl 2 (by decide) fl_X6_26 rfl dX6_page_6 ?_
    refine q_get hx hb hts hown hK hP ci_X5 10 rfl 14 (by decide) fl_X6_103 rfl dX6_page_9 ?_
    refine q_icmp_lt (tgt := 25) hx hb dX6_page_12 (by decide) (by omega) (fun c_12 => absurd c_12 (by omega)) (fun c_12 => ?_)
    have h_lt := hZ.2.2.2.1 _ lt_X6_173
    exact hth 15 ls _ 138 173 142 _ hl.1 cl_X6_138 h_lt at_X6_142 dX6_page_15 dX6_page_18 (Or.inl ⟨dX6_page_19, dX6_page_21, dX6_page_24⟩)

set_option maxHeartbeats 4000000 in
set_option maxRecDepth 100000 in
theorem c_X6_page_x2 (pp : Int) (w : Int) (hT : WT T) (hC : WC T C) (hst : l.stackTraces = false) (hpp : 0 ≤ pp ∧ pp < C 11 3) (hr_w : rg w) (hno : ¬ (0 ≤ w ∧ w ≤ 2)) : qT l (ZY z) D (tyG cI cB cZ cS cJ) yX6_page cX6_page 3 (Option.some FieldType.int) 6 82 [.ref (x 0), .int (iI pp), .int (iI w)] ([o6C x a b ap lat und] ++ suW b cI T ++ stW a cI C) EIA := by
  have q_w := hT.1
  have q_c := hC.1
  have q_l := hC.2.1
  refine qT_enter hst (zy_X z) (zy_U z) (by decide +kernel) ini_EIA (by decide) (Nat.le_of_ble_eq_true rfl) ⟨by decide, by decide⟩ (fun p e R s m args below meth c Q ls X hR hP hY hl hth => ?_)
  have hZ := hY.1
  obtain ⟨hx, hb, hml, hown, hts, hK⟩ := X
  have hl : lv_has ls 3 [(0, .ref (x 0)), (1, .int (iI pp)), (2, .int (iI w))] := hl
  refine lv_iload_n hx hb dX6_page_0 rfl (lv_at hl 1 rfl) ?_
  refine q_if_lt (tgt := 15) hx hb dX6_page_1 (by decide) (by omega) (fun c_1 => absurd c_1 (by omega)) (fun c_1 => ?_)
  refine lv_iload_n hx hb dX6_page_4 rfl (lv_at hl 1 rfl) ?_
  refine lv_aload_n hx hb dX6_page_5 rfl (lv_at hl 0 rfl) ?_
  refine q_get hx hb hts hown hK hP ci_X6 0 rfl 2 (by decide) fl_X6_26 rfl dX6_page_6 ?_
  refine q_get hx hb hts hown hK hP ci_X5 10 rfl 14 (by decide) fl_X6_103 rfl dX6_page_9 ?_
  refine q_icmp_lt (tgt := 25) hx hb dX6_page_12 (by decide) (by omega) (fun c_12 => ?_) (fun c_12 => absurd c_12 (by omega))
  refine lv_iload_n hx hb dX6_page_25 rfl (lv_at hl 2 rfl) ?_
  refine q_tabOut (tgt := 82) hx hb dX6_page_26 (by omega) (by omega) (by decide) ?_
  have h_lt := hZ.2.2.2.1 _ lt_X6_128
  exact hth 82 ls _ 75 128 79 _ hl.1 cl_X6_75 h_lt at_X6_79 dX6_page_82 dX6_page_85 (Or.inl ⟨dX6_page_86, dX6_page_88, dX6_page_91⟩)

set_option maxHeartbeats 4000000 in
set_option maxRecDepth 100000 in
theorem c_X6_job_x1 (pp : Int) (w : Int) (hT : WT T) (hC : WC T C) (hst : l.stackTraces = false) (hr_pp : rg pp) (hno : ¬ (0 ≤ pp ∧ pp < C 11 4)) : qT l (ZY z) D (tyG cI cB cZ cS cJ) yX6_job cX6_job 3 (Option.some FieldType.int) 6 82 [.ref (x 0), .int (iI pp), .int (iI w)] ([o6C x a b ap lat und] ++ suW b cI T ++ stW a cI C) EIO := by
  have q_w := hT.1
  have q_c := hC.1
  have q_l := hC.2.1
  refine qT_enter hst (zy_X z) (zy_U z) (by decide +kernel) ini_EIO (by decide) (Nat.le_of_ble_eq_true rfl) ⟨by decide, by decide⟩ (fun p e R s m args below meth c Q ls X hR hP hY hl hth => ?_)
  have hZ := hY.1
  obtain ⟨hx, hb, hml, hown, hts, hK⟩ := X
  have hl : lv_has ls 3 [(0, .ref (x 0)), (1, .int (iI pp)), (2, .int (iI w))] := hl
  refine lv_iload_n hx hb dX6_job_0 rfl (lv_at hl 1 rfl) ?_
  refine q_if_lt (tgt := 15) hx hb dX6_job_1 (by decide) (by omega) (fun c_1 => ?_) (fun c_1 => ?_)
  · have h_lt := hZ.2.2.2.1 _ lt_X6_184
    exact hth 15 ls _ 138 184 142 _ hl.1 cl_X6_138 h_lt at_X6_142 dX6_job_15 dX6_job_18 (Or.inl ⟨dX6_job_19, dX6_job_21, dX6_job_24⟩)
  · refine lv_iload_n hx hb dX6_job_4 rfl (lv_at hl 1 rfl) ?_
    refine lv_aload_n hx hb dX6_job_5 rfl (lv_at hl 0 rfl) ?_
    refine q_get hx hb hts hown hK hP ci_X6 0 rfl 2 (by decide) fl_X6_26 rfl dX6_job_6 ?_
    refine q_get hx hb hts hown hK hP ci_X5 10 rfl 15 (by decide) fl_X6_106 rfl dX6_job_9 ?_
    refine q_icmp_lt (tgt := 25) hx hb dX6_job_12 (by decide) (by omega) (fun c_12 => absurd c_12 (by omega)) (fun c_12 => ?_)
    have h_lt := hZ.2.2.2.1 _ lt_X6_184
    exact hth 15 ls _ 138 184 142 _ hl.1 cl_X6_138 h_lt at_X6_142 dX6_job_15 dX6_job_18 (Or.inl ⟨dX6_job_19, dX6_job_21, dX6_job_24⟩)

set_option maxHeartbeats 4000000 in
set_option maxRecDepth 100000 in
theorem c_X6_job_x2 (pp : Int) (w : Int) (hT : WT T) (hC : WC T C) (hst : l.stackTraces = false) (hpp : 0 ≤ pp ∧ pp < C 11 4) (hr_w : rg w) (hno : ¬ (0 ≤ w ∧ w ≤ 3)) : qT l (ZY z) D (tyG cI cB cZ cS cJ) yX6_job cX6_job 3 (Option.some FieldType.int) 6 82 [.ref (x 0), .int (iI pp), .int (iI w)] ([o6C x a b ap lat und] ++ suW b cI T ++ stW a cI C) EIA := by
  have q_w := hT.1
  have q_c := hC.1
  have q_l := hC.2.1
  refine qT_enter hst (zy_X z) (zy_U z) (by decide +kernel) ini_EIA (by decide) (Nat.le_of_ble_eq_true rfl) ⟨by decide, by decide⟩ (fun p e R s m args below meth c Q ls X hR hP hY hl hth => ?_)
  have hZ := hY.1
  obtain ⟨hx, hb, hml, hown, hts, hK⟩ := X
  have hl : lv_has ls 3 [(0, .ref (x 0)), (1, .int (iI pp)), (2, .int (iI w))] := hl
  refine lv_iload_n hx hb dX6_job_0 rfl (lv_at hl 1 rfl) ?_
  refine q_if_lt (tgt := 15) hx hb dX6_job_1 (by decide) (by omega) (fun c_1 => absurd c_1 (by omega)) (fun c_1 => ?_)
  refine lv_iload_n hx hb dX6_job_4 rfl (lv_at hl 1 rfl) ?_
  refine lv_aload_n hx hb dX6_job_5 rfl (lv_at hl 0 rfl) ?_
  refine q_get hx hb hts hown hK hP ci_X6 0 rfl 2 (by decide) fl_X6_26 rfl dX6_job_6 ?_
  refine q_get hx hb hts hown hK hP ci_X5 10 rfl 15 (by decide) fl_X6_106 rfl dX6_job_9 ?_
  refine q_icmp_lt (tgt := 25) hx hb dX6_job_12 (by decide) (by omega) (fun c_12 => ?_) (fun c_12 => absurd c_12 (by omega))
  refine lv_iload_n hx hb dX6_job_25 rfl (lv_at hl 2 rfl) ?_
  refine q_tabOut (tgt := 93) hx hb dX6_job_26 (by omega) (by omega) (by decide) ?_
  have h_lt := hZ.2.2.2.1 _ lt_X6_128
  exact hth 93 ls _ 75 128 79 _ hl.1 cl_X6_75 h_lt at_X6_79 dX6_job_93 dX6_job_96 (Or.inl ⟨dX6_job_97, dX6_job_99, dX6_job_102⟩)

set_option maxHeartbeats 4000000 in
set_option maxRecDepth 100000 in
theorem c_X6_isHalf_x (sh : Int) (hT : WT T) (hC : WC T C) (hst : l.stackTraces = false) (hr_sh : rg sh) (hno : ¬ (0 ≤ sh ∧ sh < T 8 0)) : qT l (ZY z) D (tyG cI cB cZ cS cJ) yX6_isHalf cX6_isHalf 2 (Option.some FieldType.boolean) 6 82 [.ref (x 0), .int (iI sh)] ([o6C x a b ap lat und] ++ suW b cI T ++ stW a cI C) EIO := by
  have q_w := hT.1
  have q_c := hC.1
  have q_l := hC.2.1
  refine qT_enter hst (zy_X z) (zy_U z) (by decide +kernel) ini_EIO (by decide) (Nat.le_of_ble_eq_true rfl) ⟨by decide, by decide⟩ (fun p e R s m args below meth c Q ls X hR hP hY hl hth => ?_)
  have hZ := hY.1
  obtain ⟨hx, hb, hml, hown, hts, hK⟩ := X
  have hl : lv_has ls 2 [(0, .ref (x 0)), (1, .int (iI sh))] := hl
  refine lv_aload_n hx hb dX6_isHalf_0 rfl (lv_at hl 0 rfl) ?_
  refine lv_iload_n hx hb dX6_isHalf_1 rfl (lv_at hl 1 rfl) ?_
  refine q_callP (As := [.int (iI sh)]) (rest := []) hx hb hml hown hts hK (c_X6_isSheet (sh) (by first | omega | assumption) (by first | omega | assumption)) yi_X6_isSheet ml_X6_134 (by rw [hR]; decide) (hP.sub [0, 1] rfl) 0 rfl rfl rfl rfl hl.1 (lv_room (Nat.le_of_ble_eq_true rfl)) dX6_isHalf_2 ⟨by rw [hR]; exact Nat.zero_le _, by rw [hR]; exact Nat.zero_le _⟩ ?_
  refine q_ifb_ne (tgt := 18) hx hb dX6_isHalf_5 (by decide) (fun c_5 => absurd c_5 (by omega)) (fun c_5 => ?_)
  have h_lt := hZ.2.2.2.1 _ lt_X6_140
  exact hth 8 ls _ 138 140 142 _ hl.1 cl_X6_138 h_lt at_X6_142 dX6_isHalf_8 dX6_isHalf_11 (Or.inl ⟨dX6_isHalf_12, dX6_isHalf_14, dX6_isHalf_17⟩)

set_option maxHeartbeats 4000000 in
set_option maxRecDepth 100000 in
theorem c_X6_next_x (w : Int) (hT : WT T) (hC : WC T C) (hst : l.stackTraces = false) (hr_w : rg w) (hno : ¬ (0 ≤ w ∧ w ≤ 4)) : qT l (ZY z) D (tyG cI cB cZ cS cJ) yX6_next cX6_next 2 (Option.some FieldType.int) 6 82 [.ref (x 0), .int (iI w)] ([o6C x a b ap lat und] ++ suW b cI T ++ stW a cI C) EIA := by
  have q_w := hT.1
  have q_c := hC.1
  have q_l := hC.2.1
  refine qT_enter hst (zy_X z) (zy_U z) (by decide +kernel) ini_EIA (by decide) (Nat.le_of_ble_eq_true rfl) ⟨by decide, by decide⟩ (fun p e R s m args below meth c Q ls X hR hP hY hl hth => ?_)
  have hZ := hY.1
  obtain ⟨hx, hb, hml, hown, hts, hK⟩ := X
  have hl : lv_has ls 2 [(0, .ref (x 0)), (1, .int (iI w))] := hl
  refine lv_iload_n hx hb dX6_next_0 rfl (lv_at hl 1 rfl) ?_
  refine q_if_lt (tgt := 9) hx hb dX6_next_1 (by decide) (by omega) (fun c_1 => ?_) (fun c_1 => ?_)
  · have h_lt := hZ.2.2.2.1 _ lt_X6_128
    exact hth 9 ls _ 75 128 79 _ hl.1 cl_X6_75 h_lt at_X6_79 dX6_next_9 dX6_next_12 (Or.inl ⟨dX6_next_13, dX6_next_15, dX6_next_18⟩)
  · refine lv_iload_n hx hb dX6_next_4 rfl (lv_at hl 1 rfl) ?_
    refine q_iconst hx hb dX6_next_5 ?_
    refine q_icmp_le (tgt := 19) hx hb dX6_next_6 (by decide) (by omega) (fun c_6 => absurd c_6 (by omega)) (fun c_6 => ?_)
    have h_lt := hZ.2.2.2.1 _ lt_X6_128
    exact hth 9 ls _ 75 128 79 _ hl.1 cl_X6_75 h_lt at_X6_79 dX6_next_9 dX6_next_12 (Or.inl ⟨dX6_next_13, dX6_next_15, dX6_next_18⟩)

set_option maxHeartbeats 4000000 in
set_option maxRecDepth 100000 in
theorem c_X6_ahead_x1 (pct : Int) (w : Int) (hT : WT T) (hC : WC T C) (hst : l.stackTraces = false) (hr_pct : rg pct) (hno : ¬ (101 ≤ pct ∧ pct ≤ 300)) : qT l (ZY z) D (tyG cI cB cZ cS cJ) yX6_ahead cX6_ahead 3 (Option.some FieldType.int) 6 82 [.ref (x 0), .int (iI pct), .int (iI w)] ([o6C x a b ap lat und] ++ suW b cI T ++ stW a cI C) EIA := by
  have q_w := hT.1
  have q_c := hC.1
  have q_l := hC.2.1
  refine qT_enter hst (zy_X z) (zy_U z) (by decide +kernel) ini_EIA (by decide) (Nat.le_of_ble_eq_true rfl) ⟨by decide, by decide⟩ (fun p e R s m args below meth c Q ls X hR hP hY hl hth => ?_)
  have hZ := hY.1
  obtain ⟨hx, hb, hml, hown, hts, hK⟩ := X
  have hl : lv_has ls 3 [(0, .ref (x 0)), (1, .int (iI pct)), (2, .int (iI w))] := hl
  refine lv_iload_n hx hb dX6_ahead_0 rfl (lv_at hl 1 rfl) ?_
  refine va_gets hx hb (hZ.1.1) va_S.rf hown (hts _ fl_X6_221) (fun _ h => h) dX6_ahead_1 ?_
  refine q_iconst hx hb dX6_ahead_4 ?_
  refine q_tald hx hb hZ.1.2.2.2.1 va_S.rf (i := 0) (z := 101) (by omega) (by decide) dX6_ahead_5 ?_
  refine q_icmp_lt (tgt := 18) hx hb dX6_ahead_6 (by decide) (by omega) (fun c_6 => ?_) (fun c_6 => ?_)
  · have h_lt := hZ.2.2.2.1 _ lt_X6_227
    exact hth 18 ls _ 75 227 79 _ hl.1 cl_X6_75 h_lt at_X6_79 dX6_ahead_18 dX6_ahead_21 (Or.inl ⟨dX6_ahead_22, dX6_ahead_24, dX6_ahead_27⟩)
  · refine lv_iload_n hx hb dX6_ahead_9 rfl (lv_at hl 1 rfl) ?_
    refine va_gets hx hb (hZ.1.2.1) va_S.rf hown (hts _ fl_X6_224) (fun _ h => h) dX6_ahead_10 ?_
    refine q_iconst hx hb dX6_ahead_13 ?_
    refine q_tald hx hb hZ.1.2.2.2.2.1 va_S.rf (i := 0) (z := 300) (by omega) (by decide) dX6_ahead_14 ?_
    refine q_icmp_le (tgt := 28) hx hb dX6_ahead_15 (by decide) (by omega) (fun c_15 => absurd c_15 (by omega)) (fun c_15 => ?_)
    have h_lt := hZ.2.2.2.1 _ lt_X6_227
    exact hth 18 ls _ 75 227 79 _ hl.1 cl_X6_75 h_lt at_X6_79 dX6_ahead_18 dX6_ahead_21 (Or.inl ⟨dX6_ahead_22, dX6_ahead_24, dX6_ahead_27⟩)

set_option maxHeartbeats 4000000 in
set_option maxRecDepth 100000 in
theorem c_X6_ahead_x2 (pct : Int) (w : Int) (hT : WT T) (hC : WC T C) (hst : l.stackTraces = false) (hp : 101 ≤ pct ∧ pct ≤ 300) (hr_w : rg w) (hno : ¬ (0 ≤ w ∧ w ≤ 4)) : qT l (ZY z) D (tyG cI cB cZ cS cJ) yX6_ahead cX6_ahead 3 (Option.some FieldType.int) 6 82 [.ref (x 0), .int (iI pct), .int (iI w)] ([o6C x a b ap lat und] ++ suW b cI T ++ stW a cI C) EIA := by
  have q_w := hT.1
  have q_c := hC.1
  have q_l := hC.2.1
  refine qT_enter hst (zy_X z) (zy_U z) (by decide +kernel) ini_EIA (by decide) (Nat.le_of_ble_eq_true rfl) ⟨by decide, by decide⟩ (fun p e R s m args below meth c Q ls X hR hP hY hl hth => ?_)
  have hZ := hY.1
  obtain ⟨hx, hb, hml, hown, hts, hK⟩ := X
  have hl : lv_has ls 3 [(0, .ref (x 0)), (1, .int (iI pct)), (2, .int (iI w))] := hl
  refine lv_iload_n hx hb dX6_ahead_0 rfl (lv_at hl 1 rfl) ?_
  refine va_gets hx hb (hZ.1.1) va_S.rf hown (hts _ fl_X6_221) (fun _ h => h) dX6_ahead_1 ?_
  refine q_iconst hx hb dX6_ahead_4 ?_
  refine q_tald hx hb hZ.1.2.2.2.1 va_S.rf (i := 0) (z := 101) (by omega) (by decide) dX6_ahead_5 ?_
  refine q_icmp_lt (tgt := 18) hx hb dX6_ahead_6 (by decide) (by omega) (fun c_6 => absurd c_6 (by omega)) (fun c_6 => ?_)
  refine lv_iload_n hx hb dX6_ahead_9 rfl (lv_at hl 1 rfl) ?_
  refine va_gets hx hb (hZ.1.2.1) va_S.rf hown (hts _ fl_X6_224) (fun _ h => h) dX6_ahead_10 ?_
  refine q_iconst hx hb dX6_ahead_13 ?_
  refine q_tald hx hb hZ.1.2.2.2.2.1 va_S.rf (i := 0) (z := 300) (by omega) (by decide) dX6_ahead_14 ?_
  refine q_icmp_le (tgt := 28) hx hb dX6_ahead_15 (by decide) (by omega) (fun c_15 => ?_) (fun c_15 => absurd c_15 (by omega))
  refine lv_iload_n hx hb dX6_ahead_28 rfl (lv_at hl 2 rfl) ?_
  refine q_if_lt (tgt := 37) hx hb dX6_ahead_29 (by decide) (by omega) (fun c_29 => ?_) (fun c_29 => ?_)
  · have h_lt := hZ.2.2.2.1 _ lt_X6_128
    exact hth 37 ls _ 75 128 79 _ hl.1 cl_X6_75 h_lt at_X6_79 dX6_ahead_37 dX6_ahead_40 (Or.inl ⟨dX6_ahead_41, dX6_ahead_43, dX6_ahead_46⟩)
  · refine lv_iload_n hx hb dX6_ahead_32 rfl (lv_at hl 2 rfl) ?_
    refine q_iconst hx hb dX6_ahead_33 ?_
    refine q_icmp_le (tgt := 47) hx hb dX6_ahead_34 (by decide) (by omega) (fun c_34 => absurd c_34 (by omega)) (fun c_34 => ?_)
    have h_lt := hZ.2.2.2.1 _ lt_X6_128
    exact hth 37 ls _ 75 128 79 _ hl.1 cl_X6_75 h_lt at_X6_79 dX6_ahead_37 dX6_ahead_40 (Or.inl ⟨dX6_ahead_41, dX6_ahead_43, dX6_ahead_46⟩)

set_option maxHeartbeats 4000000 in
set_option maxRecDepth 100000 in
theorem c_X6_blankFor_x (sd : Int) (hT : WT T) (hC : WC T C) (hst : l.stackTraces = false) (hr_sd : rg sd) (hno : ¬ (0 ≤ sd ∧ sd ≤ 80)) : qT l (ZY z) D (tyG cI cB cZ cS cJ) yX6_blankFor cX6_blankFor 6 (Option.some FieldType.int) 6 82 [.ref (x 0), .int (iI sd)] ([o6C x a b ap lat und] ++ suW b cI T ++ stW a cI C) EIA := by
  have q_w := hT.1
  have q_c := hC.1
  have q_l := hC.2.1
  refine qT_enter hst (zy_X z) (zy_U z) (by decide +kernel) ini_EIA (by decide) (Nat.le_of_ble_eq_true rfl) ⟨by decide, by decide⟩ (fun p e R s m args below meth c Q ls X hR hP hY hl hth => ?_)
  have hZ := hY.1
  obtain ⟨hx, hb, hml, hown, hts, hK⟩ := X
  have hl : lv_has ls 6 [(0, .ref (x 0)), (1, .int (iI sd))] := hl
  refine lv_iload_n hx hb dX6_blankFor_0 rfl (lv_at hl 1 rfl) ?_
  refine q_if_lt (tgt := 10) hx hb dX6_blankFor_1 (by decide) (by omega) (fun c_1 => ?_) (fun c_1 => ?_)
  · have h_lt := hZ.2.2.2.1 _ lt_X6_249
    exact hth 10 ls _ 75 249 79 _ hl.1 cl_X6_75 h_lt at_X6_79 dX6_blankFor_10 dX6_blankFor_13 (Or.inl ⟨dX6_blankFor_14, dX6_blankFor_16, dX6_blankFor_19⟩)
  · refine lv_iload_n hx hb dX6_blankFor_4 rfl (lv_at hl 1 rfl) ?_
    refine q_bipush hx hb dX6_blankFor_5 rfl ?_
    refine q_icmp_le (tgt := 20) hx hb dX6_blankFor_7 (by decide) (by omega) (fun c_7 => absurd c_7 (by omega)) (fun c_7 => ?_)
    have h_lt := hZ.2.2.2.1 _ lt_X6_249
    exact hth 10 ls _ 75 249 79 _ hl.1 cl_X6_75 h_lt at_X6_79 dX6_blankFor_10 dX6_blankFor_13 (Or.inl ⟨dX6_blankFor_14, dX6_blankFor_16, dX6_blankFor_19⟩)

set_option maxHeartbeats 4000000 in
set_option maxRecDepth 100000 in
theorem c_X6_account_x (w : Int) (hT : WT T) (hC : WC T C) (hst : l.stackTraces = false) (hr_w : rg w) (hno : ¬ (0 ≤ w ∧ w < 9)) : qT l (ZY z) D (tyG cI cB cZ cS cJ) yX6_account cX6_account 2 (Option.some FieldType.int) 6 82 [.ref (x 0), .int (iI w)] ([o6C x a b ap lat und] ++ suW b cI T ++ stW a cI C) EIA := by
  have q_w := hT.1
  have q_c := hC.1
  have q_l := hC.2.1
  refine qT_enter hst (zy_X z) (zy_U z) (by decide +kernel) ini_EIA (by decide) (Nat.le_of_ble_eq_true rfl) ⟨by decide, by decide⟩ (fun p e R s m args below meth c Q ls X hR hP hY hl hth => ?_)
  have hZ := hY.1
  obtain ⟨hx, hb, hml, hown, hts, hK⟩ := X
  have hl : lv_has ls 2 [(0, .ref (x 0)), (1, .int (iI w))] := hl
  refine lv_iload_n hx hb dX6_account_0 rfl (lv_at hl 1 rfl) ?_
  refine q_if_lt (tgt := 10) hx hb dX6_account_1 (by decide) (by omega) (fun c_1 => ?_) (fun c_1 => ?_)
  · have h_lt := hZ.2.2.2.1 _ lt_X6_128
    exact hth 10 ls _ 75 128 79 _ hl.1 cl_X6_75 h_lt at_X6_79 dX6_account_10 dX6_account_13 (Or.inl ⟨dX6_account_14, dX6_account_16, dX6_account_19⟩)
  · refine lv_iload_n hx hb dX6_account_4 rfl (lv_at hl 1 rfl) ?_
    refine q_bipush hx hb dX6_account_5 rfl ?_
    refine q_icmp_lt (tgt := 20) hx hb dX6_account_7 (by decide) (by omega) (fun c_7 => absurd c_7 (by omega)) (fun c_7 => ?_)
    have h_lt := hZ.2.2.2.1 _ lt_X6_128
    exact hth 10 ls _ 75 128 79 _ hl.1 cl_X6_75 h_lt at_X6_79 dX6_account_10 dX6_account_13 (Or.inl ⟨dX6_account_14, dX6_account_16, dX6_account_19⟩)

set_option maxHeartbeats 4000000 in
set_option maxRecDepth 100000 in
theorem c_X6_sheetsAt_x (w : Int) (hT : WT T) (hC : WC T C) (hst : l.stackTraces = false) (hr_w : rg w) (hno : ¬ (0 ≤ w ∧ w ≤ 6)) : qT l (ZY z) D (tyG cI cB cZ cS cJ) yX6_sheetsAt cX6_sheetsAt 4 (Option.some FieldType.int) 6 82 [.ref (x 0), .int (iI w)] ([o6C x a b ap lat und] ++ suW b cI T ++ stW a cI C) EIA := by
  have q_w := hT.1
  have q_c := hC.1
  have q_l := hC.2.1
  refine qT_enter hst (zy_X z) (zy_U z) (by decide +kernel) ini_EIA (by decide) (Nat.le_of_ble_eq_true rfl) ⟨by decide, by decide⟩ (fun p e R s m args below meth c Q ls X hR hP hY hl hth => ?_)
  have hZ := hY.1
  obtain ⟨hx, hb, hml, hown, hts, hK⟩ := X
  have hl : lv_has ls 4 [(0, .ref (x 0)), (1, .int (iI w))] := hl
  refine lv_iload_n hx hb dX6_sheetsAt_0 rfl (lv_at hl 1 rfl) ?_
  refine q_if_lt (tgt := 10) hx hb dX6_sheetsAt_1 (by decide) (by omega) (fun c_1 => ?_) (fun c_1 => ?_)
  · have h_lt := hZ.2.2.2.1 _ lt_X6_257
    exact hth 10 ls _ 75 257 79 _ hl.1 cl_X6_75 h_lt at_X6_79 dX6_sheetsAt_10 dX6_sheetsAt_13 (Or.inr ⟨dX6_sheetsAt_14, dX6_sheetsAt_17, dX6_sheetsAt_20⟩)
  · refine lv_iload_n hx hb dX6_sheetsAt_4 rfl (lv_at hl 1 rfl) ?_
    refine q_bipush hx hb dX6_sheetsAt_5 rfl ?_
    refine q_icmp_le (tgt := 21) hx hb dX6_sheetsAt_7 (by decide) (by omega) (fun c_7 => absurd c_7 (by omega)) (fun c_7 => ?_)
    have h_lt := hZ.2.2.2.1 _ lt_X6_257
    exact hth 10 ls _ 75 257 79 _ hl.1 cl_X6_75 h_lt at_X6_79 dX6_sheetsAt_10 dX6_sheetsAt_13 (Or.inr ⟨dX6_sheetsAt_14, dX6_sheetsAt_17, dX6_sheetsAt_20⟩)

set_option maxHeartbeats 4000000 in
set_option maxRecDepth 100000 in
theorem c_X6_feed_x1 (n : Int) (hT : WT T) (hC : WC T C) (hst : l.stackTraces = false) (hr_n : rg n) (hno : ¬ (1 ≤ n ∧ n ≤ 40)) : qT l (ZY z) D (tyG cI cB cZ cS cJ) yX6_feed cX6_feed 4 (Option.some FieldType.int) 6 82 [.ref (x 0), .int (iI n)] ([o6C x a b ap lat und] ++ suW b cI T ++ stW a cI C) EIA := by
  have q_w := hT.1
  have q_c := hC.1
  have q_l := hC.2.1
  refine qT_enter hst (zy_X z) (zy_U z) (by decide +kernel) ini_EIA (by decide) (Nat.le_of_ble_eq_true rfl) ⟨by decide, by decide⟩ (fun p e R s m args below meth c Q ls X hR hP hY hl hth => ?_)
  have hZ := hY.1
  obtain ⟨hx, hb, hml, hown, hts, hK⟩ := X
  have hl : lv_has ls 4 [(0, .ref (x 0)), (1, .int (iI n))] := hl
  refine lv_iload_n hx hb dX6_feed_0 rfl (lv_at hl 1 rfl) ?_
  refine q_iconst hx hb dX6_feed_1 ?_
  refine q_icmp_lt (tgt := 11) hx hb dX6_feed_2 (by decide) (by omega) (fun c_2 => ?_) (fun c_2 => ?_)
  · have h_lt := hZ.2.2.2.1 _ lt_X6_262
    exact hth 11 ls _ 75 262 79 _ hl.1 cl_X6_75 h_lt at_X6_79 dX6_feed_11 dX6_feed_14 (Or.inr ⟨dX6_feed_15, dX6_feed_18, dX6_feed_21⟩)
  · refine lv_iload_n hx hb dX6_feed_5 rfl (lv_at hl 1 rfl) ?_
    refine q_bipush hx hb dX6_feed_6 rfl ?_
    refine q_icmp_le (tgt := 22) hx hb dX6_feed_8 (by decide) (by omega) (fun c_8 => absurd c_8 (by omega)) (fun c_8 => ?_)
    have h_lt := hZ.2.2.2.1 _ lt_X6_262
    exact hth 11 ls _ 75 262 79 _ hl.1 cl_X6_75 h_lt at_X6_79 dX6_feed_11 dX6_feed_14 (Or.inr ⟨dX6_feed_15, dX6_feed_18, dX6_feed_21⟩)

set_option maxHeartbeats 4000000 in
set_option maxRecDepth 100000 in
theorem c_X6_feed_x2 (n : Int) (hT : WT T) (hC : WC T C) (hst : l.stackTraces = false) (hn : 1 ≤ n ∧ n ≤ 40) (hs : C 11 2 ≠ 0) : qT l (ZY z) D (tyG cI cB cZ cS cJ) yX6_feed cX6_feed 4 (Option.some FieldType.int) 6 82 [.ref (x 0), .int (iI n)] ([o6C x a b ap lat und] ++ suW b cI T ++ stW a cI C) EIS := by
  have q_w := hT.1
  have q_c := hC.1
  have q_l := hC.2.1
  refine qT_enter hst (zy_X z) (zy_U z) (by decide +kernel) ini_EIS (by decide) (Nat.le_of_ble_eq_true rfl) ⟨by decide, by decide⟩ (fun p e R s m args below meth c Q ls X hR hP hY hl hth => ?_)
  have hZ := hY.1
  obtain ⟨hx, hb, hml, hown, hts, hK⟩ := X
  have hl : lv_has ls 4 [(0, .ref (x 0)), (1, .int (iI n))] := hl
  refine lv_iload_n hx hb dX6_feed_0 rfl (lv_at hl 1 rfl) ?_
  refine q_iconst hx hb dX6_feed_1 ?_
  refine q_icmp_lt (tgt := 11) hx hb dX6_feed_2 (by decide) (by omega) (fun c_2 => absurd c_2 (by omega)) (fun c_2 => ?_)
  refine lv_iload_n hx hb dX6_feed_5 rfl (lv_at hl 1 rfl) ?_
  refine q_bipush hx hb dX6_feed_6 rfl ?_
  refine q_icmp_le (tgt := 22) hx hb dX6_feed_8 (by decide) (by omega) (fun c_8 => ?_) (fun c_8 => absurd c_8 (by omega))
  refine lv_aload_n hx hb dX6_feed_22 rfl (lv_at hl 0 rfl) ?_
  refine q_callP (As := []) (rest := []) hx hb hml hown hts hK (c_X6_isStopped (by first | omega | assumption)) yi_X6_isStopped ml_X6_264 (by rw [hR]; decide) (hP.sub [0, 10] rfl) 0 rfl rfl rfl rfl hl.1 (lv_room (Nat.le_of_ble_eq_true rfl)) dX6_feed_23 ⟨by rw [hR]; exact Nat.zero_le _, by rw [hR]; exact Nat.zero_le _⟩ ?_
  refine q_ifb_eq (tgt := 40) hx hb dX6_feed_26 (by decide) (fun c_26 => absurd c_26 (by omega)) (fun c_26 => ?_)
  have h_lt := hZ.2.2.2.1 _ lt_X6_270
  exact hth 29 ls _ 268 270 272 _ hl.1 cl_X6_268 h_lt at_X6_272 dX6_feed_29 dX6_feed_32 (Or.inr ⟨dX6_feed_33, dX6_feed_36, dX6_feed_39⟩)

set_option maxHeartbeats 4000000 in
set_option maxRecDepth 100000 in
theorem c_X6_putBack_x (hT : WT T) (hC : WC T C) (hst : l.stackTraces = false) (hs : C 11 2 = 0) : qT l (ZY z) D (tyG cI cB cZ cS cJ) yX6_putBack cX6_putBack 3 (Option.some FieldType.int) 6 82 [.ref (x 0)] ([o6C x a b ap lat und] ++ suW b cI T ++ stW a cI C) EIS := by
  have q_w := hT.1
  have q_c := hC.1
  have q_l := hC.2.1
  refine qT_enter hst (zy_X z) (zy_U z) (by decide +kernel) ini_EIS (by decide) (Nat.le_of_ble_eq_true rfl) ⟨by decide, by decide⟩ (fun p e R s m args below meth c Q ls X hR hP hY hl hth => ?_)
  have hZ := hY.1
  obtain ⟨hx, hb, hml, hown, hts, hK⟩ := X
  have hl : lv_has ls 3 [(0, .ref (x 0))] := hl
  refine lv_aload_n hx hb dX6_putBack_0 rfl (lv_at hl 0 rfl) ?_
  refine q_callP (As := []) (rest := []) hx hb hml hown hts hK (c_X6_isStopped (by first | omega | assumption)) yi_X6_isStopped ml_X6_264 (by rw [hR]; decide) (hP.sub [0, 10] rfl) 0 rfl rfl rfl rfl hl.1 (lv_room (Nat.le_of_ble_eq_true rfl)) dX6_putBack_1 ⟨by rw [hR]; exact Nat.zero_le _, by rw [hR]; exact Nat.zero_le _⟩ ?_
  refine q_ifb_ne (tgt := 18) hx hb dX6_putBack_4 (by decide) (fun c_4 => absurd c_4 (by omega)) (fun c_4 => ?_)
  have h_lt := hZ.2.2.2.1 _ lt_X6_279
  exact hth 7 ls _ 268 279 272 _ hl.1 cl_X6_268 h_lt at_X6_272 dX6_putBack_7 dX6_putBack_10 (Or.inr ⟨dX6_putBack_11, dX6_putBack_14, dX6_putBack_17⟩)

set_option maxHeartbeats 4000000 in
set_option maxRecDepth 100000 in
theorem c_X6_remove_x (hT : WT T) (hC : WC T C) (hst : l.stackTraces = false) (hs : C 11 2 = 0) : qT l (ZY z) D (tyG cI cB cZ cS cJ) yX6_remove cX6_remove 2 (Option.some FieldType.int) 6 82 [.ref (x 0)] ([o6C x a b ap lat und] ++ suW b cI T ++ stW a cI C) EIS := by
  have q_w := hT.1
  have q_c := hC.1
  have q_l := hC.2.1
  refine qT_enter hst (zy_X z) (zy_U z) (by decide +kernel) ini_EIS (by decide) (Nat.le_of_ble_eq_true rfl) ⟨by decide, by decide⟩ (fun p e R s m args below meth c Q ls X hR hP hY hl hth => ?_)
  have hZ := hY.1
  obtain ⟨hx, hb, hml, hown, hts, hK⟩ := X
  have hl : lv_has ls 2 [(0, .ref (x 0))] := hl
  refine lv_aload_n hx hb dX6_remove_0 rfl (lv_at hl 0 rfl) ?_
  refine q_callP (As := []) (rest := []) hx hb hml hown hts hK (c_X6_isStopped (by first | omega | assumption)) yi_X6_isStopped ml_X6_264 (by rw [hR]; decide) (hP.sub [0, 10] rfl) 0 rfl rfl rfl rfl hl.1 (lv_room (Nat.le_of_ble_eq_true rfl)) dX6_remove_1 ⟨by rw [hR]; exact Nat.zero_le _, by rw [hR]; exact Nat.zero_le _⟩ ?_
  refine q_ifb_ne (tgt := 18) hx hb dX6_remove_4 (by decide) (fun c_4 => absurd c_4 (by omega)) (fun c_4 => ?_)
  have h_lt := hZ.2.2.2.1 _ lt_X6_279
  exact hth 7 ls _ 268 279 272 _ hl.1 cl_X6_268 h_lt at_X6_272 dX6_remove_7 dX6_remove_10 (Or.inr ⟨dX6_remove_11, dX6_remove_14, dX6_remove_17⟩)

set_option maxHeartbeats 4000000 in
set_option maxRecDepth 100000 in
theorem c_X6_accept_x (hT : WT T) (hC : WC T C) (hst : l.stackTraces = false) (hno : ¬ (C 11 2 ≠ 0 ∧ C 11 2 ≠ 3)) : qT l (ZY z) D (tyG cI cB cZ cS cJ) yX6_accept cX6_accept 2 (Option.some FieldType.int) 6 82 [.ref (x 0)] ([o6C x a b ap lat und] ++ suW b cI T ++ stW a cI C) EIS := by
  have q_w := hT.1
  have q_c := hC.1
  have q_l := hC.2.1
  refine qT_enter hst (zy_X z) (zy_U z) (by decide +kernel) ini_EIS (by decide) (Nat.le_of_ble_eq_true rfl) ⟨by decide, by decide⟩ (fun p e R s m args below meth c Q ls X hR hP hY hl hth => ?_)
  have hZ := hY.1
  obtain ⟨hx, hb, hml, hown, hts, hK⟩ := X
  have hl : lv_has ls 2 [(0, .ref (x 0))] := hl
  refine lv_aload_n hx hb dX6_accept_0 rfl (lv_at hl 0 rfl) ?_
  refine q_callP (As := []) (rest := []) hx hb hml hown hts hK (c_X6_isStopped (by first | omega | assumption)) yi_X6_isStopped ml_X6_264 (by rw [hR]; decide) (hP.sub [0, 10] rfl) 0 rfl rfl rfl rfl hl.1 (lv_room (Nat.le_of_ble_eq_true rfl)) dX6_accept_1 ⟨by rw [hR]; exact Nat.zero_le _, by rw [hR]; exact Nat.zero_le _⟩ ?_
  refine q_ifb_eq (tgt := 18) hx hb dX6_accept_4 (by decide) (fun c_4 => ?_) (fun c_4 => ?_)
  · have h_lt := hZ.2.2.2.1 _ lt_X6_288
    exact hth 18 ls _ 268 288 272 _ hl.1 cl_X6_268 h_lt at_X6_272 dX6_accept_18 dX6_accept_21 (Or.inr ⟨dX6_accept_22, dX6_accept_25, dX6_accept_28⟩)
  · refine lv_aload_n hx hb dX6_accept_7 rfl (lv_at hl 0 rfl) ?_
    refine q_get hx hb hts hown hK hP ci_X6 0 rfl 2 (by decide) fl_X6_26 rfl dX6_accept_8 ?_
    refine q_get hx hb hts hown hK hP ci_X5 10 rfl 13 (by decide) fl_X6_100 rfl dX6_accept_11 ?_
    refine q_iconst hx hb dX6_accept_14 ?_
    refine q_icmp_ne (tgt := 29) hx hb dX6_accept_15 (by decide) (by omega) (fun c_15 => absurd c_15 (by omega)) (fun c_15 => ?_)
    have h_lt := hZ.2.2.2.1 _ lt_X6_288
    exact hth 18 ls _ 268 288 272 _ hl.1 cl_X6_268 h_lt at_X6_272 dX6_accept_18 dX6_accept_21 (Or.inr ⟨dX6_accept_22, dX6_accept_25, dX6_accept_28⟩)

set_option maxHeartbeats 4000000 in
set_option maxRecDepth 100000 in
theorem c_X6_endJob_x1 (cd : Int) (hT : WT T) (hC : WC T C) (hst : l.stackTraces = false) (hr_cd : rg cd) (hno : ¬ (0 ≤ cd ∧ cd ≤ 999)) : qT l (ZY z) D (tyG cI cB cZ cS cJ) yX6_endJob cX6_endJob 2 (Option.some FieldType.int) 6 82 [.ref (x 0), .int (iI cd)] ([o6C x a b ap lat und] ++ suW b cI T ++ stW a cI C) EIA := by
  have q_w := hT.1
  have q_c := hC.1
  have q_l := hC.2.1
  refine qT_enter hst (zy_X z) (zy_U z) (by decide +kernel) ini_EIA (by decide) (Nat.le_of_ble_eq_true rfl) ⟨by decide, by decide⟩ (fun p e R s m args below meth c Q ls X hR hP hY hl hth => ?_)
  have hZ := hY.1
  obtain ⟨hx, hb, hml, hown, hts, hK⟩ := X
  have hl : lv_has ls 2 [(0, .ref (x 0)), (1, .int (iI cd))] := hl
  refine lv_iload_n hx hb dX6_endJob_0 rfl (lv_at hl 1 rfl) ?_
  refine q_if_lt (tgt := 11) hx hb dX6_endJob_1 (by decide) (by omega) (fun c_1 => ?_) (fun c_1 => ?_)
  · have h_lt := hZ.2.2.2.1 _ lt_X6_293
    exact hth 11 ls _ 75 293 79 _ hl.1 cl_X6_75 h_lt at_X6_79 dX6_endJob_11 dX6_endJob_14 (Or.inr ⟨dX6_endJob_15, dX6_endJob_18, dX6_endJob_21⟩)
  · refine lv_iload_n hx hb dX6_endJob_4 rfl (lv_at hl 1 rfl) ?_
    refine q_sipush hx hb dX6_endJob_5 rfl ?_
    refine q_icmp_le (tgt := 22) hx hb dX6_endJob_8 (by decide) (by omega) (fun c_8 => absurd c_8 (by omega)) (fun c_8 => ?_)
    have h_lt := hZ.2.2.2.1 _ lt_X6_293
    exact hth 11 ls _ 75 293 79 _ hl.1 cl_X6_75 h_lt at_X6_79 dX6_endJob_11 dX6_endJob_14 (Or.inr ⟨dX6_endJob_15, dX6_endJob_18, dX6_endJob_21⟩)

set_option maxHeartbeats 4000000 in
set_option maxRecDepth 100000 in
theorem c_X6_endJob_x2 (cd : Int) (hT : WT T) (hC : WC T C) (hst : l.stackTraces = false) (hcd : 0 ≤ cd ∧ cd ≤ 999) (hj : 99 ≤ C 11 4) : qT l (ZY z) D (tyG cI cB cZ cS cJ) yX6_endJob cX6_endJob 2 (Option.some FieldType.int) 6 82 [.ref (x 0), .int (iI cd)] ([o6C x a b ap lat und] ++ suW b cI T ++ stW a cI C) EIS := by
  have q_w := hT.1
  have q_c := hC.1
  have q_l := hC.2.1
  refine qT_enter hst (zy_X z) (zy_U z) (by decide +kernel) ini_EIS (by decide) (Nat.le_of_ble_eq_true rfl) ⟨by decide, by decide⟩ (fun p e R s m args below meth c Q ls X hR hP hY hl hth => ?_)
  have hZ := hY.1
  obtain ⟨hx, hb, hml, hown, hts, hK⟩ := X
  have hl : lv_has ls 2 [(0, .ref (x 0)), (1, .int (iI cd))] := hl
  refine lv_iload_n hx hb dX6_endJob_0 rfl (lv_at hl 1 rfl) ?_
  refine q_if_lt (tgt := 11) hx hb dX6_endJob_1 (by decide) (by omega) (fun c_1 => absurd c_1 (by omega)) (fun c_1 => ?_)
  refine lv_iload_n hx hb dX6_endJob_4 rfl (lv_at hl 1 rfl) ?_
  refine q_sipush hx hb dX6_endJob_5 rfl ?_
  refine q_icmp_le (tgt := 22) hx hb dX6_endJob_8 (by decide) (by omega) (fun c_8 => ?_) (fun c_8 => absurd c_8 (by omega))
  refine lv_aload_n hx hb dX6_endJob_22 rfl (lv_at hl 0 rfl) ?_
  refine q_get hx hb hts hown hK hP ci_X6 0 rfl 2 (by decide) fl_X6_26 rfl dX6_endJob_23 ?_
  refine q_get hx hb hts hown hK hP ci_X5 10 rfl 15 (by decide) fl_X6_106 rfl dX6_endJob_26 ?_
  refine q_bipush hx hb dX6_endJob_29 rfl ?_
  refine q_icmp_lt (tgt := 45) hx hb dX6_endJob_31 (by decide) (by omega) (fun c_31 => absurd c_31 (by omega)) (fun c_31 => ?_)
  have h_lt := hZ.2.2.2.1 _ lt_X6_295
  exact hth 34 ls _ 268 295 272 _ hl.1 cl_X6_268 h_lt at_X6_272 dX6_endJob_34 dX6_endJob_37 (Or.inr ⟨dX6_endJob_38, dX6_endJob_41, dX6_endJob_44⟩)

set_option maxHeartbeats 4000000 in
set_option maxRecDepth 100000 in
theorem c_X6_setLimit_x1 (w : Int) (vv : Int) (hT : WT T) (hC : WC T C) (hst : l.stackTraces = false) (hr_w : rg w) (hno : ¬ (0 ≤ w ∧ w ≤ 3)) : qT l (ZY z) D (tyG cI cB cZ cS cJ) yX6_setLimit cX6_setLimit 4 (Option.some FieldType.int) 6 82 [.ref (x 0), .int (iI w), .int (iI vv)] ([o6C x a b ap lat und] ++ suW b cI T ++ stW a cI C) EIA := by
  have q_w := hT.1
  have q_c := hC.1
  have q_l := hC.2.1
  refine qT_enter hst (zy_X z) (zy_U z) (by decide +kernel) ini_EIA (by decide) (Nat.le_of_ble_eq_true rfl) ⟨by decide, by decide⟩ (fun p e R s m args below meth c Q ls X hR hP hY hl hth => ?_)
  have hZ := hY.1
  obtain ⟨hx, hb, hml, hown, hts, hK⟩ := X
  have hl : lv_has ls 4 [(0, .ref (x 0)), (1, .int (iI w)), (2, .int (iI vv))] := hl
  refine lv_iload_n hx hb dX6_setLimit_0 rfl (lv_at hl 1 rfl) ?_
  refine q_if_lt (tgt := 9) hx hb dX6_setLimit_1 (by decide) (by omega) (fun c_1 => ?_) (fun c_1 => ?_)
  · have h_lt := hZ.2.2.2.1 _ lt_X6_128
    exact hth 9 ls _ 75 128 79 _ hl.1 cl_X6_75 h_lt at_X6_79 dX6_setLimit_9 dX6_setLimit_12 (Or.inl ⟨dX6_setLimit_13, dX6_setLimit_15, dX6_setLimit_18⟩)
  · refine lv_iload_n hx hb dX6_setLimit_4 rfl (lv_at hl 1 rfl) ?_
    refine q_iconst hx hb dX6_setLimit_5 ?_
    refine q_icmp_lt (tgt := 19) hx hb dX6_setLimit_6 (by decide) (by omega) (fun c_6 => absurd c_6 (by omega)) (fun c_6 => ?_)
    have h_lt := hZ.2.2.2.1 _ lt_X6_128
    exact hth 9 ls _ 75 128 79 _ hl.1 cl_X6_75 h_lt at_X6_79 dX6_setLimit_9 dX6_setLimit_12 (Or.inl ⟨dX6_setLimit_13, dX6_setLimit_15, dX6_setLimit_18⟩)

set_option maxHeartbeats 4000000 in
set_option maxRecDepth 100000 in
theorem c_X6_setLimit_x2 (w : Int) (vv : Int) (hT : WT T) (hC : WC T C) (hst : l.stackTraces = false) (hw4 : 0 ≤ w ∧ w ≤ 3) (hr_vv : rg vv) (hno : ¬ (loK w ≤ vv ∧ vv ≤ hiK w)) : qT l (ZY z) D (tyG cI cB cZ cS cJ) yX6_setLimit cX6_setLimit 4 (Option.some FieldType.int) 6 82 [.ref (x 0), .int (iI w), .int (iI vv)] ([o6C x a b ap lat und] ++ suW b cI T ++ stW a cI C) EIA := by
  have q_w := hT.1
  have q_c := hC.1
  have q_l := hC.2.1
  have q_lo : 0 ≤ loK w ∧ loK w ≤ 101 := by unfold loK; split <;> omega
  have q_hi : 99 ≤ hiK w ∧ hiK w ≤ 1000 := by unfold hiK; (repeat' split) <;> omega
  refine qT_enter hst (zy_X z) (zy_U z) (by decide +kernel) ini_EIA (by decide) (Nat.le_of_ble_eq_true rfl) ⟨by decide, by decide⟩ (fun p e R s m args below meth c Q ls X hR hP hY hl hth => ?_)
  have hZ := hY.1
  obtain ⟨hx, hb, hml, hown, hts, hK⟩ := X
  have hl : lv_has ls 4 [(0, .ref (x 0)), (1, .int (iI w)), (2, .int (iI vv))] := hl
  refine lv_iload_n hx hb dX6_setLimit_0 rfl (lv_at hl 1 rfl) ?_
  refine q_if_lt (tgt := 9) hx hb dX6_setLimit_1 (by decide) (by omega) (fun c_1 => absurd c_1 (by omega)) (fun c_1 => ?_)
  refine lv_iload_n hx hb dX6_setLimit_4 rfl (lv_at hl 1 rfl) ?_
  refine q_iconst hx hb dX6_setLimit_5 ?_
  refine q_icmp_lt (tgt := 19) hx hb dX6_setLimit_6 (by decide) (by omega) (fun c_6 => ?_) (fun c_6 => absurd c_6 (by omega))
  refine lv_iload_n hx hb dX6_setLimit_19 rfl (lv_at hl 2 rfl) ?_
  refine va_gets hx hb (hZ.1.1) va_S.rf hown (hts _ fl_X6_221) (fun _ h => h) dX6_setLimit_20 ?_
  refine lv_iload_n hx hb dX6_setLimit_23 rfl (lv_at hl 1 rfl) ?_
  refine q_tald hx hb hZ.1.2.2.2.1 va_S.rf (i := w) (z := (loK w)) (by omega) rfl dX6_setLimit_24 ?_
  refine q_icmp_lt (tgt := 37) hx hb dX6_setLimit_25 (by decide) (by omega) (fun c_25 => ?_) (fun c_25 => ?_)
  · have h_lt := hZ.2.2.2.1 _ lt_X6_300
    exact hth 37 ls _ 75 300 79 _ hl.1 cl_X6_75 h_lt at_X6_79 dX6_setLimit_37 dX6_setLimit_40 (Or.inr ⟨dX6_setLimit_41, dX6_setLimit_44, dX6_setLimit_47⟩)
  · refine lv_iload_n hx hb dX6_setLimit_28 rfl (lv_at hl 2 rfl) ?_
    refine va_gets hx hb (hZ.1.2.1) va_S.rf hown (hts _ fl_X6_224) (fun _ h => h) dX6_setLimit_29 ?_
    refine lv_iload_n hx hb dX6_setLimit_32 rfl (lv_at hl 1 rfl) ?_
    refine q_tald hx hb hZ.1.2.2.2.2.1 va_S.rf (i := w) (z := (hiK w)) (by omega) rfl dX6_setLimit_33 ?_
    refine q_icmp_le (tgt := 48) hx hb dX6_setLimit_34 (by decide) (by omega) (fun c_34 => absurd c_34 (by omega)) (fun c_34 => ?_)
    have h_lt := hZ.2.2.2.1 _ lt_X6_300
    exact hth 37 ls _ 75 300 79 _ hl.1 cl_X6_75 h_lt at_X6_79 dX6_setLimit_37 dX6_setLimit_40 (Or.inr ⟨dX6_setLimit_41, dX6_setLimit_44, dX6_setLimit_47⟩)
