variable {l : Launch} {z : Nat → Nat} {D : va_G} {cI cB cZ cS cJ : ClassId} {T C E : Nat → Int → Int} {x a b ap b2 : Nat → Nat} {lat und pf pm pt pl pw f1 f2 f3 f4 f5 f6 hn gc stop sinp srea spag sjob sdup : Int} {ht e0 e1 e2 e3 e4 e5 e6 e7 e8 e9 : Int → Int}
abbrev stW (a : Nat → Nat) (cI : ClassId) (C : Nat → Int → Int) : va_W := [((a 0), .inr (5, [.ref (a 1), .ref (a 2), .ref (a 3), .ref (a 4), .ref (a 5), .ref (a 6), .ref (a 7), .ref (a 8), .ref (a 9), .ref (a 10), .ref (a 11), .int (iI (C 11 0)), .int (iI (C 11 1)), .int (iI (C 11 2)), .int (iI (C 11 3)), .int (iI (C 11 4)), .int (iI (C 11 5))])), ((a 1), .inl (cI, 40, .inl (ai (C 0)))), ((a 2), .inl (cI, 40, .inl (ai (C 1)))), ((a 3), .inl (cI, 40, .inl (ai (C 2)))), ((a 4), .inl (cI, 40, .inl (ai (C 3)))), ((a 5), .inl (cI, 80, .inl (ai (C 4)))), ((a 6), .inl (cI, 80, .inl (ai (C 5)))), ((a 7), .inl (cI, 80, .inl (ai (C 6)))), ((a 8), .inl (cI, 139, .inl (ai (C 7)))), ((a 9), .inl (cI, 4, .inl (ai (C 8)))), ((a 10), .inl (cI, 9, .inl (ai (C 9)))), ((a 11), .inr (1, [.ref (a 12), .int (iI (C 11 7))])), ((a 12), .inl (cI, 6, .inl (ai (C 10))))]
abbrev suW (b : Nat → Nat) (cI : ClassId) (T : Nat → Int → Int) : va_W := [((b 0), .inr (4, [.ref (b 1), .ref (b 2), .ref (b 3), .ref (b 4), .ref (b 5), .ref (b 6), .ref (b 7), .ref (b 8), .int (iI (T 8 0)), .int (iI (T 8 1)), .int (iI (T 8 2)), .int (iI (T 8 3))])), ((b 1), .inl (cI, 40, .inl (ai (T 0)))), ((b 2), .inl (cI, 40, .inl (ai (T 1)))), ((b 3), .inl (cI, 40, .inl (ai (T 2)))), ((b 4), .inl (cI, 40, .inl (ai (T 3)))), ((b 5), .inl (cI, 40, .inl (ai (T 4)))), ((b 6), .inl (cI, 40, .inl (ai (T 5)))), ((b 7), .inl (cI, 40, .inl (ai (T 6)))), ((b 8), .inl (cI, 4, .inl (ai (T 7))))]
abbrev o6C (x a b ap : Nat → Nat) (lat und : Int) : Nat × va_E := ((x 0), .inr (6, [.ref (ap 0), .ref (b 0), .ref (a 0), .ref (x 1), .int (iI lat), .int (iI und), .ref (x 2), .ref (x 3), .ref (x 4), .ref (x 6)]))

set_option maxHeartbeats 4000000 in
set_option maxRecDepth 100000 in
theorem c_X6_size (w : Int) (hT : WT T) (hC : WC T C) (hw : 0 ≤ w ∧ w ≤ 11) : qP l D (tyG cI cB cZ cS cJ) yX6_size cX6_size 2 (Option.some FieldType.int) 2 45 [.ref (x 0), .int (iI w)] ([o6C x a b ap lat und] ++ suW b cI T ++ stW a cI C ++ [((x 4), .inr (3, [.int (iI pf), .int (iI pm), .int (iI pt), .int (iI pl), .int (iI pw)])), ((x 6), .inr (0, [.ref (x 7), .int (iI f1), .int (iI f2), .int (iI f3), .int (iI f4), .int (iI f5), .int (iI f6)])), ((x 7), .inr (1, [.ref (x 8), .int (iI hn)])), ((x 8), .inl (cI, 6, .inl (ai ht)))]) (some (.int (iI (sizV T C und w)))) := by
  have q_w := hT.1
  have q_c := hC.1
  have q_l := hC.2.1
  refine qP_enter (by decide) (Nat.le_of_ble_eq_true rfl) (nar_i _) (fun p e R s m args below meth c Q ls X hR hP hl hret => ?_)
  obtain ⟨hx, hb, hml, hown, hts, hK⟩ := X
  have hl : lv_has ls 2 [(0, .ref (x 0)), (1, .int (iI w))] := hl
  refine lv_iload_n hx hb dX6_size_0 rfl (lv_at hl 1 rfl) ?_
  have rg_1 : rg w := by omega
  by_cases k_1_0 : w = 0
  · refine q_tabIn (tgt := 64) hx hb dX6_size_1 rg_1 (by omega) (by omega) (by rw [k_1_0] <;> rfl) (by decide) ?_
    subst k_1_0
    refine lv_aload_n hx hb dX6_size_64 rfl (lv_at hl 0 rfl) ?_
    refine q_get hx hb hts hown hK hP ci_X6 0 rfl 1 (by decide) fl_X6_19 rfl dX6_size_65 ?_
    refine q_get hx hb hts hown hK hP ci_X4 1 rfl 8 (by decide) fl_X6_90 rfl dX6_size_68 ?_
    exact q_ret (hret 71 ls dX6_size_71) (by first | rfl | (exact bI_1 (by omega)) | omega)
  by_cases k_1_1 : w = 1
  · refine q_tabIn (tgt := 72) hx hb dX6_size_1 rg_1 (by omega) (by omega) (by rw [k_1_1] <;> rfl) (by decide) ?_
    subst k_1_1
    refine lv_aload_n hx hb dX6_size_72 rfl (lv_at hl 0 rfl) ?_
    refine q_callP (As := []) (rest := []) hx hb hml hown hts hK c_X6_stackSize yi_X6_stackSize ml_X6_93 (by rw [hR]; decide) (hP.sub [0, 1, 10] rfl) 0 rfl rfl rfl rfl hl.1 (lv_room (Nat.le_of_ble_eq_true rfl)) dX6_size_73 ⟨by rw [hR]; exact Nat.zero_le _, by rw [hR]; exact Nat.zero_le _⟩ ?_
    exact q_ret (hret 76 ls dX6_size_76) (by first | rfl | (exact bI_1 (by omega)) | omega)
  by_cases k_1_2 : w = 2
  · refine q_tabIn (tgt := 77) hx hb dX6_size_1 rg_1 (by omega) (by omega) (by rw [k_1_2] <;> rfl) (by decide) ?_
    subst k_1_2
    refine lv_aload_n hx hb dX6_size_77 rfl (lv_at hl 0 rfl) ?_
    refine q_get hx hb hts hown hK hP ci_X6 0 rfl 2 (by decide) fl_X6_26 rfl dX6_size_78 ?_
    refine q_get hx hb hts hown hK hP ci_X5 10 rfl 12 (by decide) fl_X6_97 rfl dX6_size_81 ?_
    exact q_ret (hret 84 ls dX6_size_84) (by first | rfl | (exact bI_1 (by omega)) | omega)
  by_cases k_1_3 : w = 3
  · refine q_tabIn (tgt := 85) hx hb dX6_size_1 rg_1 (by omega) (by omega) (by rw [k_1_3] <;> rfl) (by decide) ?_
    subst k_1_3
    refine lv_aload_n hx hb dX6_size_85 rfl (lv_at hl 0 rfl) ?_
    refine q_get hx hb hts hown hK hP ci_X6 0 rfl 2 (by decide) fl_X6_26 rfl dX6_size_86 ?_
    refine q_get hx hb hts hown hK hP ci_X5 10 rfl 13 (by decide) fl_X6_100 rfl dX6_size_89 ?_
    exact q_ret (hret 92 ls dX6_size_92) (by first | rfl | (exact bI_1 (by omega)) | omega)
  by_cases k_1_4 : w = 4
  · refine q_tabIn (tgt := 93) hx hb dX6_size_1 rg_1 (by omega) (by omega) (by rw [k_1_4] <;> rfl) (by decide) ?_
    subst k_1_4
    refine lv_aload_n hx hb dX6_size_93 rfl (lv_at hl 0 rfl) ?_
    refine q_get hx hb hts hown hK hP ci_X6 0 rfl 2 (by decide) fl_X6_26 rfl dX6_size_94 ?_
    refine q_get hx hb hts hown hK hP ci_X5 10 rfl 14 (by decide) fl_X6_103 rfl dX6_size_97 ?_
    exact q_ret (hret 100 ls dX6_size_100) (by first | rfl | (exact bI_1 (by omega)) | omega)
  by_cases k_1_5 : w = 5
  · refine q_tabIn (tgt := 101) hx hb dX6_size_1 rg_1 (by omega) (by omega) (by rw [k_1_5] <;> rfl) (by decide) ?_
    subst k_1_5
    refine lv_aload_n hx hb dX6_size_101 rfl (lv_at hl 0 rfl) ?_
    refine q_get hx hb hts hown hK hP ci_X6 0 rfl 2 (by decide) fl_X6_26 rfl dX6_size_102 ?_
    refine q_get hx hb hts hown hK hP ci_X5 10 rfl 15 (by decide) fl_X6_106 rfl dX6_size_105 ?_
    exact q_ret (hret 108 ls dX6_size_108) (by first | rfl | (exact bI_1 (by omega)) | omega)
  by_cases k_1_6 : w = 6
  · refine q_tabIn (tgt := 109) hx hb dX6_size_1 rg_1 (by omega) (by omega) (by rw [k_1_6] <;> rfl) (by decide) ?_
    subst k_1_6
    refine lv_aload_n hx hb dX6_size_109 rfl (lv_at hl 0 rfl) ?_
    refine q_get hx hb hts hown hK hP ci_X6 0 rfl 2 (by decide) fl_X6_26 rfl dX6_size_110 ?_
    refine q_get hx hb hts hown hK hP ci_X5 10 rfl 16 (by decide) fl_X6_109 rfl dX6_size_113 ?_
    refine q_if_eq (tgt := 123) hx hb dX6_size_116 (by decide) (by omega) (fun c_116 => ?_) (fun c_116 => ?_)
    · refine q_iconst hx hb dX6_size_123 ?_
      exact q_ret (hret 124 ls dX6_size_124) (by show _ = C 11 5; omega)
    · refine q_iconst hx hb dX6_size_119 ?_
      refine lv_goto (tgt := 124) hx hb dX6_size_120 (by decide) ?_
      exact q_ret (hret 124 ls dX6_size_124) (by show _ = C 11 5; omega)
  by_cases k_1_7 : w = 7
  · refine q_tabIn (tgt := 125) hx hb dX6_size_1 rg_1 (by omega) (by omega) (by rw [k_1_7] <;> rfl) (by decide) ?_
    subst k_1_7
    refine lv_aload_n hx hb dX6_size_125 rfl (lv_at hl 0 rfl) ?_
    refine q_get hx hb hts hown hK hP ci_X6 0 rfl 1 (by decide) fl_X6_19 rfl dX6_size_126 ?_
    refine q_get hx hb hts hown hK hP ci_X4 1 rfl 9 (by decide) fl_X6_58 rfl dX6_size_129 ?_
    exact q_ret (hret 132 ls dX6_size_132) (by first | rfl | (exact bI_1 (by omega)) | omega)
  by_cases k_1_8 : w = 8
  · refine q_tabIn (tgt := 133) hx hb dX6_size_1 rg_1 (by omega) (by omega) (by rw [k_1_8] <;> rfl) (by decide) ?_
    subst k_1_8
    refine lv_aload_n hx hb dX6_size_133 rfl (lv_at hl 0 rfl) ?_
    refine q_get hx hb hts hown hK hP ci_X6 0 rfl 1 (by decide) fl_X6_19 rfl dX6_size_134 ?_
    refine q_get hx hb hts hown hK hP ci_X4 1 rfl 10 (by decide) fl_X6_62 rfl dX6_size_137 ?_
    exact q_ret (hret 140 ls dX6_size_140) (by first | rfl | (exact bI_1 (by omega)) | omega)
  by_cases k_1_9 : w = 9
  · refine q_tabIn (tgt := 141) hx hb dX6_size_1 rg_1 (by omega) (by omega) (by rw [k_1_9] <;> rfl) (by decide) ?_
    subst k_1_9
    refine lv_aload_n hx hb dX6_size_141 rfl (lv_at hl 0 rfl) ?_
    refine q_get hx hb hts hown hK hP ci_X6 0 rfl 2 (by decide) fl_X6_26 rfl dX6_size_142 ?_
    refine q_get hx hb hts hown hK hP ci_X5 10 rfl 10 (by decide) fl_X6_113 rfl dX6_size_145 ?_
    refine lv_aload_n hx hb dX6_size_148 rfl (lv_at hl 0 rfl) ?_
    refine q_get hx hb hts hown hK hP ci_X6 0 rfl 1 (by decide) fl_X6_19 rfl dX6_size_149 ?_
    refine q_get hx hb hts hown hK hP ci_X4 1 rfl 10 (by decide) fl_X6_62 rfl dX6_size_152 ?_
    refine q_callP (As := [.int (iI (T 8 2))]) (rest := []) hx hb hml hown hts hK (c_X1_usual (gc := C 11 6) (T 8 2) (by omega) (by exact mz_C hC) (by omega) (by exact hC.2.2.2.1)) yi_X1_usual ml_X6_117 (by rw [hR]; decide) (hP.sub [21, 22] rfl) 0 rfl rfl rfl rfl hl.1 (lv_room (Nat.le_of_ble_eq_true rfl)) dX6_size_155 ⟨by rw [hR]; exact Nat.zero_le _, by rw [hR]; exact Nat.zero_le _⟩ ?_
    exact q_ret (hret 158 ls dX6_size_158) (by first | rfl | (exact bI_1 (by omega)) | omega)
  by_cases k_1_10 : w = 10
  · refine q_tabIn (tgt := 159) hx hb dX6_size_1 rg_1 (by omega) (by omega) (by rw [k_1_10] <;> rfl) (by decide) ?_
    subst k_1_10
    refine lv_aload_n hx hb dX6_size_159 rfl (lv_at hl 0 rfl) ?_
    refine q_callP (As := []) (rest := []) hx hb hml hown hts hK (c_X6_halves (by omega)) yi_X6_halves ml_X6_122 (by rw [hR]; decide) (hP.sub [0, 1, 10, 14] rfl) 0 rfl rfl rfl rfl hl.1 (lv_room (Nat.le_of_ble_eq_true rfl)) dX6_size_160 ⟨by rw [hR]; exact Nat.zero_le _, by rw [hR]; exact Nat.zero_le _⟩ ?_
    exact q_ret (hret 163 ls dX6_size_163) (by first | rfl | (exact bI_1 (by omega)) | omega)
  by_cases k_1_11 : w = 11
  · refine q_tabIn (tgt := 164) hx hb dX6_size_1 rg_1 (by omega) (by omega) (by rw [k_1_11] <;> rfl) (by decide) ?_
    subst k_1_11
    refine lv_aload_n hx hb dX6_size_164 rfl (lv_at hl 0 rfl) ?_
    refine q_get hx hb hts hown hK hP ci_X6 0 rfl 5 (by decide) fl_X6_125 rfl dX6_size_165 ?_
    exact q_ret (hret 168 ls dX6_size_168) (by first | rfl | (exact bI_1 (by omega)) | omega)
  exact absurd trivial (by omega)

set_option maxHeartbeats 4000000 in
set_option maxRecDepth 100000 in
theorem c_X6_limit (w : Int) (hT : WT T) (hC : WC T C) (hw : 0 ≤ w ∧ w ≤ 3) : qP l D (tyG cI cB cZ cS cJ) yX6_limit cX6_limit 2 (Option.some FieldType.int) 0 0 [.ref (x 0), .int (iI w)] ([o6C x a b ap lat und] ++ suW b cI T ++ stW a cI C ++ [((x 4), .inr (3, [.int (iI pf), .int (iI pm), .int (iI pt), .int (iI pl), .int (iI pw)])), ((x 6), .inr (0, [.ref (x 7), .int (iI f1), .int (iI f2), .int (iI f3), .int (iI f4), .int (iI f5), .int (iI f6)])), ((x 7), .inr (1, [.ref (x 8), .int (iI hn)])), ((x 8), .inl (cI, 6, .inl (ai ht)))]) (some (.int (iI (C 8 w)))) := by
  have q_w := hT.1
  have q_c := hC.1
  have q_l := hC.2.1
  refine qP_enter (by decide) (Nat.le_of_ble_eq_true rfl) (nar_i _) (fun p e R s m args below meth c Q ls X hR hP hl hret => ?_)
  obtain ⟨hx, hb, hml, hown, hts, hK⟩ := X
  have hl : lv_has ls 2 [(0, .ref (x 0)), (1, .int (iI w))] := hl
  refine lv_iload_n hx hb dX6_limit_0 rfl (lv_at hl 1 rfl) ?_
  refine q_if_lt (tgt := 9) hx hb dX6_limit_1 (by decide) (by omega) (fun c_1 => absurd c_1 (by omega)) (fun c_1 => ?_)
  refine lv_iload_n hx hb dX6_limit_4 rfl (lv_at hl 1 rfl) ?_
  refine q_iconst hx hb dX6_limit_5 ?_
  refine q_icmp_lt (tgt := 19) hx hb dX6_limit_6 (by decide) (by omega) (fun c_6 => ?_) (fun c_6 => absurd c_6 (by omega))
  refine lv_aload_n hx hb dX6_limit_19 rfl (lv_at hl 0 rfl) ?_
  refine q_get hx hb hts hown hK hP ci_X6 0 rfl 2 (by decide) fl_X6_26 rfl dX6_limit_20 ?_
  refine q_get hx hb hts hown hK hP ci_X5 10 rfl 8 (by decide) fl_X6_130 rfl dX6_limit_23 ?_
  refine lv_iload_n hx hb dX6_limit_26 rfl (lv_at hl 1 rfl) ?_
  refine q_iald hx hb hK hP 19 0 rfl rfl (z := w) (v := ((C 8) w)) (by omega) rfl dX6_limit_27 ?_
  exact q_ret (hret 28 ls dX6_limit_28) (by first | rfl | omega)

set_option maxHeartbeats 4000000 in
set_option maxRecDepth 100000 in
theorem c_X6_sheet (sh : Int) (w : Int) (hT : WT T) (hC : WC T C) (hw : 0 ≤ w ∧ w ≤ 7) (hsh : 0 ≤ sh ∧ sh < T 8 0) : qP l D (tyG cI cB cZ cS cJ) yX6_sheet cX6_sheet 3 (Option.some FieldType.int) 1 21 [.ref (x 0), .int (iI sh), .int (iI w)] ([o6C x a b ap lat und] ++ suW b cI T ++ stW a cI C ++ [((x 4), .inr (3, [.int (iI pf), .int (iI pm), .int (iI pt), .int (iI pl), .int (iI pw)])), ((x 6), .inr (0, [.ref (x 7), .int (iI f1), .int (iI f2), .int (iI f3), .int (iI f4), .int (iI f5), .int (iI f6)])), ((x 7), .inr (1, [.ref (x 8), .int (iI hn)])), ((x 8), .inl (cI, 6, .inl (ai ht)))]) (some (.int (iI (shtV T C sh w)))) := by
  have q_w := hT.1
  have q_c := hC.1
  have q_l := hC.2.1
  refine qP_enter (by decide) (Nat.le_of_ble_eq_true rfl) (nar_i _) (fun p e R s m args below meth c Q ls X hR hP hl hret => ?_)
  obtain ⟨hx, hb, hml, hown, hts, hK⟩ := X
  have hl : lv_has ls 3 [(0, .ref (x 0)), (1, .int (iI sh)), (2, .int (iI w))] := hl
  refine lv_aload_n hx hb dX6_sheet_0 rfl (lv_at hl 0 rfl) ?_
  refine lv_iload_n hx hb dX6_sheet_1 rfl (lv_at hl 1 rfl) ?_
  refine q_callP (As := [.int (iI sh)]) (rest := []) hx hb hml hown hts hK (c_X6_isSheet (sh) (by omega) (by omega)) yi_X6_isSheet ml_X6_134 (by rw [hR]; decide) (hP.sub [0, 1] rfl) 0 rfl rfl rfl rfl hl.1 (lv_room (Nat.le_of_ble_eq_true rfl)) dX6_sheet_2 ⟨by rw [hR]; exact Nat.zero_le _, by rw [hR]; exact Nat.zero_le _⟩ ?_
  refine q_ifb_ne (tgt := 18) hx hb dX6_sheet_5 (by decide) (fun c_5 => ?_) (fun c_5 => absurd c_5 (by omega))
  refine lv_iload_n hx hb dX6_sheet_18 rfl (lv_at hl 2 rfl) ?_
  have rg_19 : rg w := by omega
  by_cases k_19_0 : w = 0
  · refine q_tabIn (tgt := 64) hx hb dX6_sheet_19 rg_19 (by omega) (by omega) (by rw [k_19_0] <;> rfl) (by decide) ?_
    subst k_19_0
    refine lv_aload_n hx hb dX6_sheet_64 rfl (lv_at hl 0 rfl) ?_
    refine q_get hx hb hts hown hK hP ci_X6 0 rfl 1 (by decide) fl_X6_19 rfl dX6_sheet_65 ?_
    refine q_get hx hb hts hown hK hP ci_X4 1 rfl 0 (by decide) fl_X6_143 rfl dX6_sheet_68 ?_
    refine lv_iload_n hx hb dX6_sheet_71 rfl (lv_at hl 1 rfl) ?_
    refine q_iald hx hb hK hP 2 0 rfl rfl (z := sh) (v := ((T 0) sh)) (by omega) rfl dX6_sheet_72 ?_
    exact q_ret (hret 73 ls dX6_sheet_73) (by first | rfl | omega)
  by_cases k_19_1 : w = 1
  · refine q_tabIn (tgt := 74) hx hb dX6_sheet_19 rg_19 (by omega) (by omega) (by rw [k_19_1] <;> rfl) (by decide) ?_
    subst k_19_1
    refine lv_aload_n hx hb dX6_sheet_74 rfl (lv_at hl 0 rfl) ?_
    refine q_get hx hb hts hown hK hP ci_X6 0 rfl 1 (by decide) fl_X6_19 rfl dX6_sheet_75 ?_
    refine q_get hx hb hts hown hK hP ci_X4 1 rfl 1 (by decide) fl_X6_146 rfl dX6_sheet_78 ?_
    refine lv_iload_n hx hb dX6_sheet_81 rfl (lv_at hl 1 rfl) ?_
    refine q_iald hx hb hK hP 3 0 rfl rfl (z := sh) (v := ((T 1) sh)) (by omega) rfl dX6_sheet_82 ?_
    exact q_ret (hret 83 ls dX6_sheet_83) (by first | rfl | omega)
  by_cases k_19_2 : w = 2
  · refine q_tabIn (tgt := 84) hx hb dX6_sheet_19 rg_19 (by omega) (by omega) (by rw [k_19_2] <;> rfl) (by decide) ?_
    subst k_19_2
    refine lv_aload_n hx hb dX6_sheet_84 rfl (lv_at hl 0 rfl) ?_
    refine q_get hx hb hts hown hK hP ci_X6 0 rfl 2 (by decide) fl_X6_26 rfl dX6_sheet_85 ?_
    refine q_get hx hb hts hown hK hP ci_X5 10 rfl 1 (by decide) fl_X6_149 rfl dX6_sheet_88 ?_
    refine lv_iload_n hx hb dX6_sheet_91 rfl (lv_at hl 1 rfl) ?_
    refine q_iald hx hb hK hP 12 0 rfl rfl (z := sh) (v := ((C 1) sh)) (by omega) rfl dX6_sheet_92 ?_
    exact q_ret (hret 93 ls dX6_sheet_93) (by first | rfl | omega)
  by_cases k_19_3 : w = 3
  · refine q_tabIn (tgt := 94) hx hb dX6_sheet_19 rg_19 (by omega) (by omega) (by rw [k_19_3] <;> rfl) (by decide) ?_
    subst k_19_3
    refine lv_aload_n hx hb dX6_sheet_94 rfl (lv_at hl 0 rfl) ?_
    refine q_get hx hb hts hown hK hP ci_X6 0 rfl 1 (by decide) fl_X6_19 rfl dX6_sheet_95 ?_
    refine q_get hx hb hts hown hK hP ci_X4 1 rfl 3 (by decide) fl_X6_152 rfl dX6_sheet_98 ?_
    refine lv_iload_n hx hb dX6_sheet_101 rfl (lv_at hl 1 rfl) ?_
    refine q_iald hx hb hK hP 5 0 rfl rfl (z := sh) (v := ((T 3) sh)) (by omega) rfl dX6_sheet_102 ?_
    exact q_ret (hret 103 ls dX6_sheet_103) (by first | rfl | omega)
  by_cases k_19_4 : w = 4
  · refine q_tabIn (tgt := 104) hx hb dX6_sheet_19 rg_19 (by omega) (by omega) (by rw [k_19_4] <;> rfl) (by decide) ?_
    subst k_19_4
    refine lv_aload_n hx hb dX6_sheet_104 rfl (lv_at hl 0 rfl) ?_
    refine q_get hx hb hts hown hK hP ci_X6 0 rfl 1 (by decide) fl_X6_19 rfl dX6_sheet_105 ?_
    refine q_get hx hb hts hown hK hP ci_X4 1 rfl 4 (by decide) fl_X6_155 rfl dX6_sheet_108 ?_
    refine lv_iload_n hx hb dX6_sheet_111 rfl (lv_at hl 1 rfl) ?_
    refine q_iald hx hb hK hP 6 0 rfl rfl (z := sh) (v := ((T 4) sh)) (by omega) rfl dX6_sheet_112 ?_
    exact q_ret (hret 113 ls dX6_sheet_113) (by first | rfl | omega)
  by_cases k_19_5 : w = 5
  · refine q_tabIn (tgt := 114) hx hb dX6_sheet_19 rg_19 (by omega) (by omega) (by rw [k_19_5] <;> rfl) (by decide) ?_
    subst k_19_5
    refine lv_aload_n hx hb dX6_sheet_114 rfl (lv_at hl 0 rfl) ?_
    refine q_get hx hb hts hown hK hP ci_X6 0 rfl 1 (by decide) fl_X6_19 rfl dX6_sheet_115 ?_
    refine q_get hx hb hts hown hK hP ci_X4 1 rfl 5 (by decide) fl_X6_158 rfl dX6_sheet_118 ?_
    refine lv_iload_n hx hb dX6_sheet_121 rfl (lv_at hl 1 rfl) ?_
    refine q_iald hx hb hK hP 7 0 rfl rfl (z := sh) (v := ((T 5) sh)) (by omega) rfl dX6_sheet_122 ?_
    exact q_ret (hret 123 ls dX6_sheet_123) (by first | rfl | omega)
  by_cases k_19_6 : w = 6
  · refine q_tabIn (tgt := 124) hx hb dX6_sheet_19 rg_19 (by omega) (by omega) (by rw [k_19_6] <;> rfl) (by decide) ?_
    subst k_19_6
    refine lv_aload_n hx hb dX6_sheet_124 rfl (lv_at hl 0 rfl) ?_
    refine q_get hx hb hts hown hK hP ci_X6 0 rfl 2 (by decide) fl_X6_26 rfl dX6_sheet_125 ?_
    refine q_get hx hb hts hown hK hP ci_X5 10 rfl 2 (by decide) fl_X6_161 rfl dX6_sheet_128 ?_
    refine lv_iload_n hx hb dX6_sheet_131 rfl (lv_at hl 1 rfl) ?_
    refine q_iald hx hb hK hP 13 0 rfl rfl (z := sh) (v := ((C 2) sh)) (by omega) rfl dX6_sheet_132 ?_
    exact q_ret (hret 133 ls dX6_sheet_133) (by first | rfl | omega)
  by_cases k_19_7 : w = 7
  · refine q_tabIn (tgt := 134) hx hb dX6_sheet_19 rg_19 (by omega) (by omega) (by rw [k_19_7] <;> rfl) (by decide) ?_
    subst k_19_7
    refine lv_aload_n hx hb dX6_sheet_134 rfl (lv_at hl 0 rfl) ?_
    refine q_get hx hb hts hown hK hP ci_X6 0 rfl 2 (by decide) fl_X6_26 rfl dX6_sheet_135 ?_
    refine q_get hx hb hts hown hK hP ci_X5 10 rfl 0 (by decide) fl_X6_164 rfl dX6_sheet_138 ?_
    refine lv_iload_n hx hb dX6_sheet_141 rfl (lv_at hl 1 rfl) ?_
    refine q_iald hx hb hK hP 11 0 rfl rfl (z := sh) (v := ((C 0) sh)) (by omega) rfl dX6_sheet_142 ?_
    exact q_ret (hret 143 ls dX6_sheet_143) (by first | rfl | omega)
  exact absurd trivial (by omega)

set_option maxHeartbeats 4000000 in
set_option maxRecDepth 100000 in
theorem c_X6_stack (k : Int) (hT : WT T) (hC : WC T C) (hk : rg k) : qP l D (tyG cI cB cZ cS cJ) yX6_stack cX6_stack 2 (Option.some FieldType.int) 1 20 [.ref (x 0), .int (iI k)] ([o6C x a b ap lat und] ++ suW b cI T ++ stW a cI C ++ [((x 4), .inr (3, [.int (iI pf), .int (iI pm), .int (iI pt), .int (iI pl), .int (iI pw)])), ((x 6), .inr (0, [.ref (x 7), .int (iI f1), .int (iI f2), .int (iI f3), .int (iI f4), .int (iI f5), .int (iI f6)])), ((x 7), .inr (1, [.ref (x 8), .int (iI hn)])), ((x 8), .inl (cI, 6, .inl (ai ht)))]) (some (.int (iI (if 0 ≤ k ∧ k < T 8 0 - C 11 0 then C 11 0 + k else -1)))) := by
  have q_w := hT.1
  have q_c := hC.1
  have q_l := hC.2.1
  refine qP_enter (by decide) (Nat.le_of_ble_eq_true rfl) (nar_i _) (fun p e R s m args below meth c Q ls X hR hP hl hret => ?_)
  obtain ⟨hx, hb, hml, hown, hts, hK⟩ := X
  have hl : lv_has ls 2 [(0, .ref (x 0)), (1, .int (iI k))] := hl
  refine lv_iload_n hx hb dX6_stack_0 rfl (lv_at hl 1 rfl) ?_
  refine q_if_lt (tgt := 24) hx hb dX6_stack_1 (by decide) (by omega) (fun c_1 => ?_) (fun c_1 => ?_)
  · refine q_iconst hx hb dX6_stack_24 ?_
    exact q_ret (hret 25 ls dX6_stack_25) (by first | rw [if_pos (by omega)] | rw [if_neg (by omega)])
  · refine lv_iload_n hx hb dX6_stack_4 rfl (lv_at hl 1 rfl) ?_
    refine lv_aload_n hx hb dX6_stack_5 rfl (lv_at hl 0 rfl) ?_
    refine q_callP (As := []) (rest := [.int (iI k)]) hx hb hml hown hts hK c_X6_stackSize yi_X6_stackSize ml_X6_93 (by rw [hR]; decide) (hP.sub [0, 1, 10] rfl) 0 rfl rfl rfl rfl hl.1 (lv_room (Nat.le_of_ble_eq_true rfl)) dX6_stack_6 ⟨by rw [hR]; exact Nat.zero_le _, by rw [hR]; exact Nat.zero_le _⟩ ?_
    refine q_icmp_ge (tgt := 24) hx hb dX6_stack_9 (by decide) (by omega) (fun c_9 => ?_) (fun c_9 => ?_)
    · refine q_iconst hx hb dX6_stack_24 ?_
      exact q_ret (hret 25 ls dX6_stack_25) (by first | rw [if_pos (by omega)] | rw [if_neg (by omega)])
    · refine lv_aload_n hx hb dX6_stack_12 rfl (lv_at hl 0 rfl) ?_
      refine q_get hx hb hts hown hK hP ci_X6 0 rfl 2 (by decide) fl_X6_26 rfl dX6_stack_13 ?_
      refine q_get hx hb hts hown hK hP ci_X5 10 rfl 11 (by decide) fl_X6_167 rfl dX6_stack_16 ?_
      refine lv_iload_n hx hb dX6_stack_19 rfl (lv_at hl 1 rfl) ?_
      refine q_iadd hx hb dX6_stack_20 ?_
      refine lv_goto (tgt := 25) hx hb dX6_stack_21 (by decide) ?_
      exact q_ret (hret 25 ls dX6_stack_25) (by first | rw [if_pos (by omega)] | rw [if_neg (by omega)])

set_option maxHeartbeats 4000000 in
set_option maxRecDepth 100000 in
theorem c_X6_path (k : Int) (hT : WT T) (hC : WC T C) (hk : rg k) : qP l D (tyG cI cB cZ cS cJ) yX6_path cX6_path 2 (Option.some FieldType.int) 1 20 [.ref (x 0), .int (iI k)] ([o6C x a b ap lat und] ++ suW b cI T ++ stW a cI C ++ [((x 4), .inr (3, [.int (iI pf), .int (iI pm), .int (iI pt), .int (iI pl), .int (iI pw)])), ((x 6), .inr (0, [.ref (x 7), .int (iI f1), .int (iI f2), .int (iI f3), .int (iI f4), .int (iI f5), .int (iI f6)])), ((x 7), .inr (1, [.ref (x 8), .int (iI hn)])), ((x 8), .inl (cI, 6, .inl (ai ht)))]) (some (.int (iI (if 0 ≤ k ∧ k < C 11 1 then C 11 0 - C 11 1 + k else -1)))) := by
  have q_w := hT.1
  have q_c := hC.1
  have q_l := hC.2.1
  refine qP_enter (by decide) (Nat.le_of_ble_eq_true rfl) (nar_i _) (fun p e R s m args below meth c Q ls X hR hP hl hret => ?_)
  obtain ⟨hx, hb, hml, hown, hts, hK⟩ := X
  have hl : lv_has ls 2 [(0, .ref (x 0)), (1, .int (iI k))] := hl
  refine lv_iload_n hx hb dX6_path_0 rfl (lv_at hl 1 rfl) ?_
  refine q_if_lt (tgt := 24) hx hb dX6_path_1 (by decide) (by omega) (fun c_1 => ?_) (fun c_1 => ?_)
  · refine q_iconst hx hb dX6_path_24 ?_
    exact q_ret (hret 25 ls dX6_path_25) (by first | rw [if_pos (by omega)] | rw [if_neg (by omega)])
  · refine lv_iload_n hx hb dX6_path_4 rfl (lv_at hl 1 rfl) ?_
    refine lv_aload_n hx hb dX6_path_5 rfl (lv_at hl 0 rfl) ?_
    refine q_get hx hb hts hown hK hP ci_X6 0 rfl 2 (by decide) fl_X6_26 rfl dX6_path_6 ?_
    refine q_get hx hb hts hown hK hP ci_X5 10 rfl 12 (by decide) fl_X6_97 rfl dX6_path_9 ?_
    refine q_icmp_ge (tgt := 24) hx hb dX6_path_12 (by decide) (by omega) (fun c_12 => ?_) (fun c_12 => ?_)
    · refine q_iconst hx hb dX6_path_24 ?_
      exact q_ret (hret 25 ls dX6_path_25) (by first | rw [if_pos (by omega)] | rw [if_neg (by omega)])
    · refine lv_aload_n hx hb dX6_path_15 rfl (lv_at hl 0 rfl) ?_
      refine q_callP (As := []) (rest := []) hx hb hml hown hts hK c_X6_firstInPath yi_X6_firstInPath ml_X6_170 (by rw [hR]; decide) (hP.sub [0, 10] rfl) 0 rfl rfl rfl rfl hl.1 (lv_room (Nat.le_of_ble_eq_true rfl)) dX6_path_16 ⟨by rw [hR]; exact Nat.zero_le _, by rw [hR]; exact Nat.zero_le _⟩ ?_
      refine lv_iload_n hx hb dX6_path_19 rfl (lv_at hl 1 rfl) ?_
      refine q_iadd hx hb dX6_path_20 ?_
      refine lv_goto (tgt := 25) hx hb dX6_path_21 (by decide) ?_
      exact q_ret (hret 25 ls dX6_path_25) (by first | rw [if_pos (by omega)] | rw [if_neg (by omega)])

set_option maxHeartbeats 4000000 in
set_option maxRecDepth 100000 in
theorem c_X6_page (pp : Int) (w : Int) (hT : WT T) (hC : WC T C) (hw : 0 ≤ w ∧ w ≤ 2) (hpp : 0 ≤ pp ∧ pp < C 11 3) : qP l D (tyG cI cB cZ cS cJ) yX6_page cX6_page 3 (Option.some FieldType.int) 0 0 [.ref (x 0), .int (iI pp), .int (iI w)] ([o6C x a b ap lat und] ++ suW b cI T ++ stW a cI C ++ [((x 4), .inr (3, [.int (iI pf), .int (iI pm), .int (iI pt), .int (iI pl), .int (iI pw)])), ((x 6), .inr (0, [.ref (x 7), .int (iI f1), .int (iI f2), .int (iI f3), .int (iI f4), .int (iI f5), .int (iI f6)])), ((x 7), .inr (1, [.ref (x 8), .int (iI hn)])), ((x 8), .inl (cI, 6, .inl (ai ht)))]) (some (.int (iI (pagV C pp w)))) := by
  have q_w := hT.1
  have q_c := hC.1
  have q_l := hC.2.1
  refine qP_enter (by decide) (Nat.le_of_ble_eq_true rfl) (nar_i _) (fun p e R s m args below meth c Q ls X hR hP hl hret => ?_)
  obtain ⟨hx, hb, hml, hown, hts, hK⟩ := X
  have hl : lv_has ls 3 [(0, .ref (x 0)), (1, .int (iI pp)), (2, .int (iI w))] := hl
  refine lv_iload_n hx hb dX6_page_0 rfl (lv_at hl 1 rfl) ?_
  refine q_if_lt (tgt := 15) hx hb dX6_page_1 (by decide) (by omega) (fun c_1 => absurd c_1 (by omega)) (fun c_1 => ?_)
  refine lv_iload_n hx hb dX6_page_4 rfl (lv_at hl 1 rfl) ?_
  refine lv_aload_n hx hb dX6_page_5 rfl (lv_at hl 0 rfl) ?_
  refine q_get hx hb hts hown hK hP ci_X6 0 rfl 2 (by decide) fl_X6_26 rfl dX6_page_6 ?_
  refine q_get hx hb hts hown hK hP ci_X5 10 rfl 14 (by decide) fl_X6_103 rfl dX6_page_9 ?_
  refine q_icmp_lt (tgt := 25) hx hb dX6_page_12 (by decide) (by omega) (fun c_12 => ?_) (fun c_12 => absurd c_12 (by omega))
  refine lv_iload_n hx hb dX6_page_25 rfl (lv_at hl 2 rfl) ?_
  have rg_26 : rg w := by omega
  by_cases k_26_0 : w = 0
  · refine q_tabIn (tgt := 52) hx hb dX6_page_26 rg_26 (by omega) (by omega) (by rw [k_26_0] <;> rfl) (by decide) ?_
    subst k_26_0
    refine lv_aload_n hx hb dX6_page_52 rfl (lv_at hl 0 rfl) ?_
    refine q_get hx hb hts hown hK hP ci_X6 0 rfl 2 (by decide) fl_X6_26 rfl dX6_page_53 ?_
    refine q_get hx hb hts hown hK hP ci_X5 10 rfl 4 (by decide) fl_X6_175 rfl dX6_page_56 ?_
    refine lv_iload_n hx hb dX6_page_59 rfl (lv_at hl 1 rfl) ?_
    refine q_iald hx hb hK hP 15 0 rfl rfl (z := pp) (v := ((C 4) pp)) (by omega) rfl dX6_page_60 ?_
    exact q_ret (hret 61 ls dX6_page_61) (by first | rfl | omega)
  by_cases k_26_1 : w = 1
  · refine q_tabIn (tgt := 62) hx hb dX6_page_26 rg_26 (by omega) (by omega) (by rw [k_26_1] <;> rfl) (by decide) ?_
    subst k_26_1
    refine lv_aload_n hx hb dX6_page_62 rfl (lv_at hl 0 rfl) ?_
    refine q_get hx hb hts hown hK hP ci_X6 0 rfl 2 (by decide) fl_X6_26 rfl dX6_page_63 ?_
    refine q_get hx hb hts hown hK hP ci_X5 10 rfl 5 (by decide) fl_X6_178 rfl dX6_page_66 ?_
    refine lv_iload_n hx hb dX6_page_69 rfl (lv_at hl 1 rfl) ?_
    refine q_iald hx hb hK hP 16 0 rfl rfl (z := pp) (v := ((C 5) pp)) (by omega) rfl dX6_page_70 ?_
    exact q_ret (hret 71 ls dX6_page_71) (by first | rfl | omega)
  by_cases k_26_2 : w = 2
  · refine q_tabIn (tgt := 72) hx hb dX6_page_26 rg_26 (by omega) (by omega) (by rw [k_26_2] <;> rfl) (by decide) ?_
    subst k_26_2
    refine lv_aload_n hx hb dX6_page_72 rfl (lv_at hl 0 rfl) ?_
    refine q_get hx hb hts hown hK hP ci_X6 0 rfl 2 (by decide) fl_X6_26 rfl dX6_page_73 ?_
    refine q_get hx hb hts hown hK hP ci_X5 10 rfl 6 (by decide) fl_X6_181 rfl dX6_page_76 ?_
    refine lv_iload_n hx hb dX6_page_79 rfl (lv_at hl 1 rfl) ?_
    refine q_iald hx hb hK hP 17 0 rfl rfl (z := pp) (v := ((C 6) pp)) (by omega) rfl dX6_page_80 ?_
    exact q_ret (hret 81 ls dX6_page_81) (by first | rfl | omega)
  exact absurd trivial (by omega)

set_option maxHeartbeats 4000000 in
set_option maxRecDepth 100000 in
theorem c_X6_job (j : Int) (w : Int) (hT : WT T) (hC : WC T C) (hw : 0 ≤ w ∧ w ≤ 3) (hj : 0 ≤ j ∧ j < C 11 4) : qP l D (tyG cI cB cZ cS cJ) yX6_job cX6_job 3 (Option.some FieldType.int) 1 23 [.ref (x 0), .int (iI j), .int (iI w)] ([o6C x a b ap lat und] ++ suW b cI T ++ stW a cI C ++ [((x 4), .inr (3, [.int (iI pf), .int (iI pm), .int (iI pt), .int (iI pl), .int (iI pw)])), ((x 6), .inr (0, [.ref (x 7), .int (iI f1), .int (iI f2), .int (iI f3), .int (iI f4), .int (iI f5), .int (iI f6)])), ((x 7), .inr (1, [.ref (x 8), .int (iI hn)])), ((x 8), .inl (cI, 6, .inl (ai ht)))]) (some (.int (iI (jobV C j w)))) := by
  have q_w := hT.1
  have q_c := hC.1
  have q_l := hC.2.1
  refine qP_enter (by decide) (Nat.le_of_ble_eq_true rfl) (nar_i _) (fun p e R s m args below meth c Q ls X hR hP hl hret => ?_)
  obtain ⟨hx, hb, hml, hown, hts, hK⟩ := X
  have hl : lv_has ls 3 [(0, .ref (x 0)), (1, .int (iI j)), (2, .int (iI w))] := hl
  refine lv_iload_n hx hb dX6_job_0 rfl (lv_at hl 1 rfl) ?_
  refine q_if_lt (tgt := 15) hx hb dX6_job_1 (by decide) (by omega) (fun c_1 => absurd c_1 (by omega)) (fun c_1 => ?_)
  refine lv_iload_n hx hb dX6_job_4 rfl (lv_at hl 1 rfl) ?_
  refine lv_aload_n hx hb dX6_job_5 rfl (lv_at hl 0 rfl) ?_
  refine q_get hx hb hts hown hK hP ci_X6 0 rfl 2 (by decide) fl_X6_26 rfl dX6_job_6 ?_
  refine q_get hx hb hts hown hK hP ci_X5 10 rfl 15 (by decide) fl_X6_106 rfl dX6_job_9 ?_
  refine q_icmp_lt (tgt := 25) hx hb dX6_job_12 (by decide) (by omega) (fun c_12 => ?_) (fun c_12 => absurd c_12 (by omega))
  refine lv_iload_n hx hb dX6_job_25 rfl (lv_at hl 2 rfl) ?_
  have rg_26 : rg w := by omega
  by_cases k_26_0 : w = 0
  · refine q_tabIn (tgt := 56) hx hb dX6_job_26 rg_26 (by omega) (by omega) (by rw [k_26_0] <;> rfl) (by decide) ?_
    subst k_26_0
    refine lv_aload_n hx hb dX6_job_56 rfl (lv_at hl 0 rfl) ?_
    refine q_get hx hb hts hown hK hP ci_X6 0 rfl 2 (by decide) fl_X6_26 rfl dX6_job_57 ?_
    refine q_get hx hb hts hown hK hP ci_X5 10 rfl 7 (by decide) fl_X6_186 rfl dX6_job_60 ?_
    refine lv_iload_n hx hb dX6_job_63 rfl (lv_at hl 1 rfl) ?_
    refine q_iald hx hb hK hP 18 0 rfl rfl (z := j) (v := ((C 7) j)) (by omega) rfl dX6_job_64 ?_
    exact q_ret (hret 65 ls dX6_job_65) (by first | rfl | omega)
  by_cases k_26_1 : w = 1
  · refine q_tabIn (tgt := 66) hx hb dX6_job_26 rg_26 (by omega) (by omega) (by rw [k_26_1] <;> rfl) (by decide) ?_
    subst k_26_1
    refine lv_aload_n hx hb dX6_job_66 rfl (lv_at hl 0 rfl) ?_
    refine q_get hx hb hts hown hK hP ci_X6 0 rfl 2 (by decide) fl_X6_26 rfl dX6_job_67 ?_
    refine lv_iload_n hx hb dX6_job_70 rfl (lv_at hl 1 rfl) ?_
    refine q_callP (As := [.int (iI j)]) (rest := []) hx hb hml hown hts hK (c_X5_pagesOfJob (j) (by omega) (by omega) (by exact fun p a b => by have z := hC.2.2.2.2.1 p a b; omega)) yi_X5_pagesOfJob ml_X6_189 (by rw [hR]; decide) (hP.sub [10, 17] rfl) 0 rfl rfl rfl rfl hl.1 (lv_room (Nat.le_of_ble_eq_true rfl)) dX6_job_71 ⟨by rw [hR]; exact Nat.zero_le _, by rw [hR]; exact Nat.zero_le _⟩ ?_
    exact q_ret (hret 74 ls dX6_job_74) (by first | rfl | omega)
  by_cases k_26_2 : w = 2
  · refine q_tabIn (tgt := 75) hx hb dX6_job_26 rg_26 (by omega) (by omega) (by rw [k_26_2] <;> rfl) (by decide) ?_
    subst k_26_2
    refine lv_aload_n hx hb dX6_job_75 rfl (lv_at hl 0 rfl) ?_
    refine q_get hx hb hts hown hK hP ci_X6 0 rfl 2 (by decide) fl_X6_26 rfl dX6_job_76 ?_
    refine lv_iload_n hx hb dX6_job_79 rfl (lv_at hl 1 rfl) ?_
    refine q_callP (As := [.int (iI j)]) (rest := []) hx hb hml hown hts hK (c_X5_firstPageOfJob (j) (by omega) (by omega) (by exact fun p a b => by have z := hC.2.2.2.2.1 p a b; omega)) yi_X5_firstPageOfJob ml_X6_192 (by rw [hR]; decide) (hP.sub [10, 17] rfl) 0 rfl rfl rfl rfl hl.1 (lv_room (Nat.le_of_ble_eq_true rfl)) dX6_job_80 ⟨by rw [hR]; exact Nat.zero_le _, by rw [hR]; exact Nat.zero_le _⟩ ?_
    exact q_ret (hret 83 ls dX6_job_83) (by first | rfl | omega)
  by_cases k_26_3 : w = 3
  · refine q_tabIn (tgt := 84) hx hb dX6_job_26 rg_26 (by omega) (by omega) (by rw [k_26_3] <;> rfl) (by decide) ?_
    subst k_26_3
    refine lv_aload_n hx hb dX6_job_84 rfl (lv_at hl 0 rfl) ?_
    refine q_get hx hb hts hown hK hP ci_X6 0 rfl 2 (by decide) fl_X6_26 rfl dX6_job_85 ?_
    refine lv_iload_n hx hb dX6_job_88 rfl (lv_at hl 1 rfl) ?_
    refine q_callP (As := [.int (iI j)]) (rest := []) hx hb hml hown hts hK (c_X5_sheetsOfJob (j) (by omega) (by omega) (by exact fun p a b => by have z := hC.2.2.2.2.1 p a b; omega) (by exact fun p a b => by have z := hC.2.2.2.2.1 p a b; omega)) yi_X5_sheetsOfJob ml_X6_195 (by rw [hR]; decide) (hP.sub [10, 15, 17] rfl) 0 rfl rfl rfl rfl hl.1 (lv_room (Nat.le_of_ble_eq_true rfl)) dX6_job_89 ⟨by rw [hR]; exact Nat.zero_le _, by rw [hR]; exact Nat.zero_le _⟩ ?_
    exact q_ret (hret 92 ls dX6_job_92) (by first | rfl | omega)
  exact absurd trivial (by omega)



set_option maxHeartbeats 4000000 in
set_option maxRecDepth 100000 in
theorem c_X6_sheetsAt (w : Int) (hT : WT T) (hC : WC T C) (hw : 0 ≤ w ∧ w ≤ 6) : qP l D (tyG cI cB cZ cS cJ) yX6_sheetsAt cX6_sheetsAt 4 (Option.some FieldType.int) 0 0 [.ref (x 0), .int (iI w)] ([o6C x a b ap lat und] ++ suW b cI T ++ stW a cI C ++ [((x 4), .inr (3, [.int (iI pf), .int (iI pm), .int (iI pt), .int (iI pl), .int (iI pw)])), ((x 6), .inr (0, [.ref (x 7), .int (iI f1), .int (iI f2), .int (iI f3), .int (iI f4), .int (iI f5), .int (iI f6)])), ((x 7), .inr (1, [.ref (x 8), .int (iI hn)])), ((x 8), .inl (cI, 6, .inl (ai ht)))]) (some (.int (iI (watV T C w)))) := by
  have q_w := hT.1
  have q_c := hC.1
  have q_l := hC.2.1
  refine qP_enter (by decide) (Nat.le_of_ble_eq_true rfl) (nar_i _) (fun p e R s m args below meth c Q ls X hR hP hl hret => ?_)
  obtain ⟨hx, hb, hml, hown, hts, hK⟩ := X
  have hl : lv_has ls 4 [(0, .ref (x 0)), (1, .int (iI w))] := hl
  refine lv_iload_n hx hb dX6_sheetsAt_0 rfl (lv_at hl 1 rfl) ?_
  refine q_if_lt (tgt := 10) hx hb dX6_sheetsAt_1 (by decide) (by omega) (fun c_1 => absurd c_1 (by omega)) (fun c_1 => ?_)
  refine lv_iload_n hx hb dX6_sheetsAt_4 rfl (lv_at hl 1 rfl) ?_
  refine q_bipush hx hb dX6_sheetsAt_5 rfl ?_
  refine q_icmp_le (tgt := 21) hx hb dX6_sheetsAt_7 (by decide) (by omega) (fun c_7 => ?_) (fun c_7 => absurd c_7 (by omega))
  refine q_iconst hx hb dX6_sheetsAt_21 ?_
  refine lv_istore_n (lv' := [(2, .int (iI 0)), (0, .ref (x 0)), (1, .int (iI w))]) hx hb dX6_sheetsAt_22 rfl hl (by decide) rfl (fun ls hl => ?_)
  refine q_iconst hx hb dX6_sheetsAt_23 ?_
  refine lv_istore_n (lv' := [(3, .int (iI 0)), (2, .int (iI 0)), (0, .ref (x 0)), (1, .int (iI w))]) hx hb dX6_sheetsAt_24 rfl hl (by decide) rfl (fun ls hl => ?_)
  have loop_25 : ∀ (fu : Nat) (c1 : Int) (k : Int) (ls : Array Slot), (T 8 0 - k).toNat = fu → (c1 = kI (fun s => C 0 s = w) k) → (0 ≤ k ∧ k ≤ T 8 0) → lv_has ls 4 [(0, .ref (x 0)), (1, .int (iI w)), (2, .int (iI c1)), (3, .int (iI k))] → W p l e R s m args below meth c s.heap [] 0 0 Q (F0 m 25 ls []) := by
    intro fu
    induction fu using Nat.strongRecOn with
    | ind fu ih =>
    intro c1 k ls hn_25 h_c h_k hl
    refine lv_iload_n hx hb dX6_sheetsAt_25 rfl (lv_at hl 3 rfl) ?_
    refine lv_aload_n hx hb dX6_sheetsAt_26 rfl (lv_at hl 0 rfl) ?_
    refine q_get hx hb hts hown hK hP ci_X6 0 rfl 1 (by decide) fl_X6_19 rfl dX6_sheetsAt_27 ?_
    refine q_get hx hb hts hown hK hP ci_X4 1 rfl 8 (by decide) fl_X6_90 rfl dX6_sheetsAt_30 ?_
    refine q_icmp_ge (tgt := 58) hx hb dX6_sheetsAt_33 (by decide) (by omega) (fun c_33 => ?_) (fun c_33 => ?_)
    · refine lv_iload_n hx hb dX6_sheetsAt_58 rfl (lv_at hl 2 rfl) ?_
      exact q_ret (hret 59 ls dX6_sheetsAt_59) (by rw [h_c, show k = T 8 0 by omega]; rfl)
    · refine lv_aload_n hx hb dX6_sheetsAt_36 rfl (lv_at hl 0 rfl) ?_
      refine q_get hx hb hts hown hK hP ci_X6 0 rfl 2 (by decide) fl_X6_26 rfl dX6_sheetsAt_37 ?_
      refine q_get hx hb hts hown hK hP ci_X5 10 rfl 0 (by decide) fl_X6_164 rfl dX6_sheetsAt_40 ?_
      refine lv_iload_n hx hb dX6_sheetsAt_43 rfl (lv_at hl 3 rfl) ?_
      have q_0 := hC.2.2.1 k (by omega) (by omega)
      refine q_iald hx hb hK hP 11 0 rfl rfl (z := k) (v := ((C 0) k)) (by omega) rfl dX6_sheetsAt_44 ?_
      refine lv_iload_n hx hb dX6_sheetsAt_45 rfl (lv_at hl 1 rfl) ?_
      refine q_icmp_ne (tgt := 52) hx hb dX6_sheetsAt_46 (by decide) (by omega) (fun c_46 => ?_) (fun c_46 => ?_)
      · refine lv_iinc (v := iI (k + 1)) (lv' := [(3, .int (iI (k + 1))), (0, .ref (x 0)), (1, .int (iI w)), (2, .int (iI c1))]) hx hb dX6_sheetsAt_52 hl (k := 3) rfl (iI_add _ _) (by decide) rfl (fun ls hl => ?_)
        refine lv_goto (tgt := 25) hx hb dX6_sheetsAt_55 (by decide) ?_
        exact ih _ (by omega) (c1) (k + 1) ls rfl (by rw [kI_s _ (by omega), ← h_c]; first | rw [bI_t (by omega)] | (rw [bI_f (by omega)]; omega)) (by first | omega | assumption | rfl) (lv_sub hl [1, 2, 3, 0] rfl)
      · refine lv_iinc (v := iI (c1 + 1)) (lv' := [(2, .int (iI (c1 + 1))), (0, .ref (x 0)), (1, .int (iI w)), (3, .int (iI k))]) hx hb dX6_sheetsAt_49 hl (k := 2) rfl (iI_add _ _) (by decide) rfl (fun ls hl => ?_)
        refine lv_iinc (v := iI (k + 1)) (lv' := [(3, .int (iI (k + 1))), (2, .int (iI (c1 + 1))), (0, .ref (x 0)), (1, .int (iI w))]) hx hb dX6_sheetsAt_52 hl (k := 3) rfl (iI_add _ _) (by decide) rfl (fun ls hl => ?_)
        refine lv_goto (tgt := 25) hx hb dX6_sheetsAt_55 (by decide) ?_
        exact ih _ (by omega) (c1 + 1) (k + 1) ls rfl (by rw [kI_s _ (by omega), ← h_c]; first | rw [bI_t (by omega)] | (rw [bI_f (by omega)]; omega)) (by first | omega | assumption | rfl) (lv_sub hl [2, 3, 1, 0] rfl)
  exact loop_25 _ (0) (0) ls rfl (by rfl) (by first | omega | assumption | rfl) (lv_sub hl [2, 3, 1, 0] rfl)
