variable {l : Launch} {z : Nat → Nat} {D : va_G} {cI cB cZ cS cJ : ClassId} {T C E : Nat → Int → Int} {x a b ap b2 : Nat → Nat} {lat und pf pm pt pl pw f1 f2 f3 f4 f5 f6 hn gc stop sinp srea spag sjob sdup : Int} {aH aV : Nat → Nat → Nat} {cH cV : Nat → Nat → Int → Int} {svd ht e0 e1 e2 e3 e4 e5 e6 e7 e8 e9 : Int → Int}
set_option maxHeartbeats 4000000 in
set_option maxRecDepth 100000 in
theorem c_X6_next (w : Int) (hT : WT T) (hC : WC T C) (hwq : 0 ≤ w ∧ w ≤ 4) : qM l D (tyG cI cB cZ cS cJ) yX6_next cX6_next 2 (Option.some FieldType.int) 3 65 [.ref (x 0), .int (iI w)] ([o6C x a b ap lat und] ++ suW b cI T ++ stW a cI C ++ [((x 4), .inr (3, [.int (iI pf), .int (iI pm), .int (iI pt), .int (iI pl), .int (iI pw)]))]) (fun u : (Int) × (Int) × (Int) × (Int) × (Int) => True) (fun u => some (.int (iI (nxtV T C w)))) (fun u => ([o6C x a b ap lat und] ++ suW b cI T ++ stW a cI C ++ [((x 4), .inr (3, [.int (iI (u.1)), .int (iI (u.2.1)), .int (iI (u.2.2.1)), .int (iI (u.2.2.2.1)), .int (iI (u.2.2.2.2))]))])) := by
  have q_w := hT.1
  have q_c := hC.1
  have q_l := hC.2.1
  refine qM_enterI (val := fun u => iI (nxtV T C w)) (by decide) (Nat.le_of_ble_eq_true rfl) (fun u hu => ⟨rfl, nar_i _⟩) (fun p e R s m args below meth c Q ls A X hR hA hw hl hret => ?_)
  obtain ⟨hx, hb, hml, hown, hts, hK⟩ := X
  have hl : lv_has ls 2 [(0, .ref (x 0)), (1, .int (iI w))] := hl
  suffices K : ∀ (H : Heap) (locs : List Loc), qw D A s.heap ([o6C x a b ap lat und] ++ suW b cI T ++ stW a cI C ++ [((x 4), .inr (3, [.int (iI pf), .int (iI pm), .int (iI pt), .int (iI pl), .int (iI pw)]))]) H locs → W p l e R s m args below meth c H locs 0 0 Q (F0 m 0 ls []) from K s.heap [] hw
  clear hw
  intro H locs hw
  refine lv_iload_n hx hb dX6_next_0 rfl (lv_at hl 1 rfl) ?_
  refine q_if_lt (tgt := 9) hx hb dX6_next_1 (by decide) (by omega) (fun c_1 => absurd c_1 (by omega)) (fun c_1 => ?_)
  refine lv_iload_n hx hb dX6_next_4 rfl (lv_at hl 1 rfl) ?_
  refine q_iconst hx hb dX6_next_5 ?_
  refine q_icmp_le (tgt := 19) hx hb dX6_next_6 (by decide) (by omega) (fun c_6 => ?_) (fun c_6 => absurd c_6 (by omega))
  refine lv_aload_n hx hb dX6_next_19 rfl (lv_at hl 0 rfl) ?_
  refine q_callP (As := []) (rest := []) hx hb hml hown hts hK c_X6_stackSize yi_X6_stackSize ml_X6_93 (by rw [hR]; decide) (hw.1.sub [0, 1, 10] rfl) 0 rfl rfl rfl rfl hl.1 (lv_room (Nat.le_of_ble_eq_true rfl)) dX6_next_20 ⟨by rw [hR]; exact Nat.zero_le _, by rw [hR]; exact Nat.zero_le _⟩ ?_
  refine q_if_ne (tgt := 28) hx hb dX6_next_23 (by decide) (by omega) (fun c_23 => ?_) (fun c_23 => ?_)
  · refine lv_aload_n hx hb dX6_next_28 rfl (lv_at hl 0 rfl) ?_
    refine q_get hx hb hts hown hK hw.1 ci_X6 0 rfl 8 (by decide) fl_X6_44 rfl dX6_next_29 ?_
    refine lv_aload_n hx hb dX6_next_32 rfl (lv_at hl 0 rfl) ?_
    refine q_get hx hb hts hown hK hw.1 ci_X6 0 rfl 1 (by decide) fl_X6_19 rfl dX6_next_33 ?_
    refine lv_aload_n hx hb dX6_next_36 rfl (lv_at hl 0 rfl) ?_
    refine q_get hx hb hts hown hK hw.1 ci_X6 0 rfl 2 (by decide) fl_X6_26 rfl dX6_next_37 ?_
    refine lv_aload_n hx hb dX6_next_40 rfl (lv_at hl 0 rfl) ?_
    refine q_get hx hb hts hown hK hw.1 ci_X6 0 rfl 2 (by decide) fl_X6_26 rfl dX6_next_41 ?_
    refine q_get hx hb hts hown hK hw.1 ci_X5 10 rfl 11 (by decide) fl_X6_167 rfl dX6_next_44 ?_
    refine q_callM (As := [.ref (b 0), .ref (a 0), .int (iI (C 11 0))]) (rest := []) (wr := [((x 0), .inr (6, [.ref (ap 0), .ref (b 0), .ref (a 0), .ref (x 1), .int (iI lat), .int (iI und), .ref (x 2), .ref (x 3), .ref (x 4), .ref (x 6)])), ((b 3), .inl (cI, 40, .inl (ai (T 2)))), ((b 4), .inl (cI, 40, .inl (ai (T 3)))), ((b 5), .inl (cI, 40, .inl (ai (T 4)))), ((b 6), .inl (cI, 40, .inl (ai (T 5)))), ((b 7), .inl (cI, 40, .inl (ai (T 6)))), ((b 8), .inl (cI, 4, .inl (ai (T 7)))), ((a 1), .inl (cI, 40, .inl (ai (C 0)))), ((a 4), .inl (cI, 40, .inl (ai (C 3)))), ((a 5), .inl (cI, 80, .inl (ai (C 4)))), ((a 6), .inl (cI, 80, .inl (ai (C 5)))), ((a 7), .inl (cI, 80, .inl (ai (C 6)))), ((a 8), .inl (cI, 139, .inl (ai (C 7)))), ((a 9), .inl (cI, 4, .inl (ai (C 8)))), ((a 10), .inl (cI, 9, .inl (ai (C 9)))), ((a 11), .inr (1, [.ref (a 12), .int (iI (C 11 7))])), ((a 12), .inl (cI, 6, .inl (ai (C 10))))]) hx hb hml hown hts hK (c_X3_measure (C 11 0) (by exact WT_shOk hT hC) (by omega) (by omega)) yi_X3_measure ml_X6_201 (by rw [hR]; decide) hw hA [23, 1, 2, 3, 10, 12, 13] [0, 4, 5, 6, 7, 8, 9, 11, 14, 15, 16, 17, 18, 19, 20, 21, 22] rfl rfl (by decide) (by decide) (by decide) 0 rfl rfl rfl rfl hl.1 (lv_room (Nat.le_of_ble_eq_true rfl)) dX6_next_47 ⟨by rw [hR]; exact Nat.zero_le _, by rw [hR]; exact Nat.zero_le _⟩ (fun u_47 H locs hu_47 hw => ?_)
    have hw : qw D A s.heap ([o6C x a b ap lat und] ++ [((b 3), .inl (cI, 40, .inl (ai (T 2)))), ((b 4), .inl (cI, 40, .inl (ai (T 3)))), ((b 5), .inl (cI, 40, .inl (ai (T 4)))), ((b 6), .inl (cI, 40, .inl (ai (T 5)))), ((b 7), .inl (cI, 40, .inl (ai (T 6)))), ((b 8), .inl (cI, 4, .inl (ai (T 7)))), ((a 1), .inl (cI, 40, .inl (ai (C 0)))), ((a 4), .inl (cI, 40, .inl (ai (C 3)))), ((a 5), .inl (cI, 80, .inl (ai (C 4)))), ((a 6), .inl (cI, 80, .inl (ai (C 5)))), ((a 7), .inl (cI, 80, .inl (ai (C 6)))), ((a 8), .inl (cI, 139, .inl (ai (C 7)))), ((a 9), .inl (cI, 4, .inl (ai (C 8)))), ((a 10), .inl (cI, 9, .inl (ai (C 9)))), ((a 11), .inr (1, [.ref (a 12), .int (iI (C 11 7))])), ((a 12), .inl (cI, 6, .inl (ai (C 10)))), ((x 4), .inr (3, [.int (iI (C 11 0)), .int (iI (pk (C 2) (T 8 0) (C 11 0))), .int (iI (thk T (C 11 0) (pk (C 2) (T 8 0) (C 11 0)))), .int (iI (lng T (C 2) (C 11 0) (pk (C 2) (T 8 0) (C 11 0)))), .int (iI ((C 1) (C 11 0)))])), ((b 0), .inr (4, [.ref (b 1), .ref (b 2), .ref (b 3), .ref (b 4), .ref (b 5), .ref (b 6), .ref (b 7), .ref (b 8), .int (iI (T 8 0)), .int (iI (T 8 1)), .int (iI (T 8 2)), .int (iI (T 8 3))])), ((b 1), .inl (cI, 40, .inl (ai (T 0)))), ((b 2), .inl (cI, 40, .inl (ai (T 1)))), ((a 0), .inr (5, [.ref (a 1), .ref (a 2), .ref (a 3), .ref (a 4), .ref (a 5), .ref (a 6), .ref (a 7), .ref (a 8), .ref (a 9), .ref (a 10), .ref (a 11), .int (iI (C 11 0)), .int (iI (C 11 1)), .int (iI (C 11 2)), .int (iI (C 11 3)), .int (iI (C 11 4)), .int (iI (C 11 5))])), ((a 2), .inl (cI, 40, .inl (ai (C 1)))), ((a 3), .inl (cI, 40, .inl (ai (C 2))))]) H locs := hw
    have q_s : C 11 0 < T 8 0 := by omega
    have q_k : 1 ≤ (pk (C 2) (T 8 0) (C 11 0)) ∧ C 11 0 + (pk (C 2) (T 8 0) (C 11 0)) ≤ T 8 0 := pk_bd (by omega)
    have q_t := (WT_shOk hT hC).thk (t := C 11 0) (k := (pk (C 2) (T 8 0) (C 11 0))) (by omega) (by omega) (by omega)
    have q_g := (WT_shOk hT hC).lng (by omega) (t := C 11 0) (k := (pk (C 2) (T 8 0) (C 11 0))) (by omega) (by omega) (by omega)
    have q_h := WT_shOk hT hC (C 11 0) (by omega) (by omega)
    have q_u := usG_bd (gt := C 10) (gc := C 11 6) (wo := T 8 2) (by omega) hC.2.2.2.1
    have q_5 := hT.2.2 (C 11 0) (by omega) (by omega)
    refine lv_iload_n hx hb dX6_next_50 rfl (lv_at hl 1 rfl) ?_
    have rg_51 : rg w := by omega
    by_cases k_51_0 : w = 0
    · refine q_tabIn (tgt := 80) hx hb dX6_next_51 rg_51 (by omega) (by omega) (by rw [k_51_0] <;> rfl) (by decide) ?_
      subst k_51_0
      refine lv_aload_n hx hb dX6_next_80 rfl (lv_at hl 0 rfl) ?_
      refine q_get hx hb hts hown hK hw.1 ci_X6 0 rfl 8 (by decide) fl_X6_44 rfl dX6_next_81 ?_
      refine q_get hx hb hts hown hK hw.1 ci_X3 17 rfl 1 (by decide) fl_X6_205 rfl dX6_next_84 ?_
      refine q_top (nxtV T C 0) (by unfold nxtV; first | rw [if_pos (by omega)] | (rw [if_neg (by omega)]; rfl) | (rw [if_neg (by omega), if_neg (by omega), if_neg (by omega), if_neg (by omega), if_neg (by omega)])) ?_
      exact hret (C 11 0, pk (C 2) (T 8 0) (C 11 0), thk T (C 11 0) (pk (C 2) (T 8 0) (C 11 0)), lng T (C 2) (C 11 0) (pk (C 2) (T 8 0) (C 11 0)), (C 1) (C 11 0)) H locs 87 ls trivial (hw.sub [0, 18, 19, 20, 1, 2, 3, 4, 5, 6, 21, 7, 22, 23, 8, 9, 10, 11, 12, 13, 14, 15, 16, 17] (by decide) rfl) dX6_next_87
    by_cases k_51_1 : w = 1
    · refine q_tabIn (tgt := 88) hx hb dX6_next_51 rg_51 (by omega) (by omega) (by rw [k_51_1] <;> rfl) (by decide) ?_
      subst k_51_1
      refine lv_aload_n hx hb dX6_next_88 rfl (lv_at hl 0 rfl) ?_
      refine q_get hx hb hts hown hK hw.1 ci_X6 0 rfl 8 (by decide) fl_X6_44 rfl dX6_next_89 ?_
      refine q_get hx hb hts hown hK hw.1 ci_X3 17 rfl 2 (by decide) fl_X6_206 rfl dX6_next_92 ?_
      refine q_top (nxtV T C 1) (by unfold nxtV; first | rw [if_pos (by omega)] | (rw [if_neg (by omega)]; rfl) | (rw [if_neg (by omega), if_neg (by omega), if_neg (by omega), if_neg (by omega), if_neg (by omega)])) ?_
      exact hret (C 11 0, pk (C 2) (T 8 0) (C 11 0), thk T (C 11 0) (pk (C 2) (T 8 0) (C 11 0)), lng T (C 2) (C 11 0) (pk (C 2) (T 8 0) (C 11 0)), (C 1) (C 11 0)) H locs 95 ls trivial (hw.sub [0, 18, 19, 20, 1, 2, 3, 4, 5, 6, 21, 7, 22, 23, 8, 9, 10, 11, 12, 13, 14, 15, 16, 17] (by decide) rfl) dX6_next_95
    by_cases k_51_2 : w = 2
    · refine q_tabIn (tgt := 96) hx hb dX6_next_51 rg_51 (by omega) (by omega) (by rw [k_51_2] <;> rfl) (by decide) ?_
      subst k_51_2
      refine lv_aload_n hx hb dX6_next_96 rfl (lv_at hl 0 rfl) ?_
      refine q_get hx hb hts hown hK hw.1 ci_X6 0 rfl 8 (by decide) fl_X6_44 rfl dX6_next_97 ?_
      refine q_get hx hb hts hown hK hw.1 ci_X3 17 rfl 3 (by decide) fl_X6_209 rfl dX6_next_100 ?_
      refine q_top (nxtV T C 2) (by unfold nxtV; first | rw [if_pos (by omega)] | (rw [if_neg (by omega)]; rfl) | (rw [if_neg (by omega), if_neg (by omega), if_neg (by omega), if_neg (by omega), if_neg (by omega)])) ?_
      exact hret (C 11 0, pk (C 2) (T 8 0) (C 11 0), thk T (C 11 0) (pk (C 2) (T 8 0) (C 11 0)), lng T (C 2) (C 11 0) (pk (C 2) (T 8 0) (C 11 0)), (C 1) (C 11 0)) H locs 103 ls trivial (hw.sub [0, 18, 19, 20, 1, 2, 3, 4, 5, 6, 21, 7, 22, 23, 8, 9, 10, 11, 12, 13, 14, 15, 16, 17] (by decide) rfl) dX6_next_103
    by_cases k_51_3 : w = 3
    · refine q_tabIn (tgt := 104) hx hb dX6_next_51 rg_51 (by omega) (by omega) (by rw [k_51_3] <;> rfl) (by decide) ?_
      subst k_51_3
      refine lv_aload_n hx hb dX6_next_104 rfl (lv_at hl 0 rfl) ?_
      refine lv_aload_n hx hb dX6_next_105 rfl (lv_at hl 0 rfl) ?_
      refine q_get hx hb hts hown hK hw.1 ci_X6 0 rfl 2 (by decide) fl_X6_26 rfl dX6_next_106 ?_
      refine q_get hx hb hts hown hK hw.1 ci_X5 21 rfl 8 (by decide) fl_X6_130 rfl dX6_next_109 ?_
      refine q_iconst hx hb dX6_next_112 ?_
      refine q_iald hx hb hK hw.1 13 0 rfl rfl (z := 0) (v := ((C 8) 0)) (by omega) rfl dX6_next_113 ?_
      refine lv_aload_n hx hb dX6_next_114 rfl (lv_at hl 0 rfl) ?_
      refine q_get hx hb hts hown hK hw.1 ci_X6 0 rfl 2 (by decide) fl_X6_26 rfl dX6_next_115 ?_
      refine q_get hx hb hts hown hK hw.1 ci_X5 21 rfl 10 (by decide) fl_X6_113 rfl dX6_next_118 ?_
      refine lv_aload_n hx hb dX6_next_121 rfl (lv_at hl 0 rfl) ?_
      refine q_get hx hb hts hown hK hw.1 ci_X6 0 rfl 1 (by decide) fl_X6_19 rfl dX6_next_122 ?_
      refine q_get hx hb hts hown hK hw.1 ci_X4 18 rfl 10 (by decide) fl_X6_62 rfl dX6_next_125 ?_
      refine q_callP (As := [.int (iI (T 8 2))]) (rest := [.int (iI ((C 8) 0)), .ref (x 0)]) hx hb hml hown hts hK (c_X1_usual (gc := C 11 6) (T 8 2) (by omega) (by exact mz_C hC) (by omega) (by exact hC.2.2.2.1)) yi_X1_usual ml_X6_117 (by rw [hR]; decide) (hw.1.sub [15, 16] rfl) 0 rfl rfl rfl rfl hl.1 (lv_room (Nat.le_of_ble_eq_true rfl)) dX6_next_128 ⟨by rw [hR]; exact Nat.zero_le _, by rw [hR]; exact Nat.zero_le _⟩ ?_
      refine q_callP (As := [.int (iI ((C 8) 0)), .int (iI (usG (C 10) (C 11 6) (T 8 2)))]) (rest := []) hx hb hml hown hts hK (c_X6_reasonToStop ((C 8) 0) (usG (C 10) (C 11 6) (T 8 2)) (by omega) (by omega) (by omega) (by omega) (by omega)) yi_X6_reasonToStop ml_X6_211 (by rw [hR]; decide) (hw.1.sub [0, 18, 21, 13, 17] rfl) 0 rfl rfl rfl rfl hl.1 (lv_room (Nat.le_of_ble_eq_true rfl)) dX6_next_131 ⟨by rw [hR]; exact Nat.zero_le _, by rw [hR]; exact Nat.zero_le _⟩ ?_
      refine q_top (nxtV T C 3) (by unfold nxtV; first | rw [if_pos (by omega)] | (rw [if_neg (by omega)]; rfl) | (rw [if_neg (by omega), if_neg (by omega), if_neg (by omega), if_neg (by omega), if_neg (by omega)])) ?_
      exact hret (C 11 0, pk (C 2) (T 8 0) (C 11 0), thk T (C 11 0) (pk (C 2) (T 8 0) (C 11 0)), lng T (C 2) (C 11 0) (pk (C 2) (T 8 0) (C 11 0)), (C 1) (C 11 0)) H locs 134 ls trivial (hw.sub [0, 18, 19, 20, 1, 2, 3, 4, 5, 6, 21, 7, 22, 23, 8, 9, 10, 11, 12, 13, 14, 15, 16, 17] (by decide) rfl) dX6_next_134
    refine q_tabOut (tgt := 135) hx hb dX6_next_51 rg_51 (by omega) (by decide) ?_
    refine lv_aload_n hx hb dX6_next_135 rfl (lv_at hl 0 rfl) ?_
    refine lv_aload_n hx hb dX6_next_136 rfl (lv_at hl 0 rfl) ?_
    refine q_get hx hb hts hown hK hw.1 ci_X6 0 rfl 8 (by decide) fl_X6_44 rfl dX6_next_137 ?_
    refine q_get hx hb hts hown hK hw.1 ci_X3 17 rfl 0 (by decide) fl_X6_215 rfl dX6_next_140 ?_
    refine q_callP (As := [.int (iI (C 11 0))]) (rest := []) hx hb hml hown hts hK (c_X6_pagesOfSheet (C 11 0) (by omega) (by omega) (by omega)) yi_X6_pagesOfSheet ml_X6_218 (by rw [hR]; decide) (hw.1.sub [0, 18, 2, 3, 4, 21, 13] rfl) 0 rfl rfl rfl rfl hl.1 (lv_room (Nat.le_of_ble_eq_true rfl)) dX6_next_143 ⟨by rw [hR]; exact Nat.zero_le _, by rw [hR]; exact Nat.zero_le _⟩ ?_
    refine q_top (pgs T C (C 11 0)) (by exact pg_all) ?_
    refine q_top (nxtV T C w) (by unfold nxtV; first | rw [if_pos (by omega)] | (rw [if_neg (by omega)]; rfl) | (rw [if_neg (by omega), if_neg (by omega), if_neg (by omega), if_neg (by omega), if_neg (by omega)])) ?_
    exact hret (C 11 0, pk (C 2) (T 8 0) (C 11 0), thk T (C 11 0) (pk (C 2) (T 8 0) (C 11 0)), lng T (C 2) (C 11 0) (pk (C 2) (T 8 0) (C 11 0)), (C 1) (C 11 0)) H locs 146 ls trivial (hw.sub [0, 18, 19, 20, 1, 2, 3, 4, 5, 6, 21, 7, 22, 23, 8, 9, 10, 11, 12, 13, 14, 15, 16, 17] (by decide) rfl) dX6_next_146
  · refine q_iconst hx hb dX6_next_26 ?_
    refine q_top (nxtV T C w) (by unfold nxtV; first | rw [if_pos (by omega)] | (rw [if_neg (by omega)]; rfl) | (rw [if_neg (by omega), if_neg (by omega), if_neg (by omega), if_neg (by omega), if_neg (by omega)])) ?_
    exact hret (pf, pm, pt, pl, pw) H locs 27 ls trivial hw dX6_next_27

