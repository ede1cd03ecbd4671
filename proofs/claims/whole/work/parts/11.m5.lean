variable {l : Launch} {T C : Nat → Int → Int} {J : Int → Int} {D : va_G} {cI cB cZ cS cJ : ClassId} {g : Nat → Nat} {th len tl ts te tk nu er eo hL hS dp : Int} {bf dr td sa ad hi sl sv tr : Int → Int}
set_option maxHeartbeats 4000000 in
set_option maxRecDepth 100000 in
theorem c_X7_top_raw (k : Int) (h0 : rg (sa 6)) (h1 : 0 ≤ 186 + sa 6 - 1 - k) (h2 : 186 + sa 6 - 1 - k < 706) : qP l D (tyG cI cB cZ cS cJ) yX7_top cX7_top 2 (Option.some FieldType.int) 0 0 [.ref (g 0), .int (iI k)] (mW g cI cB cZ th len tl ts te tk nu er eo hL hS dp bf dr td sa ad hi sl sv tr) (some (.int (iI (sa (186 + sa 6 - 1 - k))))) := by
  refine qP_enter (by decide) (Nat.le_of_ble_eq_true rfl) (nar_i _) (fun p e R s m args below meth c Q ls X hR hP hl hret => ?_)
  obtain ⟨hx, hb, hml, hown, hts, hK⟩ := X
  have hl : lv_has ls 2 [(0, .ref (g 0)), (1, .int (iI k))] := hl
  refine lv_aload_n hx hb dX7_top_0 rfl (lv_at hl 0 rfl) ?_
  refine q_get hx hb hts hown hK hP ci_X7 0 rfl 14 (by decide) fl_X7_20 rfl dX7_top_1 ?_
  refine q_sipush hx hb dX7_top_4 rfl ?_
  refine lv_aload_n hx hb dX7_top_7 rfl (lv_at hl 0 rfl) ?_
  refine q_get hx hb hts hown hK hP ci_X7 0 rfl 14 (by decide) fl_X7_20 rfl dX7_top_8 ?_
  refine q_bipush hx hb dX7_top_11 rfl ?_
  refine q_iald hx hb hK hP 4 0 rfl rfl (z := 6) (v := (sa 6)) (by omega) rfl dX7_top_13 ?_
  refine q_iadd hx hb dX7_top_14 ?_
  refine q_iconst hx hb dX7_top_15 ?_
  refine q_isub hx hb dX7_top_16 ?_
  refine lv_iload_n hx hb dX7_top_17 rfl (lv_at hl 1 rfl) ?_
  refine q_isub hx hb dX7_top_18 ?_
  refine q_iald hx hb hK hP 4 0 rfl rfl (z := (186 + sa 6 - 1 - k)) (v := (sa (186 + sa 6 - 1 - k))) (by omega) rfl dX7_top_19 ?_
  exact q_ret (hret 20 ls dX7_top_20) (by first | rfl | omega)

set_option maxHeartbeats 4000000 in
set_option maxRecDepth 100000 in
theorem c_X7_pick (hM : WM td sa T C) (h0 : C 11 0 < T 8 0) (h1 : C 11 1 = 0) (h2 : C 11 2 = 0) : qM l D (tyG cI cB cZ cS cJ) yX7_pick cX7_pick 6 (Option.some FieldType.int) 3 70 [.ref (g 0)] (mW g cI cB cZ th len tl ts te tk nu er eo hL hS dp bf dr td sa ad hi sl sv tr) (fun u : (Int → Int) => (WM td u T (pickC T C))) (fun u => some (.int (iI (pickR T C)))) (fun u => (mW g cI cB cZ th len tl ts te tk nu er eo hL hS dp bf dr td u ad hi sl sv tr)) := by
  have hsc := hM.sc
  have hB : BB T C := hM.2.2.1.hB hM.1
  have hpk := hM.pk h0
  have hn1 : 1 ≤ pkn T C := hpk.1
  have hn2 : C 11 0 + pkn T C ≤ T 8 0 := hpk.2.1
  have hr := pkr_bd T C
  have q_t := hM.tds (C 11 0) (by omega) (by omega)
  have hBA : BB T (pkA T C) := (WC_pkA hM.2.2.1 h1 ⟨hn1, hn2⟩).hB hM.1
  refine qM_enterI (val := fun u => iI (pickR T C)) (by decide) (Nat.le_of_ble_eq_true rfl) (fun u hu => ⟨rfl, nar_i _⟩) (fun p e R s m args below meth c Q ls A X hR hA hw hl hret => ?_)
  obtain ⟨hx, hb, hml, hown, hts, hK⟩ := X
  have hl : lv_has ls 6 [(0, .ref (g 0))] := hl
  suffices K : ∀ (H : Heap) (locs : List Loc), qw D A s.heap (mW g cI cB cZ th len tl ts te tk nu er eo hL hS dp bf dr td sa ad hi sl sv tr) H locs → W p l e R s m args below meth c H locs 0 0 Q (F0 m 0 ls []) from K s.heap [] hw
  clear hw
  intro H locs hw
  refine lv_aload_n hx hb dX7_pick_0 rfl (lv_at hl 0 rfl) ?_
  refine q_callP (As := []) (rest := []) hx hb hml hown hts hK (c_X7_pickMany (by first | omega | assumption) (by first | omega | assumption)) yi_X7_pickMany ml_X7_210 (by rw [hR]; decide) hw.1 0 rfl rfl rfl rfl hl.1 (lv_room (Nat.le_of_ble_eq_true rfl)) dX7_pick_1 ⟨by rw [hR]; exact Nat.zero_le _, by rw [hR]; exact Nat.zero_le _⟩ ?_
  refine q_top (pkn T C) (by rfl) ?_
  refine lv_istore_n (lv' := [(1, .int (iI (pkn T C))), (0, .ref (g 0))]) hx hb dX7_pick_4 rfl hl (by decide) rfl (fun ls hl => ?_)
  refine lv_aload_n hx hb dX7_pick_5 rfl (lv_at hl 1 rfl) ?_
  refine lv_iload_n hx hb dX7_pick_6 rfl (lv_at hl 0 rfl) ?_
  refine q_callP (As := [.int (iI (pkn T C))]) (rest := []) hx hb hml hown hts hK (c_X7_reasonFor (pkn T C) (by first | omega | assumption) (by first | omega | assumption) (by first | omega | assumption)) yi_X7_reasonFor ml_X7_213 (by rw [hR]; decide) hw.1 0 rfl rfl rfl rfl hl.1 (lv_room (Nat.le_of_ble_eq_true rfl)) dX7_pick_7 ⟨by rw [hR]; exact Nat.zero_le _, by rw [hR]; exact Nat.zero_le _⟩ ?_
  refine q_top (pkr T C) (by rfl) ?_
  refine lv_istore_n (lv' := [(2, .int (iI (pkr T C))), (1, .int (iI (pkn T C))), (0, .ref (g 0))]) hx hb dX7_pick_10 rfl hl (by decide) rfl (fun ls hl => ?_)
  refine lv_aload_n hx hb dX7_pick_11 rfl (lv_at hl 2 rfl) ?_
  refine lv_iload_n hx hb dX7_pick_12 rfl (lv_at hl 1 rfl) ?_
  refine q_callP (As := [.int (iI (pkn T C))]) (rest := []) hx hb hml hown hts hK (c_X7_pickThickness (pkn T C) (by first | omega | assumption) (by first | omega | assumption) (by first | omega | assumption)) yi_X7_pickThickness ml_X7_183 (by rw [hR]; decide) hw.1 0 rfl rfl rfl rfl hl.1 (lv_room (Nat.le_of_ble_eq_true rfl)) dX7_pick_13 ⟨by rw [hR]; exact Nat.zero_le _, by rw [hR]; exact Nat.zero_le _⟩ ?_
  refine lv_istore_n (lv' := [(3, .int (iI (thk T (C 11 0) (pkn T C)))), (2, .int (iI (pkr T C))), (1, .int (iI (pkn T C))), (0, .ref (g 0))]) hx hb dX7_pick_16 rfl hl (by decide) rfl (fun ls hl => ?_)
  refine lv_aload_n hx hb dX7_pick_17 rfl (lv_at hl 3 rfl) ?_
  refine q_get hx hb hts hown hK hw.1 ci_X7 0 rfl 14 (by decide) fl_X7_20 rfl dX7_pick_18 ?_
  refine q_bipush hx hb dX7_pick_21 rfl ?_
  refine lv_dup2_11 hx hb dX7_pick_23 rfl rfl ?_
  refine q_iald hx hb hK hw.1 4 0 rfl rfl (z := 17) (v := (C 9 0)) (by omega) (by exact hM.2.2.2.a 0 17 (by decide) (by decide) (by decide)) dX7_pick_24 ?_
  refine q_iconst hx hb dX7_pick_25 ?_
  refine q_iadd hx hb dX7_pick_26 ?_
  refine q_iast hx hb hK hw 4 0 rfl rfl (by omega) dX7_pick_27 (fun H locs hw => ?_)
  have hw : qw D A s.heap (mW g cI cB cZ th len tl ts te tk nu er eo hL hS dp bf dr td (uI sa 17 (C 9 0 + 1)) ad hi sl sv tr) H locs := hw
  obtain ⟨f_1, e_f_1⟩ : ∃ z, z = uI sa 17 (C 9 0 + 1) := ⟨_, rfl⟩
  have hw : qw D A s.heap (mW g cI cB cZ th len tl ts te tk nu er eo hL hS dp bf dr td f_1 ad hi sl sv tr) H locs := by rw [e_f_1]; exact hw
  have r_1 : RJ f_1 T (st C 9 (uI (C 9) 0 (C 9 0 + 1))) (shJ C) := by rw [e_f_1]; exact RJ_a 0 17 hM.2.2.2 hB (by decide) (by decide) (by decide)
  refine q_iconst hx hb dX7_pick_28 ?_
  refine lv_istore (lv' := [(4, .int (iI 0)), (3, .int (iI (thk T (C 11 0) (pkn T C)))), (2, .int (iI (pkr T C))), (1, .int (iI (pkn T C))), (0, .ref (g 0))]) hx hb dX7_pick_29 hl (by decide) rfl (fun ls hl => ?_)
  have loop_31 : ∀ (fu : Nat) (x : Int → Int) (k : Int) (H : Heap) (locs : List Loc) (ls : Array Slot), (pkn T C - k).toNat = fu → (x = mvS f_1 (T 8 0) (C 11 0) k) → (0 ≤ k ∧ k ≤ pkn T C) → qw D A s.heap (mW g cI cB cZ th len tl ts te tk nu er eo hL hS dp bf dr td x ad hi sl sv tr) H locs → lv_has ls 6 [(0, .ref (g 0)), (1, .int (iI (pkn T C))), (2, .int (iI (pkr T C))), (3, .int (iI (thk T (C 11 0) (pkn T C)))), (4, .int (iI k))] → W p l e R s m args below meth c H locs 0 0 Q (F0 m 31 ls []) := by
    intro fu
    induction fu using Nat.strongRecOn with
    | ind fu ih =>
    intro x k H locs ls hn_31 h_x h_k hw hl
    refine lv_iload hx hb dX7_pick_31 (lv_at hl 4 rfl) ?_
    refine lv_iload_n hx hb dX7_pick_33 rfl (lv_at hl 1 rfl) ?_
    refine q_icmp_ge (tgt := 87) hx hb dX7_pick_34 (by decide) (by omega) (fun c_34 => ?_) (fun c_34 => ?_)
    · refine lv_aload_n hx hb dX7_pick_87 rfl (lv_at hl 0 rfl) ?_
      refine q_get hx hb hts hown hK hw.1 ci_X7 0 rfl 14 (by decide) fl_X7_20 rfl dX7_pick_88 ?_
      refine q_bipush hx hb dX7_pick_91 rfl ?_
      refine lv_iload_n hx hb dX7_pick_93 rfl (lv_at hl 1 rfl) ?_
      refine q_iast hx hb hK hw 4 0 rfl rfl (by omega) dX7_pick_94 (fun H locs hw => ?_)
      have hw : qw D A s.heap (mW g cI cB cZ th len tl ts te tk nu er eo hL hS dp bf dr td (uI x 7 (pkn T C)) ad hi sl sv tr) H locs := hw
      obtain ⟨f_2, e_f_2⟩ : ∃ z, z = uI x 7 (pkn T C) := ⟨_, rfl⟩
      have hw : qw D A s.heap (mW g cI cB cZ th len tl ts te tk nu er eo hL hS dp bf dr td f_2 ad hi sl sv tr) H locs := by rw [e_f_2]; exact hw
      have r_2 : RJ f_2 T (pkA T C) (shJ C) := by rw [e_f_2]; exact (by rw [h_x, show k = pkn T C by omega]; exact RJ_mv r_1 hB (pkn T C) h1 (by omega) hn2)
      refine lv_iload_n hx hb dX7_pick_95 rfl (lv_at hl 2 rfl) ?_
      refine q_if_le (tgt := 160) hx hb dX7_pick_96 (by decide) (by omega) (fun c_96 => ?_) (fun c_96 => ?_)
      · refine lv_iload_n hx hb dX7_pick_160 rfl (lv_at hl 1 rfl) ?_
        refine q_iconst hx hb dX7_pick_161 ?_
        refine q_icmp_ne (tgt := 170) hx hb dX7_pick_162 (by decide) (by omega) (fun c_162 => ?_) (fun c_162 => ?_)
        · refine lv_aload_n hx hb dX7_pick_170 rfl (lv_at hl 0 rfl) ?_
          refine q_callM (As := []) (rest := []) (wr := []) hx hb hml hown hts hK (c_X7_goesThrough (C := (pkA T C)) (by first | exact WM_pkA hM h1 ⟨hn1, hn2⟩ r_2 | exact WM_pkG hM h1 h2 ⟨hn1, hn2⟩ (by rw [show pkn T C = 1 by omega, thk1]; omega) r_2) (by first | exact hn1 | (show 1 ≤ gAdd _ _ 11 1; rw [gAdd_111]; exact hn1))) yi_X7_goesThrough ml_X7_219 (by rw [hR]; decide) hw hA [0, 1, 2, 3, 4, 5, 6, 7, 8, 9] [] rfl rfl (by decide) (by decide) (by decide) 0 rfl rfl rfl rfl hl.1 (lv_room (Nat.le_of_ble_eq_true rfl)) dX7_pick_171 ⟨by rw [hR]; exact Nat.zero_le _, by rw [hR]; exact Nat.zero_le _⟩ (fun u_171 H locs hu_171 hw => ?_)
          obtain ⟨s2_1, rfl⟩ : ∃ z, z = u_171 := ⟨_, rfl⟩
          have hu_1_0 : WM td s2_1 T (goC T (((pkA T C)))) := hu_171
          have hw : qw D A s.heap (mW g cI cB cZ th len tl ts te tk nu er eo hL hS dp bf dr td s2_1 ad hi sl sv tr) H locs := hw
          refine q_top (pickR T C) (by first | exact pickR_N (by omega) | exact pickR_1 (by omega) | (unfold pickR; rw [if_neg (by omega)])) ?_
          exact hret (s2_1) H locs 174 ls (by first | (rw [← pickC_passN h1 h2 hn1 (by omega) (by omega)]; assumption) | (rw [← pickC_pass1 h1 h2 hn1 (by omega) (by omega)]; assumption)) hw dX7_pick_174
        · refine lv_aload_n hx hb dX7_pick_165 rfl (lv_at hl 0 rfl) ?_
          refine lv_iload_n hx hb dX7_pick_166 rfl (lv_at hl 3 rfl) ?_
          refine q_callM (As := [.int (iI (thk T (C 11 0) (pkn T C)))]) (rest := []) (wr := []) hx hb hml hown hts hK (c_X7_countsGood (C := (pkA T C)) (J := (shJ C)) (thk T (C 11 0) (pkn T C)) (by exact hM.1) (by exact WC_pkA hM.2.2.1 h1 ⟨hn1, hn2⟩) (by exact r_2)) yi_X7_countsGood ml_X7_216 (by rw [hR]; decide) hw hA [0, 1, 2, 3, 4, 5, 6, 7, 8, 9] [] rfl rfl (by decide) (by decide) (by decide) 0 rfl rfl rfl rfl hl.1 (lv_room (Nat.le_of_ble_eq_true rfl)) dX7_pick_167 ⟨by rw [hR]; exact Nat.zero_le _, by rw [hR]; exact Nat.zero_le _⟩ (fun u_167 H locs hu_167 hw => ?_)
          obtain ⟨s2_2, rfl⟩ : ∃ z, z = u_167 := ⟨_, rfl⟩
          have hu_2_0 : RJ s2_2 T (acc (gAdd (((pkA T C))) (thk T (C 11 0) (pkn T C))) 4 1) (((shJ C))) := hu_167
          have hw : qw D A s.heap (mW g cI cB cZ th len tl ts te tk nu er eo hL hS dp bf dr td s2_2 ad hi sl sv tr) H locs := hw
          refine lv_aload_n hx hb dX7_pick_170 rfl (lv_at hl 0 rfl) ?_
          refine q_callM (As := []) (rest := []) (wr := []) hx hb hml hown hts hK (c_X7_goesThrough (C := (acc (gAdd (pkA T C) ((thk T (C 11 0) (pkn T C)))) 4 1)) (by first | exact WM_pkA hM h1 ⟨hn1, hn2⟩ hu_2_0 | exact WM_pkG hM h1 h2 ⟨hn1, hn2⟩ (by rw [show pkn T C = 1 by omega, thk1]; omega) hu_2_0) (by first | exact hn1 | (show 1 ≤ gAdd _ _ 11 1; rw [gAdd_111]; exact hn1))) yi_X7_goesThrough ml_X7_219 (by rw [hR]; decide) hw hA [0, 1, 2, 3, 4, 5, 6, 7, 8, 9] [] rfl rfl (by decide) (by decide) (by decide) 0 rfl rfl rfl rfl hl.1 (lv_room (Nat.le_of_ble_eq_true rfl)) dX7_pick_171 ⟨by rw [hR]; exact Nat.zero_le _, by rw [hR]; exact Nat.zero_le _⟩ (fun u_171 H locs hu_171 hw => ?_)
          obtain ⟨s2_3, rfl⟩ : ∃ z, z = u_171 := ⟨_, rfl⟩
          have hu_3_0 : WM td s2_3 T (goC T (((acc (gAdd (pkA T C) ((thk T (C 11 0) (pkn T C)))) 4 1)))) := hu_171
          have hw : qw D A s.heap (mW g cI cB cZ th len tl ts te tk nu er eo hL hS dp bf dr td s2_3 ad hi sl sv tr) H locs := hw
          refine q_top (pickR T C) (by first | exact pickR_N (by omega) | exact pickR_1 (by omega) | (unfold pickR; rw [if_neg (by omega)])) ?_
          exact hret (s2_3) H locs 174 ls (by first | (rw [← pickC_passN h1 h2 hn1 (by omega) (by omega)]; assumption) | (rw [← pickC_pass1 h1 h2 hn1 (by omega) (by omega)]; assumption)) hw dX7_pick_174
      · refine lv_aload_n hx hb dX7_pick_99 rfl (lv_at hl 0 rfl) ?_
        refine q_get hx hb hts hown hK hw.1 ci_X7 0 rfl 14 (by decide) fl_X7_20 rfl dX7_pick_100 ?_
        refine q_iconst hx hb dX7_pick_103 ?_
        refine lv_iload_n hx hb dX7_pick_104 rfl (lv_at hl 2 rfl) ?_
        refine q_iast hx hb hK hw 4 0 rfl rfl (by omega) dX7_pick_105 (fun H locs hw => ?_)
        have hw : qw D A s.heap (mW g cI cB cZ th len tl ts te tk nu er eo hL hS dp bf dr td (uI f_2 5 (pkr T C)) ad hi sl sv tr) H locs := hw
        obtain ⟨f_3, e_f_3⟩ : ∃ z, z = uI f_2 5 (pkr T C) := ⟨_, rfl⟩
        have hw : qw D A s.heap (mW g cI cB cZ th len tl ts te tk nu er eo hL hS dp bf dr td f_3 ad hi sl sv tr) H locs := by rw [e_f_3]; exact hw
        have r_3 : RJ f_3 T (s1 (pkA T C) 2 (pkr T C)) (shJ C) := by rw [e_f_3]; exact RJ_re r_2 hBA
        have b_1 := (BB_re (v := 0) hBA)
        refine lv_aload_n hx hb dX7_pick_106 rfl (lv_at hl 0 rfl) ?_
        refine q_get hx hb hts hown hK hw.1 ci_X7 0 rfl 14 (by decide) fl_X7_20 rfl dX7_pick_107 ?_
        refine q_bipush hx hb dX7_pick_110 rfl ?_
        refine lv_iload_n hx hb dX7_pick_112 rfl (lv_at hl 2 rfl) ?_
        refine q_iadd hx hb dX7_pick_113 ?_
        refine lv_dup2_11 hx hb dX7_pick_114 rfl rfl ?_
        refine q_iald hx hb hK hw.1 4 0 rfl rfl (z := (17 + pkr T C)) (v := ((uI (C 9) 0 (C 9 0 + 1)) (pkr T C))) (by omega) (by exact r_3.a (pkr T C) _ (by omega) (by omega) rfl) dX7_pick_115 ?_
        refine q_iconst hx hb dX7_pick_116 ?_
        refine q_iadd hx hb dX7_pick_117 ?_
        refine q_iast hx hb hK hw 4 0 rfl rfl (by omega) dX7_pick_118 (fun H locs hw => ?_)
        have hw : qw D A s.heap (mW g cI cB cZ th len tl ts te tk nu er eo hL hS dp bf dr td (uI f_3 (17 + pkr T C) ((uI (C 9) 0 (C 9 0 + 1)) (pkr T C) + 1)) ad hi sl sv tr) H locs := hw
        obtain ⟨f_4, e_f_4⟩ : ∃ z, z = uI f_3 (17 + pkr T C) ((uI (C 9) 0 (C 9 0 + 1)) (pkr T C) + 1) := ⟨_, rfl⟩
        have hw : qw D A s.heap (mW g cI cB cZ th len tl ts te tk nu er eo hL hS dp bf dr td f_4 ad hi sl sv tr) H locs := by rw [e_f_4]; exact hw
        have r_4 : RJ f_4 T (st (s1 (pkA T C) 2 (pkr T C)) 9 (uI ((s1 (pkA T C) 2 (pkr T C)) 9) (pkr T C) ((uI (C 9) 0 (C 9 0 + 1)) (pkr T C) + 1))) (shJ C) := by rw [e_f_4]; exact RJ_a (pkr T C) _ r_3 b_1 (by omega) (by omega) rfl
        refine lv_iload_n hx hb dX7_pick_119 rfl (lv_at hl 2 rfl) ?_
        refine q_iconst hx hb dX7_pick_120 ?_
        refine q_icmp_ne (tgt := 158) hx hb dX7_pick_121 (by decide) (by omega) (fun c_121 => ?_) (fun c_121 => ?_)
        · refine q_iconst hx hb dX7_pick_158 ?_
          refine q_top (pickR T C) (by first | exact pickR_N (by omega) | exact pickR_1 (by omega) | (unfold pickR; rw [if_neg (by omega)])) ?_
          exact hret (f_4) H locs 159 ls (by first | exact ⟨hM.1, hM.2.1, WC_pickC hM.1 hM.2.2.1 h1 h0, pick_s0 (by omega) (by omega) r_4⟩ | exact ⟨hM.1, hM.2.1, WC_pickC hM.1 hM.2.2.1 h1 h0, pick_s1 (by omega) (by omega) r_4⟩) hw dX7_pick_159
        · refine lv_aload_n hx hb dX7_pick_124 rfl (lv_at hl 0 rfl) ?_
          refine lv_aload_n hx hb dX7_pick_125 rfl (lv_at hl 0 rfl) ?_
          refine q_get hx hb hts hown hK hw.1 ci_X7 0 rfl 14 (by decide) fl_X7_20 rfl dX7_pick_126 ?_
          refine q_sipush hx hb dX7_pick_129 rfl ?_
          refine q_iald hx hb hK hw.1 4 0 rfl rfl (z := 226) (v := (C 11 0)) (by omega) (by have z := r_4.p0 (show 1 ≤ pkn T C from hn1); rw [z]; show C 11 0 + pkn T C - pkn T C = C 11 0; omega) dX7_pick_132 ?_
          refine q_callP (As := [.int (iI (C 11 0))]) (rest := []) hx hb hml hown hts hK (c_X7_isCode (C 11 0) (by first | omega | assumption) (by first | omega | assumption) (by first | omega | assumption)) yi_X7_isCode ml_X7_195 (by rw [hR]; decide) hw.1 0 rfl rfl rfl rfl hl.1 (lv_room (Nat.le_of_ble_eq_true rfl)) dX7_pick_133 ⟨by rw [hR]; exact Nat.zero_le _, by rw [hR]; exact Nat.zero_le _⟩ ?_
          refine q_ifb_ne (tgt := 158) hx hb dX7_pick_136 (by decide) (fun c_136 => ?_) (fun c_136 => ?_)
          · refine q_iconst hx hb dX7_pick_158 ?_
            refine q_top (pickR T C) (by first | exact pickR_N (by omega) | exact pickR_1 (by omega) | (unfold pickR; rw [if_neg (by omega)])) ?_
            exact hret (f_4) H locs 159 ls (by first | exact ⟨hM.1, hM.2.1, WC_pickC hM.1 hM.2.2.1 h1 h0, pick_s0 (by omega) (by omega) r_4⟩ | exact ⟨hM.1, hM.2.1, WC_pickC hM.1 hM.2.2.1 h1 h0, pick_s1 (by omega) (by omega) r_4⟩) hw dX7_pick_159
          · refine lv_aload_n hx hb dX7_pick_139 rfl (lv_at hl 0 rfl) ?_
            refine q_get hx hb hts hown hK hw.1 ci_X7 0 rfl 14 (by decide) fl_X7_20 rfl dX7_pick_140 ?_
            refine lv_aload_n hx hb dX7_pick_143 rfl (lv_at hl 0 rfl) ?_
            refine q_get hx hb hts hown hK hw.1 ci_X7 0 rfl 14 (by decide) fl_X7_20 rfl dX7_pick_144 ?_
            refine q_sipush hx hb dX7_pick_147 rfl ?_
            refine q_iald hx hb hK hw.1 4 0 rfl rfl (z := 226) (v := (C 11 0)) (by omega) (by have z := r_4.p0 (show 1 ≤ pkn T C from hn1); rw [z]; show C 11 0 + pkn T C - pkn T C = C 11 0; omega) dX7_pick_150 ?_
            refine q_callPS (As := [.int (iI (C 11 0))]) (rest := [.ref (g 4)]) hx hb hml hown hts hK (c_X7_of (C 11 0)) yt_X7_of ml_X7_167 (by rw [hR]; decide) (show va_P D vwCl [] _ from fun k q h => by simp at h)  rfl rfl hl.1 (lv_room (Nat.le_of_ble_eq_true rfl)) dX7_pick_151 ⟨by rw [hR]; exact Nat.zero_le _, by rw [hR]; exact Nat.zero_le _⟩ ?_
            refine q_iconst hx hb dX7_pick_154 ?_
            refine q_iadd hx hb dX7_pick_155 ?_
            refine q_iconst hx hb dX7_pick_156 ?_
            refine q_iast hx hb hK hw 4 0 rfl rfl (by omega) dX7_pick_157 (fun H locs hw => ?_)
            have hw : qw D A s.heap (mW g cI cB cZ th len tl ts te tk nu er eo hL hS dp bf dr td (uI f_4 (26 + 4 * C 11 0 + 3) 1) ad hi sl sv tr) H locs := hw
            obtain ⟨f_5, e_f_5⟩ : ∃ z, z = uI f_4 (26 + 4 * C 11 0 + 3) 1 := ⟨_, rfl⟩
            have hw : qw D A s.heap (mW g cI cB cZ th len tl ts te tk nu er eo hL hS dp bf dr td f_5 ad hi sl sv tr) H locs := by rw [e_f_5]; exact hw
            have r_5 : RJ f_5 T (st (st (s1 (pkA T C) 2 (pkr T C)) 9 (uI ((s1 (pkA T C) 2 (pkr T C)) 9) (pkr T C) ((uI (C 9) 0 (C 9 0 + 1)) (pkr T C) + 1))) 3 (uI ((st (s1 (pkA T C) 2 (pkr T C)) 9 (uI ((s1 (pkA T C) 2 (pkr T C)) 9) (pkr T C) ((uI (C 9) 0 (C 9 0 + 1)) (pkr T C) + 1))) 3) (C 11 0) 1)) (shJ C) := by rw [e_f_5]; exact RJ_ha _ _ r_4 b_1 (by omega) (by omega)
            refine q_iconst hx hb dX7_pick_158 ?_
            refine q_top (pickR T C) (by first | exact pickR_N (by omega) | exact pickR_1 (by omega) | (unfold pickR; rw [if_neg (by omega)])) ?_
            exact hret (f_5) H locs 159 ls (by first | exact ⟨hM.1, hM.2.1, WC_pickC hM.1 hM.2.2.1 h1 h0, pick_s0 (by omega) (by omega) r_5⟩ | exact ⟨hM.1, hM.2.1, WC_pickC hM.1 hM.2.2.1 h1 h0, pick_s1 (by omega) (by omega) r_5⟩) hw dX7_pick_159
    · refine lv_aload_n hx hb dX7_pick_37 rfl (lv_at hl 0 rfl) ?_
      refine q_iconst hx hb dX7_pick_38 ?_
      refine q_callP (As := [.int (iI 0)]) (rest := []) hx hb hml hown hts hK (c_X7_top_raw (0) (by rw [h_x, mvS_6]; omega) (by rw [h_x, mvS_6]; omega) (by rw [h_x, mvS_6]; omega)) yi_X7_top ml_X7_180 (by rw [hR]; decide) hw.1 0 rfl rfl rfl rfl hl.1 (lv_room (Nat.le_of_ble_eq_true rfl)) dX7_pick_39 ⟨by rw [hR]; exact Nat.zero_le _, by rw [hR]; exact Nat.zero_le _⟩ ?_
      refine q_top (C 11 0 + k) (by rw [h_x, mvS_6, show (186 : Int) + (T 8 0 - C 11 0 - k) - 1 - 0 = 186 + (T 8 0 - C 11 0 - k - 1) by omega, mvS_n _ (by omega), e_f_1, uI_n _ _ _ (by omega), hM.sk _ (by omega) (by omega)]; omega) ?_
      refine lv_istore (lv' := [(5, .int (iI (C 11 0 + k))), (0, .ref (g 0)), (1, .int (iI (pkn T C))), (2, .int (iI (pkr T C))), (3, .int (iI (thk T (C 11 0) (pkn T C)))), (4, .int (iI k))]) hx hb dX7_pick_42 hl (by decide) rfl (fun ls hl => ?_)
      refine lv_aload_n hx hb dX7_pick_44 rfl (lv_at hl 1 rfl) ?_
      refine q_get hx hb hts hown hK hw.1 ci_X7 0 rfl 14 (by decide) fl_X7_20 rfl dX7_pick_45 ?_
      refine q_bipush hx hb dX7_pick_48 rfl ?_
      refine lv_dup2_11 hx hb dX7_pick_50 rfl rfl ?_
      refine q_iald hx hb hK hw.1 4 0 rfl rfl (z := 6) (v := (T 8 0 - C 11 0 - k)) (by omega) (by rw [h_x]; exact mvS_6 _ _ _ _) dX7_pick_51 ?_
      refine q_iconst hx hb dX7_pick_52 ?_
      refine q_isub hx hb dX7_pick_53 ?_
      refine q_iast hx hb hK hw 4 0 rfl rfl (by omega) dX7_pick_54 (fun H locs hw => ?_)
      have hw : qw D A s.heap (mW g cI cB cZ th len tl ts te tk nu er eo hL hS dp bf dr td (uI x 6 (T 8 0 - C 11 0 - k - 1)) ad hi sl sv tr) H locs := hw
      obtain ⟨f_6, e_f_6⟩ : ∃ z, z = uI x 6 (T 8 0 - C 11 0 - k - 1) := ⟨_, rfl⟩
      have hw : qw D A s.heap (mW g cI cB cZ th len tl ts te tk nu er eo hL hS dp bf dr td f_6 ad hi sl sv tr) H locs := by rw [e_f_6]; exact hw
      refine lv_aload_n hx hb dX7_pick_55 rfl (lv_at hl 1 rfl) ?_
      refine q_get hx hb hts hown hK hw.1 ci_X7 0 rfl 14 (by decide) fl_X7_20 rfl dX7_pick_56 ?_
      refine q_sipush hx hb dX7_pick_59 rfl ?_
      refine lv_iload hx hb dX7_pick_62 (lv_at hl 5 rfl) ?_
      refine q_iadd hx hb dX7_pick_64 ?_
      refine lv_iload hx hb dX7_pick_65 (lv_at hl 0 rfl) ?_
      refine q_iast hx hb hK hw 4 0 rfl rfl (by omega) dX7_pick_67 (fun H locs hw => ?_)
      have hw : qw D A s.heap (mW g cI cB cZ th len tl ts te tk nu er eo hL hS dp bf dr td (uI f_6 (226 + k) (C 11 0 + k)) ad hi sl sv tr) H locs := hw
      obtain ⟨f_7, e_f_7⟩ : ∃ z, z = uI f_6 (226 + k) (C 11 0 + k) := ⟨_, rfl⟩
      have hw : qw D A s.heap (mW g cI cB cZ th len tl ts te tk nu er eo hL hS dp bf dr td f_7 ad hi sl sv tr) H locs := by rw [e_f_7]; exact hw
      refine lv_aload_n hx hb dX7_pick_68 rfl (lv_at hl 1 rfl) ?_
      refine q_get hx hb hts hown hK hw.1 ci_X7 0 rfl 14 (by decide) fl_X7_20 rfl dX7_pick_69 ?_
      refine lv_iload hx hb dX7_pick_72 (lv_at hl 0 rfl) ?_
      refine q_callPS (As := [.int (iI (C 11 0 + k))]) (rest := [.ref (g 4)]) hx hb hml hown hts hK (c_X7_of (C 11 0 + k)) yt_X7_of ml_X7_167 (by rw [hR]; decide) (show va_P D vwCl [] _ from fun k q h => by simp at h)  rfl rfl hl.1 (lv_room (Nat.le_of_ble_eq_true rfl)) dX7_pick_74 ⟨by rw [hR]; exact Nat.zero_le _, by rw [hR]; exact Nat.zero_le _⟩ ?_
      refine q_iconst hx hb dX7_pick_77 ?_
      refine q_iadd hx hb dX7_pick_78 ?_
      refine q_top (26 + 4 * (C 11 0 + k)) (Int.add_zero _) ?_
      refine q_iconst hx hb dX7_pick_79 ?_
      refine q_iast hx hb hK hw 4 0 rfl rfl (by omega) dX7_pick_80 (fun H locs hw => ?_)
      have hw : qw D A s.heap (mW g cI cB cZ th len tl ts te tk nu er eo hL hS dp bf dr td (uI f_7 (26 + 4 * (C 11 0 + k)) 1) ad hi sl sv tr) H locs := hw
      obtain ⟨f_8, e_f_8⟩ : ∃ z, z = uI f_7 (26 + 4 * (C 11 0 + k)) 1 := ⟨_, rfl⟩
      have hw : qw D A s.heap (mW g cI cB cZ th len tl ts te tk nu er eo hL hS dp bf dr td f_8 ad hi sl sv tr) H locs := by rw [e_f_8]; exact hw
      refine lv_iinc (v := iI (k + 1)) (lv' := [(4, .int (iI (k + 1))), (5, .int (iI (C 11 0 + k))), (0, .ref (g 0)), (1, .int (iI (pkn T C))), (2, .int (iI (pkr T C))), (3, .int (iI (thk T (C 11 0) (pkn T C))))]) hx hb dX7_pick_81 hl (k := 5) rfl (iI_add _ _) (by decide) rfl (fun ls hl => ?_)
      refine lv_goto (tgt := 31) hx hb dX7_pick_84 (by decide) ?_
      exact ih _ (by omega) (f_8) (k + 1) H locs ls rfl (by rw [e_f_8, e_f_7, e_f_6, h_x]; exact mvS_s f_1 (by omega) (by omega) (by omega) (by omega) rfl rfl rfl rfl rfl) (by first | omega | assumption | rfl) hw (lv_sub hl [2, 3, 4, 5, 0] rfl)
  exact loop_31 _ (f_1) (0) H locs ls rfl (by exact (mvS_0 _ (by rw [e_f_1, uI_n _ _ _ (by omega)]; omega)).symm) (by first | omega | assumption | rfl) hw (lv_sub hl [4, 3, 2, 1, 0] rfl)
