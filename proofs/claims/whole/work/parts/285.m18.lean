variable {l : Launch} {z : Nat → Nat} {T C : Nat → Int → Int} {J : Int → Int} {D : va_G} {cI cB cZ cS cJ : ClassId} {g : Nat → Nat} {th len tl ts te tk nu er eo hL hS dp : Int} {bf dr td sa ad hi sl sv tr : Int → Int}
set_option maxHeartbeats 4000000 in
set_option maxRecDepth 100000 in
theorem c_X7_sheetLine_s (cq : Int) (hbf : byR bf) (ht : 0 ≤ tl ∧ tl ≤ 700) (hP : PR bf tl ts te tk nu er eo C) (hD : DR dr hL hS C) (h0 : C 9 3 = 0) (hcq : cq = 0) : qMz l (ZZ z) D (tyG cI cB cZ cS cJ) yX7_sheetLine cX7_sheetLine 4 (Option.none) 6 129 [.ref (g 0), .int (iI cq)] (mW g cI cB cZ th len tl ts te tk nu er eo hL hS dp bf dr td sa ad hi sl sv tr) (fun u : (Int) × (Int) × (Int) × (Int) × (Int) × (Int) × (Int → Int) => (PR bf tl ((u.1)) ((u.2.1)) ((u.2.2.1)) ((u.2.2.2.1)) ((u.2.2.2.2.1)) ((u.2.2.2.2.2.1)) (shtX bf tl C)) ∧ (DR ((u.2.2.2.2.2.2)) hL hS (shtX bf tl C))) (fun _ => none) (fun u => (mW g cI cB cZ th len tl (u.1) (u.2.1) (u.2.2.1) (u.2.2.2.1) (u.2.2.2.2.1) (u.2.2.2.2.2.1) hL hS dp bf (u.2.2.2.2.2.2) td sa ad hi sl sv tr)) := by
  have q_e := hP.1
  have q_5 := hP.2.2.2.2
  have q_6 := hP.2.1
  have q_7 := hP.2.2.2.1
  have q_8 := hD.1
  have q_a : C 9 3 = 0 → hS = C 9 6 := fun z => (hD.2 z).2.2.2
  have q_b : C 9 3 = 0 → hL = C 9 5 := fun z => (hD.2 z).2.2.1
  have q_d := hD.2 h0
  have q_2 := q_d.1.1
  have q_w := q_d.2.1.1
  have q_y3 : (nxX bf tl C) 9 3 = 0 := h0
  refine qMz_enterV (by decide) (Nat.le_of_ble_eq_true rfl) (fun p e R s m args below meth c Q ls A X hR hA hw hZ hl hret => ?_)
  obtain ⟨hx, hb, hml, hown, hts, hK⟩ := X
  have hl : lv_has ls 4 [(0, .ref (g 0)), (1, .int (iI cq))] := hl
  suffices K : ∀ (H : Heap) (locs : List Loc), qw D A s.heap (mW g cI cB cZ th len tl ts te tk nu er eo hL hS dp bf dr td sa ad hi sl sv tr) H locs → W p l e R s m args below meth c H locs 0 0 Q (F0 m 0 ls []) from K s.heap [] hw
  clear hw
  intro H locs hw
  refine lv_aload_n hx hb dX7_sheetLine_0 rfl (lv_at hl 0 rfl) ?_
  refine lv_aload_n hx hb dX7_sheetLine_1 rfl (lv_at hl 0 rfl) ?_
  refine q_get hx hb hts hown hK hw.1 ci_X7 0 rfl 10 (by decide) fl_X7_13 rfl dX7_sheetLine_2 ?_
  refine q_iconst hx hb dX7_sheetLine_5 ?_
  refine q_iald hx hb hK hw.1 2 0 rfl rfl (z := 2) (v := (C 8 0)) (by omega) (by exact q_2.2.2.1) dX7_sheetLine_6 ?_
  refine q_bipush hx hb dX7_sheetLine_7 rfl ?_
  refine q_icmp_ge (tgt := 16) hx hb dX7_sheetLine_9 (by decide) (by omega) (fun c_9 => ?_) (fun c_9 => ?_)
  · refine q_iconst hx hb dX7_sheetLine_16 ?_
    refine q_iconst hx hb dX7_sheetLine_17 ?_
    refine q_callM (As := [.int (iI 0), .int (iI 5)]) (rest := []) (wr := []) hx hb hml hown hts hK (c_X7_must (C := C) (0) (5) (by exact hP) (by first | omega | assumption) (by first | omega | assumption)) yi_X7_must ml_X7_97 (by rw [hR]; decide) hw hA [0, 1, 2, 3, 4, 5, 6, 7, 8, 9] [] rfl rfl (by decide) (by decide) (by decide) 0 rfl rfl rfl rfl hl.1 (lv_room (Nat.le_of_ble_eq_true rfl)) dX7_sheetLine_18 ⟨by rw [hR]; exact Nat.zero_le _, by rw [hR]; exact Nat.zero_le _⟩ (fun u_18 H locs hu_18 hw => ?_)
    obtain ⟨er2_1, eo2_1⟩ := u_18
    have hu_1_0 : PR bf tl ts te tk nu er2_1 eo2_1 (muX 0 5 ((C))) := hu_18
    have hw : qw D A s.heap (mW g cI cB cZ th len tl ts te tk nu er2_1 eo2_1 hL hS dp bf dr td sa ad hi sl sv tr) H locs := hw
    have b_1 := ()
    refine q_ifb_ne (tgt := 25) hx hb dX7_sheetLine_21 (by decide) (fun c_21 => ?_) (fun c_21 => ?_)
    · have q_21 : C 9 3 = 0 ∧ _ := (muX_3 (k := 5) (X := C) (by decide)).mp c_21
      refine lv_aload_n hx hb dX7_sheetLine_25 rfl (lv_at hl 0 rfl) ?_
      refine q_callM (As := []) (rest := []) (wr := []) hx hb hml hown hts hK (c_X7_goOn (C := (muX (0) (5) C)) (by first | omega | assumption) (by first | omega | assumption) (by exact hu_1_0)) yi_X7_goOn ml_X7_101 (by rw [hR]; decide) hw hA [0, 1, 2, 3, 4, 5, 6, 7, 8, 9] [] rfl rfl (by decide) (by decide) (by decide) 0 rfl rfl rfl rfl hl.1 (lv_room (Nat.le_of_ble_eq_true rfl)) dX7_sheetLine_26 ⟨by rw [hR]; exact Nat.zero_le _, by rw [hR]; exact Nat.zero_le _⟩ (fun u_26 H locs hu_26 hw => ?_)
      obtain ⟨ts2_2, te2_2, tk2_2, nu2_2⟩ := u_26
      have hu_2_0 : PR bf tl ts2_2 te2_2 tk2_2 nu2_2 er2_1 eo2_1 (goX bf tl (((muX (0) (5) C)))) := hu_26
      have hw : qw D A s.heap (mW g cI cB cZ th len tl ts2_2 te2_2 tk2_2 nu2_2 er2_1 eo2_1 hL hS dp bf dr td sa ad hi sl sv tr) H locs := hw
      have h_Y := PR_goy hu_2_0 q_21
      have q_c : C 9 3 = 0 ∧ C 8 0 < 40 := ⟨h0, by omega⟩
      refine q_bipush hx hb dX7_sheetLine_29 rfl ?_
      refine q_bipush hx hb dX7_sheetLine_31 rfl ?_
      refine lv_aload_n hx hb dX7_sheetLine_33 rfl (lv_at hl 0 rfl) ?_
      refine q_get hx hb hts hown hK hw.1 ci_X7 0 rfl 10 (by decide) fl_X7_13 rfl dX7_sheetLine_34 ?_
      refine q_iconst hx hb dX7_sheetLine_37 ?_
      refine q_iald hx hb hK hw.1 2 0 rfl rfl (z := 2) (v := (C 8 0)) (by omega) (by exact q_2.2.2.1) dX7_sheetLine_38 ?_
      refine q_imul hx hb dX7_sheetLine_39 ?_
      refine q_iadd hx hb dX7_sheetLine_40 ?_
      refine lv_istore_n (lv' := [(2, .int (iI (8 + 7 * C 8 0))), (0, .ref (g 0)), (1, .int (iI cq))]) hx hb dX7_sheetLine_41 rfl hl (by decide) rfl (fun ls hl => ?_)
      refine lv_iload_n hx hb dX7_sheetLine_42 rfl (lv_at hl 2 rfl) ?_
      refine q_if_eq (tgt := 57) hx hb dX7_sheetLine_43 (by decide) (by omega) (fun c_43 => ?_) (fun c_43 => absurd c_43 (by omega))
      refine q_iconst hx hb dX7_sheetLine_57 ?_
      refine lv_istore_n (lv' := [(3, .int (iI (-1))), (2, .int (iI (8 + 7 * C 8 0))), (0, .ref (g 0)), (1, .int (iI cq))]) hx hb dX7_sheetLine_58 rfl hl (by decide) rfl (fun ls hl => ?_)
      refine lv_aload_n hx hb dX7_sheetLine_59 rfl (lv_at hl 2 rfl) ?_
      refine lv_iload_n hx hb dX7_sheetLine_60 rfl (lv_at hl 1 rfl) ?_
      refine q_callM (As := [.int (iI (8 + 7 * C 8 0))]) (rest := []) (wr := []) hx hb hml hown hts hK (c_X7_readShape (C := (nxX bf tl C)) (sh := C 8 0) (8 + 7 * C 8 0) (by first | omega | assumption) (by first | omega | assumption) (by exact h_Y) (by exact ⟨rfl, by omega, by omega⟩)) yi_X7_readShape ml_X7_121 (by rw [hR]; decide) hw hA [0, 1, 2, 3, 4, 5, 6, 7, 8, 9] [] rfl rfl (by decide) (by decide) (by decide) 0 rfl rfl rfl rfl hl.1 (lv_room (Nat.le_of_ble_eq_true rfl)) dX7_sheetLine_61 ⟨by rw [hR]; exact Nat.zero_le _, by rw [hR]; exact Nat.zero_le _⟩ (fun u_61 H locs hu_61 hw => ?_)
      obtain ⟨ts2_3, te2_3, tk2_3, nu2_3, er2_3, eo2_3, d2_3⟩ := u_61
      obtain ⟨hu_3_0, hu_3_1⟩ : (PR bf tl ts2_3 te2_3 tk2_3 nu2_3 er2_3 eo2_3 (rsX bf tl (((nxX bf tl C))))) ∧ (∃ a b c : Int, d2_3 = uI (uI (uI dr (8 + 7 * C 8 0) a) ((8 + 7 * C 8 0) + 1) b) ((8 + 7 * C 8 0) + 2) c ∧ (rsX bf tl (((nxX bf tl C))) 9 3 = 0 → shp bf tl (((nxX bf tl C))) a b c) ∧ shR2 a b c) := hu_61
      have hw : qw D A s.heap (mW g cI cB cZ th len tl ts2_3 te2_3 tk2_3 nu2_3 er2_3 eo2_3 hL hS dp bf d2_3 td sa ad hi sl sv tr) H locs := hw
      have b_2 := ()
      obtain ⟨a1, b1, c1, h_e, h_s, h_r⟩ := hu_3_1
      refine lv_aload_n hx hb dX7_sheetLine_64 rfl (lv_at hl 2 rfl) ?_
      refine q_get hx hb hts hown hK hw.1 ci_X7 0 rfl 10 (by decide) fl_X7_13 rfl dX7_sheetLine_65 ?_
      refine lv_iload_n hx hb dX7_sheetLine_68 rfl (lv_at hl 1 rfl) ?_
      refine q_iconst hx hb dX7_sheetLine_69 ?_
      refine q_iadd hx hb dX7_sheetLine_70 ?_
      refine lv_iload_n hx hb dX7_sheetLine_71 rfl (lv_at hl 3 rfl) ?_
      refine q_if_eq (tgt := 79) hx hb dX7_sheetLine_72 (by decide) (by omega) (fun c_72 => ?_) (fun c_72 => absurd c_72 (by omega))
      refine lv_aload_n hx hb dX7_sheetLine_79 rfl (lv_at hl 2 rfl) ?_
      refine q_iconst hx hb dX7_sheetLine_80 ?_
      refine q_sipush hx hb dX7_sheetLine_81 rfl ?_
      refine q_callM (As := [.int (iI 0), .int (iI 1000)]) (rest := [.int (iI (8 + 7 * C 8 0 + 3)), .ref (g 2)]) (wr := []) hx hb hml hown hts hK (c_X7_read (C := (rsX bf tl (nxX bf tl C))) (0) (1000) (by first | omega | assumption) (by first | omega | assumption) (by exact hu_3_0) (by first | omega | assumption)) yi_X7_read ml_X7_111 (by rw [hR]; decide) hw hA [0, 1, 2, 3, 4, 5, 6, 7, 8, 9] [] rfl rfl (by decide) (by decide) (by decide) 0 rfl rfl rfl rfl hl.1 (lv_room (Nat.le_of_ble_eq_true rfl)) dX7_sheetLine_84 ⟨by rw [hR]; exact Nat.zero_le _, by rw [hR]; exact Nat.zero_le _⟩ (fun u_84 H locs hu_84 hw => ?_)
      obtain ⟨ts2_4, te2_4, tk2_4, nu2_4, er2_4, eo2_4, r2_4⟩ := u_84
      obtain ⟨hu_4_0, hu_4_1, hu_4_2⟩ : (PR bf tl ts2_4 te2_4 tk2_4 nu2_4 er2_4 eo2_4 (rdX bf tl 0 1000 (((rsX bf tl (nxX bf tl C)))))) ∧ (rdX bf tl 0 1000 (((rsX bf tl (nxX bf tl C)))) 9 3 = 0 → r2_4 = nuV bf (((rsX bf tl (nxX bf tl C))))) ∧ (0 ≤ r2_4 ∧ r2_4 ≤ 1000) := hu_84
      have hw : qw D A s.heap (mW g cI cB cZ th len tl ts2_4 te2_4 tk2_4 nu2_4 er2_4 eo2_4 hL hS dp bf d2_3 td sa ad hi sl sv tr) H locs := hw
      refine q_iast hx hb hK hw 2 0 rfl rfl (by omega) dX7_sheetLine_87 (fun H locs hw => ?_)
      have hw : qw D A s.heap (mW g cI cB cZ th len tl ts2_4 te2_4 tk2_4 nu2_4 er2_4 eo2_4 hL hS dp bf (uI d2_3 (8 + 7 * C 8 0 + 3) r2_4) td sa ad hi sl sv tr) H locs := hw
      obtain ⟨f_1, e_f_1⟩ : ∃ z, z = uI d2_3 (8 + 7 * C 8 0 + 3) r2_4 := ⟨_, rfl⟩
      have hw : qw D A s.heap (mW g cI cB cZ th len tl ts2_4 te2_4 tk2_4 nu2_4 er2_4 eo2_4 hL hS dp bf f_1 td sa ad hi sl sv tr) H locs := by rw [e_f_1]; exact hw
      refine lv_aload_n hx hb dX7_sheetLine_88 rfl (lv_at hl 2 rfl) ?_
      refine q_get hx hb hts hown hK hw.1 ci_X7 0 rfl 10 (by decide) fl_X7_13 rfl dX7_sheetLine_89 ?_
      refine lv_iload_n hx hb dX7_sheetLine_92 rfl (lv_at hl 1 rfl) ?_
      refine q_iconst hx hb dX7_sheetLine_93 ?_
      refine q_iadd hx hb dX7_sheetLine_94 ?_
      refine lv_iload_n hx hb dX7_sheetLine_95 rfl (lv_at hl 3 rfl) ?_
      refine q_if_eq (tgt := 103) hx hb dX7_sheetLine_96 (by decide) (by omega) (fun c_96 => ?_) (fun c_96 => absurd c_96 (by omega))
      refine lv_aload_n hx hb dX7_sheetLine_103 rfl (lv_at hl 2 rfl) ?_
      refine q_iconst hx hb dX7_sheetLine_104 ?_
      refine q_sipush hx hb dX7_sheetLine_105 rfl ?_
      refine q_callM (As := [.int (iI 0), .int (iI 1000)]) (rest := [.int (iI (8 + 7 * C 8 0 + 4)), .ref (g 2)]) (wr := []) hx hb hml hown hts hK (c_X7_read (C := (rdX bf tl (0) (1000) (rsX bf tl (nxX bf tl C)))) (0) (1000) (by first | omega | assumption) (by first | omega | assumption) (by exact hu_4_0) (by first | omega | assumption)) yi_X7_read ml_X7_111 (by rw [hR]; decide) hw hA [0, 1, 2, 3, 4, 5, 6, 7, 8, 9] [] rfl rfl (by decide) (by decide) (by decide) 0 rfl rfl rfl rfl hl.1 (lv_room (Nat.le_of_ble_eq_true rfl)) dX7_sheetLine_108 ⟨by rw [hR]; exact Nat.zero_le _, by rw [hR]; exact Nat.zero_le _⟩ (fun u_108 H locs hu_108 hw => ?_)
      obtain ⟨ts2_5, te2_5, tk2_5, nu2_5, er2_5, eo2_5, r2_5⟩ := u_108
      obtain ⟨hu_5_0, hu_5_1, hu_5_2⟩ : (PR bf tl ts2_5 te2_5 tk2_5 nu2_5 er2_5 eo2_5 (rdX bf tl 0 1000 (((rdX bf tl (0) (1000) (rsX bf tl (nxX bf tl C))))))) ∧ (rdX bf tl 0 1000 (((rdX bf tl (0) (1000) (rsX bf tl (nxX bf tl C))))) 9 3 = 0 → r2_5 = nuV bf (((rdX bf tl (0) (1000) (rsX bf tl (nxX bf tl C)))))) ∧ (0 ≤ r2_5 ∧ r2_5 ≤ 1000) := hu_108
      have hw : qw D A s.heap (mW g cI cB cZ th len tl ts2_5 te2_5 tk2_5 nu2_5 er2_5 eo2_5 hL hS dp bf f_1 td sa ad hi sl sv tr) H locs := hw
      refine q_iast hx hb hK hw 2 0 rfl rfl (by omega) dX7_sheetLine_111 (fun H locs hw => ?_)
      have hw : qw D A s.heap (mW g cI cB cZ th len tl ts2_5 te2_5 tk2_5 nu2_5 er2_5 eo2_5 hL hS dp bf (uI f_1 (8 + 7 * C 8 0 + 4) r2_5) td sa ad hi sl sv tr) H locs := hw
      obtain ⟨f_2, e_f_2⟩ : ∃ z, z = uI f_1 (8 + 7 * C 8 0 + 4) r2_5 := ⟨_, rfl⟩
      have hw : qw D A s.heap (mW g cI cB cZ th len tl ts2_5 te2_5 tk2_5 nu2_5 er2_5 eo2_5 hL hS dp bf f_2 td sa ad hi sl sv tr) H locs := by rw [e_f_2]; exact hw
      refine lv_aload_n hx hb dX7_sheetLine_112 rfl (lv_at hl 2 rfl) ?_
      refine q_get hx hb hts hown hK hw.1 ci_X7 0 rfl 10 (by decide) fl_X7_13 rfl dX7_sheetLine_113 ?_
      refine lv_iload_n hx hb dX7_sheetLine_116 rfl (lv_at hl 1 rfl) ?_
      refine q_iconst hx hb dX7_sheetLine_117 ?_
      refine q_iadd hx hb dX7_sheetLine_118 ?_
      refine lv_iload_n hx hb dX7_sheetLine_119 rfl (lv_at hl 0 rfl) ?_
      refine q_iast hx hb hK hw 2 0 rfl rfl (by omega) dX7_sheetLine_120 (fun H locs hw => ?_)
      have hw : qw D A s.heap (mW g cI cB cZ th len tl ts2_5 te2_5 tk2_5 nu2_5 er2_5 eo2_5 hL hS dp bf (uI f_2 (8 + 7 * C 8 0 + 5) (-1)) td sa ad hi sl sv tr) H locs := hw
      obtain ⟨f_3, e_f_3⟩ : ∃ z, z = uI f_2 (8 + 7 * C 8 0 + 5) (-1) := ⟨_, rfl⟩
      have hw : qw D A s.heap (mW g cI cB cZ th len tl ts2_5 te2_5 tk2_5 nu2_5 er2_5 eo2_5 hL hS dp bf f_3 td sa ad hi sl sv tr) H locs := by rw [e_f_3]; exact hw
      have h_b : f_3 = uI (uI (uI (uI (uI (uI dr (8 + 7 * C 8 0) a1) (8 + 7 * C 8 0 + 1) b1) (8 + 7 * C 8 0 + 2) c1) (8 + 7 * C 8 0 + 3) r2_4) (8 + 7 * C 8 0 + 4) r2_5) (8 + 7 * C 8 0 + 5) (-1) := by rw [e_f_3, e_f_2, e_f_1, h_e]
      refine lv_aload_n hx hb dX7_sheetLine_121 rfl (lv_at hl 2 rfl) ?_
      refine lv_iload_n hx hb dX7_sheetLine_122 rfl (lv_at hl 1 rfl) ?_
      refine q_callMz (As := [.int (iI (8 + 7 * C 8 0))]) (rest := []) (wr := []) (zz_ok z) hx hb hml hown hts hK (c_X7_readGlue (C := (rdX bf tl (0) (1000) (rdX bf tl (0) (1000) (rsX bf tl (nxX bf tl C))))) (sh := C 8 0) (8 + 7 * C 8 0) (by first | omega | assumption) (by first | omega | assumption) (by exact hu_5_0) (by exact ⟨rfl, by omega, by omega⟩)) yi_X7_readGlue ml_X7_124 (by rw [hR]; decide) hw hA (z_M (zz_ok z) hZ hw hA [0, 1, 2, 3, 4, 5, 6, 7, 8, 9] rfl) [0, 1, 2, 3, 4, 5, 6, 7, 8, 9] [] rfl rfl (by decide) (by decide) (by decide) 0 rfl rfl rfl rfl hl.1 (lv_room (Nat.le_of_ble_eq_true rfl)) dX7_sheetLine_123 ⟨by rw [hR]; exact Nat.zero_le _, by rw [hR]; exact Nat.zero_le _⟩ (fun u_123 H locs hu_123 hw => ?_)
      obtain ⟨ts2_6, te2_6, tk2_6, nu2_6, er2_6, eo2_6, d2_6⟩ := u_123
      obtain ⟨hu_6_0, hu_6_1⟩ : (PR bf tl ts2_6 te2_6 tk2_6 nu2_6 er2_6 eo2_6 (glX bf tl (((rdX bf tl (0) (1000) (rdX bf tl (0) (1000) (rsX bf tl (nxX bf tl C)))))))) ∧ (∃ v : Int, d2_6 = uI f_3 ((8 + 7 * C 8 0) + 6) v ∧ (glX bf tl (((rdX bf tl (0) (1000) (rdX bf tl (0) (1000) (rsX bf tl (nxX bf tl C)))))) 9 3 = 0 → v = glV bf tl (((rdX bf tl (0) (1000) (rdX bf tl (0) (1000) (rsX bf tl (nxX bf tl C))))))) ∧ -1 ≤ v ∧ v ≤ 400) := hu_123
      have hw : qw D A s.heap (mW g cI cB cZ th len tl ts2_6 te2_6 tk2_6 nu2_6 er2_6 eo2_6 hL hS dp bf d2_6 td sa ad hi sl sv tr) H locs := hw
      obtain ⟨v1, h_g, h_w, h_r2⟩ := hu_6_1
      have h_d : d2_6 = putD dr (8 + 7 * C 8 0) [a1, b1, c1, r2_4, r2_5, (-1), v1] := by rw [h_g, h_b]; rfl
      have q_e : _ = sh4 bf tl (nxX bf tl C) 9 3 := (hu_6_0).1
      have q_e2 := (hu_6_0).2.1
      refine lv_aload_n hx hb dX7_sheetLine_126 rfl (lv_at hl 2 rfl) ?_
      refine q_get hx hb hts hown hK hw.1 ci_X7 0 rfl 8 (by decide) fl_X7_79 rfl dX7_sheetLine_127 ?_
      refine q_if_ne (tgt := 143) hx hb dX7_sheetLine_130 (by decide) (by omega) (fun c_130 => ?_) (fun c_130 => ?_)
      · exact hret (ts2_6, te2_6, tk2_6, nu2_6, er2_6, eo2_6, d2_6) H locs 143 ls ⟨(by first | (rw [sht_f q_c (fun w => c_130 (q_e.trans w))]; exact hu_6_0) | (rw [sht_t q_c (q_e.symm.trans c_130)]; exact PR_put hu_6_0)), (by first | (rw [sht_f q_c (fun w => c_130 (q_e.trans w))]; exact DR_no hD hD.1 (fun w => c_130 (q_e.trans w))) | (rw [h_d]; exact sht_e q_c hD h_s hu_4_1 hu_5_1 h_w ⟨h_r, hu_4_2, hu_5_2, h_r2⟩ (q_e.symm.trans c_130)))⟩ hw dX7_sheetLine_143
      · refine lv_aload_n hx hb dX7_sheetLine_133 rfl (lv_at hl 2 rfl) ?_
        refine q_get hx hb hts hown hK hw.1 ci_X7 0 rfl 10 (by decide) fl_X7_13 rfl dX7_sheetLine_134 ?_
        refine q_iconst hx hb dX7_sheetLine_137 ?_
        refine lv_dup2_11 hx hb dX7_sheetLine_138 rfl rfl ?_
        refine q_iald hx hb hK hw.1 2 0 rfl rfl (z := 2) (v := (C 8 0)) (by omega) (by rw [h_d, putD_o (by omega)]; exact q_2.2.2.1) dX7_sheetLine_139 ?_
        refine q_iconst hx hb dX7_sheetLine_140 ?_
        refine q_iadd hx hb dX7_sheetLine_141 ?_
        refine q_iast hx hb hK hw 2 0 rfl rfl (by omega) dX7_sheetLine_142 (fun H locs hw => ?_)
        have hw : qw D A s.heap (mW g cI cB cZ th len tl ts2_6 te2_6 tk2_6 nu2_6 er2_6 eo2_6 hL hS dp bf (uI d2_6 2 (C 8 0 + 1)) td sa ad hi sl sv tr) H locs := hw
        obtain ⟨f_4, e_f_4⟩ : ∃ z, z = uI d2_6 2 (C 8 0 + 1) := ⟨_, rfl⟩
        have hw : qw D A s.heap (mW g cI cB cZ th len tl ts2_6 te2_6 tk2_6 nu2_6 er2_6 eo2_6 hL hS dp bf f_4 td sa ad hi sl sv tr) H locs := by rw [e_f_4]; exact hw
        exact hret (ts2_6, te2_6, tk2_6, nu2_6, er2_6, eo2_6, f_4) H locs 143 ls ⟨(by first | (rw [sht_f q_c (fun w => c_130 (q_e.trans w))]; exact hu_6_0) | (rw [sht_t q_c (q_e.symm.trans c_130)]; exact PR_put hu_6_0)), (by first | (rw [sht_f q_c (fun w => c_130 (q_e.trans w))]; exact DR_no hD hD.1 (fun w => c_130 (q_e.trans w))) | (rw [e_f_4, h_d]; exact sht_e q_c hD h_s hu_4_1 hu_5_1 h_w ⟨h_r, hu_4_2, hu_5_2, h_r2⟩ (q_e.symm.trans c_130)))⟩ hw dX7_sheetLine_143
    · have q_c : ¬ (C 8 0 < 40) := fun z => c_21 ((muX_3 (k := 5) (X := C) (by decide)).mpr ⟨h0, by omega⟩)
      exact hret (ts, te, tk, nu, er2_1, eo2_1, dr) H locs 24 ls ⟨(by (rw [show shtX bf tl C = faX 5 C from if_neg (by omega)]; exact PR_muf hu_1_0 (by omega))), (by (rw [show shtX bf tl C = faX 5 C from if_neg (by omega)]; exact DR_fa hD (by decide)))⟩ hw dX7_sheetLine_24
  · refine q_iconst hx hb dX7_sheetLine_12 ?_
    refine lv_goto (tgt := 17) hx hb dX7_sheetLine_13 (by decide) ?_
    refine q_iconst hx hb dX7_sheetLine_17 ?_
    refine q_callM (As := [.int (iI 1), .int (iI 5)]) (rest := []) (wr := []) hx hb hml hown hts hK (c_X7_must (C := C) (1) (5) (by exact hP) (by first | omega | assumption) (by first | omega | assumption)) yi_X7_must ml_X7_97 (by rw [hR]; decide) hw hA [0, 1, 2, 3, 4, 5, 6, 7, 8, 9] [] rfl rfl (by decide) (by decide) (by decide) 0 rfl rfl rfl rfl hl.1 (lv_room (Nat.le_of_ble_eq_true rfl)) dX7_sheetLine_18 ⟨by rw [hR]; exact Nat.zero_le _, by rw [hR]; exact Nat.zero_le _⟩ (fun u_18 H locs hu_18 hw => ?_)
    obtain ⟨er2_7, eo2_7⟩ := u_18
    have hu_7_0 : PR bf tl ts te tk nu er2_7 eo2_7 (muX 1 5 ((C))) := hu_18
    have hw : qw D A s.heap (mW g cI cB cZ th len tl ts te tk nu er2_7 eo2_7 hL hS dp bf dr td sa ad hi sl sv tr) H locs := hw
    have b_3 := ()
    refine q_ifb_ne (tgt := 25) hx hb dX7_sheetLine_21 (by decide) (fun c_21 => ?_) (fun c_21 => ?_)
    · have q_21 : C 9 3 = 0 ∧ _ := (muX_3 (k := 5) (X := C) (by decide)).mp c_21
      refine lv_aload_n hx hb dX7_sheetLine_25 rfl (lv_at hl 0 rfl) ?_
      refine q_callM (As := []) (rest := []) (wr := []) hx hb hml hown hts hK (c_X7_goOn (C := (muX (1) (5) C)) (by first | omega | assumption) (by first | omega | assumption) (by exact hu_7_0)) yi_X7_goOn ml_X7_101 (by rw [hR]; decide) hw hA [0, 1, 2, 3, 4, 5, 6, 7, 8, 9] [] rfl rfl (by decide) (by decide) (by decide) 0 rfl rfl rfl rfl hl.1 (lv_room (Nat.le_of_ble_eq_true rfl)) dX7_sheetLine_26 ⟨by rw [hR]; exact Nat.zero_le _, by rw [hR]; exact Nat.zero_le _⟩ (fun u_26 H locs hu_26 hw => ?_)
      obtain ⟨ts2_8, te2_8, tk2_8, nu2_8⟩ := u_26
      have hu_8_0 : PR bf tl ts2_8 te2_8 tk2_8 nu2_8 er2_7 eo2_7 (goX bf tl (((muX (1) (5) C)))) := hu_26
      have hw : qw D A s.heap (mW g cI cB cZ th len tl ts2_8 te2_8 tk2_8 nu2_8 er2_7 eo2_7 hL hS dp bf dr td sa ad hi sl sv tr) H locs := hw
      have h_Y := PR_goy hu_8_0 q_21
      have q_c : C 9 3 = 0 ∧ C 8 0 < 40 := ⟨h0, by omega⟩
      refine q_bipush hx hb dX7_sheetLine_29 rfl ?_
      refine q_bipush hx hb dX7_sheetLine_31 rfl ?_
      refine lv_aload_n hx hb dX7_sheetLine_33 rfl (lv_at hl 0 rfl) ?_
      refine q_get hx hb hts hown hK hw.1 ci_X7 0 rfl 10 (by decide) fl_X7_13 rfl dX7_sheetLine_34 ?_
      refine q_iconst hx hb dX7_sheetLine_37 ?_
      refine q_iald hx hb hK hw.1 2 0 rfl rfl (z := 2) (v := (C 8 0)) (by omega) (by exact q_2.2.2.1) dX7_sheetLine_38 ?_
      refine q_imul hx hb dX7_sheetLine_39 ?_
      refine q_iadd hx hb dX7_sheetLine_40 ?_
      refine lv_istore_n (lv' := [(2, .int (iI (8 + 7 * C 8 0))), (0, .ref (g 0)), (1, .int (iI cq))]) hx hb dX7_sheetLine_41 rfl hl (by decide) rfl (fun ls hl => ?_)
      refine lv_iload_n hx hb dX7_sheetLine_42 rfl (lv_at hl 2 rfl) ?_
      refine q_if_eq (tgt := 57) hx hb dX7_sheetLine_43 (by decide) (by omega) (fun c_43 => ?_) (fun c_43 => absurd c_43 (by omega))
      refine q_iconst hx hb dX7_sheetLine_57 ?_
      refine lv_istore_n (lv' := [(3, .int (iI (-1))), (2, .int (iI (8 + 7 * C 8 0))), (0, .ref (g 0)), (1, .int (iI cq))]) hx hb dX7_sheetLine_58 rfl hl (by decide) rfl (fun ls hl => ?_)
      refine lv_aload_n hx hb dX7_sheetLine_59 rfl (lv_at hl 2 rfl) ?_
      refine lv_iload_n hx hb dX7_sheetLine_60 rfl (lv_at hl 1 rfl) ?_
      refine q_callM (As := [.int (iI (8 + 7 * C 8 0))]) (rest := []) (wr := []) hx hb hml hown hts hK (c_X7_readShape (C := (nxX bf tl C)) (sh := C 8 0) (8 + 7 * C 8 0) (by first | omega | assumption) (by first | omega | assumption) (by exact h_Y) (by exact ⟨rfl, by omega, by omega⟩)) yi_X7_readShape ml_X7_121 (by rw [hR]; decide) hw hA [0, 1, 2, 3, 4, 5, 6, 7, 8, 9] [] rfl rfl (by decide) (by decide) (by decide) 0 rfl rfl rfl rfl hl.1 (lv_room (Nat.le_of_ble_eq_true rfl)) dX7_sheetLine_61 ⟨by rw [hR]; exact Nat.zero_le _, by rw [hR]; exact Nat.zero_le _⟩ (fun u_61 H locs hu_61 hw => ?_)
      obtain ⟨ts2_9, te2_9, tk2_9, nu2_9, er2_9, eo2_9, d2_9⟩ := u_61
      obtain ⟨hu_9_0, hu_9_1⟩ : (PR bf tl ts2_9 te2_9 tk2_9 nu2_9 er2_9 eo2_9 (rsX bf tl (((nxX bf tl C))))) ∧ (∃ a b c : Int, d2_9 = uI (uI (uI dr (8 + 7 * C 8 0) a) ((8 + 7 * C 8 0) + 1) b) ((8 + 7 * C 8 0) + 2) c ∧ (rsX bf tl (((nxX bf tl C))) 9 3 = 0 → shp bf tl (((nxX bf tl C))) a b c) ∧ shR2 a b c) := hu_61
      have hw : qw D A s.heap (mW g cI cB cZ th len tl ts2_9 te2_9 tk2_9 nu2_9 er2_9 eo2_9 hL hS dp bf d2_9 td sa ad hi sl sv tr) H locs := hw
      have b_4 := ()
      obtain ⟨a1, b1, c1, h_e, h_s, h_r⟩ := hu_9_1
      refine lv_aload_n hx hb dX7_sheetLine_64 rfl (lv_at hl 2 rfl) ?_
      refine q_get hx hb hts hown hK hw.1 ci_X7 0 rfl 10 (by decide) fl_X7_13 rfl dX7_sheetLine_65 ?_
      refine lv_iload_n hx hb dX7_sheetLine_68 rfl (lv_at hl 1 rfl) ?_
      refine q_iconst hx hb dX7_sheetLine_69 ?_
      refine q_iadd hx hb dX7_sheetLine_70 ?_
      refine lv_iload_n hx hb dX7_sheetLine_71 rfl (lv_at hl 3 rfl) ?_
      refine q_if_eq (tgt := 79) hx hb dX7_sheetLine_72 (by decide) (by omega) (fun c_72 => ?_) (fun c_72 => absurd c_72 (by omega))
      refine lv_aload_n hx hb dX7_sheetLine_79 rfl (lv_at hl 2 rfl) ?_
      refine q_iconst hx hb dX7_sheetLine_80 ?_
      refine q_sipush hx hb dX7_sheetLine_81 rfl ?_
      refine q_callM (As := [.int (iI 0), .int (iI 1000)]) (rest := [.int (iI (8 + 7 * C 8 0 + 3)), .ref (g 2)]) (wr := []) hx hb hml hown hts hK (c_X7_read (C := (rsX bf tl (nxX bf tl C))) (0) (1000) (by first | omega | assumption) (by first | omega | assumption) (by exact hu_9_0) (by first | omega | assumption)) yi_X7_read ml_X7_111 (by rw [hR]; decide) hw hA [0, 1, 2, 3, 4, 5, 6, 7, 8, 9] [] rfl rfl (by decide) (by decide) (by decide) 0 rfl rfl rfl rfl hl.1 (lv_room (Nat.le_of_ble_eq_true rfl)) dX7_sheetLine_84 ⟨by rw [hR]; exact Nat.zero_le _, by rw [hR]; exact Nat.zero_le _⟩ (fun u_84 H locs hu_84 hw => ?_)
      obtain ⟨ts2_10, te2_10, tk2_10, nu2_10, er2_10, eo2_10, r2_10⟩ := u_84
      obtain ⟨hu_10_0, hu_10_1, hu_10_2⟩ : (PR bf tl ts2_10 te2_10 tk2_10 nu2_10 er2_10 eo2_10 (rdX bf tl 0 1000 (((rsX bf tl (nxX bf tl C)))))) ∧ (rdX bf tl 0 1000 (((rsX bf tl (nxX bf tl C)))) 9 3 = 0 → r2_10 = nuV bf (((rsX bf tl (nxX bf tl C))))) ∧ (0 ≤ r2_10 ∧ r2_10 ≤ 1000) := hu_84
      have hw : qw D A s.heap (mW g cI cB cZ th len tl ts2_10 te2_10 tk2_10 nu2_10 er2_10 eo2_10 hL hS dp bf d2_9 td sa ad hi sl sv tr) H locs := hw
      refine q_iast hx hb hK hw 2 0 rfl rfl (by omega) dX7_sheetLine_87 (fun H locs hw => ?_)
      have hw : qw D A s.heap (mW g cI cB cZ th len tl ts2_10 te2_10 tk2_10 nu2_10 er2_10 eo2_10 hL hS dp bf (uI d2_9 (8 + 7 * C 8 0 + 3) r2_10) td sa ad hi sl sv tr) H locs := hw
      obtain ⟨f_5, e_f_5⟩ : ∃ z, z = uI d2_9 (8 + 7 * C 8 0 + 3) r2_10 := ⟨_, rfl⟩
      have hw : qw D A s.heap (mW g cI cB cZ th len tl ts2_10 te2_10 tk2_10 nu2_10 er2_10 eo2_10 hL hS dp bf f_5 td sa ad hi sl sv tr) H locs := by rw [e_f_5]; exact hw
      refine lv_aload_n hx hb dX7_sheetLine_88 rfl (lv_at hl 2 rfl) ?_
      refine q_get hx hb hts hown hK hw.1 ci_X7 0 rfl 10 (by decide) fl_X7_13 rfl dX7_sheetLine_89 ?_
      refine lv_iload_n hx hb dX7_sheetLine_92 rfl (lv_at hl 1 rfl) ?_
      refine q_iconst hx hb dX7_sheetLine_93 ?_
      refine q_iadd hx hb dX7_sheetLine_94 ?_
      refine lv_iload_n hx hb dX7_sheetLine_95 rfl (lv_at hl 3 rfl) ?_
      refine q_if_eq (tgt := 103) hx hb dX7_sheetLine_96 (by decide) (by omega) (fun c_96 => ?_) (fun c_96 => absurd c_96 (by omega))
      refine lv_aload_n hx hb dX7_sheetLine_103 rfl (lv_at hl 2 rfl) ?_
      refine q_iconst hx hb dX7_sheetLine_104 ?_
      refine q_sipush hx hb dX7_sheetLine_105 rfl ?_
      refine q_callM (As := [.int (iI 0), .int (iI 1000)]) (rest := [.int (iI (8 + 7 * C 8 0 + 4)), .ref (g 2)]) (wr := []) hx hb hml hown hts hK (c_X7_read (C := (rdX bf tl (0) (1000) (rsX bf tl (nxX bf tl C)))) (0) (1000) (by first | omega | assumption) (by first | omega | assumption) (by exact hu_10_0) (by first | omega | assumption)) yi_X7_read ml_X7_111 (by rw [hR]; decide) hw hA [0, 1, 2, 3, 4, 5, 6, 7, 8, 9] [] rfl rfl (by decide) (by decide) (by decide) 0 rfl rfl rfl rfl hl.1 (lv_room (Nat.le_of_ble_eq_true rfl)) dX7_sheetLine_108 ⟨by rw [hR]; exact Nat.zero_le _, by rw [hR]; exact Nat.zero_le _⟩ (fun u_108 H locs hu_108 hw => ?_)
      obtain ⟨ts2_11, te2_11, tk2_11, nu2_11, er2_11, eo2_11, r2_11⟩ := u_108
      obtain ⟨hu_11_0, hu_11_1, hu_11_2⟩ : (PR bf tl ts2_11 te2_11 tk2_11 nu2_11 er2_11 eo2_11 (rdX bf tl 0 1000 (((rdX bf tl (0) (1000) (rsX bf tl (nxX bf tl C))))))) ∧ (rdX bf tl 0 1000 (((rdX bf tl (0) (1000) (rsX bf tl (nxX bf tl C))))) 9 3 = 0 → r2_11 = nuV bf (((rdX bf tl (0) (1000) (rsX bf tl (nxX bf tl C)))))) ∧ (0 ≤ r2_11 ∧ r2_11 ≤ 1000) := hu_108
      have hw : qw D A s.heap (mW g cI cB cZ th len tl ts2_11 te2_11 tk2_11 nu2_11 er2_11 eo2_11 hL hS dp bf f_5 td sa ad hi sl sv tr) H locs := hw
      refine q_iast hx hb hK hw 2 0 rfl rfl (by omega) dX7_sheetLine_111 (fun H locs hw => ?_)
      have hw : qw D A s.heap (mW g cI cB cZ th len tl ts2_11 te2_11 tk2_11 nu2_11 er2_11 eo2_11 hL hS dp bf (uI f_5 (8 + 7 * C 8 0 + 4) r2_11) td sa ad hi sl sv tr) H locs := hw
      obtain ⟨f_6, e_f_6⟩ : ∃ z, z = uI f_5 (8 + 7 * C 8 0 + 4) r2_11 := ⟨_, rfl⟩
      have hw : qw D A s.heap (mW g cI cB cZ th len tl ts2_11 te2_11 tk2_11 nu2_11 er2_11 eo2_11 hL hS dp bf f_6 td sa ad hi sl sv tr) H locs := by rw [e_f_6]; exact hw
      refine lv_aload_n hx hb dX7_sheetLine_112 rfl (lv_at hl 2 rfl) ?_
      refine q_get hx hb hts hown hK hw.1 ci_X7 0 rfl 10 (by decide) fl_X7_13 rfl dX7_sheetLine_113 ?_
      refine lv_iload_n hx hb dX7_sheetLine_116 rfl (lv_at hl 1 rfl) ?_
      refine q_iconst hx hb dX7_sheetLine_117 ?_
      refine q_iadd hx hb dX7_sheetLine_118 ?_
      refine lv_iload_n hx hb dX7_sheetLine_119 rfl (lv_at hl 0 rfl) ?_
      refine q_iast hx hb hK hw 2 0 rfl rfl (by omega) dX7_sheetLine_120 (fun H locs hw => ?_)
      have hw : qw D A s.heap (mW g cI cB cZ th len tl ts2_11 te2_11 tk2_11 nu2_11 er2_11 eo2_11 hL hS dp bf (uI f_6 (8 + 7 * C 8 0 + 5) (-1)) td sa ad hi sl sv tr) H locs := hw
      obtain ⟨f_7, e_f_7⟩ : ∃ z, z = uI f_6 (8 + 7 * C 8 0 + 5) (-1) := ⟨_, rfl⟩
      have hw : qw D A s.heap (mW g cI cB cZ th len tl ts2_11 te2_11 tk2_11 nu2_11 er2_11 eo2_11 hL hS dp bf f_7 td sa ad hi sl sv tr) H locs := by rw [e_f_7]; exact hw
      have h_b : f_7 = uI (uI (uI (uI (uI (uI dr (8 + 7 * C 8 0) a1) (8 + 7 * C 8 0 + 1) b1) (8 + 7 * C 8 0 + 2) c1) (8 + 7 * C 8 0 + 3) r2_10) (8 + 7 * C 8 0 + 4) r2_11) (8 + 7 * C 8 0 + 5) (-1) := by rw [e_f_7, e_f_6, e_f_5, h_e]
      refine lv_aload_n hx hb dX7_sheetLine_121 rfl (lv_at hl 2 rfl) ?_
      refine lv_iload_n hx hb dX7_sheetLine_122 rfl (lv_at hl 1 rfl) ?_
      refine q_callMz (As := [.int (iI (8 + 7 * C 8 0))]) (rest := []) (wr := []) (zz_ok z) hx hb hml hown hts hK (c_X7_readGlue (C := (rdX bf tl (0) (1000) (rdX bf tl (0) (1000) (rsX bf tl (nxX bf tl C))))) (sh := C 8 0) (8 + 7 * C 8 0) (by first | omega | assumption) (by first | omega | assumption) (by exact hu_11_0) (by exact ⟨rfl, by omega, by omega⟩)) yi_X7_readGlue ml_X7_124 (by rw [hR]; decide) hw hA (z_M (zz_ok z) hZ hw hA [0, 1, 2, 3, 4, 5, 6, 7, 8, 9] rfl) [0, 1, 2, 3, 4, 5, 6, 7, 8, 9] [] rfl rfl (by decide) (by decide) (by decide) 0 rfl rfl rfl rfl hl.1 (lv_room (Nat.le_of_ble_eq_true rfl)) dX7_sheetLine_123 ⟨by rw [hR]; exact Nat.zero_le _, by rw [hR]; exact Nat.zero_le _⟩ (fun u_123 H locs hu_123 hw => ?_)
      obtain ⟨ts2_12, te2_12, tk2_12, nu2_12, er2_12, eo2_12, d2_12⟩ := u_123
      obtain ⟨hu_12_0, hu_12_1⟩ : (PR bf tl ts2_12 te2_12 tk2_12 nu2_12 er2_12 eo2_12 (glX bf tl (((rdX bf tl (0) (1000) (rdX bf tl (0) (1000) (rsX bf tl (nxX bf tl C)))))))) ∧ (∃ v : Int, d2_12 = uI f_7 ((8 + 7 * C 8 0) + 6) v ∧ (glX bf tl (((rdX bf tl (0) (1000) (rdX bf tl (0) (1000) (rsX bf tl (nxX bf tl C)))))) 9 3 = 0 → v = glV bf tl (((rdX bf tl (0) (1000) (rdX bf tl (0) (1000) (rsX bf tl (nxX bf tl C))))))) ∧ -1 ≤ v ∧ v ≤ 400) := hu_123
      have hw : qw D A s.heap (mW g cI cB cZ th len tl ts2_12 te2_12 tk2_12 nu2_12 er2_12 eo2_12 hL hS dp bf d2_12 td sa ad hi sl sv tr) H locs := hw
      obtain ⟨v1, h_g, h_w, h_r2⟩ := hu_12_1
      have h_d : d2_12 = putD dr (8 + 7 * C 8 0) [a1, b1, c1, r2_10, r2_11, (-1), v1] := by rw [h_g, h_b]; rfl
      have q_e : _ = sh4 bf tl (nxX bf tl C) 9 3 := (hu_12_0).1
      have q_e2 := (hu_12_0).2.1
      refine lv_aload_n hx hb dX7_sheetLine_126 rfl (lv_at hl 2 rfl) ?_
      refine q_get hx hb hts hown hK hw.1 ci_X7 0 rfl 8 (by decide) fl_X7_79 rfl dX7_sheetLine_127 ?_
      refine q_if_ne (tgt := 143) hx hb dX7_sheetLine_130 (by decide) (by omega) (fun c_130 => ?_) (fun c_130 => ?_)
      · exact hret (ts2_12, te2_12, tk2_12, nu2_12, er2_12, eo2_12, d2_12) H locs 143 ls ⟨(by first | (rw [sht_f q_c (fun w => c_130 (q_e.trans w))]; exact hu_12_0) | (rw [sht_t q_c (q_e.symm.trans c_130)]; exact PR_put hu_12_0)), (by first | (rw [sht_f q_c (fun w => c_130 (q_e.trans w))]; exact DR_no hD hD.1 (fun w => c_130 (q_e.trans w))) | (rw [h_d]; exact sht_e q_c hD h_s hu_10_1 hu_11_1 h_w ⟨h_r, hu_10_2, hu_11_2, h_r2⟩ (q_e.symm.trans c_130)))⟩ hw dX7_sheetLine_143
      · refine lv_aload_n hx hb dX7_sheetLine_133 rfl (lv_at hl 2 rfl) ?_
        refine q_get hx hb hts hown hK hw.1 ci_X7 0 rfl 10 (by decide) fl_X7_13 rfl dX7_sheetLine_134 ?_
        refine q_iconst hx hb dX7_sheetLine_137 ?_
        refine lv_dup2_11 hx hb dX7_sheetLine_138 rfl rfl ?_
        refine q_iald hx hb hK hw.1 2 0 rfl rfl (z := 2) (v := (C 8 0)) (by omega) (by rw [h_d, putD_o (by omega)]; exact q_2.2.2.1) dX7_sheetLine_139 ?_
        refine q_iconst hx hb dX7_sheetLine_140 ?_
        refine q_iadd hx hb dX7_sheetLine_141 ?_
        refine q_iast hx hb hK hw 2 0 rfl rfl (by omega) dX7_sheetLine_142 (fun H locs hw => ?_)
        have hw : qw D A s.heap (mW g cI cB cZ th len tl ts2_12 te2_12 tk2_12 nu2_12 er2_12 eo2_12 hL hS dp bf (uI d2_12 2 (C 8 0 + 1)) td sa ad hi sl sv tr) H locs := hw
        obtain ⟨f_8, e_f_8⟩ : ∃ z, z = uI d2_12 2 (C 8 0 + 1) := ⟨_, rfl⟩
        have hw : qw D A s.heap (mW g cI cB cZ th len tl ts2_12 te2_12 tk2_12 nu2_12 er2_12 eo2_12 hL hS dp bf f_8 td sa ad hi sl sv tr) H locs := by rw [e_f_8]; exact hw
        exact hret (ts2_12, te2_12, tk2_12, nu2_12, er2_12, eo2_12, f_8) H locs 143 ls ⟨(by first | (rw [sht_f q_c (fun w => c_130 (q_e.trans w))]; exact hu_12_0) | (rw [sht_t q_c (q_e.symm.trans c_130)]; exact PR_put hu_12_0)), (by first | (rw [sht_f q_c (fun w => c_130 (q_e.trans w))]; exact DR_no hD hD.1 (fun w => c_130 (q_e.trans w))) | (rw [e_f_8, h_d]; exact sht_e q_c hD h_s hu_10_1 hu_11_1 h_w ⟨h_r, hu_10_2, hu_11_2, h_r2⟩ (q_e.symm.trans c_130)))⟩ hw dX7_sheetLine_143
    · have q_c : ¬ (C 8 0 < 40) := fun z => c_21 ((muX_3 (k := 5) (X := C) (by decide)).mpr ⟨h0, by omega⟩)
      exact hret (ts, te, tk, nu, er2_7, eo2_7, dr) H locs 24 ls ⟨(by (rw [show shtX bf tl C = faX 5 C from if_neg (by omega)]; exact PR_muf hu_7_0 (by omega))), (by (rw [show shtX bf tl C = faX 5 C from if_neg (by omega)]; exact DR_fa hD (by decide)))⟩ hw dX7_sheetLine_24

set_option maxHeartbeats 4000000 in
set_option maxRecDepth 100000 in
theorem c_X7_sheetLine_c (cq : Int) (hbf : byR bf) (ht : 0 ≤ tl ∧ tl ≤ 700) (hP : PR bf tl ts te tk nu er eo C) (hD : DR dr hL hS C) (h0 : C 9 3 = 0) (hcq : cq = 1) : qMz l (ZZ z) D (tyG cI cB cZ cS cJ) yX7_sheetLine cX7_sheetLine 4 (Option.none) 6 129 [.ref (g 0), .int (iI cq)] (mW g cI cB cZ th len tl ts te tk nu er eo hL hS dp bf dr td sa ad hi sl sv tr) (fun u : (Int) × (Int) × (Int) × (Int) × (Int) × (Int) × (Int → Int) => (PR bf tl ((u.1)) ((u.2.1)) ((u.2.2.1)) ((u.2.2.2.1)) ((u.2.2.2.2.1)) ((u.2.2.2.2.2.1)) (codX bf tl C)) ∧ (DR ((u.2.2.2.2.2.2)) hL hS (codX bf tl C))) (fun _ => none) (fun u => (mW g cI cB cZ th len tl (u.1) (u.2.1) (u.2.2.1) (u.2.2.2.1) (u.2.2.2.2.1) (u.2.2.2.2.2.1) hL hS dp bf (u.2.2.2.2.2.2) td sa ad hi sl sv tr)) := by
  have q_e := hP.1
  have q_5 := hP.2.2.2.2
  have q_6 := hP.2.1
  have q_7 := hP.2.2.2.1
  have q_8 := hD.1
  have q_a : C 9 3 = 0 → hS = C 9 6 := fun z => (hD.2 z).2.2.2
  have q_b : C 9 3 = 0 → hL = C 9 5 := fun z => (hD.2 z).2.2.1
  have q_d := hD.2 h0
  have q_2 := q_d.1.1
  have q_w := q_d.2.1.1
  have q_y3 : (nxX bf tl C) 9 3 = 0 := h0
  refine qMz_enterV (by decide) (Nat.le_of_ble_eq_true rfl) (fun p e R s m args below meth c Q ls A X hR hA hw hZ hl hret => ?_)
  obtain ⟨hx, hb, hml, hown, hts, hK⟩ := X
  have hl : lv_has ls 4 [(0, .ref (g 0)), (1, .int (iI cq))] := hl
  suffices K : ∀ (H : Heap) (locs : List Loc), qw D A s.heap (mW g cI cB cZ th len tl ts te tk nu er eo hL hS dp bf dr td sa ad hi sl sv tr) H locs → W p l e R s m args below meth c H locs 0 0 Q (F0 m 0 ls []) from K s.heap [] hw
  clear hw
  intro H locs hw
  refine lv_aload_n hx hb dX7_sheetLine_0 rfl (lv_at hl 0 rfl) ?_
  refine lv_aload_n hx hb dX7_sheetLine_1 rfl (lv_at hl 0 rfl) ?_
  refine q_get hx hb hts hown hK hw.1 ci_X7 0 rfl 10 (by decide) fl_X7_13 rfl dX7_sheetLine_2 ?_
  refine q_iconst hx hb dX7_sheetLine_5 ?_
  refine q_iald hx hb hK hw.1 2 0 rfl rfl (z := 2) (v := (C 8 0)) (by omega) (by exact q_2.2.2.1) dX7_sheetLine_6 ?_
  refine q_bipush hx hb dX7_sheetLine_7 rfl ?_
  refine q_icmp_ge (tgt := 16) hx hb dX7_sheetLine_9 (by decide) (by omega) (fun c_9 => ?_) (fun c_9 => ?_)
  · refine q_iconst hx hb dX7_sheetLine_16 ?_
    refine q_iconst hx hb dX7_sheetLine_17 ?_
    refine q_callM (As := [.int (iI 0), .int (iI 5)]) (rest := []) (wr := []) hx hb hml hown hts hK (c_X7_must (C := C) (0) (5) (by exact hP) (by first | omega | assumption) (by first | omega | assumption)) yi_X7_must ml_X7_97 (by rw [hR]; decide) hw hA [0, 1, 2, 3, 4, 5, 6, 7, 8, 9] [] rfl rfl (by decide) (by decide) (by decide) 0 rfl rfl rfl rfl hl.1 (lv_room (Nat.le_of_ble_eq_true rfl)) dX7_sheetLine_18 ⟨by rw [hR]; exact Nat.zero_le _, by rw [hR]; exact Nat.zero_le _⟩ (fun u_18 H locs hu_18 hw => ?_)
    obtain ⟨er2_1, eo2_1⟩ := u_18
    have hu_1_0 : PR bf tl ts te tk nu er2_1 eo2_1 (muX 0 5 ((C))) := hu_18
    have hw : qw D A s.heap (mW g cI cB cZ th len tl ts te tk nu er2_1 eo2_1 hL hS dp bf dr td sa ad hi sl sv tr) H locs := hw
    have b_1 := ()
    refine q_ifb_ne (tgt := 25) hx hb dX7_sheetLine_21 (by decide) (fun c_21 => ?_) (fun c_21 => ?_)
    · have q_21 : C 9 3 = 0 ∧ _ := (muX_3 (k := 5) (X := C) (by decide)).mp c_21
      refine lv_aload_n hx hb dX7_sheetLine_25 rfl (lv_at hl 0 rfl) ?_
      refine q_callM (As := []) (rest := []) (wr := []) hx hb hml hown hts hK (c_X7_goOn (C := (muX (0) (5) C)) (by first | omega | assumption) (by first | omega | assumption) (by exact hu_1_0)) yi_X7_goOn ml_X7_101 (by rw [hR]; decide) hw hA [0, 1, 2, 3, 4, 5, 6, 7, 8, 9] [] rfl rfl (by decide) (by decide) (by decide) 0 rfl rfl rfl rfl hl.1 (lv_room (Nat.le_of_ble_eq_true rfl)) dX7_sheetLine_26 ⟨by rw [hR]; exact Nat.zero_le _, by rw [hR]; exact Nat.zero_le _⟩ (fun u_26 H locs hu_26 hw => ?_)
      obtain ⟨ts2_2, te2_2, tk2_2, nu2_2⟩ := u_26
      have hu_2_0 : PR bf tl ts2_2 te2_2 tk2_2 nu2_2 er2_1 eo2_1 (goX bf tl (((muX (0) (5) C)))) := hu_26
      have hw : qw D A s.heap (mW g cI cB cZ th len tl ts2_2 te2_2 tk2_2 nu2_2 er2_1 eo2_1 hL hS dp bf dr td sa ad hi sl sv tr) H locs := hw
      have h_Y := PR_goy hu_2_0 q_21
      have q_c : C 9 3 = 0 ∧ C 8 0 < 40 := ⟨h0, by omega⟩
      refine q_bipush hx hb dX7_sheetLine_29 rfl ?_
      refine q_bipush hx hb dX7_sheetLine_31 rfl ?_
      refine lv_aload_n hx hb dX7_sheetLine_33 rfl (lv_at hl 0 rfl) ?_
      refine q_get hx hb hts hown hK hw.1 ci_X7 0 rfl 10 (by decide) fl_X7_13 rfl dX7_sheetLine_34 ?_
      refine q_iconst hx hb dX7_sheetLine_37 ?_
      refine q_iald hx hb hK hw.1 2 0 rfl rfl (z := 2) (v := (C 8 0)) (by omega) (by exact q_2.2.2.1) dX7_sheetLine_38 ?_
      refine q_imul hx hb dX7_sheetLine_39 ?_
      refine q_iadd hx hb dX7_sheetLine_40 ?_
      refine lv_istore_n (lv' := [(2, .int (iI (8 + 7 * C 8 0))), (0, .ref (g 0)), (1, .int (iI cq))]) hx hb dX7_sheetLine_41 rfl hl (by decide) rfl (fun ls hl => ?_)
      refine lv_iload_n hx hb dX7_sheetLine_42 rfl (lv_at hl 2 rfl) ?_
      refine q_if_eq (tgt := 57) hx hb dX7_sheetLine_43 (by decide) (by omega) (fun c_43 => absurd c_43 (by omega)) (fun c_43 => ?_)
      refine lv_aload_n hx hb dX7_sheetLine_46 rfl (lv_at hl 1 rfl) ?_
      refine q_iconst hx hb dX7_sheetLine_47 ?_
      refine q_sipush hx hb dX7_sheetLine_48 rfl ?_
      refine q_callM (As := [.int (iI 0), .int (iI 999)]) (rest := []) (wr := []) hx hb hml hown hts hK (c_X7_read (C := (nxX bf tl C)) (0) (999) (by first | omega | assumption) (by first | omega | assumption) (by exact h_Y) (by first | omega | assumption)) yi_X7_read ml_X7_111 (by rw [hR]; decide) hw hA [0, 1, 2, 3, 4, 5, 6, 7, 8, 9] [] rfl rfl (by decide) (by decide) (by decide) 0 rfl rfl rfl rfl hl.1 (lv_room (Nat.le_of_ble_eq_true rfl)) dX7_sheetLine_51 ⟨by rw [hR]; exact Nat.zero_le _, by rw [hR]; exact Nat.zero_le _⟩ (fun u_51 H locs hu_51 hw => ?_)
      obtain ⟨ts2_3, te2_3, tk2_3, nu2_3, er2_3, eo2_3, r2_3⟩ := u_51
      obtain ⟨hu_3_0, hu_3_1, hu_3_2⟩ : (PR bf tl ts2_3 te2_3 tk2_3 nu2_3 er2_3 eo2_3 (rdX bf tl 0 999 (((nxX bf tl C))))) ∧ (rdX bf tl 0 999 (((nxX bf tl C))) 9 3 = 0 → r2_3 = nuV bf (((nxX bf tl C)))) ∧ (0 ≤ r2_3 ∧ r2_3 ≤ 999) := hu_51
      have hw : qw D A s.heap (mW g cI cB cZ th len tl ts2_3 te2_3 tk2_3 nu2_3 er2_3 eo2_3 hL hS dp bf dr td sa ad hi sl sv tr) H locs := hw
      have b_2 := ()
      refine lv_goto (tgt := 58) hx hb dX7_sheetLine_54 (by decide) ?_
      refine lv_istore_n (lv' := [(3, .int (iI r2_3)), (2, .int (iI (8 + 7 * C 8 0))), (0, .ref (g 0)), (1, .int (iI cq))]) hx hb dX7_sheetLine_58 rfl hl (by decide) rfl (fun ls hl => ?_)
      refine lv_aload_n hx hb dX7_sheetLine_59 rfl (lv_at hl 2 rfl) ?_
      refine lv_iload_n hx hb dX7_sheetLine_60 rfl (lv_at hl 1 rfl) ?_
      refine q_callM (As := [.int (iI (8 + 7 * C 8 0))]) (rest := []) (wr := []) hx hb hml hown hts hK (c_X7_readShape (C := (rdX bf tl (0) (999) (nxX bf tl C))) (sh := C 8 0) (8 + 7 * C 8 0) (by first | omega | assumption) (by first | omega | assumption) (by exact hu_3_0) (by exact ⟨rfl, by omega, by omega⟩)) yi_X7_readShape ml_X7_121 (by rw [hR]; decide) hw hA [0, 1, 2, 3, 4, 5, 6, 7, 8, 9] [] rfl rfl (by decide) (by decide) (by decide) 0 rfl rfl rfl rfl hl.1 (lv_room (Nat.le_of_ble_eq_true rfl)) dX7_sheetLine_61 ⟨by rw [hR]; exact Nat.zero_le _, by rw [hR]; exact Nat.zero_le _⟩ (fun u_61 H locs hu_61 hw => ?_)
      obtain ⟨ts2_4, te2_4, tk2_4, nu2_4, er2_4, eo2_4, d2_4⟩ := u_61
      obtain ⟨hu_4_0, hu_4_1⟩ : (PR bf tl ts2_4 te2_4 tk2_4 nu2_4 er2_4 eo2_4 (rsX bf tl (((rdX bf tl (0) (999) (nxX bf tl C)))))) ∧ (∃ a b c : Int, d2_4 = uI (uI (uI dr (8 + 7 * C 8 0) a) ((8 + 7 * C 8 0) + 1) b) ((8 + 7 * C 8 0) + 2) c ∧ (rsX bf tl (((rdX bf tl (0) (999) (nxX bf tl C)))) 9 3 = 0 → shp bf tl (((rdX bf tl (0) (999) (nxX bf tl C)))) a b c) ∧ shR2 a b c) := hu_61
      have hw : qw D A s.heap (mW g cI cB cZ th len tl ts2_4 te2_4 tk2_4 nu2_4 er2_4 eo2_4 hL hS dp bf d2_4 td sa ad hi sl sv tr) H locs := hw
      obtain ⟨a1, b1, c1, h_e, h_s, h_r⟩ := hu_4_1
      refine lv_aload_n hx hb dX7_sheetLine_64 rfl (lv_at hl 2 rfl) ?_
      refine q_get hx hb hts hown hK hw.1 ci_X7 0 rfl 10 (by decide) fl_X7_13 rfl dX7_sheetLine_65 ?_
      refine lv_iload_n hx hb dX7_sheetLine_68 rfl (lv_at hl 1 rfl) ?_
      refine q_iconst hx hb dX7_sheetLine_69 ?_
      refine q_iadd hx hb dX7_sheetLine_70 ?_
      refine lv_iload_n hx hb dX7_sheetLine_71 rfl (lv_at hl 3 rfl) ?_
      refine q_if_eq (tgt := 79) hx hb dX7_sheetLine_72 (by decide) (by omega) (fun c_72 => absurd c_72 (by omega)) (fun c_72 => ?_)
      refine q_iconst hx hb dX7_sheetLine_75 ?_
      refine lv_goto (tgt := 87) hx hb dX7_sheetLine_76 (by decide) ?_
      refine q_iast hx hb hK hw 2 0 rfl rfl (by omega) dX7_sheetLine_87 (fun H locs hw => ?_)
      have hw : qw D A s.heap (mW g cI cB cZ th len tl ts2_4 te2_4 tk2_4 nu2_4 er2_4 eo2_4 hL hS dp bf (uI d2_4 (8 + 7 * C 8 0 + 3) 0) td sa ad hi sl sv tr) H locs := hw
      obtain ⟨f_1, e_f_1⟩ : ∃ z, z = uI d2_4 (8 + 7 * C 8 0 + 3) 0 := ⟨_, rfl⟩
      have hw : qw D A s.heap (mW g cI cB cZ th len tl ts2_4 te2_4 tk2_4 nu2_4 er2_4 eo2_4 hL hS dp bf f_1 td sa ad hi sl sv tr) H locs := by rw [e_f_1]; exact hw
      refine lv_aload_n hx hb dX7_sheetLine_88 rfl (lv_at hl 2 rfl) ?_
      refine q_get hx hb hts hown hK hw.1 ci_X7 0 rfl 10 (by decide) fl_X7_13 rfl dX7_sheetLine_89 ?_
      refine lv_iload_n hx hb dX7_sheetLine_92 rfl (lv_at hl 1 rfl) ?_
      refine q_iconst hx hb dX7_sheetLine_93 ?_
      refine q_iadd hx hb dX7_sheetLine_94 ?_
      refine lv_iload_n hx hb dX7_sheetLine_95 rfl (lv_at hl 3 rfl) ?_
      refine q_if_eq (tgt := 103) hx hb dX7_sheetLine_96 (by decide) (by omega) (fun c_96 => absurd c_96 (by omega)) (fun c_96 => ?_)
      refine q_iconst hx hb dX7_sheetLine_99 ?_
      refine lv_goto (tgt := 111) hx hb dX7_sheetLine_100 (by decide) ?_
      refine q_iast hx hb hK hw 2 0 rfl rfl (by omega) dX7_sheetLine_111 (fun H locs hw => ?_)
      have hw : qw D A s.heap (mW g cI cB cZ th len tl ts2_4 te2_4 tk2_4 nu2_4 er2_4 eo2_4 hL hS dp bf (uI f_1 (8 + 7 * C 8 0 + 4) 0) td sa ad hi sl sv tr) H locs := hw
      obtain ⟨f_2, e_f_2⟩ : ∃ z, z = uI f_1 (8 + 7 * C 8 0 + 4) 0 := ⟨_, rfl⟩
      have hw : qw D A s.heap (mW g cI cB cZ th len tl ts2_4 te2_4 tk2_4 nu2_4 er2_4 eo2_4 hL hS dp bf f_2 td sa ad hi sl sv tr) H locs := by rw [e_f_2]; exact hw
      refine lv_aload_n hx hb dX7_sheetLine_112 rfl (lv_at hl 2 rfl) ?_
      refine q_get hx hb hts hown hK hw.1 ci_X7 0 rfl 10 (by decide) fl_X7_13 rfl dX7_sheetLine_113 ?_
      refine lv_iload_n hx hb dX7_sheetLine_116 rfl (lv_at hl 1 rfl) ?_
      refine q_iconst hx hb dX7_sheetLine_117 ?_
      refine q_iadd hx hb dX7_sheetLine_118 ?_
      refine lv_iload_n hx hb dX7_sheetLine_119 rfl (lv_at hl 0 rfl) ?_
      refine q_iast hx hb hK hw 2 0 rfl rfl (by omega) dX7_sheetLine_120 (fun H locs hw => ?_)
      have hw : qw D A s.heap (mW g cI cB cZ th len tl ts2_4 te2_4 tk2_4 nu2_4 er2_4 eo2_4 hL hS dp bf (uI f_2 (8 + 7 * C 8 0 + 5) r2_3) td sa ad hi sl sv tr) H locs := hw
      obtain ⟨f_3, e_f_3⟩ : ∃ z, z = uI f_2 (8 + 7 * C 8 0 + 5) r2_3 := ⟨_, rfl⟩
      have hw : qw D A s.heap (mW g cI cB cZ th len tl ts2_4 te2_4 tk2_4 nu2_4 er2_4 eo2_4 hL hS dp bf f_3 td sa ad hi sl sv tr) H locs := by rw [e_f_3]; exact hw
      have h_b : f_3 = uI (uI (uI (uI (uI (uI dr (8 + 7 * C 8 0) a1) (8 + 7 * C 8 0 + 1) b1) (8 + 7 * C 8 0 + 2) c1) (8 + 7 * C 8 0 + 3) 0) (8 + 7 * C 8 0 + 4) 0) (8 + 7 * C 8 0 + 5) r2_3 := by rw [e_f_3, e_f_2, e_f_1, h_e]
      refine lv_aload_n hx hb dX7_sheetLine_121 rfl (lv_at hl 2 rfl) ?_
      refine lv_iload_n hx hb dX7_sheetLine_122 rfl (lv_at hl 1 rfl) ?_
      refine q_callMz (As := [.int (iI (8 + 7 * C 8 0))]) (rest := []) (wr := []) (zz_ok z) hx hb hml hown hts hK (c_X7_readGlue (C := (rsX bf tl (rdX bf tl (0) (999) (nxX bf tl C)))) (sh := C 8 0) (8 + 7 * C 8 0) (by first | omega | assumption) (by first | omega | assumption) (by exact hu_4_0) (by exact ⟨rfl, by omega, by omega⟩)) yi_X7_readGlue ml_X7_124 (by rw [hR]; decide) hw hA (z_M (zz_ok z) hZ hw hA [0, 1, 2, 3, 4, 5, 6, 7, 8, 9] rfl) [0, 1, 2, 3, 4, 5, 6, 7, 8, 9] [] rfl rfl (by decide) (by decide) (by decide) 0 rfl rfl rfl rfl hl.1 (lv_room (Nat.le_of_ble_eq_true rfl)) dX7_sheetLine_123 ⟨by rw [hR]; exact Nat.zero_le _, by rw [hR]; exact Nat.zero_le _⟩ (fun u_123 H locs hu_123 hw => ?_)
      obtain ⟨ts2_5, te2_5, tk2_5, nu2_5, er2_5, eo2_5, d2_5⟩ := u_123
      obtain ⟨hu_5_0, hu_5_1⟩ : (PR bf tl ts2_5 te2_5 tk2_5 nu2_5 er2_5 eo2_5 (glX bf tl (((rsX bf tl (rdX bf tl (0) (999) (nxX bf tl C))))))) ∧ (∃ v : Int, d2_5 = uI f_3 ((8 + 7 * C 8 0) + 6) v ∧ (glX bf tl (((rsX bf tl (rdX bf tl (0) (999) (nxX bf tl C))))) 9 3 = 0 → v = glV bf tl (((rsX bf tl (rdX bf tl (0) (999) (nxX bf tl C)))))) ∧ -1 ≤ v ∧ v ≤ 400) := hu_123
      have hw : qw D A s.heap (mW g cI cB cZ th len tl ts2_5 te2_5 tk2_5 nu2_5 er2_5 eo2_5 hL hS dp bf d2_5 td sa ad hi sl sv tr) H locs := hw
      obtain ⟨v1, h_g, h_w, h_r2⟩ := hu_5_1
      have h_d : d2_5 = putD dr (8 + 7 * C 8 0) [a1, b1, c1, 0, 0, r2_3, v1] := by rw [h_g, h_b]; rfl
      have q_e : _ = cd4 bf tl (nxX bf tl C) 9 3 := (hu_5_0).1
      have q_e2 := (hu_5_0).2.1
      refine lv_aload_n hx hb dX7_sheetLine_126 rfl (lv_at hl 2 rfl) ?_
      refine q_get hx hb hts hown hK hw.1 ci_X7 0 rfl 8 (by decide) fl_X7_79 rfl dX7_sheetLine_127 ?_
      refine q_if_ne (tgt := 143) hx hb dX7_sheetLine_130 (by decide) (by omega) (fun c_130 => ?_) (fun c_130 => ?_)
      · exact hret (ts2_5, te2_5, tk2_5, nu2_5, er2_5, eo2_5, d2_5) H locs 143 ls ⟨(by first | (rw [cod_f q_c (fun w => c_130 (q_e.trans w))]; exact hu_5_0) | (rw [cod_t q_c (q_e.symm.trans c_130)]; exact PR_put hu_5_0)), (by first | (rw [cod_f q_c (fun w => c_130 (q_e.trans w))]; exact DR_no hD hD.1 (fun w => c_130 (q_e.trans w))) | (rw [h_d]; exact cod_e q_c hD h_s hu_3_1 h_w ⟨h_r, hu_3_2, h_r2⟩ (q_e.symm.trans c_130)))⟩ hw dX7_sheetLine_143
      · refine lv_aload_n hx hb dX7_sheetLine_133 rfl (lv_at hl 2 rfl) ?_
        refine q_get hx hb hts hown hK hw.1 ci_X7 0 rfl 10 (by decide) fl_X7_13 rfl dX7_sheetLine_134 ?_
        refine q_iconst hx hb dX7_sheetLine_137 ?_
        refine lv_dup2_11 hx hb dX7_sheetLine_138 rfl rfl ?_
        refine q_iald hx hb hK hw.1 2 0 rfl rfl (z := 2) (v := (C 8 0)) (by omega) (by rw [h_d, putD_o (by omega)]; exact q_2.2.2.1) dX7_sheetLine_139 ?_
        refine q_iconst hx hb dX7_sheetLine_140 ?_
        refine q_iadd hx hb dX7_sheetLine_141 ?_
        refine q_iast hx hb hK hw 2 0 rfl rfl (by omega) dX7_sheetLine_142 (fun H locs hw => ?_)
        have hw : qw D A s.heap (mW g cI cB cZ th len tl ts2_5 te2_5 tk2_5 nu2_5 er2_5 eo2_5 hL hS dp bf (uI d2_5 2 (C 8 0 + 1)) td sa ad hi sl sv tr) H locs := hw
        obtain ⟨f_4, e_f_4⟩ : ∃ z, z = uI d2_5 2 (C 8 0 + 1) := ⟨_, rfl⟩
        have hw : qw D A s.heap (mW g cI cB cZ th len tl ts2_5 te2_5 tk2_5 nu2_5 er2_5 eo2_5 hL hS dp bf f_4 td sa ad hi sl sv tr) H locs := by rw [e_f_4]; exact hw
        exact hret (ts2_5, te2_5, tk2_5, nu2_5, er2_5, eo2_5, f_4) H locs 143 ls ⟨(by first | (rw [cod_f q_c (fun w => c_130 (q_e.trans w))]; exact hu_5_0) | (rw [cod_t q_c (q_e.symm.trans c_130)]; exact PR_put hu_5_0)), (by first | (rw [cod_f q_c (fun w => c_130 (q_e.trans w))]; exact DR_no hD hD.1 (fun w => c_130 (q_e.trans w))) | (rw [e_f_4, h_d]; exact cod_e q_c hD h_s hu_3_1 h_w ⟨h_r, hu_3_2, h_r2⟩ (q_e.symm.trans c_130)))⟩ hw dX7_sheetLine_143
    · have q_c : ¬ (C 8 0 < 40) := fun z => c_21 ((muX_3 (k := 5) (X := C) (by decide)).mpr ⟨h0, by omega⟩)
      exact hret (ts, te, tk, nu, er2_1, eo2_1, dr) H locs 24 ls ⟨(by (rw [show codX bf tl C = faX 5 C from if_neg (by omega)]; exact PR_muf hu_1_0 (by omega))), (by (rw [show codX bf tl C = faX 5 C from if_neg (by omega)]; exact DR_fa hD (by decide)))⟩ hw dX7_sheetLine_24
  · refine q_iconst hx hb dX7_sheetLine_12 ?_
    refine lv_goto (tgt := 17) hx hb dX7_sheetLine_13 (by decide) ?_
    refine q_iconst hx hb dX7_sheetLine_17 ?_
    refine q_callM (As := [.int (iI 1), .int (iI 5)]) (rest := []) (wr := []) hx hb hml hown hts hK (c_X7_must (C := C) (1) (5) (by exact hP) (by first | omega | assumption) (by first | omega | assumption)) yi_X7_must ml_X7_97 (by rw [hR]; decide) hw hA [0, 1, 2, 3, 4, 5, 6, 7, 8, 9] [] rfl rfl (by decide) (by decide) (by decide) 0 rfl rfl rfl rfl hl.1 (lv_room (Nat.le_of_ble_eq_true rfl)) dX7_sheetLine_18 ⟨by rw [hR]; exact Nat.zero_le _, by rw [hR]; exact Nat.zero_le _⟩ (fun u_18 H locs hu_18 hw => ?_)
    obtain ⟨er2_6, eo2_6⟩ := u_18
    have hu_6_0 : PR bf tl ts te tk nu er2_6 eo2_6 (muX 1 5 ((C))) := hu_18
    have hw : qw D A s.heap (mW g cI cB cZ th len tl ts te tk nu er2_6 eo2_6 hL hS dp bf dr td sa ad hi sl sv tr) H locs := hw
    have b_3 := ()
    refine q_ifb_ne (tgt := 25) hx hb dX7_sheetLine_21 (by decide) (fun c_21 => ?_) (fun c_21 => ?_)
    · have q_21 : C 9 3 = 0 ∧ _ := (muX_3 (k := 5) (X := C) (by decide)).mp c_21
      refine lv_aload_n hx hb dX7_sheetLine_25 rfl (lv_at hl 0 rfl) ?_
      refine q_callM (As := []) (rest := []) (wr := []) hx hb hml hown hts hK (c_X7_goOn (C := (muX (1) (5) C)) (by first | omega | assumption) (by first | omega | assumption) (by exact hu_6_0)) yi_X7_goOn ml_X7_101 (by rw [hR]; decide) hw hA [0, 1, 2, 3, 4, 5, 6, 7, 8, 9] [] rfl rfl (by decide) (by decide) (by decide) 0 rfl rfl rfl rfl hl.1 (lv_room (Nat.le_of_ble_eq_true rfl)) dX7_sheetLine_26 ⟨by rw [hR]; exact Nat.zero_le _, by rw [hR]; exact Nat.zero_le _⟩ (fun u_26 H locs hu_26 hw => ?_)
      obtain ⟨ts2_7, te2_7, tk2_7, nu2_7⟩ := u_26
      have hu_7_0 : PR bf tl ts2_7 te2_7 tk2_7 nu2_7 er2_6 eo2_6 (goX bf tl (((muX (1) (5) C)))) := hu_26
      have hw : qw D A s.heap (mW g cI cB cZ th len tl ts2_7 te2_7 tk2_7 nu2_7 er2_6 eo2_6 hL hS dp bf dr td sa ad hi sl sv tr) H locs := hw
      have h_Y := PR_goy hu_7_0 q_21
      have q_c : C 9 3 = 0 ∧ C 8 0 < 40 := ⟨h0, by omega⟩
      refine q_bipush hx hb dX7_sheetLine_29 rfl ?_
      refine q_bipush hx hb dX7_sheetLine_31 rfl ?_
      refine lv_aload_n hx hb dX7_sheetLine_33 rfl (lv_at hl 0 rfl) ?_
      refine q_get hx hb hts hown hK hw.1 ci_X7 0 rfl 10 (by decide) fl_X7_13 rfl dX7_sheetLine_34 ?_
      refine q_iconst hx hb dX7_sheetLine_37 ?_
      refine q_iald hx hb hK hw.1 2 0 rfl rfl (z := 2) (v := (C 8 0)) (by omega) (by exact q_2.2.2.1) dX7_sheetLine_38 ?_
      refine q_imul hx hb dX7_sheetLine_39 ?_
      refine q_iadd hx hb dX7_sheetLine_40 ?_
      refine lv_istore_n (lv' := [(2, .int (iI (8 + 7 * C 8 0))), (0, .ref (g 0)), (1, .int (iI cq))]) hx hb dX7_sheetLine_41 rfl hl (by decide) rfl (fun ls hl => ?_)
      refine lv_iload_n hx hb dX7_sheetLine_42 rfl (lv_at hl 2 rfl) ?_
      refine q_if_eq (tgt := 57) hx hb dX7_sheetLine_43 (by decide) (by omega) (fun c_43 => absurd c_43 (by omega)) (fun c_43 => ?_)
      refine lv_aload_n hx hb dX7_sheetLine_46 rfl (lv_at hl 1 rfl) ?_
      refine q_iconst hx hb dX7_sheetLine_47 ?_
      refine q_sipush hx hb dX7_sheetLine_48 rfl ?_
      refine q_callM (As := [.int (iI 0), .int (iI 999)]) (rest := []) (wr := []) hx hb hml hown hts hK (c_X7_read (C := (nxX bf tl C)) (0) (999) (by first | omega | assumption) (by first | omega | assumption) (by exact h_Y) (by first | omega | assumption)) yi_X7_read ml_X7_111 (by rw [hR]; decide) hw hA [0, 1, 2, 3, 4, 5, 6, 7, 8, 9] [] rfl rfl (by decide) (by decide) (by decide) 0 rfl rfl rfl rfl hl.1 (lv_room (Nat.le_of_ble_eq_true rfl)) dX7_sheetLine_51 ⟨by rw [hR]; exact Nat.zero_le _, by rw [hR]; exact Nat.zero_le _⟩ (fun u_51 H locs hu_51 hw => ?_)
      obtain ⟨ts2_8, te2_8, tk2_8, nu2_8, er2_8, eo2_8, r2_8⟩ := u_51
      obtain ⟨hu_8_0, hu_8_1, hu_8_2⟩ : (PR bf tl ts2_8 te2_8 tk2_8 nu2_8 er2_8 eo2_8 (rdX bf tl 0 999 (((nxX bf tl C))))) ∧ (rdX bf tl 0 999 (((nxX bf tl C))) 9 3 = 0 → r2_8 = nuV bf (((nxX bf tl C)))) ∧ (0 ≤ r2_8 ∧ r2_8 ≤ 999) := hu_51
      have hw : qw D A s.heap (mW g cI cB cZ th len tl ts2_8 te2_8 tk2_8 nu2_8 er2_8 eo2_8 hL hS dp bf dr td sa ad hi sl sv tr) H locs := hw
      have b_4 := ()
      refine lv_goto (tgt := 58) hx hb dX7_sheetLine_54 (by decide) ?_
      refine lv_istore_n (lv' := [(3, .int (iI r2_8)), (2, .int (iI (8 + 7 * C 8 0))), (0, .ref (g 0)), (1, .int (iI cq))]) hx hb dX7_sheetLine_58 rfl hl (by decide) rfl (fun ls hl => ?_)
      refine lv_aload_n hx hb dX7_sheetLine_59 rfl (lv_at hl 2 rfl) ?_
      refine lv_iload_n hx hb dX7_sheetLine_60 rfl (lv_at hl 1 rfl) ?_
      refine q_callM (As := [.int (iI (8 + 7 * C 8 0))]) (rest := []) (wr := []) hx hb hml hown hts hK (c_X7_readShape (C := (rdX bf tl (0) (999) (nxX bf tl C))) (sh := C 8 0) (8 + 7 * C 8 0) (by first | omega | assumption) (by first | omega | assumption) (by exact hu_8_0) (by exact ⟨rfl, by omega, by omega⟩)) yi_X7_readShape ml_X7_121 (by rw [hR]; decide) hw hA [0, 1, 2, 3, 4, 5, 6, 7, 8, 9] [] rfl rfl (by decide) (by decide) (by decide) 0 rfl rfl rfl rfl hl.1 (lv_room (Nat.le_of_ble_eq_true rfl)) dX7_sheetLine_61 ⟨by rw [hR]; exact Nat.zero_le _, by rw [hR]; exact Nat.zero_le _⟩ (fun u_61 H locs hu_61 hw => ?_)
      obtain ⟨ts2_9, te2_9, tk2_9, nu2_9, er2_9, eo2_9, d2_9⟩ := u_61
      obtain ⟨hu_9_0, hu_9_1⟩ : (PR bf tl ts2_9 te2_9 tk2_9 nu2_9 er2_9 eo2_9 (rsX bf tl (((rdX bf tl (0) (999) (nxX bf tl C)))))) ∧ (∃ a b c : Int, d2_9 = uI (uI (uI dr (8 + 7 * C 8 0) a) ((8 + 7 * C 8 0) + 1) b) ((8 + 7 * C 8 0) + 2) c ∧ (rsX bf tl (((rdX bf tl (0) (999) (nxX bf tl C)))) 9 3 = 0 → shp bf tl (((rdX bf tl (0) (999) (nxX bf tl C)))) a b c) ∧ shR2 a b c) := hu_61
      have hw : qw D A s.heap (mW g cI cB cZ th len tl ts2_9 te2_9 tk2_9 nu2_9 er2_9 eo2_9 hL hS dp bf d2_9 td sa ad hi sl sv tr) H locs := hw
      obtain ⟨a1, b1, c1, h_e, h_s, h_r⟩ := hu_9_1
      refine lv_aload_n hx hb dX7_sheetLine_64 rfl (lv_at hl 2 rfl) ?_
      refine q_get hx hb hts hown hK hw.1 ci_X7 0 rfl 10 (by decide) fl_X7_13 rfl dX7_sheetLine_65 ?_
      refine lv_iload_n hx hb dX7_sheetLine_68 rfl (lv_at hl 1 rfl) ?_
      refine q_iconst hx hb dX7_sheetLine_69 ?_
      refine q_iadd hx hb dX7_sheetLine_70 ?_
      refine lv_iload_n hx hb dX7_sheetLine_71 rfl (lv_at hl 3 rfl) ?_
      refine q_if_eq (tgt := 79) hx hb dX7_sheetLine_72 (by decide) (by omega) (fun c_72 => absurd c_72 (by omega)) (fun c_72 => ?_)
      refine q_iconst hx hb dX7_sheetLine_75 ?_
      refine lv_goto (tgt := 87) hx hb dX7_sheetLine_76 (by decide) ?_
      refine q_iast hx hb hK hw 2 0 rfl rfl (by omega) dX7_sheetLine_87 (fun H locs hw => ?_)
      have hw : qw D A s.heap (mW g cI cB cZ th len tl ts2_9 te2_9 tk2_9 nu2_9 er2_9 eo2_9 hL hS dp bf (uI d2_9 (8 + 7 * C 8 0 + 3) 0) td sa ad hi sl sv tr) H locs := hw
      obtain ⟨f_5, e_f_5⟩ : ∃ z, z = uI d2_9 (8 + 7 * C 8 0 + 3) 0 := ⟨_, rfl⟩
      have hw : qw D A s.heap (mW g cI cB cZ th len tl ts2_9 te2_9 tk2_9 nu2_9 er2_9 eo2_9 hL hS dp bf f_5 td sa ad hi sl sv tr) H locs := by rw [e_f_5]; exact hw
      refine lv_aload_n hx hb dX7_sheetLine_88 rfl (lv_at hl 2 rfl) ?_
      refine q_get hx hb hts hown hK hw.1 ci_X7 0 rfl 10 (by decide) fl_X7_13 rfl dX7_sheetLine_89 ?_
      refine lv_iload_n hx hb dX7_sheetLine_92 rfl (lv_at hl 1 rfl) ?_
      refine q_iconst hx hb dX7_sheetLine_93 ?_
      refine q_iadd hx hb dX7_sheetLine_94 ?_
      refine lv_iload_n hx hb dX7_sheetLine_95 rfl (lv_at hl 3 rfl) ?_
      refine q_if_eq (tgt := 103) hx hb dX7_sheetLine_96 (by decide) (by omega) (fun c_96 => absurd c_96 (by omega)) (fun c_96 => ?_)
      refine q_iconst hx hb dX7_sheetLine_99 ?_
      refine lv_goto (tgt := 111) hx hb dX7_sheetLine_100 (by decide) ?_
      refine q_iast hx hb hK hw 2 0 rfl rfl (by omega) dX7_sheetLine_111 (fun H locs hw => ?_)
      have hw : qw D A s.heap (mW g cI cB cZ th len tl ts2_9 te2_9 tk2_9 nu2_9 er2_9 eo2_9 hL hS dp bf (uI f_5 (8 + 7 * C 8 0 + 4) 0) td sa ad hi sl sv tr) H locs := hw
      obtain ⟨f_6, e_f_6⟩ : ∃ z, z = uI f_5 (8 + 7 * C 8 0 + 4) 0 := ⟨_, rfl⟩
      have hw : qw D A s.heap (mW g cI cB cZ th len tl ts2_9 te2_9 tk2_9 nu2_9 er2_9 eo2_9 hL hS dp bf f_6 td sa ad hi sl sv tr) H locs := by rw [e_f_6]; exact hw
      refine lv_aload_n hx hb dX7_sheetLine_112 rfl (lv_at hl 2 rfl) ?_
      refine q_get hx hb hts hown hK hw.1 ci_X7 0 rfl 10 (by decide) fl_X7_13 rfl dX7_sheetLine_113 ?_
      refine lv_iload_n hx hb dX7_sheetLine_116 rfl (lv_at hl 1 rfl) ?_
      refine q_iconst hx hb dX7_sheetLine_117 ?_
      refine q_iadd hx hb dX7_sheetLine_118 ?_
      refine lv_iload_n hx hb dX7_sheetLine_119 rfl (lv_at hl 0 rfl) ?_
      refine q_iast hx hb hK hw 2 0 rfl rfl (by omega) dX7_sheetLine_120 (fun H locs hw => ?_)
      have hw : qw D A s.heap (mW g cI cB cZ th len tl ts2_9 te2_9 tk2_9 nu2_9 er2_9 eo2_9 hL hS dp bf (uI f_6 (8 + 7 * C 8 0 + 5) r2_8) td sa ad hi sl sv tr) H locs := hw
      obtain ⟨f_7, e_f_7⟩ : ∃ z, z = uI f_6 (8 + 7 * C 8 0 + 5) r2_8 := ⟨_, rfl⟩
      have hw : qw D A s.heap (mW g cI cB cZ th len tl ts2_9 te2_9 tk2_9 nu2_9 er2_9 eo2_9 hL hS dp bf f_7 td sa ad hi sl sv tr) H locs := by rw [e_f_7]; exact hw
      have h_b : f_7 = uI (uI (uI (uI (uI (uI dr (8 + 7 * C 8 0) a1) (8 + 7 * C 8 0 + 1) b1) (8 + 7 * C 8 0 + 2) c1) (8 + 7 * C 8 0 + 3) 0) (8 + 7 * C 8 0 + 4) 0) (8 + 7 * C 8 0 + 5) r2_8 := by rw [e_f_7, e_f_6, e_f_5, h_e]
      refine lv_aload_n hx hb dX7_sheetLine_121 rfl (lv_at hl 2 rfl) ?_
      refine lv_iload_n hx hb dX7_sheetLine_122 rfl (lv_at hl 1 rfl) ?_
      refine q_callMz (As := [.int (iI (8 + 7 * C 8 0))]) (rest := []) (wr := []) (zz_ok z) hx hb hml hown hts hK (c_X7_readGlue (C := (rsX bf tl (rdX bf tl (0) (999) (nxX bf tl C)))) (sh := C 8 0) (8 + 7 * C 8 0) (by first | omega | assumption) (by first | omega | assumption) (by exact hu_9_0) (by exact ⟨rfl, by omega, by omega⟩)) yi_X7_readGlue ml_X7_124 (by rw [hR]; decide) hw hA (z_M (zz_ok z) hZ hw hA [0, 1, 2, 3, 4, 5, 6, 7, 8, 9] rfl) [0, 1, 2, 3, 4, 5, 6, 7, 8, 9] [] rfl rfl (by decide) (by decide) (by decide) 0 rfl rfl rfl rfl hl.1 (lv_room (Nat.le_of_ble_eq_true rfl)) dX7_sheetLine_123 ⟨by rw [hR]; exact Nat.zero_le _, by rw [hR]; exact Nat.zero_le _⟩ (fun u_123 H locs hu_123 hw => ?_)
      obtain ⟨ts2_10, te2_10, tk2_10, nu2_10, er2_10, eo2_10, d2_10⟩ := u_123
      obtain ⟨hu_10_0, hu_10_1⟩ : (PR bf tl ts2_10 te2_10 tk2_10 nu2_10 er2_10 eo2_10 (glX bf tl (((rsX bf tl (rdX bf tl (0) (999) (nxX bf tl C))))))) ∧ (∃ v : Int, d2_10 = uI f_7 ((8 + 7 * C 8 0) + 6) v ∧ (glX bf tl (((rsX bf tl (rdX bf tl (0) (999) (nxX bf tl C))))) 9 3 = 0 → v = glV bf tl (((rsX bf tl (rdX bf tl (0) (999) (nxX bf tl C)))))) ∧ -1 ≤ v ∧ v ≤ 400) := hu_123
      have hw : qw D A s.heap (mW g cI cB cZ th len tl ts2_10 te2_10 tk2_10 nu2_10 er2_10 eo2_10 hL hS dp bf d2_10 td sa ad hi sl sv tr) H locs := hw
      obtain ⟨v1, h_g, h_w, h_r2⟩ := hu_10_1
      have h_d : d2_10 = putD dr (8 + 7 * C 8 0) [a1, b1, c1, 0, 0, r2_8, v1] := by rw [h_g, h_b]; rfl
      have q_e : _ = cd4 bf tl (nxX bf tl C) 9 3 := (hu_10_0).1
      have q_e2 := (hu_10_0).2.1
      refine lv_aload_n hx hb dX7_sheetLine_126 rfl (lv_at hl 2 rfl) ?_
      refine q_get hx hb hts hown hK hw.1 ci_X7 0 rfl 8 (by decide) fl_X7_79 rfl dX7_sheetLine_127 ?_
      refine q_if_ne (tgt := 143) hx hb dX7_sheetLine_130 (by decide) (by omega) (fun c_130 => ?_) (fun c_130 => ?_)
      · exact hret (ts2_10, te2_10, tk2_10, nu2_10, er2_10, eo2_10, d2_10) H locs 143 ls ⟨(by first | (rw [cod_f q_c (fun w => c_130 (q_e.trans w))]; exact hu_10_0) | (rw [cod_t q_c (q_e.symm.trans c_130)]; exact PR_put hu_10_0)), (by first | (rw [cod_f q_c (fun w => c_130 (q_e.trans w))]; exact DR_no hD hD.1 (fun w => c_130 (q_e.trans w))) | (rw [h_d]; exact cod_e q_c hD h_s hu_8_1 h_w ⟨h_r, hu_8_2, h_r2⟩ (q_e.symm.trans c_130)))⟩ hw dX7_sheetLine_143
      · refine lv_aload_n hx hb dX7_sheetLine_133 rfl (lv_at hl 2 rfl) ?_
        refine q_get hx hb hts hown hK hw.1 ci_X7 0 rfl 10 (by decide) fl_X7_13 rfl dX7_sheetLine_134 ?_
        refine q_iconst hx hb dX7_sheetLine_137 ?_
        refine lv_dup2_11 hx hb dX7_sheetLine_138 rfl rfl ?_
        refine q_iald hx hb hK hw.1 2 0 rfl rfl (z := 2) (v := (C 8 0)) (by omega) (by rw [h_d, putD_o (by omega)]; exact q_2.2.2.1) dX7_sheetLine_139 ?_
        refine q_iconst hx hb dX7_sheetLine_140 ?_
        refine q_iadd hx hb dX7_sheetLine_141 ?_
        refine q_iast hx hb hK hw 2 0 rfl rfl (by omega) dX7_sheetLine_142 (fun H locs hw => ?_)
        have hw : qw D A s.heap (mW g cI cB cZ th len tl ts2_10 te2_10 tk2_10 nu2_10 er2_10 eo2_10 hL hS dp bf (uI d2_10 2 (C 8 0 + 1)) td sa ad hi sl sv tr) H locs := hw
        obtain ⟨f_8, e_f_8⟩ : ∃ z, z = uI d2_10 2 (C 8 0 + 1) := ⟨_, rfl⟩
        have hw : qw D A s.heap (mW g cI cB cZ th len tl ts2_10 te2_10 tk2_10 nu2_10 er2_10 eo2_10 hL hS dp bf f_8 td sa ad hi sl sv tr) H locs := by rw [e_f_8]; exact hw
        exact hret (ts2_10, te2_10, tk2_10, nu2_10, er2_10, eo2_10, f_8) H locs 143 ls ⟨(by first | (rw [cod_f q_c (fun w => c_130 (q_e.trans w))]; exact hu_10_0) | (rw [cod_t q_c (q_e.symm.trans c_130)]; exact PR_put hu_10_0)), (by first | (rw [cod_f q_c (fun w => c_130 (q_e.trans w))]; exact DR_no hD hD.1 (fun w => c_130 (q_e.trans w))) | (rw [e_f_8, h_d]; exact cod_e q_c hD h_s hu_8_1 h_w ⟨h_r, hu_8_2, h_r2⟩ (q_e.symm.trans c_130)))⟩ hw dX7_sheetLine_143
    · have q_c : ¬ (C 8 0 < 40) := fun z => c_21 ((muX_3 (k := 5) (X := C) (by decide)).mpr ⟨h0, by omega⟩)
      exact hret (ts, te, tk, nu, er2_6, eo2_6, dr) H locs 24 ls ⟨(by (rw [show codX bf tl C = faX 5 C from if_neg (by omega)]; exact PR_muf hu_6_0 (by omega))), (by (rw [show codX bf tl C = faX 5 C from if_neg (by omega)]; exact DR_fa hD (by decide)))⟩ hw dX7_sheetLine_24
