variable {l : Launch} {T C : Nat → Int → Int} {J : Int → Int} {D : va_G} {cI cB cZ cS cJ : ClassId} {g : Nat → Nat} {th len tl ts te tk nu er eo hL hS dp : Int} {bf dr td sa ad hi sl sv tr : Int → Int}
set_option maxHeartbeats 4000000 in
set_option maxRecDepth 100000 in
theorem c_X7_againLine (hbf : byR bf) (ht : 0 ≤ tl ∧ tl ≤ 700) (hP : PR bf tl ts te tk nu er eo C) (hD : DR dr hL hS C) (h0 : C 9 3 = 0) : qM l D (tyG cI cB cZ cS cJ) yX7_againLine cX7_againLine 4 (Option.none) 3 63 [.ref (g 0)] (mW g cI cB cZ th len tl ts te tk nu er eo hL hS dp bf dr td sa ad hi sl sv tr) (fun u : (Int) × (Int) × (Int) × (Int) × (Int) × (Int) × (Int → Int) => (PR bf tl ((u.1)) ((u.2.1)) ((u.2.2.1)) ((u.2.2.2.1)) ((u.2.2.2.2.1)) ((u.2.2.2.2.2.1)) (agX bf tl C)) ∧ (DR ((u.2.2.2.2.2.2)) hL hS (agX bf tl C))) (fun _ => none) (fun u => (mW g cI cB cZ th len tl (u.1) (u.2.1) (u.2.2.1) (u.2.2.2.1) (u.2.2.2.2.1) (u.2.2.2.2.2.1) hL hS dp bf (u.2.2.2.2.2.2) td sa ad hi sl sv tr)) := by
  have q_e := hP.1
  have q_5 := hP.2.2.2.2
  have q_6 := hP.2.1
  have q_7 := hP.2.2.2.1
  have q_8 := hD.1
  have q_a : C 9 3 = 0 → hS = C 9 6 := fun z => (hD.2 z).2.2.2
  have q_b : C 9 3 = 0 → hL = C 9 5 := fun z => (hD.2 z).2.2.1
  have q_d := hD.2 h0
  have q_2 := q_d.1.1
  have q_w := q_d.2.1.1
  have q_y3 : (nxX bf tl C) 9 3 = 0 := h0
  refine qM_enterV (by decide) (Nat.le_of_ble_eq_true rfl) (fun p e R s m args below meth c Q ls A X hR hA hw hl hret => ?_)
  obtain ⟨hx, hb, hml, hown, hts, hK⟩ := X
  have hl : lv_has ls 4 [(0, .ref (g 0))] := hl
  suffices K : ∀ (H : Heap) (locs : List Loc), qw D A s.heap (mW g cI cB cZ th len tl ts te tk nu er eo hL hS dp bf dr td sa ad hi sl sv tr) H locs → W p l e R s m args below meth c H locs 0 0 Q (F0 m 0 ls []) from K s.heap [] hw
  clear hw
  intro H locs hw
  refine lv_aload_n hx hb dX7_againLine_0 rfl (lv_at hl 0 rfl) ?_
  refine lv_aload_n hx hb dX7_againLine_1 rfl (lv_at hl 0 rfl) ?_
  refine q_get hx hb hts hown hK hw.1 ci_X7 0 rfl 10 (by decide) fl_X7_13 rfl dX7_againLine_2 ?_
  refine q_iconst hx hb dX7_againLine_5 ?_
  refine q_iald hx hb hK hw.1 2 0 rfl rfl (z := 2) (v := (C 8 0)) (by omega) (by exact q_2.2.2.1) dX7_againLine_6 ?_
  refine q_if_le (tgt := 14) hx hb dX7_againLine_7 (by decide) (by omega) (fun c_7 => ?_) (fun c_7 => ?_)
  · refine q_iconst hx hb dX7_againLine_14 ?_
    refine q_iconst hx hb dX7_againLine_15 ?_
    refine q_callM (As := [.int (iI 0), .int (iI 3)]) (rest := []) (wr := []) hx hb hml hown hts hK (c_X7_must (C := C) (0) (3) (by exact hP) (by first | omega | assumption) (by first | omega | assumption)) yi_X7_must ml_X7_97 (by rw [hR]; decide) hw hA [0, 1, 2, 3, 4, 5, 6, 7, 8, 9] [] rfl rfl (by decide) (by decide) (by decide) 0 rfl rfl rfl rfl hl.1 (lv_room (Nat.le_of_ble_eq_true rfl)) dX7_againLine_16 ⟨by rw [hR]; exact Nat.zero_le _, by rw [hR]; exact Nat.zero_le _⟩ (fun u_16 H locs hu_16 hw => ?_)
    obtain ⟨er2_1, eo2_1⟩ := u_16
    have hu_1_0 : PR bf tl ts te tk nu er2_1 eo2_1 (muX 0 3 ((C))) := hu_16
    have hw : qw D A s.heap (mW g cI cB cZ th len tl ts te tk nu er2_1 eo2_1 hL hS dp bf dr td sa ad hi sl sv tr) H locs := hw
    have b_1 := ()
    refine q_ifb_ne (tgt := 23) hx hb dX7_againLine_19 (by decide) (fun c_19 => ?_) (fun c_19 => ?_)
    · have q_19 : C 9 3 = 0 ∧ _ := (muX_3 (k := 3) (X := C) (by decide)).mp c_19
      refine lv_aload_n hx hb dX7_againLine_23 rfl (lv_at hl 0 rfl) ?_
      refine q_callM (As := []) (rest := []) (wr := []) hx hb hml hown hts hK (c_X7_goOn (C := (muX (0) (3) C)) (by first | omega | assumption) (by first | omega | assumption) (by exact hu_1_0)) yi_X7_goOn ml_X7_101 (by rw [hR]; decide) hw hA [0, 1, 2, 3, 4, 5, 6, 7, 8, 9] [] rfl rfl (by decide) (by decide) (by decide) 0 rfl rfl rfl rfl hl.1 (lv_room (Nat.le_of_ble_eq_true rfl)) dX7_againLine_24 ⟨by rw [hR]; exact Nat.zero_le _, by rw [hR]; exact Nat.zero_le _⟩ (fun u_24 H locs hu_24 hw => ?_)
      obtain ⟨ts2_2, te2_2, tk2_2, nu2_2⟩ := u_24
      have hu_2_0 : PR bf tl ts2_2 te2_2 tk2_2 nu2_2 er2_1 eo2_1 (goX bf tl (((muX (0) (3) C)))) := hu_24
      have hw : qw D A s.heap (mW g cI cB cZ th len tl ts2_2 te2_2 tk2_2 nu2_2 er2_1 eo2_1 hL hS dp bf dr td sa ad hi sl sv tr) H locs := hw
      have h_Y := PR_goy hu_2_0 q_19
      have q_10 := h_Y.2.2.2.1 q_y3
      have q_11 := h_Y.2.2.2.2
      have q_12 := h_Y.1
      refine lv_aload_n hx hb dX7_againLine_27 rfl (lv_at hl 0 rfl) ?_
      refine lv_aload_n hx hb dX7_againLine_28 rfl (lv_at hl 0 rfl) ?_
      refine q_get hx hb hts hown hK hw.1 ci_X7 0 rfl 6 (by decide) fl_X7_69 rfl dX7_againLine_29 ?_
      refine q_iconst hx hb dX7_againLine_32 ?_
      refine q_icmp_ne (tgt := 40) hx hb dX7_againLine_33 (by decide) (by omega) (fun c_33 => ?_) (fun c_33 => ?_)
      · refine q_iconst hx hb dX7_againLine_40 ?_
        refine q_iconst hx hb dX7_againLine_41 ?_
        refine q_callM (As := [.int (iI 0), .int (iI 1)]) (rest := []) (wr := []) hx hb hml hown hts hK (c_X7_must (C := (nxX bf tl C)) (0) (1) (by exact h_Y) (by first | omega | assumption) (by first | omega | assumption)) yi_X7_must ml_X7_97 (by rw [hR]; decide) hw hA [0, 1, 2, 3, 4, 5, 6, 7, 8, 9] [] rfl rfl (by decide) (by decide) (by decide) 0 rfl rfl rfl rfl hl.1 (lv_room (Nat.le_of_ble_eq_true rfl)) dX7_againLine_42 ⟨by rw [hR]; exact Nat.zero_le _, by rw [hR]; exact Nat.zero_le _⟩ (fun u_42 H locs hu_42 hw => ?_)
        obtain ⟨er2_3, eo2_3⟩ := u_42
        have hu_3_0 : PR bf tl ts2_2 te2_2 tk2_2 nu2_2 er2_3 eo2_3 (muX 0 1 (((nxX bf tl C)))) := hu_42
        have hw : qw D A s.heap (mW g cI cB cZ th len tl ts2_2 te2_2 tk2_2 nu2_2 er2_3 eo2_3 hL hS dp bf dr td sa ad hi sl sv tr) H locs := hw
        have b_2 := ()
        refine q_ifb_eq (tgt := 95) hx hb dX7_againLine_45 (by decide) (fun c_45 => ?_) (fun c_45 => ?_)
        · exact hret (ts2_2, te2_2, tk2_2, nu2_2, er2_3, eo2_3, dr) H locs 95 ls ⟨(by first | (have q : ¬ (nxX bf tl C) 9 2 = 2 := fun w => c_45 ((muX_3 (k := 1) (X := nxX bf tl C) (by decide)).mpr ⟨q_y3, by omega⟩); rw [ag_1 ⟨h0, by omega⟩ q]; exact PR_muf hu_3_0 (by omega)) | (have q : ¬ (1 ≤ nuV bf (nxX bf tl C) ∧ nuV bf (nxX bf tl C) ≤ 39) := fun w => c_63 ((muX_3 (k := 4) (X := nxX bf tl C) (by decide)).mpr ⟨q_y3, bI_t (by omega)⟩); rw [ag_4 ⟨h0, by omega⟩ q_k q]; exact PR_muf hu_3_0 (by unfold bI; split <;> omega)) | (have q : ¬ (C 8 0 + nuV bf (nxX bf tl C) ≤ 40) := fun w => c_92 ((muX_3 (k := 5) (X := nxX bf tl C) (by decide)).mpr ⟨q_y3, by omega⟩); rw [ag_5 ⟨h0, by omega⟩ q_k (by unfold bI at q_63; split at q_63 <;> omega) q]; exact PR_muf hu_3_0 (by omega))), (by first | (have q : ¬ (nxX bf tl C) 9 2 = 2 := fun w => c_45 ((muX_3 (k := 1) (X := nxX bf tl C) (by decide)).mpr ⟨q_y3, by omega⟩); rw [ag_1 ⟨h0, by omega⟩ q]; exact DR_fa (DR_nx hD) (by decide)) | (have q : ¬ (1 ≤ nuV bf (nxX bf tl C) ∧ nuV bf (nxX bf tl C) ≤ 39) := fun w => c_63 ((muX_3 (k := 4) (X := nxX bf tl C) (by decide)).mpr ⟨q_y3, bI_t (by omega)⟩); rw [ag_4 ⟨h0, by omega⟩ q_k q]; exact DR_fa (DR_nx hD) (by decide)) | (have q : ¬ (C 8 0 + nuV bf (nxX bf tl C) ≤ 40) := fun w => c_92 ((muX_3 (k := 5) (X := nxX bf tl C) (by decide)).mpr ⟨q_y3, by omega⟩); rw [ag_5 ⟨h0, by omega⟩ q_k (by unfold bI at q_63; split at q_63 <;> omega) q]; exact DR_fa (DR_nx hD) (by decide)))⟩ hw dX7_againLine_95
        · have q_45 : (nxX bf tl C) 9 3 = 0 ∧ _ := (muX_3 (k := 1) (X := (nxX bf tl C)) (by decide)).mp c_45
          have h_Y2 := PR_muy hu_3_0 q_45
          have q_k : (nxX bf tl C) 9 2 = 2 := by omega
          have q_n := q_10.2.2.2 q_k
          refine lv_aload_n hx hb dX7_againLine_48 rfl (lv_at hl 0 rfl) ?_
          refine lv_aload_n hx hb dX7_againLine_49 rfl (lv_at hl 0 rfl) ?_
          refine q_get hx hb hts hown hK hw.1 ci_X7 0 rfl 7 (by decide) fl_X7_76 rfl dX7_againLine_50 ?_
          refine q_iconst hx hb dX7_againLine_53 ?_
          refine q_bipush hx hb dX7_againLine_54 rfl ?_
          refine q_callPS (As := [.int (iI nu2_2), .int (iI 1), .int (iI 39)]) (rest := [.ref (g 0)]) hx hb hml hown hts hK (c_X7_within (nu2_2) (1) (39) (by first | omega | assumption) (by first | omega | assumption) (by first | omega | assumption)) yt_X7_within ml_X7_72 (by rw [hR]; decide) (show va_P D vwCl [] _ from fun k q h => by simp at h)  rfl rfl hl.1 (lv_room (Nat.le_of_ble_eq_true rfl)) dX7_againLine_56 ⟨by rw [hR]; exact Nat.zero_le _, by rw [hR]; exact Nat.zero_le _⟩ ?_
          refine q_iconst hx hb dX7_againLine_59 ?_
          refine q_callM (As := [.int (iI (bI (1 ≤ nu2_2 ∧ nu2_2 ≤ 39))), .int (iI 4)]) (rest := []) (wr := []) hx hb hml hown hts hK (c_X7_must (C := (nxX bf tl C)) (bI (1 ≤ nu2_2 ∧ nu2_2 ≤ 39)) (4) (by exact h_Y2) (by unfold bI; split <;> omega) (by first | omega | assumption)) yi_X7_must ml_X7_97 (by rw [hR]; decide) hw hA [0, 1, 2, 3, 4, 5, 6, 7, 8, 9] [] rfl rfl (by decide) (by decide) (by decide) 0 rfl rfl rfl rfl hl.1 (lv_room (Nat.le_of_ble_eq_true rfl)) dX7_againLine_60 ⟨by rw [hR]; exact Nat.zero_le _, by rw [hR]; exact Nat.zero_le _⟩ (fun u_60 H locs hu_60 hw => ?_)
          obtain ⟨er2_4, eo2_4⟩ := u_60
          have hu_4_0 : PR bf tl ts2_2 te2_2 tk2_2 nu2_2 er2_4 eo2_4 (muX (bI (1 ≤ nu2_2 ∧ nu2_2 ≤ 39)) 4 (((nxX bf tl C)))) := hu_60
          have hw : qw D A s.heap (mW g cI cB cZ th len tl ts2_2 te2_2 tk2_2 nu2_2 er2_4 eo2_4 hL hS dp bf dr td sa ad hi sl sv tr) H locs := hw
          have b_3 := ()
          refine q_ifb_eq (tgt := 95) hx hb dX7_againLine_63 (by decide) (fun c_63 => ?_) (fun c_63 => ?_)
          · exact hret (ts2_2, te2_2, tk2_2, nu2_2, er2_4, eo2_4, dr) H locs 95 ls ⟨(by first | (have q : ¬ (nxX bf tl C) 9 2 = 2 := fun w => c_45 ((muX_3 (k := 1) (X := nxX bf tl C) (by decide)).mpr ⟨q_y3, by omega⟩); rw [ag_1 ⟨h0, by omega⟩ q]; exact PR_muf hu_4_0 (by omega)) | (have q : ¬ (1 ≤ nuV bf (nxX bf tl C) ∧ nuV bf (nxX bf tl C) ≤ 39) := fun w => c_63 ((muX_3 (k := 4) (X := nxX bf tl C) (by decide)).mpr ⟨q_y3, bI_t (by omega)⟩); rw [ag_4 ⟨h0, by omega⟩ q_k q]; exact PR_muf hu_4_0 (by unfold bI; split <;> omega)) | (have q : ¬ (C 8 0 + nuV bf (nxX bf tl C) ≤ 40) := fun w => c_92 ((muX_3 (k := 5) (X := nxX bf tl C) (by decide)).mpr ⟨q_y3, by omega⟩); rw [ag_5 ⟨h0, by omega⟩ q_k (by unfold bI at q_63; split at q_63 <;> omega) q]; exact PR_muf hu_4_0 (by omega))), (by first | (have q : ¬ (nxX bf tl C) 9 2 = 2 := fun w => c_45 ((muX_3 (k := 1) (X := nxX bf tl C) (by decide)).mpr ⟨q_y3, by omega⟩); rw [ag_1 ⟨h0, by omega⟩ q]; exact DR_fa (DR_nx hD) (by decide)) | (have q : ¬ (1 ≤ nuV bf (nxX bf tl C) ∧ nuV bf (nxX bf tl C) ≤ 39) := fun w => c_63 ((muX_3 (k := 4) (X := nxX bf tl C) (by decide)).mpr ⟨q_y3, bI_t (by omega)⟩); rw [ag_4 ⟨h0, by omega⟩ q_k q]; exact DR_fa (DR_nx hD) (by decide)) | (have q : ¬ (C 8 0 + nuV bf (nxX bf tl C) ≤ 40) := fun w => c_92 ((muX_3 (k := 5) (X := nxX bf tl C) (by decide)).mpr ⟨q_y3, by omega⟩); rw [ag_5 ⟨h0, by omega⟩ q_k (by unfold bI at q_63; split at q_63 <;> omega) q]; exact DR_fa (DR_nx hD) (by decide)))⟩ hw dX7_againLine_95
          · have q_63 : (nxX bf tl C) 9 3 = 0 ∧ _ := (muX_3 (k := 4) (X := (nxX bf tl C)) (by decide)).mp c_63
            have h_Y3 := PR_muy hu_4_0 q_63
            refine lv_aload_n hx hb dX7_againLine_66 rfl (lv_at hl 0 rfl) ?_
            refine lv_aload_n hx hb dX7_againLine_67 rfl (lv_at hl 0 rfl) ?_
            refine q_get hx hb hts hown hK hw.1 ci_X7 0 rfl 10 (by decide) fl_X7_13 rfl dX7_againLine_68 ?_
            refine q_iconst hx hb dX7_againLine_71 ?_
            refine q_iald hx hb hK hw.1 2 0 rfl rfl (z := 2) (v := (C 8 0)) (by omega) (by exact q_2.2.2.1) dX7_againLine_72 ?_
            refine lv_aload_n hx hb dX7_againLine_73 rfl (lv_at hl 0 rfl) ?_
            refine q_get hx hb hts hown hK hw.1 ci_X7 0 rfl 7 (by decide) fl_X7_76 rfl dX7_againLine_74 ?_
            refine q_iadd hx hb dX7_againLine_77 ?_
            refine q_bipush hx hb dX7_againLine_78 rfl ?_
            refine q_icmp_gt (tgt := 87) hx hb dX7_againLine_80 (by decide) (by omega) (fun c_80 => ?_) (fun c_80 => ?_)
            · refine q_iconst hx hb dX7_againLine_87 ?_
              refine q_iconst hx hb dX7_againLine_88 ?_
              refine q_callM (As := [.int (iI 0), .int (iI 5)]) (rest := []) (wr := []) hx hb hml hown hts hK (c_X7_must (C := (nxX bf tl C)) (0) (5) (by exact h_Y3) (by first | omega | assumption) (by first | omega | assumption)) yi_X7_must ml_X7_97 (by rw [hR]; decide) hw hA [0, 1, 2, 3, 4, 5, 6, 7, 8, 9] [] rfl rfl (by decide) (by decide) (by decide) 0 rfl rfl rfl rfl hl.1 (lv_room (Nat.le_of_ble_eq_true rfl)) dX7_againLine_89 ⟨by rw [hR]; exact Nat.zero_le _, by rw [hR]; exact Nat.zero_le _⟩ (fun u_89 H locs hu_89 hw => ?_)
              obtain ⟨er2_5, eo2_5⟩ := u_89
              have hu_5_0 : PR bf tl ts2_2 te2_2 tk2_2 nu2_2 er2_5 eo2_5 (muX 0 5 (((nxX bf tl C)))) := hu_89
              have hw : qw D A s.heap (mW g cI cB cZ th len tl ts2_2 te2_2 tk2_2 nu2_2 er2_5 eo2_5 hL hS dp bf dr td sa ad hi sl sv tr) H locs := hw
              have b_4 := ()
              refine q_ifb_ne (tgt := 96) hx hb dX7_againLine_92 (by decide) (fun c_92 => ?_) (fun c_92 => ?_)
              · have q_92 : (nxX bf tl C) 9 3 = 0 ∧ _ := (muX_3 (k := 5) (X := (nxX bf tl C)) (by decide)).mp c_92
                have h_Y4 := PR_muy hu_5_0 q_92
                have q_r : 1 ≤ nuV bf (nxX bf tl C) ∧ nuV bf (nxX bf tl C) ≤ 39 := by unfold bI at q_63; split at q_63 <;> omega
                refine q_bipush hx hb dX7_againLine_96 rfl ?_
                refine q_bipush hx hb dX7_againLine_98 rfl ?_
                refine lv_aload_n hx hb dX7_againLine_100 rfl (lv_at hl 0 rfl) ?_
                refine q_get hx hb hts hown hK hw.1 ci_X7 0 rfl 10 (by decide) fl_X7_13 rfl dX7_againLine_101 ?_
                refine q_iconst hx hb dX7_againLine_104 ?_
                refine q_iald hx hb hK hw.1 2 0 rfl rfl (z := 2) (v := (C 8 0)) (by omega) (by exact q_2.2.2.1) dX7_againLine_105 ?_
                refine q_iconst hx hb dX7_againLine_106 ?_
                refine q_isub hx hb dX7_againLine_107 ?_
                refine q_imul hx hb dX7_againLine_108 ?_
                refine q_iadd hx hb dX7_againLine_109 ?_
                refine lv_istore_n (lv' := [(1, .int (iI (8 + 7 * (C 8 0 - 1)))), (0, .ref (g 0))]) hx hb dX7_againLine_110 rfl hl (by decide) rfl (fun ls hl => ?_)
                refine q_iconst hx hb dX7_againLine_111 ?_
                refine lv_istore_n (lv' := [(2, .int (iI 1)), (1, .int (iI (8 + 7 * (C 8 0 - 1)))), (0, .ref (g 0))]) hx hb dX7_againLine_112 rfl hl (by decide) rfl (fun ls hl => ?_)
                have loop_113 : ∀ (fu : Nat) (y : Int → Int) (k : Int) (H : Heap) (locs : List Loc) (ls : Array Slot), (40 - k).toNat = fu → (y = agF dr (C 8 0) (7 * (k - 1))) → (1 ≤ k ∧ k ≤ nuV bf (nxX bf tl C) + 1) → qw D A s.heap (mW g cI cB cZ th len tl ts2_2 te2_2 tk2_2 nu2_2 er2_5 eo2_5 hL hS dp bf y td sa ad hi sl sv tr) H locs → lv_has ls 4 [(0, .ref (g 0)), (1, .int (iI (8 + 7 * (C 8 0 - 1)))), (2, .int (iI k))] → W p l e R s m args below meth c H locs 0 0 Q (F0 m 113 ls []) := by
                  intro fu
                  induction fu using Nat.strongRecOn with
                  | ind fu ih_113 =>
                  intro y k H locs ls hn_113 h_y h_k hw hl
                  refine lv_iload_n hx hb dX7_againLine_113 rfl (lv_at hl 2 rfl) ?_
                  refine lv_aload_n hx hb dX7_againLine_114 rfl (lv_at hl 0 rfl) ?_
                  refine q_get hx hb hts hown hK hw.1 ci_X7 0 rfl 7 (by decide) fl_X7_76 rfl dX7_againLine_115 ?_
                  refine q_icmp_gt (tgt := 162) hx hb dX7_againLine_118 (by decide) (by omega) (fun c_118 => ?_) (fun c_118 => ?_)
                  · refine lv_aload_n hx hb dX7_againLine_162 rfl (lv_at hl 0 rfl) ?_
                    refine q_get hx hb hts hown hK hw.1 ci_X7 0 rfl 10 (by decide) fl_X7_13 rfl dX7_againLine_163 ?_
                    refine q_iconst hx hb dX7_againLine_166 ?_
                    refine lv_dup2_11 hx hb dX7_againLine_167 rfl rfl ?_
                    refine q_iald hx hb hK hw.1 2 0 rfl rfl (z := 2) (v := (C 8 0)) (by omega) (by rw [h_y, agF_o (by omega)]; exact q_2.2.2.1) dX7_againLine_168 ?_
                    refine lv_aload_n hx hb dX7_againLine_169 rfl (lv_at hl 0 rfl) ?_
                    refine q_get hx hb hts hown hK hw.1 ci_X7 0 rfl 7 (by decide) fl_X7_76 rfl dX7_againLine_170 ?_
                    refine q_iadd hx hb dX7_againLine_173 ?_
                    refine q_iast hx hb hK hw 2 0 rfl rfl (by omega) dX7_againLine_174 (fun H locs hw => ?_)
                    have hw : qw D A s.heap (mW g cI cB cZ th len tl ts2_2 te2_2 tk2_2 nu2_2 er2_5 eo2_5 hL hS dp bf (uI y 2 (C 8 0 + nu2_2)) td sa ad hi sl sv tr) H locs := hw
                    obtain ⟨f_1, e_f_1⟩ : ∃ z, z = uI y 2 (C 8 0 + nu2_2) := ⟨_, rfl⟩
                    have hw : qw D A s.heap (mW g cI cB cZ th len tl ts2_2 te2_2 tk2_2 nu2_2 er2_5 eo2_5 hL hS dp bf f_1 td sa ad hi sl sv tr) H locs := by rw [e_f_1]; exact hw
                    have h_Y5 := PR_rep (t := nuV bf (nxX bf tl C)) h_Y4
                    refine lv_aload_n hx hb dX7_againLine_175 rfl (lv_at hl 0 rfl) ?_
                    refine q_callM (As := []) (rest := []) (wr := []) hx hb hml hown hts hK (c_X7_goOn (C := (repX (nxX bf tl C) (nuV bf (nxX bf tl C)))) (by first | omega | assumption) (by first | omega | assumption) (by exact h_Y5)) yi_X7_goOn ml_X7_101 (by rw [hR]; decide) hw hA [0, 1, 2, 3, 4, 5, 6, 7, 8, 9] [] rfl rfl (by decide) (by decide) (by decide) 0 rfl rfl rfl rfl hl.1 (lv_room (Nat.le_of_ble_eq_true rfl)) dX7_againLine_176 ⟨by rw [hR]; exact Nat.zero_le _, by rw [hR]; exact Nat.zero_le _⟩ (fun u_176 H locs hu_176 hw => ?_)
                    obtain ⟨ts2_6, te2_6, tk2_6, nu2_6⟩ := u_176
                    have hu_6_0 : PR bf tl ts2_6 te2_6 tk2_6 nu2_6 er2_5 eo2_5 (goX bf tl (((repX (nxX bf tl C) (nuV bf (nxX bf tl C)))))) := hu_176
                    have hw : qw D A s.heap (mW g cI cB cZ th len tl ts2_6 te2_6 tk2_6 nu2_6 er2_5 eo2_5 hL hS dp bf f_1 td sa ad hi sl sv tr) H locs := hw
                    have b_5 := ()
                    exact hret (ts2_6, te2_6, tk2_6, nu2_6, er2_5, eo2_5, f_1) H locs 179 ls ⟨(by (rw [ag_y ⟨h0, by omega⟩ q_k q_r (by omega)]; exact PR_gon hu_6_0 q_y3)), (by (rw [ag_y ⟨h0, by omega⟩ q_k q_r (by omega), e_f_1, h_y, show k - 1 = nuV bf (nxX bf tl C) by omega, show (C 8 0 + nu2_2) = C 8 0 + nuV bf (nxX bf tl C) by omega]; exact DR_nx (DR_rep (DR_nx hD) q_y3 (show 0 < C 8 0 by omega) q_r.1 (show C 8 0 + nuV bf (nxX bf tl C) ≤ 40 by omega))))⟩ hw dX7_againLine_179
                  · refine q_iconst hx hb dX7_againLine_121 ?_
                    refine lv_istore_n (lv' := [(3, .int (iI 0)), (0, .ref (g 0)), (1, .int (iI (8 + 7 * (C 8 0 - 1)))), (2, .int (iI k))]) hx hb dX7_againLine_122 rfl hl (by decide) rfl (fun ls hl => ?_)
                    have loop_123 : ∀ (fu : Nat) (yy : Int → Int) (i : Int) (H : Heap) (locs : List Loc) (ls : Array Slot), (7 - i).toNat = fu → (yy = agF dr (C 8 0) (7 * (k - 1) + i)) → (0 ≤ i ∧ i ≤ 7) → qw D A s.heap (mW g cI cB cZ th len tl ts2_2 te2_2 tk2_2 nu2_2 er2_5 eo2_5 hL hS dp bf yy td sa ad hi sl sv tr) H locs → lv_has ls 4 [(0, .ref (g 0)), (1, .int (iI (8 + 7 * (C 8 0 - 1)))), (2, .int (iI k)), (3, .int (iI i))] → W p l e R s m args below meth c H locs 0 0 Q (F0 m 123 ls []) := by
                      intro fu
                      induction fu using Nat.strongRecOn with
                      | ind fu ih_123 =>
                      intro yy i H locs ls hn_123 h_z h_i hw hl
                      refine lv_iload_n hx hb dX7_againLine_123 rfl (lv_at hl 3 rfl) ?_
                      refine q_bipush hx hb dX7_againLine_124 rfl ?_
                      refine q_icmp_ge (tgt := 156) hx hb dX7_againLine_126 (by decide) (by omega) (fun c_126 => ?_) (fun c_126 => ?_)
                      · refine lv_iinc (v := iI (k + 1)) (lv' := [(2, .int (iI (k + 1))), (0, .ref (g 0)), (1, .int (iI (8 + 7 * (C 8 0 - 1)))), (3, .int (iI i))]) hx hb dX7_againLine_156 hl (k := 2) rfl (iI_add _ _) (by decide) rfl (fun ls hl => ?_)
                        refine lv_goto (tgt := 113) hx hb dX7_againLine_159 (by decide) ?_
                        exact ih_113 _ (by omega) (yy) (k + 1) H locs ls rfl (by rw [h_z, show i = 7 by omega]; congr 1; omega) (by first | omega | assumption | rfl) hw (lv_sub hl [1, 2, 0] rfl)
                      · refine lv_aload_n hx hb dX7_againLine_129 rfl (lv_at hl 0 rfl) ?_
                        refine q_get hx hb hts hown hK hw.1 ci_X7 0 rfl 10 (by decide) fl_X7_13 rfl dX7_againLine_130 ?_
                        refine lv_iload_n hx hb dX7_againLine_133 rfl (lv_at hl 1 rfl) ?_
                        refine q_bipush hx hb dX7_againLine_134 rfl ?_
                        refine lv_iload_n hx hb dX7_againLine_136 rfl (lv_at hl 2 rfl) ?_
                        refine q_imul hx hb dX7_againLine_137 ?_
                        refine q_iadd hx hb dX7_againLine_138 ?_
                        refine lv_iload_n hx hb dX7_againLine_139 rfl (lv_at hl 3 rfl) ?_
                        refine q_iadd hx hb dX7_againLine_140 ?_
                        refine lv_aload_n hx hb dX7_againLine_141 rfl (lv_at hl 0 rfl) ?_
                        refine q_get hx hb hts hown hK hw.1 ci_X7 0 rfl 10 (by decide) fl_X7_13 rfl dX7_againLine_142 ?_
                        refine lv_iload_n hx hb dX7_againLine_145 rfl (lv_at hl 1 rfl) ?_
                        refine lv_iload_n hx hb dX7_againLine_146 rfl (lv_at hl 3 rfl) ?_
                        refine q_iadd hx hb dX7_againLine_147 ?_
                        refine q_iald hx hb hK hw.1 2 0 rfl rfl (z := (8 + 7 * (C 8 0 - 1) + i)) (v := (dr (8 + 7 * (C 8 0 - 1) + i))) (by omega) (by rw [h_z]; exact agF_o (by omega)) dX7_againLine_148 ?_
                        refine q_iast hx hb hK hw 2 0 rfl rfl (by omega) dX7_againLine_149 (fun H locs hw => ?_)
                        have hw : qw D A s.heap (mW g cI cB cZ th len tl ts2_2 te2_2 tk2_2 nu2_2 er2_5 eo2_5 hL hS dp bf (uI yy (8 + 7 * (C 8 0 - 1) + 7 * k + i) (dr (8 + 7 * (C 8 0 - 1) + i))) td sa ad hi sl sv tr) H locs := hw
                        obtain ⟨f_2, e_f_2⟩ : ∃ z, z = uI yy (8 + 7 * (C 8 0 - 1) + 7 * k + i) (dr (8 + 7 * (C 8 0 - 1) + i)) := ⟨_, rfl⟩
                        have hw : qw D A s.heap (mW g cI cB cZ th len tl ts2_2 te2_2 tk2_2 nu2_2 er2_5 eo2_5 hL hS dp bf f_2 td sa ad hi sl sv tr) H locs := by rw [e_f_2]; exact hw
                        refine lv_iinc (v := iI (i + 1)) (lv' := [(3, .int (iI (i + 1))), (0, .ref (g 0)), (1, .int (iI (8 + 7 * (C 8 0 - 1)))), (2, .int (iI k))]) hx hb dX7_againLine_150 hl (k := 3) rfl (iI_add _ _) (by decide) rfl (fun ls hl => ?_)
                        refine lv_goto (tgt := 123) hx hb dX7_againLine_153 (by decide) ?_
                        exact ih_123 _ (by omega) (f_2) (i + 1) H locs ls rfl (by rw [e_f_2, h_z, show 7 * (k - 1) + (i + 1) = 7 * (k - 1) + i + 1 by omega]; exact agF_s (k := k) (i := i) rfl h_k.1 (by omega) (by omega) rfl) (by first | omega | assumption | rfl) hw (lv_sub hl [1, 2, 3, 0] rfl)
                    exact loop_123 _ (y) (0) H locs ls rfl (by rw [h_y, Int.add_zero]) (by first | omega | assumption | rfl) hw (lv_sub hl [1, 2, 3, 0] rfl)
                exact loop_113 _ (dr) (1) H locs ls rfl (by exact (agF_0 _ _ (by omega)).symm) (by first | omega | assumption | rfl) hw (lv_sub hl [2, 1, 0] rfl)
              · exact hret (ts2_2, te2_2, tk2_2, nu2_2, er2_5, eo2_5, dr) H locs 95 ls ⟨(by first | (have q : ¬ (nxX bf tl C) 9 2 = 2 := fun w => c_45 ((muX_3 (k := 1) (X := nxX bf tl C) (by decide)).mpr ⟨q_y3, by omega⟩); rw [ag_1 ⟨h0, by omega⟩ q]; exact PR_muf hu_5_0 (by omega)) | (have q : ¬ (1 ≤ nuV bf (nxX bf tl C) ∧ nuV bf (nxX bf tl C) ≤ 39) := fun w => c_63 ((muX_3 (k := 4) (X := nxX bf tl C) (by decide)).mpr ⟨q_y3, bI_t (by omega)⟩); rw [ag_4 ⟨h0, by omega⟩ q_k q]; exact PR_muf hu_5_0 (by unfold bI; split <;> omega)) | (have q : ¬ (C 8 0 + nuV bf (nxX bf tl C) ≤ 40) := fun w => c_92 ((muX_3 (k := 5) (X := nxX bf tl C) (by decide)).mpr ⟨q_y3, by omega⟩); rw [ag_5 ⟨h0, by omega⟩ q_k (by unfold bI at q_63; split at q_63 <;> omega) q]; exact PR_muf hu_5_0 (by omega))), (by first | (have q : ¬ (nxX bf tl C) 9 2 = 2 := fun w => c_45 ((muX_3 (k := 1) (X := nxX bf tl C) (by decide)).mpr ⟨q_y3, by omega⟩); rw [ag_1 ⟨h0, by omega⟩ q]; exact DR_fa (DR_nx hD) (by decide)) | (have q : ¬ (1 ≤ nuV bf (nxX bf tl C) ∧ nuV bf (nxX bf tl C) ≤ 39) := fun w => c_63 ((muX_3 (k := 4) (X := nxX bf tl C) (by decide)).mpr ⟨q_y3, bI_t (by omega)⟩); rw [ag_4 ⟨h0, by omega⟩ q_k q]; exact DR_fa (DR_nx hD) (by decide)) | (have q : ¬ (C 8 0 + nuV bf (nxX bf tl C) ≤ 40) := fun w => c_92 ((muX_3 (k := 5) (X := nxX bf tl C) (by decide)).mpr ⟨q_y3, by omega⟩); rw [ag_5 ⟨h0, by omega⟩ q_k (by unfold bI at q_63; split at q_63 <;> omega) q]; exact DR_fa (DR_nx hD) (by decide)))⟩ hw dX7_againLine_95
            · refine q_iconst hx hb dX7_againLine_83 ?_
              refine lv_goto (tgt := 88) hx hb dX7_againLine_84 (by decide) ?_
              refine q_iconst hx hb dX7_againLine_88 ?_
              refine q_callM (As := [.int (iI 1), .int (iI 5)]) (rest := []) (wr := []) hx hb hml hown hts hK (c_X7_must (C := (nxX bf tl C)) (1) (5) (by exact h_Y3) (by first | omega | assumption) (by first | omega | assumption)) yi_X7_must ml_X7_97 (by rw [hR]; decide) hw hA [0, 1, 2, 3, 4, 5, 6, 7, 8, 9] [] rfl rfl (by decide) (by decide) (by decide) 0 rfl rfl rfl rfl hl.1 (lv_room (Nat.le_of_ble_eq_true rfl)) dX7_againLine_89 ⟨by rw [hR]; exact Nat.zero_le _, by rw [hR]; exact Nat.zero_le _⟩ (fun u_89 H locs hu_89 hw => ?_)
              obtain ⟨er2_7, eo2_7⟩ := u_89
              have hu_7_0 : PR bf tl ts2_2 te2_2 tk2_2 nu2_2 er2_7 eo2_7 (muX 1 5 (((nxX bf tl C)))) := hu_89
              have hw : qw D A s.heap (mW g cI cB cZ th len tl ts2_2 te2_2 tk2_2 nu2_2 er2_7 eo2_7 hL hS dp bf dr td sa ad hi sl sv tr) H locs := hw
              have b_6 := ()
              refine q_ifb_ne (tgt := 96) hx hb dX7_againLine_92 (by decide) (fun c_92 => ?_) (fun c_92 => ?_)
              · have q_92 : (nxX bf tl C) 9 3 = 0 ∧ _ := (muX_3 (k := 5) (X := (nxX bf tl C)) (by decide)).mp c_92
                have h_Y4 := PR_muy hu_7_0 q_92
                have q_r : 1 ≤ nuV bf (nxX bf tl C) ∧ nuV bf (nxX bf tl C) ≤ 39 := by unfold bI at q_63; split at q_63 <;> omega
                refine q_bipush hx hb dX7_againLine_96 rfl ?_
                refine q_bipush hx hb dX7_againLine_98 rfl ?_
                refine lv_aload_n hx hb dX7_againLine_100 rfl (lv_at hl 0 rfl) ?_
                refine q_get hx hb hts hown hK hw.1 ci_X7 0 rfl 10 (by decide) fl_X7_13 rfl dX7_againLine_101 ?_
                refine q_iconst hx hb dX7_againLine_104 ?_
                refine q_iald hx hb hK hw.1 2 0 rfl rfl (z := 2) (v := (C 8 0)) (by omega) (by exact q_2.2.2.1) dX7_againLine_105 ?_
                refine q_iconst hx hb dX7_againLine_106 ?_
                refine q_isub hx hb dX7_againLine_107 ?_
                refine q_imul hx hb dX7_againLine_108 ?_
                refine q_iadd hx hb dX7_againLine_109 ?_
                refine lv_istore_n (lv' := [(1, .int (iI (8 + 7 * (C 8 0 - 1)))), (0, .ref (g 0))]) hx hb dX7_againLine_110 rfl hl (by decide) rfl (fun ls hl => ?_)
                refine q_iconst hx hb dX7_againLine_111 ?_
                refine lv_istore_n (lv' := [(2, .int (iI 1)), (1, .int (iI (8 + 7 * (C 8 0 - 1)))), (0, .ref (g 0))]) hx hb dX7_againLine_112 rfl hl (by decide) rfl (fun ls hl => ?_)
                have loop_113 : ∀ (fu : Nat) (y : Int → Int) (k : Int) (H : Heap) (locs : List Loc) (ls : Array Slot), (40 - k).toNat = fu → (y = agF dr (C 8 0) (7 * (k - 1))) → (1 ≤ k ∧ k ≤ nuV bf (nxX bf tl C) + 1) → qw D A s.heap (mW g cI cB cZ th len tl ts2_2 te2_2 tk2_2 nu2_2 er2_7 eo2_7 hL hS dp bf y td sa ad hi sl sv tr) H locs → lv_has ls 4 [(0, .ref (g 0)), (1, .int (iI (8 + 7 * (C 8 0 - 1)))), (2, .int (iI k))] → W p l e R s m args below meth c H locs 0 0 Q (F0 m 113 ls []) := by
                  intro fu
                  induction fu using Nat.strongRecOn with
                  | ind fu ih_113 =>
                  intro y k H locs ls hn_113 h_y h_k hw hl
                  refine lv_iload_n hx hb dX7_againLine_113 rfl (lv_at hl 2 rfl) ?_
                  refine lv_aload_n hx hb dX7_againLine_114 rfl (lv_at hl 0 rfl) ?_
                  refine q_get hx hb hts hown hK hw.1 ci_X7 0 rfl 7 (by decide) fl_X7_76 rfl dX7_againLine_115 ?_
                  refine q_icmp_gt (tgt := 162) hx hb dX7_againLine_118 (by decide) (by omega) (fun c_118 => ?_) (fun c_118 => ?_)
                  · refine lv_aload_n hx hb dX7_againLine_162 rfl (lv_at hl 0 rfl) ?_
                    refine q_get hx hb hts hown hK hw.1 ci_X7 0 rfl 10 (by decide) fl_X7_13 rfl dX7_againLine_163 ?_
                    refine q_iconst hx hb dX7_againLine_166 ?_
                    refine lv_dup2_11 hx hb dX7_againLine_167 rfl rfl ?_
                    refine q_iald hx hb hK hw.1 2 0 rfl rfl (z := 2) (v := (C 8 0)) (by omega) (by rw [h_y, agF_o (by omega)]; exact q_2.2.2.1) dX7_againLine_168 ?_
                    refine lv_aload_n hx hb dX7_againLine_169 rfl (lv_at hl 0 rfl) ?_
                    refine q_get hx hb hts hown hK hw.1 ci_X7 0 rfl 7 (by decide) fl_X7_76 rfl dX7_againLine_170 ?_
                    refine q_iadd hx hb dX7_againLine_173 ?_
                    refine q_iast hx hb hK hw 2 0 rfl rfl (by omega) dX7_againLine_174 (fun H locs hw => ?_)
                    have hw : qw D A s.heap (mW g cI cB cZ th len tl ts2_2 te2_2 tk2_2 nu2_2 er2_7 eo2_7 hL hS dp bf (uI y 2 (C 8 0 + nu2_2)) td sa ad hi sl sv tr) H locs := hw
                    obtain ⟨f_3, e_f_3⟩ : ∃ z, z = uI y 2 (C 8 0 + nu2_2) := ⟨_, rfl⟩
                    have hw : qw D A s.heap (mW g cI cB cZ th len tl ts2_2 te2_2 tk2_2 nu2_2 er2_7 eo2_7 hL hS dp bf f_3 td sa ad hi sl sv tr) H locs := by rw [e_f_3]; exact hw
                    have h_Y5 := PR_rep (t := nuV bf (nxX bf tl C)) h_Y4
                    refine lv_aload_n hx hb dX7_againLine_175 rfl (lv_at hl 0 rfl) ?_
                    refine q_callM (As := []) (rest := []) (wr := []) hx hb hml hown hts hK (c_X7_goOn (C := (repX (nxX bf tl C) (nuV bf (nxX bf tl C)))) (by first | omega | assumption) (by first | omega | assumption) (by exact h_Y5)) yi_X7_goOn ml_X7_101 (by rw [hR]; decide) hw hA [0, 1, 2, 3, 4, 5, 6, 7, 8, 9] [] rfl rfl (by decide) (by decide) (by decide) 0 rfl rfl rfl rfl hl.1 (lv_room (Nat.le_of_ble_eq_true rfl)) dX7_againLine_176 ⟨by rw [hR]; exact Nat.zero_le _, by rw [hR]; exact Nat.zero_le _⟩ (fun u_176 H locs hu_176 hw => ?_)
                    obtain ⟨ts2_8, te2_8, tk2_8, nu2_8⟩ := u_176
                    have hu_8_0 : PR bf tl ts2_8 te2_8 tk2_8 nu2_8 er2_7 eo2_7 (goX bf tl (((repX (nxX bf tl C) (nuV bf (nxX bf tl C)))))) := hu_176
                    have hw : qw D A s.heap (mW g cI cB cZ th len tl ts2_8 te2_8 tk2_8 nu2_8 er2_7 eo2_7 hL hS dp bf f_3 td sa ad hi sl sv tr) H locs := hw
                    have b_7 := ()
                    exact hret (ts2_8, te2_8, tk2_8, nu2_8, er2_7, eo2_7, f_3) H locs 179 ls ⟨(by (rw [ag_y ⟨h0, by omega⟩ q_k q_r (by omega)]; exact PR_gon hu_8_0 q_y3)), (by (rw [ag_y ⟨h0, by omega⟩ q_k q_r (by omega), e_f_3, h_y, show k - 1 = nuV bf (nxX bf tl C) by omega, show (C 8 0 + nu2_2) = C 8 0 + nuV bf (nxX bf tl C) by omega]; exact DR_nx (DR_rep (DR_nx hD) q_y3 (show 0 < C 8 0 by omega) q_r.1 (show C 8 0 + nuV bf (nxX bf tl C) ≤ 40 by omega))))⟩ hw dX7_againLine_179
                  · refine q_iconst hx hb dX7_againLine_121 ?_
                    refine lv_istore_n (lv' := [(3, .int (iI 0)), (0, .ref (g 0)), (1, .int (iI (8 + 7 * (C 8 0 - 1)))), (2, .int (iI k))]) hx hb dX7_againLine_122 rfl hl (by decide) rfl (fun ls hl => ?_)
                    have loop_123 : ∀ (fu : Nat) (yy : Int → Int) (i : Int) (H : Heap) (locs : List Loc) (ls : Array Slot), (7 - i).toNat = fu → (yy = agF dr (C 8 0) (7 * (k - 1) + i)) → (0 ≤ i ∧ i ≤ 7) → qw D A s.heap (mW g cI cB cZ th len tl ts2_2 te2_2 tk2_2 nu2_2 er2_7 eo2_7 hL hS dp bf yy td sa ad hi sl sv tr) H locs → lv_has ls 4 [(0, .ref (g 0)), (1, .int (iI (8 + 7 * (C 8 0 - 1)))), (2, .int (iI k)), (3, .int (iI i))] → W p l e R s m args below meth c H locs 0 0 Q (F0 m 123 ls []) := by
                      intro fu
                      induction fu using Nat.strongRecOn with
                      | ind fu ih_123 =>
                      intro yy i H locs ls hn_123 h_z h_i hw hl
                      refine lv_iload_n hx hb dX7_againLine_123 rfl (lv_at hl 3 rfl) ?_
                      refine q_bipush hx hb dX7_againLine_124 rfl ?_
                      refine q_icmp_ge (tgt := 156) hx hb dX7_againLine_126 (by decide) (by omega) (fun c_126 => ?_) (fun c_126 => ?_)
                      · refine lv_iinc (v := iI (k + 1)) (lv' := [(2, .int (iI (k + 1))), (0, .ref (g 0)), (1, .int (iI (8 + 7 * (C 8 0 - 1)))), (3, .int (iI i))]) hx hb dX7_againLine_156 hl (k := 2) rfl (iI_add _ _) (by decide) rfl (fun ls hl => ?_)
                        refine lv_goto (tgt := 113) hx hb dX7_againLine_159 (by decide) ?_
                        exact ih_113 _ (by omega) (yy) (k + 1) H locs ls rfl (by rw [h_z, show i = 7 by omega]; congr 1; omega) (by first | omega | assumption | rfl) hw (lv_sub hl [1, 2, 0] rfl)
                      · refine lv_aload_n hx hb dX7_againLine_129 rfl (lv_at hl 0 rfl) ?_
                        refine q_get hx hb hts hown hK hw.1 ci_X7 0 rfl 10 (by decide) fl_X7_13 rfl dX7_againLine_130 ?_
                        refine lv_iload_n hx hb dX7_againLine_133 rfl (lv_at hl 1 rfl) ?_
                        refine q_bipush hx hb dX7_againLine_134 rfl ?_
                        refine lv_iload_n hx hb dX7_againLine_136 rfl (lv_at hl 2 rfl) ?_
                        refine q_imul hx hb dX7_againLine_137 ?_
                        refine q_iadd hx hb dX7_againLine_138 ?_
                        refine lv_iload_n hx hb dX7_againLine_139 rfl (lv_at hl 3 rfl) ?_
                        refine q_iadd hx hb dX7_againLine_140 ?_
                        refine lv_aload_n hx hb dX7_againLine_141 rfl (lv_at hl 0 rfl) ?_
                        refine q_get hx hb hts hown hK hw.1 ci_X7 0 rfl 10 (by decide) fl_X7_13 rfl dX7_againLine_142 ?_
                        refine lv_iload_n hx hb dX7_againLine_145 rfl (lv_at hl 1 rfl) ?_
                        refine lv_iload_n hx hb dX7_againLine_146 rfl (lv_at hl 3 rfl) ?_
                        refine q_iadd hx hb dX7_againLine_147 ?_
                        refine q_iald hx hb hK hw.1 2 0 rfl rfl (z := (8 + 7 * (C 8 0 - 1) + i)) (v := (dr (8 + 7 * (C 8 0 - 1) + i))) (by omega) (by rw [h_z]; exact agF_o (by omega)) dX7_againLine_148 ?_
                        refine q_iast hx hb hK hw 2 0 rfl rfl (by omega) dX7_againLine_149 (fun H locs hw => ?_)
                        have hw : qw D A s.heap (mW g cI cB cZ th len tl ts2_2 te2_2 tk2_2 nu2_2 er2_7 eo2_7 hL hS dp bf (uI yy (8 + 7 * (C 8 0 - 1) + 7 * k + i) (dr (8 + 7 * (C 8 0 - 1) + i))) td sa ad hi sl sv tr) H locs := hw
                        obtain ⟨f_4, e_f_4⟩ : ∃ z, z = uI yy (8 + 7 * (C 8 0 - 1) + 7 * k + i) (dr (8 + 7 * (C 8 0 - 1) + i)) := ⟨_, rfl⟩
                        have hw : qw D A s.heap (mW g cI cB cZ th len tl ts2_2 te2_2 tk2_2 nu2_2 er2_7 eo2_7 hL hS dp bf f_4 td sa ad hi sl sv tr) H locs := by rw [e_f_4]; exact hw
                        refine lv_iinc (v := iI (i + 1)) (lv' := [(3, .int (iI (i + 1))), (0, .ref (g 0)), (1, .int (iI (8 + 7 * (C 8 0 - 1)))), (2, .int (iI k))]) hx hb dX7_againLine_150 hl (k := 3) rfl (iI_add _ _) (by decide) rfl (fun ls hl => ?_)
                        refine lv_goto (tgt := 123) hx hb dX7_againLine_153 (by decide) ?_
                        exact ih_123 _ (by omega) (f_4) (i + 1) H locs ls rfl (by rw [e_f_4, h_z, show 7 * (k - 1) + (i + 1) = 7 * (k - 1) + i + 1 by omega]; exact agF_s (k := k) (i := i) rfl h_k.1 (by omega) (by omega) rfl) (by first | omega | assumption | rfl) hw (lv_sub hl [1, 2, 3, 0] rfl)
                    exact loop_123 _ (y) (0) H locs ls rfl (by rw [h_y, Int.add_zero]) (by first | omega | assumption | rfl) hw (lv_sub hl [1, 2, 3, 0] rfl)
                exact loop_113 _ (dr) (1) H locs ls rfl (by exact (agF_0 _ _ (by omega)).symm) (by first | omega | assumption | rfl) hw (lv_sub hl [2, 1, 0] rfl)
              · exact hret (ts2_2, te2_2, tk2_2, nu2_2, er2_7, eo2_7, dr) H locs 95 ls ⟨(by first | (have q : ¬ (nxX bf tl C) 9 2 = 2 := fun w => c_45 ((muX_3 (k := 1) (X := nxX bf tl C) (by decide)).mpr ⟨q_y3, by omega⟩); rw [ag_1 ⟨h0, by omega⟩ q]; exact PR_muf hu_7_0 (by omega)) | (have q : ¬ (1 ≤ nuV bf (nxX bf tl C) ∧ nuV bf (nxX bf tl C) ≤ 39) := fun w => c_63 ((muX_3 (k := 4) (X := nxX bf tl C) (by decide)).mpr ⟨q_y3, bI_t (by omega)⟩); rw [ag_4 ⟨h0, by omega⟩ q_k q]; exact PR_muf hu_7_0 (by unfold bI; split <;> omega)) | (have q : ¬ (C 8 0 + nuV bf (nxX bf tl C) ≤ 40) := fun w => c_92 ((muX_3 (k := 5) (X := nxX bf tl C) (by decide)).mpr ⟨q_y3, by omega⟩); rw [ag_5 ⟨h0, by omega⟩ q_k (by unfold bI at q_63; split at q_63 <;> omega) q]; exact PR_muf hu_7_0 (by omega))), (by first | (have q : ¬ (nxX bf tl C) 9 2 = 2 := fun w => c_45 ((muX_3 (k := 1) (X := nxX bf tl C) (by decide)).mpr ⟨q_y3, by omega⟩); rw [ag_1 ⟨h0, by omega⟩ q]; exact DR_fa (DR_nx hD) (by decide)) | (have q : ¬ (1 ≤ nuV bf (nxX bf tl C) ∧ nuV bf (nxX bf tl C) ≤ 39) := fun w => c_63 ((muX_3 (k := 4) (X := nxX bf tl C) (by decide)).mpr ⟨q_y3, bI_t (by omega)⟩); rw [ag_4 ⟨h0, by omega⟩ q_k q]; exact DR_fa (DR_nx hD) (by decide)) | (have q : ¬ (C 8 0 + nuV bf (nxX bf tl C) ≤ 40) := fun w => c_92 ((muX_3 (k := 5) (X := nxX bf tl C) (by decide)).mpr ⟨q_y3, by omega⟩); rw [ag_5 ⟨h0, by omega⟩ q_k (by unfold bI at q_63; split at q_63 <;> omega) q]; exact DR_fa (DR_nx hD) (by decide)))⟩ hw dX7_againLine_95
      · refine q_iconst hx hb dX7_againLine_36 ?_
        refine lv_goto (tgt := 41) hx hb dX7_againLine_37 (by decide) ?_
        refine q_iconst hx hb dX7_againLine_41 ?_
        refine q_callM (As := [.int (iI 1), .int (iI 1)]) (rest := []) (wr := []) hx hb hml hown hts hK (c_X7_must (C := (nxX bf tl C)) (1) (1) (by exact h_Y) (by first | omega | assumption) (by first | omega | assumption)) yi_X7_must ml_X7_97 (by rw [hR]; decide) hw hA [0, 1, 2, 3, 4, 5, 6, 7, 8, 9] [] rfl rfl (by decide) (by decide) (by decide) 0 rfl rfl rfl rfl hl.1 (lv_room (Nat.le_of_ble_eq_true rfl)) dX7_againLine_42 ⟨by rw [hR]; exact Nat.zero_le _, by rw [hR]; exact Nat.zero_le _⟩ (fun u_42 H locs hu_42 hw => ?_)
        obtain ⟨er2_9, eo2_9⟩ := u_42
        have hu_9_0 : PR bf tl ts2_2 te2_2 tk2_2 nu2_2 er2_9 eo2_9 (muX 1 1 (((nxX bf tl C)))) := hu_42
        have hw : qw D A s.heap (mW g cI cB cZ th len tl ts2_2 te2_2 tk2_2 nu2_2 er2_9 eo2_9 hL hS dp bf dr td sa ad hi sl sv tr) H locs := hw
        have b_8 := ()
        refine q_ifb_eq (tgt := 95) hx hb dX7_againLine_45 (by decide) (fun c_45 => ?_) (fun c_45 => ?_)
        · exact hret (ts2_2, te2_2, tk2_2, nu2_2, er2_9, eo2_9, dr) H locs 95 ls ⟨(by first | (have q : ¬ (nxX bf tl C) 9 2 = 2 := fun w => c_45 ((muX_3 (k := 1) (X := nxX bf tl C) (by decide)).mpr ⟨q_y3, by omega⟩); rw [ag_1 ⟨h0, by omega⟩ q]; exact PR_muf hu_9_0 (by omega)) | (have q : ¬ (1 ≤ nuV bf (nxX bf tl C) ∧ nuV bf (nxX bf tl C) ≤ 39) := fun w => c_63 ((muX_3 (k := 4) (X := nxX bf tl C) (by decide)).mpr ⟨q_y3, bI_t (by omega)⟩); rw [ag_4 ⟨h0, by omega⟩ q_k q]; exact PR_muf hu_9_0 (by unfold bI; split <;> omega)) | (have q : ¬ (C 8 0 + nuV bf (nxX bf tl C) ≤ 40) := fun w => c_92 ((muX_3 (k := 5) (X := nxX bf tl C) (by decide)).mpr ⟨q_y3, by omega⟩); rw [ag_5 ⟨h0, by omega⟩ q_k (by unfold bI at q_63; split at q_63 <;> omega) q]; exact PR_muf hu_9_0 (by omega))), (by first | (have q : ¬ (nxX bf tl C) 9 2 = 2 := fun w => c_45 ((muX_3 (k := 1) (X := nxX bf tl C) (by decide)).mpr ⟨q_y3, by omega⟩); rw [ag_1 ⟨h0, by omega⟩ q]; exact DR_fa (DR_nx hD) (by decide)) | (have q : ¬ (1 ≤ nuV bf (nxX bf tl C) ∧ nuV bf (nxX bf tl C) ≤ 39) := fun w => c_63 ((muX_3 (k := 4) (X := nxX bf tl C) (by decide)).mpr ⟨q_y3, bI_t (by omega)⟩); rw [ag_4 ⟨h0, by omega⟩ q_k q]; exact DR_fa (DR_nx hD) (by decide)) | (have q : ¬ (C 8 0 + nuV bf (nxX bf tl C) ≤ 40) := fun w => c_92 ((muX_3 (k := 5) (X := nxX bf tl C) (by decide)).mpr ⟨q_y3, by omega⟩); rw [ag_5 ⟨h0, by omega⟩ q_k (by unfold bI at q_63; split at q_63 <;> omega) q]; exact DR_fa (DR_nx hD) (by decide)))⟩ hw dX7_againLine_95
        · have q_45 : (nxX bf tl C) 9 3 = 0 ∧ _ := (muX_3 (k := 1) (X := (nxX bf tl C)) (by decide)).mp c_45
          have h_Y2 := PR_muy hu_9_0 q_45
          have q_k : (nxX bf tl C) 9 2 = 2 := by omega
          have q_n := q_10.2.2.2 q_k
          refine lv_aload_n hx hb dX7_againLine_48 rfl (lv_at hl 0 rfl) ?_
          refine lv_aload_n hx hb dX7_againLine_49 rfl (lv_at hl 0 rfl) ?_
          refine q_get hx hb hts hown hK hw.1 ci_X7 0 rfl 7 (by decide) fl_X7_76 rfl dX7_againLine_50 ?_
          refine q_iconst hx hb dX7_againLine_53 ?_
          refine q_bipush hx hb dX7_againLine_54 rfl ?_
          refine q_callPS (As := [.int (iI nu2_2), .int (iI 1), .int (iI 39)]) (rest := [.ref (g 0)]) hx hb hml hown hts hK (c_X7_within (nu2_2) (1) (39) (by first | omega | assumption) (by first | omega | assumption) (by first | omega | assumption)) yt_X7_within ml_X7_72 (by rw [hR]; decide) (show va_P D vwCl [] _ from fun k q h => by simp at h)  rfl rfl hl.1 (lv_room (Nat.le_of_ble_eq_true rfl)) dX7_againLine_56 ⟨by rw [hR]; exact Nat.zero_le _, by rw [hR]; exact Nat.zero_le _⟩ ?_
          refine q_iconst hx hb dX7_againLine_59 ?_
          refine q_callM (As := [.int (iI (bI (1 ≤ nu2_2 ∧ nu2_2 ≤ 39))), .int (iI 4)]) (rest := []) (wr := []) hx hb hml hown hts hK (c_X7_must (C := (nxX bf tl C)) (bI (1 ≤ nu2_2 ∧ nu2_2 ≤ 39)) (4) (by exact h_Y2) (by unfold bI; split <;> omega) (by first | omega | assumption)) yi_X7_must ml_X7_97 (by rw [hR]; decide) hw hA [0, 1, 2, 3, 4, 5, 6, 7, 8, 9] [] rfl rfl (by decide) (by decide) (by decide) 0 rfl rfl rfl rfl hl.1 (lv_room (Nat.le_of_ble_eq_true rfl)) dX7_againLine_60 ⟨by rw [hR]; exact Nat.zero_le _, by rw [hR]; exact Nat.zero_le _⟩ (fun u_60 H locs hu_60 hw => ?_)
          obtain ⟨er2_10, eo2_10⟩ := u_60
          have hu_10_0 : PR bf tl ts2_2 te2_2 tk2_2 nu2_2 er2_10 eo2_10 (muX (bI (1 ≤ nu2_2 ∧ nu2_2 ≤ 39)) 4 (((nxX bf tl C)))) := hu_60
          have hw : qw D A s.heap (mW g cI cB cZ th len tl ts2_2 te2_2 tk2_2 nu2_2 er2_10 eo2_10 hL hS dp bf dr td sa ad hi sl sv tr) H locs := hw
          have b_9 := ()
          refine q_ifb_eq (tgt := 95) hx hb dX7_againLine_63 (by decide) (fun c_63 => ?_) (fun c_63 => ?_)
          · exact hret (ts2_2, te2_2, tk2_2, nu2_2, er2_10, eo2_10, dr) H locs 95 ls ⟨(by first | (have q : ¬ (nxX bf tl C) 9 2 = 2 := fun w => c_45 ((muX_3 (k := 1) (X := nxX bf tl C) (by decide)).mpr ⟨q_y3, by omega⟩); rw [ag_1 ⟨h0, by omega⟩ q]; exact PR_muf hu_10_0 (by omega)) | (have q : ¬ (1 ≤ nuV bf (nxX bf tl C) ∧ nuV bf (nxX bf tl C) ≤ 39) := fun w => c_63 ((muX_3 (k := 4) (X := nxX bf tl C) (by decide)).mpr ⟨q_y3, bI_t (by omega)⟩); rw [ag_4 ⟨h0, by omega⟩ q_k q]; exact PR_muf hu_10_0 (by unfold bI; split <;> omega)) | (have q : ¬ (C 8 0 + nuV bf (nxX bf tl C) ≤ 40) := fun w => c_92 ((muX_3 (k := 5) (X := nxX bf tl C) (by decide)).mpr ⟨q_y3, by omega⟩); rw [ag_5 ⟨h0, by omega⟩ q_k (by unfold bI at q_63; split at q_63 <;> omega) q]; exact PR_muf hu_10_0 (by omega))), (by first | (have q : ¬ (nxX bf tl C) 9 2 = 2 := fun w => c_45 ((muX_3 (k := 1) (X := nxX bf tl C) (by decide)).mpr ⟨q_y3, by omega⟩); rw [ag_1 ⟨h0, by omega⟩ q]; exact DR_fa (DR_nx hD) (by decide)) | (have q : ¬ (1 ≤ nuV bf (nxX bf tl C) ∧ nuV bf (nxX bf tl C) ≤ 39) := fun w => c_63 ((muX_3 (k := 4) (X := nxX bf tl C) (by decide)).mpr ⟨q_y3, bI_t (by omega)⟩); rw [ag_4 ⟨h0, by omega⟩ q_k q]; exact DR_fa (DR_nx hD) (by decide)) | (have q : ¬ (C 8 0 + nuV bf (nxX bf tl C) ≤ 40) := fun w => c_92 ((muX_3 (k := 5) (X := nxX bf tl C) (by decide)).mpr ⟨q_y3, by omega⟩); rw [ag_5 ⟨h0, by omega⟩ q_k (by unfold bI at q_63; split at q_63 <;> omega) q]; exact DR_fa (DR_nx hD) (by decide)))⟩ hw dX7_againLine_95
          · have q_63 : (nxX bf tl C) 9 3 = 0 ∧ _ := (muX_3 (k := 4) (X := (nxX bf tl C)) (by decide)).mp c_63
            have h_Y3 := PR_muy hu_10_0 q_63
            refine lv_aload_n hx hb dX7_againLine_66 rfl (lv_at hl 0 rfl) ?_
            refine lv_aload_n hx hb dX7_againLine_67 rfl (lv_at hl 0 rfl) ?_
            refine q_get hx hb hts hown hK hw.1 ci_X7 0 rfl 10 (by decide) fl_X7_13 rfl dX7_againLine_68 ?_
            refine q_iconst hx hb dX7_againLine_71 ?_
            refine q_iald hx hb hK hw.1 2 0 rfl rfl (z := 2) (v := (C 8 0)) (by omega) (by exact q_2.2.2.1) dX7_againLine_72 ?_
            refine lv_aload_n hx hb dX7_againLine_73 rfl (lv_at hl 0 rfl) ?_
            refine q_get hx hb hts hown hK hw.1 ci_X7 0 rfl 7 (by decide) fl_X7_76 rfl dX7_againLine_74 ?_
            refine q_iadd hx hb dX7_againLine_77 ?_
            refine q_bipush hx hb dX7_againLine_78 rfl ?_
            refine q_icmp_gt (tgt := 87) hx hb dX7_againLine_80 (by decide) (by omega) (fun c_80 => ?_) (fun c_80 => ?_)
            · refine q_iconst hx hb dX7_againLine_87 ?_
              refine q_iconst hx hb dX7_againLine_88 ?_
              refine q_callM (As := [.int (iI 0), .int (iI 5)]) (rest := []) (wr := []) hx hb hml hown hts hK (c_X7_must (C := (nxX bf tl C)) (0) (5) (by exact h_Y3) (by first | omega | assumption) (by first | omega | assumption)) yi_X7_must ml_X7_97 (by rw [hR]; decide) hw hA [0, 1, 2, 3, 4, 5, 6, 7, 8, 9] [] rfl rfl (by decide) (by decide) (by decide) 0 rfl rfl rfl rfl hl.1 (lv_room (Nat.le_of_ble_eq_true rfl)) dX7_againLine_89 ⟨by rw [hR]; exact Nat.zero_le _, by rw [hR]; exact Nat.zero_le _⟩ (fun u_89 H locs hu_89 hw => ?_)
              obtain ⟨er2_11, eo2_11⟩ := u_89
              have hu_11_0 : PR bf tl ts2_2 te2_2 tk2_2 nu2_2 er2_11 eo2_11 (muX 0 5 (((nxX bf tl C)))) := hu_89
              have hw : qw D A s.heap (mW g cI cB cZ th len tl ts2_2 te2_2 tk2_2 nu2_2 er2_11 eo2_11 hL hS dp bf dr td sa ad hi sl sv tr) H locs := hw
              have b_10 := ()
              refine q_ifb_ne (tgt := 96) hx hb dX7_againLine_92 (by decide) (fun c_92 => ?_) (fun c_92 => ?_)
              · have q_92 : (nxX bf tl C) 9 3 = 0 ∧ _ := (muX_3 (k := 5) (X := (nxX bf tl C)) (by decide)).mp c_92
                have h_Y4 := PR_muy hu_11_0 q_92
                have q_r : 1 ≤ nuV bf (nxX bf tl C) ∧ nuV bf (nxX bf tl C) ≤ 39 := by unfold bI at q_63; split at q_63 <;> omega
                refine q_bipush hx hb dX7_againLine_96 rfl ?_
                refine q_bipush hx hb dX7_againLine_98 rfl ?_
                refine lv_aload_n hx hb dX7_againLine_100 rfl (lv_at hl 0 rfl) ?_
                refine q_get hx hb hts hown hK hw.1 ci_X7 0 rfl 10 (by decide) fl_X7_13 rfl dX7_againLine_101 ?_
                refine q_iconst hx hb dX7_againLine_104 ?_
                refine q_iald hx hb hK hw.1 2 0 rfl rfl (z := 2) (v := (C 8 0)) (by omega) (by exact q_2.2.2.1) dX7_againLine_105 ?_
                refine q_iconst hx hb dX7_againLine_106 ?_
                refine q_isub hx hb dX7_againLine_107 ?_
                refine q_imul hx hb dX7_againLine_108 ?_
                refine q_iadd hx hb dX7_againLine_109 ?_
                refine lv_istore_n (lv' := [(1, .int (iI (8 + 7 * (C 8 0 - 1)))), (0, .ref (g 0))]) hx hb dX7_againLine_110 rfl hl (by decide) rfl (fun ls hl => ?_)
                refine q_iconst hx hb dX7_againLine_111 ?_
                refine lv_istore_n (lv' := [(2, .int (iI 1)), (1, .int (iI (8 + 7 * (C 8 0 - 1)))), (0, .ref (g 0))]) hx hb dX7_againLine_112 rfl hl (by decide) rfl (fun ls hl => ?_)
                have loop_113 : ∀ (fu : Nat) (y : Int → Int) (k : Int) (H : Heap) (locs : List Loc) (ls : Array Slot), (40 - k).toNat = fu → (y = agF dr (C 8 0) (7 * (k - 1))) → (1 ≤ k ∧ k ≤ nuV bf (nxX bf tl C) + 1) → qw D A s.heap (mW g cI cB cZ th len tl ts2_2 te2_2 tk2_2 nu2_2 er2_11 eo2_11 hL hS dp bf y td sa ad hi sl sv tr) H locs → lv_has ls 4 [(0, .ref (g 0)), (1, .int (iI (8 + 7 * (C 8 0 - 1)))), (2, .int (iI k))] → W p l e R s m args below meth c H locs 0 0 Q (F0 m 113 ls []) := by
                  intro fu
                  induction fu using Nat.strongRecOn with
                  | ind fu ih_113 =>
                  intro y k H locs ls hn_113 h_y h_k hw hl
                  refine lv_iload_n hx hb dX7_againLine_113 rfl (lv_at hl 2 rfl) ?_
                  refine lv_aload_n hx hb dX7_againLine_114 rfl (lv_at hl 0 rfl) ?_
                  refine q_get hx hb hts hown hK hw.1 ci_X7 0 rfl 7 (by decide) fl_X7_76 rfl dX7_againLine_115 ?_
                  refine q_icmp_gt (tgt := 162) hx hb dX7_againLine_118 (by decide) (by omega) (fun c_118 => ?_) (fun c_118 => ?_)
                  · refine lv_aload_n hx hb dX7_againLine_162 rfl (lv_at hl 0 rfl) ?_
                    refine q_get hx hb hts hown hK hw.1 ci_X7 0 rfl 10 (by decide) fl_X7_13 rfl dX7_againLine_163 ?_
                    refine q_iconst hx hb dX7_againLine_166 ?_
                    refine lv_dup2_11 hx hb dX7_againLine_167 rfl rfl ?_
                    refine q_iald hx hb hK hw.1 2 0 rfl rfl (z := 2) (v := (C 8 0)) (by omega) (by rw [h_y, agF_o (by omega)]; exact q_2.2.2.1) dX7_againLine_168 ?_
                    refine lv_aload_n hx hb dX7_againLine_169 rfl (lv_at hl 0 rfl) ?_
                    refine q_get hx hb hts hown hK hw.1 ci_X7 0 rfl 7 (by decide) fl_X7_76 rfl dX7_againLine_170 ?_
                    refine q_iadd hx hb dX7_againLine_173 ?_
                    refine q_iast hx hb hK hw 2 0 rfl rfl (by omega) dX7_againLine_174 (fun H locs hw => ?_)
                    have hw : qw D A s.heap (mW g cI cB cZ th len tl ts2_2 te2_2 tk2_2 nu2_2 er2_11 eo2_11 hL hS dp bf (uI y 2 (C 8 0 + nu2_2)) td sa ad hi sl sv tr) H locs := hw
                    obtain ⟨f_5, e_f_5⟩ : ∃ z, z = uI y 2 (C 8 0 + nu2_2) := ⟨_, rfl⟩
                    have hw : qw D A s.heap (mW g cI cB cZ th len tl ts2_2 te2_2 tk2_2 nu2_2 er2_11 eo2_11 hL hS dp bf f_5 td sa ad hi sl sv tr) H locs := by rw [e_f_5]; exact hw
                    have h_Y5 := PR_rep (t := nuV bf (nxX bf tl C)) h_Y4
                    refine lv_aload_n hx hb dX7_againLine_175 rfl (lv_at hl 0 rfl) ?_
                    refine q_callM (As := []) (rest := []) (wr := []) hx hb hml hown hts hK (c_X7_goOn (C := (repX (nxX bf tl C) (nuV bf (nxX bf tl C)))) (by first | omega | assumption) (by first | omega | assumption) (by exact h_Y5)) yi_X7_goOn ml_X7_101 (by rw [hR]; decide) hw hA [0, 1, 2, 3, 4, 5, 6, 7, 8, 9] [] rfl rfl (by decide) (by decide) (by decide) 0 rfl rfl rfl rfl hl.1 (lv_room (Nat.le_of_ble_eq_true rfl)) dX7_againLine_176 ⟨by rw [hR]; exact Nat.zero_le _, by rw [hR]; exact Nat.zero_le _⟩ (fun u_176 H locs hu_176 hw => ?_)
                    obtain ⟨ts2_12, te2_12, tk2_12, nu2_12⟩ := u_176
                    have hu_12_0 : PR bf tl ts2_12 te2_12 tk2_12 nu2_12 er2_11 eo2_11 (goX bf tl (((repX (nxX bf tl C) (nuV bf (nxX bf tl C)))))) := hu_176
                    have hw : qw D A s.heap (mW g cI cB cZ th len tl ts2_12 te2_12 tk2_12 nu2_12 er2_11 eo2_11 hL hS dp bf f_5 td sa ad hi sl sv tr) H locs := hw
                    have b_11 := ()
                    exact hret (ts2_12, te2_12, tk2_12, nu2_12, er2_11, eo2_11, f_5) H locs 179 ls ⟨(by (rw [ag_y ⟨h0, by omega⟩ q_k q_r (by omega)]; exact PR_gon hu_12_0 q_y3)), (by (rw [ag_y ⟨h0, by omega⟩ q_k q_r (by omega), e_f_5, h_y, show k - 1 = nuV bf (nxX bf tl C) by omega, show (C 8 0 + nu2_2) = C 8 0 + nuV bf (nxX bf tl C) by omega]; exact DR_nx (DR_rep (DR_nx hD) q_y3 (show 0 < C 8 0 by omega) q_r.1 (show C 8 0 + nuV bf (nxX bf tl C) ≤ 40 by omega))))⟩ hw dX7_againLine_179
                  · refine q_iconst hx hb dX7_againLine_121 ?_
                    refine lv_istore_n (lv' := [(3, .int (iI 0)), (0, .ref (g 0)), (1, .int (iI (8 + 7 * (C 8 0 - 1)))), (2, .int (iI k))]) hx hb dX7_againLine_122 rfl hl (by decide) rfl (fun ls hl => ?_)
                    have loop_123 : ∀ (fu : Nat) (yy : Int → Int) (i : Int) (H : Heap) (locs : List Loc) (ls : Array Slot), (7 - i).toNat = fu → (yy = agF dr (C 8 0) (7 * (k - 1) + i)) → (0 ≤ i ∧ i ≤ 7) → qw D A s.heap (mW g cI cB cZ th len tl ts2_2 te2_2 tk2_2 nu2_2 er2_11 eo2_11 hL hS dp bf yy td sa ad hi sl sv tr) H locs → lv_has ls 4 [(0, .ref (g 0)), (1, .int (iI (8 + 7 * (C 8 0 - 1)))), (2, .int (iI k)), (3, .int (iI i))] → W p l e R s m args below meth c H locs 0 0 Q (F0 m 123 ls []) := by
                      intro fu
                      induction fu using Nat.strongRecOn with
                      | ind fu ih_123 =>
                      intro yy i H locs ls hn_123 h_z h_i hw hl
                      refine lv_iload_n hx hb dX7_againLine_123 rfl (lv_at hl 3 rfl) ?_
                      refine q_bipush hx hb dX7_againLine_124 rfl ?_
                      refine q_icmp_ge (tgt := 156) hx hb dX7_againLine_126 (by decide) (by omega) (fun c_126 => ?_) (fun c_126 => ?_)
                      · refine lv_iinc (v := iI (k + 1)) (lv' := [(2, .int (iI (k + 1))), (0, .ref (g 0)), (1, .int (iI (8 + 7 * (C 8 0 - 1)))), (3, .int (iI i))]) hx hb dX7_againLine_156 hl (k := 2) rfl (iI_add _ _) (by decide) rfl (fun ls hl => ?_)
                        refine lv_goto (tgt := 113) hx hb dX7_againLine_159 (by decide) ?_
                        exact ih_113 _ (by omega) (yy) (k + 1) H locs ls rfl (by rw [h_z, show i = 7 by omega]; congr 1; omega) (by first | omega | assumption | rfl) hw (lv_sub hl [1, 2, 0] rfl)
                      · refine lv_aload_n hx hb dX7_againLine_129 rfl (lv_at hl 0 rfl) ?_
                        refine q_get hx hb hts hown hK hw.1 ci_X7 0 rfl 10 (by decide) fl_X7_13 rfl dX7_againLine_130 ?_
                        refine lv_iload_n hx hb dX7_againLine_133 rfl (lv_at hl 1 rfl) ?_
                        refine q_bipush hx hb dX7_againLine_134 rfl ?_
                        refine lv_iload_n hx hb dX7_againLine_136 rfl (lv_at hl 2 rfl) ?_
                        refine q_imul hx hb dX7_againLine_137 ?_
                        refine q_iadd hx hb dX7_againLine_138 ?_
                        refine lv_iload_n hx hb dX7_againLine_139 rfl (lv_at hl 3 rfl) ?_
                        refine q_iadd hx hb dX7_againLine_140 ?_
                        refine lv_aload_n hx hb dX7_againLine_141 rfl (lv_at hl 0 rfl) ?_
                        refine q_get hx hb hts hown hK hw.1 ci_X7 0 rfl 10 (by decide) fl_X7_13 rfl dX7_againLine_142 ?_
                        refine lv_iload_n hx hb dX7_againLine_145 rfl (lv_at hl 1 rfl) ?_
                        refine lv_iload_n hx hb dX7_againLine_146 rfl (lv_at hl 3 rfl) ?_
                        refine q_iadd hx hb dX7_againLine_147 ?_
                        refine q_iald hx hb hK hw.1 2 0 rfl rfl (z := (8 + 7 * (C 8 0 - 1) + i)) (v := (dr (8 + 7 * (C 8 0 - 1) + i))) (by omega) (by rw [h_z]; exact agF_o (by omega)) dX7_againLine_148 ?_
                        refine q_iast hx hb hK hw 2 0 rfl rfl (by omega) dX7_againLine_149 (fun H locs hw => ?_)
                        have hw : qw D A s.heap (mW g cI cB cZ th len tl ts2_2 te2_2 tk2_2 nu2_2 er2_11 eo2_11 hL hS dp bf (uI yy (8 + 7 * (C 8 0 - 1) + 7 * k + i) (dr (8 + 7 * (C 8 0 - 1) + i))) td sa ad hi sl sv tr) H locs := hw
                        obtain ⟨f_6, e_f_6⟩ : ∃ z, z = uI yy (8 + 7 * (C 8 0 - 1) + 7 * k + i) (dr (8 + 7 * (C 8 0 - 1) + i)) := ⟨_, rfl⟩
                        have hw : qw D A s.heap (mW g cI cB cZ th len tl ts2_2 te2_2 tk2_2 nu2_2 er2_11 eo2_11 hL hS dp bf f_6 td sa ad hi sl sv tr) H locs := by rw [e_f_6]; exact hw
                        refine lv_iinc (v := iI (i + 1)) (lv' := [(3, .int (iI (i + 1))), (0, .ref (g 0)), (1, .int (iI (8 + 7 * (C 8 0 - 1)))), (2, .int (iI k))]) hx hb dX7_againLine_150 hl (k := 3) rfl (iI_add _ _) (by decide) rfl (fun ls hl => ?_)
                        refine lv_goto (tgt := 123) hx hb dX7_againLine_153 (by decide) ?_
                        exact ih_123 _ (by omega) (f_6) (i + 1) H locs ls rfl (by rw [e_f_6, h_z, show 7 * (k - 1) + (i + 1) = 7 * (k - 1) + i + 1 by omega]; exact agF_s (k := k) (i := i) rfl h_k.1 (by omega) (by omega) rfl) (by first | omega | assumption | rfl) hw (lv_sub hl [1, 2, 3, 0] rfl)
                    exact loop_123 _ (y) (0) H locs ls rfl (by rw [h_y, Int.add_zero]) (by first | omega | assumption | rfl) hw (lv_sub hl [1, 2, 3, 0] rfl)
                exact loop_113 _ (dr) (1) H locs ls rfl (by exact (agF_0 _ _ (by omega)).symm) (by first | omega | assumption | rfl) hw (lv_sub hl [2, 1, 0] rfl)
              · exact hret (ts2_2, te2_2, tk2_2, nu2_2, er2_11, eo2_11, dr) H locs 95 ls ⟨(by first | (have q : ¬ (nxX bf tl C) 9 2 = 2 := fun w => c_45 ((muX_3 (k := 1) (X := nxX bf tl C) (by decide)).mpr ⟨q_y3, by omega⟩); rw [ag_1 ⟨h0, by omega⟩ q]; exact PR_muf hu_11_0 (by omega)) | (have q : ¬ (1 ≤ nuV bf (nxX bf tl C) ∧ nuV bf (nxX bf tl C) ≤ 39) := fun w => c_63 ((muX_3 (k := 4) (X := nxX bf tl C) (by decide)).mpr ⟨q_y3, bI_t (by omega)⟩); rw [ag_4 ⟨h0, by omega⟩ q_k q]; exact PR_muf hu_11_0 (by unfold bI; split <;> omega)) | (have q : ¬ (C 8 0 + nuV bf (nxX bf tl C) ≤ 40) := fun w => c_92 ((muX_3 (k := 5) (X := nxX bf tl C) (by decide)).mpr ⟨q_y3, by omega⟩); rw [ag_5 ⟨h0, by omega⟩ q_k (by unfold bI at q_63; split at q_63 <;> omega) q]; exact PR_muf hu_11_0 (by omega))), (by first | (have q : ¬ (nxX bf tl C) 9 2 = 2 := fun w => c_45 ((muX_3 (k := 1) (X := nxX bf tl C) (by decide)).mpr ⟨q_y3, by omega⟩); rw [ag_1 ⟨h0, by omega⟩ q]; exact DR_fa (DR_nx hD) (by decide)) | (have q : ¬ (1 ≤ nuV bf (nxX bf tl C) ∧ nuV bf (nxX bf tl C) ≤ 39) := fun w => c_63 ((muX_3 (k := 4) (X := nxX bf tl C) (by decide)).mpr ⟨q_y3, bI_t (by omega)⟩); rw [ag_4 ⟨h0, by omega⟩ q_k q]; exact DR_fa (DR_nx hD) (by decide)) | (have q : ¬ (C 8 0 + nuV bf (nxX bf tl C) ≤ 40) := fun w => c_92 ((muX_3 (k := 5) (X := nxX bf tl C) (by decide)).mpr ⟨q_y3, by omega⟩); rw [ag_5 ⟨h0, by omega⟩ q_k (by unfold bI at q_63; split at q_63 <;> omega) q]; exact DR_fa (DR_nx hD) (by decide)))⟩ hw dX7_againLine_95
            · refine q_iconst hx hb dX7_againLine_83 ?_
              refine lv_goto (tgt := 88) hx hb dX7_againLine_84 (by decide) ?_
              refine q_iconst hx hb dX7_againLine_88 ?_
              refine q_callM (As := [.int (iI 1), .int (iI 5)]) (rest := []) (wr := []) hx hb hml hown hts hK (c_X7_must (C := (nxX bf tl C)) (1) (5) (by exact h_Y3) (by first | omega | assumption) (by first | omega | assumption)) yi_X7_must ml_X7_97 (by rw [hR]; decide) hw hA [0, 1, 2, 3, 4, 5, 6, 7, 8, 9] [] rfl rfl (by decide) (by decide) (by decide) 0 rfl rfl rfl rfl hl.1 (lv_room (Nat.le_of_ble_eq_true rfl)) dX7_againLine_89 ⟨by rw [hR]; exact Nat.zero_le _, by rw [hR]; exact Nat.zero_le _⟩ (fun u_89 H locs hu_89 hw => ?_)
              obtain ⟨er2_13, eo2_13⟩ := u_89
              have hu_13_0 : PR bf tl ts2_2 te2_2 tk2_2 nu2_2 er2_13 eo2_13 (muX 1 5 (((nxX bf tl C)))) := hu_89
              have hw : qw D A s.heap (mW g cI cB cZ th len tl ts2_2 te2_2 tk2_2 nu2_2 er2_13 eo2_13 hL hS dp bf dr td sa ad hi sl sv tr) H locs := hw
              have b_12 := ()
              refine q_ifb_ne (tgt := 96) hx hb dX7_againLine_92 (by decide) (fun c_92 => ?_) (fun c_92 => ?_)
              · have q_92 : (nxX bf tl C) 9 3 = 0 ∧ _ := (muX_3 (k := 5) (X := (nxX bf tl C)) (by decide)).mp c_92
                have h_Y4 := PR_muy hu_13_0 q_92
                have q_r : 1 ≤ nuV bf (nxX bf tl C) ∧ nuV bf (nxX bf tl C) ≤ 39 := by unfold bI at q_63; split at q_63 <;> omega
                refine q_bipush hx hb dX7_againLine_96 rfl ?_
                refine q_bipush hx hb dX7_againLine_98 rfl ?_
                refine lv_aload_n hx hb dX7_againLine_100 rfl (lv_at hl 0 rfl) ?_
                refine q_get hx hb hts hown hK hw.1 ci_X7 0 rfl 10 (by decide) fl_X7_13 rfl dX7_againLine_101 ?_
                refine q_iconst hx hb dX7_againLine_104 ?_
                refine q_iald hx hb hK hw.1 2 0 rfl rfl (z := 2) (v := (C 8 0)) (by omega) (by exact q_2.2.2.1) dX7_againLine_105 ?_
                refine q_iconst hx hb dX7_againLine_106 ?_
                refine q_isub hx hb dX7_againLine_107 ?_
                refine q_imul hx hb dX7_againLine_108 ?_
                refine q_iadd hx hb dX7_againLine_109 ?_
                refine lv_istore_n (lv' := [(1, .int (iI (8 + 7 * (C 8 0 - 1)))), (0, .ref (g 0))]) hx hb dX7_againLine_110 rfl hl (by decide) rfl (fun ls hl => ?_)
                refine q_iconst hx hb dX7_againLine_111 ?_
                refine lv_istore_n (lv' := [(2, .int (iI 1)), (1, .int (iI (8 + 7 * (C 8 0 - 1)))), (0, .ref (g 0))]) hx hb dX7_againLine_112 rfl hl (by decide) rfl (fun ls hl => ?_)
                have loop_113 : ∀ (fu : Nat) (y : Int → Int) (k : Int) (H : Heap) (locs : List Loc) (ls : Array Slot), (40 - k).toNat = fu → (y = agF dr (C 8 0) (7 * (k - 1))) → (1 ≤ k ∧ k ≤ nuV bf (nxX bf tl C) + 1) → qw D A s.heap (mW g cI cB cZ th len tl ts2_2 te2_2 tk2_2 nu2_2 er2_13 eo2_13 hL hS dp bf y td sa ad hi sl sv tr) H locs → lv_has ls 4 [(0, .ref (g 0)), (1, .int (iI (8 + 7 * (C 8 0 - 1)))), (2, .int (iI k))] → W p l e R s m args below meth c H locs 0 0 Q (F0 m 113 ls []) := by
                  intro fu
                  induction fu using Nat.strongRecOn with
                  | ind fu ih_113 =>
                  intro y k H locs ls hn_113 h_y h_k hw hl
                  refine lv_iload_n hx hb dX7_againLine_113 rfl (lv_at hl 2 rfl) ?_
                  refine lv_aload_n hx hb dX7_againLine_114 rfl (lv_at hl 0 rfl) ?_
                  refine q_get hx hb hts hown hK hw.1 ci_X7 0 rfl 7 (by decide) fl_X7_76 rfl dX7_againLine_115 ?_
                  refine q_icmp_gt (tgt := 162) hx hb dX7_againLine_118 (by decide) (by omega) (fun c_118 => ?_) (fun c_118 => ?_)
                  · refine lv_aload_n hx hb dX7_againLine_162 rfl (lv_at hl 0 rfl) ?_
                    refine q_get hx hb hts hown hK hw.1 ci_X7 0 rfl 10 (by decide) fl_X7_13 rfl dX7_againLine_163 ?_
                    refine q_iconst hx hb dX7_againLine_166 ?_
                    refine lv_dup2_11 hx hb dX7_againLine_167 rfl rfl ?_
                    refine q_iald hx hb hK hw.1 2 0 rfl rfl (z := 2) (v := (C 8 0)) (by omega) (by rw [h_y, agF_o (by omega)]; exact q_2.2.2.1) dX7_againLine_168 ?_
                    refine lv_aload_n hx hb dX7_againLine_169 rfl (lv_at hl 0 rfl) ?_
                    refine q_get hx hb hts hown hK hw.1 ci_X7 0 rfl 7 (by decide) fl_X7_76 rfl dX7_againLine_170 ?_
                    refine q_iadd hx hb dX7_againLine_173 ?_
                    refine q_iast hx hb hK hw 2 0 rfl rfl (by omega) dX7_againLine_174 (fun H locs hw => ?_)
                    have hw : qw D A s.heap (mW g cI cB cZ th len tl ts2_2 te2_2 tk2_2 nu2_2 er2_13 eo2_13 hL hS dp bf (uI y 2 (C 8 0 + nu2_2)) td sa ad hi sl sv tr) H locs := hw
                    obtain ⟨f_7, e_f_7⟩ : ∃ z, z = uI y 2 (C 8 0 + nu2_2) := ⟨_, rfl⟩
                    have hw : qw D A s.heap (mW g cI cB cZ th len tl ts2_2 te2_2 tk2_2 nu2_2 er2_13 eo2_13 hL hS dp bf f_7 td sa ad hi sl sv tr) H locs := by rw [e_f_7]; exact hw
                    have h_Y5 := PR_rep (t := nuV bf (nxX bf tl C)) h_Y4
                    refine lv_aload_n hx hb dX7_againLine_175 rfl (lv_at hl 0 rfl) ?_
                    refine q_callM (As := []) (rest := []) (wr := []) hx hb hml hown hts hK (c_X7_goOn (C := (repX (nxX bf tl C) (nuV bf (nxX bf tl C)))) (by first | omega | assumption) (by first | omega | assumption) (by exact h_Y5)) yi_X7_goOn ml_X7_101 (by rw [hR]; decide) hw hA [0, 1, 2, 3, 4, 5, 6, 7, 8, 9] [] rfl rfl (by decide) (by decide) (by decide) 0 rfl rfl rfl rfl hl.1 (lv_room (Nat.le_of_ble_eq_true rfl)) dX7_againLine_176 ⟨by rw [hR]; exact Nat.zero_le _, by rw [hR]; exact Nat.zero_le _⟩ (fun u_176 H locs hu_176 hw => ?_)
                    obtain ⟨ts2_14, te2_14, tk2_14, nu2_14⟩ := u_176
                    have hu_14_0 : PR bf tl ts2_14 te2_14 tk2_14 nu2_14 er2_13 eo2_13 (goX bf tl (((repX (nxX bf tl C) (nuV bf (nxX bf tl C)))))) := hu_176
                    have hw : qw D A s.heap (mW g cI cB cZ th len tl ts2_14 te2_14 tk2_14 nu2_14 er2_13 eo2_13 hL hS dp bf f_7 td sa ad hi sl sv tr) H locs := hw
                    have b_13 := ()
                    exact hret (ts2_14, te2_14, tk2_14, nu2_14, er2_13, eo2_13, f_7) H locs 179 ls ⟨(by (rw [ag_y ⟨h0, by omega⟩ q_k q_r (by omega)]; exact PR_gon hu_14_0 q_y3)), (by (rw [ag_y ⟨h0, by omega⟩ q_k q_r (by omega), e_f_7, h_y, show k - 1 = nuV bf (nxX bf tl C) by omega, show (C 8 0 + nu2_2) = C 8 0 + nuV bf (nxX bf tl C) by omega]; exact DR_nx (DR_rep (DR_nx hD) q_y3 (show 0 < C 8 0 by omega) q_r.1 (show C 8 0 + nuV bf (nxX bf tl C) ≤ 40 by omega))))⟩ hw dX7_againLine_179
                  · refine q_iconst hx hb dX7_againLine_121 ?_
                    refine lv_istore_n (lv' := [(3, .int (iI 0)), (0, .ref (g 0)), (1, .int (iI (8 + 7 * (C 8 0 - 1)))), (2, .int (iI k))]) hx hb dX7_againLine_122 rfl hl (by decide) rfl (fun ls hl => ?_)
                    have loop_123 : ∀ (fu : Nat) (yy : Int → Int) (i : Int) (H : Heap) (locs : List Loc) (ls : Array Slot), (7 - i).toNat = fu → (yy = agF dr (C 8 0) (7 * (k - 1) + i)) → (0 ≤ i ∧ i ≤ 7) → qw D A s.heap (mW g cI cB cZ th len tl ts2_2 te2_2 tk2_2 nu2_2 er2_13 eo2_13 hL hS dp bf yy td sa ad hi sl sv tr) H locs → lv_has ls 4 [(0, .ref (g 0)), (1, .int (iI (8 + 7 * (C 8 0 - 1)))), (2, .int (iI k)), (3, .int (iI i))] → W p l e R s m args below meth c H locs 0 0 Q (F0 m 123 ls []) := by
                      intro fu
                      induction fu using Nat.strongRecOn with
                      | ind fu ih_123 =>
                      intro yy i H locs ls hn_123 h_z h_i hw hl
                      refine lv_iload_n hx hb dX7_againLine_123 rfl (lv_at hl 3 rfl) ?_
                      refine q_bipush hx hb dX7_againLine_124 rfl ?_
                      refine q_icmp_ge (tgt := 156) hx hb dX7_againLine_126 (by decide) (by omega) (fun c_126 => ?_) (fun c_126 => ?_)
                      · refine lv_iinc (v := iI (k + 1)) (lv' := [(2, .int (iI (k + 1))), (0, .ref (g 0)), (1, .int (iI (8 + 7 * (C 8 0 - 1)))), (3, .int (iI i))]) hx hb dX7_againLine_156 hl (k := 2) rfl (iI_add _ _) (by decide) rfl (fun ls hl => ?_)
                        refine lv_goto (tgt := 113) hx hb dX7_againLine_159 (by decide) ?_
                        exact ih_113 _ (by omega) (yy) (k + 1) H locs ls rfl (by rw [h_z, show i = 7 by omega]; congr 1; omega) (by first | omega | assumption | rfl) hw (lv_sub hl [1, 2, 0] rfl)
                      · refine lv_aload_n hx hb dX7_againLine_129 rfl (lv_at hl 0 rfl) ?_
                        refine q_get hx hb hts hown hK hw.1 ci_X7 0 rfl 10 (by decide) fl_X7_13 rfl dX7_againLine_130 ?_
                        refine lv_iload_n hx hb dX7_againLine_133 rfl (lv_at hl 1 rfl) ?_
                        refine q_bipush hx hb dX7_againLine_134 rfl ?_
                        refine lv_iload_n hx hb dX7_againLine_136 rfl (lv_at hl 2 rfl) ?_
                        refine q_imul hx hb dX7_againLine_137 ?_
                        refine q_iadd hx hb dX7_againLine_138 ?_
                        refine lv_iload_n hx hb dX7_againLine_139 rfl (lv_at hl 3 rfl) ?_
                        refine q_iadd hx hb dX7_againLine_140 ?_
                        refine lv_aload_n hx hb dX7_againLine_141 rfl (lv_at hl 0 rfl) ?_
                        refine q_get hx hb hts hown hK hw.1 ci_X7 0 rfl 10 (by decide) fl_X7_13 rfl dX7_againLine_142 ?_
                        refine lv_iload_n hx hb dX7_againLine_145 rfl (lv_at hl 1 rfl) ?_
                        refine lv_iload_n hx hb dX7_againLine_146 rfl (lv_at hl 3 rfl) ?_
                        refine q_iadd hx hb dX7_againLine_147 ?_
                        refine q_iald hx hb hK hw.1 2 0 rfl rfl (z := (8 + 7 * (C 8 0 - 1) + i)) (v := (dr (8 + 7 * (C 8 0 - 1) + i))) (by omega) (by rw [h_z]; exact agF_o (by omega)) dX7_againLine_148 ?_
                        refine q_iast hx hb hK hw 2 0 rfl rfl (by omega) dX7_againLine_149 (fun H locs hw => ?_)
                        have hw : qw D A s.heap (mW g cI cB cZ th len tl ts2_2 te2_2 tk2_2 nu2_2 er2_13 eo2_13 hL hS dp bf (uI yy (8 + 7 * (C 8 0 - 1) + 7 * k + i) (dr (8 + 7 * (C 8 0 - 1) + i))) td sa ad hi sl sv tr) H locs := hw
                        obtain ⟨f_8, e_f_8⟩ : ∃ z, z = uI yy (8 + 7 * (C 8 0 - 1) + 7 * k + i) (dr (8 + 7 * (C 8 0 - 1) + i)) := ⟨_, rfl⟩
                        have hw : qw D A s.heap (mW g cI cB cZ th len tl ts2_2 te2_2 tk2_2 nu2_2 er2_13 eo2_13 hL hS dp bf f_8 td sa ad hi sl sv tr) H locs := by rw [e_f_8]; exact hw
                        refine lv_iinc (v := iI (i + 1)) (lv' := [(3, .int (iI (i + 1))), (0, .ref (g 0)), (1, .int (iI (8 + 7 * (C 8 0 - 1)))), (2, .int (iI k))]) hx hb dX7_againLine_150 hl (k := 3) rfl (iI_add _ _) (by decide) rfl (fun ls hl => ?_)
                        refine lv_goto (tgt := 123) hx hb dX7_againLine_153 (by decide) ?_
                        exact ih_123 _ (by omega) (f_8) (i + 1) H locs ls rfl (by rw [e_f_8, h_z, show 7 * (k - 1) + (i + 1) = 7 * (k - 1) + i + 1 by omega]; exact agF_s (k := k) (i := i) rfl h_k.1 (by omega) (by omega) rfl) (by first | omega | assumption | rfl) hw (lv_sub hl [1, 2, 3, 0] rfl)
                    exact loop_123 _ (y) (0) H locs ls rfl (by rw [h_y, Int.add_zero]) (by first | omega | assumption | rfl) hw (lv_sub hl [1, 2, 3, 0] rfl)
                exact loop_113 _ (dr) (1) H locs ls rfl (by exact (agF_0 _ _ (by omega)).symm) (by first | omega | assumption | rfl) hw (lv_sub hl [2, 1, 0] rfl)
              · exact hret (ts2_2, te2_2, tk2_2, nu2_2, er2_13, eo2_13, dr) H locs 95 ls ⟨(by first | (have q : ¬ (nxX bf tl C) 9 2 = 2 := fun w => c_45 ((muX_3 (k := 1) (X := nxX bf tl C) (by decide)).mpr ⟨q_y3, by omega⟩); rw [ag_1 ⟨h0, by omega⟩ q]; exact PR_muf hu_13_0 (by omega)) | (have q : ¬ (1 ≤ nuV bf (nxX bf tl C) ∧ nuV bf (nxX bf tl C) ≤ 39) := fun w => c_63 ((muX_3 (k := 4) (X := nxX bf tl C) (by decide)).mpr ⟨q_y3, bI_t (by omega)⟩); rw [ag_4 ⟨h0, by omega⟩ q_k q]; exact PR_muf hu_13_0 (by unfold bI; split <;> omega)) | (have q : ¬ (C 8 0 + nuV bf (nxX bf tl C) ≤ 40) := fun w => c_92 ((muX_3 (k := 5) (X := nxX bf tl C) (by decide)).mpr ⟨q_y3, by omega⟩); rw [ag_5 ⟨h0, by omega⟩ q_k (by unfold bI at q_63; split at q_63 <;> omega) q]; exact PR_muf hu_13_0 (by omega))), (by first | (have q : ¬ (nxX bf tl C) 9 2 = 2 := fun w => c_45 ((muX_3 (k := 1) (X := nxX bf tl C) (by decide)).mpr ⟨q_y3, by omega⟩); rw [ag_1 ⟨h0, by omega⟩ q]; exact DR_fa (DR_nx hD) (by decide)) | (have q : ¬ (1 ≤ nuV bf (nxX bf tl C) ∧ nuV bf (nxX bf tl C) ≤ 39) := fun w => c_63 ((muX_3 (k := 4) (X := nxX bf tl C) (by decide)).mpr ⟨q_y3, bI_t (by omega)⟩); rw [ag_4 ⟨h0, by omega⟩ q_k q]; exact DR_fa (DR_nx hD) (by decide)) | (have q : ¬ (C 8 0 + nuV bf (nxX bf tl C) ≤ 40) := fun w => c_92 ((muX_3 (k := 5) (X := nxX bf tl C) (by decide)).mpr ⟨q_y3, by omega⟩); rw [ag_5 ⟨h0, by omega⟩ q_k (by unfold bI at q_63; split at q_63 <;> omega) q]; exact DR_fa (DR_nx hD) (by decide)))⟩ hw dX7_againLine_95
    · have q_c : ¬ (0 < C 8 0) := fun z => c_19 ((muX_3 (k := 3) (X := C) (by decide)).mpr ⟨h0, by omega⟩)
      exact hret (ts, te, tk, nu, er2_1, eo2_1, dr) H locs 22 ls ⟨(by (rw [ag_3 (by omega)]; exact PR_muf hu_1_0 (by omega))), (by (rw [ag_3 (by omega)]; exact DR_fa hD (by decide)))⟩ hw dX7_againLine_22
  · refine q_iconst hx hb dX7_againLine_10 ?_
    refine lv_goto (tgt := 15) hx hb dX7_againLine_11 (by decide) ?_
    refine q_iconst hx hb dX7_againLine_15 ?_
    refine q_callM (As := [.int (iI 1), .int (iI 3)]) (rest := []) (wr := []) hx hb hml hown hts hK (c_X7_must (C := C) (1) (3) (by exact hP) (by first | omega | assumption) (by first | omega | assumption)) yi_X7_must ml_X7_97 (by rw [hR]; decide) hw hA [0, 1, 2, 3, 4, 5, 6, 7, 8, 9] [] rfl rfl (by decide) (by decide) (by decide) 0 rfl rfl rfl rfl hl.1 (lv_room (Nat.le_of_ble_eq_true rfl)) dX7_againLine_16 ⟨by rw [hR]; exact Nat.zero_le _, by rw [hR]; exact Nat.zero_le _⟩ (fun u_16 H locs hu_16 hw => ?_)
    obtain ⟨er2_15, eo2_15⟩ := u_16
    have hu_15_0 : PR bf tl ts te tk nu er2_15 eo2_15 (muX 1 3 ((C))) := hu_16
    have hw : qw D A s.heap (mW g cI cB cZ th len tl ts te tk nu er2_15 eo2_15 hL hS dp bf dr td sa ad hi sl sv tr) H locs := hw
    have b_14 := ()
    refine q_ifb_ne (tgt := 23) hx hb dX7_againLine_19 (by decide) (fun c_19 => ?_) (fun c_19 => ?_)
    · have q_19 : C 9 3 = 0 ∧ _ := (muX_3 (k := 3) (X := C) (by decide)).mp c_19
      refine lv_aload_n hx hb dX7_againLine_23 rfl (lv_at hl 0 rfl) ?_
      refine q_callM (As := []) (rest := []) (wr := []) hx hb hml hown hts hK (c_X7_goOn (C := (muX (1) (3) C)) (by first | omega | assumption) (by first | omega | assumption) (by exact hu_15_0)) yi_X7_goOn ml_X7_101 (by rw [hR]; decide) hw hA [0, 1, 2, 3, 4, 5, 6, 7, 8, 9] [] rfl rfl (by decide) (by decide) (by decide) 0 rfl rfl rfl rfl hl.1 (lv_room (Nat.le_of_ble_eq_true rfl)) dX7_againLine_24 ⟨by rw [hR]; exact Nat.zero_le _, by rw [hR]; exact Nat.zero_le _⟩ (fun u_24 H locs hu_24 hw => ?_)
      obtain ⟨ts2_16, te2_16, tk2_16, nu2_16⟩ := u_24
      have hu_16_0 : PR bf tl ts2_16 te2_16 tk2_16 nu2_16 er2_15 eo2_15 (goX bf tl (((muX (1) (3) C)))) := hu_24
      have hw : qw D A s.heap (mW g cI cB cZ th len tl ts2_16 te2_16 tk2_16 nu2_16 er2_15 eo2_15 hL hS dp bf dr td sa ad hi sl sv tr) H locs := hw
      have h_Y := PR_goy hu_16_0 q_19
      have q_10 := h_Y.2.2.2.1 q_y3
      have q_11 := h_Y.2.2.2.2
      have q_12 := h_Y.1
      refine lv_aload_n hx hb dX7_againLine_27 rfl (lv_at hl 0 rfl) ?_
      refine lv_aload_n hx hb dX7_againLine_28 rfl (lv_at hl 0 rfl) ?_
      refine q_get hx hb hts hown hK hw.1 ci_X7 0 rfl 6 (by decide) fl_X7_69 rfl dX7_againLine_29 ?_
      refine q_iconst hx hb dX7_againLine_32 ?_
      refine q_icmp_ne (tgt := 40) hx hb dX7_againLine_33 (by decide) (by omega) (fun c_33 => ?_) (fun c_33 => ?_)
      · refine q_iconst hx hb dX7_againLine_40 ?_
        refine q_iconst hx hb dX7_againLine_41 ?_
        refine q_callM (As := [.int (iI 0), .int (iI 1)]) (rest := []) (wr := []) hx hb hml hown hts hK (c_X7_must (C := (nxX bf tl C)) (0) (1) (by exact h_Y) (by first | omega | assumption) (by first | omega | assumption)) yi_X7_must ml_X7_97 (by rw [hR]; decide) hw hA [0, 1, 2, 3, 4, 5, 6, 7, 8, 9] [] rfl rfl (by decide) (by decide) (by decide) 0 rfl rfl rfl rfl hl.1 (lv_room (Nat.le_of_ble_eq_true rfl)) dX7_againLine_42 ⟨by rw [hR]; exact Nat.zero_le _, by rw [hR]; exact Nat.zero_le _⟩ (fun u_42 H locs hu_42 hw => ?_)
        obtain ⟨er2_17, eo2_17⟩ := u_42
        have hu_17_0 : PR bf tl ts2_16 te2_16 tk2_16 nu2_16 er2_17 eo2_17 (muX 0 1 (((nxX bf tl C)))) := hu_42
        have hw : qw D A s.heap (mW g cI cB cZ th len tl ts2_16 te2_16 tk2_16 nu2_16 er2_17 eo2_17 hL hS dp bf dr td sa ad hi sl sv tr) H locs := hw
        have b_15 := ()
        refine q_ifb_eq (tgt := 95) hx hb dX7_againLine_45 (by decide) (fun c_45 => ?_) (fun c_45 => ?_)
        · exact hret (ts2_16, te2_16, tk2_16, nu2_16, er2_17, eo2_17, dr) H locs 95 ls ⟨(by first | (have q : ¬ (nxX bf tl C) 9 2 = 2 := fun w => c_45 ((muX_3 (k := 1) (X := nxX bf tl C) (by decide)).mpr ⟨q_y3, by omega⟩); rw [ag_1 ⟨h0, by omega⟩ q]; exact PR_muf hu_17_0 (by omega)) | (have q : ¬ (1 ≤ nuV bf (nxX bf tl C) ∧ nuV bf (nxX bf tl C) ≤ 39) := fun w => c_63 ((muX_3 (k := 4) (X := nxX bf tl C) (by decide)).mpr ⟨q_y3, bI_t (by omega)⟩); rw [ag_4 ⟨h0, by omega⟩ q_k q]; exact PR_muf hu_17_0 (by unfold bI; split <;> omega)) | (have q : ¬ (C 8 0 + nuV bf (nxX bf tl C) ≤ 40) := fun w => c_92 ((muX_3 (k := 5) (X := nxX bf tl C) (by decide)).mpr ⟨q_y3, by omega⟩); rw [ag_5 ⟨h0, by omega⟩ q_k (by unfold bI at q_63; split at q_63 <;> omega) q]; exact PR_muf hu_17_0 (by omega))), (by first | (have q : ¬ (nxX bf tl C) 9 2 = 2 := fun w => c_45 ((muX_3 (k := 1) (X := nxX bf tl C) (by decide)).mpr ⟨q_y3, by omega⟩); rw [ag_1 ⟨h0, by omega⟩ q]; exact DR_fa (DR_nx hD) (by decide)) | (have q : ¬ (1 ≤ nuV bf (nxX bf tl C) ∧ nuV bf (nxX bf tl C) ≤ 39) := fun w => c_63 ((muX_3 (k := 4) (X := nxX bf tl C) (by decide)).mpr ⟨q_y3, bI_t (by omega)⟩); rw [ag_4 ⟨h0, by omega⟩ q_k q]; exact DR_fa (DR_nx hD) (by decide)) | (have q : ¬ (C 8 0 + nuV bf (nxX bf tl C) ≤ 40) := fun w => c_92 ((muX_3 (k := 5) (X := nxX bf tl C) (by decide)).mpr ⟨q_y3, by omega⟩); rw [ag_5 ⟨h0, by omega⟩ q_k (by unfold bI at q_63; split at q_63 <;> omega) q]; exact DR_fa (DR_nx hD) (by decide)))⟩ hw dX7_againLine_95
        · have q_45 : (nxX bf tl C) 9 3 = 0 ∧ _ := (muX_3 (k := 1) (X := (nxX bf tl C)) (by decide)).mp c_45
          have h_Y2 := PR_muy hu_17_0 q_45
          have q_k : (nxX bf tl C) 9 2 = 2 := by omega
          have q_n := q_10.2.2.2 q_k
          refine lv_aload_n hx hb dX7_againLine_48 rfl (lv_at hl 0 rfl) ?_
          refine lv_aload_n hx hb dX7_againLine_49 rfl (lv_at hl 0 rfl) ?_
          refine q_get hx hb hts hown hK hw.1 ci_X7 0 rfl 7 (by decide) fl_X7_76 rfl dX7_againLine_50 ?_
          refine q_iconst hx hb dX7_againLine_53 ?_
          refine q_bipush hx hb dX7_againLine_54 rfl ?_
          refine q_callPS (As := [.int (iI nu2_16), .int (iI 1), .int (iI 39)]) (rest := [.ref (g 0)]) hx hb hml hown hts hK (c_X7_within (nu2_16) (1) (39) (by first | omega | assumption) (by first | omega | assumption) (by first | omega | assumption)) yt_X7_within ml_X7_72 (by rw [hR]; decide) (show va_P D vwCl [] _ from fun k q h => by simp at h)  rfl rfl hl.1 (lv_room (Nat.le_of_ble_eq_true rfl)) dX7_againLine_56 ⟨by rw [hR]; exact Nat.zero_le _, by rw [hR]; exact Nat.zero_le _⟩ ?_
          refine q_iconst hx hb dX7_againLine_59 ?_
          refine q_callM (As := [.int (iI (bI (1 ≤ nu2_16 ∧ nu2_16 ≤ 39))), .int (iI 4)]) (rest := []) (wr := []) hx hb hml hown hts hK (c_X7_must (C := (nxX bf tl C)) (bI (1 ≤ nu2_16 ∧ nu2_16 ≤ 39)) (4) (by exact h_Y2) (by unfold bI; split <;> omega) (by first | omega | assumption)) yi_X7_must ml_X7_97 (by rw [hR]; decide) hw hA [0, 1, 2, 3, 4, 5, 6, 7, 8, 9] [] rfl rfl (by decide) (by decide) (by decide) 0 rfl rfl rfl rfl hl.1 (lv_room (Nat.le_of_ble_eq_true rfl)) dX7_againLine_60 ⟨by rw [hR]; exact Nat.zero_le _, by rw [hR]; exact Nat.zero_le _⟩ (fun u_60 H locs hu_60 hw => ?_)
          obtain ⟨er2_18, eo2_18⟩ := u_60
          have hu_18_0 : PR bf tl ts2_16 te2_16 tk2_16 nu2_16 er2_18 eo2_18 (muX (bI (1 ≤ nu2_16 ∧ nu2_16 ≤ 39)) 4 (((nxX bf tl C)))) := hu_60
          have hw : qw D A s.heap (mW g cI cB cZ th len tl ts2_16 te2_16 tk2_16 nu2_16 er2_18 eo2_18 hL hS dp bf dr td sa ad hi sl sv tr) H locs := hw
          have b_16 := ()
          refine q_ifb_eq (tgt := 95) hx hb dX7_againLine_63 (by decide) (fun c_63 => ?_) (fun c_63 => ?_)
          · exact hret (ts2_16, te2_16, tk2_16, nu2_16, er2_18, eo2_18, dr) H locs 95 ls ⟨(by first | (have q : ¬ (nxX bf tl C) 9 2 = 2 := fun w => c_45 ((muX_3 (k := 1) (X := nxX bf tl C) (by decide)).mpr ⟨q_y3, by omega⟩); rw [ag_1 ⟨h0, by omega⟩ q]; exact PR_muf hu_18_0 (by omega)) | (have q : ¬ (1 ≤ nuV bf (nxX bf tl C) ∧ nuV bf (nxX bf tl C) ≤ 39) := fun w => c_63 ((muX_3 (k := 4) (X := nxX bf tl C) (by decide)).mpr ⟨q_y3, bI_t (by omega)⟩); rw [ag_4 ⟨h0, by omega⟩ q_k q]; exact PR_muf hu_18_0 (by unfold bI; split <;> omega)) | (have q : ¬ (C 8 0 + nuV bf (nxX bf tl C) ≤ 40) := fun w => c_92 ((muX_3 (k := 5) (X := nxX bf tl C) (by decide)).mpr ⟨q_y3, by omega⟩); rw [ag_5 ⟨h0, by omega⟩ q_k (by unfold bI at q_63; split at q_63 <;> omega) q]; exact PR_muf hu_18_0 (by omega))), (by first | (have q : ¬ (nxX bf tl C) 9 2 = 2 := fun w => c_45 ((muX_3 (k := 1) (X := nxX bf tl C) (by decide)).mpr ⟨q_y3, by omega⟩); rw [ag_1 ⟨h0, by omega⟩ q]; exact DR_fa (DR_nx hD) (by decide)) | (have q : ¬ (1 ≤ nuV bf (nxX bf tl C) ∧ nuV bf (nxX bf tl C) ≤ 39) := fun w => c_63 ((muX_3 (k := 4) (X := nxX bf tl C) (by decide)).mpr ⟨q_y3, bI_t (by omega)⟩); rw [ag_4 ⟨h0, by omega⟩ q_k q]; exact DR_fa (DR_nx hD) (by decide)) | (have q : ¬ (C 8 0 + nuV bf (nxX bf tl C) ≤ 40) := fun w => c_92 ((muX_3 (k := 5) (X := nxX bf tl C) (by decide)).mpr ⟨q_y3, by omega⟩); rw [ag_5 ⟨h0, by omega⟩ q_k (by unfold bI at q_63; split at q_63 <;> omega) q]; exact DR_fa (DR_nx hD) (by decide)))⟩ hw dX7_againLine_95
          · have q_63 : (nxX bf tl C) 9 3 = 0 ∧ _ := (muX_3 (k := 4) (X := (nxX bf tl C)) (by decide)).mp c_63
            have h_Y3 := PR_muy hu_18_0 q_63
            refine lv_aload_n hx hb dX7_againLine_66 rfl (lv_at hl 0 rfl) ?_
            refine lv_aload_n hx hb dX7_againLine_67 rfl (lv_at hl 0 rfl) ?_
            refine q_get hx hb hts hown hK hw.1 ci_X7 0 rfl 10 (by decide) fl_X7_13 rfl dX7_againLine_68 ?_
            refine q_iconst hx hb dX7_againLine_71 ?_
            refine q_iald hx hb hK hw.1 2 0 rfl rfl (z := 2) (v := (C 8 0)) (by omega) (by exact q_2.2.2.1) dX7_againLine_72 ?_
            refine lv_aload_n hx hb dX7_againLine_73 rfl (lv_at hl 0 rfl) ?_
            refine q_get hx hb hts hown hK hw.1 ci_X7 0 rfl 7 (by decide) fl_X7_76 rfl dX7_againLine_74 ?_
            refine q_iadd hx hb dX7_againLine_77 ?_
            refine q_bipush hx hb dX7_againLine_78 rfl ?_
            refine q_icmp_gt (tgt := 87) hx hb dX7_againLine_80 (by decide) (by omega) (fun c_80 => ?_) (fun c_80 => ?_)
            · refine q_iconst hx hb dX7_againLine_87 ?_
              refine q_iconst hx hb dX7_againLine_88 ?_
              refine q_callM (As := [.int (iI 0), .int (iI 5)]) (rest := []) (wr := []) hx hb hml hown hts hK (c_X7_must (C := (nxX bf tl C)) (0) (5) (by exact h_Y3) (by first | omega | assumption) (by first | omega | assumption)) yi_X7_must ml_X7_97 (by rw [hR]; decide) hw hA [0, 1, 2, 3, 4, 5, 6, 7, 8, 9] [] rfl rfl (by decide) (by decide) (by decide) 0 rfl rfl rfl rfl hl.1 (lv_room (Nat.le_of_ble_eq_true rfl)) dX7_againLine_89 ⟨by rw [hR]; exact Nat.zero_le _, by rw [hR]; exact Nat.zero_le _⟩ (fun u_89 H locs hu_89 hw => ?_)
              obtain ⟨er2_19, eo2_19⟩ := u_89
              have hu_19_0 : PR bf tl ts2_16 te2_16 tk2_16 nu2_16 er2_19 eo2_19 (muX 0 5 (((nxX bf tl C)))) := hu_89
              have hw : qw D A s.heap (mW g cI cB cZ th len tl ts2_16 te2_16 tk2_16 nu2_16 er2_19 eo2_19 hL hS dp bf dr td sa ad hi sl sv tr) H locs := hw
              have b_17 := ()
              refine q_ifb_ne (tgt := 96) hx hb dX7_againLine_92 (by decide) (fun c_92 => ?_) (fun c_92 => ?_)
              · have q_92 : (nxX bf tl C) 9 3 = 0 ∧ _ := (muX_3 (k := 5) (X := (nxX bf tl C)) (by decide)).mp c_92
                have h_Y4 := PR_muy hu_19_0 q_92
                have q_r : 1 ≤ nuV bf (nxX bf tl C) ∧ nuV bf (nxX bf tl C) ≤ 39 := by unfold bI at q_63; split at q_63 <;> omega
                refine q_bipush hx hb dX7_againLine_96 rfl ?_
                refine q_bipush hx hb dX7_againLine_98 rfl ?_
                refine lv_aload_n hx hb dX7_againLine_100 rfl (lv_at hl 0 rfl) ?_
                refine q_get hx hb hts hown hK hw.1 ci_X7 0 rfl 10 (by decide) fl_X7_13 rfl dX7_againLine_101 ?_
                refine q_iconst hx hb dX7_againLine_104 ?_
                refine q_iald hx hb hK hw.1 2 0 rfl rfl (z := 2) (v := (C 8 0)) (by omega) (by exact q_2.2.2.1) dX7_againLine_105 ?_
                refine q_iconst hx hb dX7_againLine_106 ?_
                refine q_isub hx hb dX7_againLine_107 ?_
                refine q_imul hx hb dX7_againLine_108 ?_
                refine q_iadd hx hb dX7_againLine_109 ?_
                refine lv_istore_n (lv' := [(1, .int (iI (8 + 7 * (C 8 0 - 1)))), (0, .ref (g 0))]) hx hb dX7_againLine_110 rfl hl (by decide) rfl (fun ls hl => ?_)
                refine q_iconst hx hb dX7_againLine_111 ?_
                refine lv_istore_n (lv' := [(2, .int (iI 1)), (1, .int (iI (8 + 7 * (C 8 0 - 1)))), (0, .ref (g 0))]) hx hb dX7_againLine_112 rfl hl (by decide) rfl (fun ls hl => ?_)
                have loop_113 : ∀ (fu : Nat) (y : Int → Int) (k : Int) (H : Heap) (locs : List Loc) (ls : Array Slot), (40 - k).toNat = fu → (y = agF dr (C 8 0) (7 * (k - 1))) → (1 ≤ k ∧ k ≤ nuV bf (nxX bf tl C) + 1) → qw D A s.heap (mW g cI cB cZ th len tl ts2_16 te2_16 tk2_16 nu2_16 er2_19 eo2_19 hL hS dp bf y td sa ad hi sl sv tr) H locs → lv_has ls 4 [(0, .ref (g 0)), (1, .int (iI (8 + 7 * (C 8 0 - 1)))), (2, .int (iI k))] → W p l e R s m args below meth c H locs 0 0 Q (F0 m 113 ls []) := by
                  intro fu
                  induction fu using Nat.strongRecOn with
                  | ind fu ih_113 =>
                  intro y k H locs ls hn_113 h_y h_k hw hl
                  refine lv_iload_n hx hb dX7_againLine_113 rfl (lv_at hl 2 rfl) ?_
                  refine lv_aload_n hx hb dX7_againLine_114 rfl (lv_at hl 0 rfl) ?_
                  refine q_get hx hb hts hown hK hw.1 ci_X7 0 rfl 7 (by decide) fl_X7_76 rfl dX7_againLine_115 ?_
                  refine q_icmp_gt (tgt := 162) hx hb dX7_againLine_118 (by decide) (by omega) (fun c_118 => ?_) (fun c_118 => ?_)
                  · refine lv_aload_n hx hb dX7_againLine_162 rfl (lv_at hl 0 rfl) ?_
                    refine q_get hx hb hts hown hK hw.1 ci_X7 0 rfl 10 (by decide) fl_X7_13 rfl dX7_againLine_163 ?_
                    refine q_iconst hx hb dX7_againLine_166 ?_
                    refine lv_dup2_11 hx hb dX7_againLine_167 rfl rfl ?_
                    refine q_iald hx hb hK hw.1 2 0 rfl rfl (z := 2) (v := (C 8 0)) (by omega) (by rw [h_y, agF_o (by omega)]; exact q_2.2.2.1) dX7_againLine_168 ?_
                    refine lv_aload_n hx hb dX7_againLine_169 rfl (lv_at hl 0 rfl) ?_
                    refine q_get hx hb hts hown hK hw.1 ci_X7 0 rfl 7 (by decide) fl_X7_76 rfl dX7_againLine_170 ?_
                    refine q_iadd hx hb dX7_againLine_173 ?_
                    refine q_iast hx hb hK hw 2 0 rfl rfl (by omega) dX7_againLine_174 (fun H locs hw => ?_)
                    have hw : qw D A s.heap (mW g cI cB cZ th len tl ts2_16 te2_16 tk2_16 nu2_16 er2_19 eo2_19 hL hS dp bf (uI y 2 (C 8 0 + nu2_16)) td sa ad hi sl sv tr) H locs := hw
                    obtain ⟨f_9, e_f_9⟩ : ∃ z, z = uI y 2 (C 8 0 + nu2_16) := ⟨_, rfl⟩
                    have hw : qw D A s.heap (mW g cI cB cZ th len tl ts2_16 te2_16 tk2_16 nu2_16 er2_19 eo2_19 hL hS dp bf f_9 td sa ad hi sl sv tr) H locs := by rw [e_f_9]; exact hw
                    have h_Y5 := PR_rep (t := nuV bf (nxX bf tl C)) h_Y4
                    refine lv_aload_n hx hb dX7_againLine_175 rfl (lv_at hl 0 rfl) ?_
                    refine q_callM (As := []) (rest := []) (wr := []) hx hb hml hown hts hK (c_X7_goOn (C := (repX (nxX bf tl C) (nuV bf (nxX bf tl C)))) (by first | omega | assumption) (by first | omega | assumption) (by exact h_Y5)) yi_X7_goOn ml_X7_101 (by rw [hR]; decide) hw hA [0, 1, 2, 3, 4, 5, 6, 7, 8, 9] [] rfl rfl (by decide) (by decide) (by decide) 0 rfl rfl rfl rfl hl.1 (lv_room (Nat.le_of_ble_eq_true rfl)) dX7_againLine_176 ⟨by rw [hR]; exact Nat.zero_le _, by rw [hR]; exact Nat.zero_le _⟩ (fun u_176 H locs hu_176 hw => ?_)
                    obtain ⟨ts2_20, te2_20, tk2_20, nu2_20⟩ := u_176
                    have hu_20_0 : PR bf tl ts2_20 te2_20 tk2_20 nu2_20 er2_19 eo2_19 (goX bf tl (((repX (nxX bf tl C) (nuV bf (nxX bf tl C)))))) := hu_176
                    have hw : qw D A s.heap (mW g cI cB cZ th len tl ts2_20 te2_20 tk2_20 nu2_20 er2_19 eo2_19 hL hS dp bf f_9 td sa ad hi sl sv tr) H locs := hw
                    have b_18 := ()
                    exact hret (ts2_20, te2_20, tk2_20, nu2_20, er2_19, eo2_19, f_9) H locs 179 ls ⟨(by (rw [ag_y ⟨h0, by omega⟩ q_k q_r (by omega)]; exact PR_gon hu_20_0 q_y3)), (by (rw [ag_y ⟨h0, by omega⟩ q_k q_r (by omega), e_f_9, h_y, show k - 1 = nuV bf (nxX bf tl C) by omega, show (C 8 0 + nu2_16) = C 8 0 + nuV bf (nxX bf tl C) by omega]; exact DR_nx (DR_rep (DR_nx hD) q_y3 (show 0 < C 8 0 by omega) q_r.1 (show C 8 0 + nuV bf (nxX bf tl C) ≤ 40 by omega))))⟩ hw dX7_againLine_179
                  · refine q_iconst hx hb dX7_againLine_121 ?_
                    refine lv_istore_n (lv' := [(3, .int (iI 0)), (0, .ref (g 0)), (1, .int (iI (8 + 7 * (C 8 0 - 1)))), (2, .int (iI k))]) hx hb dX7_againLine_122 rfl hl (by decide) rfl (fun ls hl => ?_)
                    have loop_123 : ∀ (fu : Nat) (yy : Int → Int) (i : Int) (H : Heap) (locs : List Loc) (ls : Array Slot), (7 - i).toNat = fu → (yy = agF dr (C 8 0) (7 * (k - 1) + i)) → (0 ≤ i ∧ i ≤ 7) → qw D A s.heap (mW g cI cB cZ th len tl ts2_16 te2_16 tk2_16 nu2_16 er2_19 eo2_19 hL hS dp bf yy td sa ad hi sl sv tr) H locs → lv_has ls 4 [(0, .ref (g 0)), (1, .int (iI (8 + 7 * (C 8 0 - 1)))), (2, .int (iI k)), (3, .int (iI i))] → W p l e R s m args below meth c H locs 0 0 Q (F0 m 123 ls []) := by
                      intro fu
                      induction fu using Nat.strongRecOn with
                      | ind fu ih_123 =>
                      intro yy i H locs ls hn_123 h_z h_i hw hl
                      refine lv_iload_n hx hb dX7_againLine_123 rfl (lv_at hl 3 rfl) ?_
                      refine q_bipush hx hb dX7_againLine_124 rfl ?_
                      refine q_icmp_ge (tgt := 156) hx hb dX7_againLine_126 (by decide) (by omega) (fun c_126 => ?_) (fun c_126 => ?_)
                      · refine lv_iinc (v := iI (k + 1)) (lv' := [(2, .int (iI (k + 1))), (0, .ref (g 0)), (1, .int (iI (8 + 7 * (C 8 0 - 1)))), (3, .int (iI i))]) hx hb dX7_againLine_156 hl (k := 2) rfl (iI_add _ _) (by decide) rfl (fun ls hl => ?_)
                        refine lv_goto (tgt := 113) hx hb dX7_againLine_159 (by decide) ?_
                        exact ih_113 _ (by omega) (yy) (k + 1) H locs ls rfl (by rw [h_z, show i = 7 by omega]; congr 1; omega) (by first | omega | assumption | rfl) hw (lv_sub hl [1, 2, 0] rfl)
                      · refine lv_aload_n hx hb dX7_againLine_129 rfl (lv_at hl 0 rfl) ?_
                        refine q_get hx hb hts hown hK hw.1 ci_X7 0 rfl 10 (by decide) fl_X7_13 rfl dX7_againLine_130 ?_
                        refine lv_iload_n hx hb dX7_againLine_133 rfl (lv_at hl 1 rfl) ?_
                        refine q_bipush hx hb dX7_againLine_134 rfl ?_
                        refine lv_iload_n hx hb dX7_againLine_136 rfl (lv_at hl 2 rfl) ?_
                        refine q_imul hx hb dX7_againLine_137 ?_
                        refine q_iadd hx hb dX7_againLine_138 ?_
                        refine lv_iload_n hx hb dX7_againLine_139 rfl (lv_at hl 3 rfl) ?_
                        refine q_iadd hx hb dX7_againLine_140 ?_
                        refine lv_aload_n hx hb dX7_againLine_141 rfl (lv_at hl 0 rfl) ?_
                        refine q_get hx hb hts hown hK hw.1 ci_X7 0 rfl 10 (by decide) fl_X7_13 rfl dX7_againLine_142 ?_
                        refine lv_iload_n hx hb dX7_againLine_145 rfl (lv_at hl 1 rfl) ?_
                        refine lv_iload_n hx hb dX7_againLine_146 rfl (lv_at hl 3 rfl) ?_
                        refine q_iadd hx hb dX7_againLine_147 ?_
                        refine q_iald hx hb hK hw.1 2 0 rfl rfl (z := (8 + 7 * (C 8 0 - 1) + i)) (v := (dr (8 + 7 * (C 8 0 - 1) + i))) (by omega) (by rw [h_z]; exact agF_o (by omega)) dX7_againLine_148 ?_
                        refine q_iast hx hb hK hw 2 0 rfl rfl (by omega) dX7_againLine_149 (fun H locs hw => ?_)
                        have hw : qw D A s.heap (mW g cI cB cZ th len tl ts2_16 te2_16 tk2_16 nu2_16 er2_19 eo2_19 hL hS dp bf (uI yy (8 + 7 * (C 8 0 - 1) + 7 * k + i) (dr (8 + 7 * (C 8 0 - 1) + i))) td sa ad hi sl sv tr) H locs := hw
                        obtain ⟨f_10, e_f_10⟩ : ∃ z, z = uI yy (8 + 7 * (C 8 0 - 1) + 7 * k + i) (dr (8 + 7 * (C 8 0 - 1) + i)) := ⟨_, rfl⟩
                        have hw : qw D A s.heap (mW g cI cB cZ th len tl ts2_16 te2_16 tk2_16 nu2_16 er2_19 eo2_19 hL hS dp bf f_10 td sa ad hi sl sv tr) H locs := by rw [e_f_10]; exact hw
                        refine lv_iinc (v := iI (i + 1)) (lv' := [(3, .int (iI (i + 1))), (0, .ref (g 0)), (1, .int (iI (8 + 7 * (C 8 0 - 1)))), (2, .int (iI k))]) hx hb dX7_againLine_150 hl (k := 3) rfl (iI_add _ _) (by decide) rfl (fun ls hl => ?_)
                        refine lv_goto (tgt := 123) hx hb dX7_againLine_153 (by decide) ?_
                        exact ih_123 _ (by omega) (f_10) (i + 1) H locs ls rfl (by rw [e_f_10, h_z, show 7 * (k - 1) + (i + 1) = 7 * (k - 1) + i + 1 by omega]; exact agF_s (k := k) (i := i) rfl h_k.1 (by omega) (by omega) rfl) (by first | omega | assumption | rfl) hw (lv_sub hl [1, 2, 3, 0] rfl)
                    exact loop_123 _ (y) (0) H locs ls rfl (by rw [h_y, Int.add_zero]) (by first | omega | assumption | rfl) hw (lv_sub hl [1, 2, 3, 0] rfl)
                exact loop_113 _ (dr) (1) H locs ls rfl (by exact (agF_0 _ _ (by omega)).symm) (by first | omega | assumption | rfl) hw (lv_sub hl [2, 1, 0] rfl)
              · exact hret (ts2_16, te2_16, tk2_16, nu2_16, er2_19, eo2_19, dr) H locs 95 ls ⟨(by first | (have q : ¬ (nxX bf tl C) 9 2 = 2 := fun w => c_45 ((muX_3 (k := 1) (X := nxX bf tl C) (by decide)).mpr ⟨q_y3, by omega⟩); rw [ag_1 ⟨h0, by omega⟩ q]; exact PR_muf hu_19_0 (by omega)) | (have q : ¬ (1 ≤ nuV bf (nxX bf tl C) ∧ nuV bf (nxX bf tl C) ≤ 39) := fun w => c_63 ((muX_3 (k := 4) (X := nxX bf tl C) (by decide)).mpr ⟨q_y3, bI_t (by omega)⟩); rw [ag_4 ⟨h0, by omega⟩ q_k q]; exact PR_muf hu_19_0 (by unfold bI; split <;> omega)) | (have q : ¬ (C 8 0 + nuV bf (nxX bf tl C) ≤ 40) := fun w => c_92 ((muX_3 (k := 5) (X := nxX bf tl C) (by decide)).mpr ⟨q_y3, by omega⟩); rw [ag_5 ⟨h0, by omega⟩ q_k (by unfold bI at q_63; split at q_63 <;> omega) q]; exact PR_muf hu_19_0 (by omega))), (by first | (have q : ¬ (nxX bf tl C) 9 2 = 2 := fun w => c_45 ((muX_3 (k := 1) (X := nxX bf tl C) (by decide)).mpr ⟨q_y3, by omega⟩); rw [ag_1 ⟨h0, by omega⟩ q]; exact DR_fa (DR_nx hD) (by decide)) | (have q : ¬ (1 ≤ nuV bf (nxX bf tl C) ∧ nuV bf (nxX bf tl C) ≤ 39) := fun w => c_63 ((muX_3 (k := 4) (X := nxX bf tl C) (by decide)).mpr ⟨q_y3, bI_t (by omega)⟩); rw [ag_4 ⟨h0, by omega⟩ q_k q]; exact DR_fa (DR_nx hD) (by decide)) | (have q : ¬ (C 8 0 + nuV bf (nxX bf tl C) ≤ 40) := fun w => c_92 ((muX_3 (k := 5) (X := nxX bf tl C) (by decide)).mpr ⟨q_y3, by omega⟩); rw [ag_5 ⟨h0, by omega⟩ q_k (by unfold bI at q_63; split at q_63 <;> omega) q]; exact DR_fa (DR_nx hD) (by decide)))⟩ hw dX7_againLine_95
            · refine q_iconst hx hb dX7_againLine_83 ?_
              refine lv_goto (tgt := 88) hx hb dX7_againLine_84 (by decide) ?_
              refine q_iconst hx hb dX7_againLine_88 ?_
              refine q_callM (As := [.int (iI 1), .int (iI 5)]) (rest := []) (wr := []) hx hb hml hown hts hK (c_X7_must (C := (nxX bf tl C)) (1) (5) (by exact h_Y3) (by first | omega | assumption) (by first | omega | assumption)) yi_X7_must ml_X7_97 (by rw [hR]; decide) hw hA [0, 1, 2, 3, 4, 5, 6, 7, 8, 9] [] rfl rfl (by decide) (by decide) (by decide) 0 rfl rfl rfl rfl hl.1 (lv_room (Nat.le_of_ble_eq_true rfl)) dX7_againLine_89 ⟨by rw [hR]; exact Nat.zero_le _, by rw [hR]; exact Nat.zero_le _⟩ (fun u_89 H locs hu_89 hw => ?_)
              obtain ⟨er2_21, eo2_21⟩ := u_89
              have hu_21_0 : PR bf tl ts2_16 te2_16 tk2_16 nu2_16 er2_21 eo2_21 (muX 1 5 (((nxX bf tl C)))) := hu_89
              have hw : qw D A s.heap (mW g cI cB cZ th len tl ts2_16 te2_16 tk2_16 nu2_16 er2_21 eo2_21 hL hS dp bf dr td sa ad hi sl sv tr) H locs := hw
              have b_19 := ()
              refine q_ifb_ne (tgt := 96) hx hb dX7_againLine_92 (by decide) (fun c_92 => ?_) (fun c_92 => ?_)
              · have q_92 : (nxX bf tl C) 9 3 = 0 ∧ _ := (muX_3 (k := 5) (X := (nxX bf tl C)) (by decide)).mp c_92
                have h_Y4 := PR_muy hu_21_0 q_92
                have q_r : 1 ≤ nuV bf (nxX bf tl C) ∧ nuV bf (nxX bf tl C) ≤ 39 := by unfold bI at q_63; split at q_63 <;> omega
                refine q_bipush hx hb dX7_againLine_96 rfl ?_
                refine q_bipush hx hb dX7_againLine_98 rfl ?_
                refine lv_aload_n hx hb dX7_againLine_100 rfl (lv_at hl 0 rfl) ?_
                refine q_get hx hb hts hown hK hw.1 ci_X7 0 rfl 10 (by decide) fl_X7_13 rfl dX7_againLine_101 ?_
                refine q_iconst hx hb dX7_againLine_104 ?_
                refine q_iald hx hb hK hw.1 2 0 rfl rfl (z := 2) (v := (C 8 0)) (by omega) (by exact q_2.2.2.1) dX7_againLine_105 ?_
                refine q_iconst hx hb dX7_againLine_106 ?_
                refine q_isub hx hb dX7_againLine_107 ?_
                refine q_imul hx hb dX7_againLine_108 ?_
                refine q_iadd hx hb dX7_againLine_109 ?_
                refine lv_istore_n (lv' := [(1, .int (iI (8 + 7 * (C 8 0 - 1)))), (0, .ref (g 0))]) hx hb dX7_againLine_110 rfl hl (by decide) rfl (fun ls hl => ?_)
                refine q_iconst hx hb dX7_againLine_111 ?_
                refine lv_istore_n (lv' := [(2, .int (iI 1)), (1, .int (iI (8 + 7 * (C 8 0 - 1)))), (0, .ref (g 0))]) hx hb dX7_againLine_112 rfl hl (by decide) rfl (fun ls hl => ?_)
                have loop_113 : ∀ (fu : Nat) (y : Int → Int) (k : Int) (H : Heap) (locs : List Loc) (ls : Array Slot), (40 - k).toNat = fu → (y = agF dr (C 8 0) (7 * (k - 1))) → (1 ≤ k ∧ k ≤ nuV bf (nxX bf tl C) + 1) → qw D A s.heap (mW g cI cB cZ th len tl ts2_16 te2_16 tk2_16 nu2_16 er2_21 eo2_21 hL hS dp bf y td sa ad hi sl sv tr) H locs → lv_has ls 4 [(0, .ref (g 0)), (1, .int (iI (8 + 7 * (C 8 0 - 1)))), (2, .int (iI k))] → W p l e R s m args below meth c H locs 0 0 Q (F0 m 113 ls []) := by
                  intro fu
                  induction fu using Nat.strongRecOn with
                  | ind fu ih_113 =>
                  intro y k H locs ls hn_113 h_y h_k hw hl
                  refine lv_iload_n hx hb dX7_againLine_113 rfl (lv_at hl 2 rfl) ?_
                  refine lv_aload_n hx hb dX7_againLine_114 rfl (lv_at hl 0 rfl) ?_
                  refine q_get hx hb hts hown hK hw.1 ci_X7 0 rfl 7 (by decide) fl_X7_76 rfl dX7_againLine_115 ?_
                  refine q_icmp_gt (tgt := 162) hx hb dX7_againLine_118 (by decide) (by omega) (fun c_118 => ?_) (fun c_118 => ?_)
                  · refine lv_aload_n hx hb dX7_againLine_162 rfl (lv_at hl 0 rfl) ?_
                    refine q_get hx hb hts hown hK hw.1 ci_X7 0 rfl 10 (by decide) fl_X7_13 rfl dX7_againLine_163 ?_
                    refine q_iconst hx hb dX7_againLine_166 ?_
                    refine lv_dup2_11 hx hb dX7_againLine_167 rfl rfl ?_
                    refine q_iald hx hb hK hw.1 2 0 rfl rfl (z := 2) (v := (C 8 0)) (by omega) (by rw [h_y, agF_o (by omega)]; exact q_2.2.2.1) dX7_againLine_168 ?_
                    refine lv_aload_n hx hb dX7_againLine_169 rfl (lv_at hl 0 rfl) ?_
                    refine q_get hx hb hts hown hK hw.1 ci_X7 0 rfl 7 (by decide) fl_X7_76 rfl dX7_againLine_170 ?_
                    refine q_iadd hx hb dX7_againLine_173 ?_
                    refine q_iast hx hb hK hw 2 0 rfl rfl (by omega) dX7_againLine_174 (fun H locs hw => ?_)
                    have hw : qw D A s.heap (mW g cI cB cZ th len tl ts2_16 te2_16 tk2_16 nu2_16 er2_21 eo2_21 hL hS dp bf (uI y 2 (C 8 0 + nu2_16)) td sa ad hi sl sv tr) H locs := hw
                    obtain ⟨f_11, e_f_11⟩ : ∃ z, z = uI y 2 (C 8 0 + nu2_16) := ⟨_, rfl⟩
                    have hw : qw D A s.heap (mW g cI cB cZ th len tl ts2_16 te2_16 tk2_16 nu2_16 er2_21 eo2_21 hL hS dp bf f_11 td sa ad hi sl sv tr) H locs := by rw [e_f_11]; exact hw
                    have h_Y5 := PR_rep (t := nuV bf (nxX bf tl C)) h_Y4
                    refine lv_aload_n hx hb dX7_againLine_175 rfl (lv_at hl 0 rfl) ?_
                    refine q_callM (As := []) (rest := []) (wr := []) hx hb hml hown hts hK (c_X7_goOn (C := (repX (nxX bf tl C) (nuV bf (nxX bf tl C)))) (by first | omega | assumption) (by first | omega | assumption) (by exact h_Y5)) yi_X7_goOn ml_X7_101 (by rw [hR]; decide) hw hA [0, 1, 2, 3, 4, 5, 6, 7, 8, 9] [] rfl rfl (by decide) (by decide) (by decide) 0 rfl rfl rfl rfl hl.1 (lv_room (Nat.le_of_ble_eq_true rfl)) dX7_againLine_176 ⟨by rw [hR]; exact Nat.zero_le _, by rw [hR]; exact Nat.zero_le _⟩ (fun u_176 H locs hu_176 hw => ?_)
                    obtain ⟨ts2_22, te2_22, tk2_22, nu2_22⟩ := u_176
                    have hu_22_0 : PR bf tl ts2_22 te2_22 tk2_22 nu2_22 er2_21 eo2_21 (goX bf tl (((repX (nxX bf tl C) (nuV bf (nxX bf tl C)))))) := hu_176
                    have hw : qw D A s.heap (mW g cI cB cZ th len tl ts2_22 te2_22 tk2_22 nu2_22 er2_21 eo2_21 hL hS dp bf f_11 td sa ad hi sl sv tr) H locs := hw
                    have b_20 := ()
                    exact hret (ts2_22, te2_22, tk2_22, nu2_22, er2_21, eo2_21, f_11) H locs 179 ls ⟨(by (rw [ag_y ⟨h0, by omega⟩ q_k q_r (by omega)]; exact PR_gon hu_22_0 q_y3)), (by (rw [ag_y ⟨h0, by omega⟩ q_k q_r (by omega), e_f_11, h_y, show k - 1 = nuV bf (nxX bf tl C) by omega, show (C 8 0 + nu2_16) = C 8 0 + nuV bf (nxX bf tl C) by omega]; exact DR_nx (DR_rep (DR_nx hD) q_y3 (show 0 < C 8 0 by omega) q_r.1 (show C 8 0 + nuV bf (nxX bf tl C) ≤ 40 by omega))))⟩ hw dX7_againLine_179
                  · refine q_iconst hx hb dX7_againLine_121 ?_
                    refine lv_istore_n (lv' := [(3, .int (iI 0)), (0, .ref (g 0)), (1, .int (iI (8 + 7 * (C 8 0 - 1)))), (2, .int (iI k))]) hx hb dX7_againLine_122 rfl hl (by decide) rfl (fun ls hl => ?_)
                    have loop_123 : ∀ (fu : Nat) (yy : Int → Int) (i : Int) (H : Heap) (locs : List Loc) (ls : Array Slot), (7 - i).toNat = fu → (yy = agF dr (C 8 0) (7 * (k - 1) + i)) → (0 ≤ i ∧ i ≤ 7) → qw D A s.heap (mW g cI cB cZ th len tl ts2_16 te2_16 tk2_16 nu2_16 er2_21 eo2_21 hL hS dp bf yy td sa ad hi sl sv tr) H locs → lv_has ls 4 [(0, .ref (g 0)), (1, .int (iI (8 + 7 * (C 8 0 - 1)))), (2, .int (iI k)), (3, .int (iI i))] → W p l e R s m args below meth c H locs 0 0 Q (F0 m 123 ls []) := by
                      intro fu
                      induction fu using Nat.strongRecOn with
                      | ind fu ih_123 =>
                      intro yy i H locs ls hn_123 h_z h_i hw hl
                      refine lv_iload_n hx hb dX7_againLine_123 rfl (lv_at hl 3 rfl) ?_
                      refine q_bipush hx hb dX7_againLine_124 rfl ?_
                      refine q_icmp_ge (tgt := 156) hx hb dX7_againLine_126 (by decide) (by omega) (fun c_126 => ?_) (fun c_126 => ?_)
                      · refine lv_iinc (v := iI (k + 1)) (lv' := [(2, .int (iI (k + 1))), (0, .ref (g 0)), (1, .int (iI (8 + 7 * (C 8 0 - 1)))), (3, .int (iI i))]) hx hb dX7_againLine_156 hl (k := 2) rfl (iI_add _ _) (by decide) rfl (fun ls hl => ?_)
                        refine lv_goto (tgt := 113) hx hb dX7_againLine_159 (by decide) ?_
                        exact ih_113 _ (by omega) (yy) (k + 1) H locs ls rfl (by rw [h_z, show i = 7 by omega]; congr 1; omega) (by first | omega | assumption | rfl) hw (lv_sub hl [1, 2, 0] rfl)
                      · refine lv_aload_n hx hb dX7_againLine_129 rfl (lv_at hl 0 rfl) ?_
                        refine q_get hx hb hts hown hK hw.1 ci_X7 0 rfl 10 (by decide) fl_X7_13 rfl dX7_againLine_130 ?_
                        refine lv_iload_n hx hb dX7_againLine_133 rfl (lv_at hl 1 rfl) ?_
                        refine q_bipush hx hb dX7_againLine_134 rfl ?_
                        refine lv_iload_n hx hb dX7_againLine_136 rfl (lv_at hl 2 rfl) ?_
                        refine q_imul hx hb dX7_againLine_137 ?_
                        refine q_iadd hx hb dX7_againLine_138 ?_
                        refine lv_iload_n hx hb dX7_againLine_139 rfl (lv_at hl 3 rfl) ?_
                        refine q_iadd hx hb dX7_againLine_140 ?_
                        refine lv_aload_n hx hb dX7_againLine_141 rfl (lv_at hl 0 rfl) ?_
                        refine q_get hx hb hts hown hK hw.1 ci_X7 0 rfl 10 (by decide) fl_X7_13 rfl dX7_againLine_142 ?_
                        refine lv_iload_n hx hb dX7_againLine_145 rfl (lv_at hl 1 rfl) ?_
                        refine lv_iload_n hx hb dX7_againLine_146 rfl (lv_at hl 3 rfl) ?_
                        refine q_iadd hx hb dX7_againLine_147 ?_
                        refine q_iald hx hb hK hw.1 2 0 rfl rfl (z := (8 + 7 * (C 8 0 - 1) + i)) (v := (dr (8 + 7 * (C 8 0 - 1) + i))) (by omega) (by rw [h_z]; exact agF_o (by omega)) dX7_againLine_148 ?_
                        refine q_iast hx hb hK hw 2 0 rfl rfl (by omega) dX7_againLine_149 (fun H locs hw => ?_)
                        have hw : qw D A s.heap (mW g cI cB cZ th len tl ts2_16 te2_16 tk2_16 nu2_16 er2_21 eo2_21 hL hS dp bf (uI yy (8 + 7 * (C 8 0 - 1) + 7 * k + i) (dr (8 + 7 * (C 8 0 - 1) + i))) td sa ad hi sl sv tr) H locs := hw
                        obtain ⟨f_12, e_f_12⟩ : ∃ z, z = uI yy (8 + 7 * (C 8 0 - 1) + 7 * k + i) (dr (8 + 7 * (C 8 0 - 1) + i)) := ⟨_, rfl⟩
                        have hw : qw D A s.heap (mW g cI cB cZ th len tl ts2_16 te2_16 tk2_16 nu2_16 er2_21 eo2_21 hL hS dp bf f_12 td sa ad hi sl sv tr) H locs := by rw [e_f_12]; exact hw
                        refine lv_iinc (v := iI (i + 1)) (lv' := [(3, .int (iI (i + 1))), (0, .ref (g 0)), (1, .int (iI (8 + 7 * (C 8 0 - 1)))), (2, .int (iI k))]) hx hb dX7_againLine_150 hl (k := 3) rfl (iI_add _ _) (by decide) rfl (fun ls hl => ?_)
                        refine lv_goto (tgt := 123) hx hb dX7_againLine_153 (by decide) ?_
                        exact ih_123 _ (by omega) (f_12) (i + 1) H locs ls rfl (by rw [e_f_12, h_z, show 7 * (k - 1) + (i + 1) = 7 * (k - 1) + i + 1 by omega]; exact agF_s (k := k) (i := i) rfl h_k.1 (by omega) (by omega) rfl) (by first | omega | assumption | rfl) hw (lv_sub hl [1, 2, 3, 0] rfl)
                    exact loop_123 _ (y) (0) H locs ls rfl (by rw [h_y, Int.add_zero]) (by first | omega | assumption | rfl) hw (lv_sub hl [1, 2, 3, 0] rfl)
                exact loop_113 _ (dr) (1) H locs ls rfl (by exact (agF_0 _ _ (by omega)).symm) (by first | omega | assumption | rfl) hw (lv_sub hl [2, 1, 0] rfl)
              · exact hret (ts2_16, te2_16, tk2_16, nu2_16, er2_21, eo2_21, dr) H locs 95 ls ⟨(by first | (have q : ¬ (nxX bf tl C) 9 2 = 2 := fun w => c_45 ((muX_3 (k := 1) (X := nxX bf tl C) (by decide)).mpr ⟨q_y3, by omega⟩); rw [ag_1 ⟨h0, by omega⟩ q]; exact PR_muf hu_21_0 (by omega)) | (have q : ¬ (1 ≤ nuV bf (nxX bf tl C) ∧ nuV bf (nxX bf tl C) ≤ 39) := fun w => c_63 ((muX_3 (k := 4) (X := nxX bf tl C) (by decide)).mpr ⟨q_y3, bI_t (by omega)⟩); rw [ag_4 ⟨h0, by omega⟩ q_k q]; exact PR_muf hu_21_0 (by unfold bI; split <;> omega)) | (have q : ¬ (C 8 0 + nuV bf (nxX bf tl C) ≤ 40) := fun w => c_92 ((muX_3 (k := 5) (X := nxX bf tl C) (by decide)).mpr ⟨q_y3, by omega⟩); rw [ag_5 ⟨h0, by omega⟩ q_k (by unfold bI at q_63; split at q_63 <;> omega) q]; exact PR_muf hu_21_0 (by omega))), (by first | (have q : ¬ (nxX bf tl C) 9 2 = 2 := fun w => c_45 ((muX_3 (k := 1) (X := nxX bf tl C) (by decide)).mpr ⟨q_y3, by omega⟩); rw [ag_1 ⟨h0, by omega⟩ q]; exact DR_fa (DR_nx hD) (by decide)) | (have q : ¬ (1 ≤ nuV bf (nxX bf tl C) ∧ nuV bf (nxX bf tl C) ≤ 39) := fun w => c_63 ((muX_3 (k := 4) (X := nxX bf tl C) (by decide)).mpr ⟨q_y3, bI_t (by omega)⟩); rw [ag_4 ⟨h0, by omega⟩ q_k q]; exact DR_fa (DR_nx hD) (by decide)) | (have q : ¬ (C 8 0 + nuV bf (nxX bf tl C) ≤ 40) := fun w => c_92 ((muX_3 (k := 5) (X := nxX bf tl C) (by decide)).mpr ⟨q_y3, by omega⟩); rw [ag_5 ⟨h0, by omega⟩ q_k (by unfold bI at q_63; split at q_63 <;> omega) q]; exact DR_fa (DR_nx hD) (by decide)))⟩ hw dX7_againLine_95
      · refine q_iconst hx hb dX7_againLine_36 ?_
        refine lv_goto (tgt := 41) hx hb dX7_againLine_37 (by decide) ?_
        refine q_iconst hx hb dX7_againLine_41 ?_
        refine q_callM (As := [.int (iI 1), .int (iI 1)]) (rest := []) (wr := []) hx hb hml hown hts hK (c_X7_must (C := (nxX bf tl C)) (1) (1) (by exact h_Y) (by first | omega | assumption) (by first | omega | assumption)) yi_X7_must ml_X7_97 (by rw [hR]; decide) hw hA [0, 1, 2, 3, 4, 5, 6, 7, 8, 9] [] rfl rfl (by decide) (by decide) (by decide) 0 rfl rfl rfl rfl hl.1 (lv_room (Nat.le_of_ble_eq_true rfl)) dX7_againLine_42 ⟨by rw [hR]; exact Nat.zero_le _, by rw [hR]; exact Nat.zero_le _⟩ (fun u_42 H locs hu_42 hw => ?_)
        obtain ⟨er2_23, eo2_23⟩ := u_42
        have hu_23_0 : PR bf tl ts2_16 te2_16 tk2_16 nu2_16 er2_23 eo2_23 (muX 1 1 (((nxX bf tl C)))) := hu_42
        have hw : qw D A s.heap (mW g cI cB cZ th len tl ts2_16 te2_16 tk2_16 nu2_16 er2_23 eo2_23 hL hS dp bf dr td sa ad hi sl sv tr) H locs := hw
        have b_21 := ()
        refine q_ifb_eq (tgt := 95) hx hb dX7_againLine_45 (by decide) (fun c_45 => ?_) (fun c_45 => ?_)
        · exact hret (ts2_16, te2_16, tk2_16, nu2_16, er2_23, eo2_23, dr) H locs 95 ls ⟨(by first | (have q : ¬ (nxX bf tl C) 9 2 = 2 := fun w => c_45 ((muX_3 (k := 1) (X := nxX bf tl C) (by decide)).mpr ⟨q_y3, by omega⟩); rw [ag_1 ⟨h0, by omega⟩ q]; exact PR_muf hu_23_0 (by omega)) | (have q : ¬ (1 ≤ nuV bf (nxX bf tl C) ∧ nuV bf (nxX bf tl C) ≤ 39) := fun w => c_63 ((muX_3 (k := 4) (X := nxX bf tl C) (by decide)).mpr ⟨q_y3, bI_t (by omega)⟩); rw [ag_4 ⟨h0, by omega⟩ q_k q]; exact PR_muf hu_23_0 (by unfold bI; split <;> omega)) | (have q : ¬ (C 8 0 + nuV bf (nxX bf tl C) ≤ 40) := fun w => c_92 ((muX_3 (k := 5) (X := nxX bf tl C) (by decide)).mpr ⟨q_y3, by omega⟩); rw [ag_5 ⟨h0, by omega⟩ q_k (by unfold bI at q_63; split at q_63 <;> omega) q]; exact PR_muf hu_23_0 (by omega))), (by first | (have q : ¬ (nxX bf tl C) 9 2 = 2 := fun w => c_45 ((muX_3 (k := 1) (X := nxX bf tl C) (by decide)).mpr ⟨q_y3, by omega⟩); rw [ag_1 ⟨h0, by omega⟩ q]; exact DR_fa (DR_nx hD) (by decide)) | (have q : ¬ (1 ≤ nuV bf (nxX bf tl C) ∧ nuV bf (nxX bf tl C) ≤ 39) := fun w => c_63 ((muX_3 (k := 4) (X := nxX bf tl C) (by decide)).mpr ⟨q_y3, bI_t (by omega)⟩); rw [ag_4 ⟨h0, by omega⟩ q_k q]; exact DR_fa (DR_nx hD) (by decide)) | (have q : ¬ (C 8 0 + nuV bf (nxX bf tl C) ≤ 40) := fun w => c_92 ((muX_3 (k := 5) (X := nxX bf tl C) (by decide)).mpr ⟨q_y3, by omega⟩); rw [ag_5 ⟨h0, by omega⟩ q_k (by unfold bI at q_63; split at q_63 <;> omega) q]; exact DR_fa (DR_nx hD) (by decide)))⟩ hw dX7_againLine_95
        · have q_45 : (nxX bf tl C) 9 3 = 0 ∧ _ := (muX_3 (k := 1) (X := (nxX bf tl C)) (by decide)).mp c_45
          have h_Y2 := PR_muy hu_23_0 q_45
          have q_k : (nxX bf tl C) 9 2 = 2 := by omega
          have q_n := q_10.2.2.2 q_k
          refine lv_aload_n hx hb dX7_againLine_48 rfl (lv_at hl 0 rfl) ?_
          refine lv_aload_n hx hb dX7_againLine_49 rfl (lv_at hl 0 rfl) ?_
          refine q_get hx hb hts hown hK hw.1 ci_X7 0 rfl 7 (by decide) fl_X7_76 rfl dX7_againLine_50 ?_
          refine q_iconst hx hb dX7_againLine_53 ?_
          refine q_bipush hx hb dX7_againLine_54 rfl ?_
          refine q_callPS (As := [.int (iI nu2_16), .int (iI 1), .int (iI 39)]) (rest := [.ref (g 0)]) hx hb hml hown hts hK (c_X7_within (nu2_16) (1) (39) (by first | omega | assumption) (by first | omega | assumption) (by first | omega | assumption)) yt_X7_within ml_X7_72 (by rw [hR]; decide) (show va_P D vwCl [] _ from fun k q h => by simp at h)  rfl rfl hl.1 (lv_room (Nat.le_of_ble_eq_true rfl)) dX7_againLine_56 ⟨by rw [hR]; exact Nat.zero_le _, by rw [hR]; exact Nat.zero_le _⟩ ?_
          refine q_iconst hx hb dX7_againLine_59 ?_
          refine q_callM (As := [.int (iI (bI (1 ≤ nu2_16 ∧ nu2_16 ≤ 39))), .int (iI 4)]) (rest := []) (wr := []) hx hb hml hown hts hK (c_X7_must (C := (nxX bf tl C)) (bI (1 ≤ nu2_16 ∧ nu2_16 ≤ 39)) (4) (by exact h_Y2) (by unfold bI; split <;> omega) (by first | omega | assumption)) yi_X7_must ml_X7_97 (by rw [hR]; decide) hw hA [0, 1, 2, 3, 4, 5, 6, 7, 8, 9] [] rfl rfl (by decide) (by decide) (by decide) 0 rfl rfl rfl rfl hl.1 (lv_room (Nat.le_of_ble_eq_true rfl)) dX7_againLine_60 ⟨by rw [hR]; exact Nat.zero_le _, by rw [hR]; exact Nat.zero_le _⟩ (fun u_60 H locs hu_60 hw => ?_)
          obtain ⟨er2_24, eo2_24⟩ := u_60
          have hu_24_0 : PR bf tl ts2_16 te2_16 tk2_16 nu2_16 er2_24 eo2_24 (muX (bI (1 ≤ nu2_16 ∧ nu2_16 ≤ 39)) 4 (((nxX bf tl C)))) := hu_60
          have hw : qw D A s.heap (mW g cI cB cZ th len tl ts2_16 te2_16 tk2_16 nu2_16 er2_24 eo2_24 hL hS dp bf dr td sa ad hi sl sv tr) H locs := hw
          have b_22 := ()
          refine q_ifb_eq (tgt := 95) hx hb dX7_againLine_63 (by decide) (fun c_63 => ?_) (fun c_63 => ?_)
          · exact hret (ts2_16, te2_16, tk2_16, nu2_16, er2_24, eo2_24, dr) H locs 95 ls ⟨(by first | (have q : ¬ (nxX bf tl C) 9 2 = 2 := fun w => c_45 ((muX_3 (k := 1) (X := nxX bf tl C) (by decide)).mpr ⟨q_y3, by omega⟩); rw [ag_1 ⟨h0, by omega⟩ q]; exact PR_muf hu_24_0 (by omega)) | (have q : ¬ (1 ≤ nuV bf (nxX bf tl C) ∧ nuV bf (nxX bf tl C) ≤ 39) := fun w => c_63 ((muX_3 (k := 4) (X := nxX bf tl C) (by decide)).mpr ⟨q_y3, bI_t (by omega)⟩); rw [ag_4 ⟨h0, by omega⟩ q_k q]; exact PR_muf hu_24_0 (by unfold bI; split <;> omega)) | (have q : ¬ (C 8 0 + nuV bf (nxX bf tl C) ≤ 40) := fun w => c_92 ((muX_3 (k := 5) (X := nxX bf tl C) (by decide)).mpr ⟨q_y3, by omega⟩); rw [ag_5 ⟨h0, by omega⟩ q_k (by unfold bI at q_63; split at q_63 <;> omega) q]; exact PR_muf hu_24_0 (by omega))), (by first | (have q : ¬ (nxX bf tl C) 9 2 = 2 := fun w => c_45 ((muX_3 (k := 1) (X := nxX bf tl C) (by decide)).mpr ⟨q_y3, by omega⟩); rw [ag_1 ⟨h0, by omega⟩ q]; exact DR_fa (DR_nx hD) (by decide)) | (have q : ¬ (1 ≤ nuV bf (nxX bf tl C) ∧ nuV bf (nxX bf tl C) ≤ 39) := fun w => c_63 ((muX_3 (k := 4) (X := nxX bf tl C) (by decide)).mpr ⟨q_y3, bI_t (by omega)⟩); rw [ag_4 ⟨h0, by omega⟩ q_k q]; exact DR_fa (DR_nx hD) (by decide)) | (have q : ¬ (C 8 0 + nuV bf (nxX bf tl C) ≤ 40) := fun w => c_92 ((muX_3 (k := 5) (X := nxX bf tl C) (by decide)).mpr ⟨q_y3, by omega⟩); rw [ag_5 ⟨h0, by omega⟩ q_k (by unfold bI at q_63; split at q_63 <;> omega) q]; exact DR_fa (DR_nx hD) (by decide)))⟩ hw dX7_againLine_95
          · have q_63 : (nxX bf tl C) 9 3 = 0 ∧ _ := (muX_3 (k := 4) (X := (nxX bf tl C)) (by decide)).mp c_63
            have h_Y3 := PR_muy hu_24_0 q_63
            refine lv_aload_n hx hb dX7_againLine_66 rfl (lv_at hl 0 rfl) ?_
            refine lv_aload_n hx hb dX7_againLine_67 rfl (lv_at hl 0 rfl) ?_
            refine q_get hx hb hts hown hK hw.1 ci_X7 0 rfl 10 (by decide) fl_X7_13 rfl dX7_againLine_68 ?_
            refine q_iconst hx hb dX7_againLine_71 ?_
            refine q_iald hx hb hK hw.1 2 0 rfl rfl (z := 2) (v := (C 8 0)) (by omega) (by exact q_2.2.2.1) dX7_againLine_72 ?_
            refine lv_aload_n hx hb dX7_againLine_73 rfl (lv_at hl 0 rfl) ?_
            refine q_get hx hb hts hown hK hw.1 ci_X7 0 rfl 7 (by decide) fl_X7_76 rfl dX7_againLine_74 ?_
            refine q_iadd hx hb dX7_againLine_77 ?_
            refine q_bipush hx hb dX7_againLine_78 rfl ?_
            refine q_icmp_gt (tgt := 87) hx hb dX7_againLine_80 (by decide) (by omega) (fun c_80 => ?_) (fun c_80 => ?_)
            · refine q_iconst hx hb dX7_againLine_87 ?_
              refine q_iconst hx hb dX7_againLine_88 ?_
              refine q_callM (As := [.int (iI 0), .int (iI 5)]) (rest := []) (wr := []) hx hb hml hown hts hK (c_X7_must (C := (nxX bf tl C)) (0) (5) (by exact h_Y3) (by first | omega | assumption) (by first | omega | assumption)) yi_X7_must ml_X7_97 (by rw [hR]; decide) hw hA [0, 1, 2, 3, 4, 5, 6, 7, 8, 9] [] rfl rfl (by decide) (by decide) (by decide) 0 rfl rfl rfl rfl hl.1 (lv_room (Nat.le_of_ble_eq_true rfl)) dX7_againLine_89 ⟨by rw [hR]; exact Nat.zero_le _, by rw [hR]; exact Nat.zero_le _⟩ (fun u_89 H locs hu_89 hw => ?_)
              obtain ⟨er2_25, eo2_25⟩ := u_89
              have hu_25_0 : PR bf tl ts2_16 te2_16 tk2_16 nu2_16 er2_25 eo2_25 (muX 0 5 (((nxX bf tl C)))) := hu_89
              have hw : qw D A s.heap (mW g cI cB cZ th len tl ts2_16 te2_16 tk2_16 nu2_16 er2_25 eo2_25 hL hS dp bf dr td sa ad hi sl sv tr) H locs := hw
              have b_23 := ()
              refine q_ifb_ne (tgt := 96) hx hb dX7_againLine_92 (by decide) (fun c_92 => ?_) (fun c_92 => ?_)
              · have q_92 : (nxX bf tl C) 9 3 = 0 ∧ _ := (muX_3 (k := 5) (X := (nxX bf tl C)) (by decide)).mp c_92
                have h_Y4 := PR_muy hu_25_0 q_92
                have q_r : 1 ≤ nuV bf (nxX bf tl C) ∧ nuV bf (nxX bf tl C) ≤ 39 := by unfold bI at q_63; split at q_63 <;> omega
                refine q_bipush hx hb dX7_againLine_96 rfl ?_
                refine q_bipush hx hb dX7_againLine_98 rfl ?_
                refine lv_aload_n hx hb dX7_againLine_100 rfl (lv_at hl 0 rfl) ?_
                refine q_get hx hb hts hown hK hw.1 ci_X7 0 rfl 10 (by decide) fl_X7_13 rfl dX7_againLine_101 ?_
                refine q_iconst hx hb dX7_againLine_104 ?_
                refine q_iald hx hb hK hw.1 2 0 rfl rfl (z := 2) (v := (C 8 0)) (by omega) (by exact q_2.2.2.1) dX7_againLine_105 ?_
                refine q_iconst hx hb dX7_againLine_106 ?_
                refine q_isub hx hb dX7_againLine_107 ?_
                refine q_imul hx hb dX7_againLine_108 ?_
                refine q_iadd hx hb dX7_againLine_109 ?_
                refine lv_istore_n (lv' := [(1, .int (iI (8 + 7 * (C 8 0 - 1)))), (0, .ref (g 0))]) hx hb dX7_againLine_110 rfl hl (by decide) rfl (fun ls hl => ?_)
                refine q_iconst hx hb dX7_againLine_111 ?_
                refine lv_istore_n (lv' := [(2, .int (iI 1)), (1, .int (iI (8 + 7 * (C 8 0 - 1)))), (0, .ref (g 0))]) hx hb dX7_againLine_112 rfl hl (by decide) rfl (fun ls hl => ?_)
                have loop_113 : ∀ (fu : Nat) (y : Int → Int) (k : Int) (H : Heap) (locs : List Loc) (ls : Array Slot), (40 - k).toNat = fu → (y = agF dr (C 8 0) (7 * (k - 1))) → (1 ≤ k ∧ k ≤ nuV bf (nxX bf tl C) + 1) → qw D A s.heap (mW g cI cB cZ th len tl ts2_16 te2_16 tk2_16 nu2_16 er2_25 eo2_25 hL hS dp bf y td sa ad hi sl sv tr) H locs → lv_has ls 4 [(0, .ref (g 0)), (1, .int (iI (8 + 7 * (C 8 0 - 1)))), (2, .int (iI k))] → W p l e R s m args below meth c H locs 0 0 Q (F0 m 113 ls []) := by
                  intro fu
                  induction fu using Nat.strongRecOn with
                  | ind fu ih_113 =>
                  intro y k H locs ls hn_113 h_y h_k hw hl
                  refine lv_iload_n hx hb dX7_againLine_113 rfl (lv_at hl 2 rfl) ?_
                  refine lv_aload_n hx hb dX7_againLine_114 rfl (lv_at hl 0 rfl) ?_
                  refine q_get hx hb hts hown hK hw.1 ci_X7 0 rfl 7 (by decide) fl_X7_76 rfl dX7_againLine_115 ?_
                  refine q_icmp_gt (tgt := 162) hx hb dX7_againLine_118 (by decide) (by omega) (fun c_118 => ?_) (fun c_118 => ?_)
                  · refine lv_aload_n hx hb dX7_againLine_162 rfl (lv_at hl 0 rfl) ?_
                    refine q_get hx hb hts hown hK hw.1 ci_X7 0 rfl 10 (by decide) fl_X7_13 rfl dX7_againLine_163 ?_
                    refine q_iconst hx hb dX7_againLine_166 ?_
                    refine lv_dup2_11 hx hb dX7_againLine_167 rfl rfl ?_
                    refine q_iald hx hb hK hw.1 2 0 rfl rfl (z := 2) (v := (C 8 0)) (by omega) (by rw [h_y, agF_o (by omega)]; exact q_2.2.2.1) dX7_againLine_168 ?_
                    refine lv_aload_n hx hb dX7_againLine_169 rfl (lv_at hl 0 rfl) ?_
                    refine q_get hx hb hts hown hK hw.1 ci_X7 0 rfl 7 (by decide) fl_X7_76 rfl dX7_againLine_170 ?_
                    refine q_iadd hx hb dX7_againLine_173 ?_
                    refine q_iast hx hb hK hw 2 0 rfl rfl (by omega) dX7_againLine_174 (fun H locs hw => ?_)
                    have hw : qw D A s.heap (mW g cI cB cZ th len tl ts2_16 te2_16 tk2_16 nu2_16 er2_25 eo2_25 hL hS dp bf (uI y 2 (C 8 0 + nu2_16)) td sa ad hi sl sv tr) H locs := hw
                    obtain ⟨f_13, e_f_13⟩ : ∃ z, z = uI y 2 (C 8 0 + nu2_16) := ⟨_, rfl⟩
                    have hw : qw D A s.heap (mW g cI cB cZ th len tl ts2_16 te2_16 tk2_16 nu2_16 er2_25 eo2_25 hL hS dp bf f_13 td sa ad hi sl sv tr) H locs := by rw [e_f_13]; exact hw
                    have h_Y5 := PR_rep (t := nuV bf (nxX bf tl C)) h_Y4
                    refine lv_aload_n hx hb dX7_againLine_175 rfl (lv_at hl 0 rfl) ?_
                    refine q_callM (As := []) (rest := []) (wr := []) hx hb hml hown hts hK (c_X7_goOn (C := (repX (nxX bf tl C) (nuV bf (nxX bf tl C)))) (by first | omega | assumption) (by first | omega | assumption) (by exact h_Y5)) yi_X7_goOn ml_X7_101 (by rw [hR]; decide) hw hA [0, 1, 2, 3, 4, 5, 6, 7, 8, 9] [] rfl rfl (by decide) (by decide) (by decide) 0 rfl rfl rfl rfl hl.1 (lv_room (Nat.le_of_ble_eq_true rfl)) dX7_againLine_176 ⟨by rw [hR]; exact Nat.zero_le _, by rw [hR]; exact Nat.zero_le _⟩ (fun u_176 H locs hu_176 hw => ?_)
                    obtain ⟨ts2_26, te2_26, tk2_26, nu2_26⟩ := u_176
                    have hu_26_0 : PR bf tl ts2_26 te2_26 tk2_26 nu2_26 er2_25 eo2_25 (goX bf tl (((repX (nxX bf tl C) (nuV bf (nxX bf tl C)))))) := hu_176
                    have hw : qw D A s.heap (mW g cI cB cZ th len tl ts2_26 te2_26 tk2_26 nu2_26 er2_25 eo2_25 hL hS dp bf f_13 td sa ad hi sl sv tr) H locs := hw
                    have b_24 := ()
                    exact hret (ts2_26, te2_26, tk2_26, nu2_26, er2_25, eo2_25, f_13) H locs 179 ls ⟨(by (rw [ag_y ⟨h0, by omega⟩ q_k q_r (by omega)]; exact PR_gon hu_26_0 q_y3)), (by (rw [ag_y ⟨h0, by omega⟩ q_k q_r (by omega), e_f_13, h_y, show k - 1 = nuV bf (nxX bf tl C) by omega, show (C 8 0 + nu2_16) = C 8 0 + nuV bf (nxX bf tl C) by omega]; exact DR_nx (DR_rep (DR_nx hD) q_y3 (show 0 < C 8 0 by omega) q_r.1 (show C 8 0 + nuV bf (nxX bf tl C) ≤ 40 by omega))))⟩ hw dX7_againLine_179
                  · refine q_iconst hx hb dX7_againLine_121 ?_
                    refine lv_istore_n (lv' := [(3, .int (iI 0)), (0, .ref (g 0)), (1, .int (iI (8 + 7 * (C 8 0 - 1)))), (2, .int (iI k))]) hx hb dX7_againLine_122 rfl hl (by decide) rfl (fun ls hl => ?_)
                    have loop_123 : ∀ (fu : Nat) (yy : Int → Int) (i : Int) (H : Heap) (locs : List Loc) (ls : Array Slot), (7 - i).toNat = fu → (yy = agF dr (C 8 0) (7 * (k - 1) + i)) → (0 ≤ i ∧ i ≤ 7) → qw D A s.heap (mW g cI cB cZ th len tl ts2_16 te2_16 tk2_16 nu2_16 er2_25 eo2_25 hL hS dp bf yy td sa ad hi sl sv tr) H locs → lv_has ls 4 [(0, .ref (g 0)), (1, .int (iI (8 + 7 * (C 8 0 - 1)))), (2, .int (iI k)), (3, .int (iI i))] → W p l e R s m args below meth c H locs 0 0 Q (F0 m 123 ls []) := by
                      intro fu
                      induction fu using Nat.strongRecOn with
                      | ind fu ih_123 =>
                      intro yy i H locs ls hn_123 h_z h_i hw hl
                      refine lv_iload_n hx hb dX7_againLine_123 rfl (lv_at hl 3 rfl) ?_
                      refine q_bipush hx hb dX7_againLine_124 rfl ?_
                      refine q_icmp_ge (tgt := 156) hx hb dX7_againLine_126 (by decide) (by omega) (fun c_126 => ?_) (fun c_126 => ?_)
                      · refine lv_iinc (v := iI (k + 1)) (lv' := [(2, .int (iI (k + 1))), (0, .ref (g 0)), (1, .int (iI (8 + 7 * (C 8 0 - 1)))), (3, .int (iI i))]) hx hb dX7_againLine_156 hl (k := 2) rfl (iI_add _ _) (by decide) rfl (fun ls hl => ?_)
                        refine lv_goto (tgt := 113) hx hb dX7_againLine_159 (by decide) ?_
                        exact ih_113 _ (by omega) (yy) (k + 1) H locs ls rfl (by rw [h_z, show i = 7 by omega]; congr 1; omega) (by first | omega | assumption | rfl) hw (lv_sub hl [1, 2, 0] rfl)
                      · refine lv_aload_n hx hb dX7_againLine_129 rfl (lv_at hl 0 rfl) ?_
                        refine q_get hx hb hts hown hK hw.1 ci_X7 0 rfl 10 (by decide) fl_X7_13 rfl dX7_againLine_130 ?_
                        refine lv_iload_n hx hb dX7_againLine_133 rfl (lv_at hl 1 rfl) ?_
                        refine q_bipush hx hb dX7_againLine_134 rfl ?_
                        refine lv_iload_n hx hb dX7_againLine_136 rfl (lv_at hl 2 rfl) ?_
                        refine q_imul hx hb dX7_againLine_137 ?_
                        refine q_iadd hx hb dX7_againLine_138 ?_
                        refine lv_iload_n hx hb dX7_againLine_139 rfl (lv_at hl 3 rfl) ?_
                        refine q_iadd hx hb dX7_againLine_140 ?_
                        refine lv_aload_n hx hb dX7_againLine_141 rfl (lv_at hl 0 rfl) ?_
                        refine q_get hx hb hts hown hK hw.1 ci_X7 0 rfl 10 (by decide) fl_X7_13 rfl dX7_againLine_142 ?_
                        refine lv_iload_n hx hb dX7_againLine_145 rfl (lv_at hl 1 rfl) ?_
                        refine lv_iload_n hx hb dX7_againLine_146 rfl (lv_at hl 3 rfl) ?_
                        refine q_iadd hx hb dX7_againLine_147 ?_
                        refine q_iald hx hb hK hw.1 2 0 rfl rfl (z := (8 + 7 * (C 8 0 - 1) + i)) (v := (dr (8 + 7 * (C 8 0 - 1) + i))) (by omega) (by rw [h_z]; exact agF_o (by omega)) dX7_againLine_148 ?_
                        refine q_iast hx hb hK hw 2 0 rfl rfl (by omega) dX7_againLine_149 (fun H locs hw => ?_)
                        have hw : qw D A s.heap (mW g cI cB cZ th len tl ts2_16 te2_16 tk2_16 nu2_16 er2_25 eo2_25 hL hS dp bf (uI yy (8 + 7 * (C 8 0 - 1) + 7 * k + i) (dr (8 + 7 * (C 8 0 - 1) + i))) td sa ad hi sl sv tr) H locs := hw
                        obtain ⟨f_14, e_f_14⟩ : ∃ z, z = uI yy (8 + 7 * (C 8 0 - 1) + 7 * k + i) (dr (8 + 7 * (C 8 0 - 1) + i)) := ⟨_, rfl⟩
                        have hw : qw D A s.heap (mW g cI cB cZ th len tl ts2_16 te2_16 tk2_16 nu2_16 er2_25 eo2_25 hL hS dp bf f_14 td sa ad hi sl sv tr) H locs := by rw [e_f_14]; exact hw
                        refine lv_iinc (v := iI (i + 1)) (lv' := [(3, .int (iI (i + 1))), (0, .ref (g 0)), (1, .int (iI (8 + 7 * (C 8 0 - 1)))), (2, .int (iI k))]) hx hb dX7_againLine_150 hl (k := 3) rfl (iI_add _ _) (by decide) rfl (fun ls hl => ?_)
                        refine lv_goto (tgt := 123) hx hb dX7_againLine_153 (by decide) ?_
                        exact ih_123 _ (by omega) (f_14) (i + 1) H locs ls rfl (by rw [e_f_14, h_z, show 7 * (k - 1) + (i + 1) = 7 * (k - 1) + i + 1 by omega]; exact agF_s (k := k) (i := i) rfl h_k.1 (by omega) (by omega) rfl) (by first | omega | assumption | rfl) hw (lv_sub hl [1, 2, 3, 0] rfl)
                    exact loop_123 _ (y) (0) H locs ls rfl (by rw [h_y, Int.add_zero]) (by first | omega | assumption | rfl) hw (lv_sub hl [1, 2, 3, 0] rfl)
                exact loop_113 _ (dr) (1) H locs ls rfl (by exact (agF_0 _ _ (by omega)).symm) (by first | omega | assumption | rfl) hw (lv_sub hl [2, 1, 0] rfl)
              · exact hret (ts2_16, te2_16, tk2_16, nu2_16, er2_25, eo2_25, dr) H locs 95 ls ⟨(by first | (have q : ¬ (nxX bf tl C) 9 2 = 2 := fun w => c_45 ((muX_3 (k := 1) (X := nxX bf tl C) (by decide)).mpr ⟨q_y3, by omega⟩); rw [ag_1 ⟨h0, by omega⟩ q]; exact PR_muf hu_25_0 (by omega)) | (have q : ¬ (1 ≤ nuV bf (nxX bf tl C) ∧ nuV bf (nxX bf tl C) ≤ 39) := fun w => c_63 ((muX_3 (k := 4) (X := nxX bf tl C) (by decide)).mpr ⟨q_y3, bI_t (by omega)⟩); rw [ag_4 ⟨h0, by omega⟩ q_k q]; exact PR_muf hu_25_0 (by unfold bI; split <;> omega)) | (have q : ¬ (C 8 0 + nuV bf (nxX bf tl C) ≤ 40) := fun w => c_92 ((muX_3 (k := 5) (X := nxX bf tl C) (by decide)).mpr ⟨q_y3, by omega⟩); rw [ag_5 ⟨h0, by omega⟩ q_k (by unfold bI at q_63; split at q_63 <;> omega) q]; exact PR_muf hu_25_0 (by omega))), (by first | (have q : ¬ (nxX bf tl C) 9 2 = 2 := fun w => c_45 ((muX_3 (k := 1) (X := nxX bf tl C) (by decide)).mpr ⟨q_y3, by omega⟩); rw [ag_1 ⟨h0, by omega⟩ q]; exact DR_fa (DR_nx hD) (by decide)) | (have q : ¬ (1 ≤ nuV bf (nxX bf tl C) ∧ nuV bf (nxX bf tl C) ≤ 39) := fun w => c_63 ((muX_3 (k := 4) (X := nxX bf tl C) (by decide)).mpr ⟨q_y3, bI_t (by omega)⟩); rw [ag_4 ⟨h0, by omega⟩ q_k q]; exact DR_fa (DR_nx hD) (by decide)) | (have q : ¬ (C 8 0 + nuV bf (nxX bf tl C) ≤ 40) := fun w => c_92 ((muX_3 (k := 5) (X := nxX bf tl C) (by decide)).mpr ⟨q_y3, by omega⟩); rw [ag_5 ⟨h0, by omega⟩ q_k (by unfold bI at q_63; split at q_63 <;> omega) q]; exact DR_fa (DR_nx hD) (by decide)))⟩ hw dX7_againLine_95
            · refine q_iconst hx hb dX7_againLine_83 ?_
              refine lv_goto (tgt := 88) hx hb dX7_againLine_84 (by decide) ?_
              refine q_iconst hx hb dX7_againLine_88 ?_
              refine q_callM (As := [.int (iI 1), .int (iI 5)]) (rest := []) (wr := []) hx hb hml hown hts hK (c_X7_must (C := (nxX bf tl C)) (1) (5) (by exact h_Y3) (by first | omega | assumption) (by first | omega | assumption)) yi_X7_must ml_X7_97 (by rw [hR]; decide) hw hA [0, 1, 2, 3, 4, 5, 6, 7, 8, 9] [] rfl rfl (by decide) (by decide) (by decide) 0 rfl rfl rfl rfl hl.1 (lv_room (Nat.le_of_ble_eq_true rfl)) dX7_againLine_89 ⟨by rw [hR]; exact Nat.zero_le _, by rw [hR]; exact Nat.zero_le _⟩ (fun u_89 H locs hu_89 hw => ?_)
              obtain ⟨er2_27, eo2_27⟩ := u_89
              have hu_27_0 : PR bf tl ts2_16 te2_16 tk2_16 nu2_16 er2_27 eo2_27 (muX 1 5 (((nxX bf tl C)))) := hu_89
              have hw : qw D A s.heap (mW g cI cB cZ th len tl ts2_16 te2_16 tk2_16 nu2_16 er2_27 eo2_27 hL hS dp bf dr td sa ad hi sl sv tr) H locs := hw
              have b_25 := ()
              refine q_ifb_ne (tgt := 96) hx hb dX7_againLine_92 (by decide) (fun c_92 => ?_) (fun c_92 => ?_)
              · have q_92 : (nxX bf tl C) 9 3 = 0 ∧ _ := (muX_3 (k := 5) (X := (nxX bf tl C)) (by decide)).mp c_92
                have h_Y4 := PR_muy hu_27_0 q_92
                have q_r : 1 ≤ nuV bf (nxX bf tl C) ∧ nuV bf (nxX bf tl C) ≤ 39 := by unfold bI at q_63; split at q_63 <;> omega
                refine q_bipush hx hb dX7_againLine_96 rfl ?_
                refine q_bipush hx hb dX7_againLine_98 rfl ?_
                refine lv_aload_n hx hb dX7_againLine_100 rfl (lv_at hl 0 rfl) ?_
                refine q_get hx hb hts hown hK hw.1 ci_X7 0 rfl 10 (by decide) fl_X7_13 rfl dX7_againLine_101 ?_
                refine q_iconst hx hb dX7_againLine_104 ?_
                refine q_iald hx hb hK hw.1 2 0 rfl rfl (z := 2) (v := (C 8 0)) (by omega) (by exact q_2.2.2.1) dX7_againLine_105 ?_
                refine q_iconst hx hb dX7_againLine_106 ?_
                refine q_isub hx hb dX7_againLine_107 ?_
                refine q_imul hx hb dX7_againLine_108 ?_
                refine q_iadd hx hb dX7_againLine_109 ?_
                refine lv_istore_n (lv' := [(1, .int (iI (8 + 7 * (C 8 0 - 1)))), (0, .ref (g 0))]) hx hb dX7_againLine_110 rfl hl (by decide) rfl (fun ls hl => ?_)
                refine q_iconst hx hb dX7_againLine_111 ?_
                refine lv_istore_n (lv' := [(2, .int (iI 1)), (1, .int (iI (8 + 7 * (C 8 0 - 1)))), (0, .ref (g 0))]) hx hb dX7_againLine_112 rfl hl (by decide) rfl (fun ls hl => ?_)
                have loop_113 : ∀ (fu : Nat) (y : Int → Int) (k : Int) (H : Heap) (locs : List Loc) (ls : Array Slot), (40 - k).toNat = fu → (y = agF dr (C 8 0) (7 * (k - 1))) → (1 ≤ k ∧ k ≤ nuV bf (nxX bf tl C) + 1) → qw D A s.heap (mW g cI cB cZ th len tl ts2_16 te2_16 tk2_16 nu2_16 er2_27 eo2_27 hL hS dp bf y td sa ad hi sl sv tr) H locs → lv_has ls 4 [(0, .ref (g 0)), (1, .int (iI (8 + 7 * (C 8 0 - 1)))), (2, .int (iI k))] → W p l e R s m args below meth c H locs 0 0 Q (F0 m 113 ls []) := by
                  intro fu
                  induction fu using Nat.strongRecOn with
                  | ind fu ih_113 =>
                  intro y k H locs ls hn_113 h_y h_k hw hl
                  refine lv_iload_n hx hb dX7_againLine_113 rfl (lv_at hl 2 rfl) ?_
                  refine lv_aload_n hx hb dX7_againLine_114 rfl (lv_at hl 0 rfl) ?_
                  refine q_get hx hb hts hown hK hw.1 ci_X7 0 rfl 7 (by decide) fl_X7_76 rfl dX7_againLine_115 ?_
                  refine q_icmp_gt (tgt := 162) hx hb dX7_againLine_118 (by decide) (by omega) (fun c_118 => ?_) (fun c_118 => ?_)
                  · refine lv_aload_n hx hb dX7_againLine_162 rfl (lv_at hl 0 rfl) ?_
                    refine q_get hx hb hts hown hK hw.1 ci_X7 0 rfl 10 (by decide) fl_X7_13 rfl dX7_againLine_163 ?_
                    refine q_iconst hx hb dX7_againLine_166 ?_
                    refine lv_dup2_11 hx hb dX7_againLine_167 rfl rfl ?_
                    refine q_iald hx hb hK hw.1 2 0 rfl rfl (z := 2) (v := (C 8 0)) (by omega) (by rw [h_y, agF_o (by omega)]; exact q_2.2.2.1) dX7_againLine_168 ?_
                    refine lv_aload_n hx hb dX7_againLine_169 rfl (lv_at hl 0 rfl) ?_
                    refine q_get hx hb hts hown hK hw.1 ci_X7 0 rfl 7 (by decide) fl_X7_76 rfl dX7_againLine_170 ?_
                    refine q_iadd hx hb dX7_againLine_173 ?_
                    refine q_iast hx hb hK hw 2 0 rfl rfl (by omega) dX7_againLine_174 (fun H locs hw => ?_)
                    have hw : qw D A s.heap (mW g cI cB cZ th len tl ts2_16 te2_16 tk2_16 nu2_16 er2_27 eo2_27 hL hS dp bf (uI y 2 (C 8 0 + nu2_16)) td sa ad hi sl sv tr) H locs := hw
                    obtain ⟨f_15, e_f_15⟩ : ∃ z, z = uI y 2 (C 8 0 + nu2_16) := ⟨_, rfl⟩
                    have hw : qw D A s.heap (mW g cI cB cZ th len tl ts2_16 te2_16 tk2_16 nu2_16 er2_27 eo2_27 hL hS dp bf f_15 td sa ad hi sl sv tr) H locs := by rw [e_f_15]; exact hw
                    have h_Y5 := PR_rep (t := nuV bf (nxX bf tl C)) h_Y4
                    refine lv_aload_n hx hb dX7_againLine_175 rfl (lv_at hl 0 rfl) ?_
                    refine q_callM (As := []) (rest := []) (wr := []) hx hb hml hown hts hK (c_X7_goOn (C := (repX (nxX bf tl C) (nuV bf (nxX bf tl C)))) (by first | omega | assumption) (by first | omega | assumption) (by exact h_Y5)) yi_X7_goOn ml_X7_101 (by rw [hR]; decide) hw hA [0, 1, 2, 3, 4, 5, 6, 7, 8, 9] [] rfl rfl (by decide) (by decide) (by decide) 0 rfl rfl rfl rfl hl.1 (lv_room (Nat.le_of_ble_eq_true rfl)) dX7_againLine_176 ⟨by rw [hR]; exact Nat.zero_le _, by rw [hR]; exact Nat.zero_le _⟩ (fun u_176 H locs hu_176 hw => ?_)
                    obtain ⟨ts2_28, te2_28, tk2_28, nu2_28⟩ := u_176
                    have hu_28_0 : PR bf tl ts2_28 te2_28 tk2_28 nu2_28 er2_27 eo2_27 (goX bf tl (((repX (nxX bf tl C) (nuV bf (nxX bf tl C)))))) := hu_176
                    have hw : qw D A s.heap (mW g cI cB cZ th len tl ts2_28 te2_28 tk2_28 nu2_28 er2_27 eo2_27 hL hS dp bf f_15 td sa ad hi sl sv tr) H locs := hw
                    have b_26 := ()
                    exact hret (ts2_28, te2_28, tk2_28, nu2_28, er2_27, eo2_27, f_15) H locs 179 ls ⟨(by (rw [ag_y ⟨h0, by omega⟩ q_k q_r (by omega)]; exact PR_gon hu_28_0 q_y3)), (by (rw [ag_y ⟨h0, by omega⟩ q_k q_r (by omega), e_f_15, h_y, show k - 1 = nuV bf (nxX bf tl C) by omega, show (C 8 0 + nu2_16) = C 8 0 + nuV bf (nxX bf tl C) by omega]; exact DR_nx (DR_rep (DR_nx hD) q_y3 (show 0 < C 8 0 by omega) q_r.1 (show C 8 0 + nuV bf (nxX bf tl C) ≤ 40 by omega))))⟩ hw dX7_againLine_179
                  · refine q_iconst hx hb dX7_againLine_121 ?_
                    refine lv_istore_n (lv' := [(3, .int (iI 0)), (0, .ref (g 0)), (1, .int (iI (8 + 7 * (C 8 0 - 1)))), (2, .int (iI k))]) hx hb dX7_againLine_122 rfl hl (by decide) rfl (fun ls hl => ?_)
                    have loop_123 : ∀ (fu : Nat) (yy : Int → Int) (i : Int) (H : Heap) (locs : List Loc) (ls : Array Slot), (7 - i).toNat = fu → (yy = agF dr (C 8 0) (7 * (k - 1) + i)) → (0 ≤ i ∧ i ≤ 7) → qw D A s.heap (mW g cI cB cZ th len tl ts2_16 te2_16 tk2_16 nu2_16 er2_27 eo2_27 hL hS dp bf yy td sa ad hi sl sv tr) H locs → lv_has ls 4 [(0, .ref (g 0)), (1, .int (iI (8 + 7 * (C 8 0 - 1)))), (2, .int (iI k)), (3, .int (iI i))] → W p l e R s m args below meth c H locs 0 0 Q (F0 m 123 ls []) := by
                      intro fu
                      induction fu using Nat.strongRecOn with
                      | ind fu ih_123 =>
                      intro yy i H locs ls hn_123 h_z h_i hw hl
                      refine lv_iload_n hx hb dX7_againLine_123 rfl (lv_at hl 3 rfl) ?_
                      refine q_bipush hx hb dX7_againLine_124 rfl ?_
                      refine q_icmp_ge (tgt := 156) hx hb dX7_againLine_126 (by decide) (by omega) (fun c_126 => ?_) (fun c_126 => ?_)
                      · refine lv_iinc (v := iI (k + 1)) (lv' := [(2, .int (iI (k + 1))), (0, .ref (g 0)), (1, .int (iI (8 + 7 * (C 8 0 - 1)))), (3, .int (iI i))]) hx hb dX7_againLine_156 hl (k := 2) rfl (iI_add _ _) (by decide) rfl (fun ls hl => ?_)
                        refine lv_goto (tgt := 113) hx hb dX7_againLine_159 (by decide) ?_
                        exact ih_113 _ (by omega) (yy) (k + 1) H locs ls rfl (by rw [h_z, show i = 7 by omega]; congr 1; omega) (by first | omega | assumption | rfl) hw (lv_sub hl [1, 2, 0] rfl)
                      · refine lv_aload_n hx hb dX7_againLine_129 rfl (lv_at hl 0 rfl) ?_
                        refine q_get hx hb hts hown hK hw.1 ci_X7 0 rfl 10 (by decide) fl_X7_13 rfl dX7_againLine_130 ?_
                        refine lv_iload_n hx hb dX7_againLine_133 rfl (lv_at hl 1 rfl) ?_
                        refine q_bipush hx hb dX7_againLine_134 rfl ?_
                        refine lv_iload_n hx hb dX7_againLine_136 rfl (lv_at hl 2 rfl) ?_
                        refine q_imul hx hb dX7_againLine_137 ?_
                        refine q_iadd hx hb dX7_againLine_138 ?_
                        refine lv_iload_n hx hb dX7_againLine_139 rfl (lv_at hl 3 rfl) ?_
                        refine q_iadd hx hb dX7_againLine_140 ?_
                        refine lv_aload_n hx hb dX7_againLine_141 rfl (lv_at hl 0 rfl) ?_
                        refine q_get hx hb hts hown hK hw.1 ci_X7 0 rfl 10 (by decide) fl_X7_13 rfl dX7_againLine_142 ?_
                        refine lv_iload_n hx hb dX7_againLine_145 rfl (lv_at hl 1 rfl) ?_
                        refine lv_iload_n hx hb dX7_againLine_146 rfl (lv_at hl 3 rfl) ?_
                        refine q_iadd hx hb dX7_againLine_147 ?_
                        refine q_iald hx hb hK hw.1 2 0 rfl rfl (z := (8 + 7 * (C 8 0 - 1) + i)) (v := (dr (8 + 7 * (C 8 0 - 1) + i))) (by omega) (by rw [h_z]; exact agF_o (by omega)) dX7_againLine_148 ?_
                        refine q_iast hx hb hK hw 2 0 rfl rfl (by omega) dX7_againLine_149 (fun H locs hw => ?_)
                        have hw : qw D A s.heap (mW g cI cB cZ th len tl ts2_16 te2_16 tk2_16 nu2_16 er2_27 eo2_27 hL hS dp bf (uI yy (8 + 7 * (C 8 0 - 1) + 7 * k + i) (dr (8 + 7 * (C 8 0 - 1) + i))) td sa ad hi sl sv tr) H locs := hw
                        obtain ⟨f_16, e_f_16⟩ : ∃ z, z = uI yy (8 + 7 * (C 8 0 - 1) + 7 * k + i) (dr (8 + 7 * (C 8 0 - 1) + i)) := ⟨_, rfl⟩
                        have hw : qw D A s.heap (mW g cI cB cZ th len tl ts2_16 te2_16 tk2_16 nu2_16 er2_27 eo2_27 hL hS dp bf f_16 td sa ad hi sl sv tr) H locs := by rw [e_f_16]; exact hw
                        refine lv_iinc (v := iI (i + 1)) (lv' := [(3, .int (iI (i + 1))), (0, .ref (g 0)), (1, .int (iI (8 + 7 * (C 8 0 - 1)))), (2, .int (iI k))]) hx hb dX7_againLine_150 hl (k := 3) rfl (iI_add _ _) (by decide) rfl (fun ls hl => ?_)
                        refine lv_goto (tgt := 123) hx hb dX7_againLine_153 (by decide) ?_
                        exact ih_123 _ (by omega) (f_16) (i + 1) H locs ls rfl (by rw [e_f_16, h_z, show 7 * (k - 1) + (i + 1) = 7 * (k - 1) + i + 1 by omega]; exact agF_s (k := k) (i := i) rfl h_k.1 (by omega) (by omega) rfl) (by first | omega | assumption | rfl) hw (lv_sub hl [1, 2, 3, 0] rfl)
                    exact loop_123 _ (y) (0) H locs ls rfl (by rw [h_y, Int.add_zero]) (by first | omega | assumption | rfl) hw (lv_sub hl [1, 2, 3, 0] rfl)
                exact loop_113 _ (dr) (1) H locs ls rfl (by exact (agF_0 _ _ (by omega)).symm) (by first | omega | assumption | rfl) hw (lv_sub hl [2, 1, 0] rfl)
              · exact hret (ts2_16, te2_16, tk2_16, nu2_16, er2_27, eo2_27, dr) H locs 95 ls ⟨(by first | (have q : ¬ (nxX bf tl C) 9 2 = 2 := fun w => c_45 ((muX_3 (k := 1) (X := nxX bf tl C) (by decide)).mpr ⟨q_y3, by omega⟩); rw [ag_1 ⟨h0, by omega⟩ q]; exact PR_muf hu_27_0 (by omega)) | (have q : ¬ (1 ≤ nuV bf (nxX bf tl C) ∧ nuV bf (nxX bf tl C) ≤ 39) := fun w => c_63 ((muX_3 (k := 4) (X := nxX bf tl C) (by decide)).mpr ⟨q_y3, bI_t (by omega)⟩); rw [ag_4 ⟨h0, by omega⟩ q_k q]; exact PR_muf hu_27_0 (by unfold bI; split <;> omega)) | (have q : ¬ (C 8 0 + nuV bf (nxX bf tl C) ≤ 40) := fun w => c_92 ((muX_3 (k := 5) (X := nxX bf tl C) (by decide)).mpr ⟨q_y3, by omega⟩); rw [ag_5 ⟨h0, by omega⟩ q_k (by unfold bI at q_63; split at q_63 <;> omega) q]; exact PR_muf hu_27_0 (by omega))), (by first | (have q : ¬ (nxX bf tl C) 9 2 = 2 := fun w => c_45 ((muX_3 (k := 1) (X := nxX bf tl C) (by decide)).mpr ⟨q_y3, by omega⟩); rw [ag_1 ⟨h0, by omega⟩ q]; exact DR_fa (DR_nx hD) (by decide)) | (have q : ¬ (1 ≤ nuV bf (nxX bf tl C) ∧ nuV bf (nxX bf tl C) ≤ 39) := fun w => c_63 ((muX_3 (k := 4) (X := nxX bf tl C) (by decide)).mpr ⟨q_y3, bI_t (by omega)⟩); rw [ag_4 ⟨h0, by omega⟩ q_k q]; exact DR_fa (DR_nx hD) (by decide)) | (have q : ¬ (C 8 0 + nuV bf (nxX bf tl C) ≤ 40) := fun w => c_92 ((muX_3 (k := 5) (X := nxX bf tl C) (by decide)).mpr ⟨q_y3, by omega⟩); rw [ag_5 ⟨h0, by omega⟩ q_k (by unfold bI at q_63; split at q_63 <;> omega) q]; exact DR_fa (DR_nx hD) (by decide)))⟩ hw dX7_againLine_95
    · have q_c : ¬ (0 < C 8 0) := fun z => c_19 ((muX_3 (k := 3) (X := C) (by decide)).mpr ⟨h0, by omega⟩)
      exact hret (ts, te, tk, nu, er2_15, eo2_15, dr) H locs 22 ls ⟨(by (rw [ag_3 (by omega)]; exact PR_muf hu_15_0 (by omega))), (by (rw [ag_3 (by omega)]; exact DR_fa hD (by decide)))⟩ hw dX7_againLine_22
