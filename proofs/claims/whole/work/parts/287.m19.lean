variable {l : Launch} {z : Nat → Nat} {T C : Nat → Int → Int} {J : Int → Int} {D : va_G} {cI cB cZ cS cJ : ClassId} {g : Nat → Nat} {th len tl ts te tk nu er eo hL hS dp : Int} {bf dr td sa ad hi sl sv tr : Int → Int}
theorem PR_fb {f : Int → Int} {n ts te tk nu er eo k : Int} {X : Nat → Int → Int} (h : PR f n ts te tk nu er eo (muX 0 k X)) : PR f n ts te tk nu er eo (faX k X) := h

set_option maxHeartbeats 4000000 in
set_option maxRecDepth 100000 in
theorem c_X7_statement (hbf : byR bf) (ht : 0 ≤ tl ∧ tl ≤ 700) (hP : PR bf tl ts te tk nu er eo C) (hD : DR dr hL hS C) : qMz l (ZZ z) D (tyG cI cB cZ cS cJ) yX7_statement cX7_statement 1 (Option.none) 7 152 [.ref (g 0)] (mW g cI cB cZ th len tl ts te tk nu er eo hL hS dp bf dr td sa ad hi sl sv tr) (fun u : (Int) × (Int) × (Int) × (Int) × (Int) × (Int) × (Int → Int) × (Int) × (Int) => (PR bf tl ((u.1)) ((u.2.1)) ((u.2.2.1)) ((u.2.2.2.1)) ((u.2.2.2.2.1)) ((u.2.2.2.2.2.1)) (stX bf tl C)) ∧ (DR ((u.2.2.2.2.2.2.1)) ((u.2.2.2.2.2.2.2.1)) ((u.2.2.2.2.2.2.2.2)) (stX bf tl C))) (fun _ => none) (fun u => (mW g cI cB cZ th len tl (u.1) (u.2.1) (u.2.2.1) (u.2.2.2.1) (u.2.2.2.2.1) (u.2.2.2.2.2.1) (u.2.2.2.2.2.2.2.1) (u.2.2.2.2.2.2.2.2) dp bf (u.2.2.2.2.2.2.1) td sa ad hi sl sv tr)) := by
  have q_e := hP.1
  have q_5 := hP.2.2.2.2
  have q_6 := hP.2.1
  have q_7 := hP.2.2.2.1
  have q_8 := hD.1
  have q_a : C 9 3 = 0 → hS = C 9 6 := fun z => (hD.2 z).2.2.2
  have q_b : C 9 3 = 0 → hL = C 9 5 := fun z => (hD.2 z).2.2.1
  refine qMz_enterV (by decide) (Nat.le_of_ble_eq_true rfl) (fun p e R s m args below meth c Q ls A X hR hA hw hZ hl hret => ?_)
  obtain ⟨hx, hb, hml, hown, hts, hK⟩ := X
  have hl : lv_has ls 1 [(0, .ref (g 0))] := hl
  suffices K : ∀ (H : Heap) (locs : List Loc), qw D A s.heap (mW g cI cB cZ th len tl ts te tk nu er eo hL hS dp bf dr td sa ad hi sl sv tr) H locs → W p l e R s m args below meth c H locs 0 0 Q (F0 m 0 ls []) from K s.heap [] hw
  clear hw
  intro H locs hw
  have join_89 : ∀ (x1 : Int) (x2 : Int) (x3 : Int) (x4 : Int) (x5 : Int) (x6 : Int) (y : Int → Int) (lf : Int) (sf : Int) (H : Heap) (locs : List Loc) (ls : Array Slot), (PR bf tl x1 x2 x3 x4 x5 x6 (lnX bf tl C)) → (DR y lf sf (lnX bf tl C)) → qw D A s.heap (mW g cI cB cZ th len tl x1 x2 x3 x4 x5 x6 lf sf dp bf y td sa ad hi sl sv tr) H locs → lv_has ls 1 [(0, .ref (g 0))] → W p l e R s m args below meth c H locs 0 0 Q (F0 m 89 ls []) := by
    intro x1 x2 x3 x4 x5 x6 y lf sf H locs ls h_P h_D hw hl
    have q_p4 := h_P.2.2.2.2
    have q_p5 := h_P.2.1
    refine lv_aload_n hx hb dX7_statement_89 rfl (lv_at hl 0 rfl) ?_
    refine lv_aload_n hx hb dX7_statement_90 rfl (lv_at hl 0 rfl) ?_
    refine q_get hx hb hts hown hK hw.1 ci_X7 0 rfl 6 (by decide) fl_X7_69 rfl dX7_statement_91 ?_
    refine q_iconst hx hb dX7_statement_94 ?_
    have q_p4 := h_P.2.2.2.2
    have q_p5 := h_P.2.1
    refine q_icmp_ne (tgt := 102) hx hb dX7_statement_95 (by decide) (by omega) (fun c_95 => ?_) (fun c_95 => ?_)
    · refine q_iconst hx hb dX7_statement_102 ?_
      refine q_iconst hx hb dX7_statement_103 ?_
      refine q_callM (As := [.int (iI 0), .int (iI 1)]) (rest := []) (wr := []) hx hb hml hown hts hK (c_X7_must (C := (lnX bf tl C)) (0) (1) (by exact h_P) (by first | omega | assumption) (by first | omega | assumption)) yi_X7_must ml_X7_97 (by rw [hR]; decide) hw hA [0, 1, 2, 3, 4, 5, 6, 7, 8, 9] [] rfl rfl (by decide) (by decide) (by decide) 0 rfl rfl rfl rfl hl.1 (lv_room (Nat.le_of_ble_eq_true rfl)) dX7_statement_104 ⟨by rw [hR]; exact Nat.zero_le _, by rw [hR]; exact Nat.zero_le _⟩ (fun u_104 H locs hu_104 hw => ?_)
      obtain ⟨er2_1, eo2_1⟩ := u_104
      have hu_1_0 : PR bf tl x1 x2 x3 x4 er2_1 eo2_1 (muX 0 1 (((lnX bf tl C)))) := hu_104
      have hw : qw D A s.heap (mW g cI cB cZ th len tl x1 x2 x3 x4 er2_1 eo2_1 lf sf dp bf y td sa ad hi sl sv tr) H locs := hw
      have b_1 := ()
      refine q_ifb_eq (tgt := 114) hx hb dX7_statement_107 (by decide) (fun c_107 => ?_) (fun c_107 => ?_)
      · exact hret (x1, x2, x3, x4, er2_1, eo2_1, y, lf, sf) H locs 114 ls ⟨(by first | (have w := se_f h_P (by omega) c_107; show PR _ _ _ _ _ _ _ _ (seX bf tl (lnX bf tl C)); rw [← w.1]; exact hu_1_0) | (have w := se_t h_P (by omega) c_107; show PR _ _ _ _ _ _ _ _ (seX bf tl (lnX bf tl C)); rw [w.2.2]; rw [w.2.1] at hu_1_0; exact PR_nx hu_1_0 w.1 zz_none zz_none zz_none zz_none zz_none zz_none)), (by exact DR_se h_D)⟩ hw dX7_statement_114
      · refine lv_aload_n hx hb dX7_statement_110 rfl (lv_at hl 0 rfl) ?_
        refine q_callM (As := []) (rest := []) (wr := []) hx hb hml hown hts hK (c_X7_nextToken (by first | omega | assumption) (by first | omega | assumption) (by first | omega | assumption) (by first | omega | assumption)) yi_X7_nextToken ml_X7_94 (by rw [hR]; decide) hw hA [0, 1, 2, 3, 4, 5, 6, 7, 8, 9] [] rfl rfl (by decide) (by decide) (by decide) 0 rfl rfl rfl rfl hl.1 (lv_room (Nat.le_of_ble_eq_true rfl)) dX7_statement_111 ⟨by rw [hR]; exact Nat.zero_le _, by rw [hR]; exact Nat.zero_le _⟩ (fun u_111 H locs hu_111 hw => ?_)
        obtain ⟨ts2_2, te2_2, tk2_2, nu2_2⟩ := u_111
        obtain ⟨hu_2_0, hu_2_1, hu_2_2, hu_2_3, hu_2_4, hu_2_5⟩ : (ts2_2 = sk bf tl x2) ∧ (te2_2 = tkE bf tl ts2_2) ∧ (tk2_2 = tkK bf tl ts2_2) ∧ (tk2_2 = 2 → nu2_2 = nv bf ts2_2 (te2_2 - ts2_2)) ∧ (rg nu2_2) ∧ (tk2_2 = 2 → 0 ≤ nu2_2 ∧ nu2_2 ≤ 9999) := hu_111
        have hw : qw D A s.heap (mW g cI cB cZ th len tl ts2_2 te2_2 tk2_2 nu2_2 er2_1 eo2_1 lf sf dp bf y td sa ad hi sl sv tr) H locs := hw
        exact hret (ts2_2, te2_2, tk2_2, nu2_2, er2_1, eo2_1, y, lf, sf) H locs 114 ls ⟨(by first | (have w := se_f h_P (by omega) c_107; show PR _ _ _ _ _ _ _ _ (seX bf tl (lnX bf tl C)); rw [← w.1]; exact hu_1_0) | (have w := se_t h_P (by omega) c_107; show PR _ _ _ _ _ _ _ _ (seX bf tl (lnX bf tl C)); rw [w.2.2]; rw [w.2.1] at hu_1_0; exact PR_nx hu_1_0 w.1 hu_2_0 hu_2_1 hu_2_2 hu_2_3 hu_2_4 hu_2_5)), (by exact DR_se h_D)⟩ hw dX7_statement_114
    · refine q_iconst hx hb dX7_statement_98 ?_
      refine lv_goto (tgt := 103) hx hb dX7_statement_99 (by decide) ?_
      refine q_iconst hx hb dX7_statement_103 ?_
      refine q_callM (As := [.int (iI 1), .int (iI 1)]) (rest := []) (wr := []) hx hb hml hown hts hK (c_X7_must (C := (lnX bf tl C)) (1) (1) (by exact h_P) (by first | omega | assumption) (by first | omega | assumption)) yi_X7_must ml_X7_97 (by rw [hR]; decide) hw hA [0, 1, 2, 3, 4, 5, 6, 7, 8, 9] [] rfl rfl (by decide) (by decide) (by decide) 0 rfl rfl rfl rfl hl.1 (lv_room (Nat.le_of_ble_eq_true rfl)) dX7_statement_104 ⟨by rw [hR]; exact Nat.zero_le _, by rw [hR]; exact Nat.zero_le _⟩ (fun u_104 H locs hu_104 hw => ?_)
      obtain ⟨er2_3, eo2_3⟩ := u_104
      have hu_3_0 : PR bf tl x1 x2 x3 x4 er2_3 eo2_3 (muX 1 1 (((lnX bf tl C)))) := hu_104
      have hw : qw D A s.heap (mW g cI cB cZ th len tl x1 x2 x3 x4 er2_3 eo2_3 lf sf dp bf y td sa ad hi sl sv tr) H locs := hw
      have b_2 := ()
      refine q_ifb_eq (tgt := 114) hx hb dX7_statement_107 (by decide) (fun c_107 => ?_) (fun c_107 => ?_)
      · exact hret (x1, x2, x3, x4, er2_3, eo2_3, y, lf, sf) H locs 114 ls ⟨(by first | (have w := se_f h_P (by omega) c_107; show PR _ _ _ _ _ _ _ _ (seX bf tl (lnX bf tl C)); rw [← w.1]; exact hu_3_0) | (have w := se_t h_P (by omega) c_107; show PR _ _ _ _ _ _ _ _ (seX bf tl (lnX bf tl C)); rw [w.2.2]; rw [w.2.1] at hu_3_0; exact PR_nx hu_3_0 w.1 zz_none zz_none zz_none zz_none zz_none zz_none)), (by exact DR_se h_D)⟩ hw dX7_statement_114
      · refine lv_aload_n hx hb dX7_statement_110 rfl (lv_at hl 0 rfl) ?_
        refine q_callM (As := []) (rest := []) (wr := []) hx hb hml hown hts hK (c_X7_nextToken (by first | omega | assumption) (by first | omega | assumption) (by first | omega | assumption) (by first | omega | assumption)) yi_X7_nextToken ml_X7_94 (by rw [hR]; decide) hw hA [0, 1, 2, 3, 4, 5, 6, 7, 8, 9] [] rfl rfl (by decide) (by decide) (by decide) 0 rfl rfl rfl rfl hl.1 (lv_room (Nat.le_of_ble_eq_true rfl)) dX7_statement_111 ⟨by rw [hR]; exact Nat.zero_le _, by rw [hR]; exact Nat.zero_le _⟩ (fun u_111 H locs hu_111 hw => ?_)
        obtain ⟨ts2_4, te2_4, tk2_4, nu2_4⟩ := u_111
        obtain ⟨hu_4_0, hu_4_1, hu_4_2, hu_4_3, hu_4_4, hu_4_5⟩ : (ts2_4 = sk bf tl x2) ∧ (te2_4 = tkE bf tl ts2_4) ∧ (tk2_4 = tkK bf tl ts2_4) ∧ (tk2_4 = 2 → nu2_4 = nv bf ts2_4 (te2_4 - ts2_4)) ∧ (rg nu2_4) ∧ (tk2_4 = 2 → 0 ≤ nu2_4 ∧ nu2_4 ≤ 9999) := hu_111
        have hw : qw D A s.heap (mW g cI cB cZ th len tl ts2_4 te2_4 tk2_4 nu2_4 er2_3 eo2_3 lf sf dp bf y td sa ad hi sl sv tr) H locs := hw
        exact hret (ts2_4, te2_4, tk2_4, nu2_4, er2_3, eo2_3, y, lf, sf) H locs 114 ls ⟨(by first | (have w := se_f h_P (by omega) c_107; show PR _ _ _ _ _ _ _ _ (seX bf tl (lnX bf tl C)); rw [← w.1]; exact hu_3_0) | (have w := se_t h_P (by omega) c_107; show PR _ _ _ _ _ _ _ _ (seX bf tl (lnX bf tl C)); rw [w.2.2]; rw [w.2.1] at hu_3_0; exact PR_nx hu_3_0 w.1 hu_4_0 hu_4_1 hu_4_2 hu_4_3 hu_4_4 hu_4_5)), (by exact DR_se h_D)⟩ hw dX7_statement_114
  refine lv_aload_n hx hb dX7_statement_0 rfl (lv_at hl 0 rfl) ?_
  refine va_ldcS hx hb hown (hZ.2.2.2.1 _ lt_X7_133) dX7_statement_1 ?_
  refine q_callPz (As := [.ref (z 11)]) (rest := []) (zz_ok z) hx hb hml hown hts hK (c_X7_isWord_c (C := C) (i := 1) (by first | omega | assumption) (by first | omega | assumption) (by decide) (by exact hP)) yi_X7_isWord ml_X7_117 (by rw [hR]; decide) hw.1 (z_M (zz_ok z) hZ hw hA [0, 1, 2, 3, 4, 5, 6, 7, 8, 9] rfl) 0 rfl rfl rfl rfl hl.1 (lv_room (Nat.le_of_ble_eq_true rfl)) dX7_statement_3 ⟨by rw [hR]; exact Nat.zero_le _, by rw [hR]; exact Nat.zero_le _⟩ ?_
  refine q_ifb_eq (tgt := 17) hx hb dX7_statement_6 (by decide) (fun c_6 => ?_) (fun c_6 => ?_)
  · refine lv_aload_n hx hb dX7_statement_17 rfl (lv_at hl 0 rfl) ?_
    refine va_ldcS hx hb hown (hZ.2.2.2.1 _ lt_X7_139) dX7_statement_18 ?_
    refine q_callPz (As := [.ref (z 12)]) (rest := []) (zz_ok z) hx hb hml hown hts hK (c_X7_isWord_c (C := C) (i := 2) (by first | omega | assumption) (by first | omega | assumption) (by decide) (by exact hP)) yi_X7_isWord ml_X7_117 (by rw [hR]; decide) hw.1 (z_M (zz_ok z) hZ hw hA [0, 1, 2, 3, 4, 5, 6, 7, 8, 9] rfl) 0 rfl rfl rfl rfl hl.1 (lv_room (Nat.le_of_ble_eq_true rfl)) dX7_statement_20 ⟨by rw [hR]; exact Nat.zero_le _, by rw [hR]; exact Nat.zero_le _⟩ ?_
    refine q_ifb_eq (tgt := 34) hx hb dX7_statement_23 (by decide) (fun c_23 => ?_) (fun c_23 => ?_)
    · refine lv_aload_n hx hb dX7_statement_34 rfl (lv_at hl 0 rfl) ?_
      refine va_ldcS hx hb hown (hZ.2.2.2.1 _ lt_X7_141) dX7_statement_35 ?_
      refine q_callPz (As := [.ref (z 13)]) (rest := []) (zz_ok z) hx hb hml hown hts hK (c_X7_isWord_c (C := C) (i := 3) (by first | omega | assumption) (by first | omega | assumption) (by decide) (by exact hP)) yi_X7_isWord ml_X7_117 (by rw [hR]; decide) hw.1 (z_M (zz_ok z) hZ hw hA [0, 1, 2, 3, 4, 5, 6, 7, 8, 9] rfl) 0 rfl rfl rfl rfl hl.1 (lv_room (Nat.le_of_ble_eq_true rfl)) dX7_statement_37 ⟨by rw [hR]; exact Nat.zero_le _, by rw [hR]; exact Nat.zero_le _⟩ ?_
      refine q_ifb_eq (tgt := 50) hx hb dX7_statement_40 (by decide) (fun c_40 => ?_) (fun c_40 => ?_)
      · refine lv_aload_n hx hb dX7_statement_50 rfl (lv_at hl 0 rfl) ?_
        refine va_ldcS hx hb hown (hZ.2.2.2.1 _ lt_X7_146) dX7_statement_51 ?_
        refine q_callPz (As := [.ref (z 14)]) (rest := []) (zz_ok z) hx hb hml hown hts hK (c_X7_isWord_c (C := C) (i := 4) (by first | omega | assumption) (by first | omega | assumption) (by decide) (by exact hP)) yi_X7_isWord ml_X7_117 (by rw [hR]; decide) hw.1 (z_M (zz_ok z) hZ hw hA [0, 1, 2, 3, 4, 5, 6, 7, 8, 9] rfl) 0 rfl rfl rfl rfl hl.1 (lv_room (Nat.le_of_ble_eq_true rfl)) dX7_statement_53 ⟨by rw [hR]; exact Nat.zero_le _, by rw [hR]; exact Nat.zero_le _⟩ ?_
        refine q_ifb_eq (tgt := 66) hx hb dX7_statement_56 (by decide) (fun c_56 => ?_) (fun c_56 => ?_)
        · refine lv_aload_n hx hb dX7_statement_66 rfl (lv_at hl 0 rfl) ?_
          refine va_ldcS hx hb hown (hZ.2.2.2.1 _ lt_X7_151) dX7_statement_67 ?_
          refine q_callPz (As := [.ref (z 15)]) (rest := []) (zz_ok z) hx hb hml hown hts hK (c_X7_isWord_c (C := C) (i := 5) (by first | omega | assumption) (by first | omega | assumption) (by decide) (by exact hP)) yi_X7_isWord ml_X7_117 (by rw [hR]; decide) hw.1 (z_M (zz_ok z) hZ hw hA [0, 1, 2, 3, 4, 5, 6, 7, 8, 9] rfl) 0 rfl rfl rfl rfl hl.1 (lv_room (Nat.le_of_ble_eq_true rfl)) dX7_statement_69 ⟨by rw [hR]; exact Nat.zero_le _, by rw [hR]; exact Nat.zero_le _⟩ ?_
          refine q_ifb_eq (tgt := 82) hx hb dX7_statement_72 (by decide) (fun c_72 => ?_) (fun c_72 => ?_)
          · refine lv_aload_n hx hb dX7_statement_82 rfl (lv_at hl 0 rfl) ?_
            refine q_iconst hx hb dX7_statement_83 ?_
            refine q_iconst hx hb dX7_statement_84 ?_
            refine q_callM (As := [.int (iI 0), .int (iI 1)]) (rest := []) (wr := []) hx hb hml hown hts hK (c_X7_must (C := C) (0) (1) (by exact hP) (by first | omega | assumption) (by first | omega | assumption)) yi_X7_must ml_X7_97 (by rw [hR]; decide) hw hA [0, 1, 2, 3, 4, 5, 6, 7, 8, 9] [] rfl rfl (by decide) (by decide) (by decide) 0 rfl rfl rfl rfl hl.1 (lv_room (Nat.le_of_ble_eq_true rfl)) dX7_statement_85 ⟨by rw [hR]; exact Nat.zero_le _, by rw [hR]; exact Nat.zero_le _⟩ (fun u_85 H locs hu_85 hw => ?_)
            obtain ⟨er2_5, eo2_5⟩ := u_85
            have hu_5_0 : PR bf tl ts te tk nu er2_5 eo2_5 (muX 0 1 ((C))) := hu_85
            have hw : qw D A s.heap (mW g cI cB cZ th len tl ts te tk nu er2_5 eo2_5 hL hS dp bf dr td sa ad hi sl sv tr) H locs := hw
            have b_3 := ()
            refine lv_pop hx hb dX7_statement_88 rfl ?_
            exact join_89 (ts) (te) (tk) (nu) (er2_5) (eo2_5) (dr) (hL) (hS) H locs ls (by first | (rw [ln_1 c_6]; exact hu_5_0) | (rw [ln_2 c_6 c_23]; exact hu_5_0) | (rw [ln_3 c_6 c_23 c_40]; exact hu_5_0) | (rw [ln_4 c_6 c_23 c_40 c_56]; exact hu_5_0) | (rw [ln_5 c_6 c_23 c_40 c_56 c_72]; exact hu_5_0) | (rw [ln_6 c_6 c_23 c_40 c_56 c_72]; exact PR_fb hu_5_0)) (by first | (rw [ln_1 c_6]; assumption) | (rw [ln_2 c_6 c_23]; assumption) | (rw [ln_3 c_6 c_23 c_40]; assumption) | (rw [ln_4 c_6 c_23 c_40 c_56]; assumption) | (rw [ln_5 c_6 c_23 c_40 c_56 c_72]; assumption) | (rw [ln_6 c_6 c_23 c_40 c_56 c_72]; exact DR_fa hD (by decide))) hw hl
          · refine lv_aload_n hx hb dX7_statement_75 rfl (lv_at hl 0 rfl) ?_
            refine q_callM (As := []) (rest := []) (wr := []) hx hb hml hown hts hK (c_X7_simplexLine (C := C) (by first | omega | assumption) (by first | omega | assumption) (by exact hP) (by first | omega | assumption)) yi_X7_simplexLine ml_X7_153 (by rw [hR]; decide) hw hA [0, 1, 2, 3, 4, 5, 6, 7, 8, 9] [] rfl rfl (by decide) (by decide) (by decide) 0 rfl rfl rfl rfl hl.1 (lv_room (Nat.le_of_ble_eq_true rfl)) dX7_statement_76 ⟨by rw [hR]; exact Nat.zero_le _, by rw [hR]; exact Nat.zero_le _⟩ (fun u_76 H locs hu_76 hw => ?_)
            obtain ⟨ts2_6, te2_6, tk2_6, nu2_6, er2_6, eo2_6, d2_6, f2_6⟩ := u_76
            obtain ⟨hu_6_0, hu_6_1⟩ : (PR bf tl ts2_6 te2_6 tk2_6 nu2_6 er2_6 eo2_6 (simX bf tl ((C)))) ∧ (DR d2_6 hL f2_6 (simX bf tl ((C)))) := hu_76
            have hw : qw D A s.heap (mW g cI cB cZ th len tl ts2_6 te2_6 tk2_6 nu2_6 er2_6 eo2_6 hL f2_6 dp bf d2_6 td sa ad hi sl sv tr) H locs := hw
            have b_4 := ()
            refine lv_goto (tgt := 89) hx hb dX7_statement_79 (by decide) ?_
            exact join_89 (ts2_6) (te2_6) (tk2_6) (nu2_6) (er2_6) (eo2_6) (d2_6) (hL) (f2_6) H locs ls (by first | (rw [ln_1 c_6]; exact hu_6_0) | (rw [ln_2 c_6 c_23]; exact hu_6_0) | (rw [ln_3 c_6 c_23 c_40]; exact hu_6_0) | (rw [ln_4 c_6 c_23 c_40 c_56]; exact hu_6_0) | (rw [ln_5 c_6 c_23 c_40 c_56 c_72]; exact hu_6_0) | (rw [ln_6 c_6 c_23 c_40 c_56 c_72]; exact PR_fb hu_6_0)) (by first | (rw [ln_1 c_6]; assumption) | (rw [ln_2 c_6 c_23]; assumption) | (rw [ln_3 c_6 c_23 c_40]; assumption) | (rw [ln_4 c_6 c_23 c_40 c_56]; assumption) | (rw [ln_5 c_6 c_23 c_40 c_56 c_72]; assumption) | (rw [ln_6 c_6 c_23 c_40 c_56 c_72]; exact DR_fa hD (by decide))) hw hl
        · refine lv_aload_n hx hb dX7_statement_59 rfl (lv_at hl 0 rfl) ?_
          refine q_callM (As := []) (rest := []) (wr := []) hx hb hml hown hts hK (c_X7_limitsLine (C := C) (by first | omega | assumption) (by first | omega | assumption) (by exact hP) (by first | omega | assumption)) yi_X7_limitsLine ml_X7_148 (by rw [hR]; decide) hw hA [0, 1, 2, 3, 4, 5, 6, 7, 8, 9] [] rfl rfl (by decide) (by decide) (by decide) 0 rfl rfl rfl rfl hl.1 (lv_room (Nat.le_of_ble_eq_true rfl)) dX7_statement_60 ⟨by rw [hR]; exact Nat.zero_le _, by rw [hR]; exact Nat.zero_le _⟩ (fun u_60 H locs hu_60 hw => ?_)
          obtain ⟨ts2_7, te2_7, tk2_7, nu2_7, er2_7, eo2_7, d2_7, f2_7⟩ := u_60
          obtain ⟨hu_7_0, hu_7_1⟩ : (PR bf tl ts2_7 te2_7 tk2_7 nu2_7 er2_7 eo2_7 (limX bf tl ((C)))) ∧ (DR d2_7 f2_7 hS (limX bf tl ((C)))) := hu_60
          have hw : qw D A s.heap (mW g cI cB cZ th len tl ts2_7 te2_7 tk2_7 nu2_7 er2_7 eo2_7 f2_7 hS dp bf d2_7 td sa ad hi sl sv tr) H locs := hw
          have b_5 := ()
          refine lv_goto (tgt := 89) hx hb dX7_statement_63 (by decide) ?_
          exact join_89 (ts2_7) (te2_7) (tk2_7) (nu2_7) (er2_7) (eo2_7) (d2_7) (f2_7) (hS) H locs ls (by first | (rw [ln_1 c_6]; exact hu_7_0) | (rw [ln_2 c_6 c_23]; exact hu_7_0) | (rw [ln_3 c_6 c_23 c_40]; exact hu_7_0) | (rw [ln_4 c_6 c_23 c_40 c_56]; exact hu_7_0) | (rw [ln_5 c_6 c_23 c_40 c_56 c_72]; exact hu_7_0) | (rw [ln_6 c_6 c_23 c_40 c_56 c_72]; exact PR_fb hu_7_0)) (by first | (rw [ln_1 c_6]; assumption) | (rw [ln_2 c_6 c_23]; assumption) | (rw [ln_3 c_6 c_23 c_40]; assumption) | (rw [ln_4 c_6 c_23 c_40 c_56]; assumption) | (rw [ln_5 c_6 c_23 c_40 c_56 c_72]; assumption) | (rw [ln_6 c_6 c_23 c_40 c_56 c_72]; exact DR_fa hD (by decide))) hw hl
      · refine lv_aload_n hx hb dX7_statement_43 rfl (lv_at hl 0 rfl) ?_
        refine q_callM (As := []) (rest := []) (wr := []) hx hb hml hown hts hK (c_X7_againLine (C := C) (by first | omega | assumption) (by first | omega | assumption) (by exact hP) (by first | omega | assumption) (by exact c_40.1.1)) yi_X7_againLine ml_X7_143 (by rw [hR]; decide) hw hA [0, 1, 2, 3, 4, 5, 6, 7, 8, 9] [] rfl rfl (by decide) (by decide) (by decide) 0 rfl rfl rfl rfl hl.1 (lv_room (Nat.le_of_ble_eq_true rfl)) dX7_statement_44 ⟨by rw [hR]; exact Nat.zero_le _, by rw [hR]; exact Nat.zero_le _⟩ (fun u_44 H locs hu_44 hw => ?_)
        obtain ⟨ts2_8, te2_8, tk2_8, nu2_8, er2_8, eo2_8, d2_8⟩ := u_44
        obtain ⟨hu_8_0, hu_8_1⟩ : (PR bf tl ts2_8 te2_8 tk2_8 nu2_8 er2_8 eo2_8 (agX bf tl ((C)))) ∧ (DR d2_8 hL hS (agX bf tl ((C)))) := hu_44
        have hw : qw D A s.heap (mW g cI cB cZ th len tl ts2_8 te2_8 tk2_8 nu2_8 er2_8 eo2_8 hL hS dp bf d2_8 td sa ad hi sl sv tr) H locs := hw
        have b_6 := ()
        refine lv_goto (tgt := 89) hx hb dX7_statement_47 (by decide) ?_
        exact join_89 (ts2_8) (te2_8) (tk2_8) (nu2_8) (er2_8) (eo2_8) (d2_8) (hL) (hS) H locs ls (by first | (rw [ln_1 c_6]; exact hu_8_0) | (rw [ln_2 c_6 c_23]; exact hu_8_0) | (rw [ln_3 c_6 c_23 c_40]; exact hu_8_0) | (rw [ln_4 c_6 c_23 c_40 c_56]; exact hu_8_0) | (rw [ln_5 c_6 c_23 c_40 c_56 c_72]; exact hu_8_0) | (rw [ln_6 c_6 c_23 c_40 c_56 c_72]; exact PR_fb hu_8_0)) (by first | (rw [ln_1 c_6]; assumption) | (rw [ln_2 c_6 c_23]; assumption) | (rw [ln_3 c_6 c_23 c_40]; assumption) | (rw [ln_4 c_6 c_23 c_40 c_56]; assumption) | (rw [ln_5 c_6 c_23 c_40 c_56 c_72]; assumption) | (rw [ln_6 c_6 c_23 c_40 c_56 c_72]; exact DR_fa hD (by decide))) hw hl
    · refine lv_aload_n hx hb dX7_statement_26 rfl (lv_at hl 0 rfl) ?_
      refine q_iconst hx hb dX7_statement_27 ?_
      refine q_callMz (As := [.int (iI 1)]) (rest := []) (wr := []) (zz_ok z) hx hb hml hown hts hK (c_X7_sheetLine_c (C := C) (1) (by first | omega | assumption) (by first | omega | assumption) (by exact hP) (by first | omega | assumption) (by exact c_23.1.1) (by first | omega | assumption)) yi_X7_sheetLine ml_X7_135 (by rw [hR]; decide) hw hA (z_M (zz_ok z) hZ hw hA [0, 1, 2, 3, 4, 5, 6, 7, 8, 9] rfl) [0, 1, 2, 3, 4, 5, 6, 7, 8, 9] [] rfl rfl (by decide) (by decide) (by decide) 0 rfl rfl rfl rfl hl.1 (lv_room (Nat.le_of_ble_eq_true rfl)) dX7_statement_28 ⟨by rw [hR]; exact Nat.zero_le _, by rw [hR]; exact Nat.zero_le _⟩ (fun u_28 H locs hu_28 hw => ?_)
      obtain ⟨ts2_9, te2_9, tk2_9, nu2_9, er2_9, eo2_9, d2_9⟩ := u_28
      obtain ⟨hu_9_0, hu_9_1⟩ : (PR bf tl ts2_9 te2_9 tk2_9 nu2_9 er2_9 eo2_9 (codX bf tl ((C)))) ∧ (DR d2_9 hL hS (codX bf tl ((C)))) := hu_28
      have hw : qw D A s.heap (mW g cI cB cZ th len tl ts2_9 te2_9 tk2_9 nu2_9 er2_9 eo2_9 hL hS dp bf d2_9 td sa ad hi sl sv tr) H locs := hw
      have b_7 := ()
      refine lv_goto (tgt := 89) hx hb dX7_statement_31 (by decide) ?_
      exact join_89 (ts2_9) (te2_9) (tk2_9) (nu2_9) (er2_9) (eo2_9) (d2_9) (hL) (hS) H locs ls (by first | (rw [ln_1 c_6]; exact hu_9_0) | (rw [ln_2 c_6 c_23]; exact hu_9_0) | (rw [ln_3 c_6 c_23 c_40]; exact hu_9_0) | (rw [ln_4 c_6 c_23 c_40 c_56]; exact hu_9_0) | (rw [ln_5 c_6 c_23 c_40 c_56 c_72]; exact hu_9_0) | (rw [ln_6 c_6 c_23 c_40 c_56 c_72]; exact PR_fb hu_9_0)) (by first | (rw [ln_1 c_6]; assumption) | (rw [ln_2 c_6 c_23]; assumption) | (rw [ln_3 c_6 c_23 c_40]; assumption) | (rw [ln_4 c_6 c_23 c_40 c_56]; assumption) | (rw [ln_5 c_6 c_23 c_40 c_56 c_72]; assumption) | (rw [ln_6 c_6 c_23 c_40 c_56 c_72]; exact DR_fa hD (by decide))) hw hl
  · refine lv_aload_n hx hb dX7_statement_9 rfl (lv_at hl 0 rfl) ?_
    refine q_iconst hx hb dX7_statement_10 ?_
    refine q_callMz (As := [.int (iI 0)]) (rest := []) (wr := []) (zz_ok z) hx hb hml hown hts hK (c_X7_sheetLine_s (C := C) (0) (by first | omega | assumption) (by first | omega | assumption) (by exact hP) (by first | omega | assumption) (by exact c_6.1.1) (by first | omega | assumption)) yi_X7_sheetLine ml_X7_135 (by rw [hR]; decide) hw hA (z_M (zz_ok z) hZ hw hA [0, 1, 2, 3, 4, 5, 6, 7, 8, 9] rfl) [0, 1, 2, 3, 4, 5, 6, 7, 8, 9] [] rfl rfl (by decide) (by decide) (by decide) 0 rfl rfl rfl rfl hl.1 (lv_room (Nat.le_of_ble_eq_true rfl)) dX7_statement_11 ⟨by rw [hR]; exact Nat.zero_le _, by rw [hR]; exact Nat.zero_le _⟩ (fun u_11 H locs hu_11 hw => ?_)
    obtain ⟨ts2_10, te2_10, tk2_10, nu2_10, er2_10, eo2_10, d2_10⟩ := u_11
    obtain ⟨hu_10_0, hu_10_1⟩ : (PR bf tl ts2_10 te2_10 tk2_10 nu2_10 er2_10 eo2_10 (shtX bf tl ((C)))) ∧ (DR d2_10 hL hS (shtX bf tl ((C)))) := hu_11
    have hw : qw D A s.heap (mW g cI cB cZ th len tl ts2_10 te2_10 tk2_10 nu2_10 er2_10 eo2_10 hL hS dp bf d2_10 td sa ad hi sl sv tr) H locs := hw
    have b_8 := ()
    refine lv_goto (tgt := 89) hx hb dX7_statement_14 (by decide) ?_
    exact join_89 (ts2_10) (te2_10) (tk2_10) (nu2_10) (er2_10) (eo2_10) (d2_10) (hL) (hS) H locs ls (by first | (rw [ln_1 c_6]; exact hu_10_0) | (rw [ln_2 c_6 c_23]; exact hu_10_0) | (rw [ln_3 c_6 c_23 c_40]; exact hu_10_0) | (rw [ln_4 c_6 c_23 c_40 c_56]; exact hu_10_0) | (rw [ln_5 c_6 c_23 c_40 c_56 c_72]; exact hu_10_0) | (rw [ln_6 c_6 c_23 c_40 c_56 c_72]; exact PR_fb hu_10_0)) (by first | (rw [ln_1 c_6]; assumption) | (rw [ln_2 c_6 c_23]; assumption) | (rw [ln_3 c_6 c_23 c_40]; assumption) | (rw [ln_4 c_6 c_23 c_40 c_56]; assumption) | (rw [ln_5 c_6 c_23 c_40 c_56 c_72]; assumption) | (rw [ln_6 c_6 c_23 c_40 c_56 c_72]; exact DR_fa hD (by decide))) hw hl
