variable {l : Launch} {z : Nat → Nat} {T C : Nat → Int → Int} {J : Int → Int} {D : va_G} {cI cB cZ cS cJ : ClassId} {g : Nat → Nat} {th len tl ts te tk nu er eo hL hS dp : Int} {bf dr td sa ad hi sl sv tr : Int → Int}
set_option maxHeartbeats 4000000 in
set_option maxRecDepth 100000 in
theorem c_X7_readShape {sh : Int} (at8 : Int) (hbf : byR bf) (ht : 0 ≤ tl ∧ tl ≤ 700) (hP : PR bf tl ts te tk nu er eo C) (hat : at8 = 8 + 7 * sh ∧ 0 ≤ sh ∧ sh < 40) : qM l D (tyG cI cB cZ cS cJ) yX7_readShape cX7_readShape 4 (Option.none) 4 86 [.ref (g 0), .int (iI at8)] (mW g cI cB cZ th len tl ts te tk nu er eo hL hS dp bf dr td sa ad hi sl sv tr) (fun u : (Int) × (Int) × (Int) × (Int) × (Int) × (Int) × (Int → Int) => (PR bf tl ((u.1)) ((u.2.1)) ((u.2.2.1)) ((u.2.2.2.1)) ((u.2.2.2.2.1)) ((u.2.2.2.2.2.1)) (rsX bf tl C)) ∧ (∃ a b c : Int, ((u.2.2.2.2.2.2)) = uI (uI (uI dr at8 a) (at8 + 1) b) (at8 + 2) c ∧ (rsX bf tl C 9 3 = 0 → shp bf tl C a b c) ∧ shR2 a b c)) (fun _ => none) (fun u => (mW g cI cB cZ th len tl (u.1) (u.2.1) (u.2.2.1) (u.2.2.2.1) (u.2.2.2.2.1) (u.2.2.2.2.2.1) hL hS dp bf (u.2.2.2.2.2.2) td sa ad hi sl sv tr)) := by
  have q_e := hP.1
  have q_5 := hP.2.2.2.2
  refine qM_enterV (by decide) (Nat.le_of_ble_eq_true rfl) (fun p e R s m args below meth c Q ls A X hR hA hw hl hret => ?_)
  obtain ⟨hx, hb, hml, hown, hts, hK⟩ := X
  have hl : lv_has ls 4 [(0, .ref (g 0)), (1, .int (iI at8))] := hl
  suffices K : ∀ (H : Heap) (locs : List Loc), qw D A s.heap (mW g cI cB cZ th len tl ts te tk nu er eo hL hS dp bf dr td sa ad hi sl sv tr) H locs → W p l e R s m args below meth c H locs 0 0 Q (F0 m 0 ls []) from K s.heap [] hw
  clear hw
  intro H locs hw
  refine lv_aload_n hx hb dX7_readShape_0 rfl (lv_at hl 0 rfl) ?_
  refine q_get hx hb hts hown hK hw.1 ci_X7 0 rfl 10 (by decide) fl_X7_13 rfl dX7_readShape_1 ?_
  refine lv_iload_n hx hb dX7_readShape_4 rfl (lv_at hl 1 rfl) ?_
  refine lv_aload_n hx hb dX7_readShape_5 rfl (lv_at hl 0 rfl) ?_
  refine q_bipush hx hb dX7_readShape_6 rfl ?_
  refine q_sipush hx hb dX7_readShape_8 rfl ?_
  refine q_callM (As := [.int (iI 50), .int (iI 500)]) (rest := [.int (iI at8), .ref (g 2)]) (wr := []) hx hb hml hown hts hK (c_X7_read (C := C) (50) (500) (by first | omega | assumption) (by first | omega | assumption) (by exact hP) (by first | omega | assumption)) yi_X7_read ml_X7_111 (by rw [hR]; decide) hw hA [0, 1, 2, 3, 4, 5, 6, 7, 8, 9] [] rfl rfl (by decide) (by decide) (by decide) 0 rfl rfl rfl rfl hl.1 (lv_room (Nat.le_of_ble_eq_true rfl)) dX7_readShape_11 ⟨by rw [hR]; exact Nat.zero_le _, by rw [hR]; exact Nat.zero_le _⟩ (fun u_11 H locs hu_11 hw => ?_)
  obtain ⟨ts2_1, te2_1, tk2_1, nu2_1, er2_1, eo2_1, r2_1⟩ := u_11
  obtain ⟨hu_1_0, hu_1_1, hu_1_2⟩ : (PR bf tl ts2_1 te2_1 tk2_1 nu2_1 er2_1 eo2_1 (rdX bf tl 50 500 ((C)))) ∧ (rdX bf tl 50 500 ((C)) 9 3 = 0 → r2_1 = nuV bf ((C))) ∧ (50 ≤ r2_1 ∧ r2_1 ≤ 500) := hu_11
  have hw : qw D A s.heap (mW g cI cB cZ th len tl ts2_1 te2_1 tk2_1 nu2_1 er2_1 eo2_1 hL hS dp bf dr td sa ad hi sl sv tr) H locs := hw
  have b_1 := ()
  refine q_iast hx hb hK hw 2 0 rfl rfl (by omega) dX7_readShape_14 (fun H locs hw => ?_)
  have hw : qw D A s.heap (mW g cI cB cZ th len tl ts2_1 te2_1 tk2_1 nu2_1 er2_1 eo2_1 hL hS dp bf (uI dr at8 r2_1) td sa ad hi sl sv tr) H locs := hw
  obtain ⟨f_1, e_f_1⟩ : ∃ z, z = uI dr at8 r2_1 := ⟨_, rfl⟩
  have hw : qw D A s.heap (mW g cI cB cZ th len tl ts2_1 te2_1 tk2_1 nu2_1 er2_1 eo2_1 hL hS dp bf f_1 td sa ad hi sl sv tr) H locs := by rw [e_f_1]; exact hw
  refine lv_aload_n hx hb dX7_readShape_15 rfl (lv_at hl 0 rfl) ?_
  refine q_get hx hb hts hown hK hw.1 ci_X7 0 rfl 10 (by decide) fl_X7_13 rfl dX7_readShape_16 ?_
  refine lv_iload_n hx hb dX7_readShape_19 rfl (lv_at hl 1 rfl) ?_
  refine q_iconst hx hb dX7_readShape_20 ?_
  refine q_iadd hx hb dX7_readShape_21 ?_
  refine lv_aload_n hx hb dX7_readShape_22 rfl (lv_at hl 0 rfl) ?_
  refine q_bipush hx hb dX7_readShape_23 rfl ?_
  refine q_sipush hx hb dX7_readShape_25 rfl ?_
  refine q_callM (As := [.int (iI 30), .int (iI 500)]) (rest := [.int (iI (at8 + 1)), .ref (g 2)]) (wr := []) hx hb hml hown hts hK (c_X7_read (C := (rdX bf tl (50) (500) C)) (30) (500) (by first | omega | assumption) (by first | omega | assumption) (by exact hu_1_0) (by first | omega | assumption)) yi_X7_read ml_X7_111 (by rw [hR]; decide) hw hA [0, 1, 2, 3, 4, 5, 6, 7, 8, 9] [] rfl rfl (by decide) (by decide) (by decide) 0 rfl rfl rfl rfl hl.1 (lv_room (Nat.le_of_ble_eq_true rfl)) dX7_readShape_28 ⟨by rw [hR]; exact Nat.zero_le _, by rw [hR]; exact Nat.zero_le _⟩ (fun u_28 H locs hu_28 hw => ?_)
  obtain ⟨ts2_2, te2_2, tk2_2, nu2_2, er2_2, eo2_2, r2_2⟩ := u_28
  obtain ⟨hu_2_0, hu_2_1, hu_2_2⟩ : (PR bf tl ts2_2 te2_2 tk2_2 nu2_2 er2_2 eo2_2 (rdX bf tl 30 500 (((rdX bf tl (50) (500) C))))) ∧ (rdX bf tl 30 500 (((rdX bf tl (50) (500) C))) 9 3 = 0 → r2_2 = nuV bf (((rdX bf tl (50) (500) C)))) ∧ (30 ≤ r2_2 ∧ r2_2 ≤ 500) := hu_28
  have hw : qw D A s.heap (mW g cI cB cZ th len tl ts2_2 te2_2 tk2_2 nu2_2 er2_2 eo2_2 hL hS dp bf f_1 td sa ad hi sl sv tr) H locs := hw
  refine q_iast hx hb hK hw 2 0 rfl rfl (by omega) dX7_readShape_31 (fun H locs hw => ?_)
  have hw : qw D A s.heap (mW g cI cB cZ th len tl ts2_2 te2_2 tk2_2 nu2_2 er2_2 eo2_2 hL hS dp bf (uI f_1 (at8 + 1) r2_2) td sa ad hi sl sv tr) H locs := hw
  obtain ⟨f_2, e_f_2⟩ : ∃ z, z = uI f_1 (at8 + 1) r2_2 := ⟨_, rfl⟩
  have hw : qw D A s.heap (mW g cI cB cZ th len tl ts2_2 te2_2 tk2_2 nu2_2 er2_2 eo2_2 hL hS dp bf f_2 td sa ad hi sl sv tr) H locs := by rw [e_f_2]; exact hw
  have q_p : PR bf tl _ _ _ _ _ _ (rsA bf tl C) := hu_2_0
  have q_p1 := q_p.1
  have q_p3 := q_p.2.1
  have q_p4 := q_p.2.2.2.1
  have q_p5 := q_p.2.2.2.2
  refine lv_aload_n hx hb dX7_readShape_32 rfl (lv_at hl 0 rfl) ?_
  refine q_get hx hb hts hown hK hw.1 ci_X7 0 rfl 8 (by decide) fl_X7_79 rfl dX7_readShape_33 ?_
  refine q_if_ne (tgt := 51) hx hb dX7_readShape_36 (by decide) (by omega) (fun c_36 => ?_) (fun c_36 => ?_)
  · refine q_iconst hx hb dX7_readShape_51 ?_
    refine lv_istore_n (lv' := [(2, .int (iI 0)), (0, .ref (g 0)), (1, .int (iI at8))]) hx hb dX7_readShape_52 rfl hl (by decide) rfl (fun ls hl => ?_)
    refine lv_iload_n hx hb dX7_readShape_53 rfl (lv_at hl 0 rfl) ?_
    refine q_if_eq (tgt := 61) hx hb dX7_readShape_54 (by decide) (by omega) (fun c_54 => ?_) (fun c_54 => absurd c_54 (by omega))
    refine lv_aload_n hx hb dX7_readShape_61 rfl (lv_at hl 1 rfl) ?_
    refine q_iconst hx hb dX7_readShape_62 ?_
    refine q_bipush hx hb dX7_readShape_63 rfl ?_
    refine q_callM (As := [.int (iI 0), .int (iI 99)]) (rest := []) (wr := []) hx hb hml hown hts hK (c_X7_read (C := (rsA bf tl C)) (0) (99) (by first | omega | assumption) (by first | omega | assumption) (by exact q_p) (by first | omega | assumption)) yi_X7_read ml_X7_111 (by rw [hR]; decide) hw hA [0, 1, 2, 3, 4, 5, 6, 7, 8, 9] [] rfl rfl (by decide) (by decide) (by decide) 0 rfl rfl rfl rfl hl.1 (lv_room (Nat.le_of_ble_eq_true rfl)) dX7_readShape_65 ⟨by rw [hR]; exact Nat.zero_le _, by rw [hR]; exact Nat.zero_le _⟩ (fun u_65 H locs hu_65 hw => ?_)
    obtain ⟨ts2_3, te2_3, tk2_3, nu2_3, er2_3, eo2_3, r2_3⟩ := u_65
    obtain ⟨hu_3_0, hu_3_1, hu_3_2⟩ : (PR bf tl ts2_3 te2_3 tk2_3 nu2_3 er2_3 eo2_3 (rdX bf tl 0 99 (((rsA bf tl C))))) ∧ (rdX bf tl 0 99 (((rsA bf tl C))) 9 3 = 0 → r2_3 = nuV bf (((rsA bf tl C)))) ∧ (0 ≤ r2_3 ∧ r2_3 ≤ 99) := hu_65
    have hw : qw D A s.heap (mW g cI cB cZ th len tl ts2_3 te2_3 tk2_3 nu2_3 er2_3 eo2_3 hL hS dp bf f_2 td sa ad hi sl sv tr) H locs := hw
    have b_2 := ()
    refine lv_istore_n (lv' := [(3, .int (iI r2_3)), (2, .int (iI 0)), (0, .ref (g 0)), (1, .int (iI at8))]) hx hb dX7_readShape_68 rfl hl (by decide) rfl (fun ls hl => ?_)
    refine lv_aload_n hx hb dX7_readShape_69 rfl (lv_at hl 2 rfl) ?_
    refine q_get hx hb hts hown hK hw.1 ci_X7 0 rfl 10 (by decide) fl_X7_13 rfl dX7_readShape_70 ?_
    refine lv_iload_n hx hb dX7_readShape_73 rfl (lv_at hl 3 rfl) ?_
    refine q_iconst hx hb dX7_readShape_74 ?_
    refine q_iadd hx hb dX7_readShape_75 ?_
    refine lv_iload_n hx hb dX7_readShape_76 rfl (lv_at hl 1 rfl) ?_
    refine q_if_eq (tgt := 85) hx hb dX7_readShape_77 (by decide) (by omega) (fun c_77 => ?_) (fun c_77 => absurd c_77 (by omega))
    refine lv_iload_n hx hb dX7_readShape_85 rfl (lv_at hl 0 rfl) ?_
    refine q_iast hx hb hK hw 2 0 rfl rfl (by omega) dX7_readShape_86 (fun H locs hw => ?_)
    have hw : qw D A s.heap (mW g cI cB cZ th len tl ts2_3 te2_3 tk2_3 nu2_3 er2_3 eo2_3 hL hS dp bf (uI f_2 (at8 + 2) r2_3) td sa ad hi sl sv tr) H locs := hw
    obtain ⟨f_3, e_f_3⟩ : ∃ z, z = uI f_2 (at8 + 2) r2_3 := ⟨_, rfl⟩
    have hw : qw D A s.heap (mW g cI cB cZ th len tl ts2_3 te2_3 tk2_3 nu2_3 er2_3 eo2_3 hL hS dp bf f_3 td sa ad hi sl sv tr) H locs := by rw [e_f_3]; exact hw
    exact hret (ts2_3, te2_3, tk2_3, nu2_3, er2_3, eo2_3, f_3) H locs 87 ls ⟨(by first | (have hq : lessQ (rsA bf tl C) := ⟨by omega, by have w3 := q_p4 (by omega); omega⟩; rw [rs_y hq]; exact hu_3_0) | (have hq : ¬ lessQ (rsA bf tl C) := fun w => (by first | omega | (have w3 := q_p4 w.1; omega)); rw [rs_n hq]; exact hu_3_0)), (by rw [e_f_3, e_f_2, e_f_1]; first | (have hq : lessQ (rsA bf tl C) := ⟨by omega, by have w3 := q_p4 (by omega); omega⟩; exact ⟨_, _, _, rfl, fun w => shp_y hq w hu_1_1 hu_2_1 hu_3_1, (by have a1 := hu_1_2; have a2 := hu_2_2; have a3 := hu_3_2; unfold shR2; omega)⟩) | (have hq : ¬ lessQ (rsA bf tl C) := fun w => (by first | omega | (have w3 := q_p4 w.1; omega)); exact ⟨_, _, _, rfl, fun w => shp_n hq w hu_1_1 hu_2_1 hu_3_1, (by have a1 := hu_1_2; have a2 := hu_2_2; have a3 := hu_3_2; unfold shR2; omega)⟩))⟩ hw dX7_readShape_87
  · refine lv_aload_n hx hb dX7_readShape_39 rfl (lv_at hl 0 rfl) ?_
    refine q_get hx hb hts hown hK hw.1 ci_X7 0 rfl 6 (by decide) fl_X7_69 rfl dX7_readShape_40 ?_
    refine q_iconst hx hb dX7_readShape_43 ?_
    refine q_icmp_ne (tgt := 51) hx hb dX7_readShape_44 (by decide) (by omega) (fun c_44 => ?_) (fun c_44 => ?_)
    · refine q_iconst hx hb dX7_readShape_51 ?_
      refine lv_istore_n (lv' := [(2, .int (iI 0)), (0, .ref (g 0)), (1, .int (iI at8))]) hx hb dX7_readShape_52 rfl hl (by decide) rfl (fun ls hl => ?_)
      refine lv_iload_n hx hb dX7_readShape_53 rfl (lv_at hl 0 rfl) ?_
      refine q_if_eq (tgt := 61) hx hb dX7_readShape_54 (by decide) (by omega) (fun c_54 => ?_) (fun c_54 => absurd c_54 (by omega))
      refine lv_aload_n hx hb dX7_readShape_61 rfl (lv_at hl 1 rfl) ?_
      refine q_iconst hx hb dX7_readShape_62 ?_
      refine q_bipush hx hb dX7_readShape_63 rfl ?_
      refine q_callM (As := [.int (iI 0), .int (iI 99)]) (rest := []) (wr := []) hx hb hml hown hts hK (c_X7_read (C := (rsA bf tl C)) (0) (99) (by first | omega | assumption) (by first | omega | assumption) (by exact q_p) (by first | omega | assumption)) yi_X7_read ml_X7_111 (by rw [hR]; decide) hw hA [0, 1, 2, 3, 4, 5, 6, 7, 8, 9] [] rfl rfl (by decide) (by decide) (by decide) 0 rfl rfl rfl rfl hl.1 (lv_room (Nat.le_of_ble_eq_true rfl)) dX7_readShape_65 ⟨by rw [hR]; exact Nat.zero_le _, by rw [hR]; exact Nat.zero_le _⟩ (fun u_65 H locs hu_65 hw => ?_)
      obtain ⟨ts2_4, te2_4, tk2_4, nu2_4, er2_4, eo2_4, r2_4⟩ := u_65
      obtain ⟨hu_4_0, hu_4_1, hu_4_2⟩ : (PR bf tl ts2_4 te2_4 tk2_4 nu2_4 er2_4 eo2_4 (rdX bf tl 0 99 (((rsA bf tl C))))) ∧ (rdX bf tl 0 99 (((rsA bf tl C))) 9 3 = 0 → r2_4 = nuV bf (((rsA bf tl C)))) ∧ (0 ≤ r2_4 ∧ r2_4 ≤ 99) := hu_65
      have hw : qw D A s.heap (mW g cI cB cZ th len tl ts2_4 te2_4 tk2_4 nu2_4 er2_4 eo2_4 hL hS dp bf f_2 td sa ad hi sl sv tr) H locs := hw
      have b_3 := ()
      refine lv_istore_n (lv' := [(3, .int (iI r2_4)), (2, .int (iI 0)), (0, .ref (g 0)), (1, .int (iI at8))]) hx hb dX7_readShape_68 rfl hl (by decide) rfl (fun ls hl => ?_)
      refine lv_aload_n hx hb dX7_readShape_69 rfl (lv_at hl 2 rfl) ?_
      refine q_get hx hb hts hown hK hw.1 ci_X7 0 rfl 10 (by decide) fl_X7_13 rfl dX7_readShape_70 ?_
      refine lv_iload_n hx hb dX7_readShape_73 rfl (lv_at hl 3 rfl) ?_
      refine q_iconst hx hb dX7_readShape_74 ?_
      refine q_iadd hx hb dX7_readShape_75 ?_
      refine lv_iload_n hx hb dX7_readShape_76 rfl (lv_at hl 1 rfl) ?_
      refine q_if_eq (tgt := 85) hx hb dX7_readShape_77 (by decide) (by omega) (fun c_77 => ?_) (fun c_77 => absurd c_77 (by omega))
      refine lv_iload_n hx hb dX7_readShape_85 rfl (lv_at hl 0 rfl) ?_
      refine q_iast hx hb hK hw 2 0 rfl rfl (by omega) dX7_readShape_86 (fun H locs hw => ?_)
      have hw : qw D A s.heap (mW g cI cB cZ th len tl ts2_4 te2_4 tk2_4 nu2_4 er2_4 eo2_4 hL hS dp bf (uI f_2 (at8 + 2) r2_4) td sa ad hi sl sv tr) H locs := hw
      obtain ⟨f_4, e_f_4⟩ : ∃ z, z = uI f_2 (at8 + 2) r2_4 := ⟨_, rfl⟩
      have hw : qw D A s.heap (mW g cI cB cZ th len tl ts2_4 te2_4 tk2_4 nu2_4 er2_4 eo2_4 hL hS dp bf f_4 td sa ad hi sl sv tr) H locs := by rw [e_f_4]; exact hw
      exact hret (ts2_4, te2_4, tk2_4, nu2_4, er2_4, eo2_4, f_4) H locs 87 ls ⟨(by first | (have hq : lessQ (rsA bf tl C) := ⟨by omega, by have w3 := q_p4 (by omega); omega⟩; rw [rs_y hq]; exact hu_4_0) | (have hq : ¬ lessQ (rsA bf tl C) := fun w => (by first | omega | (have w3 := q_p4 w.1; omega)); rw [rs_n hq]; exact hu_4_0)), (by rw [e_f_4, e_f_2, e_f_1]; first | (have hq : lessQ (rsA bf tl C) := ⟨by omega, by have w3 := q_p4 (by omega); omega⟩; exact ⟨_, _, _, rfl, fun w => shp_y hq w hu_1_1 hu_2_1 hu_4_1, (by have a1 := hu_1_2; have a2 := hu_2_2; have a3 := hu_4_2; unfold shR2; omega)⟩) | (have hq : ¬ lessQ (rsA bf tl C) := fun w => (by first | omega | (have w3 := q_p4 w.1; omega)); exact ⟨_, _, _, rfl, fun w => shp_n hq w hu_1_1 hu_2_1 hu_4_1, (by have a1 := hu_1_2; have a2 := hu_2_2; have a3 := hu_4_2; unfold shR2; omega)⟩))⟩ hw dX7_readShape_87
    · refine q_iconst hx hb dX7_readShape_47 ?_
      refine lv_goto (tgt := 52) hx hb dX7_readShape_48 (by decide) ?_
      refine lv_istore_n (lv' := [(2, .int (iI 1)), (0, .ref (g 0)), (1, .int (iI at8))]) hx hb dX7_readShape_52 rfl hl (by decide) rfl (fun ls hl => ?_)
      refine lv_iload_n hx hb dX7_readShape_53 rfl (lv_at hl 0 rfl) ?_
      refine q_if_eq (tgt := 61) hx hb dX7_readShape_54 (by decide) (by omega) (fun c_54 => absurd c_54 (by omega)) (fun c_54 => ?_)
      refine lv_aload_n hx hb dX7_readShape_57 rfl (lv_at hl 1 rfl) ?_
      refine q_callM (As := []) (rest := []) (wr := []) hx hb hml hown hts hK (c_X7_goOn (C := (rsA bf tl C)) (by first | omega | assumption) (by first | omega | assumption) (by exact q_p)) yi_X7_goOn ml_X7_101 (by rw [hR]; decide) hw hA [0, 1, 2, 3, 4, 5, 6, 7, 8, 9] [] rfl rfl (by decide) (by decide) (by decide) 0 rfl rfl rfl rfl hl.1 (lv_room (Nat.le_of_ble_eq_true rfl)) dX7_readShape_58 ⟨by rw [hR]; exact Nat.zero_le _, by rw [hR]; exact Nat.zero_le _⟩ (fun u_58 H locs hu_58 hw => ?_)
      obtain ⟨ts2_5, te2_5, tk2_5, nu2_5⟩ := u_58
      have hu_5_0 : PR bf tl ts2_5 te2_5 tk2_5 nu2_5 er2_2 eo2_2 (goX bf tl (((rsA bf tl C)))) := hu_58
      have hw : qw D A s.heap (mW g cI cB cZ th len tl ts2_5 te2_5 tk2_5 nu2_5 er2_2 eo2_2 hL hS dp bf f_2 td sa ad hi sl sv tr) H locs := hw
      have b_4 := ()
      refine lv_aload_n hx hb dX7_readShape_61 rfl (lv_at hl 1 rfl) ?_
      refine q_iconst hx hb dX7_readShape_62 ?_
      refine q_bipush hx hb dX7_readShape_63 rfl ?_
      refine q_callM (As := [.int (iI 0), .int (iI 99)]) (rest := []) (wr := []) hx hb hml hown hts hK (c_X7_read (C := (goX bf tl (rsA bf tl C))) (0) (99) (by first | omega | assumption) (by first | omega | assumption) (by exact hu_5_0) (by first | omega | assumption)) yi_X7_read ml_X7_111 (by rw [hR]; decide) hw hA [0, 1, 2, 3, 4, 5, 6, 7, 8, 9] [] rfl rfl (by decide) (by decide) (by decide) 0 rfl rfl rfl rfl hl.1 (lv_room (Nat.le_of_ble_eq_true rfl)) dX7_readShape_65 ⟨by rw [hR]; exact Nat.zero_le _, by rw [hR]; exact Nat.zero_le _⟩ (fun u_65 H locs hu_65 hw => ?_)
      obtain ⟨ts2_6, te2_6, tk2_6, nu2_6, er2_6, eo2_6, r2_6⟩ := u_65
      obtain ⟨hu_6_0, hu_6_1, hu_6_2⟩ : (PR bf tl ts2_6 te2_6 tk2_6 nu2_6 er2_6 eo2_6 (rdX bf tl 0 99 (((goX bf tl (rsA bf tl C)))))) ∧ (rdX bf tl 0 99 (((goX bf tl (rsA bf tl C)))) 9 3 = 0 → r2_6 = nuV bf (((goX bf tl (rsA bf tl C))))) ∧ (0 ≤ r2_6 ∧ r2_6 ≤ 99) := hu_65
      have hw : qw D A s.heap (mW g cI cB cZ th len tl ts2_6 te2_6 tk2_6 nu2_6 er2_6 eo2_6 hL hS dp bf f_2 td sa ad hi sl sv tr) H locs := hw
      refine lv_istore_n (lv' := [(3, .int (iI r2_6)), (2, .int (iI 1)), (0, .ref (g 0)), (1, .int (iI at8))]) hx hb dX7_readShape_68 rfl hl (by decide) rfl (fun ls hl => ?_)
      refine lv_aload_n hx hb dX7_readShape_69 rfl (lv_at hl 2 rfl) ?_
      refine q_get hx hb hts hown hK hw.1 ci_X7 0 rfl 10 (by decide) fl_X7_13 rfl dX7_readShape_70 ?_
      refine lv_iload_n hx hb dX7_readShape_73 rfl (lv_at hl 3 rfl) ?_
      refine q_iconst hx hb dX7_readShape_74 ?_
      refine q_iadd hx hb dX7_readShape_75 ?_
      refine lv_iload_n hx hb dX7_readShape_76 rfl (lv_at hl 1 rfl) ?_
      refine q_if_eq (tgt := 85) hx hb dX7_readShape_77 (by decide) (by omega) (fun c_77 => absurd c_77 (by omega)) (fun c_77 => ?_)
      refine lv_iload_n hx hb dX7_readShape_80 rfl (lv_at hl 0 rfl) ?_
      refine q_ineg hx hb dX7_readShape_81 ?_
      refine lv_goto (tgt := 86) hx hb dX7_readShape_82 (by decide) ?_
      refine q_iast hx hb hK hw 2 0 rfl rfl (by omega) dX7_readShape_86 (fun H locs hw => ?_)
      have hw : qw D A s.heap (mW g cI cB cZ th len tl ts2_6 te2_6 tk2_6 nu2_6 er2_6 eo2_6 hL hS dp bf (uI f_2 (at8 + 2) (-r2_6)) td sa ad hi sl sv tr) H locs := hw
      obtain ⟨f_5, e_f_5⟩ : ∃ z, z = uI f_2 (at8 + 2) (-r2_6) := ⟨_, rfl⟩
      have hw : qw D A s.heap (mW g cI cB cZ th len tl ts2_6 te2_6 tk2_6 nu2_6 er2_6 eo2_6 hL hS dp bf f_5 td sa ad hi sl sv tr) H locs := by rw [e_f_5]; exact hw
      exact hret (ts2_6, te2_6, tk2_6, nu2_6, er2_6, eo2_6, f_5) H locs 87 ls ⟨(by first | (have hq : lessQ (rsA bf tl C) := ⟨by omega, by have w3 := q_p4 (by omega); omega⟩; rw [rs_y hq]; exact hu_6_0) | (have hq : ¬ lessQ (rsA bf tl C) := fun w => (by first | omega | (have w3 := q_p4 w.1; omega)); rw [rs_n hq]; exact hu_6_0)), (by rw [e_f_5, e_f_2, e_f_1]; first | (have hq : lessQ (rsA bf tl C) := ⟨by omega, by have w3 := q_p4 (by omega); omega⟩; exact ⟨_, _, _, rfl, fun w => shp_y hq w hu_1_1 hu_2_1 hu_6_1, (by have a1 := hu_1_2; have a2 := hu_2_2; have a3 := hu_6_2; unfold shR2; omega)⟩) | (have hq : ¬ lessQ (rsA bf tl C) := fun w => (by first | omega | (have w3 := q_p4 w.1; omega)); exact ⟨_, _, _, rfl, fun w => shp_n hq w hu_1_1 hu_2_1 hu_6_1, (by have a1 := hu_1_2; have a2 := hu_2_2; have a3 := hu_6_2; unfold shR2; omega)⟩))⟩ hw dX7_readShape_87
