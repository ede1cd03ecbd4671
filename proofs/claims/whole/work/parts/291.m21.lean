variable {l : Launch} {z : Nat → Nat} {T C : Nat → Int → Int} {J : Int → Int} {D : va_G} {cI cB cZ cS cJ : ClassId} {g : Nat → Nat} {th len tl ts te tk nu er eo hL hS dp : Int} {bf dr td sa ad hi sl sv tr : Int → Int}
theorem lo_dec {fu : Nat} {er er2 te te2 n : Int} (h : (if er = 0 then n - te + 1 else 0).toNat = fu) (h0 : er = 0) (ht : te ≤ n) (h1 : er2 = 0 → te < te2) : (if er2 = 0 then n - te2 + 1 else 0).toNat < fu := by
  rw [if_pos h0] at h
  by_cases c : er2 = 0
  · have w := h1 c
    rw [if_pos c]
    omega
  · rw [if_neg c]
    show 0 < fu
    omega

set_option maxHeartbeats 4000000 in
set_option maxRecDepth 100000 in
theorem c_X7_parse_no (nn : Int) (hbf : byR bf) (hln : 0 ≤ len ∧ len ≤ 700) (hrn : rg nn) (hn : ¬ (0 ≤ nn ∧ nn ≤ len)) : qM l D (tyG cI cB cZ cS cJ) yX7_parse cX7_parse 2 (Option.some FieldType.int) 1 22 [.ref (g 0), .int (iI nn)] (mW g cI cB cZ th len tl ts te tk nu er eo hL hS dp bf dr td sa ad hi sl sv tr) (fun u : Unit => True) (fun u => some (.int (iI 0))) (fun u => (mW g cI cB cZ 1 len tl ts te tk nu er eo hL hS dp bf dr td sa ad hi sl sv tr)) := by
  refine qM_enterI (val := fun u => iI 0) (by decide) (Nat.le_of_ble_eq_true rfl) (fun u hu => ⟨rfl, nar_i _⟩) (fun p e R s m args below meth c Q ls A X hR hA hw hl hret => ?_)
  obtain ⟨hx, hb, hml, hown, hts, hK⟩ := X
  have hl : lv_has ls 2 [(0, .ref (g 0)), (1, .int (iI nn))] := hl
  suffices K : ∀ (H : Heap) (locs : List Loc), qw D A s.heap (mW g cI cB cZ th len tl ts te tk nu er eo hL hS dp bf dr td sa ad hi sl sv tr) H locs → W p l e R s m args below meth c H locs 0 0 Q (F0 m 0 ls []) from K s.heap [] hw
  clear hw
  intro H locs hw
  refine lv_aload_n hx hb dX7_parse_0 rfl (lv_at hl 0 rfl) ?_
  refine q_iconst hx hb dX7_parse_1 ?_
  refine q_put hx hb hts hown hK hw ci_X7 0 rfl 0 (by decide) fl_X7_45 rfl rfl rfl (Nat.le_of_ble_eq_true rfl) dX7_parse_2 (fun H locs hw => ?_)
  have hw : qw D A s.heap (mW g cI cB cZ 0 len tl ts te tk nu er eo hL hS dp bf dr td sa ad hi sl sv tr) H locs := hw
  refine lv_iload_n hx hb dX7_parse_5 rfl (lv_at hl 1 rfl) ?_
  refine q_iconst hx hb dX7_parse_6 ?_
  refine lv_aload_n hx hb dX7_parse_7 rfl (lv_at hl 0 rfl) ?_
  refine q_get hx hb hts hown hK hw.1 ci_X7 0 rfl 2 (by decide) fl_X7_49 rfl dX7_parse_8 ?_
  refine q_callPS (As := [.int (iI nn), .int (iI 0), .int (iI len)]) (rest := []) hx hb hml hown hts hK (c_X7_within (nn) (0) (len) (by first | omega | assumption) (by first | omega | assumption) (by first | omega | assumption)) yt_X7_within ml_X7_72 (by rw [hR]; decide) (show va_P D vwCl [] _ from fun k q h => by simp at h)  rfl rfl hl.1 (lv_room (Nat.le_of_ble_eq_true rfl)) dX7_parse_11 ⟨by rw [hR]; exact Nat.zero_le _, by rw [hR]; exact Nat.zero_le _⟩ ?_
  refine q_ifb_ne (tgt := 23) hx hb dX7_parse_14 (by decide) (fun c_14 => absurd c_14 (by omega)) (fun c_14 => ?_)
  refine lv_aload_n hx hb dX7_parse_17 rfl (lv_at hl 0 rfl) ?_
  refine q_iconst hx hb dX7_parse_18 ?_
  refine q_callM (As := [.int (iI 1)]) (rest := []) (wr := []) hx hb hml hown hts hK (c_X7_fail (1)) yi_X7_fail ml_X7_156 (by rw [hR]; decide) hw hA [0, 1, 2, 3, 4, 5, 6, 7, 8, 9] [] rfl rfl (by decide) (by decide) (by decide) 0 rfl rfl rfl rfl hl.1 (lv_room (Nat.le_of_ble_eq_true rfl)) dX7_parse_19 ⟨by rw [hR]; exact Nat.zero_le _, by rw [hR]; exact Nat.zero_le _⟩ (fun u_19 H locs hu_19 hw => ?_)
  obtain ⟨th2_1, rfl⟩ : ∃ z, z = u_19 := ⟨_, rfl⟩
  have hu_1_0 : th2_1 = 1 := hu_19
  have hw : qw D A s.heap (mW g cI cB cZ th2_1 len tl ts te tk nu er eo hL hS dp bf dr td sa ad hi sl sv tr) H locs := hw
  have hw : qw D A s.heap (mW g cI cB cZ 1 len tl ts te tk nu er eo hL hS dp bf dr td sa ad hi sl sv tr) H locs := by
    have hw2 := hw
    have ee : th2_1 = 1 := by first | rfl | omega
    rw [ee] at hw2
    exact hw2
  exact hret () H locs 22 ls trivial hw dX7_parse_22

set_option maxHeartbeats 4000000 in
set_option maxRecDepth 100000 in
theorem c_X7_parse_e (nn : Int) (hbf : byR bf) (hln : 0 ≤ len ∧ len ≤ 700) (hn : 0 ≤ nn ∧ nn ≤ len) (hnu : rg nu) (heo : 0 ≤ eo ∧ eo ≤ 700) (hp : paX bf nn 9 3 ≠ 0) : qMz l (ZZ z) D (tyG cI cB cZ cS cJ) yX7_parse cX7_parse 2 (Option.some FieldType.int) 8 172 [.ref (g 0), .int (iI nn)] (mW g cI cB cZ th len tl ts te tk nu er eo hL hS dp bf dr td sa ad hi sl sv tr) (fun u : (Int) × (Int) × (Int) × (Int) × (Int) × (Int) × (Int → Int) × (Int) × (Int) => (rg ((u.2.2.2.1))) ∧ (0 ≤ ((u.2.2.2.2.2.1)) ∧ ((u.2.2.2.2.2.1)) ≤ 700)) (fun u => some (.int (iI ((-2) - (8 * paX bf nn 9 4 + paX bf nn 9 3))))) (fun u => (mW g cI cB cZ 0 0 nn (u.1) (u.2.1) (u.2.2.1) (u.2.2.2.1) (u.2.2.2.2.1) (u.2.2.2.2.2.1) (u.2.2.2.2.2.2.2.1) (u.2.2.2.2.2.2.2.2) dp bf (u.2.2.2.2.2.2.1) td sa ad hi sl sv tr)) := by
  refine qMz_enterI (val := fun u => iI ((-2) - (8 * paX bf nn 9 4 + paX bf nn 9 3))) (by decide) (Nat.le_of_ble_eq_true rfl) (fun u hu => ⟨rfl, nar_i _⟩) (fun p e R s m args below meth c Q ls A X hR hA hw hZ hl hret => ?_)
  obtain ⟨hx, hb, hml, hown, hts, hK⟩ := X
  have hl : lv_has ls 2 [(0, .ref (g 0)), (1, .int (iI nn))] := hl
  suffices K : ∀ (H : Heap) (locs : List Loc), qw D A s.heap (mW g cI cB cZ th len tl ts te tk nu er eo hL hS dp bf dr td sa ad hi sl sv tr) H locs → W p l e R s m args below meth c H locs 0 0 Q (F0 m 0 ls []) from K s.heap [] hw
  clear hw
  intro H locs hw
  refine lv_aload_n hx hb dX7_parse_0 rfl (lv_at hl 0 rfl) ?_
  refine q_iconst hx hb dX7_parse_1 ?_
  refine q_put hx hb hts hown hK hw ci_X7 0 rfl 0 (by decide) fl_X7_45 rfl rfl rfl (Nat.le_of_ble_eq_true rfl) dX7_parse_2 (fun H locs hw => ?_)
  have hw : qw D A s.heap (mW g cI cB cZ 0 len tl ts te tk nu er eo hL hS dp bf dr td sa ad hi sl sv tr) H locs := hw
  refine lv_iload_n hx hb dX7_parse_5 rfl (lv_at hl 1 rfl) ?_
  refine q_iconst hx hb dX7_parse_6 ?_
  refine lv_aload_n hx hb dX7_parse_7 rfl (lv_at hl 0 rfl) ?_
  refine q_get hx hb hts hown hK hw.1 ci_X7 0 rfl 2 (by decide) fl_X7_49 rfl dX7_parse_8 ?_
  refine q_callPS (As := [.int (iI nn), .int (iI 0), .int (iI len)]) (rest := []) hx hb hml hown hts hK (c_X7_within (nn) (0) (len) (by first | omega | assumption) (by first | omega | assumption) (by first | omega | assumption)) yt_X7_within ml_X7_72 (by rw [hR]; decide) (show va_P D vwCl [] _ from fun k q h => by simp at h)  rfl rfl hl.1 (lv_room (Nat.le_of_ble_eq_true rfl)) dX7_parse_11 ⟨by rw [hR]; exact Nat.zero_le _, by rw [hR]; exact Nat.zero_le _⟩ ?_
  refine q_ifb_ne (tgt := 23) hx hb dX7_parse_14 (by decide) (fun c_14 => ?_) (fun c_14 => absurd c_14 (by omega))
  refine lv_aload_n hx hb dX7_parse_23 rfl (lv_at hl 0 rfl) ?_
  refine lv_iload_n hx hb dX7_parse_24 rfl (lv_at hl 1 rfl) ?_
  refine q_put hx hb hts hown hK hw ci_X7 0 rfl 3 (by decide) fl_X7_56 rfl rfl rfl (Nat.le_of_ble_eq_true rfl) dX7_parse_25 (fun H locs hw => ?_)
  have hw : qw D A s.heap (mW g cI cB cZ 0 len nn ts te tk nu er eo hL hS dp bf dr td sa ad hi sl sv tr) H locs := hw
  refine lv_aload_n hx hb dX7_parse_28 rfl (lv_at hl 0 rfl) ?_
  refine q_iconst hx hb dX7_parse_29 ?_
  refine q_put hx hb hts hown hK hw ci_X7 0 rfl 2 (by decide) fl_X7_49 rfl rfl rfl (Nat.le_of_ble_eq_true rfl) dX7_parse_30 (fun H locs hw => ?_)
  have hw : qw D A s.heap (mW g cI cB cZ 0 0 nn ts te tk nu er eo hL hS dp bf dr td sa ad hi sl sv tr) H locs := hw
  refine lv_aload_n hx hb dX7_parse_33 rfl (lv_at hl 0 rfl) ?_
  refine q_iconst hx hb dX7_parse_34 ?_
  refine q_put hx hb hts hown hK hw ci_X7 0 rfl 5 (by decide) fl_X7_59 rfl rfl rfl (Nat.le_of_ble_eq_true rfl) dX7_parse_35 (fun H locs hw => ?_)
  have hw : qw D A s.heap (mW g cI cB cZ 0 0 nn ts 0 tk nu er eo hL hS dp bf dr td sa ad hi sl sv tr) H locs := hw
  refine lv_aload_n hx hb dX7_parse_38 rfl (lv_at hl 0 rfl) ?_
  refine q_iconst hx hb dX7_parse_39 ?_
  refine q_put hx hb hts hown hK hw ci_X7 0 rfl 8 (by decide) fl_X7_79 rfl rfl rfl (Nat.le_of_ble_eq_true rfl) dX7_parse_40 (fun H locs hw => ?_)
  have hw : qw D A s.heap (mW g cI cB cZ 0 0 nn ts 0 tk nu 0 eo hL hS dp bf dr td sa ad hi sl sv tr) H locs := hw
  refine lv_aload_n hx hb dX7_parse_43 rfl (lv_at hl 0 rfl) ?_
  refine q_callM (As := []) (rest := []) (wr := []) hx hb hml hown hts hK c_X7_setDefaults yi_X7_setDefaults ml_X7_39 (by rw [hR]; decide) hw hA [0, 1, 2, 3, 4, 5, 6, 7, 8, 9] [] rfl rfl (by decide) (by decide) (by decide) 0 rfl rfl rfl rfl hl.1 (lv_room (Nat.le_of_ble_eq_true rfl)) dX7_parse_44 ⟨by rw [hR]; exact Nat.zero_le _, by rw [hR]; exact Nat.zero_le _⟩ (fun u_44 H locs hu_44 hw => ?_)
  obtain ⟨d2_1, rfl⟩ : ∃ z, z = u_44 := ⟨_, rfl⟩
  have hu_1_0 : ∀ k : Int, 0 ≤ k → k < 288 → d2_1 k = dfV k := hu_44
  have hw : qw D A s.heap (mW g cI cB cZ 0 0 nn ts 0 tk nu 0 eo 0 0 dp bf d2_1 td sa ad hi sl sv tr) H locs := hw
  have h_dd : ∀ k : Int, 0 ≤ k → k < 288 → d2_1 k = dfV k := by assumption
  refine lv_aload_n hx hb dX7_parse_47 rfl (lv_at hl 0 rfl) ?_
  refine q_callM (As := []) (rest := []) (wr := []) hx hb hml hown hts hK (c_X7_nextToken (by first | omega | assumption) (by first | omega | assumption) (by first | omega | assumption) (by first | omega | assumption)) yi_X7_nextToken ml_X7_94 (by rw [hR]; decide) hw hA [0, 1, 2, 3, 4, 5, 6, 7, 8, 9] [] rfl rfl (by decide) (by decide) (by decide) 0 rfl rfl rfl rfl hl.1 (lv_room (Nat.le_of_ble_eq_true rfl)) dX7_parse_48 ⟨by rw [hR]; exact Nat.zero_le _, by rw [hR]; exact Nat.zero_le _⟩ (fun u_48 H locs hu_48 hw => ?_)
  obtain ⟨ts2_2, te2_2, tk2_2, nu2_2⟩ := u_48
  obtain ⟨hu_2_0, hu_2_1, hu_2_2, hu_2_3, hu_2_4, hu_2_5⟩ : (ts2_2 = sk bf nn 0) ∧ (te2_2 = tkE bf nn ts2_2) ∧ (tk2_2 = tkK bf nn ts2_2) ∧ (tk2_2 = 2 → nu2_2 = nv bf ts2_2 (te2_2 - ts2_2)) ∧ (rg nu2_2) ∧ (tk2_2 = 2 → 0 ≤ nu2_2 ∧ nu2_2 ≤ 9999) := hu_48
  have hw : qw D A s.heap (mW g cI cB cZ 0 0 nn ts2_2 te2_2 tk2_2 nu2_2 0 eo 0 0 dp bf d2_1 td sa ad hi sl sv tr) H locs := hw
  refine lv_aload_n hx hb dX7_parse_51 rfl (lv_at hl 0 rfl) ?_
  have h_F := PR_fe (f := bf) (n := nn) (by omega) heo hu_2_0 hu_2_1 hu_2_2 hu_2_3 hu_2_4 hu_2_5
  refine lv_aload_n hx hb dX7_parse_52 rfl (lv_at hl 0 rfl) ?_
  refine va_ldcS hx hb hown (hZ.2.2.2.1 _ lt_X7_159) dX7_parse_53 ?_
  refine q_callPz (As := [.ref (z 10)]) (rest := [.ref (g 0)]) (zz_ok z) hx hb hml hown hts hK (c_X7_isWord_c (C := (fe0 bf nn)) (i := 0) (by first | omega | assumption) (by first | omega | assumption) (by decide) (by exact h_F)) yi_X7_isWord ml_X7_117 (by rw [hR]; decide) hw.1 (z_M (zz_ok z) hZ hw hA [0, 1, 2, 3, 4, 5, 6, 7, 8, 9] rfl) 0 rfl rfl rfl rfl hl.1 (lv_room (Nat.le_of_ble_eq_true rfl)) dX7_parse_55 ⟨by rw [hR]; exact Nat.zero_le _, by rw [hR]; exact Nat.zero_le _⟩ ?_
  refine q_iconst hx hb dX7_parse_58 ?_
  refine q_callM (As := [.int (iI (bI (wdX bf (((fe0 bf nn))) 0))), .int (iI 1)]) (rest := []) (wr := []) hx hb hml hown hts hK (c_X7_must (C := (fe0 bf nn)) (bI (wdX bf (((fe0 bf nn))) 0)) (1) (by exact h_F) (by unfold bI; split <;> omega) (by first | omega | assumption)) yi_X7_must ml_X7_97 (by rw [hR]; decide) hw hA [0, 1, 2, 3, 4, 5, 6, 7, 8, 9] [] rfl rfl (by decide) (by decide) (by decide) 0 rfl rfl rfl rfl hl.1 (lv_room (Nat.le_of_ble_eq_true rfl)) dX7_parse_59 ⟨by rw [hR]; exact Nat.zero_le _, by rw [hR]; exact Nat.zero_le _⟩ (fun u_59 H locs hu_59 hw => ?_)
  obtain ⟨er2_3, eo2_3⟩ := u_59
  have hu_3_0 : PR bf nn ts2_2 te2_2 tk2_2 nu2_2 er2_3 eo2_3 (muX (bI (wdX bf (((fe0 bf nn))) 0)) 1 (((fe0 bf nn)))) := hu_59
  have hw : qw D A s.heap (mW g cI cB cZ 0 0 nn ts2_2 te2_2 tk2_2 nu2_2 er2_3 eo2_3 0 0 dp bf d2_1 td sa ad hi sl sv tr) H locs := hw
  have b_1 := ()
  refine lv_pop hx hb dX7_parse_62 rfl ?_
  refine lv_aload_n hx hb dX7_parse_63 rfl (lv_at hl 0 rfl) ?_
  refine q_callM (As := []) (rest := []) (wr := []) hx hb hml hown hts hK (c_X7_goOn (C := (muX ((bI (wdX bf (((fe0 bf nn))) 0))) (1) (fe0 bf nn))) (by first | omega | assumption) (by first | omega | assumption) (by exact hu_3_0)) yi_X7_goOn ml_X7_101 (by rw [hR]; decide) hw hA [0, 1, 2, 3, 4, 5, 6, 7, 8, 9] [] rfl rfl (by decide) (by decide) (by decide) 0 rfl rfl rfl rfl hl.1 (lv_room (Nat.le_of_ble_eq_true rfl)) dX7_parse_64 ⟨by rw [hR]; exact Nat.zero_le _, by rw [hR]; exact Nat.zero_le _⟩ (fun u_64 H locs hu_64 hw => ?_)
  obtain ⟨ts2_4, te2_4, tk2_4, nu2_4⟩ := u_64
  have hu_4_0 : PR bf nn ts2_4 te2_4 tk2_4 nu2_4 er2_3 eo2_3 (goX bf nn (((muX ((bI (wdX bf (((fe0 bf nn))) 0))) (1) (fe0 bf nn))))) := hu_64
  have hw : qw D A s.heap (mW g cI cB cZ 0 0 nn ts2_4 te2_4 tk2_4 nu2_4 er2_3 eo2_3 0 0 dp bf d2_1 td sa ad hi sl sv tr) H locs := hw
  have h_E : PR bf nn _ _ _ _ _ _ (feX bf nn) := fe_go ▸ hu_4_0
  refine lv_aload_n hx hb dX7_parse_67 rfl (lv_at hl 0 rfl) ?_
  refine q_get hx hb hts hown hK hw.1 ci_X7 0 rfl 10 (by decide) fl_X7_13 rfl dX7_parse_68 ?_
  refine q_iconst hx hb dX7_parse_71 ?_
  refine lv_aload_n hx hb dX7_parse_72 rfl (lv_at hl 0 rfl) ?_
  refine q_bipush hx hb dX7_parse_73 rfl ?_
  refine q_sipush hx hb dX7_parse_75 rfl ?_
  refine q_callM (As := [.int (iI 50), .int (iI 500)]) (rest := [.int (iI 0), .ref (g 2)]) (wr := []) hx hb hml hown hts hK (c_X7_read (C := (feX bf nn)) (50) (500) (by first | omega | assumption) (by first | omega | assumption) (by exact h_E) (by first | omega | assumption)) yi_X7_read ml_X7_111 (by rw [hR]; decide) hw hA [0, 1, 2, 3, 4, 5, 6, 7, 8, 9] [] rfl rfl (by decide) (by decide) (by decide) 0 rfl rfl rfl rfl hl.1 (lv_room (Nat.le_of_ble_eq_true rfl)) dX7_parse_78 ⟨by rw [hR]; exact Nat.zero_le _, by rw [hR]; exact Nat.zero_le _⟩ (fun u_78 H locs hu_78 hw => ?_)
  obtain ⟨ts2_5, te2_5, tk2_5, nu2_5, er2_5, eo2_5, r2_5⟩ := u_78
  obtain ⟨hu_5_0, hu_5_1, hu_5_2⟩ : (PR bf nn ts2_5 te2_5 tk2_5 nu2_5 er2_5 eo2_5 (rdX bf nn 50 500 (((feX bf nn))))) ∧ (rdX bf nn 50 500 (((feX bf nn))) 9 3 = 0 → r2_5 = nuV bf (((feX bf nn)))) ∧ (50 ≤ r2_5 ∧ r2_5 ≤ 500) := hu_78
  have hw : qw D A s.heap (mW g cI cB cZ 0 0 nn ts2_5 te2_5 tk2_5 nu2_5 er2_5 eo2_5 0 0 dp bf d2_1 td sa ad hi sl sv tr) H locs := hw
  have b_2 := ()
  refine q_iast hx hb hK hw 2 0 rfl rfl (by omega) dX7_parse_81 (fun H locs hw => ?_)
  have hw : qw D A s.heap (mW g cI cB cZ 0 0 nn ts2_5 te2_5 tk2_5 nu2_5 er2_5 eo2_5 0 0 dp bf (uI d2_1 0 r2_5) td sa ad hi sl sv tr) H locs := hw
  obtain ⟨f_1, e_f_1⟩ : ∃ z, z = uI d2_1 0 r2_5 := ⟨_, rfl⟩
  have hw : qw D A s.heap (mW g cI cB cZ 0 0 nn ts2_5 te2_5 tk2_5 nu2_5 er2_5 eo2_5 0 0 dp bf f_1 td sa ad hi sl sv tr) H locs := by rw [e_f_1]; exact hw
  refine lv_aload_n hx hb dX7_parse_82 rfl (lv_at hl 0 rfl) ?_
  refine q_get hx hb hts hown hK hw.1 ci_X7 0 rfl 10 (by decide) fl_X7_13 rfl dX7_parse_83 ?_
  refine q_iconst hx hb dX7_parse_86 ?_
  refine lv_aload_n hx hb dX7_parse_87 rfl (lv_at hl 0 rfl) ?_
  refine q_bipush hx hb dX7_parse_88 rfl ?_
  refine q_sipush hx hb dX7_parse_90 rfl ?_
  refine q_callM (As := [.int (iI 30), .int (iI 500)]) (rest := [.int (iI 1), .ref (g 2)]) (wr := []) hx hb hml hown hts hK (c_X7_read (C := (rdX bf nn (50) (500) (feX bf nn))) (30) (500) (by first | omega | assumption) (by first | omega | assumption) (by exact hu_5_0) (by first | omega | assumption)) yi_X7_read ml_X7_111 (by rw [hR]; decide) hw hA [0, 1, 2, 3, 4, 5, 6, 7, 8, 9] [] rfl rfl (by decide) (by decide) (by decide) 0 rfl rfl rfl rfl hl.1 (lv_room (Nat.le_of_ble_eq_true rfl)) dX7_parse_93 ⟨by rw [hR]; exact Nat.zero_le _, by rw [hR]; exact Nat.zero_le _⟩ (fun u_93 H locs hu_93 hw => ?_)
  obtain ⟨ts2_6, te2_6, tk2_6, nu2_6, er2_6, eo2_6, r2_6⟩ := u_93
  obtain ⟨hu_6_0, hu_6_1, hu_6_2⟩ : (PR bf nn ts2_6 te2_6 tk2_6 nu2_6 er2_6 eo2_6 (rdX bf nn 30 500 (((rdX bf nn (50) (500) (feX bf nn)))))) ∧ (rdX bf nn 30 500 (((rdX bf nn (50) (500) (feX bf nn)))) 9 3 = 0 → r2_6 = nuV bf (((rdX bf nn (50) (500) (feX bf nn))))) ∧ (30 ≤ r2_6 ∧ r2_6 ≤ 500) := hu_93
  have hw : qw D A s.heap (mW g cI cB cZ 0 0 nn ts2_6 te2_6 tk2_6 nu2_6 er2_6 eo2_6 0 0 dp bf f_1 td sa ad hi sl sv tr) H locs := hw
  refine q_iast hx hb hK hw 2 0 rfl rfl (by omega) dX7_parse_96 (fun H locs hw => ?_)
  have hw : qw D A s.heap (mW g cI cB cZ 0 0 nn ts2_6 te2_6 tk2_6 nu2_6 er2_6 eo2_6 0 0 dp bf (uI f_1 1 r2_6) td sa ad hi sl sv tr) H locs := hw
  obtain ⟨f_2, e_f_2⟩ : ∃ z, z = uI f_1 1 r2_6 := ⟨_, rfl⟩
  have hw : qw D A s.heap (mW g cI cB cZ 0 0 nn ts2_6 te2_6 tk2_6 nu2_6 er2_6 eo2_6 0 0 dp bf f_2 td sa ad hi sl sv tr) H locs := by rw [e_f_2]; exact hw
  have join_122 : ∀ (x1 : Int) (x2 : Int) (x3 : Int) (x4 : Int) (x5 : Int) (x6 : Int) (y : Int → Int) (lf : Int) (sf : Int) (H : Heap) (locs : List Loc) (ls : Array Slot), (PR bf nn x1 x2 x3 x4 x5 x6 (seX bf nn (hdX bf nn))) → (DR y lf sf (seX bf nn (hdX bf nn))) → qw D A s.heap (mW g cI cB cZ 0 0 nn x1 x2 x3 x4 x5 x6 lf sf dp bf y td sa ad hi sl sv tr) H locs → lv_has ls 2 [(0, .ref (g 0)), (1, .int (iI nn))] → W p l e R s m args below meth c H locs 0 0 Q (F0 m 122 ls []) := by
    intro x1 x2 x3 x4 x5 x6 y lf sf H locs ls h_P0 h_D0 hw hl
    have loop_122 : ∀ (fu : Nat) (x1 : Int) (x2 : Int) (x3 : Int) (x4 : Int) (x5 : Int) (x6 : Int) (y : Int → Int) (lf : Int) (sf : Int) (Ck : Nat → Int → Int) (H : Heap) (locs : List Loc) (ls : Array Slot), ((if x5 = 0 then nn - x2 + 1 else 0)).toNat = fu → (PR bf nn x1 x2 x3 x4 x5 x6 Ck) → (DR y lf sf Ck) → (loK2 bf nn Ck) → qw D A s.heap (mW g cI cB cZ 0 0 nn x1 x2 x3 x4 x5 x6 lf sf dp bf y td sa ad hi sl sv tr) H locs → lv_has ls 2 [(0, .ref (g 0)), (1, .int (iI nn))] → W p l e R s m args below meth c H locs 0 0 Q (F0 m 122 ls []) := by
      intro fu
      induction fu using Nat.strongRecOn with
      | ind fu ih =>
      intro x1 x2 x3 x4 x5 x6 y lf sf Ck H locs ls hn_122 h_P h_D h_K hw hl
      have q_k1 := h_P.2.1
      have q_k2 := h_P.2.2.2.2
      have q_k4 := h_P.2.2.2.1
      have q_k5 := h_P.1
      refine lv_aload_n hx hb dX7_parse_122 rfl (lv_at hl 0 rfl) ?_
      refine q_get hx hb hts hown hK hw.1 ci_X7 0 rfl 8 (by decide) fl_X7_79 rfl dX7_parse_123 ?_
      refine q_if_ne (tgt := 143) hx hb dX7_parse_126 (by decide) (by omega) (fun c_126 => ?_) (fun c_126 => ?_)
      · have h_pa : Ck = paX bf nn := loK_e h_K (fun w => by have w2 := q_k4 w.1; omega)
        have h_P9 : PR bf nn x1 x2 x3 x4 x5 x6 (paX bf nn) := h_pa ▸ h_P
        have h_D9 : DR y lf sf (paX bf nn) := h_pa ▸ h_D
        have q_91 := h_P9.1
        have q_93 := h_P9.2.2.1
        refine lv_aload_n hx hb dX7_parse_143 rfl (lv_at hl 0 rfl) ?_
        refine q_get hx hb hts hown hK hw.1 ci_X7 0 rfl 8 (by decide) fl_X7_79 rfl dX7_parse_144 ?_
        refine q_if_eq (tgt := 166) hx hb dX7_parse_147 (by decide) (by omega) (fun c_147 => absurd c_147 (by omega)) (fun c_147 => ?_)
        refine q_bipush hx hb dX7_parse_150 rfl ?_
        refine q_bipush hx hb dX7_parse_152 rfl ?_
        refine lv_aload_n hx hb dX7_parse_154 rfl (lv_at hl 0 rfl) ?_
        refine q_get hx hb hts hown hK hw.1 ci_X7 0 rfl 9 (by decide) fl_X7_82 rfl dX7_parse_155 ?_
        refine q_imul hx hb dX7_parse_158 ?_
        refine lv_aload_n hx hb dX7_parse_159 rfl (lv_at hl 0 rfl) ?_
        refine q_get hx hb hts hown hK hw.1 ci_X7 0 rfl 8 (by decide) fl_X7_79 rfl dX7_parse_160 ?_
        refine q_iadd hx hb dX7_parse_163 ?_
        refine q_isub hx hb dX7_parse_164 ?_
        refine q_top ((-2) - (8 * paX bf nn 9 4 + paX bf nn 9 3)) (by have w := q_93 hp; omega) ?_
        exact hret (x1, x2, x3, x4, x5, x6, y, lf, sf) H locs 165 ls ⟨(by exact h_P9.2.2.2.2.2.2.2.2.2.2.1), (by exact ⟨h_P9.2.2.2.2.2.2.2.2.2.2.2.1, h_P9.2.2.2.2.2.2.2.2.2.2.2.2.1⟩)⟩ hw dX7_parse_165
      · refine lv_aload_n hx hb dX7_parse_129 rfl (lv_at hl 0 rfl) ?_
        refine q_get hx hb hts hown hK hw.1 ci_X7 0 rfl 6 (by decide) fl_X7_69 rfl dX7_parse_130 ?_
        refine q_if_eq (tgt := 143) hx hb dX7_parse_133 (by decide) (by omega) (fun c_133 => ?_) (fun c_133 => ?_)
        · have h_pa : Ck = paX bf nn := loK_e h_K (fun w => by have w2 := q_k4 w.1; omega)
          have h_P9 : PR bf nn x1 x2 x3 x4 x5 x6 (paX bf nn) := h_pa ▸ h_P
          have h_D9 : DR y lf sf (paX bf nn) := h_pa ▸ h_D
          have q_91 := h_P9.1
          have q_93 := h_P9.2.2.1
          refine lv_aload_n hx hb dX7_parse_143 rfl (lv_at hl 0 rfl) ?_
          refine q_get hx hb hts hown hK hw.1 ci_X7 0 rfl 8 (by decide) fl_X7_79 rfl dX7_parse_144 ?_
          refine q_if_eq (tgt := 166) hx hb dX7_parse_147 (by decide) (by omega) (fun c_147 => absurd c_147 (by omega)) (fun c_147 => ?_)
          refine q_bipush hx hb dX7_parse_150 rfl ?_
          refine q_bipush hx hb dX7_parse_152 rfl ?_
          refine lv_aload_n hx hb dX7_parse_154 rfl (lv_at hl 0 rfl) ?_
          refine q_get hx hb hts hown hK hw.1 ci_X7 0 rfl 9 (by decide) fl_X7_82 rfl dX7_parse_155 ?_
          refine q_imul hx hb dX7_parse_158 ?_
          refine lv_aload_n hx hb dX7_parse_159 rfl (lv_at hl 0 rfl) ?_
          refine q_get hx hb hts hown hK hw.1 ci_X7 0 rfl 8 (by decide) fl_X7_79 rfl dX7_parse_160 ?_
          refine q_iadd hx hb dX7_parse_163 ?_
          refine q_isub hx hb dX7_parse_164 ?_
          refine q_top ((-2) - (8 * paX bf nn 9 4 + paX bf nn 9 3)) (by have w := q_93 hp; omega) ?_
          exact hret (x1, x2, x3, x4, x5, x6, y, lf, sf) H locs 165 ls ⟨(by exact h_P9.2.2.2.2.2.2.2.2.2.2.1), (by exact ⟨h_P9.2.2.2.2.2.2.2.2.2.2.2.1, h_P9.2.2.2.2.2.2.2.2.2.2.2.2.1⟩)⟩ hw dX7_parse_165
        · have q_go : Ck 9 3 = 0 ∧ Ck 9 2 ≠ 0 := by have w := q_k4 (by omega); omega
          refine lv_aload_n hx hb dX7_parse_136 rfl (lv_at hl 0 rfl) ?_
          refine q_callMz (As := []) (rest := []) (wr := []) (zz_ok z) hx hb hml hown hts hK (c_X7_statement (C := Ck) (by first | omega | assumption) (by first | omega | assumption) (by exact h_P) (by exact h_D)) yi_X7_statement ml_X7_161 (by rw [hR]; decide) hw hA (z_M (zz_ok z) hZ hw hA [0, 1, 2, 3, 4, 5, 6, 7, 8, 9] rfl) [0, 1, 2, 3, 4, 5, 6, 7, 8, 9] [] rfl rfl (by decide) (by decide) (by decide) 0 rfl rfl rfl rfl hl.1 (lv_room (Nat.le_of_ble_eq_true rfl)) dX7_parse_137 ⟨by rw [hR]; exact Nat.zero_le _, by rw [hR]; exact Nat.zero_le _⟩ (fun u_137 H locs hu_137 hw => ?_)
          obtain ⟨ts2_7, te2_7, tk2_7, nu2_7, er2_7, eo2_7, d2_7, l2_7, f2_7⟩ := u_137
          obtain ⟨hu_7_0, hu_7_1⟩ : (PR bf nn ts2_7 te2_7 tk2_7 nu2_7 er2_7 eo2_7 (stX bf nn ((Ck)))) ∧ (DR d2_7 l2_7 f2_7 (stX bf nn ((Ck)))) := hu_137
          have hw : qw D A s.heap (mW g cI cB cZ 0 0 nn ts2_7 te2_7 tk2_7 nu2_7 er2_7 eo2_7 l2_7 f2_7 dp bf d2_7 td sa ad hi sl sv tr) H locs := hw
          have b_3 := ()
          refine lv_goto (tgt := 122) hx hb dX7_parse_140 (by decide) ?_
          exact ih _ (by exact lo_dec hn_122 (h_P.1.trans q_go.1) (by omega) (fun w => by have z1 := (hu_7_0.1).symm.trans w; have z2 := (hu_7_0.2.2.2.1 z1).2.1; have z3 := (loK_s h_K q_go).2 z1; have z4 := (h_P.2.2.2.1 q_go.1).2.1; omega)) (ts2_7) (te2_7) (tk2_7) (nu2_7) (er2_7) (eo2_7) (d2_7) (l2_7) (f2_7) ((stX bf nn Ck)) H locs ls rfl (by exact hu_7_0) (by assumption) (by exact (loK_s h_K q_go).1) hw hl
    exact loop_122 _ (x1) (x2) (x3) (x4) (x5) (x6) (y) (lf) (sf) ((seX bf nn (hdX bf nn))) H locs ls rfl (by exact h_P0) (by exact h_D0) (by exact loK_0 (by omega)) hw hl
  have h_H : PR bf nn _ _ _ _ _ _ (hdX bf nn) := PR_hd hu_6_0
  have h_dh := h_dd
  have h_DH : DR f_2 0 0 (hdX bf nn) := by rw [e_f_2, e_f_1]; exact DR_hd h_dd hu_5_1 hu_6_1 (by have a1 := hu_5_2; have a2 := hu_6_2; omega) fe_56 rdX_56
  have q_h1 := h_H.2.1
  have q_h2 := h_H.2.2.2.2
  refine lv_aload_n hx hb dX7_parse_97 rfl (lv_at hl 0 rfl) ?_
  refine lv_aload_n hx hb dX7_parse_98 rfl (lv_at hl 0 rfl) ?_
  refine q_get hx hb hts hown hK hw.1 ci_X7 0 rfl 6 (by decide) fl_X7_69 rfl dX7_parse_99 ?_
  refine q_iconst hx hb dX7_parse_102 ?_
  refine q_icmp_ne (tgt := 110) hx hb dX7_parse_103 (by decide) (by omega) (fun c_103 => ?_) (fun c_103 => ?_)
  · refine q_iconst hx hb dX7_parse_110 ?_
    refine q_iconst hx hb dX7_parse_111 ?_
    refine q_callM (As := [.int (iI 0), .int (iI 1)]) (rest := []) (wr := []) hx hb hml hown hts hK (c_X7_must (C := (hdX bf nn)) (0) (1) (by exact h_H) (by omega) (by first | omega | assumption)) yi_X7_must ml_X7_97 (by rw [hR]; decide) hw hA [0, 1, 2, 3, 4, 5, 6, 7, 8, 9] [] rfl rfl (by decide) (by decide) (by decide) 0 rfl rfl rfl rfl hl.1 (lv_room (Nat.le_of_ble_eq_true rfl)) dX7_parse_112 ⟨by rw [hR]; exact Nat.zero_le _, by rw [hR]; exact Nat.zero_le _⟩ (fun u_112 H locs hu_112 hw => ?_)
    obtain ⟨er2_8, eo2_8⟩ := u_112
    have hu_8_0 : PR bf nn ts2_6 te2_6 tk2_6 nu2_6 er2_8 eo2_8 (muX 0 1 (((hdX bf nn)))) := hu_112
    have hw : qw D A s.heap (mW g cI cB cZ 0 0 nn ts2_6 te2_6 tk2_6 nu2_6 er2_8 eo2_8 0 0 dp bf f_2 td sa ad hi sl sv tr) H locs := hw
    have b_4 := ()
    refine q_ifb_eq (tgt := 122) hx hb dX7_parse_115 (by decide) (fun c_115 => ?_) (fun c_115 => ?_)
    · exact join_122 (ts2_6) (te2_6) (tk2_6) (nu2_6) (er2_8) (eo2_8) (f_2) (0) (0) H locs ls (by first | (have w := se_f h_H (by omega) c_115; rw [← w.1]; exact hu_8_0) | (have w := se_t h_H (by omega) c_115; rw [w.2.2]; rw [w.2.1] at hu_8_0; exact PR_nx hu_8_0 w.1 zz_none zz_none zz_none zz_none zz_none zz_none)) (by exact DR_se h_DH) hw hl
    · refine lv_aload_n hx hb dX7_parse_118 rfl (lv_at hl 0 rfl) ?_
      refine q_callM (As := []) (rest := []) (wr := []) hx hb hml hown hts hK (c_X7_nextToken (by first | omega | assumption) (by first | omega | assumption) (by first | omega | assumption) (by first | omega | assumption)) yi_X7_nextToken ml_X7_94 (by rw [hR]; decide) hw hA [0, 1, 2, 3, 4, 5, 6, 7, 8, 9] [] rfl rfl (by decide) (by decide) (by decide) 0 rfl rfl rfl rfl hl.1 (lv_room (Nat.le_of_ble_eq_true rfl)) dX7_parse_119 ⟨by rw [hR]; exact Nat.zero_le _, by rw [hR]; exact Nat.zero_le _⟩ (fun u_119 H locs hu_119 hw => ?_)
      obtain ⟨ts2_9, te2_9, tk2_9, nu2_9⟩ := u_119
      obtain ⟨hu_9_0, hu_9_1, hu_9_2, hu_9_3, hu_9_4, hu_9_5⟩ : (ts2_9 = sk bf nn te2_6) ∧ (te2_9 = tkE bf nn ts2_9) ∧ (tk2_9 = tkK bf nn ts2_9) ∧ (tk2_9 = 2 → nu2_9 = nv bf ts2_9 (te2_9 - ts2_9)) ∧ (rg nu2_9) ∧ (tk2_9 = 2 → 0 ≤ nu2_9 ∧ nu2_9 ≤ 9999) := hu_119
      have hw : qw D A s.heap (mW g cI cB cZ 0 0 nn ts2_9 te2_9 tk2_9 nu2_9 er2_8 eo2_8 0 0 dp bf f_2 td sa ad hi sl sv tr) H locs := hw
      exact join_122 (ts2_9) (te2_9) (tk2_9) (nu2_9) (er2_8) (eo2_8) (f_2) (0) (0) H locs ls (by first | (have w := se_f h_H (by omega) c_115; rw [← w.1]; exact hu_8_0) | (have w := se_t h_H (by omega) c_115; rw [w.2.2]; rw [w.2.1] at hu_8_0; exact PR_nx hu_8_0 w.1 hu_9_0 hu_9_1 hu_9_2 hu_9_3 hu_9_4 hu_9_5)) (by exact DR_se h_DH) hw hl
  · refine q_iconst hx hb dX7_parse_106 ?_
    refine lv_goto (tgt := 111) hx hb dX7_parse_107 (by decide) ?_
    refine q_iconst hx hb dX7_parse_111 ?_
    refine q_callM (As := [.int (iI 1), .int (iI 1)]) (rest := []) (wr := []) hx hb hml hown hts hK (c_X7_must (C := (hdX bf nn)) (1) (1) (by exact h_H) (by omega) (by first | omega | assumption)) yi_X7_must ml_X7_97 (by rw [hR]; decide) hw hA [0, 1, 2, 3, 4, 5, 6, 7, 8, 9] [] rfl rfl (by decide) (by decide) (by decide) 0 rfl rfl rfl rfl hl.1 (lv_room (Nat.le_of_ble_eq_true rfl)) dX7_parse_112 ⟨by rw [hR]; exact Nat.zero_le _, by rw [hR]; exact Nat.zero_le _⟩ (fun u_112 H locs hu_112 hw => ?_)
    obtain ⟨er2_10, eo2_10⟩ := u_112
    have hu_10_0 : PR bf nn ts2_6 te2_6 tk2_6 nu2_6 er2_10 eo2_10 (muX 1 1 (((hdX bf nn)))) := hu_112
    have hw : qw D A s.heap (mW g cI cB cZ 0 0 nn ts2_6 te2_6 tk2_6 nu2_6 er2_10 eo2_10 0 0 dp bf f_2 td sa ad hi sl sv tr) H locs := hw
    have b_5 := ()
    refine q_ifb_eq (tgt := 122) hx hb dX7_parse_115 (by decide) (fun c_115 => ?_) (fun c_115 => ?_)
    · exact join_122 (ts2_6) (te2_6) (tk2_6) (nu2_6) (er2_10) (eo2_10) (f_2) (0) (0) H locs ls (by first | (have w := se_f h_H (by omega) c_115; rw [← w.1]; exact hu_10_0) | (have w := se_t h_H (by omega) c_115; rw [w.2.2]; rw [w.2.1] at hu_10_0; exact PR_nx hu_10_0 w.1 zz_none zz_none zz_none zz_none zz_none zz_none)) (by exact DR_se h_DH) hw hl
    · refine lv_aload_n hx hb dX7_parse_118 rfl (lv_at hl 0 rfl) ?_
      refine q_callM (As := []) (rest := []) (wr := []) hx hb hml hown hts hK (c_X7_nextToken (by first | omega | assumption) (by first | omega | assumption) (by first | omega | assumption) (by first | omega | assumption)) yi_X7_nextToken ml_X7_94 (by rw [hR]; decide) hw hA [0, 1, 2, 3, 4, 5, 6, 7, 8, 9] [] rfl rfl (by decide) (by decide) (by decide) 0 rfl rfl rfl rfl hl.1 (lv_room (Nat.le_of_ble_eq_true rfl)) dX7_parse_119 ⟨by rw [hR]; exact Nat.zero_le _, by rw [hR]; exact Nat.zero_le _⟩ (fun u_119 H locs hu_119 hw => ?_)
      obtain ⟨ts2_11, te2_11, tk2_11, nu2_11⟩ := u_119
      obtain ⟨hu_11_0, hu_11_1, hu_11_2, hu_11_3, hu_11_4, hu_11_5⟩ : (ts2_11 = sk bf nn te2_6) ∧ (te2_11 = tkE bf nn ts2_11) ∧ (tk2_11 = tkK bf nn ts2_11) ∧ (tk2_11 = 2 → nu2_11 = nv bf ts2_11 (te2_11 - ts2_11)) ∧ (rg nu2_11) ∧ (tk2_11 = 2 → 0 ≤ nu2_11 ∧ nu2_11 ≤ 9999) := hu_119
      have hw : qw D A s.heap (mW g cI cB cZ 0 0 nn ts2_11 te2_11 tk2_11 nu2_11 er2_10 eo2_10 0 0 dp bf f_2 td sa ad hi sl sv tr) H locs := hw
      exact join_122 (ts2_11) (te2_11) (tk2_11) (nu2_11) (er2_10) (eo2_10) (f_2) (0) (0) H locs ls (by first | (have w := se_f h_H (by omega) c_115; rw [← w.1]; exact hu_10_0) | (have w := se_t h_H (by omega) c_115; rw [w.2.2]; rw [w.2.1] at hu_10_0; exact PR_nx hu_10_0 w.1 hu_11_0 hu_11_1 hu_11_2 hu_11_3 hu_11_4 hu_11_5)) (by exact DR_se h_DH) hw hl

set_option maxHeartbeats 4000000 in
set_option maxRecDepth 100000 in
theorem c_X7_parse (nn : Int) (hbf : byR bf) (hln : 0 ≤ len ∧ len ≤ 700) (hn : 0 ≤ nn ∧ nn ≤ len) (hnu : rg nu) (heo : 0 ≤ eo ∧ eo ≤ 700) (hp : paX bf nn 9 3 = 0) : qMz l (ZZ z) D (tyG cI cB cZ cS cJ) yX7_parse cX7_parse 2 (Option.some FieldType.int) 8 172 [.ref (g 0), .int (iI nn)] (mW g cI cB cZ th len tl ts te tk nu er eo hL hS dp bf dr td sa ad hi sl sv tr) (fun u : (Int) × (Int) × (Int) × (Int) × (Int) × (Int) × (Int → Int) × (Int) × (Int) × (Int → Int) × (Int → Int) × (Int → Int) => (rg ((u.2.2.2.1))) ∧ (0 ≤ ((u.2.2.2.2.2.1)) ∧ ((u.2.2.2.2.2.1)) ≤ 700) ∧ (∀ D : Nat → Int → Int, frC (paX bf nn) D → WM ((u.2.2.2.2.2.2.2.2.2.1)) ((u.2.2.2.2.2.2.2.2.2.2.1)) (paX bf nn) D) ∧ (((u.2.2.2.2.2.2.2.2.2.2.2)) = uI (uI sv 0 0) 1 0)) (fun u => some (.int (iI (paX bf nn 8 0)))) (fun u => (mW g cI cB cZ 0 0 nn (u.1) (u.2.1) (u.2.2.1) (u.2.2.2.1) (u.2.2.2.2.1) (u.2.2.2.2.2.1) (u.2.2.2.2.2.2.2.1) (u.2.2.2.2.2.2.2.2.1) 0 bf (u.2.2.2.2.2.2.1) (u.2.2.2.2.2.2.2.2.2.1) (u.2.2.2.2.2.2.2.2.2.2.1) ad hi sl (u.2.2.2.2.2.2.2.2.2.2.2) tr)) := by
  refine qMz_enterI (val := fun u => iI (paX bf nn 8 0)) (by decide) (Nat.le_of_ble_eq_true rfl) (fun u hu => ⟨rfl, nar_i _⟩) (fun p e R s m args below meth c Q ls A X hR hA hw hZ hl hret => ?_)
  obtain ⟨hx, hb, hml, hown, hts, hK⟩ := X
  have hl : lv_has ls 2 [(0, .ref (g 0)), (1, .int (iI nn))] := hl
  suffices K : ∀ (H : Heap) (locs : List Loc), qw D A s.heap (mW g cI cB cZ th len tl ts te tk nu er eo hL hS dp bf dr td sa ad hi sl sv tr) H locs → W p l e R s m args below meth c H locs 0 0 Q (F0 m 0 ls []) from K s.heap [] hw
  clear hw
  intro H locs hw
  refine lv_aload_n hx hb dX7_parse_0 rfl (lv_at hl 0 rfl) ?_
  refine q_iconst hx hb dX7_parse_1 ?_
  refine q_put hx hb hts hown hK hw ci_X7 0 rfl 0 (by decide) fl_X7_45 rfl rfl rfl (Nat.le_of_ble_eq_true rfl) dX7_parse_2 (fun H locs hw => ?_)
  have hw : qw D A s.heap (mW g cI cB cZ 0 len tl ts te tk nu er eo hL hS dp bf dr td sa ad hi sl sv tr) H locs := hw
  refine lv_iload_n hx hb dX7_parse_5 rfl (lv_at hl 1 rfl) ?_
  refine q_iconst hx hb dX7_parse_6 ?_
  refine lv_aload_n hx hb dX7_parse_7 rfl (lv_at hl 0 rfl) ?_
  refine q_get hx hb hts hown hK hw.1 ci_X7 0 rfl 2 (by decide) fl_X7_49 rfl dX7_parse_8 ?_
  refine q_callPS (As := [.int (iI nn), .int (iI 0), .int (iI len)]) (rest := []) hx hb hml hown hts hK (c_X7_within (nn) (0) (len) (by first | omega | assumption) (by first | omega | assumption) (by first | omega | assumption)) yt_X7_within ml_X7_72 (by rw [hR]; decide) (show va_P D vwCl [] _ from fun k q h => by simp at h)  rfl rfl hl.1 (lv_room (Nat.le_of_ble_eq_true rfl)) dX7_parse_11 ⟨by rw [hR]; exact Nat.zero_le _, by rw [hR]; exact Nat.zero_le _⟩ ?_
  refine q_ifb_ne (tgt := 23) hx hb dX7_parse_14 (by decide) (fun c_14 => ?_) (fun c_14 => absurd c_14 (by omega))
  refine lv_aload_n hx hb dX7_parse_23 rfl (lv_at hl 0 rfl) ?_
  refine lv_iload_n hx hb dX7_parse_24 rfl (lv_at hl 1 rfl) ?_
  refine q_put hx hb hts hown hK hw ci_X7 0 rfl 3 (by decide) fl_X7_56 rfl rfl rfl (Nat.le_of_ble_eq_true rfl) dX7_parse_25 (fun H locs hw => ?_)
  have hw : qw D A s.heap (mW g cI cB cZ 0 len nn ts te tk nu er eo hL hS dp bf dr td sa ad hi sl sv tr) H locs := hw
  refine lv_aload_n hx hb dX7_parse_28 rfl (lv_at hl 0 rfl) ?_
  refine q_iconst hx hb dX7_parse_29 ?_
  refine q_put hx hb hts hown hK hw ci_X7 0 rfl 2 (by decide) fl_X7_49 rfl rfl rfl (Nat.le_of_ble_eq_true rfl) dX7_parse_30 (fun H locs hw => ?_)
  have hw : qw D A s.heap (mW g cI cB cZ 0 0 nn ts te tk nu er eo hL hS dp bf dr td sa ad hi sl sv tr) H locs := hw
  refine lv_aload_n hx hb dX7_parse_33 rfl (lv_at hl 0 rfl) ?_
  refine q_iconst hx hb dX7_parse_34 ?_
  refine q_put hx hb hts hown hK hw ci_X7 0 rfl 5 (by decide) fl_X7_59 rfl rfl rfl (Nat.le_of_ble_eq_true rfl) dX7_parse_35 (fun H locs hw => ?_)
  have hw : qw D A s.heap (mW g cI cB cZ 0 0 nn ts 0 tk nu er eo hL hS dp bf dr td sa ad hi sl sv tr) H locs := hw
  refine lv_aload_n hx hb dX7_parse_38 rfl (lv_at hl 0 rfl) ?_
  refine q_iconst hx hb dX7_parse_39 ?_
  refine q_put hx hb hts hown hK hw ci_X7 0 rfl 8 (by decide) fl_X7_79 rfl rfl rfl (Nat.le_of_ble_eq_true rfl) dX7_parse_40 (fun H locs hw => ?_)
  have hw : qw D A s.heap (mW g cI cB cZ 0 0 nn ts 0 tk nu 0 eo hL hS dp bf dr td sa ad hi sl sv tr) H locs := hw
  refine lv_aload_n hx hb dX7_parse_43 rfl (lv_at hl 0 rfl) ?_
  refine q_callM (As := []) (rest := []) (wr := []) hx hb hml hown hts hK c_X7_setDefaults yi_X7_setDefaults ml_X7_39 (by rw [hR]; decide) hw hA [0, 1, 2, 3, 4, 5, 6, 7, 8, 9] [] rfl rfl (by decide) (by decide) (by decide) 0 rfl rfl rfl rfl hl.1 (lv_room (Nat.le_of_ble_eq_true rfl)) dX7_parse_44 ⟨by rw [hR]; exact Nat.zero_le _, by rw [hR]; exact Nat.zero_le _⟩ (fun u_44 H locs hu_44 hw => ?_)
  obtain ⟨d2_1, rfl⟩ : ∃ z, z = u_44 := ⟨_, rfl⟩
  have hu_1_0 : ∀ k : Int, 0 ≤ k → k < 288 → d2_1 k = dfV k := hu_44
  have hw : qw D A s.heap (mW g cI cB cZ 0 0 nn ts 0 tk nu 0 eo 0 0 dp bf d2_1 td sa ad hi sl sv tr) H locs := hw
  have h_dd : ∀ k : Int, 0 ≤ k → k < 288 → d2_1 k = dfV k := by assumption
  refine lv_aload_n hx hb dX7_parse_47 rfl (lv_at hl 0 rfl) ?_
  refine q_callM (As := []) (rest := []) (wr := []) hx hb hml hown hts hK (c_X7_nextToken (by first | omega | assumption) (by first | omega | assumption) (by first | omega | assumption) (by first | omega | assumption)) yi_X7_nextToken ml_X7_94 (by rw [hR]; decide) hw hA [0, 1, 2, 3, 4, 5, 6, 7, 8, 9] [] rfl rfl (by decide) (by decide) (by decide) 0 rfl rfl rfl rfl hl.1 (lv_room (Nat.le_of_ble_eq_true rfl)) dX7_parse_48 ⟨by rw [hR]; exact Nat.zero_le _, by rw [hR]; exact Nat.zero_le _⟩ (fun u_48 H locs hu_48 hw => ?_)
  obtain ⟨ts2_2, te2_2, tk2_2, nu2_2⟩ := u_48
  obtain ⟨hu_2_0, hu_2_1, hu_2_2, hu_2_3, hu_2_4, hu_2_5⟩ : (ts2_2 = sk bf nn 0) ∧ (te2_2 = tkE bf nn ts2_2) ∧ (tk2_2 = tkK bf nn ts2_2) ∧ (tk2_2 = 2 → nu2_2 = nv bf ts2_2 (te2_2 - ts2_2)) ∧ (rg nu2_2) ∧ (tk2_2 = 2 → 0 ≤ nu2_2 ∧ nu2_2 ≤ 9999) := hu_48
  have hw : qw D A s.heap (mW g cI cB cZ 0 0 nn ts2_2 te2_2 tk2_2 nu2_2 0 eo 0 0 dp bf d2_1 td sa ad hi sl sv tr) H locs := hw
  refine lv_aload_n hx hb dX7_parse_51 rfl (lv_at hl 0 rfl) ?_
  have h_F := PR_fe (f := bf) (n := nn) (by omega) heo hu_2_0 hu_2_1 hu_2_2 hu_2_3 hu_2_4 hu_2_5
  refine lv_aload_n hx hb dX7_parse_52 rfl (lv_at hl 0 rfl) ?_
  refine va_ldcS hx hb hown (hZ.2.2.2.1 _ lt_X7_159) dX7_parse_53 ?_
  refine q_callPz (As := [.ref (z 10)]) (rest := [.ref (g 0)]) (zz_ok z) hx hb hml hown hts hK (c_X7_isWord_c (C := (fe0 bf nn)) (i := 0) (by first | omega | assumption) (by first | omega | assumption) (by decide) (by exact h_F)) yi_X7_isWord ml_X7_117 (by rw [hR]; decide) hw.1 (z_M (zz_ok z) hZ hw hA [0, 1, 2, 3, 4, 5, 6, 7, 8, 9] rfl) 0 rfl rfl rfl rfl hl.1 (lv_room (Nat.le_of_ble_eq_true rfl)) dX7_parse_55 ⟨by rw [hR]; exact Nat.zero_le _, by rw [hR]; exact Nat.zero_le _⟩ ?_
  refine q_iconst hx hb dX7_parse_58 ?_
  refine q_callM (As := [.int (iI (bI (wdX bf (((fe0 bf nn))) 0))), .int (iI 1)]) (rest := []) (wr := []) hx hb hml hown hts hK (c_X7_must (C := (fe0 bf nn)) (bI (wdX bf (((fe0 bf nn))) 0)) (1) (by exact h_F) (by unfold bI; split <;> omega) (by first | omega | assumption)) yi_X7_must ml_X7_97 (by rw [hR]; decide) hw hA [0, 1, 2, 3, 4, 5, 6, 7, 8, 9] [] rfl rfl (by decide) (by decide) (by decide) 0 rfl rfl rfl rfl hl.1 (lv_room (Nat.le_of_ble_eq_true rfl)) dX7_parse_59 ⟨by rw [hR]; exact Nat.zero_le _, by rw [hR]; exact Nat.zero_le _⟩ (fun u_59 H locs hu_59 hw => ?_)
  obtain ⟨er2_3, eo2_3⟩ := u_59
  have hu_3_0 : PR bf nn ts2_2 te2_2 tk2_2 nu2_2 er2_3 eo2_3 (muX (bI (wdX bf (((fe0 bf nn))) 0)) 1 (((fe0 bf nn)))) := hu_59
  have hw : qw D A s.heap (mW g cI cB cZ 0 0 nn ts2_2 te2_2 tk2_2 nu2_2 er2_3 eo2_3 0 0 dp bf d2_1 td sa ad hi sl sv tr) H locs := hw
  have b_1 := ()
  refine lv_pop hx hb dX7_parse_62 rfl ?_
  refine lv_aload_n hx hb dX7_parse_63 rfl (lv_at hl 0 rfl) ?_
  refine q_callM (As := []) (rest := []) (wr := []) hx hb hml hown hts hK (c_X7_goOn (C := (muX ((bI (wdX bf (((fe0 bf nn))) 0))) (1) (fe0 bf nn))) (by first | omega | assumption) (by first | omega | assumption) (by exact hu_3_0)) yi_X7_goOn ml_X7_101 (by rw [hR]; decide) hw hA [0, 1, 2, 3, 4, 5, 6, 7, 8, 9] [] rfl rfl (by decide) (by decide) (by decide) 0 rfl rfl rfl rfl hl.1 (lv_room (Nat.le_of_ble_eq_true rfl)) dX7_parse_64 ⟨by rw [hR]; exact Nat.zero_le _, by rw [hR]; exact Nat.zero_le _⟩ (fun u_64 H locs hu_64 hw => ?_)
  obtain ⟨ts2_4, te2_4, tk2_4, nu2_4⟩ := u_64
  have hu_4_0 : PR bf nn ts2_4 te2_4 tk2_4 nu2_4 er2_3 eo2_3 (goX bf nn (((muX ((bI (wdX bf (((fe0 bf nn))) 0))) (1) (fe0 bf nn))))) := hu_64
  have hw : qw D A s.heap (mW g cI cB cZ 0 0 nn ts2_4 te2_4 tk2_4 nu2_4 er2_3 eo2_3 0 0 dp bf d2_1 td sa ad hi sl sv tr) H locs := hw
  have h_E : PR bf nn _ _ _ _ _ _ (feX bf nn) := fe_go ▸ hu_4_0
  refine lv_aload_n hx hb dX7_parse_67 rfl (lv_at hl 0 rfl) ?_
  refine q_get hx hb hts hown hK hw.1 ci_X7 0 rfl 10 (by decide) fl_X7_13 rfl dX7_parse_68 ?_
  refine q_iconst hx hb dX7_parse_71 ?_
  refine lv_aload_n hx hb dX7_parse_72 rfl (lv_at hl 0 rfl) ?_
  refine q_bipush hx hb dX7_parse_73 rfl ?_
  refine q_sipush hx hb dX7_parse_75 rfl ?_
  refine q_callM (As := [.int (iI 50), .int (iI 500)]) (rest := [.int (iI 0), .ref (g 2)]) (wr := []) hx hb hml hown hts hK (c_X7_read (C := (feX bf nn)) (50) (500) (by first | omega | assumption) (by first | omega | assumption) (by exact h_E) (by first | omega | assumption)) yi_X7_read ml_X7_111 (by rw [hR]; decide) hw hA [0, 1, 2, 3, 4, 5, 6, 7, 8, 9] [] rfl rfl (by decide) (by decide) (by decide) 0 rfl rfl rfl rfl hl.1 (lv_room (Nat.le_of_ble_eq_true rfl)) dX7_parse_78 ⟨by rw [hR]; exact Nat.zero_le _, by rw [hR]; exact Nat.zero_le _⟩ (fun u_78 H locs hu_78 hw => ?_)
  obtain ⟨ts2_5, te2_5, tk2_5, nu2_5, er2_5, eo2_5, r2_5⟩ := u_78
  obtain ⟨hu_5_0, hu_5_1, hu_5_2⟩ : (PR bf nn ts2_5 te2_5 tk2_5 nu2_5 er2_5 eo2_5 (rdX bf nn 50 500 (((feX bf nn))))) ∧ (rdX bf nn 50 500 (((feX bf nn))) 9 3 = 0 → r2_5 = nuV bf (((feX bf nn)))) ∧ (50 ≤ r2_5 ∧ r2_5 ≤ 500) := hu_78
  have hw : qw D A s.heap (mW g cI cB cZ 0 0 nn ts2_5 te2_5 tk2_5 nu2_5 er2_5 eo2_5 0 0 dp bf d2_1 td sa ad hi sl sv tr) H locs := hw
  have b_2 := ()
  refine q_iast hx hb hK hw 2 0 rfl rfl (by omega) dX7_parse_81 (fun H locs hw => ?_)
  have hw : qw D A s.heap (mW g cI cB cZ 0 0 nn ts2_5 te2_5 tk2_5 nu2_5 er2_5 eo2_5 0 0 dp bf (uI d2_1 0 r2_5) td sa ad hi sl sv tr) H locs := hw
  obtain ⟨f_1, e_f_1⟩ : ∃ z, z = uI d2_1 0 r2_5 := ⟨_, rfl⟩
  have hw : qw D A s.heap (mW g cI cB cZ 0 0 nn ts2_5 te2_5 tk2_5 nu2_5 er2_5 eo2_5 0 0 dp bf f_1 td sa ad hi sl sv tr) H locs := by rw [e_f_1]; exact hw
  refine lv_aload_n hx hb dX7_parse_82 rfl (lv_at hl 0 rfl) ?_
  refine q_get hx hb hts hown hK hw.1 ci_X7 0 rfl 10 (by decide) fl_X7_13 rfl dX7_parse_83 ?_
  refine q_iconst hx hb dX7_parse_86 ?_
  refine lv_aload_n hx hb dX7_parse_87 rfl (lv_at hl 0 rfl) ?_
  refine q_bipush hx hb dX7_parse_88 rfl ?_
  refine q_sipush hx hb dX7_parse_90 rfl ?_
  refine q_callM (As := [.int (iI 30), .int (iI 500)]) (rest := [.int (iI 1), .ref (g 2)]) (wr := []) hx hb hml hown hts hK (c_X7_read (C := (rdX bf nn (50) (500) (feX bf nn))) (30) (500) (by first | omega | assumption) (by first | omega | assumption) (by exact hu_5_0) (by first | omega | assumption)) yi_X7_read ml_X7_111 (by rw [hR]; decide) hw hA [0, 1, 2, 3, 4, 5, 6, 7, 8, 9] [] rfl rfl (by decide) (by decide) (by decide) 0 rfl rfl rfl rfl hl.1 (lv_room (Nat.le_of_ble_eq_true rfl)) dX7_parse_93 ⟨by rw [hR]; exact Nat.zero_le _, by rw [hR]; exact Nat.zero_le _⟩ (fun u_93 H locs hu_93 hw => ?_)
  obtain ⟨ts2_6, te2_6, tk2_6, nu2_6, er2_6, eo2_6, r2_6⟩ := u_93
  obtain ⟨hu_6_0, hu_6_1, hu_6_2⟩ : (PR bf nn ts2_6 te2_6 tk2_6 nu2_6 er2_6 eo2_6 (rdX bf nn 30 500 (((rdX bf nn (50) (500) (feX bf nn)))))) ∧ (rdX bf nn 30 500 (((rdX bf nn (50) (500) (feX bf nn)))) 9 3 = 0 → r2_6 = nuV bf (((rdX bf nn (50) (500) (feX bf nn))))) ∧ (30 ≤ r2_6 ∧ r2_6 ≤ 500) := hu_93
  have hw : qw D A s.heap (mW g cI cB cZ 0 0 nn ts2_6 te2_6 tk2_6 nu2_6 er2_6 eo2_6 0 0 dp bf f_1 td sa ad hi sl sv tr) H locs := hw
  refine q_iast hx hb hK hw 2 0 rfl rfl (by omega) dX7_parse_96 (fun H locs hw => ?_)
  have hw : qw D A s.heap (mW g cI cB cZ 0 0 nn ts2_6 te2_6 tk2_6 nu2_6 er2_6 eo2_6 0 0 dp bf (uI f_1 1 r2_6) td sa ad hi sl sv tr) H locs := hw
  obtain ⟨f_2, e_f_2⟩ : ∃ z, z = uI f_1 1 r2_6 := ⟨_, rfl⟩
  have hw : qw D A s.heap (mW g cI cB cZ 0 0 nn ts2_6 te2_6 tk2_6 nu2_6 er2_6 eo2_6 0 0 dp bf f_2 td sa ad hi sl sv tr) H locs := by rw [e_f_2]; exact hw
  have join_122 : ∀ (x1 : Int) (x2 : Int) (x3 : Int) (x4 : Int) (x5 : Int) (x6 : Int) (y : Int → Int) (lf : Int) (sf : Int) (H : Heap) (locs : List Loc) (ls : Array Slot), (PR bf nn x1 x2 x3 x4 x5 x6 (seX bf nn (hdX bf nn))) → (DR y lf sf (seX bf nn (hdX bf nn))) → qw D A s.heap (mW g cI cB cZ 0 0 nn x1 x2 x3 x4 x5 x6 lf sf dp bf y td sa ad hi sl sv tr) H locs → lv_has ls 2 [(0, .ref (g 0)), (1, .int (iI nn))] → W p l e R s m args below meth c H locs 0 0 Q (F0 m 122 ls []) := by
    intro x1 x2 x3 x4 x5 x6 y lf sf H locs ls h_P0 h_D0 hw hl
    have loop_122 : ∀ (fu : Nat) (x1 : Int) (x2 : Int) (x3 : Int) (x4 : Int) (x5 : Int) (x6 : Int) (y : Int → Int) (lf : Int) (sf : Int) (Ck : Nat → Int → Int) (H : Heap) (locs : List Loc) (ls : Array Slot), ((if x5 = 0 then nn - x2 + 1 else 0)).toNat = fu → (PR bf nn x1 x2 x3 x4 x5 x6 Ck) → (DR y lf sf Ck) → (loK2 bf nn Ck) → qw D A s.heap (mW g cI cB cZ 0 0 nn x1 x2 x3 x4 x5 x6 lf sf dp bf y td sa ad hi sl sv tr) H locs → lv_has ls 2 [(0, .ref (g 0)), (1, .int (iI nn))] → W p l e R s m args below meth c H locs 0 0 Q (F0 m 122 ls []) := by
      intro fu
      induction fu using Nat.strongRecOn with
      | ind fu ih =>
      intro x1 x2 x3 x4 x5 x6 y lf sf Ck H locs ls hn_122 h_P h_D h_K hw hl
      have q_k1 := h_P.2.1
      have q_k2 := h_P.2.2.2.2
      have q_k4 := h_P.2.2.2.1
      have q_k5 := h_P.1
      refine lv_aload_n hx hb dX7_parse_122 rfl (lv_at hl 0 rfl) ?_
      refine q_get hx hb hts hown hK hw.1 ci_X7 0 rfl 8 (by decide) fl_X7_79 rfl dX7_parse_123 ?_
      refine q_if_ne (tgt := 143) hx hb dX7_parse_126 (by decide) (by omega) (fun c_126 => ?_) (fun c_126 => ?_)
      · have h_pa : Ck = paX bf nn := loK_e h_K (fun w => by have w2 := q_k4 w.1; omega)
        have h_P9 : PR bf nn x1 x2 x3 x4 x5 x6 (paX bf nn) := h_pa ▸ h_P
        have h_D9 : DR y lf sf (paX bf nn) := h_pa ▸ h_D
        have q_91 := h_P9.1
        have q_93 := h_P9.2.2.1
        refine lv_aload_n hx hb dX7_parse_143 rfl (lv_at hl 0 rfl) ?_
        refine q_get hx hb hts hown hK hw.1 ci_X7 0 rfl 8 (by decide) fl_X7_79 rfl dX7_parse_144 ?_
        refine q_if_eq (tgt := 166) hx hb dX7_parse_147 (by decide) (by omega) (fun c_147 => ?_) (fun c_147 => absurd c_147 (by omega))
        refine lv_aload_n hx hb dX7_parse_166 rfl (lv_at hl 0 rfl) ?_
        refine q_callM (As := []) (rest := []) (wr := []) hx hb hml hown hts hK (c_X7_takeDraft (C := paX bf nn) (by exact (h_D9.2 hp).1) (by exact (h_D9.2 hp).2.1)) yi_X7_takeDraft ml_X7_42 (by rw [hR]; decide) hw hA [0, 1, 2, 3, 4, 5, 6, 7, 8, 9] [] rfl rfl (by decide) (by decide) (by decide) 0 rfl rfl rfl rfl hl.1 (lv_room (Nat.le_of_ble_eq_true rfl)) dX7_parse_167 ⟨by rw [hR]; exact Nat.zero_le _, by rw [hR]; exact Nat.zero_le _⟩ (fun u_167 H locs hu_167 hw => ?_)
        obtain ⟨td2_7, s2_7, v2_7⟩ := u_167
        obtain ⟨hu_7_0, hu_7_1, hu_7_2⟩ : (RT td2_7 (((paX bf nn)))) ∧ (∀ D : Nat → Int → Int, frC (((paX bf nn))) D → WM td2_7 s2_7 (((paX bf nn))) D) ∧ (v2_7 = uI (uI sv 0 0) 1 0) := hu_167
        have hw : qw D A s.heap (mW g cI cB cZ 0 0 nn x1 x2 x3 x4 x5 x6 lf sf 0 bf y td2_7 s2_7 ad hi sl v2_7 tr) H locs := hw
        refine lv_aload_n hx hb dX7_parse_170 rfl (lv_at hl 0 rfl) ?_
        refine q_callP (As := []) (rest := []) hx hb hml hown hts hK c_X7_sheets yi_X7_sheets ml_X7_164 (by rw [hR]; decide) hw.1 0 rfl rfl rfl rfl hl.1 (lv_room (Nat.le_of_ble_eq_true rfl)) dX7_parse_171 ⟨by rw [hR]; exact Nat.zero_le _, by rw [hR]; exact Nat.zero_le _⟩ ?_
        refine q_top (paX bf nn 8 0) (by exact hu_7_0.1.2.2.1) ?_
        exact hret (x1, x2, x3, x4, x5, x6, y, lf, sf, td2_7, s2_7, v2_7) H locs 174 ls ⟨(by exact h_P9.2.2.2.2.2.2.2.2.2.2.1), (by exact ⟨h_P9.2.2.2.2.2.2.2.2.2.2.2.1, h_P9.2.2.2.2.2.2.2.2.2.2.2.2.1⟩), (by assumption), (by assumption)⟩ hw dX7_parse_174
      · refine lv_aload_n hx hb dX7_parse_129 rfl (lv_at hl 0 rfl) ?_
        refine q_get hx hb hts hown hK hw.1 ci_X7 0 rfl 6 (by decide) fl_X7_69 rfl dX7_parse_130 ?_
        refine q_if_eq (tgt := 143) hx hb dX7_parse_133 (by decide) (by omega) (fun c_133 => ?_) (fun c_133 => ?_)
        · have h_pa : Ck = paX bf nn := loK_e h_K (fun w => by have w2 := q_k4 w.1; omega)
          have h_P9 : PR bf nn x1 x2 x3 x4 x5 x6 (paX bf nn) := h_pa ▸ h_P
          have h_D9 : DR y lf sf (paX bf nn) := h_pa ▸ h_D
          have q_91 := h_P9.1
          have q_93 := h_P9.2.2.1
          refine lv_aload_n hx hb dX7_parse_143 rfl (lv_at hl 0 rfl) ?_
          refine q_get hx hb hts hown hK hw.1 ci_X7 0 rfl 8 (by decide) fl_X7_79 rfl dX7_parse_144 ?_
          refine q_if_eq (tgt := 166) hx hb dX7_parse_147 (by decide) (by omega) (fun c_147 => ?_) (fun c_147 => absurd c_147 (by omega))
          refine lv_aload_n hx hb dX7_parse_166 rfl (lv_at hl 0 rfl) ?_
          refine q_callM (As := []) (rest := []) (wr := []) hx hb hml hown hts hK (c_X7_takeDraft (C := paX bf nn) (by exact (h_D9.2 hp).1) (by exact (h_D9.2 hp).2.1)) yi_X7_takeDraft ml_X7_42 (by rw [hR]; decide) hw hA [0, 1, 2, 3, 4, 5, 6, 7, 8, 9] [] rfl rfl (by decide) (by decide) (by decide) 0 rfl rfl rfl rfl hl.1 (lv_room (Nat.le_of_ble_eq_true rfl)) dX7_parse_167 ⟨by rw [hR]; exact Nat.zero_le _, by rw [hR]; exact Nat.zero_le _⟩ (fun u_167 H locs hu_167 hw => ?_)
          obtain ⟨td2_8, s2_8, v2_8⟩ := u_167
          obtain ⟨hu_8_0, hu_8_1, hu_8_2⟩ : (RT td2_8 (((paX bf nn)))) ∧ (∀ D : Nat → Int → Int, frC (((paX bf nn))) D → WM td2_8 s2_8 (((paX bf nn))) D) ∧ (v2_8 = uI (uI sv 0 0) 1 0) := hu_167
          have hw : qw D A s.heap (mW g cI cB cZ 0 0 nn x1 x2 x3 x4 x5 x6 lf sf 0 bf y td2_8 s2_8 ad hi sl v2_8 tr) H locs := hw
          refine lv_aload_n hx hb dX7_parse_170 rfl (lv_at hl 0 rfl) ?_
          refine q_callP (As := []) (rest := []) hx hb hml hown hts hK c_X7_sheets yi_X7_sheets ml_X7_164 (by rw [hR]; decide) hw.1 0 rfl rfl rfl rfl hl.1 (lv_room (Nat.le_of_ble_eq_true rfl)) dX7_parse_171 ⟨by rw [hR]; exact Nat.zero_le _, by rw [hR]; exact Nat.zero_le _⟩ ?_
          refine q_top (paX bf nn 8 0) (by exact hu_8_0.1.2.2.1) ?_
          exact hret (x1, x2, x3, x4, x5, x6, y, lf, sf, td2_8, s2_8, v2_8) H locs 174 ls ⟨(by exact h_P9.2.2.2.2.2.2.2.2.2.2.1), (by exact ⟨h_P9.2.2.2.2.2.2.2.2.2.2.2.1, h_P9.2.2.2.2.2.2.2.2.2.2.2.2.1⟩), (by assumption), (by assumption)⟩ hw dX7_parse_174
        · have q_go : Ck 9 3 = 0 ∧ Ck 9 2 ≠ 0 := by have w := q_k4 (by omega); omega
          refine lv_aload_n hx hb dX7_parse_136 rfl (lv_at hl 0 rfl) ?_
          refine q_callMz (As := []) (rest := []) (wr := []) (zz_ok z) hx hb hml hown hts hK (c_X7_statement (C := Ck) (by first | omega | assumption) (by first | omega | assumption) (by exact h_P) (by exact h_D)) yi_X7_statement ml_X7_161 (by rw [hR]; decide) hw hA (z_M (zz_ok z) hZ hw hA [0, 1, 2, 3, 4, 5, 6, 7, 8, 9] rfl) [0, 1, 2, 3, 4, 5, 6, 7, 8, 9] [] rfl rfl (by decide) (by decide) (by decide) 0 rfl rfl rfl rfl hl.1 (lv_room (Nat.le_of_ble_eq_true rfl)) dX7_parse_137 ⟨by rw [hR]; exact Nat.zero_le _, by rw [hR]; exact Nat.zero_le _⟩ (fun u_137 H locs hu_137 hw => ?_)
          obtain ⟨ts2_9, te2_9, tk2_9, nu2_9, er2_9, eo2_9, d2_9, l2_9, f2_9⟩ := u_137
          obtain ⟨hu_9_0, hu_9_1⟩ : (PR bf nn ts2_9 te2_9 tk2_9 nu2_9 er2_9 eo2_9 (stX bf nn ((Ck)))) ∧ (DR d2_9 l2_9 f2_9 (stX bf nn ((Ck)))) := hu_137
          have hw : qw D A s.heap (mW g cI cB cZ 0 0 nn ts2_9 te2_9 tk2_9 nu2_9 er2_9 eo2_9 l2_9 f2_9 dp bf d2_9 td sa ad hi sl sv tr) H locs := hw
          have b_3 := ()
          refine lv_goto (tgt := 122) hx hb dX7_parse_140 (by decide) ?_
          exact ih _ (by exact lo_dec hn_122 (h_P.1.trans q_go.1) (by omega) (fun w => by have z1 := (hu_9_0.1).symm.trans w; have z2 := (hu_9_0.2.2.2.1 z1).2.1; have z3 := (loK_s h_K q_go).2 z1; have z4 := (h_P.2.2.2.1 q_go.1).2.1; omega)) (ts2_9) (te2_9) (tk2_9) (nu2_9) (er2_9) (eo2_9) (d2_9) (l2_9) (f2_9) ((stX bf nn Ck)) H locs ls rfl (by exact hu_9_0) (by assumption) (by exact (loK_s h_K q_go).1) hw hl
    exact loop_122 _ (x1) (x2) (x3) (x4) (x5) (x6) (y) (lf) (sf) ((seX bf nn (hdX bf nn))) H locs ls rfl (by exact h_P0) (by exact h_D0) (by exact loK_0 (by omega)) hw hl
  have h_H : PR bf nn _ _ _ _ _ _ (hdX bf nn) := PR_hd hu_6_0
  have h_dh := h_dd
  have h_DH : DR f_2 0 0 (hdX bf nn) := by rw [e_f_2, e_f_1]; exact DR_hd h_dd hu_5_1 hu_6_1 (by have a1 := hu_5_2; have a2 := hu_6_2; omega) fe_56 rdX_56
  have q_h1 := h_H.2.1
  have q_h2 := h_H.2.2.2.2
  refine lv_aload_n hx hb dX7_parse_97 rfl (lv_at hl 0 rfl) ?_
  refine lv_aload_n hx hb dX7_parse_98 rfl (lv_at hl 0 rfl) ?_
  refine q_get hx hb hts hown hK hw.1 ci_X7 0 rfl 6 (by decide) fl_X7_69 rfl dX7_parse_99 ?_
  refine q_iconst hx hb dX7_parse_102 ?_
  refine q_icmp_ne (tgt := 110) hx hb dX7_parse_103 (by decide) (by omega) (fun c_103 => ?_) (fun c_103 => ?_)
  · refine q_iconst hx hb dX7_parse_110 ?_
    refine q_iconst hx hb dX7_parse_111 ?_
    refine q_callM (As := [.int (iI 0), .int (iI 1)]) (rest := []) (wr := []) hx hb hml hown hts hK (c_X7_must (C := (hdX bf nn)) (0) (1) (by exact h_H) (by omega) (by first | omega | assumption)) yi_X7_must ml_X7_97 (by rw [hR]; decide) hw hA [0, 1, 2, 3, 4, 5, 6, 7, 8, 9] [] rfl rfl (by decide) (by decide) (by decide) 0 rfl rfl rfl rfl hl.1 (lv_room (Nat.le_of_ble_eq_true rfl)) dX7_parse_112 ⟨by rw [hR]; exact Nat.zero_le _, by rw [hR]; exact Nat.zero_le _⟩ (fun u_112 H locs hu_112 hw => ?_)
    obtain ⟨er2_10, eo2_10⟩ := u_112
    have hu_10_0 : PR bf nn ts2_6 te2_6 tk2_6 nu2_6 er2_10 eo2_10 (muX 0 1 (((hdX bf nn)))) := hu_112
    have hw : qw D A s.heap (mW g cI cB cZ 0 0 nn ts2_6 te2_6 tk2_6 nu2_6 er2_10 eo2_10 0 0 dp bf f_2 td sa ad hi sl sv tr) H locs := hw
    have b_4 := ()
    refine q_ifb_eq (tgt := 122) hx hb dX7_parse_115 (by decide) (fun c_115 => ?_) (fun c_115 => ?_)
    · exact join_122 (ts2_6) (te2_6) (tk2_6) (nu2_6) (er2_10) (eo2_10) (f_2) (0) (0) H locs ls (by first | (have w := se_f h_H (by omega) c_115; rw [← w.1]; exact hu_10_0) | (have w := se_t h_H (by omega) c_115; rw [w.2.2]; rw [w.2.1] at hu_10_0; exact PR_nx hu_10_0 w.1 zz_none zz_none zz_none zz_none zz_none zz_none)) (by exact DR_se h_DH) hw hl
    · refine lv_aload_n hx hb dX7_parse_118 rfl (lv_at hl 0 rfl) ?_
      refine q_callM (As := []) (rest := []) (wr := []) hx hb hml hown hts hK (c_X7_nextToken (by first | omega | assumption) (by first | omega | assumption) (by first | omega | assumption) (by first | omega | assumption)) yi_X7_nextToken ml_X7_94 (by rw [hR]; decide) hw hA [0, 1, 2, 3, 4, 5, 6, 7, 8, 9] [] rfl rfl (by decide) (by decide) (by decide) 0 rfl rfl rfl rfl hl.1 (lv_room (Nat.le_of_ble_eq_true rfl)) dX7_parse_119 ⟨by rw [hR]; exact Nat.zero_le _, by rw [hR]; exact Nat.zero_le _⟩ (fun u_119 H locs hu_119 hw => ?_)
      obtain ⟨ts2_11, te2_11, tk2_11, nu2_11⟩ := u_119
      obtain ⟨hu_11_0, hu_11_1, hu_11_2, hu_11_3, hu_11_4, hu_11_5⟩ : (ts2_11 = sk bf nn te2_6) ∧ (te2_11 = tkE bf nn ts2_11) ∧ (tk2_11 = tkK bf nn ts2_11) ∧ (tk2_11 = 2 → nu2_11 = nv bf ts2_11 (te2_11 - ts2_11)) ∧ (rg nu2_11) ∧ (tk2_11 = 2 → 0 ≤ nu2_11 ∧ nu2_11 ≤ 9999) := hu_119
      have hw : qw D A s.heap (mW g cI cB cZ 0 0 nn ts2_11 te2_11 tk2_11 nu2_11 er2_10 eo2_10 0 0 dp bf f_2 td sa ad hi sl sv tr) H locs := hw
      exact join_122 (ts2_11) (te2_11) (tk2_11) (nu2_11) (er2_10) (eo2_10) (f_2) (0) (0) H locs ls (by first | (have w := se_f h_H (by omega) c_115; rw [← w.1]; exact hu_10_0) | (have w := se_t h_H (by omega) c_115; rw [w.2.2]; rw [w.2.1] at hu_10_0; exact PR_nx hu_10_0 w.1 hu_11_0 hu_11_1 hu_11_2 hu_11_3 hu_11_4 hu_11_5)) (by exact DR_se h_DH) hw hl
  · refine q_iconst hx hb dX7_parse_106 ?_
    refine lv_goto (tgt := 111) hx hb dX7_parse_107 (by decide) ?_
    refine q_iconst hx hb dX7_parse_111 ?_
    refine q_callM (As := [.int (iI 1), .int (iI 1)]) (rest := []) (wr := []) hx hb hml hown hts hK (c_X7_must (C := (hdX bf nn)) (1) (1) (by exact h_H) (by omega) (by first | omega | assumption)) yi_X7_must ml_X7_97 (by rw [hR]; decide) hw hA [0, 1, 2, 3, 4, 5, 6, 7, 8, 9] [] rfl rfl (by decide) (by decide) (by decide) 0 rfl rfl rfl rfl hl.1 (lv_room (Nat.le_of_ble_eq_true rfl)) dX7_parse_112 ⟨by rw [hR]; exact Nat.zero_le _, by rw [hR]; exact Nat.zero_le _⟩ (fun u_112 H locs hu_112 hw => ?_)
    obtain ⟨er2_12, eo2_12⟩ := u_112
    have hu_12_0 : PR bf nn ts2_6 te2_6 tk2_6 nu2_6 er2_12 eo2_12 (muX 1 1 (((hdX bf nn)))) := hu_112
    have hw : qw D A s.heap (mW g cI cB cZ 0 0 nn ts2_6 te2_6 tk2_6 nu2_6 er2_12 eo2_12 0 0 dp bf f_2 td sa ad hi sl sv tr) H locs := hw
    have b_5 := ()
    refine q_ifb_eq (tgt := 122) hx hb dX7_parse_115 (by decide) (fun c_115 => ?_) (fun c_115 => ?_)
    · exact join_122 (ts2_6) (te2_6) (tk2_6) (nu2_6) (er2_12) (eo2_12) (f_2) (0) (0) H locs ls (by first | (have w := se_f h_H (by omega) c_115; rw [← w.1]; exact hu_12_0) | (have w := se_t h_H (by omega) c_115; rw [w.2.2]; rw [w.2.1] at hu_12_0; exact PR_nx hu_12_0 w.1 zz_none zz_none zz_none zz_none zz_none zz_none)) (by exact DR_se h_DH) hw hl
    · refine lv_aload_n hx hb dX7_parse_118 rfl (lv_at hl 0 rfl) ?_
      refine q_callM (As := []) (rest := []) (wr := []) hx hb hml hown hts hK (c_X7_nextToken (by first | omega | assumption) (by first | omega | assumption) (by first | omega | assumption) (by first | omega | assumption)) yi_X7_nextToken ml_X7_94 (by rw [hR]; decide) hw hA [0, 1, 2, 3, 4, 5, 6, 7, 8, 9] [] rfl rfl (by decide) (by decide) (by decide) 0 rfl rfl rfl rfl hl.1 (lv_room (Nat.le_of_ble_eq_true rfl)) dX7_parse_119 ⟨by rw [hR]; exact Nat.zero_le _, by rw [hR]; exact Nat.zero_le _⟩ (fun u_119 H locs hu_119 hw => ?_)
      obtain ⟨ts2_13, te2_13, tk2_13, nu2_13⟩ := u_119
      obtain ⟨hu_13_0, hu_13_1, hu_13_2, hu_13_3, hu_13_4, hu_13_5⟩ : (ts2_13 = sk bf nn te2_6) ∧ (te2_13 = tkE bf nn ts2_13) ∧ (tk2_13 = tkK bf nn ts2_13) ∧ (tk2_13 = 2 → nu2_13 = nv bf ts2_13 (te2_13 - ts2_13)) ∧ (rg nu2_13) ∧ (tk2_13 = 2 → 0 ≤ nu2_13 ∧ nu2_13 ≤ 9999) := hu_119
      have hw : qw D A s.heap (mW g cI cB cZ 0 0 nn ts2_13 te2_13 tk2_13 nu2_13 er2_12 eo2_12 0 0 dp bf f_2 td sa ad hi sl sv tr) H locs := hw
      exact join_122 (ts2_13) (te2_13) (tk2_13) (nu2_13) (er2_12) (eo2_12) (f_2) (0) (0) H locs ls (by first | (have w := se_f h_H (by omega) c_115; rw [← w.1]; exact hu_12_0) | (have w := se_t h_H (by omega) c_115; rw [w.2.2]; rw [w.2.1] at hu_12_0; exact PR_nx hu_12_0 w.1 hu_13_0 hu_13_1 hu_13_2 hu_13_3 hu_13_4 hu_13_5)) (by exact DR_se h_DH) hw hl
