variable {l : Launch} {T C : Nat → Int → Int} {D : va_G} {cI cB cZ cS cJ : ClassId} {g : Nat → Nat} {th len tl ts te tk nu er eo hL hS dp : Int} {bf dr td sa ad hi sl sv tr : Int → Int}
set_option maxHeartbeats 4000000 in
set_option maxRecDepth 100000 in
theorem c_X7_fail (wh : Int) : qM l D (tyG cI cB cZ cS cJ) yX7_fail cX7_fail 2 (Option.some FieldType.int) 0 0 [.ref (g 0), .int (iI wh)] (mW g cI cB cZ th len tl ts te tk nu er eo hL hS dp bf dr td sa ad hi sl sv tr) (fun u : (Int) => (u = wh)) (fun u => some (.int (iI 0))) (fun u => (mW g cI cB cZ u len tl ts te tk nu er eo hL hS dp bf dr td sa ad hi sl sv tr)) := by
  refine qM_enterI (val := fun u => iI 0) (by decide) (Nat.le_of_ble_eq_true rfl) (fun u hu => ⟨rfl, nar_i _⟩) (fun p e R s m args below meth c Q ls A X hR hA hw hl hret => ?_)
  obtain ⟨hx, hb, hml, hown, hts, hK⟩ := X
  have hl : lv_has ls 2 [(0, .ref (g 0)), (1, .int (iI wh))] := hl
  suffices K : ∀ (H : Heap) (locs : List Loc), qw D A s.heap (mW g cI cB cZ th len tl ts te tk nu er eo hL hS dp bf dr td sa ad hi sl sv tr) H locs → W p l e R s m args below meth c H locs 0 0 Q (F0 m 0 ls []) from K s.heap [] hw
  clear hw
  intro H locs hw
  refine lv_aload_n hx hb dX7_fail_0 rfl (lv_at hl 0 rfl) ?_
  refine lv_iload_n hx hb dX7_fail_1 rfl (lv_at hl 1 rfl) ?_
  refine q_put hx hb hts hown hK hw ci_X7 0 rfl 0 (by decide) fl_X7_45 rfl rfl rfl (Nat.le_of_ble_eq_true rfl) dX7_fail_2 (fun H locs hw => ?_)
  have hw : qw D A s.heap (mW g cI cB cZ wh len tl ts te tk nu er eo hL hS dp bf dr td sa ad hi sl sv tr) H locs := hw
  refine q_iconst hx hb dX7_fail_5 ?_
  exact hret (wh) H locs 6 ls (by rfl) hw dX7_fail_6

set_option maxHeartbeats 4000000 in
set_option maxRecDepth 100000 in
theorem c_X7_size (w : Int) (hM : WM td sa T C) (hr_w : rg w) : qM l D (tyG cI cB cZ cS cJ) yX7_size cX7_size 2 (Option.some FieldType.int) 2 42 [.ref (g 0), .int (iI w)] (mW g cI cB cZ th len tl ts te tk nu er eo hL hS dp bf dr td sa ad hi sl sv tr) (fun u : (Int) × (Int) => (((u.1)) = if 0 ≤ w ∧ w ≤ 11 then 0 else 1) ∧ (((u.1)) = 0 → ((u.2)) = sizV T C dp w)) (fun u => some (.int (iI (u.2)))) (fun u => (mW g cI cB cZ (u.1) len tl ts te tk nu er eo hL hS dp bf dr td sa ad hi sl sv tr)) := by
  have hsc := hM.sc
  refine qM_enterI (val := fun u => iI (u.2)) (by decide) (Nat.le_of_ble_eq_true rfl) (fun u hu => ⟨rfl, nar_i _⟩) (fun p e R s m args below meth c Q ls A X hR hA hw hl hret => ?_)
  obtain ⟨hx, hb, hml, hown, hts, hK⟩ := X
  have hl : lv_has ls 2 [(0, .ref (g 0)), (1, .int (iI w))] := hl
  suffices K : ∀ (H : Heap) (locs : List Loc), qw D A s.heap (mW g cI cB cZ th len tl ts te tk nu er eo hL hS dp bf dr td sa ad hi sl sv tr) H locs → W p l e R s m args below meth c H locs 0 0 Q (F0 m 0 ls []) from K s.heap [] hw
  clear hw
  intro H locs hw
  refine lv_aload_n hx hb dX7_size_0 rfl (lv_at hl 0 rfl) ?_
  refine lv_iload_n hx hb dX7_size_1 rfl (lv_at hl 1 rfl) ?_
  refine q_iconst hx hb dX7_size_2 ?_
  refine q_bipush hx hb dX7_size_3 rfl ?_
  refine q_callPS (As := [.int (iI w), .int (iI 0), .int (iI 11)]) (rest := [.ref (g 0)]) hx hb hml hown hts hK (c_X7_within (w) (0) (11) (by first | omega | assumption) (by first | omega | assumption) (by first | omega | assumption)) yt_X7_within ml_X7_72 (by rw [hR]; decide) (show va_P D vwCl [] _ from fun k q h => by simp at h)  rfl rfl hl.1 (lv_room (Nat.le_of_ble_eq_true rfl)) dX7_size_5 ⟨by rw [hR]; exact Nat.zero_le _, by rw [hR]; exact Nat.zero_le _⟩ ?_
  refine q_ifb_eq (tgt := 15) hx hb dX7_size_8 (by decide) (fun c_8 => ?_) (fun c_8 => ?_)
  · refine q_iconst hx hb dX7_size_15 ?_
    refine q_put hx hb hts hown hK hw ci_X7 0 rfl 0 (by decide) fl_X7_45 rfl rfl rfl (Nat.le_of_ble_eq_true rfl) dX7_size_16 (fun H locs hw => ?_)
    have hw : qw D A s.heap (mW g cI cB cZ 1 len tl ts te tk nu er eo hL hS dp bf dr td sa ad hi sl sv tr) H locs := hw
    refine lv_aload_n hx hb dX7_size_19 rfl (lv_at hl 0 rfl) ?_
    refine q_get hx hb hts hown hK hw.1 ci_X7 0 rfl 0 (by decide) fl_X7_45 rfl dX7_size_20 ?_
    refine q_if_le (tgt := 28) hx hb dX7_size_23 (by decide) (by omega) (fun c_23 => absurd c_23 (by omega)) (fun c_23 => ?_)
    refine q_iconst hx hb dX7_size_26 ?_
    exact hret (1, 0) H locs 27 ls ⟨(by first | exact (if_pos (by decide)).symm | exact (if_pos (by omega)).symm | exact (if_neg (by omega)).symm), (by intro h; first | rfl | exact absurd h (by decide))⟩ hw dX7_size_27
  · refine q_iconst hx hb dX7_size_11 ?_
    refine lv_goto (tgt := 16) hx hb dX7_size_12 (by decide) ?_
    refine q_put hx hb hts hown hK hw ci_X7 0 rfl 0 (by decide) fl_X7_45 rfl rfl rfl (Nat.le_of_ble_eq_true rfl) dX7_size_16 (fun H locs hw => ?_)
    have hw : qw D A s.heap (mW g cI cB cZ 0 len tl ts te tk nu er eo hL hS dp bf dr td sa ad hi sl sv tr) H locs := hw
    refine lv_aload_n hx hb dX7_size_19 rfl (lv_at hl 0 rfl) ?_
    refine q_get hx hb hts hown hK hw.1 ci_X7 0 rfl 0 (by decide) fl_X7_45 rfl dX7_size_20 ?_
    refine q_if_le (tgt := 28) hx hb dX7_size_23 (by decide) (by omega) (fun c_23 => ?_) (fun c_23 => absurd c_23 (by omega))
    refine lv_iload_n hx hb dX7_size_28 rfl (lv_at hl 1 rfl) ?_
    have rg_29 : rg w := by omega
    by_cases k_29_0 : w = 0
    · refine q_tabIn (tgt := 88) hx hb dX7_size_29 rg_29 (by omega) (by omega) (by rw [k_29_0] <;> rfl) (by decide) ?_
      subst k_29_0
      refine lv_aload_n hx hb dX7_size_88 rfl (lv_at hl 0 rfl) ?_
      refine q_callP (As := []) (rest := []) hx hb hml hown hts hK c_X7_sheets yi_X7_sheets ml_X7_164 (by rw [hR]; decide) hw.1 0 rfl rfl rfl rfl hl.1 (lv_room (Nat.le_of_ble_eq_true rfl)) dX7_size_89 ⟨by rw [hR]; exact Nat.zero_le _, by rw [hR]; exact Nat.zero_le _⟩ ?_
      refine q_top (T 8 0) (by omega) ?_
      exact hret (0, T 8 0) H locs 92 ls ⟨(by first | exact (if_pos (by decide)).symm | exact (if_pos (by omega)).symm | exact (if_neg (by omega)).symm), (by intro h; first | rfl | exact absurd h (by decide))⟩ hw dX7_size_92
    by_cases k_29_1 : w = 1
    · refine q_tabIn (tgt := 93) hx hb dX7_size_29 rg_29 (by omega) (by omega) (by rw [k_29_1] <;> rfl) (by decide) ?_
      subst k_29_1
      refine lv_aload_n hx hb dX7_size_93 rfl (lv_at hl 0 rfl) ?_
      refine q_get hx hb hts hown hK hw.1 ci_X7 0 rfl 14 (by decide) fl_X7_20 rfl dX7_size_94 ?_
      refine q_bipush hx hb dX7_size_97 rfl ?_
      refine q_iald hx hb hK hw.1 4 0 rfl rfl (z := 6) (v := (T 8 0 - C 11 0)) (by omega) (by omega) dX7_size_99 ?_
      exact hret (0, T 8 0 - C 11 0) H locs 100 ls ⟨(by first | exact (if_pos (by decide)).symm | exact (if_pos (by omega)).symm | exact (if_neg (by omega)).symm), (by intro h; first | rfl | exact absurd h (by decide))⟩ hw dX7_size_100
    by_cases k_29_2 : w = 2
    · refine q_tabIn (tgt := 101) hx hb dX7_size_29 rg_29 (by omega) (by omega) (by rw [k_29_2] <;> rfl) (by decide) ?_
      subst k_29_2
      refine lv_aload_n hx hb dX7_size_101 rfl (lv_at hl 0 rfl) ?_
      refine q_get hx hb hts hown hK hw.1 ci_X7 0 rfl 14 (by decide) fl_X7_20 rfl dX7_size_102 ?_
      refine q_bipush hx hb dX7_size_105 rfl ?_
      refine q_iald hx hb hK hw.1 4 0 rfl rfl (z := 7) (v := (C 11 1)) (by omega) (by omega) dX7_size_107 ?_
      exact hret (0, C 11 1) H locs 108 ls ⟨(by first | exact (if_pos (by decide)).symm | exact (if_pos (by omega)).symm | exact (if_neg (by omega)).symm), (by intro h; first | rfl | exact absurd h (by decide))⟩ hw dX7_size_108
    by_cases k_29_3 : w = 3
    · refine q_tabIn (tgt := 109) hx hb dX7_size_29 rg_29 (by omega) (by omega) (by rw [k_29_3] <;> rfl) (by decide) ?_
      subst k_29_3
      refine lv_aload_n hx hb dX7_size_109 rfl (lv_at hl 0 rfl) ?_
      refine q_get hx hb hts hown hK hw.1 ci_X7 0 rfl 14 (by decide) fl_X7_20 rfl dX7_size_110 ?_
      refine q_iconst hx hb dX7_size_113 ?_
      refine q_iald hx hb hK hw.1 4 0 rfl rfl (z := 5) (v := (C 11 2)) (by omega) (by omega) dX7_size_114 ?_
      exact hret (0, C 11 2) H locs 115 ls ⟨(by first | exact (if_pos (by decide)).symm | exact (if_pos (by omega)).symm | exact (if_neg (by omega)).symm), (by intro h; first | rfl | exact absurd h (by decide))⟩ hw dX7_size_115
    by_cases k_29_4 : w = 4
    · refine q_tabIn (tgt := 116) hx hb dX7_size_29 rg_29 (by omega) (by omega) (by rw [k_29_4] <;> rfl) (by decide) ?_
      subst k_29_4
      refine lv_aload_n hx hb dX7_size_116 rfl (lv_at hl 0 rfl) ?_
      refine q_get hx hb hts hown hK hw.1 ci_X7 0 rfl 14 (by decide) fl_X7_20 rfl dX7_size_117 ?_
      refine q_bipush hx hb dX7_size_120 rfl ?_
      refine q_iald hx hb hK hw.1 4 0 rfl rfl (z := 15) (v := (C 11 3)) (by omega) (by omega) dX7_size_122 ?_
      exact hret (0, C 11 3) H locs 123 ls ⟨(by first | exact (if_pos (by decide)).symm | exact (if_pos (by omega)).symm | exact (if_neg (by omega)).symm), (by intro h; first | rfl | exact absurd h (by decide))⟩ hw dX7_size_123
    by_cases k_29_5 : w = 5
    · refine q_tabIn (tgt := 124) hx hb dX7_size_29 rg_29 (by omega) (by omega) (by rw [k_29_5] <;> rfl) (by decide) ?_
      subst k_29_5
      refine lv_aload_n hx hb dX7_size_124 rfl (lv_at hl 0 rfl) ?_
      refine q_get hx hb hts hown hK hw.1 ci_X7 0 rfl 14 (by decide) fl_X7_20 rfl dX7_size_125 ?_
      refine q_bipush hx hb dX7_size_128 rfl ?_
      refine q_iald hx hb hK hw.1 4 0 rfl rfl (z := 16) (v := (C 11 4)) (by omega) (by omega) dX7_size_130 ?_
      exact hret (0, C 11 4) H locs 131 ls ⟨(by first | exact (if_pos (by decide)).symm | exact (if_pos (by omega)).symm | exact (if_neg (by omega)).symm), (by intro h; first | rfl | exact absurd h (by decide))⟩ hw dX7_size_131
    by_cases k_29_6 : w = 6
    · refine q_tabIn (tgt := 132) hx hb dX7_size_29 rg_29 (by omega) (by omega) (by rw [k_29_6] <;> rfl) (by decide) ?_
      subst k_29_6
      refine lv_aload_n hx hb dX7_size_132 rfl (lv_at hl 0 rfl) ?_
      refine q_get hx hb hts hown hK hw.1 ci_X7 0 rfl 14 (by decide) fl_X7_20 rfl dX7_size_133 ?_
      refine q_iconst hx hb dX7_size_136 ?_
      refine q_iald hx hb hK hw.1 4 0 rfl rfl (z := 0) (v := (C 11 5)) (by omega) (by omega) dX7_size_137 ?_
      exact hret (0, C 11 5) H locs 138 ls ⟨(by first | exact (if_pos (by decide)).symm | exact (if_pos (by omega)).symm | exact (if_neg (by omega)).symm), (by intro h; first | rfl | exact absurd h (by decide))⟩ hw dX7_size_138
    by_cases k_29_7 : w = 7
    · refine q_tabIn (tgt := 139) hx hb dX7_size_29 rg_29 (by omega) (by omega) (by rw [k_29_7] <;> rfl) (by decide) ?_
      subst k_29_7
      refine lv_aload_n hx hb dX7_size_139 rfl (lv_at hl 0 rfl) ?_
      refine q_get hx hb hts hown hK hw.1 ci_X7 0 rfl 11 (by decide) fl_X7_17 rfl dX7_size_140 ?_
      refine q_iconst hx hb dX7_size_143 ?_
      refine q_iald hx hb hK hw.1 3 0 rfl rfl (z := 0) (v := (T 8 1)) (by omega) (by omega) dX7_size_144 ?_
      exact hret (0, T 8 1) H locs 145 ls ⟨(by first | exact (if_pos (by decide)).symm | exact (if_pos (by omega)).symm | exact (if_neg (by omega)).symm), (by intro h; first | rfl | exact absurd h (by decide))⟩ hw dX7_size_145
    by_cases k_29_8 : w = 8
    · refine q_tabIn (tgt := 146) hx hb dX7_size_29 rg_29 (by omega) (by omega) (by rw [k_29_8] <;> rfl) (by decide) ?_
      subst k_29_8
      refine lv_aload_n hx hb dX7_size_146 rfl (lv_at hl 0 rfl) ?_
      refine q_get hx hb hts hown hK hw.1 ci_X7 0 rfl 11 (by decide) fl_X7_17 rfl dX7_size_147 ?_
      refine q_iconst hx hb dX7_size_150 ?_
      refine q_iald hx hb hK hw.1 3 0 rfl rfl (z := 1) (v := (T 8 2)) (by omega) (by omega) dX7_size_151 ?_
      exact hret (0, T 8 2) H locs 152 ls ⟨(by first | exact (if_pos (by decide)).symm | exact (if_pos (by omega)).symm | exact (if_neg (by omega)).symm), (by intro h; first | rfl | exact absurd h (by decide))⟩ hw dX7_size_152
    by_cases k_29_9 : w = 9
    · refine q_tabIn (tgt := 153) hx hb dX7_size_29 rg_29 (by omega) (by omega) (by rw [k_29_9] <;> rfl) (by decide) ?_
      subst k_29_9
      refine lv_aload_n hx hb dX7_size_153 rfl (lv_at hl 0 rfl) ?_
      refine q_callP (As := []) (rest := []) hx hb hml hown hts hK (c_X7_usual (by first | omega | assumption)) yi_X7_usual ml_X7_186 (by rw [hR]; decide) hw.1 0 rfl rfl rfl rfl hl.1 (lv_room (Nat.le_of_ble_eq_true rfl)) dX7_size_154 ⟨by rw [hR]; exact Nat.zero_le _, by rw [hR]; exact Nat.zero_le _⟩ ?_
      exact hret (0, usG (C 10) (C 11 6) (T 8 2)) H locs 157 ls ⟨(by first | exact (if_pos (by decide)).symm | exact (if_pos (by omega)).symm | exact (if_neg (by omega)).symm), (by intro h; first | rfl | exact absurd h (by decide))⟩ hw dX7_size_157
    by_cases k_29_10 : w = 10
    · refine q_tabIn (tgt := 158) hx hb dX7_size_29 rg_29 (by omega) (by omega) (by rw [k_29_10] <;> rfl) (by decide) ?_
      subst k_29_10
      refine lv_aload_n hx hb dX7_size_158 rfl (lv_at hl 0 rfl) ?_
      refine q_callP (As := []) (rest := []) hx hb hml hown hts hK (c_X7_halves (by first | omega | assumption)) yi_X7_halves ml_X7_231 (by rw [hR]; decide) hw.1 0 rfl rfl rfl rfl hl.1 (lv_room (Nat.le_of_ble_eq_true rfl)) dX7_size_159 ⟨by rw [hR]; exact Nat.zero_le _, by rw [hR]; exact Nat.zero_le _⟩ ?_
      exact hret (0, sI (C 3) (T 8 0)) H locs 162 ls ⟨(by first | exact (if_pos (by decide)).symm | exact (if_pos (by omega)).symm | exact (if_neg (by omega)).symm), (by intro h; first | rfl | exact absurd h (by decide))⟩ hw dX7_size_162
    refine q_tabOut (tgt := 163) hx hb dX7_size_29 rg_29 (by omega) (by decide) ?_
    refine lv_aload_n hx hb dX7_size_163 rfl (lv_at hl 0 rfl) ?_
    refine q_get hx hb hts hown hK hw.1 ci_X7 0 rfl 17 (by decide) fl_X7_173 rfl dX7_size_164 ?_
    exact hret (0, dp) H locs 167 ls ⟨(by exact (if_pos (by omega)).symm), (by intro h; rw [show w = 11 by omega]; rfl)⟩ hw dX7_size_167

set_option maxHeartbeats 4000000 in
set_option maxRecDepth 100000 in
theorem c_X7_limit (w : Int) (hM : WM td sa T C) (hr_w : rg w) : qM l D (tyG cI cB cZ cS cJ) yX7_limit cX7_limit 2 (Option.some FieldType.int) 1 22 [.ref (g 0), .int (iI w)] (mW g cI cB cZ th len tl ts te tk nu er eo hL hS dp bf dr td sa ad hi sl sv tr) (fun u : (Int) × (Int) => (((u.1)) = if 0 ≤ w ∧ w ≤ 3 then 0 else 1) ∧ (((u.1)) = 0 → ((u.2)) = C 8 w)) (fun u => some (.int (iI (u.2)))) (fun u => (mW g cI cB cZ (u.1) len tl ts te tk nu er eo hL hS dp bf dr td sa ad hi sl sv tr)) := by
  have hsc := hM.sc
  refine qM_enterI (val := fun u => iI (u.2)) (by decide) (Nat.le_of_ble_eq_true rfl) (fun u hu => ⟨rfl, nar_i _⟩) (fun p e R s m args below meth c Q ls A X hR hA hw hl hret => ?_)
  obtain ⟨hx, hb, hml, hown, hts, hK⟩ := X
  have hl : lv_has ls 2 [(0, .ref (g 0)), (1, .int (iI w))] := hl
  suffices K : ∀ (H : Heap) (locs : List Loc), qw D A s.heap (mW g cI cB cZ th len tl ts te tk nu er eo hL hS dp bf dr td sa ad hi sl sv tr) H locs → W p l e R s m args below meth c H locs 0 0 Q (F0 m 0 ls []) from K s.heap [] hw
  clear hw
  intro H locs hw
  refine lv_aload_n hx hb dX7_limit_0 rfl (lv_at hl 0 rfl) ?_
  refine lv_iload_n hx hb dX7_limit_1 rfl (lv_at hl 1 rfl) ?_
  refine q_iconst hx hb dX7_limit_2 ?_
  refine q_iconst hx hb dX7_limit_3 ?_
  refine q_callPS (As := [.int (iI w), .int (iI 0), .int (iI 3)]) (rest := [.ref (g 0)]) hx hb hml hown hts hK (c_X7_within (w) (0) (3) (by first | omega | assumption) (by first | omega | assumption) (by first | omega | assumption)) yt_X7_within ml_X7_72 (by rw [hR]; decide) (show va_P D vwCl [] _ from fun k q h => by simp at h)  rfl rfl hl.1 (lv_room (Nat.le_of_ble_eq_true rfl)) dX7_limit_4 ⟨by rw [hR]; exact Nat.zero_le _, by rw [hR]; exact Nat.zero_le _⟩ ?_
  refine q_ifb_eq (tgt := 14) hx hb dX7_limit_7 (by decide) (fun c_7 => ?_) (fun c_7 => ?_)
  · refine q_iconst hx hb dX7_limit_14 ?_
    refine q_put hx hb hts hown hK hw ci_X7 0 rfl 0 (by decide) fl_X7_45 rfl rfl rfl (Nat.le_of_ble_eq_true rfl) dX7_limit_15 (fun H locs hw => ?_)
    have hw : qw D A s.heap (mW g cI cB cZ 1 len tl ts te tk nu er eo hL hS dp bf dr td sa ad hi sl sv tr) H locs := hw
    refine lv_aload_n hx hb dX7_limit_18 rfl (lv_at hl 0 rfl) ?_
    refine q_get hx hb hts hown hK hw.1 ci_X7 0 rfl 0 (by decide) fl_X7_45 rfl dX7_limit_19 ?_
    refine q_if_ne (tgt := 36) hx hb dX7_limit_22 (by decide) (by omega) (fun c_22 => ?_) (fun c_22 => absurd c_22 (by omega))
    refine q_iconst hx hb dX7_limit_36 ?_
    exact hret (1, 0) H locs 37 ls ⟨(by first | (rw [if_pos (by omega)]) | (rw [if_neg (by omega)]) | omega), (by intro h; first | exact absurd h (by omega) | exact hM.li w (by omega) (by omega))⟩ hw dX7_limit_37
  · refine q_iconst hx hb dX7_limit_10 ?_
    refine lv_goto (tgt := 15) hx hb dX7_limit_11 (by decide) ?_
    refine q_put hx hb hts hown hK hw ci_X7 0 rfl 0 (by decide) fl_X7_45 rfl rfl rfl (Nat.le_of_ble_eq_true rfl) dX7_limit_15 (fun H locs hw => ?_)
    have hw : qw D A s.heap (mW g cI cB cZ 0 len tl ts te tk nu er eo hL hS dp bf dr td sa ad hi sl sv tr) H locs := hw
    refine lv_aload_n hx hb dX7_limit_18 rfl (lv_at hl 0 rfl) ?_
    refine q_get hx hb hts hown hK hw.1 ci_X7 0 rfl 0 (by decide) fl_X7_45 rfl dX7_limit_19 ?_
    refine q_if_ne (tgt := 36) hx hb dX7_limit_22 (by decide) (by omega) (fun c_22 => absurd c_22 (by omega)) (fun c_22 => ?_)
    refine lv_aload_n hx hb dX7_limit_25 rfl (lv_at hl 0 rfl) ?_
    refine q_get hx hb hts hown hK hw.1 ci_X7 0 rfl 14 (by decide) fl_X7_20 rfl dX7_limit_26 ?_
    refine q_iconst hx hb dX7_limit_29 ?_
    refine lv_iload_n hx hb dX7_limit_30 rfl (lv_at hl 1 rfl) ?_
    refine q_iadd hx hb dX7_limit_31 ?_
    refine q_iald hx hb hK hw.1 4 0 rfl rfl (z := (1 + w)) (v := (sa (1 + w))) (by omega) rfl dX7_limit_32 ?_
    refine lv_goto (tgt := 37) hx hb dX7_limit_33 (by decide) ?_
    exact hret (0, sa (1 + w)) H locs 37 ls ⟨(by first | (rw [if_pos (by omega)]) | (rw [if_neg (by omega)]) | omega), (by intro h; first | exact absurd h (by omega) | exact hM.li w (by omega) (by omega))⟩ hw dX7_limit_37

set_option maxHeartbeats 4000000 in
set_option maxRecDepth 100000 in
theorem c_X7_sheet (sh : Int) (w : Int) (hM : WM td sa T C) (hr_sh : rg sh) (hr_w : rg w) : qM l D (tyG cI cB cZ cS cJ) yX7_sheet cX7_sheet 3 (Option.some FieldType.int) 2 43 [.ref (g 0), .int (iI sh), .int (iI w)] (mW g cI cB cZ th len tl ts te tk nu er eo hL hS dp bf dr td sa ad hi sl sv tr) (fun u : (Int) × (Int) => (((u.1)) = if ¬ (0 ≤ sh ∧ sh ≤ T 8 0 - 1) then 1 else if ¬ (0 ≤ w ∧ w ≤ 7) then 2 else 0) ∧ (((u.1)) = 0 → ((u.2)) = shtV T C sh w)) (fun u => some (.int (iI (u.2)))) (fun u => (mW g cI cB cZ (u.1) len tl ts te tk nu er eo hL hS dp bf dr td sa ad hi sl sv tr)) := by
  have hsc := hM.sc
  refine qM_enterI (val := fun u => iI (u.2)) (by decide) (Nat.le_of_ble_eq_true rfl) (fun u hu => ⟨rfl, nar_i _⟩) (fun p e R s m args below meth c Q ls A X hR hA hw hl hret => ?_)
  obtain ⟨hx, hb, hml, hown, hts, hK⟩ := X
  have hl : lv_has ls 3 [(0, .ref (g 0)), (1, .int (iI sh)), (2, .int (iI w))] := hl
  suffices K : ∀ (H : Heap) (locs : List Loc), qw D A s.heap (mW g cI cB cZ th len tl ts te tk nu er eo hL hS dp bf dr td sa ad hi sl sv tr) H locs → W p l e R s m args below meth c H locs 0 0 Q (F0 m 0 ls []) from K s.heap [] hw
  clear hw
  intro H locs hw
  refine lv_aload_n hx hb dX7_sheet_0 rfl (lv_at hl 0 rfl) ?_
  refine lv_aload_n hx hb dX7_sheet_1 rfl (lv_at hl 0 rfl) ?_
  refine lv_iload_n hx hb dX7_sheet_2 rfl (lv_at hl 1 rfl) ?_
  refine q_callP (As := [.int (iI sh)]) (rest := [.ref (g 0)]) hx hb hml hown hts hK (c_X7_isSheet (sh) (by first | omega | assumption) (by first | omega | assumption)) yi_X7_isSheet ml_X7_234 (by rw [hR]; decide) hw.1 0 rfl rfl rfl rfl hl.1 (lv_room (Nat.le_of_ble_eq_true rfl)) dX7_sheet_3 ⟨by rw [hR]; exact Nat.zero_le _, by rw [hR]; exact Nat.zero_le _⟩ ?_
  refine q_ifb_ne (tgt := 13) hx hb dX7_sheet_6 (by decide) (fun c_6 => ?_) (fun c_6 => ?_)
  · refine lv_iload_n hx hb dX7_sheet_13 rfl (lv_at hl 2 rfl) ?_
    refine q_iconst hx hb dX7_sheet_14 ?_
    refine q_bipush hx hb dX7_sheet_15 rfl ?_
    refine q_callPS (As := [.int (iI w), .int (iI 0), .int (iI 7)]) (rest := [.ref (g 0)]) hx hb hml hown hts hK (c_X7_within (w) (0) (7) (by first | omega | assumption) (by first | omega | assumption) (by first | omega | assumption)) yt_X7_within ml_X7_72 (by rw [hR]; decide) (show va_P D vwCl [] _ from fun k q h => by simp at h)  rfl rfl hl.1 (lv_room (Nat.le_of_ble_eq_true rfl)) dX7_sheet_17 ⟨by rw [hR]; exact Nat.zero_le _, by rw [hR]; exact Nat.zero_le _⟩ ?_
    refine q_ifb_ne (tgt := 27) hx hb dX7_sheet_20 (by decide) (fun c_20 => ?_) (fun c_20 => ?_)
    · refine q_iconst hx hb dX7_sheet_27 ?_
      refine q_put hx hb hts hown hK hw ci_X7 0 rfl 0 (by decide) fl_X7_45 rfl rfl rfl (Nat.le_of_ble_eq_true rfl) dX7_sheet_28 (fun H locs hw => ?_)
      have hw : qw D A s.heap (mW g cI cB cZ 0 len tl ts te tk nu er eo hL hS dp bf dr td sa ad hi sl sv tr) H locs := hw
      refine lv_aload_n hx hb dX7_sheet_31 rfl (lv_at hl 0 rfl) ?_
      refine q_get hx hb hts hown hK hw.1 ci_X7 0 rfl 0 (by decide) fl_X7_45 rfl dX7_sheet_32 ?_
      refine q_if_le (tgt := 40) hx hb dX7_sheet_35 (by decide) (by omega) (fun c_35 => ?_) (fun c_35 => absurd c_35 (by omega))
      refine lv_iload_n hx hb dX7_sheet_40 rfl (lv_at hl 2 rfl) ?_
      have rg_41 : rg w := by omega
      by_cases k_41_2 : w = 2
      · refine q_look (tgt := 76) hx hb dX7_sheet_41 rg_41 rfl (by rw [k_41_2] <;> rfl) (by decide) ?_
        subst k_41_2
        have q_s := hM.sh sh (by omega) (by omega)
        refine lv_aload_n hx hb dX7_sheet_76 rfl (lv_at hl 0 rfl) ?_
        refine q_get hx hb hts hown hK hw.1 ci_X7 0 rfl 14 (by decide) fl_X7_20 rfl dX7_sheet_77 ?_
        refine lv_iload_n hx hb dX7_sheet_80 rfl (lv_at hl 1 rfl) ?_
        refine q_callPS (As := [.int (iI sh)]) (rest := [.ref (g 4)]) hx hb hml hown hts hK (c_X7_of (sh)) yt_X7_of ml_X7_167 (by rw [hR]; decide) (show va_P D vwCl [] _ from fun k q h => by simp at h)  rfl rfl hl.1 (lv_room (Nat.le_of_ble_eq_true rfl)) dX7_sheet_81 ⟨by rw [hR]; exact Nat.zero_le _, by rw [hR]; exact Nat.zero_le _⟩ ?_
        refine q_iconst hx hb dX7_sheet_84 ?_
        refine q_iadd hx hb dX7_sheet_85 ?_
        refine q_iald hx hb hK hw.1 4 0 rfl rfl (z := (26 + 4 * sh + 1)) (v := (C 1 sh)) (by omega) (by omega) dX7_sheet_86 ?_
        exact hret (0, C 1 sh) H locs 87 ls ⟨(by (first | exact (if_pos (by omega)).symm | (rw [if_neg (by omega)]; first | exact (if_pos (by omega)).symm | exact (if_neg (by omega)).symm))), (by intro h; first | exact absurd h (by decide) | rfl)⟩ hw dX7_sheet_87
      by_cases k_41_6 : w = 6
      · refine q_look (tgt := 88) hx hb dX7_sheet_41 rg_41 rfl (by rw [k_41_6] <;> rfl) (by decide) ?_
        subst k_41_6
        have q_s := hM.sh sh (by omega) (by omega)
        refine lv_aload_n hx hb dX7_sheet_88 rfl (lv_at hl 0 rfl) ?_
        refine q_get hx hb hts hown hK hw.1 ci_X7 0 rfl 14 (by decide) fl_X7_20 rfl dX7_sheet_89 ?_
        refine lv_iload_n hx hb dX7_sheet_92 rfl (lv_at hl 1 rfl) ?_
        refine q_callPS (As := [.int (iI sh)]) (rest := [.ref (g 4)]) hx hb hml hown hts hK (c_X7_of (sh)) yt_X7_of ml_X7_167 (by rw [hR]; decide) (show va_P D vwCl [] _ from fun k q h => by simp at h)  rfl rfl hl.1 (lv_room (Nat.le_of_ble_eq_true rfl)) dX7_sheet_93 ⟨by rw [hR]; exact Nat.zero_le _, by rw [hR]; exact Nat.zero_le _⟩ ?_
        refine q_iconst hx hb dX7_sheet_96 ?_
        refine q_iadd hx hb dX7_sheet_97 ?_
        refine q_iald hx hb hK hw.1 4 0 rfl rfl (z := (26 + 4 * sh + 2)) (v := (C 2 sh)) (by omega) (by omega) dX7_sheet_98 ?_
        exact hret (0, C 2 sh) H locs 99 ls ⟨(by (first | exact (if_pos (by omega)).symm | (rw [if_neg (by omega)]; first | exact (if_pos (by omega)).symm | exact (if_neg (by omega)).symm))), (by intro h; first | exact absurd h (by decide) | rfl)⟩ hw dX7_sheet_99
      by_cases k_41_7 : w = 7
      · refine q_look (tgt := 100) hx hb dX7_sheet_41 rg_41 rfl (by rw [k_41_7] <;> rfl) (by decide) ?_
        subst k_41_7
        have q_s := hM.sh sh (by omega) (by omega)
        refine lv_aload_n hx hb dX7_sheet_100 rfl (lv_at hl 0 rfl) ?_
        refine q_get hx hb hts hown hK hw.1 ci_X7 0 rfl 14 (by decide) fl_X7_20 rfl dX7_sheet_101 ?_
        refine lv_iload_n hx hb dX7_sheet_104 rfl (lv_at hl 1 rfl) ?_
        refine q_callPS (As := [.int (iI sh)]) (rest := [.ref (g 4)]) hx hb hml hown hts hK (c_X7_of (sh)) yt_X7_of ml_X7_167 (by rw [hR]; decide) (show va_P D vwCl [] _ from fun k q h => by simp at h)  rfl rfl hl.1 (lv_room (Nat.le_of_ble_eq_true rfl)) dX7_sheet_105 ⟨by rw [hR]; exact Nat.zero_le _, by rw [hR]; exact Nat.zero_le _⟩ ?_
        refine q_iconst hx hb dX7_sheet_108 ?_
        refine q_iadd hx hb dX7_sheet_109 ?_
        refine q_top (26 + 4 * sh) (Int.add_zero _) ?_
        refine q_iald hx hb hK hw.1 4 0 rfl rfl (z := (26 + 4 * sh)) (v := (C 0 sh)) (by omega) (by omega) dX7_sheet_110 ?_
        exact hret (0, C 0 sh) H locs 111 ls ⟨(by (first | exact (if_pos (by omega)).symm | (rw [if_neg (by omega)]; first | exact (if_pos (by omega)).symm | exact (if_neg (by omega)).symm))), (by intro h; first | exact absurd h (by decide) | rfl)⟩ hw dX7_sheet_111
      refine q_look (tgt := 112) (off := 71) hx hb dX7_sheet_41 rg_41 rfl (by simp only [Op.lookupswitch.offset_cons]; rw [if_neg (fun q => k_41_2 q.symm)]; rw [if_neg (fun q => k_41_6 q.symm)]; rw [if_neg (fun q => k_41_7 q.symm)]; rfl) (by decide) ?_
      have q_t := hM.tds sh (by omega) (by omega)
      refine lv_aload_n hx hb dX7_sheet_112 rfl (lv_at hl 0 rfl) ?_
      refine lv_iload_n hx hb dX7_sheet_113 rfl (lv_at hl 1 rfl) ?_
      refine lv_iload_n hx hb dX7_sheet_114 rfl (lv_at hl 2 rfl) ?_
      refine q_callP (As := [.int (iI sh), .int (iI w)]) (rest := []) hx hb hml hown hts hK (c_X7_toldOf (sh) (w) (by first | omega | assumption) (by first | omega | assumption)) yi_X7_toldOf ml_X7_170 (by rw [hR]; decide) hw.1 0 rfl rfl rfl rfl hl.1 (lv_room (Nat.le_of_ble_eq_true rfl)) dX7_sheet_115 ⟨by rw [hR]; exact Nat.zero_le _, by rw [hR]; exact Nat.zero_le _⟩ ?_
      exact hret (0, td (8 + 7 * sh + w)) H locs 118 ls ⟨(by (first | exact (if_pos (by omega)).symm | (rw [if_neg (by omega)]; first | exact (if_pos (by omega)).symm | exact (if_neg (by omega)).symm))), (by intro h; (rcases (show w = 0 ∨ w = 1 ∨ w = 3 ∨ w = 4 ∨ w = 5 by omega) with rfl | rfl | rfl | rfl | rfl) <;> (first | exact q_t.1.2.1 | exact q_t.1.2.2.1 | exact q_t.1.2.2.2.2.1 | exact q_t.1.2.2.2.2.2.1 | exact q_t.1.2.2.2.2.2.2.1))⟩ hw dX7_sheet_118
    · refine q_iconst hx hb dX7_sheet_23 ?_
      refine lv_goto (tgt := 28) hx hb dX7_sheet_24 (by decide) ?_
      refine q_put hx hb hts hown hK hw ci_X7 0 rfl 0 (by decide) fl_X7_45 rfl rfl rfl (Nat.le_of_ble_eq_true rfl) dX7_sheet_28 (fun H locs hw => ?_)
      have hw : qw D A s.heap (mW g cI cB cZ 2 len tl ts te tk nu er eo hL hS dp bf dr td sa ad hi sl sv tr) H locs := hw
      refine lv_aload_n hx hb dX7_sheet_31 rfl (lv_at hl 0 rfl) ?_
      refine q_get hx hb hts hown hK hw.1 ci_X7 0 rfl 0 (by decide) fl_X7_45 rfl dX7_sheet_32 ?_
      refine q_if_le (tgt := 40) hx hb dX7_sheet_35 (by decide) (by omega) (fun c_35 => absurd c_35 (by omega)) (fun c_35 => ?_)
      refine q_iconst hx hb dX7_sheet_38 ?_
      exact hret (2, 0) H locs 39 ls ⟨(by (first | exact (if_pos (by omega)).symm | (rw [if_neg (by omega)]; first | exact (if_pos (by omega)).symm | exact (if_neg (by omega)).symm))), (by intro h; first | exact absurd h (by decide) | rfl)⟩ hw dX7_sheet_39
  · refine q_iconst hx hb dX7_sheet_9 ?_
    refine lv_goto (tgt := 28) hx hb dX7_sheet_10 (by decide) ?_
    refine q_put hx hb hts hown hK hw ci_X7 0 rfl 0 (by decide) fl_X7_45 rfl rfl rfl (Nat.le_of_ble_eq_true rfl) dX7_sheet_28 (fun H locs hw => ?_)
    have hw : qw D A s.heap (mW g cI cB cZ 1 len tl ts te tk nu er eo hL hS dp bf dr td sa ad hi sl sv tr) H locs := hw
    refine lv_aload_n hx hb dX7_sheet_31 rfl (lv_at hl 0 rfl) ?_
    refine q_get hx hb hts hown hK hw.1 ci_X7 0 rfl 0 (by decide) fl_X7_45 rfl dX7_sheet_32 ?_
    refine q_if_le (tgt := 40) hx hb dX7_sheet_35 (by decide) (by omega) (fun c_35 => absurd c_35 (by omega)) (fun c_35 => ?_)
    refine q_iconst hx hb dX7_sheet_38 ?_
    exact hret (1, 0) H locs 39 ls ⟨(by (first | exact (if_pos (by omega)).symm | (rw [if_neg (by omega)]; first | exact (if_pos (by omega)).symm | exact (if_neg (by omega)).symm))), (by intro h; first | exact absurd h (by decide) | rfl)⟩ hw dX7_sheet_39

set_option maxHeartbeats 4000000 in
set_option maxRecDepth 100000 in
theorem c_X7_stack (k : Int) (hM : WM td sa T C) (hr_k : rg k) : qM l D (tyG cI cB cZ cS cJ) yX7_stack cX7_stack 2 (Option.some FieldType.int) 1 22 [.ref (g 0), .int (iI k)] (mW g cI cB cZ th len tl ts te tk nu er eo hL hS dp bf dr td sa ad hi sl sv tr) (fun u : (Int) × (Int) => (((u.1)) = 0) ∧ (((u.1)) = 0 → ((u.2)) = if 0 ≤ k ∧ k < T 8 0 - C 11 0 then C 11 0 + k else -1)) (fun u => some (.int (iI (u.2)))) (fun u => (mW g cI cB cZ (u.1) len tl ts te tk nu er eo hL hS dp bf dr td sa ad hi sl sv tr)) := by
  have hsc := hM.sc
  refine qM_enterI (val := fun u => iI (u.2)) (by decide) (Nat.le_of_ble_eq_true rfl) (fun u hu => ⟨rfl, nar_i _⟩) (fun p e R s m args below meth c Q ls A X hR hA hw hl hret => ?_)
  obtain ⟨hx, hb, hml, hown, hts, hK⟩ := X
  have hl : lv_has ls 2 [(0, .ref (g 0)), (1, .int (iI k))] := hl
  suffices K : ∀ (H : Heap) (locs : List Loc), qw D A s.heap (mW g cI cB cZ th len tl ts te tk nu er eo hL hS dp bf dr td sa ad hi sl sv tr) H locs → W p l e R s m args below meth c H locs 0 0 Q (F0 m 0 ls []) from K s.heap [] hw
  clear hw
  intro H locs hw
  refine lv_aload_n hx hb dX7_stack_0 rfl (lv_at hl 0 rfl) ?_
  refine q_iconst hx hb dX7_stack_1 ?_
  refine q_put hx hb hts hown hK hw ci_X7 0 rfl 0 (by decide) fl_X7_45 rfl rfl rfl (Nat.le_of_ble_eq_true rfl) dX7_stack_2 (fun H locs hw => ?_)
  have hw : qw D A s.heap (mW g cI cB cZ 0 len tl ts te tk nu er eo hL hS dp bf dr td sa ad hi sl sv tr) H locs := hw
  refine lv_iload_n hx hb dX7_stack_5 rfl (lv_at hl 1 rfl) ?_
  refine q_iconst hx hb dX7_stack_6 ?_
  refine lv_aload_n hx hb dX7_stack_7 rfl (lv_at hl 0 rfl) ?_
  refine q_get hx hb hts hown hK hw.1 ci_X7 0 rfl 14 (by decide) fl_X7_20 rfl dX7_stack_8 ?_
  refine q_bipush hx hb dX7_stack_11 rfl ?_
  refine q_iald hx hb hK hw.1 4 0 rfl rfl (z := 6) (v := (T 8 0 - C 11 0)) (by omega) (by omega) dX7_stack_13 ?_
  refine q_iconst hx hb dX7_stack_14 ?_
  refine q_isub hx hb dX7_stack_15 ?_
  refine q_callPS (As := [.int (iI k), .int (iI 0), .int (iI (T 8 0 - C 11 0 - 1))]) (rest := []) hx hb hml hown hts hK (c_X7_within (k) (0) (T 8 0 - C 11 0 - 1) (by first | omega | assumption) (by first | omega | assumption) (by first | omega | assumption)) yt_X7_within ml_X7_72 (by rw [hR]; decide) (show va_P D vwCl [] _ from fun k q h => by simp at h)  rfl rfl hl.1 (lv_room (Nat.le_of_ble_eq_true rfl)) dX7_stack_16 ⟨by rw [hR]; exact Nat.zero_le _, by rw [hR]; exact Nat.zero_le _⟩ ?_
  refine q_ifb_eq (tgt := 30) hx hb dX7_stack_19 (by decide) (fun c_19 => ?_) (fun c_19 => ?_)
  · refine q_iconst hx hb dX7_stack_30 ?_
    exact hret (0, (-1)) H locs 31 ls ⟨(by first | rfl | omega), (by intro h; first | (rw [if_pos (by omega)]) | (rw [if_neg (by omega)]))⟩ hw dX7_stack_31
  · refine lv_aload_n hx hb dX7_stack_22 rfl (lv_at hl 0 rfl) ?_
    refine lv_iload_n hx hb dX7_stack_23 rfl (lv_at hl 1 rfl) ?_
    refine q_callP (As := [.int (iI k)]) (rest := []) hx hb hml hown hts hK (c_X7_top (k) (by first | omega | assumption) (by first | omega | assumption) (by first | omega | assumption)) yi_X7_top ml_X7_180 (by rw [hR]; decide) hw.1 0 rfl rfl rfl rfl hl.1 (lv_room (Nat.le_of_ble_eq_true rfl)) dX7_stack_24 ⟨by rw [hR]; exact Nat.zero_le _, by rw [hR]; exact Nat.zero_le _⟩ ?_
    refine lv_goto (tgt := 31) hx hb dX7_stack_27 (by decide) ?_
    exact hret (0, C 11 0 + k) H locs 31 ls ⟨(by first | rfl | omega), (by intro h; first | (rw [if_pos (by omega)]) | (rw [if_neg (by omega)]))⟩ hw dX7_stack_31

set_option maxHeartbeats 4000000 in
set_option maxRecDepth 100000 in
theorem c_X7_path (k : Int) (hM : WM td sa T C) (hr_k : rg k) : qM l D (tyG cI cB cZ cS cJ) yX7_path cX7_path 2 (Option.some FieldType.int) 1 22 [.ref (g 0), .int (iI k)] (mW g cI cB cZ th len tl ts te tk nu er eo hL hS dp bf dr td sa ad hi sl sv tr) (fun u : (Int) × (Int) => (((u.1)) = 0) ∧ (((u.1)) = 0 → ((u.2)) = if 0 ≤ k ∧ k < C 11 1 then C 11 0 - C 11 1 + k else -1)) (fun u => some (.int (iI (u.2)))) (fun u => (mW g cI cB cZ (u.1) len tl ts te tk nu er eo hL hS dp bf dr td sa ad hi sl sv tr)) := by
  have hsc := hM.sc
  refine qM_enterI (val := fun u => iI (u.2)) (by decide) (Nat.le_of_ble_eq_true rfl) (fun u hu => ⟨rfl, nar_i _⟩) (fun p e R s m args below meth c Q ls A X hR hA hw hl hret => ?_)
  obtain ⟨hx, hb, hml, hown, hts, hK⟩ := X
  have hl : lv_has ls 2 [(0, .ref (g 0)), (1, .int (iI k))] := hl
  suffices K : ∀ (H : Heap) (locs : List Loc), qw D A s.heap (mW g cI cB cZ th len tl ts te tk nu er eo hL hS dp bf dr td sa ad hi sl sv tr) H locs → W p l e R s m args below meth c H locs 0 0 Q (F0 m 0 ls []) from K s.heap [] hw
  clear hw
  intro H locs hw
  refine lv_aload_n hx hb dX7_path_0 rfl (lv_at hl 0 rfl) ?_
  refine q_iconst hx hb dX7_path_1 ?_
  refine q_put hx hb hts hown hK hw ci_X7 0 rfl 0 (by decide) fl_X7_45 rfl rfl rfl (Nat.le_of_ble_eq_true rfl) dX7_path_2 (fun H locs hw => ?_)
  have hw : qw D A s.heap (mW g cI cB cZ 0 len tl ts te tk nu er eo hL hS dp bf dr td sa ad hi sl sv tr) H locs := hw
  refine lv_iload_n hx hb dX7_path_5 rfl (lv_at hl 1 rfl) ?_
  refine q_iconst hx hb dX7_path_6 ?_
  refine lv_aload_n hx hb dX7_path_7 rfl (lv_at hl 0 rfl) ?_
  refine q_get hx hb hts hown hK hw.1 ci_X7 0 rfl 14 (by decide) fl_X7_20 rfl dX7_path_8 ?_
  refine q_bipush hx hb dX7_path_11 rfl ?_
  refine q_iald hx hb hK hw.1 4 0 rfl rfl (z := 7) (v := (C 11 1)) (by omega) (by omega) dX7_path_13 ?_
  refine q_iconst hx hb dX7_path_14 ?_
  refine q_isub hx hb dX7_path_15 ?_
  refine q_callPS (As := [.int (iI k), .int (iI 0), .int (iI (C 11 1 - 1))]) (rest := []) hx hb hml hown hts hK (c_X7_within (k) (0) (C 11 1 - 1) (by first | omega | assumption) (by first | omega | assumption) (by first | omega | assumption)) yt_X7_within ml_X7_72 (by rw [hR]; decide) (show va_P D vwCl [] _ from fun k q h => by simp at h)  rfl rfl hl.1 (lv_room (Nat.le_of_ble_eq_true rfl)) dX7_path_16 ⟨by rw [hR]; exact Nat.zero_le _, by rw [hR]; exact Nat.zero_le _⟩ ?_
  refine q_ifb_eq (tgt := 35) hx hb dX7_path_19 (by decide) (fun c_19 => ?_) (fun c_19 => ?_)
  · refine q_iconst hx hb dX7_path_35 ?_
    exact hret (0, (-1)) H locs 36 ls ⟨(by first | rfl | omega), (by intro h; first | (rw [if_pos (by omega)]) | (rw [if_neg (by omega)]))⟩ hw dX7_path_36
  · refine lv_aload_n hx hb dX7_path_22 rfl (lv_at hl 0 rfl) ?_
    refine q_get hx hb hts hown hK hw.1 ci_X7 0 rfl 14 (by decide) fl_X7_20 rfl dX7_path_23 ?_
    refine q_sipush hx hb dX7_path_26 rfl ?_
    refine lv_iload_n hx hb dX7_path_29 rfl (lv_at hl 1 rfl) ?_
    refine q_iadd hx hb dX7_path_30 ?_
    refine q_iald hx hb hK hw.1 4 0 rfl rfl (z := (226 + k)) (v := (C 11 0 - C 11 1 + k)) (by omega) (by exact hM.pt k (by omega) (by omega)) dX7_path_31 ?_
    refine lv_goto (tgt := 36) hx hb dX7_path_32 (by decide) ?_
    exact hret (0, C 11 0 - C 11 1 + k) H locs 36 ls ⟨(by first | rfl | omega), (by intro h; first | (rw [if_pos (by omega)]) | (rw [if_neg (by omega)]))⟩ hw dX7_path_36

set_option maxHeartbeats 4000000 in
set_option maxRecDepth 100000 in
theorem c_X7_page (pp : Int) (w : Int) (hM : WM td sa T C) (hr_pp : rg pp) (hr_w : rg w) : qM l D (tyG cI cB cZ cS cJ) yX7_page cX7_page 4 (Option.some FieldType.int) 1 22 [.ref (g 0), .int (iI pp), .int (iI w)] (mW g cI cB cZ th len tl ts te tk nu er eo hL hS dp bf dr td sa ad hi sl sv tr) (fun u : (Int) × (Int) => (((u.1)) = if ¬ (0 ≤ pp ∧ pp ≤ C 11 3 - 1) then 1 else if ¬ (0 ≤ w ∧ w ≤ 2) then 2 else 0) ∧ (((u.1)) = 0 → ((u.2)) = pagV C pp w)) (fun u => some (.int (iI (u.2)))) (fun u => (mW g cI cB cZ (u.1) len tl ts te tk nu er eo hL hS dp bf dr td sa ad hi sl sv tr)) := by
  have hsc := hM.sc
  refine qM_enterI (val := fun u => iI (u.2)) (by decide) (Nat.le_of_ble_eq_true rfl) (fun u hu => ⟨rfl, nar_i _⟩) (fun p e R s m args below meth c Q ls A X hR hA hw hl hret => ?_)
  obtain ⟨hx, hb, hml, hown, hts, hK⟩ := X
  have hl : lv_has ls 4 [(0, .ref (g 0)), (1, .int (iI pp)), (2, .int (iI w))] := hl
  suffices K : ∀ (H : Heap) (locs : List Loc), qw D A s.heap (mW g cI cB cZ th len tl ts te tk nu er eo hL hS dp bf dr td sa ad hi sl sv tr) H locs → W p l e R s m args below meth c H locs 0 0 Q (F0 m 0 ls []) from K s.heap [] hw
  clear hw
  intro H locs hw
  refine lv_aload_n hx hb dX7_page_0 rfl (lv_at hl 0 rfl) ?_
  refine lv_iload_n hx hb dX7_page_1 rfl (lv_at hl 1 rfl) ?_
  refine q_iconst hx hb dX7_page_2 ?_
  refine lv_aload_n hx hb dX7_page_3 rfl (lv_at hl 0 rfl) ?_
  refine q_get hx hb hts hown hK hw.1 ci_X7 0 rfl 14 (by decide) fl_X7_20 rfl dX7_page_4 ?_
  refine q_bipush hx hb dX7_page_7 rfl ?_
  refine q_iald hx hb hK hw.1 4 0 rfl rfl (z := 15) (v := (C 11 3)) (by omega) (by omega) dX7_page_9 ?_
  refine q_iconst hx hb dX7_page_10 ?_
  refine q_isub hx hb dX7_page_11 ?_
  refine q_callPS (As := [.int (iI pp), .int (iI 0), .int (iI (C 11 3 - 1))]) (rest := [.ref (g 0)]) hx hb hml hown hts hK (c_X7_within (pp) (0) (C 11 3 - 1) (by first | omega | assumption) (by first | omega | assumption) (by first | omega | assumption)) yt_X7_within ml_X7_72 (by rw [hR]; decide) (show va_P D vwCl [] _ from fun k q h => by simp at h)  rfl rfl hl.1 (lv_room (Nat.le_of_ble_eq_true rfl)) dX7_page_12 ⟨by rw [hR]; exact Nat.zero_le _, by rw [hR]; exact Nat.zero_le _⟩ ?_
  refine q_ifb_ne (tgt := 22) hx hb dX7_page_15 (by decide) (fun c_15 => ?_) (fun c_15 => ?_)
  · refine lv_iload_n hx hb dX7_page_22 rfl (lv_at hl 2 rfl) ?_
    refine q_iconst hx hb dX7_page_23 ?_
    refine q_iconst hx hb dX7_page_24 ?_
    refine q_callPS (As := [.int (iI w), .int (iI 0), .int (iI 2)]) (rest := [.ref (g 0)]) hx hb hml hown hts hK (c_X7_within (w) (0) (2) (by first | omega | assumption) (by first | omega | assumption) (by first | omega | assumption)) yt_X7_within ml_X7_72 (by rw [hR]; decide) (show va_P D vwCl [] _ from fun k q h => by simp at h)  rfl rfl hl.1 (lv_room (Nat.le_of_ble_eq_true rfl)) dX7_page_25 ⟨by rw [hR]; exact Nat.zero_le _, by rw [hR]; exact Nat.zero_le _⟩ ?_
    refine q_ifb_ne (tgt := 35) hx hb dX7_page_28 (by decide) (fun c_28 => ?_) (fun c_28 => ?_)
    · refine q_iconst hx hb dX7_page_35 ?_
      refine q_put hx hb hts hown hK hw ci_X7 0 rfl 0 (by decide) fl_X7_45 rfl rfl rfl (Nat.le_of_ble_eq_true rfl) dX7_page_36 (fun H locs hw => ?_)
      have hw : qw D A s.heap (mW g cI cB cZ 0 len tl ts te tk nu er eo hL hS dp bf dr td sa ad hi sl sv tr) H locs := hw
      refine lv_aload_n hx hb dX7_page_39 rfl (lv_at hl 0 rfl) ?_
      refine q_get hx hb hts hown hK hw.1 ci_X7 0 rfl 0 (by decide) fl_X7_45 rfl dX7_page_40 ?_
      refine q_if_le (tgt := 48) hx hb dX7_page_43 (by decide) (by omega) (fun c_43 => ?_) (fun c_43 => absurd c_43 (by omega))
      refine lv_aload_n hx hb dX7_page_48 rfl (lv_at hl 0 rfl) ?_
      refine q_get hx hb hts hown hK hw.1 ci_X7 0 rfl 14 (by decide) fl_X7_20 rfl dX7_page_49 ?_
      refine q_sipush hx hb dX7_page_52 rfl ?_
      refine q_iconst hx hb dX7_page_55 ?_
      refine lv_iload_n hx hb dX7_page_56 rfl (lv_at hl 1 rfl) ?_
      refine q_imul hx hb dX7_page_57 ?_
      refine q_iadd hx hb dX7_page_58 ?_
      have q_p := hM.pg pp (by omega) (by omega)
      refine q_iald hx hb hK hw.1 4 0 rfl rfl (z := (266 + 2 * pp)) (v := (2 * C 4 pp + C 5 pp)) (by omega) (by omega) dX7_page_59 ?_
      refine lv_istore_n (lv' := [(3, .int (iI (2 * C 4 pp + C 5 pp))), (0, .ref (g 0)), (1, .int (iI pp)), (2, .int (iI w))]) hx hb dX7_page_60 rfl hl (by decide) rfl (fun ls hl => ?_)
      refine lv_iload_n hx hb dX7_page_61 rfl (lv_at hl 3 rfl) ?_
      refine q_if_ne (tgt := 71) hx hb dX7_page_62 (by decide) (by omega) (fun c_62 => ?_) (fun c_62 => ?_)
      · refine lv_iload_n hx hb dX7_page_71 rfl (lv_at hl 3 rfl) ?_
        refine q_iconst hx hb dX7_page_72 ?_
        refine q_icmp_ne (tgt := 82) hx hb dX7_page_73 (by decide) (by omega) (fun c_73 => ?_) (fun c_73 => ?_)
        · refine lv_aload_n hx hb dX7_page_82 rfl (lv_at hl 1 rfl) ?_
          refine q_get hx hb hts hown hK hw.1 ci_X7 0 rfl 14 (by decide) fl_X7_20 rfl dX7_page_83 ?_
          refine q_sipush hx hb dX7_page_86 rfl ?_
          refine q_iconst hx hb dX7_page_89 ?_
          refine lv_iload_n hx hb dX7_page_90 rfl (lv_at hl 2 rfl) ?_
          refine q_imul hx hb dX7_page_91 ?_
          refine q_iadd hx hb dX7_page_92 ?_
          refine q_iconst hx hb dX7_page_93 ?_
          refine q_iadd hx hb dX7_page_94 ?_
          have q_p := hM.pg pp (by omega) (by omega)
          refine q_iald hx hb hK hw.1 4 0 rfl rfl (z := (266 + 2 * pp + 1)) (v := (C 6 pp)) (by omega) (by omega) dX7_page_95 ?_
          exact hret (0, C 6 pp) H locs 96 ls ⟨(by (first | exact (if_pos (by omega)).symm | (rw [if_neg (by omega)]; first | exact (if_pos (by omega)).symm | exact (if_neg (by omega)).symm))), (by intro h; (first | exact absurd h (by omega) | (rw [Int.tdiv_eq_ediv_of_nonneg (by omega)]; unfold pagV; (repeat' split) <;> omega) | (rw [Int.tmod_eq_emod_of_nonneg (by omega)]; unfold pagV; (repeat' split) <;> omega) | (unfold pagV; (repeat' split) <;> omega)))⟩ hw dX7_page_96
        · refine lv_iload_n hx hb dX7_page_76 rfl (lv_at hl 0 rfl) ?_
          refine q_iconst hx hb dX7_page_77 ?_
          refine q_irem hx hb dX7_page_78 (by omega) (by omega) (by omega) ?_
          refine lv_goto (tgt := 96) hx hb dX7_page_79 (by decide) ?_
          exact hret (0, Int.tmod (2 * C 4 pp + C 5 pp) 2) H locs 96 ls ⟨(by (first | exact (if_pos (by omega)).symm | (rw [if_neg (by omega)]; first | exact (if_pos (by omega)).symm | exact (if_neg (by omega)).symm))), (by intro h; (first | exact absurd h (by omega) | (rw [Int.tdiv_eq_ediv_of_nonneg (by omega)]; unfold pagV; (repeat' split) <;> omega) | (rw [Int.tmod_eq_emod_of_nonneg (by omega)]; unfold pagV; (repeat' split) <;> omega) | (unfold pagV; (repeat' split) <;> omega)))⟩ hw dX7_page_96
      · refine lv_iload_n hx hb dX7_page_65 rfl (lv_at hl 0 rfl) ?_
        refine q_iconst hx hb dX7_page_66 ?_
        refine q_idiv hx hb dX7_page_67 (by omega) (by omega) (by omega) ?_
        refine lv_goto (tgt := 96) hx hb dX7_page_68 (by decide) ?_
        exact hret (0, Int.tdiv (2 * C 4 pp + C 5 pp) 2) H locs 96 ls ⟨(by (first | exact (if_pos (by omega)).symm | (rw [if_neg (by omega)]; first | exact (if_pos (by omega)).symm | exact (if_neg (by omega)).symm))), (by intro h; (first | exact absurd h (by omega) | (rw [Int.tdiv_eq_ediv_of_nonneg (by omega)]; unfold pagV; (repeat' split) <;> omega) | (rw [Int.tmod_eq_emod_of_nonneg (by omega)]; unfold pagV; (repeat' split) <;> omega) | (unfold pagV; (repeat' split) <;> omega)))⟩ hw dX7_page_96
    · refine q_iconst hx hb dX7_page_31 ?_
      refine lv_goto (tgt := 36) hx hb dX7_page_32 (by decide) ?_
      refine q_put hx hb hts hown hK hw ci_X7 0 rfl 0 (by decide) fl_X7_45 rfl rfl rfl (Nat.le_of_ble_eq_true rfl) dX7_page_36 (fun H locs hw => ?_)
      have hw : qw D A s.heap (mW g cI cB cZ 2 len tl ts te tk nu er eo hL hS dp bf dr td sa ad hi sl sv tr) H locs := hw
      refine lv_aload_n hx hb dX7_page_39 rfl (lv_at hl 0 rfl) ?_
      refine q_get hx hb hts hown hK hw.1 ci_X7 0 rfl 0 (by decide) fl_X7_45 rfl dX7_page_40 ?_
      refine q_if_le (tgt := 48) hx hb dX7_page_43 (by decide) (by omega) (fun c_43 => absurd c_43 (by omega)) (fun c_43 => ?_)
      refine q_iconst hx hb dX7_page_46 ?_
      exact hret (2, 0) H locs 47 ls ⟨(by (first | exact (if_pos (by omega)).symm | (rw [if_neg (by omega)]; first | exact (if_pos (by omega)).symm | exact (if_neg (by omega)).symm))), (by intro h; (first | exact absurd h (by omega) | (rw [Int.tdiv_eq_ediv_of_nonneg (by omega)]; unfold pagV; (repeat' split) <;> omega) | (rw [Int.tmod_eq_emod_of_nonneg (by omega)]; unfold pagV; (repeat' split) <;> omega) | (unfold pagV; (repeat' split) <;> omega)))⟩ hw dX7_page_47
  · refine q_iconst hx hb dX7_page_18 ?_
    refine lv_goto (tgt := 36) hx hb dX7_page_19 (by decide) ?_
    refine q_put hx hb hts hown hK hw ci_X7 0 rfl 0 (by decide) fl_X7_45 rfl rfl rfl (Nat.le_of_ble_eq_true rfl) dX7_page_36 (fun H locs hw => ?_)
    have hw : qw D A s.heap (mW g cI cB cZ 1 len tl ts te tk nu er eo hL hS dp bf dr td sa ad hi sl sv tr) H locs := hw
    refine lv_aload_n hx hb dX7_page_39 rfl (lv_at hl 0 rfl) ?_
    refine q_get hx hb hts hown hK hw.1 ci_X7 0 rfl 0 (by decide) fl_X7_45 rfl dX7_page_40 ?_
    refine q_if_le (tgt := 48) hx hb dX7_page_43 (by decide) (by omega) (fun c_43 => absurd c_43 (by omega)) (fun c_43 => ?_)
    refine q_iconst hx hb dX7_page_46 ?_
    exact hret (1, 0) H locs 47 ls ⟨(by (first | exact (if_pos (by omega)).symm | (rw [if_neg (by omega)]; first | exact (if_pos (by omega)).symm | exact (if_neg (by omega)).symm))), (by intro h; (first | exact absurd h (by omega) | (rw [Int.tdiv_eq_ediv_of_nonneg (by omega)]; unfold pagV; (repeat' split) <;> omega) | (rw [Int.tmod_eq_emod_of_nonneg (by omega)]; unfold pagV; (repeat' split) <;> omega) | (unfold pagV; (repeat' split) <;> omega)))⟩ hw dX7_page_47

set_option maxHeartbeats 4000000 in
set_option maxRecDepth 100000 in
theorem c_X7_job (j : Int) (w : Int) (hM : WM td sa T C) (hr_j : rg j) (hr_w : rg w) : qM l D (tyG cI cB cZ cS cJ) yX7_job cX7_job 3 (Option.some FieldType.int) 1 23 [.ref (g 0), .int (iI j), .int (iI w)] (mW g cI cB cZ th len tl ts te tk nu er eo hL hS dp bf dr td sa ad hi sl sv tr) (fun u : (Int) × (Int) => (((u.1)) = if ¬ (0 ≤ j ∧ j ≤ C 11 4 - 1) then 1 else if ¬ (0 ≤ w ∧ w ≤ 3) then 2 else 0) ∧ (((u.1)) = 0 → ((u.2)) = jobV C j w)) (fun u => some (.int (iI (u.2)))) (fun u => (mW g cI cB cZ (u.1) len tl ts te tk nu er eo hL hS dp bf dr td sa ad hi sl sv tr)) := by
  have hsc := hM.sc
  refine qM_enterI (val := fun u => iI (u.2)) (by decide) (Nat.le_of_ble_eq_true rfl) (fun u hu => ⟨rfl, nar_i _⟩) (fun p e R s m args below meth c Q ls A X hR hA hw hl hret => ?_)
  obtain ⟨hx, hb, hml, hown, hts, hK⟩ := X
  have hl : lv_has ls 3 [(0, .ref (g 0)), (1, .int (iI j)), (2, .int (iI w))] := hl
  suffices K : ∀ (H : Heap) (locs : List Loc), qw D A s.heap (mW g cI cB cZ th len tl ts te tk nu er eo hL hS dp bf dr td sa ad hi sl sv tr) H locs → W p l e R s m args below meth c H locs 0 0 Q (F0 m 0 ls []) from K s.heap [] hw
  clear hw
  intro H locs hw
  refine lv_aload_n hx hb dX7_job_0 rfl (lv_at hl 0 rfl) ?_
  refine lv_iload_n hx hb dX7_job_1 rfl (lv_at hl 1 rfl) ?_
  refine q_iconst hx hb dX7_job_2 ?_
  refine lv_aload_n hx hb dX7_job_3 rfl (lv_at hl 0 rfl) ?_
  refine q_get hx hb hts hown hK hw.1 ci_X7 0 rfl 14 (by decide) fl_X7_20 rfl dX7_job_4 ?_
  refine q_bipush hx hb dX7_job_7 rfl ?_
  refine q_iald hx hb hK hw.1 4 0 rfl rfl (z := 16) (v := (C 11 4)) (by omega) (by omega) dX7_job_9 ?_
  refine q_iconst hx hb dX7_job_10 ?_
  refine q_isub hx hb dX7_job_11 ?_
  refine q_callPS (As := [.int (iI j), .int (iI 0), .int (iI (C 11 4 - 1))]) (rest := [.ref (g 0)]) hx hb hml hown hts hK (c_X7_within (j) (0) (C 11 4 - 1) (by first | omega | assumption) (by first | omega | assumption) (by first | omega | assumption)) yt_X7_within ml_X7_72 (by rw [hR]; decide) (show va_P D vwCl [] _ from fun k q h => by simp at h)  rfl rfl hl.1 (lv_room (Nat.le_of_ble_eq_true rfl)) dX7_job_12 ⟨by rw [hR]; exact Nat.zero_le _, by rw [hR]; exact Nat.zero_le _⟩ ?_
  refine q_ifb_ne (tgt := 22) hx hb dX7_job_15 (by decide) (fun c_15 => ?_) (fun c_15 => ?_)
  · refine lv_iload_n hx hb dX7_job_22 rfl (lv_at hl 2 rfl) ?_
    refine q_iconst hx hb dX7_job_23 ?_
    refine q_iconst hx hb dX7_job_24 ?_
    refine q_callPS (As := [.int (iI w), .int (iI 0), .int (iI 3)]) (rest := [.ref (g 0)]) hx hb hml hown hts hK (c_X7_within (w) (0) (3) (by first | omega | assumption) (by first | omega | assumption) (by first | omega | assumption)) yt_X7_within ml_X7_72 (by rw [hR]; decide) (show va_P D vwCl [] _ from fun k q h => by simp at h)  rfl rfl hl.1 (lv_room (Nat.le_of_ble_eq_true rfl)) dX7_job_25 ⟨by rw [hR]; exact Nat.zero_le _, by rw [hR]; exact Nat.zero_le _⟩ ?_
    refine q_ifb_ne (tgt := 35) hx hb dX7_job_28 (by decide) (fun c_28 => ?_) (fun c_28 => ?_)
    · refine q_iconst hx hb dX7_job_35 ?_
      refine q_put hx hb hts hown hK hw ci_X7 0 rfl 0 (by decide) fl_X7_45 rfl rfl rfl (Nat.le_of_ble_eq_true rfl) dX7_job_36 (fun H locs hw => ?_)
      have hw : qw D A s.heap (mW g cI cB cZ 0 len tl ts te tk nu er eo hL hS dp bf dr td sa ad hi sl sv tr) H locs := hw
      refine lv_aload_n hx hb dX7_job_39 rfl (lv_at hl 0 rfl) ?_
      refine q_get hx hb hts hown hK hw.1 ci_X7 0 rfl 0 (by decide) fl_X7_45 rfl dX7_job_40 ?_
      refine q_if_le (tgt := 48) hx hb dX7_job_43 (by decide) (by omega) (fun c_43 => ?_) (fun c_43 => absurd c_43 (by omega))
      refine lv_iload_n hx hb dX7_job_48 rfl (lv_at hl 2 rfl) ?_
      refine q_if_ne (tgt := 67) hx hb dX7_job_49 (by decide) (by omega) (fun c_49 => ?_) (fun c_49 => ?_)
      · refine lv_iload_n hx hb dX7_job_67 rfl (lv_at hl 2 rfl) ?_
        refine q_iconst hx hb dX7_job_68 ?_
        refine q_icmp_ne (tgt := 80) hx hb dX7_job_69 (by decide) (by omega) (fun c_69 => ?_) (fun c_69 => ?_)
        · refine lv_iload_n hx hb dX7_job_80 rfl (lv_at hl 2 rfl) ?_
          refine q_iconst hx hb dX7_job_81 ?_
          refine q_icmp_ne (tgt := 93) hx hb dX7_job_82 (by decide) (by omega) (fun c_82 => ?_) (fun c_82 => ?_)
          · refine lv_aload_n hx hb dX7_job_93 rfl (lv_at hl 0 rfl) ?_
            refine q_get hx hb hts hown hK hw.1 ci_X7 0 rfl 14 (by decide) fl_X7_20 rfl dX7_job_94 ?_
            refine q_sipush hx hb dX7_job_97 rfl ?_
            refine q_iconst hx hb dX7_job_100 ?_
            refine lv_iload_n hx hb dX7_job_101 rfl (lv_at hl 1 rfl) ?_
            refine q_imul hx hb dX7_job_102 ?_
            refine q_iadd hx hb dX7_job_103 ?_
            refine q_iconst hx hb dX7_job_104 ?_
            refine q_iadd hx hb dX7_job_105 ?_
            have q_p := hM.jb j (by omega) (by omega)
            refine q_iald hx hb hK hw.1 4 0 rfl rfl (z := (426 + 2 * j + 1)) (v := (shJ C j)) (by omega) (by omega) dX7_job_106 ?_
            exact hret (0, shJ C j) H locs 107 ls ⟨(by (first | exact (if_pos (by omega)).symm | (rw [if_neg (by omega)]; first | exact (if_pos (by omega)).symm | exact (if_neg (by omega)).symm))), (by intro h; (first | exact absurd h (by omega) | (unfold jobV; (repeat' split) <;> omega)))⟩ hw dX7_job_107
          · refine lv_aload_n hx hb dX7_job_85 rfl (lv_at hl 0 rfl) ?_
            refine lv_iload_n hx hb dX7_job_86 rfl (lv_at hl 1 rfl) ?_
            refine q_callP (As := [.int (iI j)]) (rest := []) hx hb hml hown hts hK (c_X7_firstIn (j) (by first | omega | assumption) (by first | omega | assumption)) yi_X7_firstIn ml_X7_240 (by rw [hR]; decide) hw.1 0 rfl rfl rfl rfl hl.1 (lv_room (Nat.le_of_ble_eq_true rfl)) dX7_job_87 ⟨by rw [hR]; exact Nat.zero_le _, by rw [hR]; exact Nat.zero_le _⟩ ?_
            refine lv_goto (tgt := 107) hx hb dX7_job_90 (by decide) ?_
            exact hret (0, fsJ C j) H locs 107 ls ⟨(by (first | exact (if_pos (by omega)).symm | (rw [if_neg (by omega)]; first | exact (if_pos (by omega)).symm | exact (if_neg (by omega)).symm))), (by intro h; (first | exact absurd h (by omega) | (unfold jobV; (repeat' split) <;> omega)))⟩ hw dX7_job_107
        · refine lv_aload_n hx hb dX7_job_72 rfl (lv_at hl 0 rfl) ?_
          refine lv_iload_n hx hb dX7_job_73 rfl (lv_at hl 1 rfl) ?_
          refine q_callP (As := [.int (iI j)]) (rest := []) hx hb hml hown hts hK (c_X7_pagesIn (j) (by first | omega | assumption) (by first | omega | assumption)) yi_X7_pagesIn ml_X7_237 (by rw [hR]; decide) hw.1 0 rfl rfl rfl rfl hl.1 (lv_room (Nat.le_of_ble_eq_true rfl)) dX7_job_74 ⟨by rw [hR]; exact Nat.zero_le _, by rw [hR]; exact Nat.zero_le _⟩ ?_
          refine lv_goto (tgt := 107) hx hb dX7_job_77 (by decide) ?_
          exact hret (0, pgJ C j) H locs 107 ls ⟨(by (first | exact (if_pos (by omega)).symm | (rw [if_neg (by omega)]; first | exact (if_pos (by omega)).symm | exact (if_neg (by omega)).symm))), (by intro h; (first | exact absurd h (by omega) | (unfold jobV; (repeat' split) <;> omega)))⟩ hw dX7_job_107
      · refine lv_aload_n hx hb dX7_job_52 rfl (lv_at hl 0 rfl) ?_
        refine q_get hx hb hts hown hK hw.1 ci_X7 0 rfl 14 (by decide) fl_X7_20 rfl dX7_job_53 ?_
        refine q_sipush hx hb dX7_job_56 rfl ?_
        refine q_iconst hx hb dX7_job_59 ?_
        refine lv_iload_n hx hb dX7_job_60 rfl (lv_at hl 1 rfl) ?_
        refine q_imul hx hb dX7_job_61 ?_
        refine q_iadd hx hb dX7_job_62 ?_
        have q_p := hM.jb j (by omega) (by omega)
        refine q_iald hx hb hK hw.1 4 0 rfl rfl (z := (426 + 2 * j)) (v := (C 7 j)) (by omega) (by omega) dX7_job_63 ?_
        refine lv_goto (tgt := 107) hx hb dX7_job_64 (by decide) ?_
        exact hret (0, C 7 j) H locs 107 ls ⟨(by (first | exact (if_pos (by omega)).symm | (rw [if_neg (by omega)]; first | exact (if_pos (by omega)).symm | exact (if_neg (by omega)).symm))), (by intro h; (first | exact absurd h (by omega) | (unfold jobV; (repeat' split) <;> omega)))⟩ hw dX7_job_107
    · refine q_iconst hx hb dX7_job_31 ?_
      refine lv_goto (tgt := 36) hx hb dX7_job_32 (by decide) ?_
      refine q_put hx hb hts hown hK hw ci_X7 0 rfl 0 (by decide) fl_X7_45 rfl rfl rfl (Nat.le_of_ble_eq_true rfl) dX7_job_36 (fun H locs hw => ?_)
      have hw : qw D A s.heap (mW g cI cB cZ 2 len tl ts te tk nu er eo hL hS dp bf dr td sa ad hi sl sv tr) H locs := hw
      refine lv_aload_n hx hb dX7_job_39 rfl (lv_at hl 0 rfl) ?_
      refine q_get hx hb hts hown hK hw.1 ci_X7 0 rfl 0 (by decide) fl_X7_45 rfl dX7_job_40 ?_
      refine q_if_le (tgt := 48) hx hb dX7_job_43 (by decide) (by omega) (fun c_43 => absurd c_43 (by omega)) (fun c_43 => ?_)
      refine q_iconst hx hb dX7_job_46 ?_
      exact hret (2, 0) H locs 47 ls ⟨(by (first | exact (if_pos (by omega)).symm | (rw [if_neg (by omega)]; first | exact (if_pos (by omega)).symm | exact (if_neg (by omega)).symm))), (by intro h; (first | exact absurd h (by omega) | (unfold jobV; (repeat' split) <;> omega)))⟩ hw dX7_job_47
  · refine q_iconst hx hb dX7_job_18 ?_
    refine lv_goto (tgt := 36) hx hb dX7_job_19 (by decide) ?_
    refine q_put hx hb hts hown hK hw ci_X7 0 rfl 0 (by decide) fl_X7_45 rfl rfl rfl (Nat.le_of_ble_eq_true rfl) dX7_job_36 (fun H locs hw => ?_)
    have hw : qw D A s.heap (mW g cI cB cZ 1 len tl ts te tk nu er eo hL hS dp bf dr td sa ad hi sl sv tr) H locs := hw
    refine lv_aload_n hx hb dX7_job_39 rfl (lv_at hl 0 rfl) ?_
    refine q_get hx hb hts hown hK hw.1 ci_X7 0 rfl 0 (by decide) fl_X7_45 rfl dX7_job_40 ?_
    refine q_if_le (tgt := 48) hx hb dX7_job_43 (by decide) (by omega) (fun c_43 => absurd c_43 (by omega)) (fun c_43 => ?_)
    refine q_iconst hx hb dX7_job_46 ?_
    exact hret (1, 0) H locs 47 ls ⟨(by (first | exact (if_pos (by omega)).symm | (rw [if_neg (by omega)]; first | exact (if_pos (by omega)).symm | exact (if_neg (by omega)).symm))), (by intro h; (first | exact absurd h (by omega) | (unfold jobV; (repeat' split) <;> omega)))⟩ hw dX7_job_47

set_option maxHeartbeats 4000000 in
set_option maxRecDepth 100000 in
theorem c_X7_isHalf (sh : Int) (hM : WM td sa T C) (hr_sh : rg sh) : qM l D (tyG cI cB cZ cS cJ) yX7_isHalf cX7_isHalf 2 (Option.some FieldType.boolean) 2 43 [.ref (g 0), .int (iI sh)] (mW g cI cB cZ th len tl ts te tk nu er eo hL hS dp bf dr td sa ad hi sl sv tr) (fun u : (Int) × (Int) => (((u.1)) = if 0 ≤ sh ∧ sh ≤ T 8 0 - 1 then 0 else 1) ∧ (((u.1)) = 0 → ((u.2)) = bI (C 3 sh = 1)) ∧ (((u.2)) = 0 ∨ ((u.2)) = 1)) (fun u => some (.int (iI (u.2)))) (fun u => (mW g cI cB cZ (u.1) len tl ts te tk nu er eo hL hS dp bf dr td sa ad hi sl sv tr)) := by
  have hsc := hM.sc
  refine qM_enterI (val := fun u => iI (u.2)) (by decide) (Nat.le_of_ble_eq_true rfl) (fun u hu => ⟨rfl, nar_z hu.2.2⟩) (fun p e R s m args below meth c Q ls A X hR hA hw hl hret => ?_)
  obtain ⟨hx, hb, hml, hown, hts, hK⟩ := X
  have hl : lv_has ls 2 [(0, .ref (g 0)), (1, .int (iI sh))] := hl
  suffices K : ∀ (H : Heap) (locs : List Loc), qw D A s.heap (mW g cI cB cZ th len tl ts te tk nu er eo hL hS dp bf dr td sa ad hi sl sv tr) H locs → W p l e R s m args below meth c H locs 0 0 Q (F0 m 0 ls []) from K s.heap [] hw
  clear hw
  intro H locs hw
  refine lv_aload_n hx hb dX7_isHalf_0 rfl (lv_at hl 0 rfl) ?_
  refine lv_aload_n hx hb dX7_isHalf_1 rfl (lv_at hl 0 rfl) ?_
  refine lv_iload_n hx hb dX7_isHalf_2 rfl (lv_at hl 1 rfl) ?_
  refine q_callP (As := [.int (iI sh)]) (rest := [.ref (g 0)]) hx hb hml hown hts hK (c_X7_isSheet (sh) (by first | omega | assumption) (by first | omega | assumption)) yi_X7_isSheet ml_X7_234 (by rw [hR]; decide) hw.1 0 rfl rfl rfl rfl hl.1 (lv_room (Nat.le_of_ble_eq_true rfl)) dX7_isHalf_3 ⟨by rw [hR]; exact Nat.zero_le _, by rw [hR]; exact Nat.zero_le _⟩ ?_
  refine q_ifb_eq (tgt := 13) hx hb dX7_isHalf_6 (by decide) (fun c_6 => ?_) (fun c_6 => ?_)
  · refine q_iconst hx hb dX7_isHalf_13 ?_
    refine q_put hx hb hts hown hK hw ci_X7 0 rfl 0 (by decide) fl_X7_45 rfl rfl rfl (Nat.le_of_ble_eq_true rfl) dX7_isHalf_14 (fun H locs hw => ?_)
    have hw : qw D A s.heap (mW g cI cB cZ 1 len tl ts te tk nu er eo hL hS dp bf dr td sa ad hi sl sv tr) H locs := hw
    refine lv_aload_n hx hb dX7_isHalf_17 rfl (lv_at hl 0 rfl) ?_
    refine q_get hx hb hts hown hK hw.1 ci_X7 0 rfl 0 (by decide) fl_X7_45 rfl dX7_isHalf_18 ?_
    refine q_if_ne (tgt := 43) hx hb dX7_isHalf_21 (by decide) (by omega) (fun c_21 => ?_) (fun c_21 => absurd c_21 (by omega))
    refine q_iconst hx hb dX7_isHalf_43 ?_
    exact hret (1, 0) H locs 44 ls ⟨(by first | exact (if_pos (by omega)).symm | exact (if_neg (by omega)).symm), (by intro h; (first | exact absurd h (by decide) | exact (bI_t (by omega)).symm | exact (bI_f (by omega)).symm)), (by first | exact Or.inl rfl | exact Or.inr rfl)⟩ hw dX7_isHalf_44
  · refine q_iconst hx hb dX7_isHalf_9 ?_
    refine lv_goto (tgt := 14) hx hb dX7_isHalf_10 (by decide) ?_
    refine q_put hx hb hts hown hK hw ci_X7 0 rfl 0 (by decide) fl_X7_45 rfl rfl rfl (Nat.le_of_ble_eq_true rfl) dX7_isHalf_14 (fun H locs hw => ?_)
    have hw : qw D A s.heap (mW g cI cB cZ 0 len tl ts te tk nu er eo hL hS dp bf dr td sa ad hi sl sv tr) H locs := hw
    refine lv_aload_n hx hb dX7_isHalf_17 rfl (lv_at hl 0 rfl) ?_
    refine q_get hx hb hts hown hK hw.1 ci_X7 0 rfl 0 (by decide) fl_X7_45 rfl dX7_isHalf_18 ?_
    refine q_if_ne (tgt := 43) hx hb dX7_isHalf_21 (by decide) (by omega) (fun c_21 => absurd c_21 (by omega)) (fun c_21 => ?_)
    refine lv_aload_n hx hb dX7_isHalf_24 rfl (lv_at hl 0 rfl) ?_
    refine q_get hx hb hts hown hK hw.1 ci_X7 0 rfl 14 (by decide) fl_X7_20 rfl dX7_isHalf_25 ?_
    refine lv_iload_n hx hb dX7_isHalf_28 rfl (lv_at hl 1 rfl) ?_
    refine q_callPS (As := [.int (iI sh)]) (rest := [.ref (g 4)]) hx hb hml hown hts hK (c_X7_of (sh)) yt_X7_of ml_X7_167 (by rw [hR]; decide) (show va_P D vwCl [] _ from fun k q h => by simp at h)  rfl rfl hl.1 (lv_room (Nat.le_of_ble_eq_true rfl)) dX7_isHalf_29 ⟨by rw [hR]; exact Nat.zero_le _, by rw [hR]; exact Nat.zero_le _⟩ ?_
    refine q_iconst hx hb dX7_isHalf_32 ?_
    refine q_iadd hx hb dX7_isHalf_33 ?_
    have q_34 := hM.sh sh (by omega) (by omega)
    refine q_iald hx hb hK hw.1 4 0 rfl rfl (z := (26 + 4 * sh + 3)) (v := (C 3 sh)) (by omega) (by omega) dX7_isHalf_34 ?_
    refine q_iconst hx hb dX7_isHalf_35 ?_
    refine q_icmp_ne (tgt := 43) hx hb dX7_isHalf_36 (by decide) (by omega) (fun c_36 => ?_) (fun c_36 => ?_)
    · refine q_iconst hx hb dX7_isHalf_43 ?_
      exact hret (0, 0) H locs 44 ls ⟨(by first | exact (if_pos (by omega)).symm | exact (if_neg (by omega)).symm), (by intro h; (first | exact absurd h (by decide) | exact (bI_t (by omega)).symm | exact (bI_f (by omega)).symm)), (by first | exact Or.inl rfl | exact Or.inr rfl)⟩ hw dX7_isHalf_44
    · refine q_iconst hx hb dX7_isHalf_39 ?_
      refine lv_goto (tgt := 44) hx hb dX7_isHalf_40 (by decide) ?_
      exact hret (0, 1) H locs 44 ls ⟨(by first | exact (if_pos (by omega)).symm | exact (if_neg (by omega)).symm), (by intro h; (first | exact absurd h (by decide) | exact (bI_t (by omega)).symm | exact (bI_f (by omega)).symm)), (by first | exact Or.inl rfl | exact Or.inr rfl)⟩ hw dX7_isHalf_44

set_option maxHeartbeats 4000000 in
set_option maxRecDepth 100000 in
theorem c_X7_next (w : Int) (hM : WM td sa T C) (hr_w : rg w) : qM l D (tyG cI cB cZ cS cJ) yX7_next cX7_next 3 (Option.some FieldType.int) 3 70 [.ref (g 0), .int (iI w)] (mW g cI cB cZ th len tl ts te tk nu er eo hL hS dp bf dr td sa ad hi sl sv tr) (fun u : (Int) × (Int) => (((u.1)) = if 0 ≤ w ∧ w ≤ 4 then 0 else 1) ∧ (((u.1)) = 0 → ((u.2)) = nxtV T C w)) (fun u => some (.int (iI (u.2)))) (fun u => (mW g cI cB cZ (u.1) len tl ts te tk nu er eo hL hS dp bf dr td sa ad hi sl sv tr)) := by
  have hsc := hM.sc
  refine qM_enterI (val := fun u => iI (u.2)) (by decide) (Nat.le_of_ble_eq_true rfl) (fun u hu => ⟨rfl, nar_i _⟩) (fun p e R s m args below meth c Q ls A X hR hA hw hl hret => ?_)
  obtain ⟨hx, hb, hml, hown, hts, hK⟩ := X
  have hl : lv_has ls 3 [(0, .ref (g 0)), (1, .int (iI w))] := hl
  suffices K : ∀ (H : Heap) (locs : List Loc), qw D A s.heap (mW g cI cB cZ th len tl ts te tk nu er eo hL hS dp bf dr td sa ad hi sl sv tr) H locs → W p l e R s m args below meth c H locs 0 0 Q (F0 m 0 ls []) from K s.heap [] hw
  clear hw
  intro H locs hw
  refine lv_aload_n hx hb dX7_next_0 rfl (lv_at hl 0 rfl) ?_
  refine lv_iload_n hx hb dX7_next_1 rfl (lv_at hl 1 rfl) ?_
  refine q_iconst hx hb dX7_next_2 ?_
  refine q_iconst hx hb dX7_next_3 ?_
  refine q_callPS (As := [.int (iI w), .int (iI 0), .int (iI 4)]) (rest := [.ref (g 0)]) hx hb hml hown hts hK (c_X7_within (w) (0) (4) (by first | omega | assumption) (by first | omega | assumption) (by first | omega | assumption)) yt_X7_within ml_X7_72 (by rw [hR]; decide) (show va_P D vwCl [] _ from fun k q h => by simp at h)  rfl rfl hl.1 (lv_room (Nat.le_of_ble_eq_true rfl)) dX7_next_4 ⟨by rw [hR]; exact Nat.zero_le _, by rw [hR]; exact Nat.zero_le _⟩ ?_
  refine q_ifb_eq (tgt := 14) hx hb dX7_next_7 (by decide) (fun c_7 => ?_) (fun c_7 => ?_)
  · refine q_iconst hx hb dX7_next_14 ?_
    refine q_put hx hb hts hown hK hw ci_X7 0 rfl 0 (by decide) fl_X7_45 rfl rfl rfl (Nat.le_of_ble_eq_true rfl) dX7_next_15 (fun H locs hw => ?_)
    have hw : qw D A s.heap (mW g cI cB cZ 1 len tl ts te tk nu er eo hL hS dp bf dr td sa ad hi sl sv tr) H locs := hw
    refine lv_aload_n hx hb dX7_next_18 rfl (lv_at hl 0 rfl) ?_
    refine q_get hx hb hts hown hK hw.1 ci_X7 0 rfl 0 (by decide) fl_X7_45 rfl dX7_next_19 ?_
    refine q_if_le (tgt := 27) hx hb dX7_next_22 (by decide) (by omega) (fun c_22 => absurd c_22 (by omega)) (fun c_22 => ?_)
    refine q_iconst hx hb dX7_next_25 ?_
    exact hret (1, 0) H locs 26 ls ⟨(by first | exact (if_pos (by decide)).symm | exact (if_pos (by omega)).symm | exact (if_neg (by omega)).symm), (by intro h; first | exact absurd h (by decide) | (unfold nxtV; rw [if_neg (by omega)]; rfl))⟩ hw dX7_next_26
  · refine q_iconst hx hb dX7_next_10 ?_
    refine lv_goto (tgt := 15) hx hb dX7_next_11 (by decide) ?_
    refine q_put hx hb hts hown hK hw ci_X7 0 rfl 0 (by decide) fl_X7_45 rfl rfl rfl (Nat.le_of_ble_eq_true rfl) dX7_next_15 (fun H locs hw => ?_)
    have hw : qw D A s.heap (mW g cI cB cZ 0 len tl ts te tk nu er eo hL hS dp bf dr td sa ad hi sl sv tr) H locs := hw
    refine lv_aload_n hx hb dX7_next_18 rfl (lv_at hl 0 rfl) ?_
    refine q_get hx hb hts hown hK hw.1 ci_X7 0 rfl 0 (by decide) fl_X7_45 rfl dX7_next_19 ?_
    refine q_if_le (tgt := 27) hx hb dX7_next_22 (by decide) (by omega) (fun c_22 => ?_) (fun c_22 => absurd c_22 (by omega))
    refine lv_aload_n hx hb dX7_next_27 rfl (lv_at hl 0 rfl) ?_
    refine q_get hx hb hts hown hK hw.1 ci_X7 0 rfl 14 (by decide) fl_X7_20 rfl dX7_next_28 ?_
    refine q_bipush hx hb dX7_next_31 rfl ?_
    refine q_iald hx hb hK hw.1 4 0 rfl rfl (z := 6) (v := (T 8 0 - C 11 0)) (by omega) (by omega) dX7_next_33 ?_
    refine q_if_ne (tgt := 39) hx hb dX7_next_34 (by decide) (by omega) (fun c_34 => ?_) (fun c_34 => ?_)
    · refine lv_aload_n hx hb dX7_next_39 rfl (lv_at hl 0 rfl) ?_
      refine q_callP (As := []) (rest := []) hx hb hml hown hts hK (c_X7_pickMany (by first | omega | assumption) (by first | omega | assumption)) yi_X7_pickMany ml_X7_210 (by rw [hR]; decide) hw.1 0 rfl rfl rfl rfl hl.1 (lv_room (Nat.le_of_ble_eq_true rfl)) dX7_next_40 ⟨by rw [hR]; exact Nat.zero_le _, by rw [hR]; exact Nat.zero_le _⟩ ?_
      refine lv_istore_n (lv' := [(2, .int (iI (pk (C 2) (T 8 0) (C 11 0)))), (0, .ref (g 0)), (1, .int (iI w))]) hx hb dX7_next_43 rfl hl (by decide) rfl (fun ls hl => ?_)
      refine lv_iload_n hx hb dX7_next_44 rfl (lv_at hl 2 rfl) ?_
      have hpk := hM.pk (by omega)
      have hpk1 := hpk.1
      have hpk2 := hpk.2.1
      have rg_45 : rg w := by omega
      by_cases k_45_0 : w = 0
      · refine q_tabIn (tgt := 76) hx hb dX7_next_45 rg_45 (by omega) (by omega) (by rw [k_45_0] <;> rfl) (by decide) ?_
        subst k_45_0
        refine lv_iload_n hx hb dX7_next_76 rfl (lv_at hl 0 rfl) ?_
        exact hret (0, pk (C 2) (T 8 0) (C 11 0)) H locs 77 ls ⟨(by first | exact (if_pos (by decide)).symm | exact (if_pos (by omega)).symm | exact (if_neg (by omega)).symm), (by intro h; first | exact absurd h (by decide) | (unfold nxtV; rw [if_neg (by omega)]; rfl))⟩ hw dX7_next_77
      by_cases k_45_1 : w = 1
      · refine q_tabIn (tgt := 78) hx hb dX7_next_45 rg_45 (by omega) (by omega) (by rw [k_45_1] <;> rfl) (by decide) ?_
        subst k_45_1
        refine lv_aload_n hx hb dX7_next_78 rfl (lv_at hl 1 rfl) ?_
        refine lv_iload_n hx hb dX7_next_79 rfl (lv_at hl 0 rfl) ?_
        refine q_callP (As := [.int (iI (pk (C 2) (T 8 0) (C 11 0)))]) (rest := []) hx hb hml hown hts hK (c_X7_pickThickness (pk (C 2) (T 8 0) (C 11 0)) (by first | omega | assumption) (by first | omega | assumption) (by first | omega | assumption)) yi_X7_pickThickness ml_X7_183 (by rw [hR]; decide) hw.1 0 rfl rfl rfl rfl hl.1 (lv_room (Nat.le_of_ble_eq_true rfl)) dX7_next_80 ⟨by rw [hR]; exact Nat.zero_le _, by rw [hR]; exact Nat.zero_le _⟩ ?_
        exact hret (0, thk T (C 11 0) (pk (C 2) (T 8 0) (C 11 0))) H locs 83 ls ⟨(by first | exact (if_pos (by decide)).symm | exact (if_pos (by omega)).symm | exact (if_neg (by omega)).symm), (by intro h; first | exact absurd h (by decide) | (unfold nxtV; rw [if_neg (by omega)]; rfl))⟩ hw dX7_next_83
      by_cases k_45_2 : w = 2
      · refine q_tabIn (tgt := 84) hx hb dX7_next_45 rg_45 (by omega) (by omega) (by rw [k_45_2] <;> rfl) (by decide) ?_
        subst k_45_2
        refine lv_aload_n hx hb dX7_next_84 rfl (lv_at hl 1 rfl) ?_
        refine lv_iload_n hx hb dX7_next_85 rfl (lv_at hl 0 rfl) ?_
        refine q_callP (As := [.int (iI (pk (C 2) (T 8 0) (C 11 0)))]) (rest := []) hx hb hml hown hts hK (c_X7_pickLength (pk (C 2) (T 8 0) (C 11 0)) (by first | omega | assumption) (by first | omega | assumption) (by first | omega | assumption)) yi_X7_pickLength ml_X7_189 (by rw [hR]; decide) hw.1 0 rfl rfl rfl rfl hl.1 (lv_room (Nat.le_of_ble_eq_true rfl)) dX7_next_86 ⟨by rw [hR]; exact Nat.zero_le _, by rw [hR]; exact Nat.zero_le _⟩ ?_
        exact hret (0, lng T (C 2) (C 11 0) (pk (C 2) (T 8 0) (C 11 0))) H locs 89 ls ⟨(by first | exact (if_pos (by decide)).symm | exact (if_pos (by omega)).symm | exact (if_neg (by omega)).symm), (by intro h; first | exact absurd h (by decide) | (unfold nxtV; rw [if_neg (by omega)]; rfl))⟩ hw dX7_next_89
      by_cases k_45_3 : w = 3
      · refine q_tabIn (tgt := 90) hx hb dX7_next_45 rg_45 (by omega) (by omega) (by rw [k_45_3] <;> rfl) (by decide) ?_
        subst k_45_3
        refine lv_aload_n hx hb dX7_next_90 rfl (lv_at hl 1 rfl) ?_
        refine lv_iload_n hx hb dX7_next_91 rfl (lv_at hl 0 rfl) ?_
        refine q_callP (As := [.int (iI (pk (C 2) (T 8 0) (C 11 0)))]) (rest := []) hx hb hml hown hts hK (c_X7_reasonFor (pk (C 2) (T 8 0) (C 11 0)) (by first | omega | assumption) (by first | omega | assumption) (by first | omega | assumption)) yi_X7_reasonFor ml_X7_213 (by rw [hR]; decide) hw.1 0 rfl rfl rfl rfl hl.1 (lv_room (Nat.le_of_ble_eq_true rfl)) dX7_next_92 ⟨by rw [hR]; exact Nat.zero_le _, by rw [hR]; exact Nat.zero_le _⟩ ?_
        exact hret (0, rsn T C (C 8 0) (usG (C 10) (C 11 6) (T 8 2)) (thk T (C 11 0) (pk (C 2) (T 8 0) (C 11 0))) (lng T (C 2) (C 11 0) (pk (C 2) (T 8 0) (C 11 0))) (C 1 (C 11 0))) H locs 95 ls ⟨(by first | exact (if_pos (by decide)).symm | exact (if_pos (by omega)).symm | exact (if_neg (by omega)).symm), (by intro h; first | exact absurd h (by decide) | (unfold nxtV; rw [if_neg (by omega)]; rfl))⟩ hw dX7_next_95
      refine q_tabOut (tgt := 96) hx hb dX7_next_45 rg_45 (by omega) (by decide) ?_
      refine lv_aload_n hx hb dX7_next_96 rfl (lv_at hl 1 rfl) ?_
      refine lv_aload_n hx hb dX7_next_97 rfl (lv_at hl 1 rfl) ?_
      refine q_iconst hx hb dX7_next_98 ?_
      refine q_callP (As := [.int (iI 0)]) (rest := [.ref (g 0)]) hx hb hml hown hts hK (c_X7_top (0) (by first | omega | assumption) (by first | omega | assumption) (by first | omega | assumption)) yi_X7_top ml_X7_180 (by rw [hR]; decide) hw.1 0 rfl rfl rfl rfl hl.1 (lv_room (Nat.le_of_ble_eq_true rfl)) dX7_next_99 ⟨by rw [hR]; exact Nat.zero_le _, by rw [hR]; exact Nat.zero_le _⟩ ?_
      refine q_top (C 11 0) (by omega) ?_
      refine q_callP (As := [.int (iI (C 11 0))]) (rest := []) hx hb hml hown hts hK (c_X7_pagesOf (C 11 0) (by first | omega | assumption) (by first | omega | assumption) (by first | omega | assumption)) yi_X7_pagesOf ml_X7_243 (by rw [hR]; decide) hw.1 0 rfl rfl rfl rfl hl.1 (lv_room (Nat.le_of_ble_eq_true rfl)) dX7_next_102 ⟨by rw [hR]; exact Nat.zero_le _, by rw [hR]; exact Nat.zero_le _⟩ ?_
      exact hret (0, pgs T C (C 11 0)) H locs 105 ls ⟨(by exact (if_pos (by omega)).symm), (by intro h; unfold nxtV; rw [if_neg (by omega), if_neg k_45_0, if_neg k_45_1, if_neg k_45_2, if_neg k_45_3])⟩ hw dX7_next_105
    · refine q_iconst hx hb dX7_next_37 ?_
      exact hret (0, (-1)) H locs 38 ls ⟨(by exact (if_pos (by omega)).symm), (by intro h; exact (if_pos (by omega)).symm)⟩ hw dX7_next_38

set_option maxHeartbeats 4000000 in
set_option maxRecDepth 100000 in
theorem c_X7_account (w : Int) (hM : WM td sa T C) (hr_w : rg w) : qM l D (tyG cI cB cZ cS cJ) yX7_account cX7_account 2 (Option.some FieldType.int) 1 22 [.ref (g 0), .int (iI w)] (mW g cI cB cZ th len tl ts te tk nu er eo hL hS dp bf dr td sa ad hi sl sv tr) (fun u : (Int) × (Int) => (((u.1)) = if 0 ≤ w ∧ w ≤ 8 then 0 else 1) ∧ (((u.1)) = 0 → ((u.2)) = C 9 w)) (fun u => some (.int (iI (u.2)))) (fun u => (mW g cI cB cZ (u.1) len tl ts te tk nu er eo hL hS dp bf dr td sa ad hi sl sv tr)) := by
  have hsc := hM.sc
  refine qM_enterI (val := fun u => iI (u.2)) (by decide) (Nat.le_of_ble_eq_true rfl) (fun u hu => ⟨rfl, nar_i _⟩) (fun p e R s m args below meth c Q ls A X hR hA hw hl hret => ?_)
  obtain ⟨hx, hb, hml, hown, hts, hK⟩ := X
  have hl : lv_has ls 2 [(0, .ref (g 0)), (1, .int (iI w))] := hl
  suffices K : ∀ (H : Heap) (locs : List Loc), qw D A s.heap (mW g cI cB cZ th len tl ts te tk nu er eo hL hS dp bf dr td sa ad hi sl sv tr) H locs → W p l e R s m args below meth c H locs 0 0 Q (F0 m 0 ls []) from K s.heap [] hw
  clear hw
  intro H locs hw
  refine lv_aload_n hx hb dX7_account_0 rfl (lv_at hl 0 rfl) ?_
  refine lv_iload_n hx hb dX7_account_1 rfl (lv_at hl 1 rfl) ?_
  refine q_iconst hx hb dX7_account_2 ?_
  refine q_bipush hx hb dX7_account_3 rfl ?_
  refine q_callPS (As := [.int (iI w), .int (iI 0), .int (iI 8)]) (rest := [.ref (g 0)]) hx hb hml hown hts hK (c_X7_within (w) (0) (8) (by first | omega | assumption) (by first | omega | assumption) (by first | omega | assumption)) yt_X7_within ml_X7_72 (by rw [hR]; decide) (show va_P D vwCl [] _ from fun k q h => by simp at h)  rfl rfl hl.1 (lv_room (Nat.le_of_ble_eq_true rfl)) dX7_account_5 ⟨by rw [hR]; exact Nat.zero_le _, by rw [hR]; exact Nat.zero_le _⟩ ?_
  refine q_ifb_eq (tgt := 15) hx hb dX7_account_8 (by decide) (fun c_8 => ?_) (fun c_8 => ?_)
  · refine q_iconst hx hb dX7_account_15 ?_
    refine q_put hx hb hts hown hK hw ci_X7 0 rfl 0 (by decide) fl_X7_45 rfl rfl rfl (Nat.le_of_ble_eq_true rfl) dX7_account_16 (fun H locs hw => ?_)
    have hw : qw D A s.heap (mW g cI cB cZ 1 len tl ts te tk nu er eo hL hS dp bf dr td sa ad hi sl sv tr) H locs := hw
    refine lv_aload_n hx hb dX7_account_19 rfl (lv_at hl 0 rfl) ?_
    refine q_get hx hb hts hown hK hw.1 ci_X7 0 rfl 0 (by decide) fl_X7_45 rfl dX7_account_20 ?_
    refine q_if_ne (tgt := 38) hx hb dX7_account_23 (by decide) (by omega) (fun c_23 => ?_) (fun c_23 => absurd c_23 (by omega))
    refine q_iconst hx hb dX7_account_38 ?_
    exact hret (1, 0) H locs 39 ls ⟨(by first | (rw [if_pos (by omega)]) | (rw [if_neg (by omega)]) | omega), (by intro h; first | exact absurd h (by omega) | exact hM.ac w (by omega) (by omega))⟩ hw dX7_account_39
  · refine q_iconst hx hb dX7_account_11 ?_
    refine lv_goto (tgt := 16) hx hb dX7_account_12 (by decide) ?_
    refine q_put hx hb hts hown hK hw ci_X7 0 rfl 0 (by decide) fl_X7_45 rfl rfl rfl (Nat.le_of_ble_eq_true rfl) dX7_account_16 (fun H locs hw => ?_)
    have hw : qw D A s.heap (mW g cI cB cZ 0 len tl ts te tk nu er eo hL hS dp bf dr td sa ad hi sl sv tr) H locs := hw
    refine lv_aload_n hx hb dX7_account_19 rfl (lv_at hl 0 rfl) ?_
    refine q_get hx hb hts hown hK hw.1 ci_X7 0 rfl 0 (by decide) fl_X7_45 rfl dX7_account_20 ?_
    refine q_if_ne (tgt := 38) hx hb dX7_account_23 (by decide) (by omega) (fun c_23 => absurd c_23 (by omega)) (fun c_23 => ?_)
    refine lv_aload_n hx hb dX7_account_26 rfl (lv_at hl 0 rfl) ?_
    refine q_get hx hb hts hown hK hw.1 ci_X7 0 rfl 14 (by decide) fl_X7_20 rfl dX7_account_27 ?_
    refine q_bipush hx hb dX7_account_30 rfl ?_
    refine lv_iload_n hx hb dX7_account_32 rfl (lv_at hl 1 rfl) ?_
    refine q_iadd hx hb dX7_account_33 ?_
    refine q_iald hx hb hK hw.1 4 0 rfl rfl (z := (17 + w)) (v := (sa (17 + w))) (by omega) rfl dX7_account_34 ?_
    refine lv_goto (tgt := 39) hx hb dX7_account_35 (by decide) ?_
    exact hret (0, sa (17 + w)) H locs 39 ls ⟨(by first | (rw [if_pos (by omega)]) | (rw [if_neg (by omega)]) | omega), (by intro h; first | exact absurd h (by omega) | exact hM.ac w (by omega) (by omega))⟩ hw dX7_account_39

set_option maxHeartbeats 4000000 in
set_option maxRecDepth 100000 in
theorem c_X7_sheetsAt (w : Int) (hM : WM td sa T C) (hr_w : rg w) : qM l D (tyG cI cB cZ cS cJ) yX7_sheetsAt cX7_sheetsAt 4 (Option.some FieldType.int) 1 22 [.ref (g 0), .int (iI w)] (mW g cI cB cZ th len tl ts te tk nu er eo hL hS dp bf dr td sa ad hi sl sv tr) (fun u : (Int) × (Int) => (((u.1)) = if 0 ≤ w ∧ w ≤ 6 then 0 else 1) ∧ (((u.1)) = 0 → ((u.2)) = watV T C w)) (fun u => some (.int (iI (u.2)))) (fun u => (mW g cI cB cZ (u.1) len tl ts te tk nu er eo hL hS dp bf dr td sa ad hi sl sv tr)) := by
  have hsc := hM.sc
  refine qM_enterI (val := fun u => iI (u.2)) (by decide) (Nat.le_of_ble_eq_true rfl) (fun u hu => ⟨rfl, nar_i _⟩) (fun p e R s m args below meth c Q ls A X hR hA hw hl hret => ?_)
  obtain ⟨hx, hb, hml, hown, hts, hK⟩ := X
  have hl : lv_has ls 4 [(0, .ref (g 0)), (1, .int (iI w))] := hl
  suffices K : ∀ (H : Heap) (locs : List Loc), qw D A s.heap (mW g cI cB cZ th len tl ts te tk nu er eo hL hS dp bf dr td sa ad hi sl sv tr) H locs → W p l e R s m args below meth c H locs 0 0 Q (F0 m 0 ls []) from K s.heap [] hw
  clear hw
  intro H locs hw
  refine lv_aload_n hx hb dX7_sheetsAt_0 rfl (lv_at hl 0 rfl) ?_
  refine lv_iload_n hx hb dX7_sheetsAt_1 rfl (lv_at hl 1 rfl) ?_
  refine q_iconst hx hb dX7_sheetsAt_2 ?_
  refine q_bipush hx hb dX7_sheetsAt_3 rfl ?_
  refine q_callPS (As := [.int (iI w), .int (iI 0), .int (iI 6)]) (rest := [.ref (g 0)]) hx hb hml hown hts hK (c_X7_within (w) (0) (6) (by first | omega | assumption) (by first | omega | assumption) (by first | omega | assumption)) yt_X7_within ml_X7_72 (by rw [hR]; decide) (show va_P D vwCl [] _ from fun k q h => by simp at h)  rfl rfl hl.1 (lv_room (Nat.le_of_ble_eq_true rfl)) dX7_sheetsAt_5 ⟨by rw [hR]; exact Nat.zero_le _, by rw [hR]; exact Nat.zero_le _⟩ ?_
  refine q_ifb_eq (tgt := 15) hx hb dX7_sheetsAt_8 (by decide) (fun c_8 => ?_) (fun c_8 => ?_)
  · refine q_iconst hx hb dX7_sheetsAt_15 ?_
    refine q_put hx hb hts hown hK hw ci_X7 0 rfl 0 (by decide) fl_X7_45 rfl rfl rfl (Nat.le_of_ble_eq_true rfl) dX7_sheetsAt_16 (fun H locs hw => ?_)
    have hw : qw D A s.heap (mW g cI cB cZ 1 len tl ts te tk nu er eo hL hS dp bf dr td sa ad hi sl sv tr) H locs := hw
    refine q_iconst hx hb dX7_sheetsAt_19 ?_
    refine lv_istore_n (lv' := [(2, .int (iI 0)), (0, .ref (g 0)), (1, .int (iI w))]) hx hb dX7_sheetsAt_20 rfl hl (by decide) rfl (fun ls hl => ?_)
    refine q_iconst hx hb dX7_sheetsAt_21 ?_
    refine lv_istore_n (lv' := [(3, .int (iI 0)), (2, .int (iI 0)), (0, .ref (g 0)), (1, .int (iI w))]) hx hb dX7_sheetsAt_22 rfl hl (by decide) rfl (fun ls hl => ?_)
    have loop_23 : ∀ (fu : Nat) (x : Int) (k : Int) (H : Heap) (locs : List Loc) (ls : Array Slot), (T 8 0 - k).toNat = fu → (x = kI (fun s => C 0 s = w) k) → (0 ≤ k ∧ k ≤ T 8 0) → qw D A s.heap (mW g cI cB cZ 1 len tl ts te tk nu er eo hL hS dp bf dr td sa ad hi sl sv tr) H locs → lv_has ls 4 [(0, .ref (g 0)), (1, .int (iI w)), (2, .int (iI x)), (3, .int (iI k))] → W p l e R s m args below meth c H locs 0 0 Q (F0 m 23 ls []) := by
      intro fu
      induction fu using Nat.strongRecOn with
      | ind fu ih =>
      intro x k H locs ls hn_23 h_x h_k hw hl
      refine lv_iload_n hx hb dX7_sheetsAt_23 rfl (lv_at hl 3 rfl) ?_
      refine lv_aload_n hx hb dX7_sheetsAt_24 rfl (lv_at hl 0 rfl) ?_
      refine q_callP (As := []) (rest := [.int (iI k)]) hx hb hml hown hts hK c_X7_sheets yi_X7_sheets ml_X7_164 (by rw [hR]; decide) hw.1 0 rfl rfl rfl rfl hl.1 (lv_room (Nat.le_of_ble_eq_true rfl)) dX7_sheetsAt_25 ⟨by rw [hR]; exact Nat.zero_le _, by rw [hR]; exact Nat.zero_le _⟩ ?_
      refine q_top (T 8 0) (by omega) ?_
      refine q_icmp_ge (tgt := 67) hx hb dX7_sheetsAt_28 (by decide) (by omega) (fun c_28 => ?_) (fun c_28 => ?_)
      · refine lv_iload_n hx hb dX7_sheetsAt_67 rfl (lv_at hl 2 rfl) ?_
        exact hret (1, x) H locs 68 ls ⟨(by first | (rw [if_pos (by omega)]) | (rw [if_neg (by omega)]) | omega), (by intro h; first | exact absurd h (by omega) | (rw [h_x, show k = T 8 0 by omega]; rfl))⟩ hw dX7_sheetsAt_68
      · refine lv_aload_n hx hb dX7_sheetsAt_31 rfl (lv_at hl 0 rfl) ?_
        refine q_get hx hb hts hown hK hw.1 ci_X7 0 rfl 0 (by decide) fl_X7_45 rfl dX7_sheetsAt_32 ?_
        refine q_if_ne (tgt := 67) hx hb dX7_sheetsAt_35 (by decide) (by omega) (fun c_35 => ?_) (fun c_35 => absurd c_35 (by omega))
        refine lv_iload_n hx hb dX7_sheetsAt_67 rfl (lv_at hl 2 rfl) ?_
        exact hret (1, x) H locs 68 ls ⟨(by first | (rw [if_pos (by omega)]) | (rw [if_neg (by omega)]) | omega), (by intro h; first | exact absurd h (by omega) | (rw [h_x, show k = T 8 0 by omega]; rfl))⟩ hw dX7_sheetsAt_68
    exact loop_23 _ (0) (0) H locs ls rfl (by rfl) (by first | omega | assumption | rfl) hw (lv_sub hl [2, 3, 1, 0] rfl)
  · refine q_iconst hx hb dX7_sheetsAt_11 ?_
    refine lv_goto (tgt := 16) hx hb dX7_sheetsAt_12 (by decide) ?_
    refine q_put hx hb hts hown hK hw ci_X7 0 rfl 0 (by decide) fl_X7_45 rfl rfl rfl (Nat.le_of_ble_eq_true rfl) dX7_sheetsAt_16 (fun H locs hw => ?_)
    have hw : qw D A s.heap (mW g cI cB cZ 0 len tl ts te tk nu er eo hL hS dp bf dr td sa ad hi sl sv tr) H locs := hw
    refine q_iconst hx hb dX7_sheetsAt_19 ?_
    refine lv_istore_n (lv' := [(2, .int (iI 0)), (0, .ref (g 0)), (1, .int (iI w))]) hx hb dX7_sheetsAt_20 rfl hl (by decide) rfl (fun ls hl => ?_)
    refine q_iconst hx hb dX7_sheetsAt_21 ?_
    refine lv_istore_n (lv' := [(3, .int (iI 0)), (2, .int (iI 0)), (0, .ref (g 0)), (1, .int (iI w))]) hx hb dX7_sheetsAt_22 rfl hl (by decide) rfl (fun ls hl => ?_)
    have loop_23 : ∀ (fu : Nat) (x : Int) (k : Int) (H : Heap) (locs : List Loc) (ls : Array Slot), (T 8 0 - k).toNat = fu → (x = kI (fun s => C 0 s = w) k) → (0 ≤ k ∧ k ≤ T 8 0) → qw D A s.heap (mW g cI cB cZ 0 len tl ts te tk nu er eo hL hS dp bf dr td sa ad hi sl sv tr) H locs → lv_has ls 4 [(0, .ref (g 0)), (1, .int (iI w)), (2, .int (iI x)), (3, .int (iI k))] → W p l e R s m args below meth c H locs 0 0 Q (F0 m 23 ls []) := by
      intro fu
      induction fu using Nat.strongRecOn with
      | ind fu ih =>
      intro x k H locs ls hn_23 h_x h_k hw hl
      refine lv_iload_n hx hb dX7_sheetsAt_23 rfl (lv_at hl 3 rfl) ?_
      refine lv_aload_n hx hb dX7_sheetsAt_24 rfl (lv_at hl 0 rfl) ?_
      refine q_callP (As := []) (rest := [.int (iI k)]) hx hb hml hown hts hK c_X7_sheets yi_X7_sheets ml_X7_164 (by rw [hR]; decide) hw.1 0 rfl rfl rfl rfl hl.1 (lv_room (Nat.le_of_ble_eq_true rfl)) dX7_sheetsAt_25 ⟨by rw [hR]; exact Nat.zero_le _, by rw [hR]; exact Nat.zero_le _⟩ ?_
      refine q_top (T 8 0) (by omega) ?_
      refine q_icmp_ge (tgt := 67) hx hb dX7_sheetsAt_28 (by decide) (by omega) (fun c_28 => ?_) (fun c_28 => ?_)
      · refine lv_iload_n hx hb dX7_sheetsAt_67 rfl (lv_at hl 2 rfl) ?_
        exact hret (0, x) H locs 68 ls ⟨(by first | (rw [if_pos (by omega)]) | (rw [if_neg (by omega)]) | omega), (by intro h; first | exact absurd h (by omega) | (rw [h_x, show k = T 8 0 by omega]; rfl))⟩ hw dX7_sheetsAt_68
      · refine lv_aload_n hx hb dX7_sheetsAt_31 rfl (lv_at hl 0 rfl) ?_
        refine q_get hx hb hts hown hK hw.1 ci_X7 0 rfl 0 (by decide) fl_X7_45 rfl dX7_sheetsAt_32 ?_
        refine q_if_ne (tgt := 67) hx hb dX7_sheetsAt_35 (by decide) (by omega) (fun c_35 => absurd c_35 (by omega)) (fun c_35 => ?_)
        refine lv_iload_n hx hb dX7_sheetsAt_38 rfl (lv_at hl 2 rfl) ?_
        refine lv_aload_n hx hb dX7_sheetsAt_39 rfl (lv_at hl 0 rfl) ?_
        refine q_get hx hb hts hown hK hw.1 ci_X7 0 rfl 14 (by decide) fl_X7_20 rfl dX7_sheetsAt_40 ?_
        refine lv_iload_n hx hb dX7_sheetsAt_43 rfl (lv_at hl 3 rfl) ?_
        refine q_callPS (As := [.int (iI k)]) (rest := [.ref (g 4), .int (iI x)]) hx hb hml hown hts hK (c_X7_of (k)) yt_X7_of ml_X7_167 (by rw [hR]; decide) (show va_P D vwCl [] _ from fun k q h => by simp at h)  rfl rfl hl.1 (lv_room (Nat.le_of_ble_eq_true rfl)) dX7_sheetsAt_44 ⟨by rw [hR]; exact Nat.zero_le _, by rw [hR]; exact Nat.zero_le _⟩ ?_
        refine q_iconst hx hb dX7_sheetsAt_47 ?_
        refine q_iadd hx hb dX7_sheetsAt_48 ?_
        refine q_top (26 + 4 * k) (Int.add_zero _) ?_
        have q_49 := hM.sh k (by omega) (by omega)
        refine q_iald hx hb hK hw.1 4 0 rfl rfl (z := (26 + 4 * k)) (v := (C 0 k)) (by omega) (by omega) dX7_sheetsAt_49 ?_
        refine lv_iload_n hx hb dX7_sheetsAt_50 rfl (lv_at hl 1 rfl) ?_
        refine q_icmp_ne (tgt := 58) hx hb dX7_sheetsAt_51 (by decide) (by omega) (fun c_51 => ?_) (fun c_51 => ?_)
        · refine q_iconst hx hb dX7_sheetsAt_58 ?_
          refine q_iadd hx hb dX7_sheetsAt_59 ?_
          refine q_top x (Int.add_zero _) ?_
          refine lv_istore_n (lv' := [(2, .int (iI x)), (0, .ref (g 0)), (1, .int (iI w)), (3, .int (iI k))]) hx hb dX7_sheetsAt_60 rfl hl (by decide) rfl (fun ls hl => ?_)
          refine lv_iinc (v := iI (k + 1)) (lv' := [(3, .int (iI (k + 1))), (2, .int (iI x)), (0, .ref (g 0)), (1, .int (iI w))]) hx hb dX7_sheetsAt_61 hl (k := 3) rfl (iI_add _ _) (by decide) rfl (fun ls hl => ?_)
          refine lv_goto (tgt := 23) hx hb dX7_sheetsAt_64 (by decide) ?_
          exact ih _ (by omega) (x) (k + 1) H locs ls rfl (by rw [h_x, kI_s _ (by omega)]; first | rw [bI_t (by omega)] | (rw [bI_f (by omega)]; omega)) (by first | omega | assumption | rfl) hw (lv_sub hl [2, 3, 1, 0] rfl)
        · refine q_iconst hx hb dX7_sheetsAt_54 ?_
          refine lv_goto (tgt := 59) hx hb dX7_sheetsAt_55 (by decide) ?_
          refine q_iadd hx hb dX7_sheetsAt_59 ?_
          refine lv_istore_n (lv' := [(2, .int (iI (x + 1))), (0, .ref (g 0)), (1, .int (iI w)), (3, .int (iI k))]) hx hb dX7_sheetsAt_60 rfl hl (by decide) rfl (fun ls hl => ?_)
          refine lv_iinc (v := iI (k + 1)) (lv' := [(3, .int (iI (k + 1))), (2, .int (iI (x + 1))), (0, .ref (g 0)), (1, .int (iI w))]) hx hb dX7_sheetsAt_61 hl (k := 3) rfl (iI_add _ _) (by decide) rfl (fun ls hl => ?_)
          refine lv_goto (tgt := 23) hx hb dX7_sheetsAt_64 (by decide) ?_
          exact ih _ (by omega) (x + 1) (k + 1) H locs ls rfl (by rw [h_x, kI_s _ (by omega)]; first | rw [bI_t (by omega)] | (rw [bI_f (by omega)]; omega)) (by first | omega | assumption | rfl) hw (lv_sub hl [2, 3, 1, 0] rfl)
    exact loop_23 _ (0) (0) H locs ls rfl (by rfl) (by first | omega | assumption | rfl) hw (lv_sub hl [2, 3, 1, 0] rfl)

set_option maxHeartbeats 4000000 in
set_option maxRecDepth 100000 in
theorem c_X7_blankFor (sd : Int) (hM : WM td sa T C) (hr_sd : rg sd) : qM l D (tyG cI cB cZ cS cJ) yX7_blankFor cX7_blankFor 3 (Option.some FieldType.int) 3 67 [.ref (g 0), .int (iI sd)] (mW g cI cB cZ th len tl ts te tk nu er eo hL hS dp bf dr td sa ad hi sl sv tr) (fun u : (Int) × (Int) => (((u.1)) = if 0 ≤ sd ∧ sd ≤ 80 then 0 else 1) ∧ (((u.1)) = 0 → isBf T sd ((u.2)))) (fun u => some (.int (iI (u.2)))) (fun u => (mW g cI cB cZ (u.1) len tl ts te tk nu er eo hL hS dp bf dr td sa ad hi sl sv tr)) := by
  have hsc := hM.sc
  refine qM_enterI (val := fun u => iI (u.2)) (by decide) (Nat.le_of_ble_eq_true rfl) (fun u hu => ⟨rfl, nar_i _⟩) (fun p e R s m args below meth c Q ls A X hR hA hw hl hret => ?_)
  obtain ⟨hx, hb, hml, hown, hts, hK⟩ := X
  have hl : lv_has ls 3 [(0, .ref (g 0)), (1, .int (iI sd))] := hl
  suffices K : ∀ (H : Heap) (locs : List Loc), qw D A s.heap (mW g cI cB cZ th len tl ts te tk nu er eo hL hS dp bf dr td sa ad hi sl sv tr) H locs → W p l e R s m args below meth c H locs 0 0 Q (F0 m 0 ls []) from K s.heap [] hw
  clear hw
  intro H locs hw
  refine lv_aload_n hx hb dX7_blankFor_0 rfl (lv_at hl 0 rfl) ?_
  refine lv_iload_n hx hb dX7_blankFor_1 rfl (lv_at hl 1 rfl) ?_
  refine q_iconst hx hb dX7_blankFor_2 ?_
  refine q_bipush hx hb dX7_blankFor_3 rfl ?_
  refine q_callPS (As := [.int (iI sd), .int (iI 0), .int (iI 80)]) (rest := [.ref (g 0)]) hx hb hml hown hts hK (c_X7_within (sd) (0) (80) (by first | omega | assumption) (by first | omega | assumption) (by first | omega | assumption)) yt_X7_within ml_X7_72 (by rw [hR]; decide) (show va_P D vwCl [] _ from fun k q h => by simp at h)  rfl rfl hl.1 (lv_room (Nat.le_of_ble_eq_true rfl)) dX7_blankFor_5 ⟨by rw [hR]; exact Nat.zero_le _, by rw [hR]; exact Nat.zero_le _⟩ ?_
  refine q_ifb_eq (tgt := 15) hx hb dX7_blankFor_8 (by decide) (fun c_8 => ?_) (fun c_8 => ?_)
  · refine q_iconst hx hb dX7_blankFor_15 ?_
    refine q_put hx hb hts hown hK hw ci_X7 0 rfl 0 (by decide) fl_X7_45 rfl rfl rfl (Nat.le_of_ble_eq_true rfl) dX7_blankFor_16 (fun H locs hw => ?_)
    have hw : qw D A s.heap (mW g cI cB cZ 1 len tl ts te tk nu er eo hL hS dp bf dr td sa ad hi sl sv tr) H locs := hw
    refine lv_aload_n hx hb dX7_blankFor_19 rfl (lv_at hl 0 rfl) ?_
    refine q_get hx hb hts hown hK hw.1 ci_X7 0 rfl 0 (by decide) fl_X7_45 rfl dX7_blankFor_20 ?_
    refine q_if_le (tgt := 28) hx hb dX7_blankFor_23 (by decide) (by omega) (fun c_23 => absurd c_23 (by omega)) (fun c_23 => ?_)
    refine q_iconst hx hb dX7_blankFor_26 ?_
    exact hret (1, 0) H locs 27 ls ⟨(by first | (rw [if_pos (by omega)]) | (rw [if_neg (by omega)]) | omega), (by intro h; first | exact absurd h (by omega) | exact Or.inl ⟨by omega, by omega, by omega, h_q⟩ | exact Or.inr ⟨rfl, fun i a1 a2 => h_q i a1 (by omega)⟩)⟩ hw dX7_blankFor_27
  · refine q_iconst hx hb dX7_blankFor_11 ?_
    refine lv_goto (tgt := 16) hx hb dX7_blankFor_12 (by decide) ?_
    refine q_put hx hb hts hown hK hw ci_X7 0 rfl 0 (by decide) fl_X7_45 rfl rfl rfl (Nat.le_of_ble_eq_true rfl) dX7_blankFor_16 (fun H locs hw => ?_)
    have hw : qw D A s.heap (mW g cI cB cZ 0 len tl ts te tk nu er eo hL hS dp bf dr td sa ad hi sl sv tr) H locs := hw
    refine lv_aload_n hx hb dX7_blankFor_19 rfl (lv_at hl 0 rfl) ?_
    refine q_get hx hb hts hown hK hw.1 ci_X7 0 rfl 0 (by decide) fl_X7_45 rfl dX7_blankFor_20 ?_
    refine q_if_le (tgt := 28) hx hb dX7_blankFor_23 (by decide) (by omega) (fun c_23 => ?_) (fun c_23 => absurd c_23 (by omega))
    refine q_iconst hx hb dX7_blankFor_28 ?_
    refine lv_istore_n (lv' := [(2, .int (iI 0)), (0, .ref (g 0)), (1, .int (iI sd))]) hx hb dX7_blankFor_29 rfl hl (by decide) rfl (fun ls hl => ?_)
    have loop_30 : ∀ (fu : Nat) (b : Int) (H : Heap) (locs : List Loc) (ls : Array Slot), (1001 - b).toNat = fu → (0 ≤ b ∧ b ≤ 1001) → (∀ i : Int, 0 ≤ i → i < b → blS T i < sd) → qw D A s.heap (mW g cI cB cZ 0 len tl ts te tk nu er eo hL hS dp bf dr td sa ad hi sl sv tr) H locs → lv_has ls 3 [(0, .ref (g 0)), (1, .int (iI sd)), (2, .int (iI b))] → W p l e R s m args below meth c H locs 0 0 Q (F0 m 30 ls []) := by
      intro fu
      induction fu using Nat.strongRecOn with
      | ind fu ih =>
      intro b H locs ls hn_30 h_b h_q hw hl
      refine lv_iload_n hx hb dX7_blankFor_30 rfl (lv_at hl 2 rfl) ?_
      refine q_sipush hx hb dX7_blankFor_31 rfl ?_
      refine q_icmp_gt (tgt := 54) hx hb dX7_blankFor_34 (by decide) (by omega) (fun c_34 => ?_) (fun c_34 => ?_)
      · refine q_iconst hx hb dX7_blankFor_54 ?_
        exact hret (0, (-1)) H locs 55 ls ⟨(by first | (rw [if_pos (by omega)]) | (rw [if_neg (by omega)]) | omega), (by intro h; first | exact absurd h (by omega) | exact Or.inl ⟨by omega, by omega, by omega, h_q⟩ | exact Or.inr ⟨rfl, fun i a1 a2 => h_q i a1 (by omega)⟩)⟩ hw dX7_blankFor_55
      · refine lv_aload_n hx hb dX7_blankFor_37 rfl (lv_at hl 0 rfl) ?_
        refine lv_iload_n hx hb dX7_blankFor_38 rfl (lv_at hl 2 rfl) ?_
        have q_b := blS_bd (T := T) (by omega) b
        refine q_callP (As := [.int (iI b)]) (rest := []) hx hb hml hown hts hK (c_X7_blankSides (b) (by first | omega | assumption) (by first | omega | assumption)) yi_X7_blankSides ml_X7_249 (by rw [hR]; decide) hw.1 0 rfl rfl rfl rfl hl.1 (lv_room (Nat.le_of_ble_eq_true rfl)) dX7_blankFor_39 ⟨by rw [hR]; exact Nat.zero_le _, by rw [hR]; exact Nat.zero_le _⟩ ?_
        refine lv_iload_n hx hb dX7_blankFor_42 rfl (lv_at hl 1 rfl) ?_
        refine q_icmp_lt (tgt := 48) hx hb dX7_blankFor_43 (by decide) (by omega) (fun c_43 => ?_) (fun c_43 => ?_)
        · refine lv_iinc (v := iI (b + 1)) (lv' := [(2, .int (iI (b + 1))), (0, .ref (g 0)), (1, .int (iI sd))]) hx hb dX7_blankFor_48 hl (k := 2) rfl (iI_add _ _) (by decide) rfl (fun ls hl => ?_)
          refine lv_goto (tgt := 30) hx hb dX7_blankFor_51 (by decide) ?_
          exact ih _ (by omega) (b + 1) H locs ls rfl (by first | omega | assumption | rfl) (by exact all_s h_q (by omega) (by omega)) hw (lv_sub hl [1, 2, 0] rfl)
        · refine lv_iload_n hx hb dX7_blankFor_46 rfl (lv_at hl 2 rfl) ?_
          exact hret (0, b) H locs 47 ls ⟨(by first | (rw [if_pos (by omega)]) | (rw [if_neg (by omega)]) | omega), (by intro h; first | exact absurd h (by omega) | exact Or.inl ⟨by omega, by omega, by omega, h_q⟩ | exact Or.inr ⟨rfl, fun i a1 a2 => h_q i a1 (by omega)⟩)⟩ hw dX7_blankFor_47
    exact loop_30 _ (0) H locs ls rfl (by first | omega | assumption | rfl) (by intro i a b; omega) hw (lv_sub hl [1, 2, 0] rfl)
