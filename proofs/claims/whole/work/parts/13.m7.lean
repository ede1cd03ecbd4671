variable {l : Launch} {T C : Nat → Int → Int} {J : Int → Int} {D : va_G} {cI cB cZ cS cJ : ClassId} {g : Nat → Nat} {th len tl ts te tk nu er eo hL hS dp : Int} {bf dr td sa ad hi sl sv tr : Int → Int}
set_option maxHeartbeats 4000000 in
set_option maxRecDepth 100000 in
theorem c_X7_removes (hM : WM td sa T C) : qM l D (tyG cI cB cZ cS cJ) yX7_removes cX7_removes 4 (Option.some FieldType.int) 1 20 [.ref (g 0)] (mW g cI cB cZ th len tl ts te tk nu er eo hL hS dp bf dr td sa ad hi sl sv tr) (fun u : (Int → Int) => (WM td u T (rmC C))) (fun u => some (.int (iI (C 11 1)))) (fun u => (mW g cI cB cZ th len tl ts te tk nu er eo hL hS dp bf dr td u ad hi sl sv tr)) := by
  have hsc := hM.sc
  have hlm := hM.lm
  have hB : BB T C := hM.2.2.1.hB hM.1
  refine qM_enterI (val := fun u => iI (C 11 1)) (by decide) (Nat.le_of_ble_eq_true rfl) (fun u hu => ⟨rfl, nar_i _⟩) (fun p e R s m args below meth c Q ls A X hR hA hw hl hret => ?_)
  obtain ⟨hx, hb, hml, hown, hts, hK⟩ := X
  have hl : lv_has ls 4 [(0, .ref (g 0))] := hl
  suffices K : ∀ (H : Heap) (locs : List Loc), qw D A s.heap (mW g cI cB cZ th len tl ts te tk nu er eo hL hS dp bf dr td sa ad hi sl sv tr) H locs → W p l e R s m args below meth c H locs 0 0 Q (F0 m 0 ls []) from K s.heap [] hw
  clear hw
  intro H locs hw
  refine lv_aload_n hx hb dX7_removes_0 rfl (lv_at hl 0 rfl) ?_
  refine q_get hx hb hts hown hK hw.1 ci_X7 0 rfl 14 (by decide) fl_X7_20 rfl dX7_removes_1 ?_
  refine q_bipush hx hb dX7_removes_4 rfl ?_
  refine q_iald hx hb hK hw.1 4 0 rfl rfl (z := 7) (v := (sa 7)) (by omega) rfl dX7_removes_6 ?_
  refine lv_istore_n (lv' := [(1, .int (iI (sa 7))), (0, .ref (g 0))]) hx hb dX7_removes_7 rfl hl (by decide) rfl (fun ls hl => ?_)
  refine q_iconst hx hb dX7_removes_8 ?_
  refine lv_istore_n (lv' := [(2, .int (iI 0)), (1, .int (iI (sa 7))), (0, .ref (g 0))]) hx hb dX7_removes_9 rfl hl (by decide) rfl (fun ls hl => ?_)
  have loop_10 : ∀ (fu : Nat) (x : Int → Int) (k : Int) (H : Heap) (locs : List Loc) (ls : Array Slot), (C 11 1 - k).toNat = fu → (RJ x T (rmA C (C 11 0 - C 11 1) k) (shJ C)) → (0 ≤ k ∧ k ≤ C 11 1) → qw D A s.heap (mW g cI cB cZ th len tl ts te tk nu er eo hL hS dp bf dr td x ad hi sl sv tr) H locs → lv_has ls 4 [(0, .ref (g 0)), (1, .int (iI (sa 7))), (2, .int (iI k))] → W p l e R s m args below meth c H locs 0 0 Q (F0 m 10 ls []) := by
    intro fu
    induction fu using Nat.strongRecOn with
    | ind fu ih =>
    intro x k H locs ls hn_10 h_x h_k hw hl
    refine lv_iload_n hx hb dX7_removes_10 rfl (lv_at hl 2 rfl) ?_
    refine lv_iload_n hx hb dX7_removes_11 rfl (lv_at hl 1 rfl) ?_
    refine q_icmp_ge (tgt := 78) hx hb dX7_removes_12 (by decide) (by omega) (fun c_12 => ?_) (fun c_12 => ?_)
    · have h_y : RJ x T (rmA C (C 11 0 - C 11 1) (C 11 1)) (shJ C) := (show k = C 11 1 by omega) ▸ h_x
      refine lv_aload_n hx hb dX7_removes_78 rfl (lv_at hl 0 rfl) ?_
      refine q_get hx hb hts hown hK hw.1 ci_X7 0 rfl 14 (by decide) fl_X7_20 rfl dX7_removes_79 ?_
      refine q_bipush hx hb dX7_removes_82 rfl ?_
      refine q_iconst hx hb dX7_removes_84 ?_
      refine q_iast hx hb hK hw 4 0 rfl rfl (by omega) dX7_removes_85 (fun H locs hw => ?_)
      have hw : qw D A s.heap (mW g cI cB cZ th len tl ts te tk nu er eo hL hS dp bf dr td (uI x 7 0) ad hi sl sv tr) H locs := hw
      obtain ⟨f_1, e_f_1⟩ : ∃ z, z = uI x 7 0 := ⟨_, rfl⟩
      have hw : qw D A s.heap (mW g cI cB cZ th len tl ts te tk nu er eo hL hS dp bf dr td f_1 ad hi sl sv tr) H locs := by rw [e_f_1]; exact hw
      have r_1 : RJ f_1 T (s1 (rmA C (C 11 0 - C 11 1) (C 11 1)) 1 0) (shJ C) := by rw [e_f_1]; exact RJ_p0 h_y hB
      have b_1 := (BB_p0 hB)
      refine lv_aload_n hx hb dX7_removes_86 rfl (lv_at hl 0 rfl) ?_
      refine q_get hx hb hts hown hK hw.1 ci_X7 0 rfl 14 (by decide) fl_X7_20 rfl dX7_removes_87 ?_
      refine q_iconst hx hb dX7_removes_90 ?_
      refine q_iconst hx hb dX7_removes_91 ?_
      refine q_iast hx hb hK hw 4 0 rfl rfl (by omega) dX7_removes_92 (fun H locs hw => ?_)
      have hw : qw D A s.heap (mW g cI cB cZ th len tl ts te tk nu er eo hL hS dp bf dr td (uI f_1 5 0) ad hi sl sv tr) H locs := hw
      obtain ⟨f_2, e_f_2⟩ : ∃ z, z = uI f_1 5 0 := ⟨_, rfl⟩
      have hw : qw D A s.heap (mW g cI cB cZ th len tl ts te tk nu er eo hL hS dp bf dr td f_2 ad hi sl sv tr) H locs := by rw [e_f_2]; exact hw
      have r_2 : RJ f_2 T (s1 (s1 (rmA C (C 11 0 - C 11 1) (C 11 1)) 1 0) 2 0) (shJ C) := by rw [e_f_2]; exact RJ_re r_1 b_1
      have b_2 := (BB_re (v := 0) b_1)
      refine lv_iload_n hx hb dX7_removes_93 rfl (lv_at hl 1 rfl) ?_
      refine q_top (C 11 1) (by first | rfl | omega) ?_
      exact hret (f_2) H locs 94 ls (by exact ⟨hM.1, hM.2.1, WC_rmC hM.2.2.1, r_2⟩) hw dX7_removes_94
    · refine lv_aload_n hx hb dX7_removes_15 rfl (lv_at hl 0 rfl) ?_
      refine q_get hx hb hts hown hK hw.1 ci_X7 0 rfl 14 (by decide) fl_X7_20 rfl dX7_removes_16 ?_
      refine q_sipush hx hb dX7_removes_19 rfl ?_
      refine lv_iload_n hx hb dX7_removes_22 rfl (lv_at hl 2 rfl) ?_
      refine q_iadd hx hb dX7_removes_23 ?_
      refine q_iald hx hb hK hw.1 4 0 rfl rfl (z := (226 + k)) (v := (C 11 0 - C 11 1 + k)) (by omega) (by have z := h_x.2.2.2.2.2.2.1 k (by omega) (by show k < C 11 1; omega); exact z) dX7_removes_24 ?_
      refine lv_istore_n (lv' := [(3, .int (iI (C 11 0 - C 11 1 + k))), (0, .ref (g 0)), (1, .int (iI (sa 7))), (2, .int (iI k))]) hx hb dX7_removes_25 rfl hl (by decide) rfl (fun ls hl => ?_)
      refine lv_aload_n hx hb dX7_removes_26 rfl (lv_at hl 1 rfl) ?_
      refine q_get hx hb hts hown hK hw.1 ci_X7 0 rfl 14 (by decide) fl_X7_20 rfl dX7_removes_27 ?_
      refine lv_iload_n hx hb dX7_removes_30 rfl (lv_at hl 0 rfl) ?_
      refine q_callPS (As := [.int (iI (C 11 0 - C 11 1 + k))]) (rest := [.ref (g 4)]) hx hb hml hown hts hK (c_X7_of (C 11 0 - C 11 1 + k)) yt_X7_of ml_X7_167 (by rw [hR]; decide) (show va_P D vwCl [] _ from fun k q h => by simp at h)  rfl rfl hl.1 (lv_room (Nat.le_of_ble_eq_true rfl)) dX7_removes_31 ⟨by rw [hR]; exact Nat.zero_le _, by rw [hR]; exact Nat.zero_le _⟩ ?_
      refine q_iconst hx hb dX7_removes_34 ?_
      refine q_iadd hx hb dX7_removes_35 ?_
      refine q_top (26 + 4 * (C 11 0 - C 11 1 + k)) (Int.add_zero _) ?_
      refine q_bipush hx hb dX7_removes_36 rfl ?_
      refine q_iast hx hb hK hw 4 0 rfl rfl (by omega) dX7_removes_38 (fun H locs hw => ?_)
      have hw : qw D A s.heap (mW g cI cB cZ th len tl ts te tk nu er eo hL hS dp bf dr td (uI x (26 + 4 * (C 11 0 - C 11 1 + k)) 6) ad hi sl sv tr) H locs := hw
      obtain ⟨f_3, e_f_3⟩ : ∃ z, z = uI x (26 + 4 * (C 11 0 - C 11 1 + k)) 6 := ⟨_, rfl⟩
      have hw : qw D A s.heap (mW g cI cB cZ th len tl ts te tk nu er eo hL hS dp bf dr td f_3 ad hi sl sv tr) H locs := by rw [e_f_3]; exact hw
      have r_3 : RJ f_3 T (st (rmA C (C 11 0 - C 11 1) k) 0 (uI ((rmA C (C 11 0 - C 11 1) k) 0) ((C 11 0 - C 11 1) + k) 6)) (shJ C) := by rw [e_f_3]; exact RJ_wh _ _ h_x hB (by omega) (by omega)
      refine lv_aload_n hx hb dX7_removes_39 rfl (lv_at hl 1 rfl) ?_
      refine q_get hx hb hts hown hK hw.1 ci_X7 0 rfl 14 (by decide) fl_X7_20 rfl dX7_removes_40 ?_
      refine q_bipush hx hb dX7_removes_43 rfl ?_
      refine lv_dup2_11 hx hb dX7_removes_45 rfl rfl ?_
      refine q_iald hx hb hK hw.1 4 0 rfl rfl (z := 23) (v := (C 9 6 + haf C (C 11 0 - C 11 1) k)) (by omega) (by exact (r_3.a 6 23 (by decide) (by decide) (by decide)).trans rm_9) dX7_removes_46 ?_
      refine lv_aload_n hx hb dX7_removes_47 rfl (lv_at hl 1 rfl) ?_
      refine q_get hx hb hts hown hK hw.1 ci_X7 0 rfl 14 (by decide) fl_X7_20 rfl dX7_removes_48 ?_
      refine lv_iload_n hx hb dX7_removes_51 rfl (lv_at hl 0 rfl) ?_
      refine q_callPS (As := [.int (iI (C 11 0 - C 11 1 + k))]) (rest := [.ref (g 4), .int (iI (C 9 6 + haf C (C 11 0 - C 11 1) k)), .int (iI 23), .ref (g 4)]) hx hb hml hown hts hK (c_X7_of (C 11 0 - C 11 1 + k)) yt_X7_of ml_X7_167 (by rw [hR]; decide) (show va_P D vwCl [] _ from fun k q h => by simp at h)  rfl rfl hl.1 (lv_room (Nat.le_of_ble_eq_true rfl)) dX7_removes_52 ⟨by rw [hR]; exact Nat.zero_le _, by rw [hR]; exact Nat.zero_le _⟩ ?_
      refine q_iconst hx hb dX7_removes_55 ?_
      refine q_iadd hx hb dX7_removes_56 ?_
      refine q_iald hx hb hK hw.1 4 0 rfl rfl (z := (26 + 4 * (C 11 0 - C 11 1 + k) + 3)) (v := (C 3 (C 11 0 - C 11 1 + k))) (by omega) (by exact (r_3.sh ((C 11 0 - C 11 1) + k) (by omega) (by omega)).2.2.2.trans rm_3) dX7_removes_57 ?_
      refine q_iadd hx hb dX7_removes_58 ?_
      refine q_iast hx hb hK hw 4 0 rfl rfl (by omega) dX7_removes_59 (fun H locs hw => ?_)
      have hw : qw D A s.heap (mW g cI cB cZ th len tl ts te tk nu er eo hL hS dp bf dr td (uI f_3 23 (C 9 6 + haf C (C 11 0 - C 11 1) k + C 3 (C 11 0 - C 11 1 + k))) ad hi sl sv tr) H locs := hw
      obtain ⟨f_4, e_f_4⟩ : ∃ z, z = uI f_3 23 (C 9 6 + haf C (C 11 0 - C 11 1) k + C 3 (C 11 0 - C 11 1 + k)) := ⟨_, rfl⟩
      have hw : qw D A s.heap (mW g cI cB cZ th len tl ts te tk nu er eo hL hS dp bf dr td f_4 ad hi sl sv tr) H locs := by rw [e_f_4]; exact hw
      have r_4 : RJ f_4 T (st (st (rmA C (C 11 0 - C 11 1) k) 0 (uI ((rmA C (C 11 0 - C 11 1) k) 0) ((C 11 0 - C 11 1) + k) 6)) 9 (uI ((st (rmA C (C 11 0 - C 11 1) k) 0 (uI ((rmA C (C 11 0 - C 11 1) k) 0) ((C 11 0 - C 11 1) + k) 6)) 9) 6 (C 9 6 + haf C (C 11 0 - C 11 1) k + C 3 (C 11 0 - C 11 1 + k)))) (shJ C) := by rw [e_f_4]; exact RJ_a 6 23 r_3 hB (by decide) (by decide) (by decide)
      refine lv_aload_n hx hb dX7_removes_60 rfl (lv_at hl 1 rfl) ?_
      refine q_get hx hb hts hown hK hw.1 ci_X7 0 rfl 14 (by decide) fl_X7_20 rfl dX7_removes_61 ?_
      refine lv_iload_n hx hb dX7_removes_64 rfl (lv_at hl 0 rfl) ?_
      refine q_callPS (As := [.int (iI (C 11 0 - C 11 1 + k))]) (rest := [.ref (g 4)]) hx hb hml hown hts hK (c_X7_of (C 11 0 - C 11 1 + k)) yt_X7_of ml_X7_167 (by rw [hR]; decide) (show va_P D vwCl [] _ from fun k q h => by simp at h)  rfl rfl hl.1 (lv_room (Nat.le_of_ble_eq_true rfl)) dX7_removes_65 ⟨by rw [hR]; exact Nat.zero_le _, by rw [hR]; exact Nat.zero_le _⟩ ?_
      refine q_iconst hx hb dX7_removes_68 ?_
      refine q_iadd hx hb dX7_removes_69 ?_
      refine q_iconst hx hb dX7_removes_70 ?_
      refine q_iast hx hb hK hw 4 0 rfl rfl (by omega) dX7_removes_71 (fun H locs hw => ?_)
      have hw : qw D A s.heap (mW g cI cB cZ th len tl ts te tk nu er eo hL hS dp bf dr td (uI f_4 (26 + 4 * (C 11 0 - C 11 1 + k) + 3) 0) ad hi sl sv tr) H locs := hw
      obtain ⟨f_5, e_f_5⟩ : ∃ z, z = uI f_4 (26 + 4 * (C 11 0 - C 11 1 + k) + 3) 0 := ⟨_, rfl⟩
      have hw : qw D A s.heap (mW g cI cB cZ th len tl ts te tk nu er eo hL hS dp bf dr td f_5 ad hi sl sv tr) H locs := by rw [e_f_5]; exact hw
      have r_5 : RJ f_5 T (st (st (st (rmA C (C 11 0 - C 11 1) k) 0 (uI ((rmA C (C 11 0 - C 11 1) k) 0) ((C 11 0 - C 11 1) + k) 6)) 9 (uI ((st (rmA C (C 11 0 - C 11 1) k) 0 (uI ((rmA C (C 11 0 - C 11 1) k) 0) ((C 11 0 - C 11 1) + k) 6)) 9) 6 (C 9 6 + haf C (C 11 0 - C 11 1) k + C 3 (C 11 0 - C 11 1 + k)))) 3 (uI ((st (st (rmA C (C 11 0 - C 11 1) k) 0 (uI ((rmA C (C 11 0 - C 11 1) k) 0) ((C 11 0 - C 11 1) + k) 6)) 9 (uI ((st (rmA C (C 11 0 - C 11 1) k) 0 (uI ((rmA C (C 11 0 - C 11 1) k) 0) ((C 11 0 - C 11 1) + k) 6)) 9) 6 (C 9 6 + haf C (C 11 0 - C 11 1) k + C 3 (C 11 0 - C 11 1 + k)))) 3) ((C 11 0 - C 11 1) + k) 0)) (shJ C) := by rw [e_f_5]; exact RJ_ha _ _ r_4 hB (by omega) (by omega)
      refine lv_iinc (v := iI (k + 1)) (lv' := [(2, .int (iI (k + 1))), (3, .int (iI (C 11 0 - C 11 1 + k))), (0, .ref (g 0)), (1, .int (iI (sa 7)))]) hx hb dX7_removes_72 hl (k := 3) rfl (iI_add _ _) (by decide) rfl (fun ls hl => ?_)
      refine lv_goto (tgt := 10) hx hb dX7_removes_75 (by decide) ?_
      exact ih _ (by omega) (f_5) (k + 1) H locs ls rfl (by exact rm_s (X := rmA C (C 11 0 - C 11 1) k) (by omega) rfl rfl r_5) (by first | omega | assumption | rfl) hw (lv_sub hl [2, 3, 0] rfl)
  exact loop_10 _ (sa) (0) H locs ls rfl (by exact rm_0 hM.2.2.2) (by first | omega | assumption | rfl) hw (lv_sub hl [2, 1, 0] rfl)

set_option maxHeartbeats 4000000 in
set_option maxRecDepth 100000 in
theorem c_X7_remove_no (hM : WM td sa T C) (h0 : C 11 2 = 0) : qM l D (tyG cI cB cZ cS cJ) yX7_remove cX7_remove 1 (Option.some FieldType.int) 0 0 [.ref (g 0)] (mW g cI cB cZ th len tl ts te tk nu er eo hL hS dp bf dr td sa ad hi sl sv tr) (fun u : Unit => True) (fun u => some (.int (iI 0))) (fun u => (mW g cI cB cZ 1 len tl ts te tk nu er eo hL hS dp bf dr td sa ad hi sl sv tr)) := by
  have hsc := hM.sc
  have hlm := hM.lm
  have hB : BB T C := hM.2.2.1.hB hM.1
  refine qM_enterI (val := fun u => iI 0) (by decide) (Nat.le_of_ble_eq_true rfl) (fun u hu => ⟨rfl, nar_i _⟩) (fun p e R s m args below meth c Q ls A X hR hA hw hl hret => ?_)
  obtain ⟨hx, hb, hml, hown, hts, hK⟩ := X
  have hl : lv_has ls 1 [(0, .ref (g 0))] := hl
  suffices K : ∀ (H : Heap) (locs : List Loc), qw D A s.heap (mW g cI cB cZ th len tl ts te tk nu er eo hL hS dp bf dr td sa ad hi sl sv tr) H locs → W p l e R s m args below meth c H locs 0 0 Q (F0 m 0 ls []) from K s.heap [] hw
  clear hw
  intro H locs hw
  refine lv_aload_n hx hb dX7_remove_0 rfl (lv_at hl 0 rfl) ?_
  refine lv_aload_n hx hb dX7_remove_1 rfl (lv_at hl 0 rfl) ?_
  refine q_get hx hb hts hown hK hw.1 ci_X7 0 rfl 14 (by decide) fl_X7_20 rfl dX7_remove_2 ?_
  refine q_iconst hx hb dX7_remove_5 ?_
  refine q_iald hx hb hK hw.1 4 0 rfl rfl (z := 5) (v := (sa 5)) (by omega) rfl dX7_remove_6 ?_
  refine q_if_ne (tgt := 14) hx hb dX7_remove_7 (by decide) (by omega) (fun c_7 => absurd c_7 (by omega)) (fun c_7 => ?_)
  refine q_iconst hx hb dX7_remove_10 ?_
  refine lv_goto (tgt := 15) hx hb dX7_remove_11 (by decide) ?_
  refine q_put hx hb hts hown hK hw ci_X7 0 rfl 0 (by decide) fl_X7_45 rfl rfl rfl (Nat.le_of_ble_eq_true rfl) dX7_remove_15 (fun H locs hw => ?_)
  have hw : qw D A s.heap (mW g cI cB cZ 1 len tl ts te tk nu er eo hL hS dp bf dr td sa ad hi sl sv tr) H locs := hw
  refine lv_aload_n hx hb dX7_remove_18 rfl (lv_at hl 0 rfl) ?_
  refine q_get hx hb hts hown hK hw.1 ci_X7 0 rfl 0 (by decide) fl_X7_45 rfl dX7_remove_19 ?_
  refine q_if_le (tgt := 27) hx hb dX7_remove_22 (by decide) (by omega) (fun c_22 => absurd c_22 (by omega)) (fun c_22 => ?_)
  refine q_iconst hx hb dX7_remove_25 ?_
  exact hret () H locs 26 ls trivial hw dX7_remove_26

set_option maxHeartbeats 4000000 in
set_option maxRecDepth 100000 in
theorem c_X7_remove (hM : WM td sa T C) (hdp : 0 ≤ dp ∧ dp ≤ 10) (h0 : C 11 2 ≠ 0) : qM l D (tyG cI cB cZ cS cJ) yX7_remove cX7_remove 1 (Option.some FieldType.int) 2 45 [.ref (g 0)] (mW g cI cB cZ th len tl ts te tk nu er eo hL hS dp bf dr td sa ad hi sl sv tr) (fun u : (Int → Int) × (Int → Int) × (Int) => (WM td ((u.1)) T (rmC C)) ∧ (((u.2.1)) = kpH hi dp sa) ∧ (((u.2.2)) = kpD dp)) (fun u => some (.int (iI (C 11 1)))) (fun u => (mW g cI cB cZ 0 len tl ts te tk nu er eo hL hS (u.2.2) bf dr td (u.1) ad (u.2.1) sl sv tr)) := by
  have hsc := hM.sc
  have hlm := hM.lm
  have hB : BB T C := hM.2.2.1.hB hM.1
  refine qM_enterI (val := fun u => iI (C 11 1)) (by decide) (Nat.le_of_ble_eq_true rfl) (fun u hu => ⟨rfl, nar_i _⟩) (fun p e R s m args below meth c Q ls A X hR hA hw hl hret => ?_)
  obtain ⟨hx, hb, hml, hown, hts, hK⟩ := X
  have hl : lv_has ls 1 [(0, .ref (g 0))] := hl
  suffices K : ∀ (H : Heap) (locs : List Loc), qw D A s.heap (mW g cI cB cZ th len tl ts te tk nu er eo hL hS dp bf dr td sa ad hi sl sv tr) H locs → W p l e R s m args below meth c H locs 0 0 Q (F0 m 0 ls []) from K s.heap [] hw
  clear hw
  intro H locs hw
  refine lv_aload_n hx hb dX7_remove_0 rfl (lv_at hl 0 rfl) ?_
  refine lv_aload_n hx hb dX7_remove_1 rfl (lv_at hl 0 rfl) ?_
  refine q_get hx hb hts hown hK hw.1 ci_X7 0 rfl 14 (by decide) fl_X7_20 rfl dX7_remove_2 ?_
  refine q_iconst hx hb dX7_remove_5 ?_
  refine q_iald hx hb hK hw.1 4 0 rfl rfl (z := 5) (v := (sa 5)) (by omega) rfl dX7_remove_6 ?_
  refine q_if_ne (tgt := 14) hx hb dX7_remove_7 (by decide) (by omega) (fun c_7 => ?_) (fun c_7 => absurd c_7 (by omega))
  refine q_iconst hx hb dX7_remove_14 ?_
  refine q_put hx hb hts hown hK hw ci_X7 0 rfl 0 (by decide) fl_X7_45 rfl rfl rfl (Nat.le_of_ble_eq_true rfl) dX7_remove_15 (fun H locs hw => ?_)
  have hw : qw D A s.heap (mW g cI cB cZ 0 len tl ts te tk nu er eo hL hS dp bf dr td sa ad hi sl sv tr) H locs := hw
  refine lv_aload_n hx hb dX7_remove_18 rfl (lv_at hl 0 rfl) ?_
  refine q_get hx hb hts hown hK hw.1 ci_X7 0 rfl 0 (by decide) fl_X7_45 rfl dX7_remove_19 ?_
  refine q_if_le (tgt := 27) hx hb dX7_remove_22 (by decide) (by omega) (fun c_22 => ?_) (fun c_22 => absurd c_22 (by omega))
  refine lv_aload_n hx hb dX7_remove_27 rfl (lv_at hl 0 rfl) ?_
  refine q_callM (As := []) (rest := []) (wr := []) hx hb hml hown hts hK (c_X7_keep (by first | omega | assumption)) yi_X7_keep ml_X7_222 (by rw [hR]; decide) hw hA [0, 1, 2, 3, 4, 5, 6, 7, 8, 9] [] rfl rfl (by decide) (by decide) (by decide) 0 rfl rfl rfl rfl hl.1 (lv_room (Nat.le_of_ble_eq_true rfl)) dX7_remove_28 ⟨by rw [hR]; exact Nat.zero_le _, by rw [hR]; exact Nat.zero_le _⟩ (fun u_28 H locs hu_28 hw => ?_)
  obtain ⟨h2_1, d2_1⟩ := u_28
  obtain ⟨hu_1_0, hu_1_1⟩ : (h2_1 = kpH hi dp sa) ∧ (d2_1 = kpD dp) := hu_28
  have hw : qw D A s.heap (mW g cI cB cZ 0 len tl ts te tk nu er eo hL hS d2_1 bf dr td sa ad h2_1 sl sv tr) H locs := hw
  refine lv_aload_n hx hb dX7_remove_31 rfl (lv_at hl 0 rfl) ?_
  refine q_callM (As := []) (rest := []) (wr := []) hx hb hml hown hts hK (c_X7_removes (C := C) (by first | omega | assumption)) yi_X7_removes ml_X7_228 (by rw [hR]; decide) hw hA [0, 1, 2, 3, 4, 5, 6, 7, 8, 9] [] rfl rfl (by decide) (by decide) (by decide) 0 rfl rfl rfl rfl hl.1 (lv_room (Nat.le_of_ble_eq_true rfl)) dX7_remove_32 ⟨by rw [hR]; exact Nat.zero_le _, by rw [hR]; exact Nat.zero_le _⟩ (fun u_32 H locs hu_32 hw => ?_)
  obtain ⟨s2_2, rfl⟩ : ∃ z, z = u_32 := ⟨_, rfl⟩
  have hu_2_0 : WM td s2_2 T (rmC ((C))) := hu_32
  have hw : qw D A s.heap (mW g cI cB cZ 0 len tl ts te tk nu er eo hL hS d2_1 bf dr td s2_2 ad h2_1 sl sv tr) H locs := hw
  refine q_top (C 11 1) (by first | rfl | omega) ?_
  exact hret (s2_2, h2_1, d2_1) H locs 35 ls ⟨(by first | rfl | omega), (by first | rfl | omega), (by first | rfl | omega)⟩ hw dX7_remove_35

set_option maxHeartbeats 4000000 in
set_option maxRecDepth 100000 in
theorem c_X7_accept_no (hM : WM td sa T C) (h0 : C 11 2 = 0 ∨ C 11 2 = 3) : qM l D (tyG cI cB cZ cS cJ) yX7_accept cX7_accept 1 (Option.some FieldType.int) 0 0 [.ref (g 0)] (mW g cI cB cZ th len tl ts te tk nu er eo hL hS dp bf dr td sa ad hi sl sv tr) (fun u : Unit => True) (fun u => some (.int (iI 0))) (fun u => (mW g cI cB cZ 1 len tl ts te tk nu er eo hL hS dp bf dr td sa ad hi sl sv tr)) := by
  have hsc := hM.sc
  have hlm := hM.lm
  have hB : BB T C := hM.2.2.1.hB hM.1
  refine qM_enterI (val := fun u => iI 0) (by decide) (Nat.le_of_ble_eq_true rfl) (fun u hu => ⟨rfl, nar_i _⟩) (fun p e R s m args below meth c Q ls A X hR hA hw hl hret => ?_)
  obtain ⟨hx, hb, hml, hown, hts, hK⟩ := X
  have hl : lv_has ls 1 [(0, .ref (g 0))] := hl
  suffices K : ∀ (H : Heap) (locs : List Loc), qw D A s.heap (mW g cI cB cZ th len tl ts te tk nu er eo hL hS dp bf dr td sa ad hi sl sv tr) H locs → W p l e R s m args below meth c H locs 0 0 Q (F0 m 0 ls []) from K s.heap [] hw
  clear hw
  intro H locs hw
  refine lv_aload_n hx hb dX7_accept_0 rfl (lv_at hl 0 rfl) ?_
  refine lv_aload_n hx hb dX7_accept_1 rfl (lv_at hl 0 rfl) ?_
  refine q_get hx hb hts hown hK hw.1 ci_X7 0 rfl 14 (by decide) fl_X7_20 rfl dX7_accept_2 ?_
  refine q_iconst hx hb dX7_accept_5 ?_
  refine q_iald hx hb hK hw.1 4 0 rfl rfl (z := 5) (v := (sa 5)) (by omega) rfl dX7_accept_6 ?_
  refine q_if_eq (tgt := 20) hx hb dX7_accept_7 (by decide) (by omega) (fun c_7 => ?_) (fun c_7 => ?_)
  · refine q_iconst hx hb dX7_accept_20 ?_
    refine lv_goto (tgt := 25) hx hb dX7_accept_21 (by decide) ?_
    refine q_put hx hb hts hown hK hw ci_X7 0 rfl 0 (by decide) fl_X7_45 rfl rfl rfl (Nat.le_of_ble_eq_true rfl) dX7_accept_25 (fun H locs hw => ?_)
    have hw : qw D A s.heap (mW g cI cB cZ 1 len tl ts te tk nu er eo hL hS dp bf dr td sa ad hi sl sv tr) H locs := hw
    refine lv_aload_n hx hb dX7_accept_28 rfl (lv_at hl 0 rfl) ?_
    refine q_get hx hb hts hown hK hw.1 ci_X7 0 rfl 0 (by decide) fl_X7_45 rfl dX7_accept_29 ?_
    refine q_if_le (tgt := 37) hx hb dX7_accept_32 (by decide) (by omega) (fun c_32 => absurd c_32 (by omega)) (fun c_32 => ?_)
    refine q_iconst hx hb dX7_accept_35 ?_
    exact hret () H locs 36 ls trivial hw dX7_accept_36
  · refine lv_aload_n hx hb dX7_accept_10 rfl (lv_at hl 0 rfl) ?_
    refine q_get hx hb hts hown hK hw.1 ci_X7 0 rfl 14 (by decide) fl_X7_20 rfl dX7_accept_11 ?_
    refine q_iconst hx hb dX7_accept_14 ?_
    refine q_iald hx hb hK hw.1 4 0 rfl rfl (z := 5) (v := (sa 5)) (by omega) rfl dX7_accept_15 ?_
    refine q_iconst hx hb dX7_accept_16 ?_
    refine q_icmp_ne (tgt := 24) hx hb dX7_accept_17 (by decide) (by omega) (fun c_17 => absurd c_17 (by omega)) (fun c_17 => ?_)
    refine q_iconst hx hb dX7_accept_20 ?_
    refine lv_goto (tgt := 25) hx hb dX7_accept_21 (by decide) ?_
    refine q_put hx hb hts hown hK hw ci_X7 0 rfl 0 (by decide) fl_X7_45 rfl rfl rfl (Nat.le_of_ble_eq_true rfl) dX7_accept_25 (fun H locs hw => ?_)
    have hw : qw D A s.heap (mW g cI cB cZ 1 len tl ts te tk nu er eo hL hS dp bf dr td sa ad hi sl sv tr) H locs := hw
    refine lv_aload_n hx hb dX7_accept_28 rfl (lv_at hl 0 rfl) ?_
    refine q_get hx hb hts hown hK hw.1 ci_X7 0 rfl 0 (by decide) fl_X7_45 rfl dX7_accept_29 ?_
    refine q_if_le (tgt := 37) hx hb dX7_accept_32 (by decide) (by omega) (fun c_32 => absurd c_32 (by omega)) (fun c_32 => ?_)
    refine q_iconst hx hb dX7_accept_35 ?_
    exact hret () H locs 36 ls trivial hw dX7_accept_36

set_option maxHeartbeats 4000000 in
set_option maxRecDepth 100000 in
theorem c_X7_putBack_no (hM : WM td sa T C) (h0 : C 11 2 = 0) : qM l D (tyG cI cB cZ cS cJ) yX7_putBack cX7_putBack 3 (Option.some FieldType.int) 0 0 [.ref (g 0)] (mW g cI cB cZ th len tl ts te tk nu er eo hL hS dp bf dr td sa ad hi sl sv tr) (fun u : Unit => True) (fun u => some (.int (iI 0))) (fun u => (mW g cI cB cZ 1 len tl ts te tk nu er eo hL hS dp bf dr td sa ad hi sl sv tr)) := by
  have hsc := hM.sc
  have hlm := hM.lm
  have hB : BB T C := hM.2.2.1.hB hM.1
  refine qM_enterI (val := fun u => iI 0) (by decide) (Nat.le_of_ble_eq_true rfl) (fun u hu => ⟨rfl, nar_i _⟩) (fun p e R s m args below meth c Q ls A X hR hA hw hl hret => ?_)
  obtain ⟨hx, hb, hml, hown, hts, hK⟩ := X
  have hl : lv_has ls 3 [(0, .ref (g 0))] := hl
  suffices K : ∀ (H : Heap) (locs : List Loc), qw D A s.heap (mW g cI cB cZ th len tl ts te tk nu er eo hL hS dp bf dr td sa ad hi sl sv tr) H locs → W p l e R s m args below meth c H locs 0 0 Q (F0 m 0 ls []) from K s.heap [] hw
  clear hw
  intro H locs hw
  refine lv_aload_n hx hb dX7_putBack_0 rfl (lv_at hl 0 rfl) ?_
  refine lv_aload_n hx hb dX7_putBack_1 rfl (lv_at hl 0 rfl) ?_
  refine q_get hx hb hts hown hK hw.1 ci_X7 0 rfl 14 (by decide) fl_X7_20 rfl dX7_putBack_2 ?_
  refine q_iconst hx hb dX7_putBack_5 ?_
  refine q_iald hx hb hK hw.1 4 0 rfl rfl (z := 5) (v := (sa 5)) (by omega) rfl dX7_putBack_6 ?_
  refine q_if_ne (tgt := 14) hx hb dX7_putBack_7 (by decide) (by omega) (fun c_7 => absurd c_7 (by omega)) (fun c_7 => ?_)
  refine q_iconst hx hb dX7_putBack_10 ?_
  refine lv_goto (tgt := 15) hx hb dX7_putBack_11 (by decide) ?_
  refine q_put hx hb hts hown hK hw ci_X7 0 rfl 0 (by decide) fl_X7_45 rfl rfl rfl (Nat.le_of_ble_eq_true rfl) dX7_putBack_15 (fun H locs hw => ?_)
  have hw : qw D A s.heap (mW g cI cB cZ 1 len tl ts te tk nu er eo hL hS dp bf dr td sa ad hi sl sv tr) H locs := hw
  refine lv_aload_n hx hb dX7_putBack_18 rfl (lv_at hl 0 rfl) ?_
  refine q_get hx hb hts hown hK hw.1 ci_X7 0 rfl 0 (by decide) fl_X7_45 rfl dX7_putBack_19 ?_
  refine q_if_le (tgt := 27) hx hb dX7_putBack_22 (by decide) (by omega) (fun c_22 => absurd c_22 (by omega)) (fun c_22 => ?_)
  refine q_iconst hx hb dX7_putBack_25 ?_
  exact hret () H locs 26 ls trivial hw dX7_putBack_26

set_option maxHeartbeats 4000000 in
set_option maxRecDepth 100000 in
theorem c_X7_endJob_no1 (cd : Int) (hr : rg cd) (h0 : cd < 0 ∨ 999 < cd) : qM l D (tyG cI cB cZ cS cJ) yX7_endJob cX7_endJob 2 (Option.some FieldType.int) 1 22 [.ref (g 0), .int (iI cd)] (mW g cI cB cZ th len tl ts te tk nu er eo hL hS dp bf dr td sa ad hi sl sv tr) (fun u : Unit => True) (fun u => some (.int (iI 0))) (fun u => (mW g cI cB cZ 1 len tl ts te tk nu er eo hL hS dp bf dr td sa ad hi sl sv tr)) := by
  refine qM_enterI (val := fun u => iI 0) (by decide) (Nat.le_of_ble_eq_true rfl) (fun u hu => ⟨rfl, nar_i _⟩) (fun p e R s m args below meth c Q ls A X hR hA hw hl hret => ?_)
  obtain ⟨hx, hb, hml, hown, hts, hK⟩ := X
  have hl : lv_has ls 2 [(0, .ref (g 0)), (1, .int (iI cd))] := hl
  suffices K : ∀ (H : Heap) (locs : List Loc), qw D A s.heap (mW g cI cB cZ th len tl ts te tk nu er eo hL hS dp bf dr td sa ad hi sl sv tr) H locs → W p l e R s m args below meth c H locs 0 0 Q (F0 m 0 ls []) from K s.heap [] hw
  clear hw
  intro H locs hw
  refine lv_aload_n hx hb dX7_endJob_0 rfl (lv_at hl 0 rfl) ?_
  refine lv_iload_n hx hb dX7_endJob_1 rfl (lv_at hl 1 rfl) ?_
  refine q_iconst hx hb dX7_endJob_2 ?_
  refine q_sipush hx hb dX7_endJob_3 rfl ?_
  refine q_callPS (As := [.int (iI cd), .int (iI 0), .int (iI 999)]) (rest := [.ref (g 0)]) hx hb hml hown hts hK (c_X7_within (cd) (0) (999) (by first | omega | assumption) (by first | omega | assumption) (by first | omega | assumption)) yt_X7_within ml_X7_72 (by rw [hR]; decide) (show va_P D vwCl [] _ from fun k q h => by simp at h)  rfl rfl hl.1 (lv_room (Nat.le_of_ble_eq_true rfl)) dX7_endJob_6 ⟨by rw [hR]; exact Nat.zero_le _, by rw [hR]; exact Nat.zero_le _⟩ ?_
  refine q_ifb_ne (tgt := 16) hx hb dX7_endJob_9 (by decide) (fun c_9 => absurd c_9 (by omega)) (fun c_9 => ?_)
  refine q_iconst hx hb dX7_endJob_12 ?_
  refine lv_goto (tgt := 33) hx hb dX7_endJob_13 (by decide) ?_
  refine q_put hx hb hts hown hK hw ci_X7 0 rfl 0 (by decide) fl_X7_45 rfl rfl rfl (Nat.le_of_ble_eq_true rfl) dX7_endJob_33 (fun H locs hw => ?_)
  have hw : qw D A s.heap (mW g cI cB cZ 1 len tl ts te tk nu er eo hL hS dp bf dr td sa ad hi sl sv tr) H locs := hw
  refine lv_aload_n hx hb dX7_endJob_36 rfl (lv_at hl 0 rfl) ?_
  refine q_get hx hb hts hown hK hw.1 ci_X7 0 rfl 0 (by decide) fl_X7_45 rfl dX7_endJob_37 ?_
  refine q_if_le (tgt := 45) hx hb dX7_endJob_40 (by decide) (by omega) (fun c_40 => absurd c_40 (by omega)) (fun c_40 => ?_)
  refine q_iconst hx hb dX7_endJob_43 ?_
  exact hret () H locs 44 ls trivial hw dX7_endJob_44

set_option maxHeartbeats 4000000 in
set_option maxRecDepth 100000 in
theorem c_X7_endJob_no2 (cd : Int) (hM : WM td sa T C) (h0 : 0 ≤ cd ∧ cd ≤ 999) (h1 : 99 ≤ C 11 4) : qM l D (tyG cI cB cZ cS cJ) yX7_endJob cX7_endJob 2 (Option.some FieldType.int) 1 22 [.ref (g 0), .int (iI cd)] (mW g cI cB cZ th len tl ts te tk nu er eo hL hS dp bf dr td sa ad hi sl sv tr) (fun u : Unit => True) (fun u => some (.int (iI 0))) (fun u => (mW g cI cB cZ 2 len tl ts te tk nu er eo hL hS dp bf dr td sa ad hi sl sv tr)) := by
  have hsc := hM.sc
  have hlm := hM.lm
  have hB : BB T C := hM.2.2.1.hB hM.1
  refine qM_enterI (val := fun u => iI 0) (by decide) (Nat.le_of_ble_eq_true rfl) (fun u hu => ⟨rfl, nar_i _⟩) (fun p e R s m args below meth c Q ls A X hR hA hw hl hret => ?_)
  obtain ⟨hx, hb, hml, hown, hts, hK⟩ := X
  have hl : lv_has ls 2 [(0, .ref (g 0)), (1, .int (iI cd))] := hl
  suffices K : ∀ (H : Heap) (locs : List Loc), qw D A s.heap (mW g cI cB cZ th len tl ts te tk nu er eo hL hS dp bf dr td sa ad hi sl sv tr) H locs → W p l e R s m args below meth c H locs 0 0 Q (F0 m 0 ls []) from K s.heap [] hw
  clear hw
  intro H locs hw
  refine lv_aload_n hx hb dX7_endJob_0 rfl (lv_at hl 0 rfl) ?_
  refine lv_iload_n hx hb dX7_endJob_1 rfl (lv_at hl 1 rfl) ?_
  refine q_iconst hx hb dX7_endJob_2 ?_
  refine q_sipush hx hb dX7_endJob_3 rfl ?_
  refine q_callPS (As := [.int (iI cd), .int (iI 0), .int (iI 999)]) (rest := [.ref (g 0)]) hx hb hml hown hts hK (c_X7_within (cd) (0) (999) (by first | omega | assumption) (by first | omega | assumption) (by first | omega | assumption)) yt_X7_within ml_X7_72 (by rw [hR]; decide) (show va_P D vwCl [] _ from fun k q h => by simp at h)  rfl rfl hl.1 (lv_room (Nat.le_of_ble_eq_true rfl)) dX7_endJob_6 ⟨by rw [hR]; exact Nat.zero_le _, by rw [hR]; exact Nat.zero_le _⟩ ?_
  refine q_ifb_ne (tgt := 16) hx hb dX7_endJob_9 (by decide) (fun c_9 => ?_) (fun c_9 => absurd c_9 (by omega))
  refine lv_aload_n hx hb dX7_endJob_16 rfl (lv_at hl 0 rfl) ?_
  refine q_get hx hb hts hown hK hw.1 ci_X7 0 rfl 14 (by decide) fl_X7_20 rfl dX7_endJob_17 ?_
  refine q_bipush hx hb dX7_endJob_20 rfl ?_
  refine q_iald hx hb hK hw.1 4 0 rfl rfl (z := 16) (v := (sa 16)) (by omega) rfl dX7_endJob_22 ?_
  refine q_bipush hx hb dX7_endJob_23 rfl ?_
  refine q_icmp_lt (tgt := 32) hx hb dX7_endJob_25 (by decide) (by omega) (fun c_25 => absurd c_25 (by omega)) (fun c_25 => ?_)
  refine q_iconst hx hb dX7_endJob_28 ?_
  refine lv_goto (tgt := 33) hx hb dX7_endJob_29 (by decide) ?_
  refine q_put hx hb hts hown hK hw ci_X7 0 rfl 0 (by decide) fl_X7_45 rfl rfl rfl (Nat.le_of_ble_eq_true rfl) dX7_endJob_33 (fun H locs hw => ?_)
  have hw : qw D A s.heap (mW g cI cB cZ 2 len tl ts te tk nu er eo hL hS dp bf dr td sa ad hi sl sv tr) H locs := hw
  refine lv_aload_n hx hb dX7_endJob_36 rfl (lv_at hl 0 rfl) ?_
  refine q_get hx hb hts hown hK hw.1 ci_X7 0 rfl 0 (by decide) fl_X7_45 rfl dX7_endJob_37 ?_
  refine q_if_le (tgt := 45) hx hb dX7_endJob_40 (by decide) (by omega) (fun c_40 => absurd c_40 (by omega)) (fun c_40 => ?_)
  refine q_iconst hx hb dX7_endJob_43 ?_
  exact hret () H locs 44 ls trivial hw dX7_endJob_44

set_option maxHeartbeats 4000000 in
set_option maxRecDepth 100000 in
theorem c_X7_endJob (cd : Int) (hM : WM td sa T C) (hdp : 0 ≤ dp ∧ dp ≤ 10) (h0 : 0 ≤ cd ∧ cd ≤ 999) (h1 : C 11 4 < 99) : qM l D (tyG cI cB cZ cS cJ) yX7_endJob cX7_endJob 2 (Option.some FieldType.int) 2 45 [.ref (g 0), .int (iI cd)] (mW g cI cB cZ th len tl ts te tk nu er eo hL hS dp bf dr td sa ad hi sl sv tr) (fun u : (Int → Int) × (Int → Int) × (Int) => (WM td ((u.1)) T (bgJ C cd)) ∧ (((u.2.1)) = kpH hi dp sa) ∧ (((u.2.2)) = kpD dp)) (fun u => some (.int (iI (C 11 4)))) (fun u => (mW g cI cB cZ 0 len tl ts te tk nu er eo hL hS (u.2.2) bf dr td (u.1) ad (u.2.1) sl sv tr)) := by
  have hsc := hM.sc
  have hlm := hM.lm
  have hB : BB T C := hM.2.2.1.hB hM.1
  refine qM_enterI (val := fun u => iI (C 11 4)) (by decide) (Nat.le_of_ble_eq_true rfl) (fun u hu => ⟨rfl, nar_i _⟩) (fun p e R s m args below meth c Q ls A X hR hA hw hl hret => ?_)
  obtain ⟨hx, hb, hml, hown, hts, hK⟩ := X
  have hl : lv_has ls 2 [(0, .ref (g 0)), (1, .int (iI cd))] := hl
  suffices K : ∀ (H : Heap) (locs : List Loc), qw D A s.heap (mW g cI cB cZ th len tl ts te tk nu er eo hL hS dp bf dr td sa ad hi sl sv tr) H locs → W p l e R s m args below meth c H locs 0 0 Q (F0 m 0 ls []) from K s.heap [] hw
  clear hw
  intro H locs hw
  refine lv_aload_n hx hb dX7_endJob_0 rfl (lv_at hl 0 rfl) ?_
  refine lv_iload_n hx hb dX7_endJob_1 rfl (lv_at hl 1 rfl) ?_
  refine q_iconst hx hb dX7_endJob_2 ?_
  refine q_sipush hx hb dX7_endJob_3 rfl ?_
  refine q_callPS (As := [.int (iI cd), .int (iI 0), .int (iI 999)]) (rest := [.ref (g 0)]) hx hb hml hown hts hK (c_X7_within (cd) (0) (999) (by first | omega | assumption) (by first | omega | assumption) (by first | omega | assumption)) yt_X7_within ml_X7_72 (by rw [hR]; decide) (show va_P D vwCl [] _ from fun k q h => by simp at h)  rfl rfl hl.1 (lv_room (Nat.le_of_ble_eq_true rfl)) dX7_endJob_6 ⟨by rw [hR]; exact Nat.zero_le _, by rw [hR]; exact Nat.zero_le _⟩ ?_
  refine q_ifb_ne (tgt := 16) hx hb dX7_endJob_9 (by decide) (fun c_9 => ?_) (fun c_9 => absurd c_9 (by omega))
  refine lv_aload_n hx hb dX7_endJob_16 rfl (lv_at hl 0 rfl) ?_
  refine q_get hx hb hts hown hK hw.1 ci_X7 0 rfl 14 (by decide) fl_X7_20 rfl dX7_endJob_17 ?_
  refine q_bipush hx hb dX7_endJob_20 rfl ?_
  refine q_iald hx hb hK hw.1 4 0 rfl rfl (z := 16) (v := (sa 16)) (by omega) rfl dX7_endJob_22 ?_
  refine q_bipush hx hb dX7_endJob_23 rfl ?_
  refine q_icmp_lt (tgt := 32) hx hb dX7_endJob_25 (by decide) (by omega) (fun c_25 => ?_) (fun c_25 => absurd c_25 (by omega))
  refine q_iconst hx hb dX7_endJob_32 ?_
  refine q_put hx hb hts hown hK hw ci_X7 0 rfl 0 (by decide) fl_X7_45 rfl rfl rfl (Nat.le_of_ble_eq_true rfl) dX7_endJob_33 (fun H locs hw => ?_)
  have hw : qw D A s.heap (mW g cI cB cZ 0 len tl ts te tk nu er eo hL hS dp bf dr td sa ad hi sl sv tr) H locs := hw
  refine lv_aload_n hx hb dX7_endJob_36 rfl (lv_at hl 0 rfl) ?_
  refine q_get hx hb hts hown hK hw.1 ci_X7 0 rfl 0 (by decide) fl_X7_45 rfl dX7_endJob_37 ?_
  refine q_if_le (tgt := 45) hx hb dX7_endJob_40 (by decide) (by omega) (fun c_40 => ?_) (fun c_40 => absurd c_40 (by omega))
  refine lv_aload_n hx hb dX7_endJob_45 rfl (lv_at hl 0 rfl) ?_
  refine q_callM (As := []) (rest := []) (wr := []) hx hb hml hown hts hK (c_X7_keep (by first | omega | assumption)) yi_X7_keep ml_X7_222 (by rw [hR]; decide) hw hA [0, 1, 2, 3, 4, 5, 6, 7, 8, 9] [] rfl rfl (by decide) (by decide) (by decide) 0 rfl rfl rfl rfl hl.1 (lv_room (Nat.le_of_ble_eq_true rfl)) dX7_endJob_46 ⟨by rw [hR]; exact Nat.zero_le _, by rw [hR]; exact Nat.zero_le _⟩ (fun u_46 H locs hu_46 hw => ?_)
  obtain ⟨h2_1, d2_1⟩ := u_46
  obtain ⟨hu_1_0, hu_1_1⟩ : (h2_1 = kpH hi dp sa) ∧ (d2_1 = kpD dp) := hu_46
  have hw : qw D A s.heap (mW g cI cB cZ 0 len tl ts te tk nu er eo hL hS d2_1 bf dr td sa ad h2_1 sl sv tr) H locs := hw
  refine lv_aload_n hx hb dX7_endJob_49 rfl (lv_at hl 0 rfl) ?_
  refine lv_iload_n hx hb dX7_endJob_50 rfl (lv_at hl 1 rfl) ?_
  refine q_callM (As := [.int (iI cd)]) (rest := []) (wr := []) hx hb hml hown hts hK (c_X7_beginJob (C := C) (J := (shJ C)) (cd) (by exact hB) (by exact hM.2.2.2) (by first | omega | assumption) (by first | omega | assumption)) yi_X7_beginJob ml_X7_203 (by rw [hR]; decide) hw hA [0, 1, 2, 3, 4, 5, 6, 7, 8, 9] [] rfl rfl (by decide) (by decide) (by decide) 0 rfl rfl rfl rfl hl.1 (lv_room (Nat.le_of_ble_eq_true rfl)) dX7_endJob_51 ⟨by rw [hR]; exact Nat.zero_le _, by rw [hR]; exact Nat.zero_le _⟩ (fun u_51 H locs hu_51 hw => ?_)
  obtain ⟨s2_2, rfl⟩ : ∃ z, z = u_51 := ⟨_, rfl⟩
  have hu_2_0 : RJ s2_2 T (bgJ ((C)) cd) (uI (((shJ C))) (((C)) 11 4) 0) := hu_51
  have hw : qw D A s.heap (mW g cI cB cZ 0 len tl ts te tk nu er eo hL hS d2_1 bf dr td s2_2 ad h2_1 sl sv tr) H locs := hw
  refine lv_aload_n hx hb dX7_endJob_54 rfl (lv_at hl 0 rfl) ?_
  refine q_get hx hb hts hown hK hw.1 ci_X7 0 rfl 14 (by decide) fl_X7_20 rfl dX7_endJob_55 ?_
  refine q_bipush hx hb dX7_endJob_58 rfl ?_
  refine q_iald hx hb hK hw.1 4 0 rfl rfl (z := 16) (v := (C 11 4 + 1)) (by omega) (by exact hu_2_0.s16) dX7_endJob_60 ?_
  refine q_iconst hx hb dX7_endJob_61 ?_
  refine q_isub hx hb dX7_endJob_62 ?_
  refine q_top (C 11 4) (by first | rfl | omega) ?_
  exact hret (s2_2, h2_1, d2_1) H locs 63 ls ⟨(by exact ⟨hM.1, hM.2.1, WC_bgJ hM.2.2.1 (by omega) h1, RJ_Jc hu_2_0 (fun j a b => shJ_bg hM.2.2.1 b)⟩), (by assumption), (by assumption)⟩ hw dX7_endJob_63

set_option maxHeartbeats 4000000 in
set_option maxRecDepth 100000 in
theorem c_X7_accept (hM : WM td sa T C) (hdp : 0 ≤ dp ∧ dp ≤ 10) (h0 : C 11 2 ≠ 0 ∧ C 11 2 ≠ 3) (h1 : 1 ≤ C 11 1) : qM l D (tyG cI cB cZ cS cJ) yX7_accept cX7_accept 1 (Option.some FieldType.int) 3 67 [.ref (g 0)] (mW g cI cB cZ th len tl ts te tk nu er eo hL hS dp bf dr td sa ad hi sl sv tr) (fun u : (Int → Int) × (Int → Int) × (Int) => (WM td ((u.1)) T (goC T (acc C 8 1))) ∧ (((u.2.1)) = kpH hi dp sa) ∧ (((u.2.2)) = kpD dp)) (fun u => some (.int (iI (goR T C (C 11 0 - C 11 1))))) (fun u => (mW g cI cB cZ 0 len tl ts te tk nu er eo hL hS (u.2.2) bf dr td (u.1) ad (u.2.1) sl sv tr)) := by
  have hsc := hM.sc
  have hlm := hM.lm
  have hB : BB T C := hM.2.2.1.hB hM.1
  refine qM_enterI (val := fun u => iI (goR T C (C 11 0 - C 11 1))) (by decide) (Nat.le_of_ble_eq_true rfl) (fun u hu => ⟨rfl, nar_i _⟩) (fun p e R s m args below meth c Q ls A X hR hA hw hl hret => ?_)
  obtain ⟨hx, hb, hml, hown, hts, hK⟩ := X
  have hl : lv_has ls 1 [(0, .ref (g 0))] := hl
  suffices K : ∀ (H : Heap) (locs : List Loc), qw D A s.heap (mW g cI cB cZ th len tl ts te tk nu er eo hL hS dp bf dr td sa ad hi sl sv tr) H locs → W p l e R s m args below meth c H locs 0 0 Q (F0 m 0 ls []) from K s.heap [] hw
  clear hw
  intro H locs hw
  refine lv_aload_n hx hb dX7_accept_0 rfl (lv_at hl 0 rfl) ?_
  refine lv_aload_n hx hb dX7_accept_1 rfl (lv_at hl 0 rfl) ?_
  refine q_get hx hb hts hown hK hw.1 ci_X7 0 rfl 14 (by decide) fl_X7_20 rfl dX7_accept_2 ?_
  refine q_iconst hx hb dX7_accept_5 ?_
  refine q_iald hx hb hK hw.1 4 0 rfl rfl (z := 5) (v := (sa 5)) (by omega) rfl dX7_accept_6 ?_
  refine q_if_eq (tgt := 20) hx hb dX7_accept_7 (by decide) (by omega) (fun c_7 => absurd c_7 (by omega)) (fun c_7 => ?_)
  refine lv_aload_n hx hb dX7_accept_10 rfl (lv_at hl 0 rfl) ?_
  refine q_get hx hb hts hown hK hw.1 ci_X7 0 rfl 14 (by decide) fl_X7_20 rfl dX7_accept_11 ?_
  refine q_iconst hx hb dX7_accept_14 ?_
  refine q_iald hx hb hK hw.1 4 0 rfl rfl (z := 5) (v := (sa 5)) (by omega) rfl dX7_accept_15 ?_
  refine q_iconst hx hb dX7_accept_16 ?_
  refine q_icmp_ne (tgt := 24) hx hb dX7_accept_17 (by decide) (by omega) (fun c_17 => ?_) (fun c_17 => absurd c_17 (by omega))
  refine q_iconst hx hb dX7_accept_24 ?_
  refine q_put hx hb hts hown hK hw ci_X7 0 rfl 0 (by decide) fl_X7_45 rfl rfl rfl (Nat.le_of_ble_eq_true rfl) dX7_accept_25 (fun H locs hw => ?_)
  have hw : qw D A s.heap (mW g cI cB cZ 0 len tl ts te tk nu er eo hL hS dp bf dr td sa ad hi sl sv tr) H locs := hw
  refine lv_aload_n hx hb dX7_accept_28 rfl (lv_at hl 0 rfl) ?_
  refine q_get hx hb hts hown hK hw.1 ci_X7 0 rfl 0 (by decide) fl_X7_45 rfl dX7_accept_29 ?_
  refine q_if_le (tgt := 37) hx hb dX7_accept_32 (by decide) (by omega) (fun c_32 => ?_) (fun c_32 => absurd c_32 (by omega))
  refine lv_aload_n hx hb dX7_accept_37 rfl (lv_at hl 0 rfl) ?_
  refine q_callM (As := []) (rest := []) (wr := []) hx hb hml hown hts hK (c_X7_keep (by first | omega | assumption)) yi_X7_keep ml_X7_222 (by rw [hR]; decide) hw hA [0, 1, 2, 3, 4, 5, 6, 7, 8, 9] [] rfl rfl (by decide) (by decide) (by decide) 0 rfl rfl rfl rfl hl.1 (lv_room (Nat.le_of_ble_eq_true rfl)) dX7_accept_38 ⟨by rw [hR]; exact Nat.zero_le _, by rw [hR]; exact Nat.zero_le _⟩ (fun u_38 H locs hu_38 hw => ?_)
  obtain ⟨h2_1, d2_1⟩ := u_38
  obtain ⟨hu_1_0, hu_1_1⟩ : (h2_1 = kpH hi dp sa) ∧ (d2_1 = kpD dp) := hu_38
  have hw : qw D A s.heap (mW g cI cB cZ 0 len tl ts te tk nu er eo hL hS d2_1 bf dr td sa ad h2_1 sl sv tr) H locs := hw
  refine lv_aload_n hx hb dX7_accept_41 rfl (lv_at hl 0 rfl) ?_
  refine q_get hx hb hts hown hK hw.1 ci_X7 0 rfl 14 (by decide) fl_X7_20 rfl dX7_accept_42 ?_
  refine q_bipush hx hb dX7_accept_45 rfl ?_
  refine lv_dup2_11 hx hb dX7_accept_47 rfl rfl ?_
  refine q_iald hx hb hK hw.1 4 0 rfl rfl (z := 25) (v := (C 9 8)) (by omega) (by exact hM.2.2.2.a 8 25 (by decide) (by decide) (by decide)) dX7_accept_48 ?_
  refine q_iconst hx hb dX7_accept_49 ?_
  refine q_iadd hx hb dX7_accept_50 ?_
  refine q_iast hx hb hK hw 4 0 rfl rfl (by omega) dX7_accept_51 (fun H locs hw => ?_)
  have hw : qw D A s.heap (mW g cI cB cZ 0 len tl ts te tk nu er eo hL hS d2_1 bf dr td (uI sa 25 (C 9 8 + 1)) ad h2_1 sl sv tr) H locs := hw
  obtain ⟨f_1, e_f_1⟩ : ∃ z, z = uI sa 25 (C 9 8 + 1) := ⟨_, rfl⟩
  have hw : qw D A s.heap (mW g cI cB cZ 0 len tl ts te tk nu er eo hL hS d2_1 bf dr td f_1 ad h2_1 sl sv tr) H locs := by rw [e_f_1]; exact hw
  have r_1 : RJ f_1 T (acc C 8 1) (shJ C) := by rw [e_f_1]; exact RJ_a 8 25 hM.2.2.2 hB (by decide) (by decide) (by decide)
  refine lv_aload_n hx hb dX7_accept_52 rfl (lv_at hl 0 rfl) ?_
  refine q_callM (As := []) (rest := []) (wr := []) hx hb hml hown hts hK (c_X7_goesThrough (C := (acc C 8 1)) (by exact ⟨hM.1, hM.2.1, WC_9 hM.2.2.1, r_1⟩) (by exact h1)) yi_X7_goesThrough ml_X7_219 (by rw [hR]; decide) hw hA [0, 1, 2, 3, 4, 5, 6, 7, 8, 9] [] rfl rfl (by decide) (by decide) (by decide) 0 rfl rfl rfl rfl hl.1 (lv_room (Nat.le_of_ble_eq_true rfl)) dX7_accept_53 ⟨by rw [hR]; exact Nat.zero_le _, by rw [hR]; exact Nat.zero_le _⟩ (fun u_53 H locs hu_53 hw => ?_)
  obtain ⟨s2_2, rfl⟩ : ∃ z, z = u_53 := ⟨_, rfl⟩
  have hu_2_0 : WM td s2_2 T (goC T (((acc C 8 1)))) := hu_53
  have hw : qw D A s.heap (mW g cI cB cZ 0 len tl ts te tk nu er eo hL hS d2_1 bf dr td s2_2 ad h2_1 sl sv tr) H locs := hw
  refine q_top (goR T C (C 11 0 - C 11 1)) (by first | rfl | omega) ?_
  exact hret (s2_2, h2_1, d2_1) H locs 56 ls ⟨(by first | rfl | omega), (by first | rfl | omega), (by first | rfl | omega)⟩ hw dX7_accept_56

set_option maxHeartbeats 4000000 in
set_option maxRecDepth 100000 in
theorem c_X7_setLimit_no (k : Int) (w : Int) (hk : rg k) (hw0 : rg w) (h0 : ¬ (0 ≤ k ∧ k ≤ 3 ∧ (if k = 0 then 101 else 0) ≤ w ∧ w ≤ (if k = 0 then 300 else if k = 1 then 200 else if k = 2 then 99 else 1000))) : qM l D (tyG cI cB cZ cS cJ) yX7_setLimit cX7_setLimit 4 (Option.some FieldType.int) 1 22 [.ref (g 0), .int (iI k), .int (iI w)] (mW g cI cB cZ th len tl ts te tk nu er eo hL hS dp bf dr td sa ad hi sl sv tr) (fun u : Unit => True) (fun u => some (.int (iI 0))) (fun u => (mW g cI cB cZ 1 len tl ts te tk nu er eo hL hS dp bf dr td sa ad hi sl sv tr)) := by
  refine qM_enterI (val := fun u => iI 0) (by decide) (Nat.le_of_ble_eq_true rfl) (fun u hu => ⟨rfl, nar_i _⟩) (fun p e R s m args below meth c Q ls A X hR hA hw hl hret => ?_)
  obtain ⟨hx, hb, hml, hown, hts, hK⟩ := X
  have hl : lv_has ls 4 [(0, .ref (g 0)), (1, .int (iI k)), (2, .int (iI w))] := hl
  suffices K : ∀ (H : Heap) (locs : List Loc), qw D A s.heap (mW g cI cB cZ th len tl ts te tk nu er eo hL hS dp bf dr td sa ad hi sl sv tr) H locs → W p l e R s m args below meth c H locs 0 0 Q (F0 m 0 ls []) from K s.heap [] hw
  clear hw
  intro H locs hw
  refine lv_aload_n hx hb dX7_setLimit_0 rfl (lv_at hl 0 rfl) ?_
  refine lv_iload_n hx hb dX7_setLimit_1 rfl (lv_at hl 1 rfl) ?_
  refine q_iconst hx hb dX7_setLimit_2 ?_
  refine q_iconst hx hb dX7_setLimit_3 ?_
  refine q_callPS (As := [.int (iI k), .int (iI 0), .int (iI 3)]) (rest := [.ref (g 0)]) hx hb hml hown hts hK (c_X7_within (k) (0) (3) (by first | omega | assumption) (by first | omega | assumption) (by first | omega | assumption)) yt_X7_within ml_X7_72 (by rw [hR]; decide) (show va_P D vwCl [] _ from fun k q h => by simp at h)  rfl rfl hl.1 (lv_room (Nat.le_of_ble_eq_true rfl)) dX7_setLimit_4 ⟨by rw [hR]; exact Nat.zero_le _, by rw [hR]; exact Nat.zero_le _⟩ ?_
  refine q_ifb_eq (tgt := 29) hx hb dX7_setLimit_7 (by decide) (fun c_7 => ?_) (fun c_7 => ?_)
  · refine q_iconst hx hb dX7_setLimit_29 ?_
    refine q_put hx hb hts hown hK hw ci_X7 0 rfl 0 (by decide) fl_X7_45 rfl rfl rfl (Nat.le_of_ble_eq_true rfl) dX7_setLimit_30 (fun H locs hw => ?_)
    have hw : qw D A s.heap (mW g cI cB cZ 1 len tl ts te tk nu er eo hL hS dp bf dr td sa ad hi sl sv tr) H locs := hw
    refine lv_aload_n hx hb dX7_setLimit_33 rfl (lv_at hl 0 rfl) ?_
    refine q_get hx hb hts hown hK hw.1 ci_X7 0 rfl 0 (by decide) fl_X7_45 rfl dX7_setLimit_34 ?_
    refine q_if_le (tgt := 42) hx hb dX7_setLimit_37 (by decide) (by omega) (fun c_37 => absurd c_37 (by omega)) (fun c_37 => ?_)
    refine q_iconst hx hb dX7_setLimit_40 ?_
    exact hret () H locs 41 ls trivial hw dX7_setLimit_41
  · refine lv_iload_n hx hb dX7_setLimit_10 rfl (lv_at hl 2 rfl) ?_
    refine lv_iload_n hx hb dX7_setLimit_11 rfl (lv_at hl 1 rfl) ?_
    refine q_callPS (As := [.int (iI k)]) (rest := [.int (iI w), .ref (g 0)]) hx hb hml hown hts hK (c_X7_lowest (k) (by first | omega | assumption)) yt_X7_lowest ml_X7_127 (by rw [hR]; decide) (show va_P D vwCl [] _ from fun k q h => by simp at h)  rfl rfl hl.1 (lv_room (Nat.le_of_ble_eq_true rfl)) dX7_setLimit_12 ⟨by rw [hR]; exact Nat.zero_le _, by rw [hR]; exact Nat.zero_le _⟩ ?_
    refine lv_iload_n hx hb dX7_setLimit_15 rfl (lv_at hl 1 rfl) ?_
    refine q_callPS (As := [.int (iI k)]) (rest := [.int (iI (if k = 0 then 101 else 0)), .int (iI w), .ref (g 0)]) hx hb hml hown hts hK (c_X7_highest (k) (by first | omega | assumption)) yt_X7_highest ml_X7_130 (by rw [hR]; decide) (show va_P D vwCl [] _ from fun k q h => by simp at h)  rfl rfl hl.1 (lv_room (Nat.le_of_ble_eq_true rfl)) dX7_setLimit_16 ⟨by rw [hR]; exact Nat.zero_le _, by rw [hR]; exact Nat.zero_le _⟩ ?_
    refine q_callPS (As := [.int (iI w), .int (iI (if k = 0 then 101 else 0)), .int (iI (if k = 0 then 300 else if k = 1 then 200 else if k = 2 then 99 else 1000))]) (rest := [.ref (g 0)]) hx hb hml hown hts hK (c_X7_within (w) ((if k = 0 then 101 else 0)) ((if k = 0 then 300 else if k = 1 then 200 else if k = 2 then 99 else 1000)) (by first | omega | assumption) (by first | omega | assumption) (by first | omega | assumption)) yt_X7_within ml_X7_72 (by rw [hR]; decide) (show va_P D vwCl [] _ from fun k q h => by simp at h)  rfl rfl hl.1 (lv_room (Nat.le_of_ble_eq_true rfl)) dX7_setLimit_19 ⟨by rw [hR]; exact Nat.zero_le _, by rw [hR]; exact Nat.zero_le _⟩ ?_
    refine q_ifb_eq (tgt := 29) hx hb dX7_setLimit_22 (by decide) (fun c_22 => ?_) (fun c_22 => absurd c_22 (by omega))
    refine q_iconst hx hb dX7_setLimit_29 ?_
    refine q_put hx hb hts hown hK hw ci_X7 0 rfl 0 (by decide) fl_X7_45 rfl rfl rfl (Nat.le_of_ble_eq_true rfl) dX7_setLimit_30 (fun H locs hw => ?_)
    have hw : qw D A s.heap (mW g cI cB cZ 1 len tl ts te tk nu er eo hL hS dp bf dr td sa ad hi sl sv tr) H locs := hw
    refine lv_aload_n hx hb dX7_setLimit_33 rfl (lv_at hl 0 rfl) ?_
    refine q_get hx hb hts hown hK hw.1 ci_X7 0 rfl 0 (by decide) fl_X7_45 rfl dX7_setLimit_34 ?_
    refine q_if_le (tgt := 42) hx hb dX7_setLimit_37 (by decide) (by omega) (fun c_37 => absurd c_37 (by omega)) (fun c_37 => ?_)
    refine q_iconst hx hb dX7_setLimit_40 ?_
    exact hret () H locs 41 ls trivial hw dX7_setLimit_41

set_option maxHeartbeats 4000000 in
set_option maxRecDepth 100000 in
theorem c_X7_setLimit (k : Int) (w : Int) (hM : WM td sa T C) (hdp : 0 ≤ dp ∧ dp ≤ 10) (hk : 0 ≤ k ∧ k ≤ 3) (hw0 : rg w) (h0 : (if k = 0 then 101 else 0) ≤ w ∧ w ≤ (if k = 0 then 300 else if k = 1 then 200 else if k = 2 then 99 else 1000)) : qM l D (tyG cI cB cZ cS cJ) yX7_setLimit cX7_setLimit 4 (Option.some FieldType.int) 2 45 [.ref (g 0), .int (iI k), .int (iI w)] (mW g cI cB cZ th len tl ts te tk nu er eo hL hS dp bf dr td sa ad hi sl sv tr) (fun u : (Int → Int) × (Int → Int) × (Int) => (WM td ((u.1)) T (st C 8 (uI (C 8) k w))) ∧ (((u.2.1)) = kpH hi dp sa) ∧ (((u.2.2)) = kpD dp)) (fun u => some (.int (iI (C 8 k)))) (fun u => (mW g cI cB cZ 0 len tl ts te tk nu er eo hL hS (u.2.2) bf dr td (u.1) ad (u.2.1) sl sv tr)) := by
  have hsc := hM.sc
  have hlm := hM.lm
  have hB : BB T C := hM.2.2.1.hB hM.1
  refine qM_enterI (val := fun u => iI (C 8 k)) (by decide) (Nat.le_of_ble_eq_true rfl) (fun u hu => ⟨rfl, nar_i _⟩) (fun p e R s m args below meth c Q ls A X hR hA hw hl hret => ?_)
  obtain ⟨hx, hb, hml, hown, hts, hK⟩ := X
  have hl : lv_has ls 4 [(0, .ref (g 0)), (1, .int (iI k)), (2, .int (iI w))] := hl
  suffices K : ∀ (H : Heap) (locs : List Loc), qw D A s.heap (mW g cI cB cZ th len tl ts te tk nu er eo hL hS dp bf dr td sa ad hi sl sv tr) H locs → W p l e R s m args below meth c H locs 0 0 Q (F0 m 0 ls []) from K s.heap [] hw
  clear hw
  intro H locs hw
  refine lv_aload_n hx hb dX7_setLimit_0 rfl (lv_at hl 0 rfl) ?_
  refine lv_iload_n hx hb dX7_setLimit_1 rfl (lv_at hl 1 rfl) ?_
  refine q_iconst hx hb dX7_setLimit_2 ?_
  refine q_iconst hx hb dX7_setLimit_3 ?_
  refine q_callPS (As := [.int (iI k), .int (iI 0), .int (iI 3)]) (rest := [.ref (g 0)]) hx hb hml hown hts hK (c_X7_within (k) (0) (3) (by first | omega | assumption) (by first | omega | assumption) (by first | omega | assumption)) yt_X7_within ml_X7_72 (by rw [hR]; decide) (show va_P D vwCl [] _ from fun k q h => by simp at h)  rfl rfl hl.1 (lv_room (Nat.le_of_ble_eq_true rfl)) dX7_setLimit_4 ⟨by rw [hR]; exact Nat.zero_le _, by rw [hR]; exact Nat.zero_le _⟩ ?_
  refine q_ifb_eq (tgt := 29) hx hb dX7_setLimit_7 (by decide) (fun c_7 => absurd c_7 (by omega)) (fun c_7 => ?_)
  refine lv_iload_n hx hb dX7_setLimit_10 rfl (lv_at hl 2 rfl) ?_
  refine lv_iload_n hx hb dX7_setLimit_11 rfl (lv_at hl 1 rfl) ?_
  refine q_callPS (As := [.int (iI k)]) (rest := [.int (iI w), .ref (g 0)]) hx hb hml hown hts hK (c_X7_lowest (k) (by first | omega | assumption)) yt_X7_lowest ml_X7_127 (by rw [hR]; decide) (show va_P D vwCl [] _ from fun k q h => by simp at h)  rfl rfl hl.1 (lv_room (Nat.le_of_ble_eq_true rfl)) dX7_setLimit_12 ⟨by rw [hR]; exact Nat.zero_le _, by rw [hR]; exact Nat.zero_le _⟩ ?_
  refine lv_iload_n hx hb dX7_setLimit_15 rfl (lv_at hl 1 rfl) ?_
  refine q_callPS (As := [.int (iI k)]) (rest := [.int (iI (if k = 0 then 101 else 0)), .int (iI w), .ref (g 0)]) hx hb hml hown hts hK (c_X7_highest (k) (by first | omega | assumption)) yt_X7_highest ml_X7_130 (by rw [hR]; decide) (show va_P D vwCl [] _ from fun k q h => by simp at h)  rfl rfl hl.1 (lv_room (Nat.le_of_ble_eq_true rfl)) dX7_setLimit_16 ⟨by rw [hR]; exact Nat.zero_le _, by rw [hR]; exact Nat.zero_le _⟩ ?_
  refine q_callPS (As := [.int (iI w), .int (iI (if k = 0 then 101 else 0)), .int (iI (if k = 0 then 300 else if k = 1 then 200 else if k = 2 then 99 else 1000))]) (rest := [.ref (g 0)]) hx hb hml hown hts hK (c_X7_within (w) ((if k = 0 then 101 else 0)) ((if k = 0 then 300 else if k = 1 then 200 else if k = 2 then 99 else 1000)) (by first | omega | assumption) (by first | omega | assumption) (by first | omega | assumption)) yt_X7_within ml_X7_72 (by rw [hR]; decide) (show va_P D vwCl [] _ from fun k q h => by simp at h)  rfl rfl hl.1 (lv_room (Nat.le_of_ble_eq_true rfl)) dX7_setLimit_19 ⟨by rw [hR]; exact Nat.zero_le _, by rw [hR]; exact Nat.zero_le _⟩ ?_
  refine q_ifb_eq (tgt := 29) hx hb dX7_setLimit_22 (by decide) (fun c_22 => absurd c_22 (by omega)) (fun c_22 => ?_)
  refine q_iconst hx hb dX7_setLimit_25 ?_
  refine lv_goto (tgt := 30) hx hb dX7_setLimit_26 (by decide) ?_
  refine q_put hx hb hts hown hK hw ci_X7 0 rfl 0 (by decide) fl_X7_45 rfl rfl rfl (Nat.le_of_ble_eq_true rfl) dX7_setLimit_30 (fun H locs hw => ?_)
  have hw : qw D A s.heap (mW g cI cB cZ 0 len tl ts te tk nu er eo hL hS dp bf dr td sa ad hi sl sv tr) H locs := hw
  refine lv_aload_n hx hb dX7_setLimit_33 rfl (lv_at hl 0 rfl) ?_
  refine q_get hx hb hts hown hK hw.1 ci_X7 0 rfl 0 (by decide) fl_X7_45 rfl dX7_setLimit_34 ?_
  refine q_if_le (tgt := 42) hx hb dX7_setLimit_37 (by decide) (by omega) (fun c_37 => ?_) (fun c_37 => absurd c_37 (by omega))
  refine lv_aload_n hx hb dX7_setLimit_42 rfl (lv_at hl 0 rfl) ?_
  refine q_callM (As := []) (rest := []) (wr := []) hx hb hml hown hts hK (c_X7_keep (by first | omega | assumption)) yi_X7_keep ml_X7_222 (by rw [hR]; decide) hw hA [0, 1, 2, 3, 4, 5, 6, 7, 8, 9] [] rfl rfl (by decide) (by decide) (by decide) 0 rfl rfl rfl rfl hl.1 (lv_room (Nat.le_of_ble_eq_true rfl)) dX7_setLimit_43 ⟨by rw [hR]; exact Nat.zero_le _, by rw [hR]; exact Nat.zero_le _⟩ (fun u_43 H locs hu_43 hw => ?_)
  obtain ⟨h2_1, d2_1⟩ := u_43
  obtain ⟨hu_1_0, hu_1_1⟩ : (h2_1 = kpH hi dp sa) ∧ (d2_1 = kpD dp) := hu_43
  have hw : qw D A s.heap (mW g cI cB cZ 0 len tl ts te tk nu er eo hL hS d2_1 bf dr td sa ad h2_1 sl sv tr) H locs := hw
  refine lv_aload_n hx hb dX7_setLimit_46 rfl (lv_at hl 0 rfl) ?_
  refine q_get hx hb hts hown hK hw.1 ci_X7 0 rfl 14 (by decide) fl_X7_20 rfl dX7_setLimit_47 ?_
  refine q_iconst hx hb dX7_setLimit_50 ?_
  refine lv_iload_n hx hb dX7_setLimit_51 rfl (lv_at hl 1 rfl) ?_
  refine q_iadd hx hb dX7_setLimit_52 ?_
  refine q_iald hx hb hK hw.1 4 0 rfl rfl (z := (1 + k)) (v := (C 8 k)) (by omega) (by exact hM.2.2.2.2.1 k (by omega) (by omega)) dX7_setLimit_53 ?_
  refine lv_istore_n (lv' := [(3, .int (iI (C 8 k))), (0, .ref (g 0)), (1, .int (iI k)), (2, .int (iI w))]) hx hb dX7_setLimit_54 rfl hl (by decide) rfl (fun ls hl => ?_)
  refine lv_aload_n hx hb dX7_setLimit_55 rfl (lv_at hl 1 rfl) ?_
  refine q_get hx hb hts hown hK hw.1 ci_X7 0 rfl 14 (by decide) fl_X7_20 rfl dX7_setLimit_56 ?_
  refine q_iconst hx hb dX7_setLimit_59 ?_
  refine lv_iload_n hx hb dX7_setLimit_60 rfl (lv_at hl 2 rfl) ?_
  refine q_iadd hx hb dX7_setLimit_61 ?_
  refine lv_iload_n hx hb dX7_setLimit_62 rfl (lv_at hl 3 rfl) ?_
  refine q_iast hx hb hK hw 4 0 rfl rfl (by omega) dX7_setLimit_63 (fun H locs hw => ?_)
  have hw : qw D A s.heap (mW g cI cB cZ 0 len tl ts te tk nu er eo hL hS d2_1 bf dr td (uI sa (1 + k) w) ad h2_1 sl sv tr) H locs := hw
  obtain ⟨f_1, e_f_1⟩ : ∃ z, z = uI sa (1 + k) w := ⟨_, rfl⟩
  have hw : qw D A s.heap (mW g cI cB cZ 0 len tl ts te tk nu er eo hL hS d2_1 bf dr td f_1 ad h2_1 sl sv tr) H locs := by rw [e_f_1]; exact hw
  refine lv_iload_n hx hb dX7_setLimit_64 rfl (lv_at hl 0 rfl) ?_
  exact hret (f_1, h2_1, d2_1) H locs 65 ls ⟨(by subst_vars; exact ⟨hM.1, hM.2.1, WC_li hM.2.2.1 ⟨fun q => by subst q; exact h0, fun q => by subst q; exact h0, fun q => by subst q; exact h0, fun q => by subst q; exact h0⟩, RJ_li k w hM.2.2.2 hB (by omega) (by omega)⟩), (by assumption), (by assumption)⟩ hw dX7_setLimit_65

theorem RJ_dx2 {v w : Int} (h : RJ sa T C J) (hB : BB T C) (e : v = w) : RJ (uI sa 0 v) T (s1 C 5 w) J := by
  subst e; exact RJ_dx h hB
set_option maxHeartbeats 4000000 in
set_option maxRecDepth 100000 in
theorem c_X7_setDuplex (b : Int) (hM : WM td sa T C) (hdp : 0 ≤ dp ∧ dp ≤ 10) (h0 : 0 ≤ b ∧ b ≤ 1) : qM l D (tyG cI cB cZ cS cJ) yX7_setDuplex cX7_setDuplex 3 (Option.some FieldType.boolean) 2 45 [.ref (g 0), .int (iI b)] (mW g cI cB cZ th len tl ts te tk nu er eo hL hS dp bf dr td sa ad hi sl sv tr) (fun u : (Int → Int) × (Int → Int) × (Int) => (WM td ((u.1)) T (s1 C 5 b)) ∧ (((u.2.1)) = kpH hi dp sa) ∧ (((u.2.2)) = kpD dp)) (fun u => some (.int (iI (C 11 5)))) (fun u => (mW g cI cB cZ 0 len tl ts te tk nu er eo hL hS (u.2.2) bf dr td (u.1) ad (u.2.1) sl sv tr)) := by
  have hsc := hM.sc
  have hlm := hM.lm
  have hB : BB T C := hM.2.2.1.hB hM.1
  refine qM_enterI (val := fun u => iI (C 11 5)) (by decide) (Nat.le_of_ble_eq_true rfl) (fun u hu => ⟨rfl, nar_z (by omega)⟩) (fun p e R s m args below meth c Q ls A X hR hA hw hl hret => ?_)
  obtain ⟨hx, hb, hml, hown, hts, hK⟩ := X
  have hl : lv_has ls 3 [(0, .ref (g 0)), (1, .int (iI b))] := hl
  suffices K : ∀ (H : Heap) (locs : List Loc), qw D A s.heap (mW g cI cB cZ th len tl ts te tk nu er eo hL hS dp bf dr td sa ad hi sl sv tr) H locs → W p l e R s m args below meth c H locs 0 0 Q (F0 m 0 ls []) from K s.heap [] hw
  clear hw
  intro H locs hw
  refine lv_aload_n hx hb dX7_setDuplex_0 rfl (lv_at hl 0 rfl) ?_
  refine q_iconst hx hb dX7_setDuplex_1 ?_
  refine q_put hx hb hts hown hK hw ci_X7 0 rfl 0 (by decide) fl_X7_45 rfl rfl rfl (Nat.le_of_ble_eq_true rfl) dX7_setDuplex_2 (fun H locs hw => ?_)
  have hw : qw D A s.heap (mW g cI cB cZ 0 len tl ts te tk nu er eo hL hS dp bf dr td sa ad hi sl sv tr) H locs := hw
  refine lv_aload_n hx hb dX7_setDuplex_5 rfl (lv_at hl 0 rfl) ?_
  refine q_callM (As := []) (rest := []) (wr := []) hx hb hml hown hts hK (c_X7_keep (by first | omega | assumption)) yi_X7_keep ml_X7_222 (by rw [hR]; decide) hw hA [0, 1, 2, 3, 4, 5, 6, 7, 8, 9] [] rfl rfl (by decide) (by decide) (by decide) 0 rfl rfl rfl rfl hl.1 (lv_room (Nat.le_of_ble_eq_true rfl)) dX7_setDuplex_6 ⟨by rw [hR]; exact Nat.zero_le _, by rw [hR]; exact Nat.zero_le _⟩ (fun u_6 H locs hu_6 hw => ?_)
  obtain ⟨h2_1, d2_1⟩ := u_6
  obtain ⟨hu_1_0, hu_1_1⟩ : (h2_1 = kpH hi dp sa) ∧ (d2_1 = kpD dp) := hu_6
  have hw : qw D A s.heap (mW g cI cB cZ 0 len tl ts te tk nu er eo hL hS d2_1 bf dr td sa ad h2_1 sl sv tr) H locs := hw
  refine lv_aload_n hx hb dX7_setDuplex_9 rfl (lv_at hl 0 rfl) ?_
  refine q_get hx hb hts hown hK hw.1 ci_X7 0 rfl 14 (by decide) fl_X7_20 rfl dX7_setDuplex_10 ?_
  refine q_iconst hx hb dX7_setDuplex_13 ?_
  refine q_iald hx hb hK hw.1 4 0 rfl rfl (z := 0) (v := (sa 0)) (by omega) rfl dX7_setDuplex_14 ?_
  refine q_iconst hx hb dX7_setDuplex_15 ?_
  refine q_icmp_ne (tgt := 23) hx hb dX7_setDuplex_16 (by decide) (by omega) (fun c_16 => ?_) (fun c_16 => ?_)
  · refine q_iconst hx hb dX7_setDuplex_23 ?_
    refine lv_istore_n (lv' := [(2, .int (iI 0)), (0, .ref (g 0)), (1, .int (iI b))]) hx hb dX7_setDuplex_24 rfl hl (by decide) rfl (fun ls hl => ?_)
    refine lv_aload_n hx hb dX7_setDuplex_25 rfl (lv_at hl 1 rfl) ?_
    refine q_get hx hb hts hown hK hw.1 ci_X7 0 rfl 14 (by decide) fl_X7_20 rfl dX7_setDuplex_26 ?_
    refine q_iconst hx hb dX7_setDuplex_29 ?_
    refine lv_iload_n hx hb dX7_setDuplex_30 rfl (lv_at hl 2 rfl) ?_
    refine q_if_eq (tgt := 38) hx hb dX7_setDuplex_31 (by decide) (by omega) (fun c_31 => ?_) (fun c_31 => ?_)
    · refine q_iconst hx hb dX7_setDuplex_38 ?_
      refine q_iast hx hb hK hw 4 0 rfl rfl (by omega) dX7_setDuplex_39 (fun H locs hw => ?_)
      have hw : qw D A s.heap (mW g cI cB cZ 0 len tl ts te tk nu er eo hL hS d2_1 bf dr td (uI sa 0 0) ad h2_1 sl sv tr) H locs := hw
      obtain ⟨f_1, e_f_1⟩ : ∃ z, z = uI sa 0 0 := ⟨_, rfl⟩
      have hw : qw D A s.heap (mW g cI cB cZ 0 len tl ts te tk nu er eo hL hS d2_1 bf dr td f_1 ad h2_1 sl sv tr) H locs := by rw [e_f_1]; exact hw
      refine lv_iload_n hx hb dX7_setDuplex_40 rfl (lv_at hl 0 rfl) ?_
      refine q_top (C 11 5) (by first | rfl | omega) ?_
      exact hret (f_1, h2_1, d2_1) H locs 41 ls ⟨(by subst_vars; exact ⟨hM.1, hM.2.1, WC_dx hM.2.2.1 (by omega), RJ_dx2 hM.2.2.2 hB (by omega)⟩), (by assumption), (by assumption)⟩ hw dX7_setDuplex_41
    · refine q_iconst hx hb dX7_setDuplex_34 ?_
      refine lv_goto (tgt := 39) hx hb dX7_setDuplex_35 (by decide) ?_
      refine q_iast hx hb hK hw 4 0 rfl rfl (by omega) dX7_setDuplex_39 (fun H locs hw => ?_)
      have hw : qw D A s.heap (mW g cI cB cZ 0 len tl ts te tk nu er eo hL hS d2_1 bf dr td (uI sa 0 1) ad h2_1 sl sv tr) H locs := hw
      obtain ⟨f_2, e_f_2⟩ : ∃ z, z = uI sa 0 1 := ⟨_, rfl⟩
      have hw : qw D A s.heap (mW g cI cB cZ 0 len tl ts te tk nu er eo hL hS d2_1 bf dr td f_2 ad h2_1 sl sv tr) H locs := by rw [e_f_2]; exact hw
      refine lv_iload_n hx hb dX7_setDuplex_40 rfl (lv_at hl 0 rfl) ?_
      refine q_top (C 11 5) (by first | rfl | omega) ?_
      exact hret (f_2, h2_1, d2_1) H locs 41 ls ⟨(by subst_vars; exact ⟨hM.1, hM.2.1, WC_dx hM.2.2.1 (by omega), RJ_dx2 hM.2.2.2 hB (by omega)⟩), (by assumption), (by assumption)⟩ hw dX7_setDuplex_41
  · refine q_iconst hx hb dX7_setDuplex_19 ?_
    refine lv_goto (tgt := 24) hx hb dX7_setDuplex_20 (by decide) ?_
    refine lv_istore_n (lv' := [(2, .int (iI 1)), (0, .ref (g 0)), (1, .int (iI b))]) hx hb dX7_setDuplex_24 rfl hl (by decide) rfl (fun ls hl => ?_)
    refine lv_aload_n hx hb dX7_setDuplex_25 rfl (lv_at hl 1 rfl) ?_
    refine q_get hx hb hts hown hK hw.1 ci_X7 0 rfl 14 (by decide) fl_X7_20 rfl dX7_setDuplex_26 ?_
    refine q_iconst hx hb dX7_setDuplex_29 ?_
    refine lv_iload_n hx hb dX7_setDuplex_30 rfl (lv_at hl 2 rfl) ?_
    refine q_if_eq (tgt := 38) hx hb dX7_setDuplex_31 (by decide) (by omega) (fun c_31 => ?_) (fun c_31 => ?_)
    · refine q_iconst hx hb dX7_setDuplex_38 ?_
      refine q_iast hx hb hK hw 4 0 rfl rfl (by omega) dX7_setDuplex_39 (fun H locs hw => ?_)
      have hw : qw D A s.heap (mW g cI cB cZ 0 len tl ts te tk nu er eo hL hS d2_1 bf dr td (uI sa 0 0) ad h2_1 sl sv tr) H locs := hw
      obtain ⟨f_3, e_f_3⟩ : ∃ z, z = uI sa 0 0 := ⟨_, rfl⟩
      have hw : qw D A s.heap (mW g cI cB cZ 0 len tl ts te tk nu er eo hL hS d2_1 bf dr td f_3 ad h2_1 sl sv tr) H locs := by rw [e_f_3]; exact hw
      refine lv_iload_n hx hb dX7_setDuplex_40 rfl (lv_at hl 0 rfl) ?_
      refine q_top (C 11 5) (by first | rfl | omega) ?_
      exact hret (f_3, h2_1, d2_1) H locs 41 ls ⟨(by subst_vars; exact ⟨hM.1, hM.2.1, WC_dx hM.2.2.1 (by omega), RJ_dx2 hM.2.2.2 hB (by omega)⟩), (by assumption), (by assumption)⟩ hw dX7_setDuplex_41
    · refine q_iconst hx hb dX7_setDuplex_34 ?_
      refine lv_goto (tgt := 39) hx hb dX7_setDuplex_35 (by decide) ?_
      refine q_iast hx hb hK hw 4 0 rfl rfl (by omega) dX7_setDuplex_39 (fun H locs hw => ?_)
      have hw : qw D A s.heap (mW g cI cB cZ 0 len tl ts te tk nu er eo hL hS d2_1 bf dr td (uI sa 0 1) ad h2_1 sl sv tr) H locs := hw
      obtain ⟨f_4, e_f_4⟩ : ∃ z, z = uI sa 0 1 := ⟨_, rfl⟩
      have hw : qw D A s.heap (mW g cI cB cZ 0 len tl ts te tk nu er eo hL hS d2_1 bf dr td f_4 ad h2_1 sl sv tr) H locs := by rw [e_f_4]; exact hw
      refine lv_iload_n hx hb dX7_setDuplex_40 rfl (lv_at hl 0 rfl) ?_
      refine q_top (C 11 5) (by first | rfl | omega) ?_
      exact hret (f_4, h2_1, d2_1) H locs 41 ls ⟨(by subst_vars; exact ⟨hM.1, hM.2.1, WC_dx hM.2.2.1 (by omega), RJ_dx2 hM.2.2.2 hB (by omega)⟩), (by assumption), (by assumption)⟩ hw dX7_setDuplex_41

set_option maxHeartbeats 4000000 in
set_option maxRecDepth 100000 in
theorem c_X7_putBack (hM : WM td sa T C) (hdp : 0 ≤ dp ∧ dp ≤ 10) (h0 : C 11 2 ≠ 0) (h1 : 1 ≤ C 11 1) : qM l D (tyG cI cB cZ cS cJ) yX7_putBack cX7_putBack 3 (Option.some FieldType.int) 2 45 [.ref (g 0)] (mW g cI cB cZ th len tl ts te tk nu er eo hL hS dp bf dr td sa ad hi sl sv tr) (fun u : (Int → Int) × (Int → Int) × (Int) => (WM td ((u.1)) T (pbC C)) ∧ (((u.2.1)) = kpH hi dp sa) ∧ (((u.2.2)) = kpD dp)) (fun u => some (.int (iI (T 8 0 - (C 11 0 - C 11 1))))) (fun u => (mW g cI cB cZ 0 len tl ts te tk nu er eo hL hS (u.2.2) bf dr td (u.1) ad (u.2.1) sl sv tr)) := by
  have hsc := hM.sc
  have hlm := hM.lm
  have hB : BB T C := hM.2.2.1.hB hM.1
  have q_s := hM.sh (C 11 0 - C 11 1) (by omega) (by omega)
  refine qM_enterI (val := fun u => iI (T 8 0 - (C 11 0 - C 11 1))) (by decide) (Nat.le_of_ble_eq_true rfl) (fun u hu => ⟨rfl, nar_i _⟩) (fun p e R s m args below meth c Q ls A X hR hA hw hl hret => ?_)
  obtain ⟨hx, hb, hml, hown, hts, hK⟩ := X
  have hl : lv_has ls 3 [(0, .ref (g 0))] := hl
  suffices K : ∀ (H : Heap) (locs : List Loc), qw D A s.heap (mW g cI cB cZ th len tl ts te tk nu er eo hL hS dp bf dr td sa ad hi sl sv tr) H locs → W p l e R s m args below meth c H locs 0 0 Q (F0 m 0 ls []) from K s.heap [] hw
  clear hw
  intro H locs hw
  refine lv_aload_n hx hb dX7_putBack_0 rfl (lv_at hl 0 rfl) ?_
  refine lv_aload_n hx hb dX7_putBack_1 rfl (lv_at hl 0 rfl) ?_
  refine q_get hx hb hts hown hK hw.1 ci_X7 0 rfl 14 (by decide) fl_X7_20 rfl dX7_putBack_2 ?_
  refine q_iconst hx hb dX7_putBack_5 ?_
  refine q_iald hx hb hK hw.1 4 0 rfl rfl (z := 5) (v := (sa 5)) (by omega) rfl dX7_putBack_6 ?_
  refine q_if_ne (tgt := 14) hx hb dX7_putBack_7 (by decide) (by omega) (fun c_7 => ?_) (fun c_7 => absurd c_7 (by omega))
  refine q_iconst hx hb dX7_putBack_14 ?_
  refine q_put hx hb hts hown hK hw ci_X7 0 rfl 0 (by decide) fl_X7_45 rfl rfl rfl (Nat.le_of_ble_eq_true rfl) dX7_putBack_15 (fun H locs hw => ?_)
  have hw : qw D A s.heap (mW g cI cB cZ 0 len tl ts te tk nu er eo hL hS dp bf dr td sa ad hi sl sv tr) H locs := hw
  refine lv_aload_n hx hb dX7_putBack_18 rfl (lv_at hl 0 rfl) ?_
  refine q_get hx hb hts hown hK hw.1 ci_X7 0 rfl 0 (by decide) fl_X7_45 rfl dX7_putBack_19 ?_
  refine q_if_le (tgt := 27) hx hb dX7_putBack_22 (by decide) (by omega) (fun c_22 => ?_) (fun c_22 => absurd c_22 (by omega))
  refine lv_aload_n hx hb dX7_putBack_27 rfl (lv_at hl 0 rfl) ?_
  refine q_callM (As := []) (rest := []) (wr := []) hx hb hml hown hts hK (c_X7_keep (by first | omega | assumption)) yi_X7_keep ml_X7_222 (by rw [hR]; decide) hw hA [0, 1, 2, 3, 4, 5, 6, 7, 8, 9] [] rfl rfl (by decide) (by decide) (by decide) 0 rfl rfl rfl rfl hl.1 (lv_room (Nat.le_of_ble_eq_true rfl)) dX7_putBack_28 ⟨by rw [hR]; exact Nat.zero_le _, by rw [hR]; exact Nat.zero_le _⟩ (fun u_28 H locs hu_28 hw => ?_)
  obtain ⟨h2_1, d2_1⟩ := u_28
  obtain ⟨hu_1_0, hu_1_1⟩ : (h2_1 = kpH hi dp sa) ∧ (d2_1 = kpD dp) := hu_28
  have hw : qw D A s.heap (mW g cI cB cZ 0 len tl ts te tk nu er eo hL hS d2_1 bf dr td sa ad h2_1 sl sv tr) H locs := hw
  refine lv_aload_n hx hb dX7_putBack_31 rfl (lv_at hl 0 rfl) ?_
  refine q_get hx hb hts hown hK hw.1 ci_X7 0 rfl 14 (by decide) fl_X7_20 rfl dX7_putBack_32 ?_
  refine q_bipush hx hb dX7_putBack_35 rfl ?_
  refine lv_dup2_11 hx hb dX7_putBack_37 rfl rfl ?_
  refine q_iald hx hb hK hw.1 4 0 rfl rfl (z := 24) (v := (C 9 7)) (by omega) (by exact hM.2.2.2.a 7 24 (by decide) (by decide) (by decide)) dX7_putBack_38 ?_
  refine lv_aload_n hx hb dX7_putBack_39 rfl (lv_at hl 0 rfl) ?_
  refine q_get hx hb hts hown hK hw.1 ci_X7 0 rfl 14 (by decide) fl_X7_20 rfl dX7_putBack_40 ?_
  refine q_bipush hx hb dX7_putBack_43 rfl ?_
  refine q_iald hx hb hK hw.1 4 0 rfl rfl (z := 7) (v := (C 11 1)) (by omega) (by exact hM.2.2.2.s7) dX7_putBack_45 ?_
  refine q_iadd hx hb dX7_putBack_46 ?_
  refine q_iast hx hb hK hw 4 0 rfl rfl (by omega) dX7_putBack_47 (fun H locs hw => ?_)
  have hw : qw D A s.heap (mW g cI cB cZ 0 len tl ts te tk nu er eo hL hS d2_1 bf dr td (uI sa 24 (C 9 7 + C 11 1)) ad h2_1 sl sv tr) H locs := hw
  obtain ⟨f_1, e_f_1⟩ : ∃ z, z = uI sa 24 (C 9 7 + C 11 1) := ⟨_, rfl⟩
  have hw : qw D A s.heap (mW g cI cB cZ 0 len tl ts te tk nu er eo hL hS d2_1 bf dr td f_1 ad h2_1 sl sv tr) H locs := by rw [e_f_1]; exact hw
  have r_1 : RJ f_1 T (acc C 7 (C 11 1)) (shJ C) := by rw [e_f_1]; exact RJ_a 7 24 hM.2.2.2 hB (by decide) (by decide) (by decide)
  refine lv_aload_n hx hb dX7_putBack_48 rfl (lv_at hl 0 rfl) ?_
  refine q_get hx hb hts hown hK hw.1 ci_X7 0 rfl 14 (by decide) fl_X7_20 rfl dX7_putBack_49 ?_
  refine lv_aload_n hx hb dX7_putBack_52 rfl (lv_at hl 0 rfl) ?_
  refine q_get hx hb hts hown hK hw.1 ci_X7 0 rfl 14 (by decide) fl_X7_20 rfl dX7_putBack_53 ?_
  refine q_sipush hx hb dX7_putBack_56 rfl ?_
  refine q_iald hx hb hK hw.1 4 0 rfl rfl (z := 226) (v := (C 11 0 - C 11 1)) (by omega) (by exact r_1.p0 h1) dX7_putBack_59 ?_
  refine q_callPS (As := [.int (iI (C 11 0 - C 11 1))]) (rest := [.ref (g 4)]) hx hb hml hown hts hK (c_X7_of (C 11 0 - C 11 1)) yt_X7_of ml_X7_167 (by rw [hR]; decide) (show va_P D vwCl [] _ from fun k q h => by simp at h)  rfl rfl hl.1 (lv_room (Nat.le_of_ble_eq_true rfl)) dX7_putBack_60 ⟨by rw [hR]; exact Nat.zero_le _, by rw [hR]; exact Nat.zero_le _⟩ ?_
  refine q_iconst hx hb dX7_putBack_63 ?_
  refine q_iadd hx hb dX7_putBack_64 ?_
  refine lv_dup2_11 hx hb dX7_putBack_65 rfl rfl ?_
  refine q_iald hx hb hK hw.1 4 0 rfl rfl (z := (26 + 4 * (C 11 0 - C 11 1) + 1)) (v := (C 1 (C 11 0 - C 11 1))) (by omega) (by exact (r_1.sh (C 11 0 - C 11 1) (by omega) (by omega)).2.1) dX7_putBack_66 ?_
  refine q_iconst hx hb dX7_putBack_67 ?_
  refine q_idiv hx hb dX7_putBack_68 (by omega) (by omega) (by omega) ?_
  refine q_iast hx hb hK hw 4 0 rfl rfl (by omega) dX7_putBack_69 (fun H locs hw => ?_)
  have hw : qw D A s.heap (mW g cI cB cZ 0 len tl ts te tk nu er eo hL hS d2_1 bf dr td (uI f_1 (26 + 4 * (C 11 0 - C 11 1) + 1) (Int.tdiv (C 1 (C 11 0 - C 11 1)) 2)) ad h2_1 sl sv tr) H locs := hw
  obtain ⟨f_2, e_f_2⟩ : ∃ z, z = uI f_1 (26 + 4 * (C 11 0 - C 11 1) + 1) (Int.tdiv (C 1 (C 11 0 - C 11 1)) 2) := ⟨_, rfl⟩
  have hw : qw D A s.heap (mW g cI cB cZ 0 len tl ts te tk nu er eo hL hS d2_1 bf dr td f_2 ad h2_1 sl sv tr) H locs := by rw [e_f_2]; exact hw
  have r_2 : RJ f_2 T (pb0 C) (shJ C) := by rw [e_f_2]; exact RJ_sw _ _ r_1 hB (by omega) (by omega)
  refine lv_aload_n hx hb dX7_putBack_70 rfl (lv_at hl 0 rfl) ?_
  refine q_get hx hb hts hown hK hw.1 ci_X7 0 rfl 14 (by decide) fl_X7_20 rfl dX7_putBack_71 ?_
  refine q_bipush hx hb dX7_putBack_74 rfl ?_
  refine q_iald hx hb hK hw.1 4 0 rfl rfl (z := 7) (v := (C 11 1)) (by omega) (by exact r_2.s7) dX7_putBack_76 ?_
  refine q_iconst hx hb dX7_putBack_77 ?_
  refine q_isub hx hb dX7_putBack_78 ?_
  refine lv_istore_n (lv' := [(1, .int (iI (C 11 1 - 1))), (0, .ref (g 0))]) hx hb dX7_putBack_79 rfl hl (by decide) rfl (fun ls hl => ?_)
  have loop_80 : ∀ (fu : Nat) (x : Int → Int) (k : Int) (H : Heap) (locs : List Loc) (ls : Array Slot), (k + 1).toNat = fu → (RJ (uI x 7 (k + 1)) T (pbA (pb0 C) (C 11 1 - 1 - k)) (shJ C)) → (-1 ≤ k ∧ k < C 11 1) → qw D A s.heap (mW g cI cB cZ 0 len tl ts te tk nu er eo hL hS d2_1 bf dr td x ad h2_1 sl sv tr) H locs → lv_has ls 3 [(0, .ref (g 0)), (1, .int (iI k))] → W p l e R s m args below meth c H locs 0 0 Q (F0 m 80 ls []) := by
    intro fu
    induction fu using Nat.strongRecOn with
    | ind fu ih =>
    intro x k H locs ls hn_80 h_x h_k hw hl
    refine lv_iload_n hx hb dX7_putBack_80 rfl (lv_at hl 1 rfl) ?_
    refine q_if_lt (tgt := 153) hx hb dX7_putBack_81 (by decide) (by omega) (fun c_81 => ?_) (fun c_81 => ?_)
    · refine lv_aload_n hx hb dX7_putBack_153 rfl (lv_at hl 0 rfl) ?_
      refine q_get hx hb hts hown hK hw.1 ci_X7 0 rfl 14 (by decide) fl_X7_20 rfl dX7_putBack_154 ?_
      refine q_bipush hx hb dX7_putBack_157 rfl ?_
      refine q_iconst hx hb dX7_putBack_159 ?_
      refine q_iast hx hb hK hw 4 0 rfl rfl (by omega) dX7_putBack_160 (fun H locs hw => ?_)
      have hw : qw D A s.heap (mW g cI cB cZ 0 len tl ts te tk nu er eo hL hS d2_1 bf dr td (uI x 7 0) ad h2_1 sl sv tr) H locs := hw
      obtain ⟨f_3, e_f_3⟩ : ∃ z, z = uI x 7 0 := ⟨_, rfl⟩
      have hw : qw D A s.heap (mW g cI cB cZ 0 len tl ts te tk nu er eo hL hS d2_1 bf dr td f_3 ad h2_1 sl sv tr) H locs := by rw [e_f_3]; exact hw
      have r_3 : RJ f_3 T (pbA (pb0 C) (C 11 1)) (shJ C) := by rw [e_f_3]; exact (show RJ (uI x 7 0) T (pbA (pb0 C) (C 11 1)) (shJ C) from by rw [show (0 : Int) = k + 1 by omega]; exact (show C 11 1 - 1 - k = C 11 1 by omega) ▸ h_x)
      have b_1 := (BB_pb (C := pb0 C) hB (show 0 ≤ C 11 1 by omega) (show C 11 1 ≤ C 11 0 by omega) (show C 11 1 ≤ C 11 0 by omega))
      refine lv_aload_n hx hb dX7_putBack_161 rfl (lv_at hl 0 rfl) ?_
      refine q_get hx hb hts hown hK hw.1 ci_X7 0 rfl 14 (by decide) fl_X7_20 rfl dX7_putBack_162 ?_
      refine q_iconst hx hb dX7_putBack_165 ?_
      refine q_iconst hx hb dX7_putBack_166 ?_
      refine q_iast hx hb hK hw 4 0 rfl rfl (by omega) dX7_putBack_167 (fun H locs hw => ?_)
      have hw : qw D A s.heap (mW g cI cB cZ 0 len tl ts te tk nu er eo hL hS d2_1 bf dr td (uI f_3 5 0) ad h2_1 sl sv tr) H locs := hw
      obtain ⟨f_4, e_f_4⟩ : ∃ z, z = uI f_3 5 0 := ⟨_, rfl⟩
      have hw : qw D A s.heap (mW g cI cB cZ 0 len tl ts te tk nu er eo hL hS d2_1 bf dr td f_4 ad h2_1 sl sv tr) H locs := by rw [e_f_4]; exact hw
      have r_4 : RJ f_4 T (pbC C) (shJ C) := by rw [e_f_4]; exact RJ_re r_3 b_1
      have b_2 := (BB_re (v := 0) b_1)
      refine lv_aload_n hx hb dX7_putBack_168 rfl (lv_at hl 0 rfl) ?_
      refine q_get hx hb hts hown hK hw.1 ci_X7 0 rfl 14 (by decide) fl_X7_20 rfl dX7_putBack_169 ?_
      refine q_bipush hx hb dX7_putBack_172 rfl ?_
      refine q_iald hx hb hK hw.1 4 0 rfl rfl (z := 6) (v := (T 8 0 - (C 11 0 - C 11 1))) (by omega) (by exact r_4.s6) dX7_putBack_174 ?_
      exact hret (f_4, h2_1, d2_1) H locs 175 ls ⟨(by exact ⟨hM.1, hM.2.1, WC_pbC hM.2.2.1 (Or.inl (by omega)), r_4⟩), (by assumption), (by assumption)⟩ hw dX7_putBack_175
    · refine lv_aload_n hx hb dX7_putBack_84 rfl (lv_at hl 0 rfl) ?_
      refine q_get hx hb hts hown hK hw.1 ci_X7 0 rfl 14 (by decide) fl_X7_20 rfl dX7_putBack_85 ?_
      refine q_sipush hx hb dX7_putBack_88 rfl ?_
      refine lv_iload_n hx hb dX7_putBack_91 rfl (lv_at hl 1 rfl) ?_
      refine q_iadd hx hb dX7_putBack_92 ?_
      refine q_iald hx hb hK hw.1 4 0 rfl rfl (z := (226 + k)) (v := (C 11 0 - C 11 1 + k)) (by omega) (by have z := h_x.2.2.2.2.2.2.1 k (by omega) (by show k < C 11 1 - (C 11 1 - 1 - k); omega); rw [uI_n _ _ _ (by omega)] at z; rw [z]; show C 11 0 - (C 11 1 - 1 - k) - (C 11 1 - (C 11 1 - 1 - k)) + k = C 11 0 - C 11 1 + k; omega) dX7_putBack_93 ?_
      refine lv_istore_n (lv' := [(2, .int (iI (C 11 0 - C 11 1 + k))), (0, .ref (g 0)), (1, .int (iI k))]) hx hb dX7_putBack_94 rfl hl (by decide) rfl (fun ls hl => ?_)
      refine lv_aload_n hx hb dX7_putBack_95 rfl (lv_at hl 1 rfl) ?_
      refine q_get hx hb hts hown hK hw.1 ci_X7 0 rfl 14 (by decide) fl_X7_20 rfl dX7_putBack_96 ?_
      refine lv_iload_n hx hb dX7_putBack_99 rfl (lv_at hl 0 rfl) ?_
      refine q_callPS (As := [.int (iI (C 11 0 - C 11 1 + k))]) (rest := [.ref (g 4)]) hx hb hml hown hts hK (c_X7_of (C 11 0 - C 11 1 + k)) yt_X7_of ml_X7_167 (by rw [hR]; decide) (show va_P D vwCl [] _ from fun k q h => by simp at h)  rfl rfl hl.1 (lv_room (Nat.le_of_ble_eq_true rfl)) dX7_putBack_100 ⟨by rw [hR]; exact Nat.zero_le _, by rw [hR]; exact Nat.zero_le _⟩ ?_
      refine q_iconst hx hb dX7_putBack_103 ?_
      refine q_iadd hx hb dX7_putBack_104 ?_
      refine q_top (26 + 4 * (C 11 0 - C 11 1 + k)) (Int.add_zero _) ?_
      refine q_iconst hx hb dX7_putBack_105 ?_
      refine q_iast hx hb hK hw 4 0 rfl rfl (by omega) dX7_putBack_106 (fun H locs hw => ?_)
      have hw : qw D A s.heap (mW g cI cB cZ 0 len tl ts te tk nu er eo hL hS d2_1 bf dr td (uI x (26 + 4 * (C 11 0 - C 11 1 + k)) 0) ad h2_1 sl sv tr) H locs := hw
      obtain ⟨f_5, e_f_5⟩ : ∃ z, z = uI x (26 + 4 * (C 11 0 - C 11 1 + k)) 0 := ⟨_, rfl⟩
      have hw : qw D A s.heap (mW g cI cB cZ 0 len tl ts te tk nu er eo hL hS d2_1 bf dr td f_5 ad h2_1 sl sv tr) H locs := by rw [e_f_5]; exact hw
      refine lv_aload_n hx hb dX7_putBack_107 rfl (lv_at hl 1 rfl) ?_
      refine q_get hx hb hts hown hK hw.1 ci_X7 0 rfl 14 (by decide) fl_X7_20 rfl dX7_putBack_108 ?_
      refine lv_iload_n hx hb dX7_putBack_111 rfl (lv_at hl 0 rfl) ?_
      refine q_callPS (As := [.int (iI (C 11 0 - C 11 1 + k))]) (rest := [.ref (g 4)]) hx hb hml hown hts hK (c_X7_of (C 11 0 - C 11 1 + k)) yt_X7_of ml_X7_167 (by rw [hR]; decide) (show va_P D vwCl [] _ from fun k q h => by simp at h)  rfl rfl hl.1 (lv_room (Nat.le_of_ble_eq_true rfl)) dX7_putBack_112 ⟨by rw [hR]; exact Nat.zero_le _, by rw [hR]; exact Nat.zero_le _⟩ ?_
      refine q_iconst hx hb dX7_putBack_115 ?_
      refine q_iadd hx hb dX7_putBack_116 ?_
      refine q_iconst hx hb dX7_putBack_117 ?_
      refine q_iast hx hb hK hw 4 0 rfl rfl (by omega) dX7_putBack_118 (fun H locs hw => ?_)
      have hw : qw D A s.heap (mW g cI cB cZ 0 len tl ts te tk nu er eo hL hS d2_1 bf dr td (uI f_5 (26 + 4 * (C 11 0 - C 11 1 + k) + 2) (-1)) ad h2_1 sl sv tr) H locs := hw
      obtain ⟨f_6, e_f_6⟩ : ∃ z, z = uI f_5 (26 + 4 * (C 11 0 - C 11 1 + k) + 2) (-1) := ⟨_, rfl⟩
      have hw : qw D A s.heap (mW g cI cB cZ 0 len tl ts te tk nu er eo hL hS d2_1 bf dr td f_6 ad h2_1 sl sv tr) H locs := by rw [e_f_6]; exact hw
      refine lv_aload_n hx hb dX7_putBack_119 rfl (lv_at hl 1 rfl) ?_
      refine q_get hx hb hts hown hK hw.1 ci_X7 0 rfl 14 (by decide) fl_X7_20 rfl dX7_putBack_120 ?_
      refine q_sipush hx hb dX7_putBack_123 rfl ?_
      refine lv_aload_n hx hb dX7_putBack_126 rfl (lv_at hl 1 rfl) ?_
      refine q_get hx hb hts hown hK hw.1 ci_X7 0 rfl 14 (by decide) fl_X7_20 rfl dX7_putBack_127 ?_
      refine q_bipush hx hb dX7_putBack_130 rfl ?_
      refine q_iald hx hb hK hw.1 4 0 rfl rfl (z := 6) (v := (T 8 0 - (C 11 0 - (C 11 1 - 1 - k)))) (by omega) (by rw [e_f_6, uI_n _ _ _ (by omega), e_f_5, uI_n _ _ _ (by omega)]; have z := h_x.s6; rw [uI_n _ _ _ (by omega)] at z; exact z) dX7_putBack_132 ?_
      refine q_iadd hx hb dX7_putBack_133 ?_
      refine lv_iload_n hx hb dX7_putBack_134 rfl (lv_at hl 0 rfl) ?_
      refine q_iast hx hb hK hw 4 0 rfl rfl (by omega) dX7_putBack_135 (fun H locs hw => ?_)
      have hw : qw D A s.heap (mW g cI cB cZ 0 len tl ts te tk nu er eo hL hS d2_1 bf dr td (uI f_6 (186 + (T 8 0 - (C 11 0 - (C 11 1 - 1 - k)))) (C 11 0 - C 11 1 + k)) ad h2_1 sl sv tr) H locs := hw
      obtain ⟨f_7, e_f_7⟩ : ∃ z, z = uI f_6 (186 + (T 8 0 - (C 11 0 - (C 11 1 - 1 - k)))) (C 11 0 - C 11 1 + k) := ⟨_, rfl⟩
      have hw : qw D A s.heap (mW g cI cB cZ 0 len tl ts te tk nu er eo hL hS d2_1 bf dr td f_7 ad h2_1 sl sv tr) H locs := by rw [e_f_7]; exact hw
      refine lv_aload_n hx hb dX7_putBack_136 rfl (lv_at hl 1 rfl) ?_
      refine q_get hx hb hts hown hK hw.1 ci_X7 0 rfl 14 (by decide) fl_X7_20 rfl dX7_putBack_137 ?_
      refine q_bipush hx hb dX7_putBack_140 rfl ?_
      refine lv_dup2_11 hx hb dX7_putBack_142 rfl rfl ?_
      refine q_iald hx hb hK hw.1 4 0 rfl rfl (z := 6) (v := (T 8 0 - (C 11 0 - (C 11 1 - 1 - k)))) (by omega) (by rw [e_f_7, uI_n _ _ _ (by omega), e_f_6, uI_n _ _ _ (by omega), e_f_5, uI_n _ _ _ (by omega)]; have z := h_x.s6; rw [uI_n _ _ _ (by omega)] at z; exact z) dX7_putBack_143 ?_
      refine q_iconst hx hb dX7_putBack_144 ?_
      refine q_iadd hx hb dX7_putBack_145 ?_
      refine q_iast hx hb hK hw 4 0 rfl rfl (by omega) dX7_putBack_146 (fun H locs hw => ?_)
      have hw : qw D A s.heap (mW g cI cB cZ 0 len tl ts te tk nu er eo hL hS d2_1 bf dr td (uI f_7 6 (T 8 0 - (C 11 0 - (C 11 1 - 1 - k)) + 1)) ad h2_1 sl sv tr) H locs := hw
      obtain ⟨f_8, e_f_8⟩ : ∃ z, z = uI f_7 6 (T 8 0 - (C 11 0 - (C 11 1 - 1 - k)) + 1) := ⟨_, rfl⟩
      have hw : qw D A s.heap (mW g cI cB cZ 0 len tl ts te tk nu er eo hL hS d2_1 bf dr td f_8 ad h2_1 sl sv tr) H locs := by rw [e_f_8]; exact hw
      refine lv_iinc (v := iI (k + (-1))) (lv' := [(1, .int (iI (k + (-1)))), (2, .int (iI (C 11 0 - C 11 1 + k))), (0, .ref (g 0))]) hx hb dX7_putBack_147 hl (k := 2) rfl (iI_add _ _) (by decide) rfl (fun ls hl => ?_)
      refine lv_goto (tgt := 80) hx hb dX7_putBack_150 (by decide) ?_
      exact ih _ (by omega) (f_8) (k + (-1)) H locs ls rfl (by rw [e_f_8, e_f_7, e_f_6, e_f_5]; exact pb_s (C := pb0 C) h_x hB ⟨(show 0 ≤ C 11 1 - 1 - k by omega), (show C 11 1 - 1 - k < C 11 1 by omega), (show C 11 1 ≤ C 11 0 by omega), (show C 11 0 ≤ T 8 0 by omega)⟩ (show k + 1 = C 11 1 - (C 11 1 - 1 - k) by omega) (show C 11 0 - C 11 1 + k = C 11 0 - (C 11 1 - 1 - k) - 1 by omega) rfl rfl rfl rfl (by omega) (by omega)) (by first | omega | assumption | rfl) hw (lv_sub hl [2, 0] rfl)
  exact loop_80 _ (f_2) (C 11 1 - 1) H locs ls rfl (by exact pb_0 (C := pb0 C) r_2 (by omega) (show C 11 1 - 1 + 1 = C 11 1 by omega)) (by first | omega | assumption | rfl) hw (lv_sub hl [1, 0] rfl)

set_option maxHeartbeats 4000000 in
set_option maxRecDepth 100000 in
theorem c_X7_undo_no (h0 : dp = 0) : qM l D (tyG cI cB cZ cS cJ) yX7_undo cX7_undo 1 (Option.some FieldType.int) 0 0 [.ref (g 0)] (mW g cI cB cZ th len tl ts te tk nu er eo hL hS dp bf dr td sa ad hi sl sv tr) (fun u : Unit => True) (fun u => some (.int (iI (-1)))) (fun u => (mW g cI cB cZ 0 len tl ts te tk nu er eo hL hS dp bf dr td sa ad hi sl sv tr)) := by
  refine qM_enterI (val := fun u => iI (-1)) (by decide) (Nat.le_of_ble_eq_true rfl) (fun u hu => ⟨rfl, nar_i _⟩) (fun p e R s m args below meth c Q ls A X hR hA hw hl hret => ?_)
  obtain ⟨hx, hb, hml, hown, hts, hK⟩ := X
  have hl : lv_has ls 1 [(0, .ref (g 0))] := hl
  suffices K : ∀ (H : Heap) (locs : List Loc), qw D A s.heap (mW g cI cB cZ th len tl ts te tk nu er eo hL hS dp bf dr td sa ad hi sl sv tr) H locs → W p l e R s m args below meth c H locs 0 0 Q (F0 m 0 ls []) from K s.heap [] hw
  clear hw
  intro H locs hw
  refine lv_aload_n hx hb dX7_undo_0 rfl (lv_at hl 0 rfl) ?_
  refine q_iconst hx hb dX7_undo_1 ?_
  refine q_put hx hb hts hown hK hw ci_X7 0 rfl 0 (by decide) fl_X7_45 rfl rfl rfl (Nat.le_of_ble_eq_true rfl) dX7_undo_2 (fun H locs hw => ?_)
  have hw : qw D A s.heap (mW g cI cB cZ 0 len tl ts te tk nu er eo hL hS dp bf dr td sa ad hi sl sv tr) H locs := hw
  refine lv_aload_n hx hb dX7_undo_5 rfl (lv_at hl 0 rfl) ?_
  refine q_get hx hb hts hown hK hw.1 ci_X7 0 rfl 17 (by decide) fl_X7_173 rfl dX7_undo_6 ?_
  refine q_if_ne (tgt := 14) hx hb dX7_undo_9 (by decide) (by omega) (fun c_9 => absurd c_9 (by omega)) (fun c_9 => ?_)
  refine q_iconst hx hb dX7_undo_12 ?_
  exact hret () H locs 13 ls trivial hw dX7_undo_13

set_option maxHeartbeats 4000000 in
set_option maxRecDepth 100000 in
theorem c_X7_undo (hdp : 0 ≤ dp ∧ dp ≤ 10) (h0 : dp ≠ 0) : qM l D (tyG cI cB cZ cS cJ) yX7_undo cX7_undo 1 (Option.some FieldType.int) 1 24 [.ref (g 0)] (mW g cI cB cZ th len tl ts te tk nu er eo hL hS dp bf dr td sa ad hi sl sv tr) (fun u : (Int → Int) => (u = cpk sa 0 hi (dp - 1) 706)) (fun u => some (.int (iI (dp - 1)))) (fun u => (mW g cI cB cZ 0 len tl ts te tk nu er eo hL hS (dp - 1) bf dr td u ad hi sl sv tr)) := by
  refine qM_enterI (val := fun u => iI (dp - 1)) (by decide) (Nat.le_of_ble_eq_true rfl) (fun u hu => ⟨rfl, nar_i _⟩) (fun p e R s m args below meth c Q ls A X hR hA hw hl hret => ?_)
  obtain ⟨hx, hb, hml, hown, hts, hK⟩ := X
  have hl : lv_has ls 1 [(0, .ref (g 0))] := hl
  suffices K : ∀ (H : Heap) (locs : List Loc), qw D A s.heap (mW g cI cB cZ th len tl ts te tk nu er eo hL hS dp bf dr td sa ad hi sl sv tr) H locs → W p l e R s m args below meth c H locs 0 0 Q (F0 m 0 ls []) from K s.heap [] hw
  clear hw
  intro H locs hw
  refine lv_aload_n hx hb dX7_undo_0 rfl (lv_at hl 0 rfl) ?_
  refine q_iconst hx hb dX7_undo_1 ?_
  refine q_put hx hb hts hown hK hw ci_X7 0 rfl 0 (by decide) fl_X7_45 rfl rfl rfl (Nat.le_of_ble_eq_true rfl) dX7_undo_2 (fun H locs hw => ?_)
  have hw : qw D A s.heap (mW g cI cB cZ 0 len tl ts te tk nu er eo hL hS dp bf dr td sa ad hi sl sv tr) H locs := hw
  refine lv_aload_n hx hb dX7_undo_5 rfl (lv_at hl 0 rfl) ?_
  refine q_get hx hb hts hown hK hw.1 ci_X7 0 rfl 17 (by decide) fl_X7_173 rfl dX7_undo_6 ?_
  refine q_if_ne (tgt := 14) hx hb dX7_undo_9 (by decide) (by omega) (fun c_9 => ?_) (fun c_9 => absurd c_9 (by omega))
  refine lv_aload_n hx hb dX7_undo_14 rfl (lv_at hl 0 rfl) ?_
  refine lv_dup hx hb dX7_undo_15 rfl ?_
  refine q_get hx hb hts hown hK hw.1 ci_X7 0 rfl 17 (by decide) fl_X7_173 rfl dX7_undo_16 ?_
  refine q_iconst hx hb dX7_undo_19 ?_
  refine q_isub hx hb dX7_undo_20 ?_
  refine q_put hx hb hts hown hK hw ci_X7 0 rfl 17 (by decide) fl_X7_173 rfl rfl rfl (Nat.le_of_ble_eq_true rfl) dX7_undo_21 (fun H locs hw => ?_)
  have hw : qw D A s.heap (mW g cI cB cZ 0 len tl ts te tk nu er eo hL hS (dp - 1) bf dr td sa ad hi sl sv tr) H locs := hw
  refine lv_aload_n hx hb dX7_undo_24 rfl (lv_at hl 0 rfl) ?_
  refine q_get hx hb hts hown hK hw.1 ci_X7 0 rfl 16 (by decide) fl_X7_26 rfl dX7_undo_25 ?_
  refine lv_aload_n hx hb dX7_undo_28 rfl (lv_at hl 0 rfl) ?_
  refine q_get hx hb hts hown hK hw.1 ci_X7 0 rfl 17 (by decide) fl_X7_173 rfl dX7_undo_29 ?_
  refine lv_aload_n hx hb dX7_undo_32 rfl (lv_at hl 0 rfl) ?_
  refine q_get hx hb hts hown hK hw.1 ci_X7 0 rfl 14 (by decide) fl_X7_20 rfl dX7_undo_33 ?_
  refine q_iconst hx hb dX7_undo_36 ?_
  refine q_callMS (As := [.ref (g 6), .int (iI (dp - 1)), .ref (g 4), .int (iI 0)]) (rest := []) (wr := [((g 0), .inr (7, [.int (iI 0), .ref (g 1), .int (iI len), .int (iI tl), .int (iI ts), .int (iI te), .int (iI tk), .int (iI nu), .int (iI er), .int (iI eo), .ref (g 2), .ref (g 3), .int (iI hL), .int (iI hS), .ref (g 4), .ref (g 5), .ref (g 6), .int (iI (dp - 1)), .ref (g 7), .ref (g 8), .ref (g 9)])), ((g 1), .inl (cB, 700, .inl (ai bf))), ((g 2), .inl (cI, 288, .inl (ai dr))), ((g 3), .inl (cI, 288, .inl (ai td))), ((g 5), .inl (cI, 706, .inl (ai ad))), ((g 7), .inl (cI, 1412, .inl (ai sl))), ((g 8), .inl (cZ, 2, .inl (ai sv))), ((g 9), .inl (cI, 5, .inl (ai tr)))]) hx hb hml hown hts hK (c_X7_copy (dp - 1) (0) (by first | omega | assumption) (by first | omega | assumption)) yt_X7_copy ml_X7_176 (by rw [hR]; decide) hw hA [6, 4] [0, 1, 2, 3, 5, 7, 8, 9] rfl rfl (by decide) (by decide) (by decide)  rfl rfl hl.1 (lv_room (Nat.le_of_ble_eq_true rfl)) dX7_undo_37 ⟨by rw [hR]; exact Nat.zero_le _, by rw [hR]; exact Nat.zero_le _⟩ (fun u_37 H locs hu_37 hw => ?_)
  have hw : qw D A s.heap [((g 0), .inr (7, [.int (iI 0), .ref (g 1), .int (iI len), .int (iI tl), .int (iI ts), .int (iI te), .int (iI tk), .int (iI nu), .int (iI er), .int (iI eo), .ref (g 2), .ref (g 3), .int (iI hL), .int (iI hS), .ref (g 4), .ref (g 5), .ref (g 6), .int (iI (dp - 1)), .ref (g 7), .ref (g 8), .ref (g 9)])), ((g 1), .inl (cB, 700, .inl (ai bf))), ((g 2), .inl (cI, 288, .inl (ai dr))), ((g 3), .inl (cI, 288, .inl (ai td))), ((g 5), .inl (cI, 706, .inl (ai ad))), ((g 7), .inl (cI, 1412, .inl (ai sl))), ((g 8), .inl (cZ, 2, .inl (ai sv))), ((g 9), .inl (cI, 5, .inl (ai tr))), ((g 6), .inl (cI, 7060, .inl (ai hi))), ((g 4), .inl (cI, 706, .inl (ai (cpk sa 0 hi (dp - 1) 706))))] H locs := hw
  refine lv_aload_n hx hb dX7_undo_40 rfl (lv_at hl 0 rfl) ?_
  refine q_get hx hb hts hown hK hw.1 ci_X7 0 rfl 17 (by decide) fl_X7_173 rfl dX7_undo_41 ?_
  exact hret (cpk sa 0 hi (dp - 1) 706) H locs 44 ls (by subst_vars; rfl) (hw.sub [0, 1, 2, 3, 9, 4, 8, 5, 6, 7] (by decide) rfl) dX7_undo_44

set_option maxHeartbeats 4000000 in
set_option maxRecDepth 100000 in
theorem c_X7_saveSnapshot_no (k : Int) (hk : rg k) (h0 : k < 0 ∨ 1 < k) : qM l D (tyG cI cB cZ cS cJ) yX7_saveSnapshot cX7_saveSnapshot 2 (Option.some FieldType.boolean) 1 22 [.ref (g 0), .int (iI k)] (mW g cI cB cZ th len tl ts te tk nu er eo hL hS dp bf dr td sa ad hi sl sv tr) (fun u : Unit => True) (fun u => some (.int (iI 0))) (fun u => (mW g cI cB cZ 0 len tl ts te tk nu er eo hL hS dp bf dr td sa ad hi sl sv tr)) := by
  refine qM_enterI (val := fun u => iI 0) (by decide) (Nat.le_of_ble_eq_true rfl) (fun u hu => ⟨rfl, nar_z (by omega)⟩) (fun p e R s m args below meth c Q ls A X hR hA hw hl hret => ?_)
  obtain ⟨hx, hb, hml, hown, hts, hK⟩ := X
  have hl : lv_has ls 2 [(0, .ref (g 0)), (1, .int (iI k))] := hl
  suffices K : ∀ (H : Heap) (locs : List Loc), qw D A s.heap (mW g cI cB cZ th len tl ts te tk nu er eo hL hS dp bf dr td sa ad hi sl sv tr) H locs → W p l e R s m args below meth c H locs 0 0 Q (F0 m 0 ls []) from K s.heap [] hw
  clear hw
  intro H locs hw
  refine lv_aload_n hx hb dX7_saveSnapshot_0 rfl (lv_at hl 0 rfl) ?_
  refine q_iconst hx hb dX7_saveSnapshot_1 ?_
  refine q_put hx hb hts hown hK hw ci_X7 0 rfl 0 (by decide) fl_X7_45 rfl rfl rfl (Nat.le_of_ble_eq_true rfl) dX7_saveSnapshot_2 (fun H locs hw => ?_)
  have hw : qw D A s.heap (mW g cI cB cZ 0 len tl ts te tk nu er eo hL hS dp bf dr td sa ad hi sl sv tr) H locs := hw
  refine lv_iload_n hx hb dX7_saveSnapshot_5 rfl (lv_at hl 1 rfl) ?_
  refine q_iconst hx hb dX7_saveSnapshot_6 ?_
  refine q_iconst hx hb dX7_saveSnapshot_7 ?_
  refine q_callPS (As := [.int (iI k), .int (iI 0), .int (iI 1)]) (rest := []) hx hb hml hown hts hK (c_X7_within (k) (0) (1) (by first | omega | assumption) (by first | omega | assumption) (by first | omega | assumption)) yt_X7_within ml_X7_72 (by rw [hR]; decide) (show va_P D vwCl [] _ from fun k q h => by simp at h)  rfl rfl hl.1 (lv_room (Nat.le_of_ble_eq_true rfl)) dX7_saveSnapshot_8 ⟨by rw [hR]; exact Nat.zero_le _, by rw [hR]; exact Nat.zero_le _⟩ ?_
  refine q_ifb_ne (tgt := 16) hx hb dX7_saveSnapshot_11 (by decide) (fun c_11 => absurd c_11 (by omega)) (fun c_11 => ?_)
  refine q_iconst hx hb dX7_saveSnapshot_14 ?_
  exact hret () H locs 15 ls trivial hw dX7_saveSnapshot_15

set_option maxHeartbeats 4000000 in
set_option maxRecDepth 100000 in
theorem c_X7_saveSnapshot (k : Int) (h0 : 0 ≤ k ∧ k ≤ 1) : qM l D (tyG cI cB cZ cS cJ) yX7_saveSnapshot cX7_saveSnapshot 2 (Option.some FieldType.boolean) 1 24 [.ref (g 0), .int (iI k)] (mW g cI cB cZ th len tl ts te tk nu er eo hL hS dp bf dr td sa ad hi sl sv tr) (fun u : (Int → Int) × (Int → Int) => (((u.1)) = cpk sl k sa 0 706) ∧ (((u.2)) = uI sv k 1)) (fun u => some (.int (iI 1))) (fun u => (mW g cI cB cZ 0 len tl ts te tk nu er eo hL hS dp bf dr td sa ad hi (u.1) (u.2) tr)) := by
  refine qM_enterI (val := fun u => iI 1) (by decide) (Nat.le_of_ble_eq_true rfl) (fun u hu => ⟨rfl, nar_z (by omega)⟩) (fun p e R s m args below meth c Q ls A X hR hA hw hl hret => ?_)
  obtain ⟨hx, hb, hml, hown, hts, hK⟩ := X
  have hl : lv_has ls 2 [(0, .ref (g 0)), (1, .int (iI k))] := hl
  suffices K : ∀ (H : Heap) (locs : List Loc), qw D A s.heap (mW g cI cB cZ th len tl ts te tk nu er eo hL hS dp bf dr td sa ad hi sl sv tr) H locs → W p l e R s m args below meth c H locs 0 0 Q (F0 m 0 ls []) from K s.heap [] hw
  clear hw
  intro H locs hw
  refine lv_aload_n hx hb dX7_saveSnapshot_0 rfl (lv_at hl 0 rfl) ?_
  refine q_iconst hx hb dX7_saveSnapshot_1 ?_
  refine q_put hx hb hts hown hK hw ci_X7 0 rfl 0 (by decide) fl_X7_45 rfl rfl rfl (Nat.le_of_ble_eq_true rfl) dX7_saveSnapshot_2 (fun H locs hw => ?_)
  have hw : qw D A s.heap (mW g cI cB cZ 0 len tl ts te tk nu er eo hL hS dp bf dr td sa ad hi sl sv tr) H locs := hw
  refine lv_iload_n hx hb dX7_saveSnapshot_5 rfl (lv_at hl 1 rfl) ?_
  refine q_iconst hx hb dX7_saveSnapshot_6 ?_
  refine q_iconst hx hb dX7_saveSnapshot_7 ?_
  refine q_callPS (As := [.int (iI k), .int (iI 0), .int (iI 1)]) (rest := []) hx hb hml hown hts hK (c_X7_within (k) (0) (1) (by first | omega | assumption) (by first | omega | assumption) (by first | omega | assumption)) yt_X7_within ml_X7_72 (by rw [hR]; decide) (show va_P D vwCl [] _ from fun k q h => by simp at h)  rfl rfl hl.1 (lv_room (Nat.le_of_ble_eq_true rfl)) dX7_saveSnapshot_8 ⟨by rw [hR]; exact Nat.zero_le _, by rw [hR]; exact Nat.zero_le _⟩ ?_
  refine q_ifb_ne (tgt := 16) hx hb dX7_saveSnapshot_11 (by decide) (fun c_11 => ?_) (fun c_11 => absurd c_11 (by omega))
  refine lv_aload_n hx hb dX7_saveSnapshot_16 rfl (lv_at hl 0 rfl) ?_
  refine q_get hx hb hts hown hK hw.1 ci_X7 0 rfl 14 (by decide) fl_X7_20 rfl dX7_saveSnapshot_17 ?_
  refine q_iconst hx hb dX7_saveSnapshot_20 ?_
  refine lv_aload_n hx hb dX7_saveSnapshot_21 rfl (lv_at hl 0 rfl) ?_
  refine q_get hx hb hts hown hK hw.1 ci_X7 0 rfl 18 (by decide) fl_X7_29 rfl dX7_saveSnapshot_22 ?_
  refine lv_iload_n hx hb dX7_saveSnapshot_25 rfl (lv_at hl 1 rfl) ?_
  refine q_callMS (As := [.ref (g 4), .int (iI 0), .ref (g 7), .int (iI k)]) (rest := []) (wr := [((g 0), .inr (7, [.int (iI 0), .ref (g 1), .int (iI len), .int (iI tl), .int (iI ts), .int (iI te), .int (iI tk), .int (iI nu), .int (iI er), .int (iI eo), .ref (g 2), .ref (g 3), .int (iI hL), .int (iI hS), .ref (g 4), .ref (g 5), .ref (g 6), .int (iI dp), .ref (g 7), .ref (g 8), .ref (g 9)])), ((g 1), .inl (cB, 700, .inl (ai bf))), ((g 2), .inl (cI, 288, .inl (ai dr))), ((g 3), .inl (cI, 288, .inl (ai td))), ((g 5), .inl (cI, 706, .inl (ai ad))), ((g 6), .inl (cI, 7060, .inl (ai hi))), ((g 8), .inl (cZ, 2, .inl (ai sv))), ((g 9), .inl (cI, 5, .inl (ai tr)))]) hx hb hml hown hts hK (c_X7_copy (0) (k) (by first | omega | assumption) (by first | omega | assumption)) yt_X7_copy ml_X7_176 (by rw [hR]; decide) hw hA [4, 7] [0, 1, 2, 3, 5, 6, 8, 9] rfl rfl (by decide) (by decide) (by decide)  rfl rfl hl.1 (lv_room (Nat.le_of_ble_eq_true rfl)) dX7_saveSnapshot_26 ⟨by rw [hR]; exact Nat.zero_le _, by rw [hR]; exact Nat.zero_le _⟩ (fun u_26 H locs hu_26 hw => ?_)
  have hw : qw D A s.heap [((g 0), .inr (7, [.int (iI 0), .ref (g 1), .int (iI len), .int (iI tl), .int (iI ts), .int (iI te), .int (iI tk), .int (iI nu), .int (iI er), .int (iI eo), .ref (g 2), .ref (g 3), .int (iI hL), .int (iI hS), .ref (g 4), .ref (g 5), .ref (g 6), .int (iI dp), .ref (g 7), .ref (g 8), .ref (g 9)])), ((g 1), .inl (cB, 700, .inl (ai bf))), ((g 2), .inl (cI, 288, .inl (ai dr))), ((g 3), .inl (cI, 288, .inl (ai td))), ((g 5), .inl (cI, 706, .inl (ai ad))), ((g 6), .inl (cI, 7060, .inl (ai hi))), ((g 8), .inl (cZ, 2, .inl (ai sv))), ((g 9), .inl (cI, 5, .inl (ai tr))), ((g 4), .inl (cI, 706, .inl (ai sa))), ((g 7), .inl (cI, 1412, .inl (ai (cpk sl k sa 0 706))))] H locs := hw
  refine lv_aload_n hx hb dX7_saveSnapshot_29 rfl (lv_at hl 0 rfl) ?_
  refine q_get hx hb hts hown hK hw.1 ci_X7 0 rfl 19 (by decide) fl_X7_32 rfl dX7_saveSnapshot_30 ?_
  refine lv_iload_n hx hb dX7_saveSnapshot_33 rfl (lv_at hl 1 rfl) ?_
  refine q_iconst hx hb dX7_saveSnapshot_34 ?_
  refine q_zast hx hb hK hw 6 2 rfl rfl (by first | exact Or.inl rfl | exact Or.inr rfl | omega) (by omega) dX7_saveSnapshot_35 (fun H locs hw => ?_)
  have hw : qw D A s.heap [((g 0), .inr (7, [.int (iI 0), .ref (g 1), .int (iI len), .int (iI tl), .int (iI ts), .int (iI te), .int (iI tk), .int (iI nu), .int (iI er), .int (iI eo), .ref (g 2), .ref (g 3), .int (iI hL), .int (iI hS), .ref (g 4), .ref (g 5), .ref (g 6), .int (iI dp), .ref (g 7), .ref (g 8), .ref (g 9)])), ((g 1), .inl (cB, 700, .inl (ai bf))), ((g 2), .inl (cI, 288, .inl (ai dr))), ((g 3), .inl (cI, 288, .inl (ai td))), ((g 5), .inl (cI, 706, .inl (ai ad))), ((g 6), .inl (cI, 7060, .inl (ai hi))), ((g 8), .inl (cZ, 2, .inl (ai (uI sv k 1)))), ((g 9), .inl (cI, 5, .inl (ai tr))), ((g 4), .inl (cI, 706, .inl (ai sa))), ((g 7), .inl (cI, 1412, .inl (ai (cpk sl k sa 0 706))))] H locs := hw
  obtain ⟨f_1, e_f_1⟩ : ∃ z, z = uI sv k 1 := ⟨_, rfl⟩
  have hw : qw D A s.heap [((g 0), .inr (7, [.int (iI 0), .ref (g 1), .int (iI len), .int (iI tl), .int (iI ts), .int (iI te), .int (iI tk), .int (iI nu), .int (iI er), .int (iI eo), .ref (g 2), .ref (g 3), .int (iI hL), .int (iI hS), .ref (g 4), .ref (g 5), .ref (g 6), .int (iI dp), .ref (g 7), .ref (g 8), .ref (g 9)])), ((g 1), .inl (cB, 700, .inl (ai bf))), ((g 2), .inl (cI, 288, .inl (ai dr))), ((g 3), .inl (cI, 288, .inl (ai td))), ((g 5), .inl (cI, 706, .inl (ai ad))), ((g 6), .inl (cI, 7060, .inl (ai hi))), ((g 8), .inl (cZ, 2, .inl (ai f_1))), ((g 9), .inl (cI, 5, .inl (ai tr))), ((g 4), .inl (cI, 706, .inl (ai sa))), ((g 7), .inl (cI, 1412, .inl (ai (cpk sl k sa 0 706))))] H locs := by rw [e_f_1]; exact hw
  refine q_iconst hx hb dX7_saveSnapshot_36 ?_
  exact hret (cpk sl k sa 0 706, f_1) H locs 37 ls ⟨(by subst_vars; rfl), (by subst_vars; rfl)⟩ (hw.sub [0, 1, 2, 3, 8, 4, 5, 9, 6, 7] (by decide) rfl) dX7_saveSnapshot_37

set_option maxHeartbeats 4000000 in
set_option maxRecDepth 100000 in
theorem c_X7_restoreSnapshot_no (k : Int) (hk : rg k) (h0 : k < 0 ∨ 1 < k ∨ (0 ≤ k ∧ k ≤ 1 ∧ sv k = 0)) : qM l D (tyG cI cB cZ cS cJ) yX7_restoreSnapshot cX7_restoreSnapshot 2 (Option.some FieldType.boolean) 1 22 [.ref (g 0), .int (iI k)] (mW g cI cB cZ th len tl ts te tk nu er eo hL hS dp bf dr td sa ad hi sl sv tr) (fun u : Unit => True) (fun u => some (.int (iI 0))) (fun u => (mW g cI cB cZ 0 len tl ts te tk nu er eo hL hS dp bf dr td sa ad hi sl sv tr)) := by
  refine qM_enterI (val := fun u => iI 0) (by decide) (Nat.le_of_ble_eq_true rfl) (fun u hu => ⟨rfl, nar_z (by omega)⟩) (fun p e R s m args below meth c Q ls A X hR hA hw hl hret => ?_)
  obtain ⟨hx, hb, hml, hown, hts, hK⟩ := X
  have hl : lv_has ls 2 [(0, .ref (g 0)), (1, .int (iI k))] := hl
  suffices K : ∀ (H : Heap) (locs : List Loc), qw D A s.heap (mW g cI cB cZ th len tl ts te tk nu er eo hL hS dp bf dr td sa ad hi sl sv tr) H locs → W p l e R s m args below meth c H locs 0 0 Q (F0 m 0 ls []) from K s.heap [] hw
  clear hw
  intro H locs hw
  refine lv_aload_n hx hb dX7_restoreSnapshot_0 rfl (lv_at hl 0 rfl) ?_
  refine q_iconst hx hb dX7_restoreSnapshot_1 ?_
  refine q_put hx hb hts hown hK hw ci_X7 0 rfl 0 (by decide) fl_X7_45 rfl rfl rfl (Nat.le_of_ble_eq_true rfl) dX7_restoreSnapshot_2 (fun H locs hw => ?_)
  have hw : qw D A s.heap (mW g cI cB cZ 0 len tl ts te tk nu er eo hL hS dp bf dr td sa ad hi sl sv tr) H locs := hw
  refine lv_iload_n hx hb dX7_restoreSnapshot_5 rfl (lv_at hl 1 rfl) ?_
  refine q_iconst hx hb dX7_restoreSnapshot_6 ?_
  refine q_iconst hx hb dX7_restoreSnapshot_7 ?_
  refine q_callPS (As := [.int (iI k), .int (iI 0), .int (iI 1)]) (rest := []) hx hb hml hown hts hK (c_X7_within (k) (0) (1) (by first | omega | assumption) (by first | omega | assumption) (by first | omega | assumption)) yt_X7_within ml_X7_72 (by rw [hR]; decide) (show va_P D vwCl [] _ from fun k q h => by simp at h)  rfl rfl hl.1 (lv_room (Nat.le_of_ble_eq_true rfl)) dX7_restoreSnapshot_8 ⟨by rw [hR]; exact Nat.zero_le _, by rw [hR]; exact Nat.zero_le _⟩ ?_
  refine q_ifb_eq (tgt := 23) hx hb dX7_restoreSnapshot_11 (by decide) (fun c_11 => ?_) (fun c_11 => ?_)
  · refine q_iconst hx hb dX7_restoreSnapshot_23 ?_
    exact hret () H locs 24 ls trivial hw dX7_restoreSnapshot_24
  · refine lv_aload_n hx hb dX7_restoreSnapshot_14 rfl (lv_at hl 0 rfl) ?_
    refine q_get hx hb hts hown hK hw.1 ci_X7 0 rfl 19 (by decide) fl_X7_32 rfl dX7_restoreSnapshot_15 ?_
    refine lv_iload_n hx hb dX7_restoreSnapshot_18 rfl (lv_at hl 1 rfl) ?_
    refine q_zald hx hb hK hw.1 8 2 rfl rfl (z := k) (v := (sv k)) (by omega) rfl dX7_restoreSnapshot_19 ?_
    refine q_if_ne (tgt := 25) hx hb dX7_restoreSnapshot_20 (by decide) (by omega) (fun c_20 => absurd c_20 (by omega)) (fun c_20 => ?_)
    refine q_iconst hx hb dX7_restoreSnapshot_23 ?_
    exact hret () H locs 24 ls trivial hw dX7_restoreSnapshot_24

set_option maxHeartbeats 4000000 in
set_option maxRecDepth 100000 in
theorem c_X7_restoreSnapshot (k : Int) (h0 : 0 ≤ k ∧ k ≤ 1) (h1 : sv k = 1) : qM l D (tyG cI cB cZ cS cJ) yX7_restoreSnapshot cX7_restoreSnapshot 2 (Option.some FieldType.boolean) 1 24 [.ref (g 0), .int (iI k)] (mW g cI cB cZ th len tl ts te tk nu er eo hL hS dp bf dr td sa ad hi sl sv tr) (fun u : (Int → Int) => (u = cpk sa 0 sl k 706)) (fun u => some (.int (iI 1))) (fun u => (mW g cI cB cZ 0 len tl ts te tk nu er eo hL hS 0 bf dr td u ad hi sl sv tr)) := by
  refine qM_enterI (val := fun u => iI 1) (by decide) (Nat.le_of_ble_eq_true rfl) (fun u hu => ⟨rfl, nar_z (by omega)⟩) (fun p e R s m args below meth c Q ls A X hR hA hw hl hret => ?_)
  obtain ⟨hx, hb, hml, hown, hts, hK⟩ := X
  have hl : lv_has ls 2 [(0, .ref (g 0)), (1, .int (iI k))] := hl
  suffices K : ∀ (H : Heap) (locs : List Loc), qw D A s.heap (mW g cI cB cZ th len tl ts te tk nu er eo hL hS dp bf dr td sa ad hi sl sv tr) H locs → W p l e R s m args below meth c H locs 0 0 Q (F0 m 0 ls []) from K s.heap [] hw
  clear hw
  intro H locs hw
  refine lv_aload_n hx hb dX7_restoreSnapshot_0 rfl (lv_at hl 0 rfl) ?_
  refine q_iconst hx hb dX7_restoreSnapshot_1 ?_
  refine q_put hx hb hts hown hK hw ci_X7 0 rfl 0 (by decide) fl_X7_45 rfl rfl rfl (Nat.le_of_ble_eq_true rfl) dX7_restoreSnapshot_2 (fun H locs hw => ?_)
  have hw : qw D A s.heap (mW g cI cB cZ 0 len tl ts te tk nu er eo hL hS dp bf dr td sa ad hi sl sv tr) H locs := hw
  refine lv_iload_n hx hb dX7_restoreSnapshot_5 rfl (lv_at hl 1 rfl) ?_
  refine q_iconst hx hb dX7_restoreSnapshot_6 ?_
  refine q_iconst hx hb dX7_restoreSnapshot_7 ?_
  refine q_callPS (As := [.int (iI k), .int (iI 0), .int (iI 1)]) (rest := []) hx hb hml hown hts hK (c_X7_within (k) (0) (1) (by first | omega | assumption) (by first | omega | assumption) (by first | omega | assumption)) yt_X7_within ml_X7_72 (by rw [hR]; decide) (show va_P D vwCl [] _ from fun k q h => by simp at h)  rfl rfl hl.1 (lv_room (Nat.le_of_ble_eq_true rfl)) dX7_restoreSnapshot_8 ⟨by rw [hR]; exact Nat.zero_le _, by rw [hR]; exact Nat.zero_le _⟩ ?_
  refine q_ifb_eq (tgt := 23) hx hb dX7_restoreSnapshot_11 (by decide) (fun c_11 => absurd c_11 (by omega)) (fun c_11 => ?_)
  refine lv_aload_n hx hb dX7_restoreSnapshot_14 rfl (lv_at hl 0 rfl) ?_
  refine q_get hx hb hts hown hK hw.1 ci_X7 0 rfl 19 (by decide) fl_X7_32 rfl dX7_restoreSnapshot_15 ?_
  refine lv_iload_n hx hb dX7_restoreSnapshot_18 rfl (lv_at hl 1 rfl) ?_
  refine q_zald hx hb hK hw.1 8 2 rfl rfl (z := k) (v := (sv k)) (by omega) rfl dX7_restoreSnapshot_19 ?_
  refine q_if_ne (tgt := 25) hx hb dX7_restoreSnapshot_20 (by decide) (by omega) (fun c_20 => ?_) (fun c_20 => absurd c_20 (by omega))
  refine lv_aload_n hx hb dX7_restoreSnapshot_25 rfl (lv_at hl 0 rfl) ?_
  refine q_get hx hb hts hown hK hw.1 ci_X7 0 rfl 18 (by decide) fl_X7_29 rfl dX7_restoreSnapshot_26 ?_
  refine lv_iload_n hx hb dX7_restoreSnapshot_29 rfl (lv_at hl 1 rfl) ?_
  refine lv_aload_n hx hb dX7_restoreSnapshot_30 rfl (lv_at hl 0 rfl) ?_
  refine q_get hx hb hts hown hK hw.1 ci_X7 0 rfl 14 (by decide) fl_X7_20 rfl dX7_restoreSnapshot_31 ?_
  refine q_iconst hx hb dX7_restoreSnapshot_34 ?_
  refine q_callMS (As := [.ref (g 7), .int (iI k), .ref (g 4), .int (iI 0)]) (rest := []) (wr := [((g 0), .inr (7, [.int (iI 0), .ref (g 1), .int (iI len), .int (iI tl), .int (iI ts), .int (iI te), .int (iI tk), .int (iI nu), .int (iI er), .int (iI eo), .ref (g 2), .ref (g 3), .int (iI hL), .int (iI hS), .ref (g 4), .ref (g 5), .ref (g 6), .int (iI dp), .ref (g 7), .ref (g 8), .ref (g 9)])), ((g 1), .inl (cB, 700, .inl (ai bf))), ((g 2), .inl (cI, 288, .inl (ai dr))), ((g 3), .inl (cI, 288, .inl (ai td))), ((g 5), .inl (cI, 706, .inl (ai ad))), ((g 6), .inl (cI, 7060, .inl (ai hi))), ((g 8), .inl (cZ, 2, .inl (ai sv))), ((g 9), .inl (cI, 5, .inl (ai tr)))]) hx hb hml hown hts hK (c_X7_copy (k) (0) (by first | omega | assumption) (by first | omega | assumption)) yt_X7_copy ml_X7_176 (by rw [hR]; decide) hw hA [7, 4] [0, 1, 2, 3, 5, 6, 8, 9] rfl rfl (by decide) (by decide) (by decide)  rfl rfl hl.1 (lv_room (Nat.le_of_ble_eq_true rfl)) dX7_restoreSnapshot_35 ⟨by rw [hR]; exact Nat.zero_le _, by rw [hR]; exact Nat.zero_le _⟩ (fun u_35 H locs hu_35 hw => ?_)
  have hw : qw D A s.heap [((g 0), .inr (7, [.int (iI 0), .ref (g 1), .int (iI len), .int (iI tl), .int (iI ts), .int (iI te), .int (iI tk), .int (iI nu), .int (iI er), .int (iI eo), .ref (g 2), .ref (g 3), .int (iI hL), .int (iI hS), .ref (g 4), .ref (g 5), .ref (g 6), .int (iI dp), .ref (g 7), .ref (g 8), .ref (g 9)])), ((g 1), .inl (cB, 700, .inl (ai bf))), ((g 2), .inl (cI, 288, .inl (ai dr))), ((g 3), .inl (cI, 288, .inl (ai td))), ((g 5), .inl (cI, 706, .inl (ai ad))), ((g 6), .inl (cI, 7060, .inl (ai hi))), ((g 8), .inl (cZ, 2, .inl (ai sv))), ((g 9), .inl (cI, 5, .inl (ai tr))), ((g 7), .inl (cI, 1412, .inl (ai sl))), ((g 4), .inl (cI, 706, .inl (ai (cpk sa 0 sl k 706))))] H locs := hw
  refine lv_aload_n hx hb dX7_restoreSnapshot_38 rfl (lv_at hl 0 rfl) ?_
  refine q_iconst hx hb dX7_restoreSnapshot_39 ?_
  refine q_put hx hb hts hown hK hw ci_X7 0 rfl 17 (by decide) fl_X7_173 rfl rfl rfl (Nat.le_of_ble_eq_true rfl) dX7_restoreSnapshot_40 (fun H locs hw => ?_)
  have hw : qw D A s.heap [((g 0), .inr (7, [.int (iI 0), .ref (g 1), .int (iI len), .int (iI tl), .int (iI ts), .int (iI te), .int (iI tk), .int (iI nu), .int (iI er), .int (iI eo), .ref (g 2), .ref (g 3), .int (iI hL), .int (iI hS), .ref (g 4), .ref (g 5), .ref (g 6), .int (iI 0), .ref (g 7), .ref (g 8), .ref (g 9)])), ((g 1), .inl (cB, 700, .inl (ai bf))), ((g 2), .inl (cI, 288, .inl (ai dr))), ((g 3), .inl (cI, 288, .inl (ai td))), ((g 5), .inl (cI, 706, .inl (ai ad))), ((g 6), .inl (cI, 7060, .inl (ai hi))), ((g 8), .inl (cZ, 2, .inl (ai sv))), ((g 9), .inl (cI, 5, .inl (ai tr))), ((g 7), .inl (cI, 1412, .inl (ai sl))), ((g 4), .inl (cI, 706, .inl (ai (cpk sa 0 sl k 706))))] H locs := hw
  refine q_iconst hx hb dX7_restoreSnapshot_43 ?_
  exact hret (cpk sa 0 sl k 706) H locs 44 ls (by subst_vars; rfl) (hw.sub [0, 1, 2, 3, 9, 4, 5, 8, 6, 7] (by decide) rfl) dX7_restoreSnapshot_44
