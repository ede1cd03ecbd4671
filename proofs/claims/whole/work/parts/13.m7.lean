variable {l : Launch} {T C : Nat → Int → Int} {J : Int → Int} {D : va_G} {cI cB cZ cS cJ : ClassId} {g : Nat → Nat} {th len tl ts te tk nu er eo hL hS dp : Int} {bf dr td sa ad hi sl sv tr : Int → Int}
set_option maxHeartbeats 4000000 in
set_option maxRecDepth 100000 in
theorem c_X7_removes (hM : WM td sa T C) : qM l D (tyG cI cB cZ cS cJ) yX7_removes cX7_removes 4 (Option.some FieldType.int) 1 20 [.ref (g 0)] (mW g cI cB cZ th len tl ts te tk nu er eo hL hS dp bf dr td sa ad hi sl sv tr) (fun u : (Int → Int) => (WM td u T (rmC C))) (fun u => some (.int (iI (C 11 1)))) (fun u => (mW g cI cB cZ th len tl ts te tk nu er eo hL hS dp bf dr td u ad hi sl sv tr)) := by
  have hsc := hM.sc
  have hlm := hM.lm
  have hB : BB T C := hM.2.2.1.hB hM.1
  refine qM_enterI (val := fun u => iI (C 11 1)) (by decide) (Nat.le_of_ble_eq_true rfl) (fun u hu => ⟨rfl, nar_i _⟩) (fun p e R s m args below meth c Q ls A X hR hA hw hl hret => ?_)
  obtain ⟨hx, hb, hml, hown, hts, hK⟩ := X
  have hl : lv_has ls 4 [(0, .ref (g 0))] := hl
  suffices K : ∀ (H : Heap) (locs : List Loc), qw D A s.heap (mW g cI cB cZ th len tl ts te tk nu er eo hL hS dp bf dr td sa ad hi sl sv tr) H locs → W p l e R s m args below meth c H locs 0 0 Q (F0 m 0 ls []) from K s.heap [] hw
  clear hw
  intro H locs hw
  refine lv_aload_n hx hb dX7_removes_0 rfl (lv_at hl 0 rfl) ?_
  refine q_get hx hb hts hown hK hw.1 ci_X7 0 rfl 14 (by decide) fl_X7_20 rfl dX7_removes_1 ?_
  refine q_bipush hx hb dX7_removes_4 rfl ?_
  refine q_iald hx hb hK hw.1 4 0 rfl rfl (z := 7) (v := (sa 7)) (by omega) rfl dX7_removes_6 ?_
  refine lv_istore_n (lv' := [(1, .int (iI (sa 7))), (0, .ref (g 0))]) hx hb dX7_removes_7 rfl hl (by decide) rfl (fun ls hl => ?_)
  refine q_iconst hx hb dX7_removes_8 ?_
  refine lv_istore_n (lv' := [(2, .int (iI 0)), (1, .int (iI (sa 7))), (0, .ref (g 0))]) hx hb dX7_removes_9 rfl hl (by decide) rfl (fun ls hl => ?_)
  have loop_10 : ∀ (fu : Nat) (x : Int → Int) (k : Int) (H : Heap) (locs : List Loc) (ls : Array Slot), (C 11 1 - k).toNat = fu → (RJ x T (rmA C (C 11 0 - C 11 1) k) (shJ C)) → (0 ≤ k ∧ k ≤ C 11 1) → qw D A s.heap (mW g cI cB cZ th len tl ts te tk nu er eo hL hS dp bf dr td x ad hi sl sv tr) H locs → lv_has ls 4 [(0, .ref (g 0)), (1, .int (iI (sa 7))), (2, .int (iI k))] → W p l e R s m args below meth c H locs 0 0 Q (F0 m 10 ls []) := by
    intro fu
    induction fu using Nat.strongRecOn with
    | ind fu ih =>
    intro x k H locs ls hn_10 h_x h_k hw hl
    refine lv_iload_n hx hb dX7_removes_10 rfl (lv_at hl 2 rfl) ?_
    refine lv_iload_n hx hb dX7_removes_11 rfl (lv_at hl 1 rfl) ?_
    refine q_icmp_ge (tgt := 78) hx hb dX7_removes_12 (by decide) (by omega) (fun c_12 => ?_) (fun c_12 => ?_)
    · have h_y : RJ x T (rmA C (C 11 0 - C 11 1) (C 11 1)) (shJ C) := (show k = C 11 1 by omega) ▸ h_x
      refine lv_aload_n hx hb dX7_removes_78 rfl (lv_at hl 0 rfl) ?_
      refine q_get hx hb hts hown hK hw.1 ci_X7 0 rfl 14 (by decide) fl_X7_20 rfl dX7_removes_79 ?_
      refine q_bipush hx hb dX7_removes_82 rfl ?_
      refine q_iconst hx hb dX7_removes_84 ?_
      refine q_iast hx hb hK hw 4 0 rfl rfl (by omega) dX7_removes_85 (fun H locs hw => ?_)
      have hw : qw D A s.heap (mW g cI cB cZ th len tl ts te tk nu er eo hL hS dp bf dr td (uI x 7 0) ad hi sl sv tr) H locs := hw
      obtain ⟨f_1, e_f_1⟩ : ∃ z, z = uI x 7 0 := ⟨_, rfl⟩
      have hw : qw D A s.heap (mW g cI cB cZ th len tl ts te tk nu er eo hL hS dp bf dr td f_1 ad hi sl sv tr) H locs := by rw [e_f_1]; exact hw
      have r_1 : RJ f_1 T (s1 (rmA C (C 11 0 - C 11 1) (C 11 1)) 1 0) (shJ C) := by rw [e_f_1]; exact RJ_p0 h_y hB
      have b_1 := (BB_p0 hB)
      refine lv_aload_n hx hb dX7_removes_86 rfl (lv_at hl 0 rfl) ?_
      refine q_get hx hb hts hown hK hw.1 ci_X7 0 rfl 14 (by decide) fl_X7_20 rfl dX7_removes_87 ?_
      refine q_iconst hx hb dX7_removes_90 ?_
      refine q_iconst hx hb dX7_removes_91 ?_
      refine q_iast hx hb hK hw 4 0 rfl rfl (by omega) dX7_removes_92 (fun H locs hw => ?_)
      have hw : qw D A s.heap (mW g cI cB cZ th len tl ts te tk nu er eo hL hS dp bf dr td (uI f_1 5 0) ad hi sl sv tr) H locs := hw
      obtain ⟨f_2, e_f_2⟩ : ∃ z, z = uI f_1 5 0 := ⟨_, rfl⟩
      have hw : qw D A s.heap (mW g cI cB cZ th len tl ts te tk nu er eo hL hS dp bf dr td f_2 ad hi sl sv tr) H locs := by rw [e_f_2]; exact hw
      have r_2 : RJ f_2 T (s1 (s1 (rmA C (C 11 0 - C 11 1) (C 11 1)) 1 0) 2 0) (shJ C) := by rw [e_f_2]; exact RJ_re r_1 b_1
      have b_2 := (BB_re (v := 0) b_1)
      refine lv_iload_n hx hb dX7_removes_93 rfl (lv_at hl 1 rfl) ?_
      refine q_top (C 11 1) (by first | rfl | omega) ?_
      exact hret (f_2) H locs 94 ls (by exact ⟨hM.1, hM.2.1, WC_rmC hM.2.2.1, r_2⟩) hw dX7_removes_94
    · refine lv_aload_n hx hb dX7_removes_15 rfl (lv_at hl 0 rfl) ?_
      refine q_get hx hb hts hown hK hw.1 ci_X7 0 rfl 14 (by decide) fl_X7_20 rfl dX7_removes_16 ?_
      refine q_sipush hx hb dX7_removes_19 rfl ?_
      refine lv_iload_n hx hb dX7_removes_22 rfl (lv_at hl 2 rfl) ?_
      refine q_iadd hx hb dX7_removes_23 ?_
      refine q_iald hx hb hK hw.1 4 0 rfl rfl (z := (226 + k)) (v := (C 11 0 - C 11 1 + k)) (by omega) (by have z := h_x.2.2.2.2.2.2.1 k (by omega) (by show k < C 11 1; omega); exact z) dX7_removes_24 ?_
      refine lv_istore_n (lv' := [(3, .int (iI (C 11 0 - C 11 1 + k))), (0, .ref (g 0)), (1, .int (iI (sa 7))), (2, .int (iI k))]) hx hb dX7_removes_25 rfl hl (by decide) rfl (fun ls hl => ?_)
      refine lv_aload_n hx hb dX7_removes_26 rfl (lv_at hl 1 rfl) ?_
      refine q_get hx hb hts hown hK hw.1 ci_X7 0 rfl 14 (by decide) fl_X7_20 rfl dX7_removes_27 ?_
      refine lv_iload_n hx hb dX7_removes_30 rfl (lv_at hl 0 rfl) ?_
      refine q_callPS (As := [.int (iI (C 11 0 - C 11 1 + k))]) (rest := [.ref (g 4)]) hx hb hml hown hts hK (c_X7_of (C 11 0 - C 11 1 + k)) yt_X7_of ml_X7_167 (by rw [hR]; decide) (show va_P D vwCl [] _ from fun k q h => by simp at h)  rfl rfl hl.1 (lv_room (Nat.le_of_ble_eq_true rfl)) dX7_removes_31 ⟨by rw [hR]; exact Nat.zero_le _, by rw [hR]; exact Nat.zero_le _⟩ ?_
      refine q_iconst hx hb dX7_removes_34 ?_
      refine q_iadd hx hb dX7_removes_35 ?_
      refine q_top (26 + 4 * (C 11 0 - C 11 1 + k)) (Int.add_zero _) ?_
      refine q_bipush hx hb dX7_removes_36 rfl ?_
      refine q_iast hx hb hK hw 4 0 rfl rfl (by omega) dX7_removes_38 (fun H locs hw => ?_)
      have hw : qw D A s.heap (mW g cI cB cZ th len tl ts te tk nu er eo hL hS dp bf dr td (uI x (26 + 4 * (C 11 0 - C 11 1 + k)) 6) ad hi sl sv tr) H locs := hw
      obtain ⟨f_3, e_f_3⟩ : ∃ z, z = uI x (26 + 4 * (C 11 0 - C 11 1 + k)) 6 := ⟨_, rfl⟩
      have hw : qw D A s.heap (mW g cI cB cZ th len tl ts te tk nu er eo hL hS dp bf dr td f_3 ad hi sl sv tr) H locs := by rw [e_f_3]; exact hw
      have r_3 : RJ f_3 T (st (rmA C (C 11 0 - C 11 1) k) 0 (uI ((rmA C (C 11 0 - C 11 1) k) 0) ((C 11 0 - C 11 1) + k) 6)) (shJ C) := by rw [e_f_3]; exact RJ_wh _ _ h_x hB (by omega) (by omega)
      refine lv_aload_n hx hb dX7_removes_39 rfl (lv_at hl 1 rfl) ?_
      refine q_get hx hb hts hown hK hw.1 ci_X7 0 rfl 14 (by decide) fl_X7_20 rfl dX7_removes_40 ?_
      refine q_bipush hx hb dX7_removes_43 rfl ?_
      refine lv_dup2_11 hx hb dX7_removes_45 rfl rfl ?_
      refine q_iald hx hb hK hw.1 4 0 rfl rfl (z := 23) (v := (C 9 6 + haf C (C 11 0 - C 11 1) k)) (by omega) (by exact (r_3.a 6 23 (by decide) (by decide) (by decide)).trans rm_9) dX7_removes_46 ?_
      refine lv_aload_n hx hb dX7_removes_47 rfl (lv_at hl 1 rfl) ?_
      refine q_get hx hb hts hown hK hw.1 ci_X7 0 rfl 14 (by decide) fl_X7_20 rfl dX7_removes_48 ?_
      refine lv_iload_n hx hb dX7_removes_51 rfl (lv_at hl 0 rfl) ?_
      refine q_callPS (As := [.int (iI (C 11 0 - C 11 1 + k))]) (rest := [.ref (g 4), .int (iI (C 9 6 + haf C (C 11 0 - C 11 1) k)), .int (iI 23), .ref (g 4)]) hx hb hml hown hts hK (c_X7_of (C 11 0 - C 11 1 + k)) yt_X7_of ml_X7_167 (by rw [hR]; decide) (show va_P D vwCl [] _ from fun k q h => by simp at h)  rfl rfl hl.1 (lv_room (Nat.le_of_ble_eq_true rfl)) dX7_removes_52 ⟨by rw [hR]; exact Nat.zero_le _, by rw [hR]; exact Nat.zero_le _⟩ ?_
      refine q_iconst hx hb dX7_removes_55 ?_
      refine q_iadd hx hb dX7_removes_56 ?_
      refine q_iald hx hb hK hw.1 4 0 rfl rfl (z := (26 + 4 * (C 11 0 - C 11 1 + k) + 3)) (v := (C 3 (C 11 0 - C 11 1 + k))) (by omega) (by exact (r_3.sh ((C 11 0 - C 11 1) + k) (by omega) (by omega)).2.2.2.trans rm_3) dX7_removes_57 ?_
      refine q_iadd hx hb dX7_removes_58 ?_
      refine q_iast hx hb hK hw 4 0 rfl rfl (by omega) dX7_removes_59 (fun H locs hw => ?_)
      have hw : qw D A s.heap (mW g cI cB cZ th len tl ts te tk nu er eo hL hS dp bf dr td (uI f_3 23 (C 9 6 + haf C (C 11 0 - C 11 1) k + C 3 (C 11 0 - C 11 1 + k))) ad hi sl sv tr) H locs := hw
      obtain ⟨f_4, e_f_4⟩ : ∃ z, z = uI f_3 23 (C 9 6 + haf C (C 11 0 - C 11 1) k + C 3 (C 11 0 - C 11 1 + k)) := ⟨_, rfl⟩
      have hw : qw D A s.heap (mW g cI cB cZ th len tl ts te tk nu er eo hL hS dp bf dr td f_4 ad hi sl sv tr) H locs := by rw [e_f_4]; exact hw
      have r_4 : RJ f_4 T (st (st (rmA C (C 11 0 - C 11 1) k) 0 (uI ((rmA C (C 11 0 - C 11 1) k) 0) ((C 11 0 - C 11 1) + k) 6)) 9 (uI ((st (rmA C (C 11 0 - C 11 1) k) 0 (uI ((rmA C (C 11 0 - C 11 1) k) 0) ((C 11 0 - C 11 1) + k) 6)) 9) 6 (C 9 6 + haf C (C 11 0 - C 11 1) k + C 3 (C 11 0 - C 11 1 + k)))) (shJ C) := by rw [e_f_4]; exact RJ_a 6 23 r_3 hB (by decide) (by decide) (by decide)
      refine lv_aload_n hx hb dX7_removes_60 rfl (lv_at hl 1 rfl) ?_
      refine q_get hx hb hts hown hK hw.1 ci_X7 0 rfl 14 (by decide) fl_X7_20 rfl dX7_removes_61 ?_
      refine lv_iload_n hx hb dX7_removes_64 rfl (lv_at hl 0 rfl) ?_
      refine q_callPS (As := [.int (iI (C 11 0 - C 11 1 + k))]) (rest := [.ref (g 4)]) hx hb hml hown hts hK (c_X7_of (C 11 0 - C 11 1 + k)) yt_X7_of ml_X7_167 (by rw [hR]; decide) (show va_P D vwCl [] _ from fun k q h => by simp at h)  rfl rfl hl.1 (lv_room (Nat.le_of_ble_eq_true rfl)) dX7_removes_65 ⟨by rw [hR]; exact Nat.zero_le _, by rw [hR]; exact Nat.zero_le _⟩ ?_
      refine q_iconst hx hb dX7_removes_68 ?_
      refine q_iadd hx hb dX7_removes_69 ?_
      refine q_iconst hx hb dX7_removes_70 ?_
      refine q_iast hx hb hK hw 4 0 rfl rfl (by omega) dX7_removes_71 (fun H locs hw => ?_)
      have hw : qw D A s.heap (mW g cI cB cZ th len tl ts te tk nu er eo hL hS dp bf dr td (uI f_4 (26 + 4 * (C 11 0 - C 11 1 + k) + 3) 0) ad hi sl sv tr) H locs := hw
      obtain ⟨f_5, e_f_5⟩ : ∃ z, z = uI f_4 (26 + 4 * (C 11 0 - C 11 1 + k) + 3) 0 := ⟨_, rfl⟩
      have hw : qw D A s.heap (mW g cI cB cZ th len tl ts te tk nu er eo hL hS dp bf dr td f_5 ad hi sl sv tr) H locs := by rw [e_f_5]; exact hw
      have r_5 : RJ f_5 T (st (st (st (rmA C (C 11 0 - C 11 1) k) 0 (uI ((rmA C (C 11 0 - C 11 1) k) 0) ((C 11 0 - C 11 1) + k) 6)) 9 (uI ((st (rmA C (C 11 0 - C 11 1) k) 0 (uI ((rmA C (C 11 0 - C 11 1) k) 0) ((C 11 0 - C 11 1) + k) 6)) 9) 6 (C 9 6 + haf C (C 11 0 - C 11 1) k + C 3 (C 11 0 - C 11 1 + k)))) 3 (uI ((st (st (rmA C (C 11 0 - C 11 1) k) 0 (uI ((rmA C (C 11 0 - C 11 1) k) 0) ((C 11 0 - C 11 1) + k) 6)) 9 (uI ((st (rmA C (C 11 0 - C 11 1) k) 0 (uI ((rmA C (C 11 0 - C 11 1) k) 0) ((C 11 0 - C 11 1) + k) 6)) 9) 6 (C 9 6 + haf C (C 11 0 - C 11 1) k + C 3 (C 11 0 - C 11 1 + k)))) 3) ((C 11 0 - C 11 1) + k) 0)) (shJ C) := by rw [e_f_5]; exact RJ_ha _ _ r_4 hB (by omega) (by omega)
      refine lv_iinc (v := iI (k + 1)) (lv' := [(2, .int (iI (k + 1))), (3, .int (iI (C 11 0 - C 11 1 + k))), (0, .ref (g 0)), (1, .int (iI (sa 7)))]) hx hb dX7_removes_72 hl (k := 3) rfl (iI_add _ _) (by decide) rfl (fun ls hl => ?_)
      refine lv_goto (tgt := 10) hx hb dX7_removes_75 (by decide) ?_
      exact ih _ (by omega) (f_5) (k + 1) H locs ls rfl (by exact rm_s (X := rmA C (C 11 0 - C 11 1) k) (by omega) rfl rfl r_5) (by first | omega | assumption | rfl) hw (lv_sub hl [2, 3, 0] rfl)
  exact loop_10 _ (sa) (0) H locs ls rfl (by exact rm_0 hM.2.2.2) (by first | omega | assumption | rfl) hw (lv_sub hl [2, 1, 0] rfl)

set_option maxHeartbeats 4000000 in
set_option maxRecDepth 100000 in
theorem c_X7_remove_no (hM : WM td sa T C) (h0 : C 11 2 = 0) : qM l D (tyG cI cB cZ cS cJ) yX7_remove cX7_remove 1 (Option.some FieldType.int) 0 0 [.ref (g 0)] (mW g cI cB cZ th len tl ts te tk nu er eo hL hS dp bf dr td sa ad hi sl sv tr) (fun u : Unit => True) (fun u => some (.int (iI 0))) (fun u => (mW g cI cB cZ 1 len tl ts te tk nu er eo hL hS dp bf dr td sa ad hi sl sv tr)) := by
  have hsc := hM.sc
  have hlm := hM.lm
  have hB : BB T C := hM.2.2.1.hB hM.1
  refine qM_enterI (val := fun u => iI 0) (by decide) (Nat.le_of_ble_eq_true rfl) (fun u hu => ⟨rfl, nar_i _⟩) (fun p e R s m args below meth c Q ls A X hR hA hw hl hret => ?_)
  obtain ⟨hx, hb, hml, hown, hts, hK⟩ := X
  have hl : lv_has ls 1 [(0, .ref (g 0))] := hl
  suffices K : ∀ (H : Heap) (locs : List Loc), qw D A s.heap (mW g cI cB cZ th len tl ts te tk nu er eo hL hS dp bf dr td sa ad hi sl sv tr) H locs → W p l e R s m args below meth c H locs 0 0 Q (F0 m 0 ls []) from K s.heap [] hw
  clear hw
  intro H locs hw
  refine lv_aload_n hx hb dX7_remove_0 rfl (lv_at hl 0 rfl) ?_
  refine lv_aload_n hx hb dX7_remove_1 rfl (lv_at hl 0 rfl) ?_
  refine q_get hx hb hts hown hK hw.1 ci_X7 0 rfl 14 (by decide) fl_X7_20 rfl dX7_remove_2 ?_
  refine q_iconst hx hb dX7_remove_5 ?_
  refine q_iald hx hb hK hw.1 4 0 rfl rfl (z := 5) (v := (sa 5)) (by omega) rfl dX7_remove_6 ?_
  refine q_if_ne (tgt := 14) hx hb dX7_remove_7 (by decide) (by omega) (fun c_7 => absurd c_7 (by omega)) (fun c_7 => ?_)
  refine q_iconst hx hb dX7_remove_10 ?_
  refine lv_goto (tgt := 15) hx hb dX7_remove_11 (by decide) ?_
  refine q_put hx hb hts hown hK hw ci_X7 0 rfl 0 (by decide) fl_X7_45 rfl rfl rfl (Nat.le_of_ble_eq_true rfl) dX7_remove_15 (fun H locs hw => ?_)
  have hw : qw D A s.heap (mW g cI cB cZ 1 len tl ts te tk nu er eo hL hS dp bf dr td sa ad hi sl sv tr) H locs := hw
  refine lv_aload_n hx hb dX7_remove_18 rfl (lv_at hl 0 rfl) ?_
  refine q_get hx hb hts hown hK hw.1 ci_X7 0 rfl 0 (by decide) fl_X7_45 rfl dX7_remove_19 ?_
  refine q_if_le (tgt := 27) hx hb dX7_remove_22 (by decide) (by omega) (fun c_22 => absurd c_22 (by omega)) (fun c_22 => ?_)
  refine q_iconst hx hb dX7_remove_25 ?_
  exact hret () H locs 26 ls trivial hw dX7_remove_26

set_option maxHeartbeats 4000000 in
set_option maxRecDepth 100000 in
theorem c_X7_remove (hM : WM td sa T C) (hdp : 0 ≤ dp ∧ dp ≤ 10) (h0 : C 11 2 ≠ 0) : qM l D (tyG cI cB cZ cS cJ) yX7_remove cX7_remove 1 (Option.some FieldType.int) 2 45 [.ref (g 0)] (mW g cI cB cZ th len tl ts te tk nu er eo hL hS dp bf dr td sa ad hi sl sv tr) (fun u : (Int → Int) × (Int → Int) × (Int) => (WM td ((u.1)) T (rmC C)) ∧ (((u.2.1)) = kpH hi dp sa) ∧ (((u.2.2)) = kpD dp)) (fun u => some (.int (iI (C 11 1)))) (fun u => (mW g cI cB cZ 0 len tl ts te tk nu er eo hL hS (u.2.2) bf dr td (u.1) ad (u.2.1) sl sv tr)) := by
  have hsc := hM.sc
  have hlm := hM.lm
  have hB : BB T C := hM.2.2.1.hB hM.1
  refine qM_enterI (val := fun u => iI (C 11 1)) (by decide) (Nat.le_of_ble_eq_true rfl) (fun u hu => ⟨rfl, nar_i _⟩) (fun p e R s m args below meth c Q ls A X hR hA hw hl hret => ?_)
  obtain ⟨hx, hb, hml, hown, hts, hK⟩ := X
  have hl : lv_has ls 1 [(0, .ref (g 0))] := hl
  suffices K : ∀ (H : Heap) (locs : List Loc), qw D A s.heap (mW g cI cB cZ th len tl ts te tk nu er eo hL hS dp bf dr td sa ad hi sl sv tr) H locs → W p l e R s m args below meth c H locs 0 0 Q (F0 m 0 ls []) from K s.heap [] hw
  clear hw
  intro H locs hw
  refine lv_aload_n hx hb dX7_remove_0 rfl (lv_at hl 0 rfl) ?_
  refine lv_aload_n hx hb dX7_remove_1 rfl (lv_at hl 0 rfl) ?_
  refine q_get hx hb hts hown hK hw.1 ci_X7 0 rfl 14 (by decide) fl_X7_20 rfl dX7_remove_2 ?_
  refine q_iconst hx hb dX7_remove_5 ?_
  refine q_iald hx hb hK hw.1 4 0 rfl rfl (z := 5) (v := (sa 5)) (by omega) rfl dX7_remove_6 ?_
  refine q_if_ne (tgt := 14) hx hb dX7_remove_7 (by decide) (by omega) (fun c_7 => ?_) (fun c_7 => absurd c_7 (by omega))
  refine q_iconst hx hb dX7_remove_14 ?_
  refine q_put hx hb hts hown hK hw ci_X7 0 rfl 0 (by decide) fl_X7_45 rfl rfl rfl (Nat.le_of_ble_eq_true rfl) dX7_remove_15 (fun H locs hw => ?_)
  have hw : qw D A s.heap (mW g cI cB cZ 0 len tl ts te tk nu er eo hL hS dp bf dr td sa ad hi sl sv tr) H locs := hw
  refine lv_aload_n hx hb dX7_remove_18 rfl (lv_at hl 0 rfl) ?_
  refine q_get hx hb hts hown hK hw.1 ci_X7 0 rfl 0 (by decide) fl_X7_45 rfl dX7_remove_19 ?_
  refine q_if_le (tgt := 27) hx hb dX7_remove_22 (by decide) (by omega) (fun c_22 => ?_) (fun c_22 => absurd c_22 (by omega))
  refine lv_aload_n hx hb dX7_remove_27 rfl (lv_at hl 0 rfl) ?_
  refine q_callM (As := []) (rest := []) (wr := []) hx hb hml hown hts hK (c_X7_keep (by first | omega | assumption)) yi_X7_keep ml_X7_222 (by rw [hR]; decide) hw hA [0, 1, 2, 3, 4, 5, 6, 7, 8, 9] [] rfl rfl (by decide) (by decide) (by decide) 0 rfl rfl rfl rfl hl.1 (lv_room (Nat.le_of_ble_eq_true rfl)) dX7_remove_28 ⟨by rw [hR]; exact Nat.zero_le _, by rw [hR]; exact Nat.zero_le _⟩ (fun u_28 H locs hu_28 hw => ?_)
  obtain ⟨h2_1, d2_1⟩ := u_28
  obtain ⟨hu_1_0, hu_1_1⟩ : (h2_1 = kpH hi dp sa) ∧ (d2_1 = kpD dp) := hu_28
  have hw : qw D A s.heap (mW g cI cB cZ 0 len tl ts te tk nu er eo hL hS d2_1 bf dr td sa ad h2_1 sl sv tr) H locs := hw
  refine lv_aload_n hx hb dX7_remove_31 rfl (lv_at hl 0 rfl) ?_
  refine q_callM (As := []) (rest := []) (wr := []) hx hb hml hown hts hK (c_X7_removes (C := C) (by first | omega | assumption)) yi_X7_removes ml_X7_228 (by rw [hR]; decide) hw hA [0, 1, 2, 3, 4, 5, 6, 7, 8, 9] [] rfl rfl (by decide) (by decide) (by decide) 0 rfl rfl rfl rfl hl.1 (lv_room (Nat.le_of_ble_eq_true rfl)) dX7_remove_32 ⟨by rw [hR]; exact Nat.zero_le _, by rw [hR]; exact Nat.zero_le _⟩ (fun u_32 H locs hu_32 hw => ?_)
  obtain ⟨s2_2, rfl⟩ : ∃ z, z = u_32 := ⟨_, rfl⟩
  have hu_2_0 : WM td s2_2 T (rmC ((C))) := hu_32
  have hw : qw D A s.heap (mW g cI cB cZ 0 len tl ts te tk nu er eo hL hS d2_1 bf dr td s2_2 ad h2_1 sl sv tr) H locs := hw
  refine q_top (C 11 1) (by first | rfl | omega) ?_
  exact hret (s2_2, h2_1, d2_1) H locs 35 ls ⟨(by first | rfl | omega), (by first | rfl | omega), (by first | rfl | omega)⟩ hw dX7_remove_35

set_option maxHeartbeats 4000000 in
set_option maxRecDepth 100000 in
theorem c_X7_accept_no (hM : WM td sa T C) (h0 : C 11 2 = 0 ∨ C 11 2 = 3) : qM l D (tyG cI cB cZ cS cJ) yX7_accept cX7_accept 1 (Option.some FieldType.int) 0 0 [.ref (g 0)] (mW g cI cB cZ th len tl ts te tk nu er eo hL hS dp bf dr td sa ad hi sl sv tr) (fun u : Unit => True) (fun u => some (.int (iI 0))) (fun u => (mW g cI cB cZ 1 len tl ts te tk nu er eo hL hS dp bf dr td sa ad hi sl sv tr)) := by
  have hsc := hM.sc
  have hlm := hM.lm
  have hB : BB T C := hM.2.2.1.hB hM.1
  refine qM_enterI (val := fun u => iI 0) (by decide) (Nat.le_of_ble_eq_true rfl) (fun u hu => ⟨rfl, nar_i _⟩) (fun p e R s m args below meth c Q ls A X hR hA hw hl hret => ?_)
  obtain ⟨hx, hb, hml, hown, hts, hK⟩ := X
  have hl : lv_has ls 1 [(0, .ref (g 0))] := hl
  suffices K : ∀ (H : Heap) (locs : List Loc), qw D A s.heap (mW g cI cB cZ th len tl ts te tk nu er eo hL hS dp bf dr td sa ad hi sl sv tr) H locs → W p l e R s m args below meth c H locs 0 0 Q (F0 m 0 ls []) from K s.heap [] hw
  clear hw
  intro H locs hw
  refine lv_aload_n hx hb dX7_accept_0 rfl (lv_at hl 0 rfl) ?_
  refine lv_aload_n hx hb dX7_accept_1 rfl (lv_at hl 0 rfl) ?_
  refine q_get hx hb hts hown hK hw.1 ci_X7 0 rfl 14 (by decide) fl_X7_20 rfl dX7_accept_2 ?_
  refine q_iconst hx hb dX7_accept_5 ?_
  refine q_iald hx hb hK hw.1 4 0 rfl rfl (z := 5) (v := (sa 5)) (by omega) rfl dX7_accept_6 ?_
  refine q_if_eq (tgt := 20) hx hb dX7_accept_7 (by decide) (by omega) (fun c_7 => ?_) (fun c_7 => ?_)
  · refine q_iconst hx hb dX7_accept_20 ?_
    refine lv_goto (tgt := 25) hx hb dX7_accept_21 (by decide) ?_
    refine q_put hx hb hts hown hK hw ci_X7 0 rfl 0 (by decide) fl_X7_45 rfl rfl rfl (Nat.le_of_ble_eq_true rfl) dX7_accept_25 (fun H locs hw => ?_)
    have hw : qw D A s.heap (mW g cI cB cZ 1 len tl ts te tk nu er eo hL hS dp bf dr td sa ad hi sl sv tr) H locs := hw
    refine lv_aload_n hx hb dX7_accept_28 rfl (lv_at hl 0 rfl) ?_
    refine q_get hx hb hts hown hK hw.1 ci_X7 0 rfl 0 (by decide) fl_X7_45 rfl dX7_accept_29 ?_
    refine q_if_le (tgt := 37) hx hb dX7_accept_32 (by decide) (by omega) (fun c_32 => absurd c_32 (by omega)) (fun c_32 => ?_)
    refine q_iconst hx hb dX7_accept_35 ?_
    exact hret () H locs 36 ls trivial hw dX7_accept_36
  · refine lv_aload_n hx hb dX7_accept_10 rfl (lv_at hl 0 rfl) ?_
    refine q_get hx hb hts hown hK hw.1 ci_X7 0 rfl 14 (by decide) fl_X7_20 rfl dX7_accept_11 ?_
    refine q_iconst hx hb dX7_accept_14 ?_
    refine q_iald hx hb hK hw.1 4 0 rfl rfl (z := 5) (v := (sa 5)) (by omega) rfl dX7_accept_15 ?_
    refine q_iconst hx hb dX7_accept_16 ?_
    refine q_icmp_ne (tgt := 24) hx hb dX7_accept_17 (by decide) (by omega) (fun c_17 => absurd c_17 (by omega)) (fun c_17 => ?_)
    refine q_iconst hx hb dX7_accept_20 ?_
    refine lv_goto (tgt := 25) hx hb dX7_accept_21 (by decide) ?_
    refine q_put hx hb hts hown hK hw ci_X7 0 rfl 0 (by decide) fl_X7_45 rfl rfl rfl (Nat.le_of_ble_eq_true rfl) dX7_accept_25 (fun H locs hw => ?_)
    have hw : qw D A s.heap (mW g cI cB cZ 1 len tl ts te tk nu er eo hL hS dp bf dr td sa ad hi sl sv tr) H locs := hw
    refine lv_aload_n hx hb dX7_accept_28 rfl (lv_at hl 0 rfl) ?_
    refine q_get hx hb hts hown hK hw.1 ci_X7 0 rfl 0 (by decide) fl_X7_45 rfl dX7_accept_29 ?_
    refine q_if_le (tgt := 37) hx hb dX7_accept_32 (by decide) (by omega) (fun c_32 => absurd c_32 (by omega)) (fun c_32 => ?_)
    refine q_iconst hx hb dX7_accept_35 ?_
    exact hret () H locs 36 ls trivial hw dX7_accept_36

set_option maxHeartbeats 4000000 in
set_option maxRecDepth 100000 in
theorem c_X7_putBack_no (hM : WM td sa T C) (h0 : C 11 2 = 0) : qM l D (tyG cI cB cZ cS cJ) yX7_putBack cX7_putBack 3 (Option.some FieldType.int) 0 0 [.ref (g 0)] (mW g cI cB cZ th len tl ts te tk nu er eo hL hS dp bf dr td sa ad hi sl sv tr) (fun u : Unit => True) (fun u => some (.int (iI 0))) (fun u => (mW g cI cB cZ 1 len tl ts te tk nu er eo hL hS dp bf dr td sa ad hi sl sv tr)) := by
  have hsc := hM.sc
  have hlm := hM.lm
  have hB : BB T C := hM.2.2.1.hB hM.1
  refine qM_enterI (val := fun u => iI 0) (by decide) (Nat.le_of_ble_eq_true rfl) (fun u hu => ⟨rfl, nar_i _⟩) (fun p e R s m args below meth c Q ls A X hR hA hw hl hret => ?_)
  obtain ⟨hx, hb, hml, hown, hts, hK⟩ := X
  have hl : lv_has ls 3 [(0, .ref (g 0))] := hl
  suffices K : ∀ (H : Heap) (locs : List Loc), qw D A s.heap (mW g cI cB cZ th len tl ts te tk nu er eo hL hS dp bf dr td sa ad hi sl sv tr) H locs → W p l e R s m args below meth c H locs 0 0 Q (F0 m 0 ls []) from K s.heap [] hw
  clear hw
  intro H locs hw
  refine lv_aload_n hx hb dX7_putBack_0 rfl (lv_at hl 0 rfl) ?_
  refine lv_aload_n hx hb dX7_putBack_1 rfl (lv_at hl 0 rfl) ?_
  refine q_get hx hb hts hown hK hw.1 ci_X7 0 rfl 14 (by decide) fl_X7_20 rfl dX7_putBack_2 ?_
  refine q_iconst hx hb dX7_putBack_5 ?_
  refine q_iald hx hb hK hw.1 4 0 rfl rfl (z := 5) (v := (sa 5)) (by omega) rfl dX7_putBack_6 ?_
  refine q_if_ne (tgt := 14) hx hb dX7_putBack_7 (by decide) (by omega) (fun c_7 => absurd c_7 (by omega)) (fun c_7 => ?_)
  refine q_iconst hx hb dX7_putBack_10 ?_
  refine lv_goto (tgt := 15) hx hb dX7_putBack_11 (by decide) ?_
  refine q_put hx hb hts hown hK hw ci_X7 0 rfl 0 (by decide) fl_X7_45 rfl rfl rfl (Nat.le_of_ble_eq_true rfl) dX7_putBack_15 (fun H locs hw => ?_)
  have hw : qw D A s.heap (mW g cI cB cZ 1 len tl ts te tk nu er eo hL hS dp bf dr td sa ad hi sl sv tr) H locs := hw
  refine lv_aload_n hx hb dX7_putBack_18 rfl (lv_at hl 0 rfl) ?_
  refine q_get hx hb hts hown hK hw.1 ci_X7 0 rfl 0 (by decide) fl_X7_45 rfl dX7_putBack_19 ?_
  refine q_if_le (tgt := 27) hx hb dX7_putBack_22 (by decide) (by omega) (fun c_22 => absurd c_22 (by omega)) (fun c_22 => ?_)
  refine q_iconst hx hb dX7_putBack_25 ?_
  exact hret () H locs 26 ls trivial hw dX7_putBack_26

set_option maxHeartbeats 4000000 in
set_option maxRecDepth 100000 in
theorem c_X7_endJob_no1 (cd : Int) (h0 : cd < 0 ∨ 999 < cd) : qM l D (tyG cI cB cZ cS cJ) yX7_endJob cX7_endJob 2 (Option.some FieldType.int) 1 22 [.ref (g 0), .int (iI cd)] (mW g cI cB cZ th len tl ts te tk nu er eo hL hS dp bf dr td sa ad hi sl sv tr) (fun u : Unit => True) (fun u => some (.int (iI 0))) (fun u => (mW g cI cB cZ 1 len tl ts te tk nu er eo hL hS dp bf dr td sa ad hi sl sv tr)) := by
  refine qM_enterI (val := fun u => iI 0) (by decide) (Nat.le_of_ble_eq_true rfl) (fun u hu => ⟨rfl, nar_i _⟩) (fun p e R s m args below meth c Q ls A X hR hA hw hl hret => ?_)
  obtain ⟨hx, hb, hml, hown, hts, hK⟩ := X
  have hl : lv_has ls 2 [(0, .ref (g 0)), (1, .int (iI cd))] := hl
  suffices K : ∀ (H : Heap) (locs : List Loc), qw D A s.heap (mW g cI cB cZ th len tl ts te tk nu er eo hL hS dp bf dr td sa ad hi sl sv tr) H locs → W p l e R s m args below meth c H locs 0 0 Q (F0 m 0 ls []) from K s.heap [] hw
  clear hw
  intro H locs hw
  refine lv_aload_n hx hb dX7_endJob_0 rfl (lv_at hl 0 rfl) ?_
  refine lv_iload_n hx hb dX7_endJob_1 rfl (lv_at hl 1 rfl) ?_
  refine q_iconst hx hb dX7_endJob_2 ?_
  refine q_sipush hx hb dX7_endJob_3 rfl ?_
  refine q_callPS (As := [.int (iI cd), .int (iI 0), .int (iI 999)]) (rest := [.ref (g 0)]) hx hb hml hown hts hK (c_X7_within (cd) (0) (999) (by first | omega | assumption) (by first | omega | assumption) (by first | omega | assumption)) yt_X7_within ml_X7_72 (by rw [hR]; decide) (show va_P D vwCl [] _ from fun k q h => by simp at h)  rfl rfl hl.1 (lv_room (Nat.le_of_ble_eq_true rfl)) dX7_endJob_6 ⟨by rw [hR]; exact Nat.zero_le _, by rw [hR]; exact Nat.zero_le _⟩ ?_
  refine q_ifb_ne (tgt := 16) hx hb dX7_endJob_9 (by decide) (fun c_9 => absurd c_9 (by omega)) (fun c_9 => ?_)
  refine q_iconst hx hb dX7_endJob_12 ?_
  refine lv_goto (tgt := 33) hx hb dX7_endJob_13 (by decide) ?_
  refine q_put hx hb hts hown hK hw ci_X7 0 rfl 0 (by decide) fl_X7_45 rfl rfl rfl (Nat.le_of_ble_eq_true rfl) dX7_endJob_33 (fun H locs hw => ?_)
  have hw : qw D A s.heap (mW g cI cB cZ 1 len tl ts te tk nu er eo hL hS dp bf dr td sa ad hi sl sv tr) H locs := hw
  refine lv_aload_n hx hb dX7_endJob_36 rfl (lv_at hl 0 rfl) ?_
  refine q_get hx hb hts hown hK hw.1 ci_X7 0 rfl 0 (by decide) fl_X7_45 rfl dX7_endJob_37 ?_
  refine q_if_le (tgt := 45) hx hb dX7_endJob_40 (by decide) (by omega) (fun c_40 => absurd c_40 (by omega)) (fun c_40 => ?_)
  refine q_iconst hx hb dX7_endJob_43 ?_
  exact hret () H locs 44 ls trivial hw dX7_endJob_44

set_option maxHeartbeats 4000000 in
set_option maxRecDepth 100000 in
theorem c_X7_endJob_no2 (cd : Int) (hM : WM td sa T C) (h0 : 0 ≤ cd ∧ cd ≤ 999) (h1 : 99 ≤ C 11 4) : qM l D (tyG cI cB cZ cS cJ) yX7_endJob cX7_endJob 2 (Option.some FieldType.int) 1 22 [.ref (g 0), .int (iI cd)] (mW g cI cB cZ th len tl ts te tk nu er eo hL hS dp bf dr td sa ad hi sl sv tr) (fun u : Unit => True) (fun u => some (.int (iI 0))) (fun u => (mW g cI cB cZ 2 len tl ts te tk nu er eo hL hS dp bf dr td sa ad hi sl sv tr)) := by
  have hsc := hM.sc
  have hlm := hM.lm
  have hB : BB T C := hM.2.2.1.hB hM.1
  refine qM_enterI (val := fun u => iI 0) (by decide) (Nat.le_of_ble_eq_true rfl) (fun u hu => ⟨rfl, nar_i _⟩) (fun p e R s m args below meth c Q ls A X hR hA hw hl hret => ?_)
  obtain ⟨hx, hb, hml, hown, hts, hK⟩ := X
  have hl : lv_has ls 2 [(0, .ref (g 0)), (1, .int (iI cd))] := hl
  suffices K : ∀ (H : Heap) (locs : List Loc), qw D A s.heap (mW g cI cB cZ th len tl ts te tk nu er eo hL hS dp bf dr td sa ad hi sl sv tr) H locs → W p l e R s m args below meth c H locs 0 0 Q (F0 m 0 ls []) from K s.heap [] hw
  clear hw
  intro H locs hw
  refine lv_aload_n hx hb dX7_endJob_0 rfl (lv_at hl 0 rfl) ?_
  refine lv_iload_n hx hb dX7_endJob_1 rfl (lv_at hl 1 rfl) ?_
  refine q_iconst hx hb dX7_endJob_2 ?_
  refine q_sipush hx hb dX7_endJob_3 rfl ?_
  refine q_callPS (As := [.int (iI cd), .int (iI 0), .int (iI 999)]) (rest := [.ref (g 0)]) hx hb hml hown hts hK (c_X7_within (cd) (0) (999) (by first | omega | assumption) (by first | omega | assumption) (by first | omega | assumption)) yt_X7_within ml_X7_72 (by rw [hR]; decide) (show va_P D vwCl [] _ from fun k q h => by simp at h)  rfl rfl hl.1 (lv_room (Nat.le_of_ble_eq_true rfl)) dX7_endJob_6 ⟨by rw [hR]; exact Nat.zero_le _, by rw [hR]; exact Nat.zero_le _⟩ ?_
  refine q_ifb_ne (tgt := 16) hx hb dX7_endJob_9 (by decide) (fun c_9 => ?_) (fun c_9 => absurd c_9 (by omega))
  refine lv_aload_n hx hb dX7_endJob_16 rfl (lv_at hl 0 rfl) ?_
  refine q_get hx hb hts hown hK hw.1 ci_X7 0 rfl 14 (by decide) fl_X7_20 rfl dX7_endJob_17 ?_
  refine q_bipush hx hb dX7_endJob_20 rfl ?_
  refine q_iald hx hb hK hw.1 4 0 rfl rfl (z := 16) (v := (sa 16)) (by omega) rfl dX7_endJob_22 ?_
  refine q_bipush hx hb dX7_endJob_23 rfl ?_
  refine q_icmp_lt (tgt := 32) hx hb dX7_endJob_25 (by decide) (by omega) (fun c_25 => absurd c_25 (by omega)) (fun c_25 => ?_)
  refine q_iconst hx hb dX7_endJob_28 ?_
  refine lv_goto (tgt := 33) hx hb dX7_endJob_29 (by decide) ?_
  refine q_put hx hb hts hown hK hw ci_X7 0 rfl 0 (by decide) fl_X7_45 rfl rfl rfl (Nat.le_of_ble_eq_true rfl) dX7_endJob_33 (fun H locs hw => ?_)
  have hw : qw D A s.heap (mW g cI cB cZ 2 len tl ts te tk nu er eo hL hS dp bf dr td sa ad hi sl sv tr) H locs := hw
  refine lv_aload_n hx hb dX7_endJob_36 rfl (lv_at hl 0 rfl) ?_
  refine q_get hx hb hts hown hK hw.1 ci_X7 0 rfl 0 (by decide) fl_X7_45 rfl dX7_endJob_37 ?_
  refine q_if_le (tgt := 45) hx hb dX7_endJob_40 (by decide) (by omega) (fun c_40 => absurd c_40 (by omega)) (fun c_40 => ?_)
  refine q_iconst hx hb dX7_endJob_43 ?_
  exact hret () H locs 44 ls trivial hw dX7_endJob_44

set_option maxHeartbeats 4000000 in
set_option maxRecDepth 100000 in
theorem c_X7_endJob (cd : Int) (hM : WM td sa T C) (hdp : 0 ≤ dp ∧ dp ≤ 10) (h0 : 0 ≤ cd ∧ cd ≤ 999) (h1 : C 11 4 < 99) : qM l D (tyG cI cB cZ cS cJ) yX7_endJob cX7_endJob 2 (Option.some FieldType.int) 2 45 [.ref (g 0), .int (iI cd)] (mW g cI cB cZ th len tl ts te tk nu er eo hL hS dp bf dr td sa ad hi sl sv tr) (fun u : (Int → Int) × (Int → Int) × (Int) => (WM td ((u.1)) T (bgJ C cd)) ∧ (((u.2.1)) = kpH hi dp sa) ∧ (((u.2.2)) = kpD dp)) (fun u => some (.int (iI (C 11 4)))) (fun u => (mW g cI cB cZ 0 len tl ts te tk nu er eo hL hS (u.2.2) bf dr td (u.1) ad (u.2.1) sl sv tr)) := by
  have hsc := hM.sc
  have hlm := hM.lm
  have hB : BB T C := hM.2.2.1.hB hM.1
  refine qM_enterI (val := fun u => iI (C 11 4)) (by decide) (Nat.le_of_ble_eq_true rfl) (fun u hu => ⟨rfl, nar_i _⟩) (fun p e R s m args below meth c Q ls A X hR hA hw hl hret => ?_)
  obtain ⟨hx, hb, hml, hown, hts, hK⟩ := X
  have hl : lv_has ls 2 [(0, .ref (g 0)), (1, .int (iI cd))] := hl
  suffices K : ∀ (H : Heap) (locs : List Loc), qw D A s.heap (mW g cI cB cZ th len tl ts te tk nu er eo hL hS dp bf dr td sa ad hi sl sv tr) H locs → W p l e R s m args below meth c H locs 0 0 Q (F0 m 0 ls []) from K s.heap [] hw
  clear hw
  intro H locs hw
  refine lv_aload_n hx hb dX7_endJob_0 rfl (lv_at hl 0 rfl) ?_
  refine lv_iload_n hx hb dX7_endJob_1 rfl (lv_at hl 1 rfl) ?_
  refine q_iconst hx hb dX7_endJob_2 ?_
  refine q_sipush hx hb dX7_endJob_3 rfl ?_
  refine q_callPS (As := [.int (iI cd), .int (iI 0), .int (iI 999)]) (rest := [.ref (g 0)]) hx hb hml hown hts hK (c_X7_within (cd) (0) (999) (by first | omega | assumption) (by first | omega | assumption) (by first | omega | assumption)) yt_X7_within ml_X7_72 (by rw [hR]; decide) (show va_P D vwCl [] _ from fun k q h => by simp at h)  rfl rfl hl.1 (lv_room (Nat.le_of_ble_eq_true rfl)) dX7_endJob_6 ⟨by rw [hR]; exact Nat.zero_le _, by rw [hR]; exact Nat.zero_le _⟩ ?_
  refine q_ifb_ne (tgt := 16) hx hb dX7_endJob_9 (by decide) (fun c_9 => ?_) (fun c_9 => absurd c_9 (by omega))
  refine lv_aload_n hx hb dX7_endJob_16 rfl (lv_at hl 0 rfl) ?_
  refine q_get hx hb hts hown hK hw.1 ci_X7 0 rfl 14 (by decide) fl_X7_20 rfl dX7_endJob_17 ?_
  refine q_bipush hx hb dX7_endJob_20 rfl ?_
  refine q_iald hx hb hK hw.1 4 0 rfl rfl (z := 16) (v := (sa 16)) (by omega) rfl dX7_endJob_22 ?_
  refine q_bipush hx hb dX7_endJob_23 rfl ?_
  refine q_icmp_lt (tgt := 32) hx hb dX7_endJob_25 (by decide) (by omega) (fun c_25 => ?_) (fun c_25 => absurd c_25 (by omega))
  refine q_iconst hx hb dX7_endJob_32 ?_
  refine q_put hx hb hts hown hK hw ci_X7 0 rfl 0 (by decide) fl_X7_45 rfl rfl rfl (Nat.le_of_ble_eq_true rfl) dX7_endJob_33 (fun H locs hw => ?_)
  have hw : qw D A s.heap (mW g cI cB cZ 0 len tl ts te tk nu er eo hL hS dp bf dr td sa ad hi sl sv tr) H locs := hw
  refine lv_aload_n hx hb dX7_endJob_36 rfl (lv_at hl 0 rfl) ?_
  refine q_get hx hb hts hown hK hw.1 ci_X7 0 rfl 0 (by decide) fl_X7_45 rfl dX7_endJob_37 ?_
  refine q_if_le (tgt := 45) hx hb dX7_endJob_40 (by decide) (by omega) (fun c_40 => ?_) (fun c_40 => absurd c_40 (by omega))
  refine lv_aload_n hx hb dX7_endJob_45 rfl (lv_at hl 0 rfl) ?_
  refine q_callM (As := []) (rest := []) (wr := []) hx hb hml hown hts hK (c_X7_keep (by first | omega | assumption)) yi_X7_keep ml_X7_222 (by rw [hR]; decide) hw hA [0, 1, 2, 3, 4, 5, 6, 7, 8, 9] [] rfl rfl (by decide) (by decide) (by decide) 0 rfl rfl rfl rfl hl.1 (lv_room (Nat.le_of_ble_eq_true rfl)) dX7_endJob_46 ⟨by rw [hR]; exact Nat.zero_le _, by rw [hR]; exact Nat.zero_le _⟩ (fun u_46 H locs hu_46 hw => ?_)
  obtain ⟨h2_1, d2_1⟩ := u_46
  obtain ⟨hu_1_0, hu_1_1⟩ : (h2_1 = kpH hi dp sa) ∧ (d2_1 = kpD dp) := hu_46
  have hw : qw D A s.heap (mW g cI cB cZ 0 len tl ts te tk nu er eo hL hS d2_1 bf dr td sa ad h2_1 sl sv tr) H locs := hw
  refine lv_aload_n hx hb dX7_endJob_49 rfl (lv_at hl 0 rfl) ?_
  refine lv_iload_n hx hb dX7_endJob_50 rfl (lv_at hl 1 rfl) ?_
  refine q_callM (As := [.int (iI cd)]) (rest := []) (wr := []) hx hb hml hown hts hK (c_X7_beginJob (C := C) (J := (shJ C)) (cd) (by exact hB) (by exact hM.2.2.2) (by first | omega | assumption) (by first | omega | assumption)) yi_X7_beginJob ml_X7_203 (by rw [hR]; decide) hw hA [0, 1, 2, 3, 4, 5, 6, 7, 8, 9] [] rfl rfl (by decide) (by decide) (by decide) 0 rfl rfl rfl rfl hl.1 (lv_room (Nat.le_of_ble_eq_true rfl)) dX7_endJob_51 ⟨by rw [hR]; exact Nat.zero_le _, by rw [hR]; exact Nat.zero_le _⟩ (fun u_51 H locs hu_51 hw => ?_)
  obtain ⟨s2_2, rfl⟩ : ∃ z, z = u_51 := ⟨_, rfl⟩
  have hu_2_0 : RJ s2_2 T (bgJ ((C)) cd) (uI (((shJ C))) (((C)) 11 4) 0) := hu_51
  have hw : qw D A s.heap (mW g cI cB cZ 0 len tl ts te tk nu er eo hL hS d2_1 bf dr td s2_2 ad h2_1 sl sv tr) H locs := hw
  refine lv_aload_n hx hb dX7_endJob_54 rfl (lv_at hl 0 rfl) ?_
  refine q_get hx hb hts hown hK hw.1 ci_X7 0 rfl 14 (by decide) fl_X7_20 rfl dX7_endJob_55 ?_
  refine q_bipush hx hb dX7_endJob_58 rfl ?_
  refine q_iald hx hb hK hw.1 4 0 rfl rfl (z := 16) (v := (C 11 4 + 1)) (by omega) (by exact hu_2_0.s16) dX7_endJob_60 ?_
  refine q_iconst hx hb dX7_endJob_61 ?_
  refine q_isub hx hb dX7_endJob_62 ?_
  refine q_top (C 11 4) (by first | rfl | omega) ?_
  exact hret (s2_2, h2_1, d2_1) H locs 63 ls ⟨(by exact ⟨hM.1, hM.2.1, WC_bgJ hM.2.2.1 (by omega) h1, RJ_Jc hu_2_0 (fun j a b => shJ_bg hM.2.2.1 b)⟩), (by assumption), (by assumption)⟩ hw dX7_endJob_63
