variable {l : Launch} {z : Nat → Nat} {T C : Nat → Int → Int} {J : Int → Int} {D : va_G} {cI cB cZ cS cJ : ClassId} {g : Nat → Nat} {th len tl ts te tk nu er eo hL hS dp : Int} {bf dr td sa ad hi sl sv tr : Int → Int}
set_option maxHeartbeats 4000000 in
set_option maxRecDepth 100000 in
theorem c_X7_takeDraft (hT : RT dr C) (hW : WT C) : qM l D (tyG cI cB cZ cS cJ) yX7_takeDraft cX7_takeDraft 2 (Option.none) 1 22 [.ref (g 0)] (mW g cI cB cZ th len tl ts te tk nu er eo hL hS dp bf dr td sa ad hi sl sv tr) (fun u : (Int → Int) × (Int → Int) × (Int → Int) => (RT ((u.1)) C) ∧ (∀ D : Nat → Int → Int, frC C D → WM ((u.1)) ((u.2.1)) C D) ∧ (((u.2.2)) = uI (uI sv 0 0) 1 0)) (fun _ => none) (fun u => (mW g cI cB cZ th len tl ts te tk nu er eo hL hS 0 bf dr (u.1) (u.2.1) ad hi sl (u.2.2) tr)) := by
  have q_2 := hT.1
  have q_w := hW.1
  refine qM_enterV (by decide) (Nat.le_of_ble_eq_true rfl) (fun p e R s m args below meth c Q ls A X hR hA hw hl hret => ?_)
  obtain ⟨hx, hb, hml, hown, hts, hK⟩ := X
  have hl : lv_has ls 2 [(0, .ref (g 0))] := hl
  suffices K : ∀ (H : Heap) (locs : List Loc), qw D A s.heap (mW g cI cB cZ th len tl ts te tk nu er eo hL hS dp bf dr td sa ad hi sl sv tr) H locs → W p l e R s m args below meth c H locs 0 0 Q (F0 m 0 ls []) from K s.heap [] hw
  clear hw
  intro H locs hw
  refine q_iconst hx hb dX7_takeDraft_0 ?_
  refine lv_istore_n (lv' := [(1, .int (iI 0)), (0, .ref (g 0))]) hx hb dX7_takeDraft_1 rfl hl (by decide) rfl (fun ls hl => ?_)
  have loop_2 : ∀ (fu : Nat) (y : Int → Int) (k1 : Int) (H : Heap) (locs : List Loc) (ls : Array Slot), (288 - k1).toNat = fu → (∀ j : Int, 0 ≤ j → j < k1 → y j = dr j) → (0 ≤ k1 ∧ k1 ≤ 288) → qw D A s.heap (mW g cI cB cZ th len tl ts te tk nu er eo hL hS dp bf dr y sa ad hi sl sv tr) H locs → lv_has ls 2 [(0, .ref (g 0)), (1, .int (iI k1))] → W p l e R s m args below meth c H locs 0 0 Q (F0 m 2 ls []) := by
    intro fu
    induction fu using Nat.strongRecOn with
    | ind fu ih_2 =>
    intro y k1 H locs ls hn_2 h_y h_1 hw hl
    refine lv_iload_n hx hb dX7_takeDraft_2 rfl (lv_at hl 1 rfl) ?_
    refine q_sipush hx hb dX7_takeDraft_3 rfl ?_
    refine q_icmp_ge (tgt := 27) hx hb dX7_takeDraft_6 (by decide) (by omega) (fun c_6 => ?_) (fun c_6 => ?_)
    · have h_yy : ∀ j : Int, 0 ≤ j → j < 288 → y j = dr j := fun j a b => h_y j a (by omega)
      refine q_iconst hx hb dX7_takeDraft_27 ?_
      refine lv_istore_n (lv' := [(1, .int (iI 0)), (0, .ref (g 0))]) hx hb dX7_takeDraft_28 rfl hl (by decide) rfl (fun ls hl => ?_)
      have loop_29 : ∀ (fu : Nat) (x : Int → Int) (k2 : Int) (H : Heap) (locs : List Loc) (ls : Array Slot), (706 - k2).toNat = fu → (∀ j : Int, 0 ≤ j → j < k2 → x j = 0) → (0 ≤ k2 ∧ k2 ≤ 706) → qw D A s.heap (mW g cI cB cZ th len tl ts te tk nu er eo hL hS dp bf dr y x ad hi sl sv tr) H locs → lv_has ls 2 [(0, .ref (g 0)), (1, .int (iI k2))] → W p l e R s m args below meth c H locs 0 0 Q (F0 m 29 ls []) := by
        intro fu
        induction fu using Nat.strongRecOn with
        | ind fu ih_29 =>
        intro x k2 H locs ls hn_29 h_x h_2 hw hl
        refine lv_iload_n hx hb dX7_takeDraft_29 rfl (lv_at hl 1 rfl) ?_
        refine q_sipush hx hb dX7_takeDraft_30 rfl ?_
        refine q_icmp_ge (tgt := 49) hx hb dX7_takeDraft_33 (by decide) (by omega) (fun c_33 => ?_) (fun c_33 => ?_)
        · refine lv_aload_n hx hb dX7_takeDraft_49 rfl (lv_at hl 0 rfl) ?_
          refine q_get hx hb hts hown hK hw.1 ci_X7 0 rfl 14 (by decide) fl_X7_20 rfl dX7_takeDraft_50 ?_
          refine q_iconst hx hb dX7_takeDraft_53 ?_
          refine lv_aload_n hx hb dX7_takeDraft_54 rfl (lv_at hl 0 rfl) ?_
          refine q_get hx hb hts hown hK hw.1 ci_X7 0 rfl 11 (by decide) fl_X7_17 rfl dX7_takeDraft_55 ?_
          refine q_iconst hx hb dX7_takeDraft_58 ?_
          refine q_iald hx hb hK hw.1 3 0 rfl rfl (z := 3) (v := (C 8 3)) (by omega) (by rw [h_y 3 (by decide) (by omega)]; exact q_2.2.2.2) dX7_takeDraft_59 ?_
          refine q_iast hx hb hK hw 4 0 rfl rfl (by omega) dX7_takeDraft_60 (fun H locs hw => ?_)
          have hw : qw D A s.heap (mW g cI cB cZ th len tl ts te tk nu er eo hL hS dp bf dr y (uI x 0 (C 8 3)) ad hi sl sv tr) H locs := hw
          obtain ⟨f_1, e_f_1⟩ : ∃ z, z = uI x 0 (C 8 3) := ⟨_, rfl⟩
          have hw : qw D A s.heap (mW g cI cB cZ th len tl ts te tk nu er eo hL hS dp bf dr y f_1 ad hi sl sv tr) H locs := by rw [e_f_1]; exact hw
          refine q_iconst hx hb dX7_takeDraft_61 ?_
          refine lv_istore_n (lv' := [(1, .int (iI 0)), (0, .ref (g 0))]) hx hb dX7_takeDraft_62 rfl hl (by decide) rfl (fun ls hl => ?_)
          have loop_63 : ∀ (fu : Nat) (x3 : Int → Int) (k3 : Int) (H : Heap) (locs : List Loc) (ls : Array Slot), (4 - k3).toNat = fu → (tk3 C k3 x3) → (0 ≤ k3 ∧ k3 ≤ 4) → qw D A s.heap (mW g cI cB cZ th len tl ts te tk nu er eo hL hS dp bf dr y x3 ad hi sl sv tr) H locs → lv_has ls 2 [(0, .ref (g 0)), (1, .int (iI k3))] → W p l e R s m args below meth c H locs 0 0 Q (F0 m 63 ls []) := by
            intro fu
            induction fu using Nat.strongRecOn with
            | ind fu ih_63 =>
            intro x3 k3 H locs ls hn_63 h_3 h_k3 hw hl
            refine lv_iload_n hx hb dX7_takeDraft_63 rfl (lv_at hl 1 rfl) ?_
            refine q_iconst hx hb dX7_takeDraft_64 ?_
            refine q_icmp_ge (tgt := 90) hx hb dX7_takeDraft_65 (by decide) (by omega) (fun c_65 => ?_) (fun c_65 => ?_)
            · refine q_iconst hx hb dX7_takeDraft_90 ?_
              refine lv_istore_n (lv' := [(1, .int (iI 0)), (0, .ref (g 0))]) hx hb dX7_takeDraft_91 rfl hl (by decide) rfl (fun ls hl => ?_)
              have loop_92 : ∀ (fu : Nat) (x4 : Int → Int) (k4 : Int) (H : Heap) (locs : List Loc) (ls : Array Slot), (C 8 0 - k4).toNat = fu → (tk4 C k4 x4) → (0 ≤ k4 ∧ k4 ≤ C 8 0) → qw D A s.heap (mW g cI cB cZ th len tl ts te tk nu er eo hL hS dp bf dr y x4 ad hi sl sv tr) H locs → lv_has ls 2 [(0, .ref (g 0)), (1, .int (iI k4))] → W p l e R s m args below meth c H locs 0 0 Q (F0 m 92 ls []) := by
                intro fu
                induction fu using Nat.strongRecOn with
                | ind fu ih_92 =>
                intro x4 k4 H locs ls hn_92 h_4 h_k4 hw hl
                have q_n : y 2 = C 8 0 := by rw [h_y 2 (by decide) (by omega)]; exact q_2.2.2.1
                refine lv_iload_n hx hb dX7_takeDraft_92 rfl (lv_at hl 1 rfl) ?_
                refine lv_aload_n hx hb dX7_takeDraft_93 rfl (lv_at hl 0 rfl) ?_
                refine q_callP (As := []) (rest := [.int (iI k4)]) hx hb hml hown hts hK c_X7_sheets yi_X7_sheets ml_X7_164 (by rw [hR]; decide) hw.1 0 rfl rfl rfl rfl hl.1 (lv_room (Nat.le_of_ble_eq_true rfl)) dX7_takeDraft_94 ⟨by rw [hR]; exact Nat.zero_le _, by rw [hR]; exact Nat.zero_le _⟩ ?_
                refine q_top (C 8 0) (by exact q_n) ?_
                refine q_icmp_ge (tgt := 159) hx hb dX7_takeDraft_97 (by decide) (by omega) (fun c_97 => ?_) (fun c_97 => ?_)
                · refine lv_aload_n hx hb dX7_takeDraft_159 rfl (lv_at hl 0 rfl) ?_
                  refine q_get hx hb hts hown hK hw.1 ci_X7 0 rfl 14 (by decide) fl_X7_20 rfl dX7_takeDraft_160 ?_
                  refine q_bipush hx hb dX7_takeDraft_163 rfl ?_
                  refine lv_aload_n hx hb dX7_takeDraft_165 rfl (lv_at hl 0 rfl) ?_
                  refine q_callP (As := []) (rest := [.int (iI 6), .ref (g 4)]) hx hb hml hown hts hK c_X7_sheets yi_X7_sheets ml_X7_164 (by rw [hR]; decide) hw.1 0 rfl rfl rfl rfl hl.1 (lv_room (Nat.le_of_ble_eq_true rfl)) dX7_takeDraft_166 ⟨by rw [hR]; exact Nat.zero_le _, by rw [hR]; exact Nat.zero_le _⟩ ?_
                  refine q_top (C 8 0) (by exact q_n) ?_
                  refine q_iast hx hb hK hw 4 0 rfl rfl (by omega) dX7_takeDraft_169 (fun H locs hw => ?_)
                  have hw : qw D A s.heap (mW g cI cB cZ th len tl ts te tk nu er eo hL hS dp bf dr y (uI x4 6 (C 8 0)) ad hi sl sv tr) H locs := hw
                  obtain ⟨f_2, e_f_2⟩ : ∃ z, z = uI x4 6 (C 8 0) := ⟨_, rfl⟩
                  have hw : qw D A s.heap (mW g cI cB cZ th len tl ts te tk nu er eo hL hS dp bf dr y f_2 ad hi sl sv tr) H locs := by rw [e_f_2]; exact hw
                  refine lv_aload_n hx hb dX7_takeDraft_170 rfl (lv_at hl 0 rfl) ?_
                  refine q_get hx hb hts hown hK hw.1 ci_X7 0 rfl 14 (by decide) fl_X7_20 rfl dX7_takeDraft_171 ?_
                  refine q_bipush hx hb dX7_takeDraft_174 rfl ?_
                  refine q_iconst hx hb dX7_takeDraft_176 ?_
                  refine q_iast hx hb hK hw 4 0 rfl rfl (by omega) dX7_takeDraft_177 (fun H locs hw => ?_)
                  have hw : qw D A s.heap (mW g cI cB cZ th len tl ts te tk nu er eo hL hS dp bf dr y (uI f_2 16 1) ad hi sl sv tr) H locs := hw
                  obtain ⟨f_3, e_f_3⟩ : ∃ z, z = uI f_2 16 1 := ⟨_, rfl⟩
                  have hw : qw D A s.heap (mW g cI cB cZ th len tl ts te tk nu er eo hL hS dp bf dr y f_3 ad hi sl sv tr) H locs := by rw [e_f_3]; exact hw
                  refine lv_aload_n hx hb dX7_takeDraft_178 rfl (lv_at hl 0 rfl) ?_
                  refine q_get hx hb hts hown hK hw.1 ci_X7 0 rfl 14 (by decide) fl_X7_20 rfl dX7_takeDraft_179 ?_
                  refine q_sipush hx hb dX7_takeDraft_182 rfl ?_
                  refine q_iconst hx hb dX7_takeDraft_185 ?_
                  refine q_iast hx hb hK hw 4 0 rfl rfl (by omega) dX7_takeDraft_186 (fun H locs hw => ?_)
                  have hw : qw D A s.heap (mW g cI cB cZ th len tl ts te tk nu er eo hL hS dp bf dr y (uI f_3 426 (-1)) ad hi sl sv tr) H locs := hw
                  obtain ⟨f_4, e_f_4⟩ : ∃ z, z = uI f_3 426 (-1) := ⟨_, rfl⟩
                  have hw : qw D A s.heap (mW g cI cB cZ th len tl ts te tk nu er eo hL hS dp bf dr y f_4 ad hi sl sv tr) H locs := by rw [e_f_4]; exact hw
                  refine lv_aload_n hx hb dX7_takeDraft_187 rfl (lv_at hl 0 rfl) ?_
                  refine q_iconst hx hb dX7_takeDraft_188 ?_
                  refine q_put hx hb hts hown hK hw ci_X7 0 rfl 17 (by decide) fl_X7_173 rfl rfl rfl (Nat.le_of_ble_eq_true rfl) dX7_takeDraft_189 (fun H locs hw => ?_)
                  have hw : qw D A s.heap (mW g cI cB cZ th len tl ts te tk nu er eo hL hS 0 bf dr y f_4 ad hi sl sv tr) H locs := hw
                  refine lv_aload_n hx hb dX7_takeDraft_192 rfl (lv_at hl 0 rfl) ?_
                  refine q_get hx hb hts hown hK hw.1 ci_X7 0 rfl 19 (by decide) fl_X7_32 rfl dX7_takeDraft_193 ?_
                  refine q_iconst hx hb dX7_takeDraft_196 ?_
                  refine q_iconst hx hb dX7_takeDraft_197 ?_
                  refine q_zast hx hb hK hw 8 2 rfl rfl (by first | exact Or.inl rfl | exact Or.inr rfl | omega) (by omega) dX7_takeDraft_198 (fun H locs hw => ?_)
                  have hw : qw D A s.heap (mW g cI cB cZ th len tl ts te tk nu er eo hL hS 0 bf dr y f_4 ad hi sl (uI sv 0 0) tr) H locs := hw
                  obtain ⟨f_5, e_f_5⟩ : ∃ z, z = uI sv 0 0 := ⟨_, rfl⟩
                  have hw : qw D A s.heap (mW g cI cB cZ th len tl ts te tk nu er eo hL hS 0 bf dr y f_4 ad hi sl f_5 tr) H locs := by rw [e_f_5]; exact hw
                  refine lv_aload_n hx hb dX7_takeDraft_199 rfl (lv_at hl 0 rfl) ?_
                  refine q_get hx hb hts hown hK hw.1 ci_X7 0 rfl 19 (by decide) fl_X7_32 rfl dX7_takeDraft_200 ?_
                  refine q_iconst hx hb dX7_takeDraft_203 ?_
                  refine q_iconst hx hb dX7_takeDraft_204 ?_
                  refine q_zast hx hb hK hw 8 2 rfl rfl (by first | exact Or.inl rfl | exact Or.inr rfl | omega) (by omega) dX7_takeDraft_205 (fun H locs hw => ?_)
                  have hw : qw D A s.heap (mW g cI cB cZ th len tl ts te tk nu er eo hL hS 0 bf dr y f_4 ad hi sl (uI f_5 1 0) tr) H locs := hw
                  obtain ⟨f_6, e_f_6⟩ : ∃ z, z = uI f_5 1 0 := ⟨_, rfl⟩
                  have hw : qw D A s.heap (mW g cI cB cZ th len tl ts te tk nu er eo hL hS 0 bf dr y f_4 ad hi sl f_6 tr) H locs := by rw [e_f_6]; exact hw
                  exact hret (y, f_4, f_6) H locs 206 ls ⟨(by exact RT_eq hT (by omega) h_yy), (by (rw [e_f_4, e_f_3, e_f_2]; exact WM_dr hW (RT_eq hT (by omega) h_yy) ((show k4 = C 8 0 by omega) ▸ h_4))), (by (rw [e_f_6, e_f_5]))⟩ hw dX7_takeDraft_206
                · refine lv_aload_n hx hb dX7_takeDraft_100 rfl (lv_at hl 0 rfl) ?_
                  refine q_get hx hb hts hown hK hw.1 ci_X7 0 rfl 14 (by decide) fl_X7_20 rfl dX7_takeDraft_101 ?_
                  refine lv_iload_n hx hb dX7_takeDraft_104 rfl (lv_at hl 1 rfl) ?_
                  refine q_callPS (As := [.int (iI k4)]) (rest := [.ref (g 4)]) hx hb hml hown hts hK (c_X7_of (k4)) yt_X7_of ml_X7_167 (by rw [hR]; decide) (show va_P D vwCl [] _ from fun k q h => by simp at h)  rfl rfl hl.1 (lv_room (Nat.le_of_ble_eq_true rfl)) dX7_takeDraft_105 ⟨by rw [hR]; exact Nat.zero_le _, by rw [hR]; exact Nat.zero_le _⟩ ?_
                  refine q_iconst hx hb dX7_takeDraft_108 ?_
                  refine q_iadd hx hb dX7_takeDraft_109 ?_
                  refine lv_aload_n hx hb dX7_takeDraft_110 rfl (lv_at hl 0 rfl) ?_
                  refine lv_iload_n hx hb dX7_takeDraft_111 rfl (lv_at hl 1 rfl) ?_
                  refine q_iconst hx hb dX7_takeDraft_112 ?_
                  refine q_callP (As := [.int (iI k4), .int (iI 2)]) (rest := [.int (iI (26 + 4 * k4 + 1)), .ref (g 4)]) hx hb hml hown hts hK (c_X7_toldOf (k4) (2) (by first | omega | assumption) (by first | omega | assumption)) yi_X7_toldOf ml_X7_170 (by rw [hR]; decide) hw.1 0 rfl rfl rfl rfl hl.1 (lv_room (Nat.le_of_ble_eq_true rfl)) dX7_takeDraft_113 ⟨by rw [hR]; exact Nat.zero_le _, by rw [hR]; exact Nat.zero_le _⟩ ?_
                  refine q_top (C 2 k4) (by rw [h_y _ (by omega) (by omega)]; exact hT.2.2 k4 2 (by omega) (by omega) (by decide)) ?_
                  refine q_iast hx hb hK hw 4 0 rfl rfl (by omega) dX7_takeDraft_116 (fun H locs hw => ?_)
                  have hw : qw D A s.heap (mW g cI cB cZ th len tl ts te tk nu er eo hL hS dp bf dr y (uI x4 (26 + 4 * k4 + 1) (C 2 k4)) ad hi sl sv tr) H locs := hw
                  obtain ⟨f_7, e_f_7⟩ : ∃ z, z = uI x4 (26 + 4 * k4 + 1) (C 2 k4) := ⟨_, rfl⟩
                  have hw : qw D A s.heap (mW g cI cB cZ th len tl ts te tk nu er eo hL hS dp bf dr y f_7 ad hi sl sv tr) H locs := by rw [e_f_7]; exact hw
                  refine lv_aload_n hx hb dX7_takeDraft_117 rfl (lv_at hl 0 rfl) ?_
                  refine q_get hx hb hts hown hK hw.1 ci_X7 0 rfl 14 (by decide) fl_X7_20 rfl dX7_takeDraft_118 ?_
                  refine lv_iload_n hx hb dX7_takeDraft_121 rfl (lv_at hl 1 rfl) ?_
                  refine q_callPS (As := [.int (iI k4)]) (rest := [.ref (g 4)]) hx hb hml hown hts hK (c_X7_of (k4)) yt_X7_of ml_X7_167 (by rw [hR]; decide) (show va_P D vwCl [] _ from fun k q h => by simp at h)  rfl rfl hl.1 (lv_room (Nat.le_of_ble_eq_true rfl)) dX7_takeDraft_122 ⟨by rw [hR]; exact Nat.zero_le _, by rw [hR]; exact Nat.zero_le _⟩ ?_
                  refine q_iconst hx hb dX7_takeDraft_125 ?_
                  refine q_iadd hx hb dX7_takeDraft_126 ?_
                  refine lv_aload_n hx hb dX7_takeDraft_127 rfl (lv_at hl 0 rfl) ?_
                  refine lv_iload_n hx hb dX7_takeDraft_128 rfl (lv_at hl 1 rfl) ?_
                  refine q_bipush hx hb dX7_takeDraft_129 rfl ?_
                  refine q_callP (As := [.int (iI k4), .int (iI 6)]) (rest := [.int (iI (26 + 4 * k4 + 2)), .ref (g 4)]) hx hb hml hown hts hK (c_X7_toldOf (k4) (6) (by first | omega | assumption) (by first | omega | assumption)) yi_X7_toldOf ml_X7_170 (by rw [hR]; decide) hw.1 0 rfl rfl rfl rfl hl.1 (lv_room (Nat.le_of_ble_eq_true rfl)) dX7_takeDraft_131 ⟨by rw [hR]; exact Nat.zero_le _, by rw [hR]; exact Nat.zero_le _⟩ ?_
                  refine q_top (C 6 k4) (by rw [h_y _ (by omega) (by omega)]; exact hT.2.2 k4 6 (by omega) (by omega) (by decide)) ?_
                  refine q_iast hx hb hK hw 4 0 rfl rfl (by omega) dX7_takeDraft_134 (fun H locs hw => ?_)
                  have hw : qw D A s.heap (mW g cI cB cZ th len tl ts te tk nu er eo hL hS dp bf dr y (uI f_7 (26 + 4 * k4 + 2) (C 6 k4)) ad hi sl sv tr) H locs := hw
                  obtain ⟨f_8, e_f_8⟩ : ∃ z, z = uI f_7 (26 + 4 * k4 + 2) (C 6 k4) := ⟨_, rfl⟩
                  have hw : qw D A s.heap (mW g cI cB cZ th len tl ts te tk nu er eo hL hS dp bf dr y f_8 ad hi sl sv tr) H locs := by rw [e_f_8]; exact hw
                  refine lv_aload_n hx hb dX7_takeDraft_135 rfl (lv_at hl 0 rfl) ?_
                  refine q_get hx hb hts hown hK hw.1 ci_X7 0 rfl 14 (by decide) fl_X7_20 rfl dX7_takeDraft_136 ?_
                  refine q_sipush hx hb dX7_takeDraft_139 rfl ?_
                  refine lv_aload_n hx hb dX7_takeDraft_142 rfl (lv_at hl 0 rfl) ?_
                  refine q_callP (As := []) (rest := [.int (iI 186), .ref (g 4)]) hx hb hml hown hts hK c_X7_sheets yi_X7_sheets ml_X7_164 (by rw [hR]; decide) hw.1 0 rfl rfl rfl rfl hl.1 (lv_room (Nat.le_of_ble_eq_true rfl)) dX7_takeDraft_143 ⟨by rw [hR]; exact Nat.zero_le _, by rw [hR]; exact Nat.zero_le _⟩ ?_
                  refine q_top (C 8 0) (by exact q_n) ?_
                  refine q_iadd hx hb dX7_takeDraft_146 ?_
                  refine q_iconst hx hb dX7_takeDraft_147 ?_
                  refine q_isub hx hb dX7_takeDraft_148 ?_
                  refine lv_iload_n hx hb dX7_takeDraft_149 rfl (lv_at hl 1 rfl) ?_
                  refine q_isub hx hb dX7_takeDraft_150 ?_
                  refine lv_iload_n hx hb dX7_takeDraft_151 rfl (lv_at hl 1 rfl) ?_
                  refine q_iast hx hb hK hw 4 0 rfl rfl (by omega) dX7_takeDraft_152 (fun H locs hw => ?_)
                  have hw : qw D A s.heap (mW g cI cB cZ th len tl ts te tk nu er eo hL hS dp bf dr y (uI f_8 (186 + C 8 0 - 1 - k4) k4) ad hi sl sv tr) H locs := hw
                  obtain ⟨f_9, e_f_9⟩ : ∃ z, z = uI f_8 (186 + C 8 0 - 1 - k4) k4 := ⟨_, rfl⟩
                  have hw : qw D A s.heap (mW g cI cB cZ th len tl ts te tk nu er eo hL hS dp bf dr y f_9 ad hi sl sv tr) H locs := by rw [e_f_9]; exact hw
                  refine lv_iinc (v := iI (k4 + 1)) (lv' := [(1, .int (iI (k4 + 1))), (0, .ref (g 0))]) hx hb dX7_takeDraft_153 hl (k := 1) rfl (iI_add _ _) (by decide) rfl (fun ls hl => ?_)
                  refine lv_goto (tgt := 92) hx hb dX7_takeDraft_156 (by decide) ?_
                  exact ih_92 _ (by omega) (f_9) (k4 + 1) H locs ls rfl (by rw [e_f_9, e_f_8, e_f_7]; exact tk4_s h_4 (by omega) (by omega)) (by first | omega | assumption | rfl) hw (lv_sub hl [1, 0] rfl)
              exact loop_92 _ (x3) (0) H locs ls rfl (by exact tk4_0 ((show k3 = 4 by omega) ▸ h_3)) (by first | omega | assumption | rfl) hw (lv_sub hl [1, 0] rfl)
            · refine lv_aload_n hx hb dX7_takeDraft_68 rfl (lv_at hl 0 rfl) ?_
              refine q_get hx hb hts hown hK hw.1 ci_X7 0 rfl 14 (by decide) fl_X7_20 rfl dX7_takeDraft_69 ?_
              refine q_iconst hx hb dX7_takeDraft_72 ?_
              refine lv_iload_n hx hb dX7_takeDraft_73 rfl (lv_at hl 1 rfl) ?_
              refine q_iadd hx hb dX7_takeDraft_74 ?_
              refine lv_aload_n hx hb dX7_takeDraft_75 rfl (lv_at hl 0 rfl) ?_
              refine q_get hx hb hts hown hK hw.1 ci_X7 0 rfl 11 (by decide) fl_X7_17 rfl dX7_takeDraft_76 ?_
              refine q_iconst hx hb dX7_takeDraft_79 ?_
              refine lv_iload_n hx hb dX7_takeDraft_80 rfl (lv_at hl 1 rfl) ?_
              refine q_iadd hx hb dX7_takeDraft_81 ?_
              refine q_iald hx hb hK hw.1 3 0 rfl rfl (z := (4 + k3)) (v := (C 7 k3)) (by omega) (by rw [h_y _ (by omega) (by omega)]; exact hT.2.1 k3 (by omega) (by omega)) dX7_takeDraft_82 ?_
              refine q_iast hx hb hK hw 4 0 rfl rfl (by omega) dX7_takeDraft_83 (fun H locs hw => ?_)
              have hw : qw D A s.heap (mW g cI cB cZ th len tl ts te tk nu er eo hL hS dp bf dr y (uI x3 (1 + k3) (C 7 k3)) ad hi sl sv tr) H locs := hw
              obtain ⟨f_10, e_f_10⟩ : ∃ z, z = uI x3 (1 + k3) (C 7 k3) := ⟨_, rfl⟩
              have hw : qw D A s.heap (mW g cI cB cZ th len tl ts te tk nu er eo hL hS dp bf dr y f_10 ad hi sl sv tr) H locs := by rw [e_f_10]; exact hw
              refine lv_iinc (v := iI (k3 + 1)) (lv' := [(1, .int (iI (k3 + 1))), (0, .ref (g 0))]) hx hb dX7_takeDraft_84 hl (k := 1) rfl (iI_add _ _) (by decide) rfl (fun ls hl => ?_)
              refine lv_goto (tgt := 63) hx hb dX7_takeDraft_87 (by decide) ?_
              exact ih_63 _ (by omega) (f_10) (k3 + 1) H locs ls rfl (by rw [e_f_10]; exact tk3_s h_3 (by omega)) (by first | omega | assumption | rfl) hw (lv_sub hl [1, 0] rfl)
          exact loop_63 _ (f_1) (0) H locs ls rfl (by rw [e_f_1]; exact tk3_0 (fun j a b => h_x j a (by omega))) (by first | omega | assumption | rfl) hw (lv_sub hl [1, 0] rfl)
        · refine lv_aload_n hx hb dX7_takeDraft_36 rfl (lv_at hl 0 rfl) ?_
          refine q_get hx hb hts hown hK hw.1 ci_X7 0 rfl 14 (by decide) fl_X7_20 rfl dX7_takeDraft_37 ?_
          refine lv_iload_n hx hb dX7_takeDraft_40 rfl (lv_at hl 1 rfl) ?_
          refine q_iconst hx hb dX7_takeDraft_41 ?_
          refine q_iast hx hb hK hw 4 0 rfl rfl (by omega) dX7_takeDraft_42 (fun H locs hw => ?_)
          have hw : qw D A s.heap (mW g cI cB cZ th len tl ts te tk nu er eo hL hS dp bf dr y (uI x k2 0) ad hi sl sv tr) H locs := hw
          obtain ⟨f_11, e_f_11⟩ : ∃ z, z = uI x k2 0 := ⟨_, rfl⟩
          have hw : qw D A s.heap (mW g cI cB cZ th len tl ts te tk nu er eo hL hS dp bf dr y f_11 ad hi sl sv tr) H locs := by rw [e_f_11]; exact hw
          refine lv_iinc (v := iI (k2 + 1)) (lv' := [(1, .int (iI (k2 + 1))), (0, .ref (g 0))]) hx hb dX7_takeDraft_43 hl (k := 1) rfl (iI_add _ _) (by decide) rfl (fun ls hl => ?_)
          refine lv_goto (tgt := 29) hx hb dX7_takeDraft_46 (by decide) ?_
          exact ih_29 _ (by omega) (f_11) (k2 + 1) H locs ls rfl (by rw [e_f_11]; exact all_s (fun j a b => by rw [uI_n _ _ _ (by omega)]; exact h_x j a b) (uI_s _ _ _) rfl) (by first | omega | assumption | rfl) hw (lv_sub hl [1, 0] rfl)
      exact loop_29 _ (sa) (0) H locs ls rfl (by intro j a b; omega) (by first | omega | assumption | rfl) hw (lv_sub hl [1, 0] rfl)
    · refine lv_aload_n hx hb dX7_takeDraft_9 rfl (lv_at hl 0 rfl) ?_
      refine q_get hx hb hts hown hK hw.1 ci_X7 0 rfl 11 (by decide) fl_X7_17 rfl dX7_takeDraft_10 ?_
      refine lv_iload_n hx hb dX7_takeDraft_13 rfl (lv_at hl 1 rfl) ?_
      refine lv_aload_n hx hb dX7_takeDraft_14 rfl (lv_at hl 0 rfl) ?_
      refine q_get hx hb hts hown hK hw.1 ci_X7 0 rfl 10 (by decide) fl_X7_13 rfl dX7_takeDraft_15 ?_
      refine lv_iload_n hx hb dX7_takeDraft_18 rfl (lv_at hl 1 rfl) ?_
      refine q_iald hx hb hK hw.1 2 0 rfl rfl (z := k1) (v := (dr k1)) (by omega) rfl dX7_takeDraft_19 ?_
      refine q_iast hx hb hK hw 3 0 rfl rfl (by omega) dX7_takeDraft_20 (fun H locs hw => ?_)
      have hw : qw D A s.heap (mW g cI cB cZ th len tl ts te tk nu er eo hL hS dp bf dr (uI y k1 (dr k1)) sa ad hi sl sv tr) H locs := hw
      obtain ⟨f_12, e_f_12⟩ : ∃ z, z = uI y k1 (dr k1) := ⟨_, rfl⟩
      have hw : qw D A s.heap (mW g cI cB cZ th len tl ts te tk nu er eo hL hS dp bf dr f_12 sa ad hi sl sv tr) H locs := by rw [e_f_12]; exact hw
      refine lv_iinc (v := iI (k1 + 1)) (lv' := [(1, .int (iI (k1 + 1))), (0, .ref (g 0))]) hx hb dX7_takeDraft_21 hl (k := 1) rfl (iI_add _ _) (by decide) rfl (fun ls hl => ?_)
      refine lv_goto (tgt := 2) hx hb dX7_takeDraft_24 (by decide) ?_
      exact ih_2 _ (by omega) (f_12) (k1 + 1) H locs ls rfl (by rw [e_f_12]; exact all_s (fun j a b => by rw [uI_n _ _ _ (by omega)]; exact h_y j a b) (uI_s _ _ _) rfl) (by first | omega | assumption | rfl) hw (lv_sub hl [1, 0] rfl)
  exact loop_2 _ (td) (0) H locs ls rfl (by intro j a b; omega) (by first | omega | assumption | rfl) hw (lv_sub hl [1, 0] rfl)
