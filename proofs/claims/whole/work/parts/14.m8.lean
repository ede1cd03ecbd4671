variable {l : Launch} {T C : Nat → Int → Int} {J : Int → Int} {D : va_G} {cI cB cZ cS cJ : ClassId} {g : Nat → Nat} {th len tl ts te tk nu er eo hL hS dp : Int} {bf dr td sa ad hi sl sv tr : Int → Int}
set_option maxHeartbeats 4000000 in
set_option maxRecDepth 100000 in
theorem c_X7_feed_no1 (n : Int) (hn : rg n) (h0 : n < 1 ∨ 40 < n) : qM l D (tyG cI cB cZ cS cJ) yX7_feed cX7_feed 4 (Option.some FieldType.int) 1 22 [.ref (g 0), .int (iI n)] (mW g cI cB cZ th len tl ts te tk nu er eo hL hS dp bf dr td sa ad hi sl sv tr) (fun u : Unit => True) (fun u => some (.int (iI 0))) (fun u => (mW g cI cB cZ 1 len tl ts te tk nu er eo hL hS dp bf dr td sa ad hi sl sv tr)) := by
  refine qM_enterI (val := fun u => iI 0) (by decide) (Nat.le_of_ble_eq_true rfl) (fun u hu => ⟨rfl, nar_i _⟩) (fun p e R s m args below meth c Q ls A X hR hA hw hl hret => ?_)
  obtain ⟨hx, hb, hml, hown, hts, hK⟩ := X
  have hl : lv_has ls 4 [(0, .ref (g 0)), (1, .int (iI n))] := hl
  suffices K : ∀ (H : Heap) (locs : List Loc), qw D A s.heap (mW g cI cB cZ th len tl ts te tk nu er eo hL hS dp bf dr td sa ad hi sl sv tr) H locs → W p l e R s m args below meth c H locs 0 0 Q (F0 m 0 ls []) from K s.heap [] hw
  clear hw
  intro H locs hw
  refine lv_aload_n hx hb dX7_feed_0 rfl (lv_at hl 0 rfl) ?_
  refine lv_iload_n hx hb dX7_feed_1 rfl (lv_at hl 1 rfl) ?_
  refine q_iconst hx hb dX7_feed_2 ?_
  refine q_bipush hx hb dX7_feed_3 rfl ?_
  refine q_callPS (As := [.int (iI n), .int (iI 1), .int (iI 40)]) (rest := [.ref (g 0)]) hx hb hml hown hts hK (c_X7_within (n) (1) (40) (by first | omega | assumption) (by first | omega | assumption) (by first | omega | assumption)) yt_X7_within ml_X7_72 (by rw [hR]; decide) (show va_P D vwCl [] _ from fun k q h => by simp at h)  rfl rfl hl.1 (lv_room (Nat.le_of_ble_eq_true rfl)) dX7_feed_5 ⟨by rw [hR]; exact Nat.zero_le _, by rw [hR]; exact Nat.zero_le _⟩ ?_
  refine q_ifb_ne (tgt := 15) hx hb dX7_feed_8 (by decide) (fun c_8 => absurd c_8 (by omega)) (fun c_8 => ?_)
  refine q_iconst hx hb dX7_feed_11 ?_
  refine lv_goto (tgt := 29) hx hb dX7_feed_12 (by decide) ?_
  refine q_put hx hb hts hown hK hw ci_X7 0 rfl 0 (by decide) fl_X7_45 rfl rfl rfl (Nat.le_of_ble_eq_true rfl) dX7_feed_29 (fun H locs hw => ?_)
  have hw : qw D A s.heap (mW g cI cB cZ 1 len tl ts te tk nu er eo hL hS dp bf dr td sa ad hi sl sv tr) H locs := hw
  refine lv_aload_n hx hb dX7_feed_32 rfl (lv_at hl 0 rfl) ?_
  refine q_get hx hb hts hown hK hw.1 ci_X7 0 rfl 0 (by decide) fl_X7_45 rfl dX7_feed_33 ?_
  refine q_if_le (tgt := 41) hx hb dX7_feed_36 (by decide) (by omega) (fun c_36 => absurd c_36 (by omega)) (fun c_36 => ?_)
  refine q_iconst hx hb dX7_feed_39 ?_
  exact hret () H locs 40 ls trivial hw dX7_feed_40

set_option maxHeartbeats 4000000 in
set_option maxRecDepth 100000 in
theorem c_X7_feed_no2 (n : Int) (hM : WM td sa T C) (h0 : 1 ≤ n ∧ n ≤ 40) (h1 : C 11 2 ≠ 0) : qM l D (tyG cI cB cZ cS cJ) yX7_feed cX7_feed 4 (Option.some FieldType.int) 1 22 [.ref (g 0), .int (iI n)] (mW g cI cB cZ th len tl ts te tk nu er eo hL hS dp bf dr td sa ad hi sl sv tr) (fun u : Unit => True) (fun u => some (.int (iI 0))) (fun u => (mW g cI cB cZ 2 len tl ts te tk nu er eo hL hS dp bf dr td sa ad hi sl sv tr)) := by
  have hsc := hM.sc
  have hlm := hM.lm
  have hB : BB T C := hM.2.2.1.hB hM.1
  refine qM_enterI (val := fun u => iI 0) (by decide) (Nat.le_of_ble_eq_true rfl) (fun u hu => ⟨rfl, nar_i _⟩) (fun p e R s m args below meth c Q ls A X hR hA hw hl hret => ?_)
  obtain ⟨hx, hb, hml, hown, hts, hK⟩ := X
  have hl : lv_has ls 4 [(0, .ref (g 0)), (1, .int (iI n))] := hl
  suffices K : ∀ (H : Heap) (locs : List Loc), qw D A s.heap (mW g cI cB cZ th len tl ts te tk nu er eo hL hS dp bf dr td sa ad hi sl sv tr) H locs → W p l e R s m args below meth c H locs 0 0 Q (F0 m 0 ls []) from K s.heap [] hw
  clear hw
  intro H locs hw
  refine lv_aload_n hx hb dX7_feed_0 rfl (lv_at hl 0 rfl) ?_
  refine lv_iload_n hx hb dX7_feed_1 rfl (lv_at hl 1 rfl) ?_
  refine q_iconst hx hb dX7_feed_2 ?_
  refine q_bipush hx hb dX7_feed_3 rfl ?_
  refine q_callPS (As := [.int (iI n), .int (iI 1), .int (iI 40)]) (rest := [.ref (g 0)]) hx hb hml hown hts hK (c_X7_within (n) (1) (40) (by first | omega | assumption) (by first | omega | assumption) (by first | omega | assumption)) yt_X7_within ml_X7_72 (by rw [hR]; decide) (show va_P D vwCl [] _ from fun k q h => by simp at h)  rfl rfl hl.1 (lv_room (Nat.le_of_ble_eq_true rfl)) dX7_feed_5 ⟨by rw [hR]; exact Nat.zero_le _, by rw [hR]; exact Nat.zero_le _⟩ ?_
  refine q_ifb_ne (tgt := 15) hx hb dX7_feed_8 (by decide) (fun c_8 => ?_) (fun c_8 => absurd c_8 (by omega))
  refine lv_aload_n hx hb dX7_feed_15 rfl (lv_at hl 0 rfl) ?_
  refine q_get hx hb hts hown hK hw.1 ci_X7 0 rfl 14 (by decide) fl_X7_20 rfl dX7_feed_16 ?_
  refine q_iconst hx hb dX7_feed_19 ?_
  refine q_iald hx hb hK hw.1 4 0 rfl rfl (z := 5) (v := (sa 5)) (by omega) rfl dX7_feed_20 ?_
  refine q_if_le (tgt := 28) hx hb dX7_feed_21 (by decide) (by omega) (fun c_21 => absurd c_21 (by omega)) (fun c_21 => ?_)
  refine q_iconst hx hb dX7_feed_24 ?_
  refine lv_goto (tgt := 29) hx hb dX7_feed_25 (by decide) ?_
  refine q_put hx hb hts hown hK hw ci_X7 0 rfl 0 (by decide) fl_X7_45 rfl rfl rfl (Nat.le_of_ble_eq_true rfl) dX7_feed_29 (fun H locs hw => ?_)
  have hw : qw D A s.heap (mW g cI cB cZ 2 len tl ts te tk nu er eo hL hS dp bf dr td sa ad hi sl sv tr) H locs := hw
  refine lv_aload_n hx hb dX7_feed_32 rfl (lv_at hl 0 rfl) ?_
  refine q_get hx hb hts hown hK hw.1 ci_X7 0 rfl 0 (by decide) fl_X7_45 rfl dX7_feed_33 ?_
  refine q_if_le (tgt := 41) hx hb dX7_feed_36 (by decide) (by omega) (fun c_36 => absurd c_36 (by omega)) (fun c_36 => ?_)
  refine q_iconst hx hb dX7_feed_39 ?_
  exact hret () H locs 40 ls trivial hw dX7_feed_40

set_option maxHeartbeats 4000000 in
set_option maxRecDepth 100000 in
theorem c_X7_feed (n : Int) (hM : WM td sa T C) (hdp : 0 ≤ dp ∧ dp ≤ 10) (hfr : FR C) (h0 : 1 ≤ n ∧ n ≤ 40) (h1 : C 11 2 = 0) : qM l D (tyG cI cB cZ cS cJ) yX7_feed cX7_feed 4 (Option.some FieldType.int) 4 95 [.ref (g 0), .int (iI n)] (mW g cI cB cZ th len tl ts te tk nu er eo hL hS dp bf dr td sa ad hi sl sv tr) (fun u : (Int → Int) × (Int → Int) × (Int) => (WM td ((u.1)) T (feedC T n.toNat C) ∧ FR (feedC T n.toNat C)) ∧ (((u.2.1)) = kpH hi dp sa) ∧ (((u.2.2)) = kpD dp)) (fun u => some (.int (iI (feedN T n.toNat C)))) (fun u => (mW g cI cB cZ 0 len tl ts te tk nu er eo hL hS (u.2.2) bf dr td (u.1) ad (u.2.1) sl sv tr)) := by
  have hsc := hM.sc
  have hlm := hM.lm
  have hB : BB T C := hM.2.2.1.hB hM.1
  refine qM_enterI (val := fun u => iI (feedN T n.toNat C)) (by decide) (Nat.le_of_ble_eq_true rfl) (fun u hu => ⟨rfl, nar_i _⟩) (fun p e R s m args below meth c Q ls A X hR hA hw hl hret => ?_)
  obtain ⟨hx, hb, hml, hown, hts, hK⟩ := X
  have hl : lv_has ls 4 [(0, .ref (g 0)), (1, .int (iI n))] := hl
  suffices K : ∀ (H : Heap) (locs : List Loc), qw D A s.heap (mW g cI cB cZ th len tl ts te tk nu er eo hL hS dp bf dr td sa ad hi sl sv tr) H locs → W p l e R s m args below meth c H locs 0 0 Q (F0 m 0 ls []) from K s.heap [] hw
  clear hw
  intro H locs hw
  refine lv_aload_n hx hb dX7_feed_0 rfl (lv_at hl 0 rfl) ?_
  refine lv_iload_n hx hb dX7_feed_1 rfl (lv_at hl 1 rfl) ?_
  refine q_iconst hx hb dX7_feed_2 ?_
  refine q_bipush hx hb dX7_feed_3 rfl ?_
  refine q_callPS (As := [.int (iI n), .int (iI 1), .int (iI 40)]) (rest := [.ref (g 0)]) hx hb hml hown hts hK (c_X7_within (n) (1) (40) (by first | omega | assumption) (by first | omega | assumption) (by first | omega | assumption)) yt_X7_within ml_X7_72 (by rw [hR]; decide) (show va_P D vwCl [] _ from fun k q h => by simp at h)  rfl rfl hl.1 (lv_room (Nat.le_of_ble_eq_true rfl)) dX7_feed_5 ⟨by rw [hR]; exact Nat.zero_le _, by rw [hR]; exact Nat.zero_le _⟩ ?_
  refine q_ifb_ne (tgt := 15) hx hb dX7_feed_8 (by decide) (fun c_8 => ?_) (fun c_8 => absurd c_8 (by omega))
  refine lv_aload_n hx hb dX7_feed_15 rfl (lv_at hl 0 rfl) ?_
  refine q_get hx hb hts hown hK hw.1 ci_X7 0 rfl 14 (by decide) fl_X7_20 rfl dX7_feed_16 ?_
  refine q_iconst hx hb dX7_feed_19 ?_
  refine q_iald hx hb hK hw.1 4 0 rfl rfl (z := 5) (v := (sa 5)) (by omega) rfl dX7_feed_20 ?_
  refine q_if_le (tgt := 28) hx hb dX7_feed_21 (by decide) (by omega) (fun c_21 => ?_) (fun c_21 => absurd c_21 (by omega))
  refine q_iconst hx hb dX7_feed_28 ?_
  refine q_put hx hb hts hown hK hw ci_X7 0 rfl 0 (by decide) fl_X7_45 rfl rfl rfl (Nat.le_of_ble_eq_true rfl) dX7_feed_29 (fun H locs hw => ?_)
  have hw : qw D A s.heap (mW g cI cB cZ 0 len tl ts te tk nu er eo hL hS dp bf dr td sa ad hi sl sv tr) H locs := hw
  refine lv_aload_n hx hb dX7_feed_32 rfl (lv_at hl 0 rfl) ?_
  refine q_get hx hb hts hown hK hw.1 ci_X7 0 rfl 0 (by decide) fl_X7_45 rfl dX7_feed_33 ?_
  refine q_if_le (tgt := 41) hx hb dX7_feed_36 (by decide) (by omega) (fun c_36 => ?_) (fun c_36 => absurd c_36 (by omega))
  refine lv_aload_n hx hb dX7_feed_41 rfl (lv_at hl 0 rfl) ?_
  refine q_callM (As := []) (rest := []) (wr := []) hx hb hml hown hts hK (c_X7_keep (by first | omega | assumption)) yi_X7_keep ml_X7_222 (by rw [hR]; decide) hw hA [0, 1, 2, 3, 4, 5, 6, 7, 8, 9] [] rfl rfl (by decide) (by decide) (by decide) 0 rfl rfl rfl rfl hl.1 (lv_room (Nat.le_of_ble_eq_true rfl)) dX7_feed_42 ⟨by rw [hR]; exact Nat.zero_le _, by rw [hR]; exact Nat.zero_le _⟩ (fun u_42 H locs hu_42 hw => ?_)
  obtain ⟨h2_1, d2_1⟩ := u_42
  obtain ⟨hu_1_0, hu_1_1⟩ : (h2_1 = kpH hi dp sa) ∧ (d2_1 = kpD dp) := hu_42
  have hw : qw D A s.heap (mW g cI cB cZ 0 len tl ts te tk nu er eo hL hS d2_1 bf dr td sa ad h2_1 sl sv tr) H locs := hw
  refine q_iconst hx hb dX7_feed_45 ?_
  refine lv_istore_n (lv' := [(2, .int (iI 0)), (0, .ref (g 0)), (1, .int (iI n))]) hx hb dX7_feed_46 rfl hl (by decide) rfl (fun ls hl => ?_)
  refine q_iconst hx hb dX7_feed_47 ?_
  refine lv_istore_n (lv' := [(3, .int (iI 0)), (2, .int (iI 0)), (0, .ref (g 0)), (1, .int (iI n))]) hx hb dX7_feed_48 rfl hl (by decide) rfl (fun ls hl => ?_)
  have loop_49 : ∀ (fu : Nat) (x : Int → Int) (Ck : Nat → Int → Int) (i : Int) (j : Int) (H : Heap) (locs : List Loc) (ls : Array Slot), (n - j).toNat = fu → (WM td x T Ck) → (FR Ck) → (feedC T (n - j).toNat Ck = feedC T n.toNat C) → (i + feedN T (n - j).toNat Ck = feedN T n.toNat C) → (0 ≤ j ∧ j ≤ n) → (0 ≤ i ∧ i ≤ j) → qw D A s.heap (mW g cI cB cZ 0 len tl ts te tk nu er eo hL hS d2_1 bf dr td x ad h2_1 sl sv tr) H locs → lv_has ls 4 [(0, .ref (g 0)), (1, .int (iI n)), (2, .int (iI i)), (3, .int (iI j))] → W p l e R s m args below meth c H locs 0 0 Q (F0 m 49 ls []) := by
    intro fu
    induction fu using Nat.strongRecOn with
    | ind fu ih =>
    intro x Ck i j H locs ls hn_49 h_M h_f h_c h_n h_j h_i hw hl
    have hsk := h_M.sc
    refine lv_iload_n hx hb dX7_feed_49 rfl (lv_at hl 3 rfl) ?_
    refine lv_iload_n hx hb dX7_feed_50 rfl (lv_at hl 1 rfl) ?_
    refine q_icmp_ge (tgt := 95) hx hb dX7_feed_51 (by decide) (by omega) (fun c_51 => ?_) (fun c_51 => ?_)
    · refine lv_iload_n hx hb dX7_feed_95 rfl (lv_at hl 2 rfl) ?_
      refine q_top (feedN T n.toNat C) (by have z := (feedC_e (T := T) (C := Ck) (m := (n - j).toNat) (by omega)).2; omega) ?_
      exact hret (x, h2_1, d2_1) H locs 96 ls ⟨(by rw [← h_c, (feedC_e (T := T) (C := Ck) (m := (n - j).toNat) (by omega)).1]; exact ⟨h_M, h_f⟩), (by assumption), (by assumption)⟩ hw dX7_feed_96
    · refine lv_aload_n hx hb dX7_feed_54 rfl (lv_at hl 0 rfl) ?_
      refine q_get hx hb hts hown hK hw.1 ci_X7 0 rfl 14 (by decide) fl_X7_20 rfl dX7_feed_55 ?_
      refine q_bipush hx hb dX7_feed_58 rfl ?_
      refine q_iald hx hb hK hw.1 4 0 rfl rfl (z := 6) (v := (T 8 0 - Ck 11 0)) (by omega) (by exact h_M.2.2.2.s6) dX7_feed_60 ?_
      refine q_if_le (tgt := 95) hx hb dX7_feed_61 (by decide) (by omega) (fun c_61 => ?_) (fun c_61 => ?_)
      · refine lv_iload_n hx hb dX7_feed_95 rfl (lv_at hl 2 rfl) ?_
        refine q_top (feedN T n.toNat C) (by have z := (feedC_e (T := T) (C := Ck) (m := (n - j).toNat) (by omega)).2; omega) ?_
        exact hret (x, h2_1, d2_1) H locs 96 ls ⟨(by rw [← h_c, (feedC_e (T := T) (C := Ck) (m := (n - j).toNat) (by omega)).1]; exact ⟨h_M, h_f⟩), (by assumption), (by assumption)⟩ hw dX7_feed_96
      · refine lv_aload_n hx hb dX7_feed_64 rfl (lv_at hl 0 rfl) ?_
        refine q_get hx hb hts hown hK hw.1 ci_X7 0 rfl 14 (by decide) fl_X7_20 rfl dX7_feed_65 ?_
        refine q_iconst hx hb dX7_feed_68 ?_
        refine q_iald hx hb hK hw.1 4 0 rfl rfl (z := 5) (v := (Ck 11 2)) (by omega) (by exact h_M.2.2.2.s5) dX7_feed_69 ?_
        refine q_if_ne (tgt := 95) hx hb dX7_feed_70 (by decide) (by omega) (fun c_70 => ?_) (fun c_70 => ?_)
        · refine lv_iload_n hx hb dX7_feed_95 rfl (lv_at hl 2 rfl) ?_
          refine q_top (feedN T n.toNat C) (by have z := (feedC_e (T := T) (C := Ck) (m := (n - j).toNat) (by omega)).2; omega) ?_
          exact hret (x, h2_1, d2_1) H locs 96 ls ⟨(by rw [← h_c, (feedC_e (T := T) (C := Ck) (m := (n - j).toNat) (by omega)).1]; exact ⟨h_M, h_f⟩), (by assumption), (by assumption)⟩ hw dX7_feed_96
        · refine lv_iload_n hx hb dX7_feed_73 rfl (lv_at hl 2 rfl) ?_
          refine lv_aload_n hx hb dX7_feed_74 rfl (lv_at hl 0 rfl) ?_
          have h_s : Ck 11 0 < T 8 0 := by omega
          have h_r : Ck 11 2 = 0 := by omega
          have h_1 : Ck 11 1 = 0 := h_f.mp h_r
          refine q_callM (As := []) (rest := [.int (iI i)]) (wr := []) hx hb hml hown hts hK (c_X7_pick (C := Ck) (by exact h_M) (by exact h_s) (by exact h_1) (by exact h_r)) yi_X7_pick ml_X7_225 (by rw [hR]; decide) hw hA [0, 1, 2, 3, 4, 5, 6, 7, 8, 9] [] rfl rfl (by decide) (by decide) (by decide) 0 rfl rfl rfl rfl hl.1 (lv_room (Nat.le_of_ble_eq_true rfl)) dX7_feed_75 ⟨by rw [hR]; exact Nat.zero_le _, by rw [hR]; exact Nat.zero_le _⟩ (fun u_75 H locs hu_75 hw => ?_)
          obtain ⟨s2_2, rfl⟩ : ∃ z, z = u_75 := ⟨_, rfl⟩
          have hu_2_0 : WM td s2_2 T (pickC T ((Ck))) := hu_75
          have hw : qw D A s.heap (mW g cI cB cZ 0 len tl ts te tk nu er eo hL hS d2_1 bf dr td s2_2 ad h2_1 sl sv tr) H locs := hw
          refine q_iconst hx hb dX7_feed_78 ?_
          have q_pr := pickR_bd T Ck
          refine q_icmp_ne (tgt := 86) hx hb dX7_feed_79 (by decide) (by omega) (fun c_79 => ?_) (fun c_79 => ?_)
          · refine q_iconst hx hb dX7_feed_86 ?_
            refine q_iadd hx hb dX7_feed_87 ?_
            refine lv_istore_n (lv' := [(2, .int (iI (i + 1))), (0, .ref (g 0)), (1, .int (iI n)), (3, .int (iI j))]) hx hb dX7_feed_88 rfl hl (by decide) rfl (fun ls hl => ?_)
            refine lv_iinc (v := iI (j + 1)) (lv' := [(3, .int (iI (j + 1))), (2, .int (iI (i + 1))), (0, .ref (g 0)), (1, .int (iI n))]) hx hb dX7_feed_89 hl (k := 3) rfl (iI_add _ _) (by decide) rfl (fun ls hl => ?_)
            refine lv_goto (tgt := 49) hx hb dX7_feed_92 (by decide) ?_
            exact ih _ (by omega) (s2_2) (pickC T Ck) (i + 1) (j + 1) H locs ls rfl (by assumption) (by exact FR_pickC h_1 h_r (h_M.pk h_s).1) (by rw [← h_c, (feedC_s (by omega) ⟨h_s, h_r⟩).1]) (by rw [← h_n, (feedC_s (C := Ck) (p := n) (j := j) (by omega) ⟨h_s, h_r⟩).2]; (first | rw [if_pos c_79] | rw [if_neg c_79]); omega) (by first | omega | assumption | rfl) (by first | omega | assumption | rfl) hw (lv_sub hl [2, 3, 1, 0] rfl)
          · refine q_iconst hx hb dX7_feed_82 ?_
            refine lv_goto (tgt := 87) hx hb dX7_feed_83 (by decide) ?_
            refine q_iadd hx hb dX7_feed_87 ?_
            refine q_top i (Int.add_zero _) ?_
            refine lv_istore_n (lv' := [(2, .int (iI i)), (0, .ref (g 0)), (1, .int (iI n)), (3, .int (iI j))]) hx hb dX7_feed_88 rfl hl (by decide) rfl (fun ls hl => ?_)
            refine lv_iinc (v := iI (j + 1)) (lv' := [(3, .int (iI (j + 1))), (2, .int (iI i)), (0, .ref (g 0)), (1, .int (iI n))]) hx hb dX7_feed_89 hl (k := 3) rfl (iI_add _ _) (by decide) rfl (fun ls hl => ?_)
            refine lv_goto (tgt := 49) hx hb dX7_feed_92 (by decide) ?_
            exact ih _ (by omega) (s2_2) (pickC T Ck) (i) (j + 1) H locs ls rfl (by assumption) (by exact FR_pickC h_1 h_r (h_M.pk h_s).1) (by rw [← h_c, (feedC_s (by omega) ⟨h_s, h_r⟩).1]) (by rw [← h_n, (feedC_s (C := Ck) (p := n) (j := j) (by omega) ⟨h_s, h_r⟩).2]; (first | rw [if_pos c_79] | rw [if_neg c_79]); omega) (by first | omega | assumption | rfl) (by first | omega | assumption | rfl) hw (lv_sub hl [2, 3, 1, 0] rfl)
  exact loop_49 _ (sa) (C) (0) (0) H locs ls rfl (by exact hM) (by exact hfr) (by rw [Int.sub_zero]) (by rw [Int.sub_zero, Int.zero_add]) (by first | omega | assumption | rfl) (by first | omega | assumption | rfl) hw (lv_sub hl [2, 3, 1, 0] rfl)
