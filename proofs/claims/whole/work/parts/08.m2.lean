variable {l : Launch} {T C : Nat → Int → Int} {D : va_G} {cI cB cZ cS cJ : ClassId} {g : Nat → Nat} {th len tl ts te tk nu er eo hL hS dp : Int} {bf dr td sa ad hi sl sv tr : Int → Int}
set_option maxHeartbeats 4000000 in
set_option maxRecDepth 100000 in
theorem c_X7_top (k : Int) (hM : WM td sa T C) (h1 : 0 ≤ k) (h2 : k < T 8 0 - C 11 0) : qP l D (tyG cI cB cZ cS cJ) yX7_top cX7_top 2 (Option.some FieldType.int) 0 0 [.ref (g 0), .int (iI k)] (mW g cI cB cZ th len tl ts te tk nu er eo hL hS dp bf dr td sa ad hi sl sv tr) (some (.int (iI (C 11 0 + k)))) := by
  have hsc := hM.sc
  refine qP_enter (by decide) (Nat.le_of_ble_eq_true rfl) (nar_i _) (fun p e R s m args below meth c Q ls X hR hP hl hret => ?_)
  obtain ⟨hx, hb, hml, hown, hts, hK⟩ := X
  have hl : lv_has ls 2 [(0, .ref (g 0)), (1, .int (iI k))] := hl
  refine lv_aload_n hx hb dX7_top_0 rfl (lv_at hl 0 rfl) ?_
  refine q_get hx hb hts hown hK hP ci_X7 0 rfl 14 (by decide) fl_X7_20 rfl dX7_top_1 ?_
  refine q_sipush hx hb dX7_top_4 rfl ?_
  refine lv_aload_n hx hb dX7_top_7 rfl (lv_at hl 0 rfl) ?_
  refine q_get hx hb hts hown hK hP ci_X7 0 rfl 14 (by decide) fl_X7_20 rfl dX7_top_8 ?_
  refine q_bipush hx hb dX7_top_11 rfl ?_
  refine q_iald hx hb hK hP 4 0 rfl rfl (z := 6) (v := (T 8 0 - C 11 0)) (by omega) (by omega) dX7_top_13 ?_
  refine q_iadd hx hb dX7_top_14 ?_
  refine q_iconst hx hb dX7_top_15 ?_
  refine q_isub hx hb dX7_top_16 ?_
  refine lv_iload_n hx hb dX7_top_17 rfl (lv_at hl 1 rfl) ?_
  refine q_isub hx hb dX7_top_18 ?_
  refine q_iald hx hb hK hP 4 0 rfl rfl (z := (186 + (T 8 0 - C 11 0) - 1 - k)) (v := (C 11 0 + k)) (by omega) (by rw [show (186 + (T 8 0 - C 11 0) - 1 - k : Int) = 186 + (T 8 0 - C 11 0 - 1 - k) by omega, hM.sk _ (by omega) (by omega)]; omega) dX7_top_19 ?_
  exact q_ret (hret 20 ls dX7_top_20) (by first | rfl | omega)

set_option maxHeartbeats 4000000 in
set_option maxRecDepth 100000 in
theorem c_X7_usual (hM : WM td sa T C) : qP l D (tyG cI cB cZ cS cJ) yX7_usual cX7_usual 3 (Option.some FieldType.int) 0 0 [.ref (g 0)] (mW g cI cB cZ th len tl ts te tk nu er eo hL hS dp bf dr td sa ad hi sl sv tr) (some (.int (iI (usG (C 10) (C 11 6) (T 8 2))))) := by
  have hsc := hM.sc
  refine qP_enter (by decide) (Nat.le_of_ble_eq_true rfl) (nar_i _) (fun p e R s m args below meth c Q ls X hR hP hl hret => ?_)
  obtain ⟨hx, hb, hml, hown, hts, hK⟩ := X
  have hl : lv_has ls 3 [(0, .ref (g 0))] := hl
  refine lv_aload_n hx hb dX7_usual_0 rfl (lv_at hl 0 rfl) ?_
  refine q_get hx hb hts hown hK hP ci_X7 0 rfl 14 (by decide) fl_X7_20 rfl dX7_usual_1 ?_
  refine q_bipush hx hb dX7_usual_4 rfl ?_
  refine q_iald hx hb hK hP 4 0 rfl rfl (z := 8) (v := (C 11 6)) (by omega) (by omega) dX7_usual_6 ?_
  refine q_if_ne (tgt := 17) hx hb dX7_usual_7 (by decide) (by omega) (fun c_7 => ?_) (fun c_7 => ?_)
  · refine q_iconst hx hb dX7_usual_17 ?_
    refine lv_istore_n (lv' := [(1, .int (iI 0)), (0, .ref (g 0))]) hx hb dX7_usual_18 rfl hl (by decide) rfl (fun ls hl => ?_)
    refine q_iconst hx hb dX7_usual_19 ?_
    refine lv_istore_n (lv' := [(2, .int (iI 0)), (1, .int (iI 0)), (0, .ref (g 0))]) hx hb dX7_usual_20 rfl hl (by decide) rfl (fun ls hl => ?_)
    have loop_21 : ∀ (fu : Nat) (x : Int) (k : Int) (ls : Array Slot), (C 11 6 - k).toNat = fu → (x = sI (fun i => sa (9 + i)) k) → (0 ≤ k ∧ k ≤ C 11 6) → lv_has ls 3 [(0, .ref (g 0)), (1, .int (iI x)), (2, .int (iI k))] → W p l e R s m args below meth c s.heap [] 0 0 Q (F0 m 21 ls []) := by
      intro fu
      induction fu using Nat.strongRecOn with
      | ind fu ih =>
      intro x k ls hn_21 h_x h_k hl
      refine lv_iload_n hx hb dX7_usual_21 rfl (lv_at hl 2 rfl) ?_
      refine lv_aload_n hx hb dX7_usual_22 rfl (lv_at hl 0 rfl) ?_
      refine q_get hx hb hts hown hK hP ci_X7 0 rfl 14 (by decide) fl_X7_20 rfl dX7_usual_23 ?_
      refine q_bipush hx hb dX7_usual_26 rfl ?_
      refine q_iald hx hb hK hP 4 0 rfl rfl (z := 8) (v := (C 11 6)) (by omega) (by omega) dX7_usual_28 ?_
      refine q_icmp_ge (tgt := 50) hx hb dX7_usual_29 (by decide) (by omega) (fun c_29 => ?_) (fun c_29 => ?_)
      · have h_k2 : k = C 11 6 := by omega
        have e_x : x = sI (C 10) (C 11 6) := by rw [h_x, h_k2]; exact hM.su
        have q_x := us_bd (gt := C 10) (gc := C 11 6) (by omega) (fun i a b => (hM.gd i a b).2)
        refine lv_iload_n hx hb dX7_usual_50 rfl (lv_at hl 1 rfl) ?_
        refine lv_aload_n hx hb dX7_usual_51 rfl (lv_at hl 0 rfl) ?_
        refine q_get hx hb hts hown hK hP ci_X7 0 rfl 14 (by decide) fl_X7_20 rfl dX7_usual_52 ?_
        refine q_bipush hx hb dX7_usual_55 rfl ?_
        refine q_iald hx hb hK hP 4 0 rfl rfl (z := 8) (v := (C 11 6)) (by omega) (by omega) dX7_usual_57 ?_
        refine q_idiv hx hb dX7_usual_58 (by omega) (by omega) (by omega) ?_
        exact q_ret (hret 59 ls dX7_usual_59) (by unfold usG; rw [if_neg (by omega), e_x])
      · refine lv_iload_n hx hb dX7_usual_32 rfl (lv_at hl 1 rfl) ?_
        refine lv_aload_n hx hb dX7_usual_33 rfl (lv_at hl 0 rfl) ?_
        refine q_get hx hb hts hown hK hP ci_X7 0 rfl 14 (by decide) fl_X7_20 rfl dX7_usual_34 ?_
        refine q_bipush hx hb dX7_usual_37 rfl ?_
        refine lv_iload_n hx hb dX7_usual_39 rfl (lv_at hl 2 rfl) ?_
        refine q_iadd hx hb dX7_usual_40 ?_
        refine q_iald hx hb hK hP 4 0 rfl rfl (z := (9 + k)) (v := (sa (9 + k))) (by omega) rfl dX7_usual_41 ?_
        refine q_iadd hx hb dX7_usual_42 ?_
        refine lv_istore_n (lv' := [(1, .int (iI (x + sa (9 + k)))), (0, .ref (g 0)), (2, .int (iI k))]) hx hb dX7_usual_43 rfl hl (by decide) rfl (fun ls hl => ?_)
        refine lv_iinc (v := iI (k + 1)) (lv' := [(2, .int (iI (k + 1))), (1, .int (iI (x + sa (9 + k)))), (0, .ref (g 0))]) hx hb dX7_usual_44 hl (k := 2) rfl (iI_add _ _) (by decide) rfl (fun ls hl => ?_)
        refine lv_goto (tgt := 21) hx hb dX7_usual_47 (by decide) ?_
        exact ih _ (by omega) (x + sa (9 + k)) (k + 1) ls rfl (by rw [h_x]; exact (sI_s _ (by omega)).symm) (by first | omega | assumption | rfl) (lv_sub hl [2, 1, 0] rfl)
    exact loop_21 _ (0) (0) ls rfl (by rfl) (by first | omega | assumption | rfl) (lv_sub hl [2, 1, 0] rfl)
  · refine lv_aload_n hx hb dX7_usual_10 rfl (lv_at hl 0 rfl) ?_
    refine q_get hx hb hts hown hK hP ci_X7 0 rfl 11 (by decide) fl_X7_17 rfl dX7_usual_11 ?_
    refine q_iconst hx hb dX7_usual_14 ?_
    refine q_iald hx hb hK hP 3 0 rfl rfl (z := 1) (v := (T 8 2)) (by omega) (by omega) dX7_usual_15 ?_
    exact q_ret (hret 16 ls dX7_usual_16) (by unfold usG; rw [if_pos (by omega)])

set_option maxHeartbeats 4000000 in
set_option maxRecDepth 100000 in
theorem c_X7_pickMany (hM : WM td sa T C) (h1 : C 11 0 < T 8 0) : qP l D (tyG cI cB cZ cS cJ) yX7_pickMany cX7_pickMany 2 (Option.some FieldType.int) 1 21 [.ref (g 0)] (mW g cI cB cZ th len tl ts te tk nu er eo hL hS dp bf dr td sa ad hi sl sv tr) (some (.int (iI (pk (C 2) (T 8 0) (C 11 0))))) := by
  have hsc := hM.sc
  refine qP_enter (by decide) (Nat.le_of_ble_eq_true rfl) (nar_i _) (fun p e R s m args below meth c Q ls X hR hP hl hret => ?_)
  obtain ⟨hx, hb, hml, hown, hts, hK⟩ := X
  have hl : lv_has ls 2 [(0, .ref (g 0))] := hl
  refine q_iconst hx hb dX7_pickMany_0 ?_
  refine lv_istore_n (lv' := [(1, .int (iI 1)), (0, .ref (g 0))]) hx hb dX7_pickMany_1 rfl hl (by decide) rfl (fun ls hl => ?_)
  have loop_2 : ∀ (fu : Nat) (k : Int) (ls : Array Slot), (T 8 0 - C 11 0 - k).toNat = fu → (1 ≤ k ∧ k ≤ T 8 0 - C 11 0) → (∀ i : Int, C 11 0 ≤ i → i < C 11 0 + k - 1 → C 2 i ≠ -1) → lv_has ls 2 [(0, .ref (g 0)), (1, .int (iI k))] → W p l e R s m args below meth c s.heap [] 0 0 Q (F0 m 2 ls []) := by
    intro fu
    induction fu using Nat.strongRecOn with
    | ind fu ih =>
    intro k ls hn_2 h_k h_q hl
    refine lv_iload_n hx hb dX7_pickMany_2 rfl (lv_at hl 1 rfl) ?_
    refine lv_aload_n hx hb dX7_pickMany_3 rfl (lv_at hl 0 rfl) ?_
    refine q_get hx hb hts hown hK hP ci_X7 0 rfl 14 (by decide) fl_X7_20 rfl dX7_pickMany_4 ?_
    refine q_bipush hx hb dX7_pickMany_7 rfl ?_
    refine q_iald hx hb hK hP 4 0 rfl rfl (z := 6) (v := (T 8 0 - C 11 0)) (by omega) (by omega) dX7_pickMany_9 ?_
    refine q_icmp_ge (tgt := 40) hx hb dX7_pickMany_10 (by decide) (by omega) (fun c_10 => ?_) (fun c_10 => ?_)
    · refine lv_iload_n hx hb dX7_pickMany_40 rfl (lv_at hl 1 rfl) ?_
      exact q_ret (hret 41 ls dX7_pickMany_41) (by first | exact pk_one ⟨by omega, by omega, h_q, Or.inl (by omega)⟩ (hM.pk h1) | exact pk_one ⟨by omega, by omega, h_q, Or.inr (by rw [show C 11 0 + k - 1 = C 11 0 + (k - 1) by omega]; exact c_31)⟩ (hM.pk h1))
    · refine lv_aload_n hx hb dX7_pickMany_13 rfl (lv_at hl 0 rfl) ?_
      refine q_get hx hb hts hown hK hP ci_X7 0 rfl 14 (by decide) fl_X7_20 rfl dX7_pickMany_14 ?_
      refine lv_aload_n hx hb dX7_pickMany_17 rfl (lv_at hl 0 rfl) ?_
      refine lv_iload_n hx hb dX7_pickMany_18 rfl (lv_at hl 1 rfl) ?_
      refine q_iconst hx hb dX7_pickMany_19 ?_
      refine q_isub hx hb dX7_pickMany_20 ?_
      refine q_callP (As := [.int (iI (k - 1))]) (rest := [.ref (g 4)]) hx hb hml hown hts hK (c_X7_top (k - 1) (by first | omega | assumption) (by first | omega | assumption) (by first | omega | assumption)) yi_X7_top ml_X7_180 (by rw [hR]; decide) hP 0 rfl rfl rfl rfl hl.1 (lv_room (Nat.le_of_ble_eq_true rfl)) dX7_pickMany_21 ⟨by rw [hR]; exact Nat.zero_le _, by rw [hR]; exact Nat.zero_le _⟩ ?_
      refine q_callPS (As := [.int (iI (C 11 0 + (k - 1)))]) (rest := [.ref (g 4)]) hx hb hml hown hts hK (c_X7_of (C 11 0 + (k - 1))) yt_X7_of ml_X7_167 (by rw [hR]; decide) (show va_P D vwCl [] _ from fun k q h => by simp at h)  rfl rfl hl.1 (lv_room (Nat.le_of_ble_eq_true rfl)) dX7_pickMany_24 ⟨by rw [hR]; exact Nat.zero_le _, by rw [hR]; exact Nat.zero_le _⟩ ?_
      refine q_iconst hx hb dX7_pickMany_27 ?_
      refine q_iadd hx hb dX7_pickMany_28 ?_
      have q_29 := hM.sh (C 11 0 + (k - 1)) (by omega) (by omega)
      refine q_iald hx hb hK hP 4 0 rfl rfl (z := (26 + 4 * (C 11 0 + (k - 1)) + 2)) (v := (C 2 (C 11 0 + (k - 1)))) (by omega) (by omega) dX7_pickMany_29 ?_
      refine q_iconst hx hb dX7_pickMany_30 ?_
      refine q_icmp_eq (tgt := 40) hx hb dX7_pickMany_31 (by decide) (by omega) (fun c_31 => ?_) (fun c_31 => ?_)
      · refine lv_iload_n hx hb dX7_pickMany_40 rfl (lv_at hl 1 rfl) ?_
        exact q_ret (hret 41 ls dX7_pickMany_41) (by first | exact pk_one ⟨by omega, by omega, h_q, Or.inl (by omega)⟩ (hM.pk h1) | exact pk_one ⟨by omega, by omega, h_q, Or.inr (by rw [show C 11 0 + k - 1 = C 11 0 + (k - 1) by omega]; exact c_31)⟩ (hM.pk h1))
      · refine lv_iinc (v := iI (k + 1)) (lv' := [(1, .int (iI (k + 1))), (0, .ref (g 0))]) hx hb dX7_pickMany_34 hl (k := 1) rfl (iI_add _ _) (by decide) rfl (fun ls hl => ?_)
        refine lv_goto (tgt := 2) hx hb dX7_pickMany_37 (by decide) ?_
        exact ih _ (by omega) (k + 1) ls rfl (by first | omega | assumption | rfl) (by exact all_s h_q (by rw [show C 11 0 + k - 1 = C 11 0 + (k - 1) by omega]; exact c_31) (by omega)) (lv_sub hl [1, 0] rfl)
  exact loop_2 _ (1) ls rfl (by first | omega | assumption | rfl) (by intro i a b; omega) (lv_sub hl [1, 0] rfl)

set_option maxHeartbeats 4000000 in
set_option maxRecDepth 100000 in
theorem c_X7_pickThickness (n : Int) (hM : WM td sa T C) (h1 : 0 ≤ n) (h2 : n ≤ T 8 0 - C 11 0) : qP l D (tyG cI cB cZ cS cJ) yX7_pickThickness cX7_pickThickness 4 (Option.some FieldType.int) 1 22 [.ref (g 0), .int (iI n)] (mW g cI cB cZ th len tl ts te tk nu er eo hL hS dp bf dr td sa ad hi sl sv tr) (some (.int (iI (thk T (C 11 0) n)))) := by
  have hsc := hM.sc
  refine qP_enter (by decide) (Nat.le_of_ble_eq_true rfl) (nar_i _) (fun p e R s m args below meth c Q ls X hR hP hl hret => ?_)
  obtain ⟨hx, hb, hml, hown, hts, hK⟩ := X
  have hl : lv_has ls 4 [(0, .ref (g 0)), (1, .int (iI n))] := hl
  refine q_iconst hx hb dX7_pickThickness_0 ?_
  refine lv_istore_n (lv' := [(2, .int (iI 0)), (0, .ref (g 0)), (1, .int (iI n))]) hx hb dX7_pickThickness_1 rfl hl (by decide) rfl (fun ls hl => ?_)
  refine q_iconst hx hb dX7_pickThickness_2 ?_
  refine lv_istore_n (lv' := [(3, .int (iI 0)), (2, .int (iI 0)), (0, .ref (g 0)), (1, .int (iI n))]) hx hb dX7_pickThickness_3 rfl hl (by decide) rfl (fun ls hl => ?_)
  have loop_4 : ∀ (fu : Nat) (x : Int) (k : Int) (ls : Array Slot), (n - k).toNat = fu → (x = thk T (C 11 0) k) → (0 ≤ k ∧ k ≤ n) → lv_has ls 4 [(0, .ref (g 0)), (1, .int (iI n)), (2, .int (iI x)), (3, .int (iI k))] → W p l e R s m args below meth c s.heap [] 0 0 Q (F0 m 4 ls []) := by
    intro fu
    induction fu using Nat.strongRecOn with
    | ind fu ih =>
    intro x k ls hn_4 h_x h_k hl
    refine lv_iload_n hx hb dX7_pickThickness_4 rfl (lv_at hl 3 rfl) ?_
    refine lv_iload_n hx hb dX7_pickThickness_5 rfl (lv_at hl 1 rfl) ?_
    refine q_icmp_ge (tgt := 28) hx hb dX7_pickThickness_6 (by decide) (by omega) (fun c_6 => ?_) (fun c_6 => ?_)
    · refine lv_iload_n hx hb dX7_pickThickness_28 rfl (lv_at hl 2 rfl) ?_
      exact q_ret (hret 29 ls dX7_pickThickness_29) (by rw [h_x, show k = n by omega])
    · refine lv_iload_n hx hb dX7_pickThickness_9 rfl (lv_at hl 2 rfl) ?_
      refine lv_aload_n hx hb dX7_pickThickness_10 rfl (lv_at hl 0 rfl) ?_
      refine lv_aload_n hx hb dX7_pickThickness_11 rfl (lv_at hl 0 rfl) ?_
      refine lv_iload_n hx hb dX7_pickThickness_12 rfl (lv_at hl 3 rfl) ?_
      refine q_callP (As := [.int (iI k)]) (rest := [.ref (g 0), .int (iI x)]) hx hb hml hown hts hK (c_X7_top (k) (by first | omega | assumption) (by first | omega | assumption) (by first | omega | assumption)) yi_X7_top ml_X7_180 (by rw [hR]; decide) hP 0 rfl rfl rfl rfl hl.1 (lv_room (Nat.le_of_ble_eq_true rfl)) dX7_pickThickness_13 ⟨by rw [hR]; exact Nat.zero_le _, by rw [hR]; exact Nat.zero_le _⟩ ?_
      refine q_iconst hx hb dX7_pickThickness_16 ?_
      have q_17 := hM.tds (C 11 0 + k) (by omega) (by omega)
      refine q_callP (As := [.int (iI (C 11 0 + k)), .int (iI 1)]) (rest := [.int (iI x)]) hx hb hml hown hts hK (c_X7_toldOf (C 11 0 + k) (1) (by first | omega | assumption) (by first | omega | assumption)) yi_X7_toldOf ml_X7_170 (by rw [hR]; decide) hP 0 rfl rfl rfl rfl hl.1 (lv_room (Nat.le_of_ble_eq_true rfl)) dX7_pickThickness_17 ⟨by rw [hR]; exact Nat.zero_le _, by rw [hR]; exact Nat.zero_le _⟩ ?_
      refine q_top (T 1 (C 11 0 + k)) (by omega) ?_
      refine q_iadd hx hb dX7_pickThickness_20 ?_
      refine lv_istore_n (lv' := [(2, .int (iI (x + T 1 (C 11 0 + k)))), (0, .ref (g 0)), (1, .int (iI n)), (3, .int (iI k))]) hx hb dX7_pickThickness_21 rfl hl (by decide) rfl (fun ls hl => ?_)
      refine lv_iinc (v := iI (k + 1)) (lv' := [(3, .int (iI (k + 1))), (2, .int (iI (x + T 1 (C 11 0 + k)))), (0, .ref (g 0)), (1, .int (iI n))]) hx hb dX7_pickThickness_22 hl (k := 3) rfl (iI_add _ _) (by decide) rfl (fun ls hl => ?_)
      refine lv_goto (tgt := 4) hx hb dX7_pickThickness_25 (by decide) ?_
      exact ih _ (by omega) (x + T 1 (C 11 0 + k)) (k + 1) ls rfl (by rw [h_x]; exact (sI_s _ (by omega)).symm) (by first | omega | assumption | rfl) (lv_sub hl [2, 3, 1, 0] rfl)
  exact loop_4 _ (0) (0) ls rfl (by rfl) (by first | omega | assumption | rfl) (lv_sub hl [2, 3, 1, 0] rfl)

set_option maxHeartbeats 4000000 in
set_option maxRecDepth 100000 in
theorem c_X7_pickLength (n : Int) (hM : WM td sa T C) (h1 : 0 ≤ n) (h2 : n ≤ T 8 0 - C 11 0) : qP l D (tyG cI cB cZ cS cJ) yX7_pickLength cX7_pickLength 6 (Option.some FieldType.int) 1 22 [.ref (g 0), .int (iI n)] (mW g cI cB cZ th len tl ts te tk nu er eo hL hS dp bf dr td sa ad hi sl sv tr) (some (.int (iI (lng T (C 2) (C 11 0) n)))) := by
  have hsc := hM.sc
  refine qP_enter (by decide) (Nat.le_of_ble_eq_true rfl) (nar_i _) (fun p e R s m args below meth c Q ls X hR hP hl hret => ?_)
  obtain ⟨hx, hb, hml, hown, hts, hK⟩ := X
  have hl : lv_has ls 6 [(0, .ref (g 0)), (1, .int (iI n))] := hl
  refine q_iconst hx hb dX7_pickLength_0 ?_
  refine lv_istore_n (lv' := [(2, .int (iI 0)), (0, .ref (g 0)), (1, .int (iI n))]) hx hb dX7_pickLength_1 rfl hl (by decide) rfl (fun ls hl => ?_)
  refine q_iconst hx hb dX7_pickLength_2 ?_
  refine lv_istore_n (lv' := [(3, .int (iI 0)), (2, .int (iI 0)), (0, .ref (g 0)), (1, .int (iI n))]) hx hb dX7_pickLength_3 rfl hl (by decide) rfl (fun ls hl => ?_)
  refine q_iconst hx hb dX7_pickLength_4 ?_
  refine lv_istore (lv' := [(4, .int (iI 0)), (3, .int (iI 0)), (2, .int (iI 0)), (0, .ref (g 0)), (1, .int (iI n))]) hx hb dX7_pickLength_5 hl (by decide) rfl (fun ls hl => ?_)
  have loop_7 : ∀ (fu : Nat) (x : Int) (b : Int) (k : Int) (ls : Array Slot), (n - k).toNat = fu → (x = sta (C 2) (C 11 0) k) → (b = lng T (C 2) (C 11 0) k) → (0 ≤ k ∧ k ≤ n) → lv_has ls 6 [(0, .ref (g 0)), (1, .int (iI n)), (2, .int (iI x)), (3, .int (iI b)), (4, .int (iI k))] → W p l e R s m args below meth c s.heap [] 0 0 Q (F0 m 7 ls []) := by
    intro fu
    induction fu using Nat.strongRecOn with
    | ind fu ih =>
    intro x b k ls hn_7 h_x h_b h_k hl
    refine lv_iload hx hb dX7_pickLength_7 (lv_at hl 4 rfl) ?_
    refine lv_iload_n hx hb dX7_pickLength_9 rfl (lv_at hl 1 rfl) ?_
    refine q_icmp_ge (tgt := 66) hx hb dX7_pickLength_10 (by decide) (by omega) (fun c_10 => ?_) (fun c_10 => ?_)
    · refine lv_iload_n hx hb dX7_pickLength_66 rfl (lv_at hl 3 rfl) ?_
      exact q_ret (hret 67 ls dX7_pickLength_67) (by rw [h_b, show k = n by omega])
    · refine lv_iload_n hx hb dX7_pickLength_13 rfl (lv_at hl 2 rfl) ?_
      refine lv_aload_n hx hb dX7_pickLength_14 rfl (lv_at hl 0 rfl) ?_
      refine lv_aload_n hx hb dX7_pickLength_15 rfl (lv_at hl 0 rfl) ?_
      refine lv_iload hx hb dX7_pickLength_16 (lv_at hl 4 rfl) ?_
      refine q_callP (As := [.int (iI k)]) (rest := [.ref (g 0), .int (iI x)]) hx hb hml hown hts hK (c_X7_top (k) (by first | omega | assumption) (by first | omega | assumption) (by first | omega | assumption)) yi_X7_top ml_X7_180 (by rw [hR]; decide) hP 0 rfl rfl rfl rfl hl.1 (lv_room (Nat.le_of_ble_eq_true rfl)) dX7_pickLength_18 ⟨by rw [hR]; exact Nat.zero_le _, by rw [hR]; exact Nat.zero_le _⟩ ?_
      refine q_iconst hx hb dX7_pickLength_21 ?_
      have q_22 := hM.tds (C 11 0 + k) (by omega) (by omega)
      have q_s := hM.sta (k := k) (by omega) (by omega)
      have q_l := hM.lng (k := k) (by omega) (by omega)
      refine q_callP (As := [.int (iI (C 11 0 + k)), .int (iI 0)]) (rest := [.int (iI x)]) hx hb hml hown hts hK (c_X7_toldOf (C 11 0 + k) (0) (by first | omega | assumption) (by first | omega | assumption)) yi_X7_toldOf ml_X7_170 (by rw [hR]; decide) hP 0 rfl rfl rfl rfl hl.1 (lv_room (Nat.le_of_ble_eq_true rfl)) dX7_pickLength_22 ⟨by rw [hR]; exact Nat.zero_le _, by rw [hR]; exact Nat.zero_le _⟩ ?_
      refine q_top (T 0 (C 11 0 + k)) (by omega) ?_
      refine q_iadd hx hb dX7_pickLength_25 ?_
      refine lv_istore (lv' := [(5, .int (iI (x + T 0 (C 11 0 + k)))), (0, .ref (g 0)), (1, .int (iI n)), (2, .int (iI x)), (3, .int (iI b)), (4, .int (iI k))]) hx hb dX7_pickLength_26 hl (by decide) rfl (fun ls hl => ?_)
      refine lv_iload hx hb dX7_pickLength_28 (lv_at hl 0 rfl) ?_
      refine lv_iload_n hx hb dX7_pickLength_30 rfl (lv_at hl 4 rfl) ?_
      refine q_icmp_le (tgt := 39) hx hb dX7_pickLength_31 (by decide) (by omega) (fun c_31 => ?_) (fun c_31 => ?_)
      · refine lv_iload_n hx hb dX7_pickLength_39 rfl (lv_at hl 4 rfl) ?_
        refine lv_istore_n (lv' := [(3, .int (iI b)), (5, .int (iI (x + T 0 (C 11 0 + k)))), (0, .ref (g 0)), (1, .int (iI n)), (2, .int (iI x)), (4, .int (iI k))]) hx hb dX7_pickLength_40 rfl hl (by decide) rfl (fun ls hl => ?_)
        refine lv_iload_n hx hb dX7_pickLength_41 rfl (lv_at hl 4 rfl) ?_
        refine lv_aload_n hx hb dX7_pickLength_42 rfl (lv_at hl 2 rfl) ?_
        refine q_get hx hb hts hown hK hP ci_X7 0 rfl 14 (by decide) fl_X7_20 rfl dX7_pickLength_43 ?_
        refine lv_aload_n hx hb dX7_pickLength_46 rfl (lv_at hl 2 rfl) ?_
        refine lv_iload hx hb dX7_pickLength_47 (lv_at hl 5 rfl) ?_
        refine q_callP (As := [.int (iI k)]) (rest := [.ref (g 4), .int (iI x)]) hx hb hml hown hts hK (c_X7_top (k) (by first | omega | assumption) (by first | omega | assumption) (by first | omega | assumption)) yi_X7_top ml_X7_180 (by rw [hR]; decide) hP 0 rfl rfl rfl rfl hl.1 (lv_room (Nat.le_of_ble_eq_true rfl)) dX7_pickLength_49 ⟨by rw [hR]; exact Nat.zero_le _, by rw [hR]; exact Nat.zero_le _⟩ ?_
        refine q_callPS (As := [.int (iI (C 11 0 + k))]) (rest := [.ref (g 4), .int (iI x)]) hx hb hml hown hts hK (c_X7_of (C 11 0 + k)) yt_X7_of ml_X7_167 (by rw [hR]; decide) (show va_P D vwCl [] _ from fun k q h => by simp at h)  rfl rfl hl.1 (lv_room (Nat.le_of_ble_eq_true rfl)) dX7_pickLength_52 ⟨by rw [hR]; exact Nat.zero_le _, by rw [hR]; exact Nat.zero_le _⟩ ?_
        refine q_iconst hx hb dX7_pickLength_55 ?_
        refine q_iadd hx hb dX7_pickLength_56 ?_
        have q_57 := hM.sh (C 11 0 + k) (by omega) (by omega)
        refine q_iald hx hb hK hP 4 0 rfl rfl (z := (26 + 4 * (C 11 0 + k) + 2)) (v := (C 2 (C 11 0 + k))) (by omega) (by omega) dX7_pickLength_57 ?_
        refine q_iadd hx hb dX7_pickLength_58 ?_
        refine lv_istore_n (lv' := [(2, .int (iI (x + C 2 (C 11 0 + k)))), (3, .int (iI b)), (5, .int (iI (x + T 0 (C 11 0 + k)))), (0, .ref (g 0)), (1, .int (iI n)), (4, .int (iI k))]) hx hb dX7_pickLength_59 rfl hl (by decide) rfl (fun ls hl => ?_)
        refine lv_iinc (v := iI (k + 1)) (lv' := [(4, .int (iI (k + 1))), (2, .int (iI (x + C 2 (C 11 0 + k)))), (3, .int (iI b)), (5, .int (iI (x + T 0 (C 11 0 + k)))), (0, .ref (g 0)), (1, .int (iI n))]) hx hb dX7_pickLength_60 hl (k := 5) rfl (iI_add _ _) (by decide) rfl (fun ls hl => ?_)
        refine lv_goto (tgt := 7) hx hb dX7_pickLength_63 (by decide) ?_
        exact ih _ (by omega) (x + C 2 (C 11 0 + k)) (b) (k + 1) ls rfl (by rw [h_x]; exact (sI_s _ (by omega)).symm) (by show _ = mI _ _; rw [mI_s _ (by omega)]; show _ = maxZ (lng T (C 2) (C 11 0) k) _; rw [← h_b, ← h_x]; unfold maxZ; first | rw [if_pos (by omega)] | rw [if_neg (by omega)]) (by first | omega | assumption | rfl) (lv_sub hl [4, 5, 1, 2, 0] rfl)
      · refine lv_iload hx hb dX7_pickLength_34 (lv_at hl 0 rfl) ?_
        refine lv_goto (tgt := 40) hx hb dX7_pickLength_36 (by decide) ?_
        refine lv_istore_n (lv' := [(3, .int (iI (x + T 0 (C 11 0 + k)))), (5, .int (iI (x + T 0 (C 11 0 + k)))), (0, .ref (g 0)), (1, .int (iI n)), (2, .int (iI x)), (4, .int (iI k))]) hx hb dX7_pickLength_40 rfl hl (by decide) rfl (fun ls hl => ?_)
        refine lv_iload_n hx hb dX7_pickLength_41 rfl (lv_at hl 4 rfl) ?_
        refine lv_aload_n hx hb dX7_pickLength_42 rfl (lv_at hl 2 rfl) ?_
        refine q_get hx hb hts hown hK hP ci_X7 0 rfl 14 (by decide) fl_X7_20 rfl dX7_pickLength_43 ?_
        refine lv_aload_n hx hb dX7_pickLength_46 rfl (lv_at hl 2 rfl) ?_
        refine lv_iload hx hb dX7_pickLength_47 (lv_at hl 5 rfl) ?_
        refine q_callP (As := [.int (iI k)]) (rest := [.ref (g 4), .int (iI x)]) hx hb hml hown hts hK (c_X7_top (k) (by first | omega | assumption) (by first | omega | assumption) (by first | omega | assumption)) yi_X7_top ml_X7_180 (by rw [hR]; decide) hP 0 rfl rfl rfl rfl hl.1 (lv_room (Nat.le_of_ble_eq_true rfl)) dX7_pickLength_49 ⟨by rw [hR]; exact Nat.zero_le _, by rw [hR]; exact Nat.zero_le _⟩ ?_
        refine q_callPS (As := [.int (iI (C 11 0 + k))]) (rest := [.ref (g 4), .int (iI x)]) hx hb hml hown hts hK (c_X7_of (C 11 0 + k)) yt_X7_of ml_X7_167 (by rw [hR]; decide) (show va_P D vwCl [] _ from fun k q h => by simp at h)  rfl rfl hl.1 (lv_room (Nat.le_of_ble_eq_true rfl)) dX7_pickLength_52 ⟨by rw [hR]; exact Nat.zero_le _, by rw [hR]; exact Nat.zero_le _⟩ ?_
        refine q_iconst hx hb dX7_pickLength_55 ?_
        refine q_iadd hx hb dX7_pickLength_56 ?_
        have q_57 := hM.sh (C 11 0 + k) (by omega) (by omega)
        refine q_iald hx hb hK hP 4 0 rfl rfl (z := (26 + 4 * (C 11 0 + k) + 2)) (v := (C 2 (C 11 0 + k))) (by omega) (by omega) dX7_pickLength_57 ?_
        refine q_iadd hx hb dX7_pickLength_58 ?_
        refine lv_istore_n (lv' := [(2, .int (iI (x + C 2 (C 11 0 + k)))), (3, .int (iI (x + T 0 (C 11 0 + k)))), (5, .int (iI (x + T 0 (C 11 0 + k)))), (0, .ref (g 0)), (1, .int (iI n)), (4, .int (iI k))]) hx hb dX7_pickLength_59 rfl hl (by decide) rfl (fun ls hl => ?_)
        refine lv_iinc (v := iI (k + 1)) (lv' := [(4, .int (iI (k + 1))), (2, .int (iI (x + C 2 (C 11 0 + k)))), (3, .int (iI (x + T 0 (C 11 0 + k)))), (5, .int (iI (x + T 0 (C 11 0 + k)))), (0, .ref (g 0)), (1, .int (iI n))]) hx hb dX7_pickLength_60 hl (k := 5) rfl (iI_add _ _) (by decide) rfl (fun ls hl => ?_)
        refine lv_goto (tgt := 7) hx hb dX7_pickLength_63 (by decide) ?_
        exact ih _ (by omega) (x + C 2 (C 11 0 + k)) (x + T 0 (C 11 0 + k)) (k + 1) ls rfl (by rw [h_x]; exact (sI_s _ (by omega)).symm) (by show _ = mI _ _; rw [mI_s _ (by omega)]; show _ = maxZ (lng T (C 2) (C 11 0) k) _; rw [← h_b, ← h_x]; unfold maxZ; first | rw [if_pos (by omega)] | rw [if_neg (by omega)]) (by first | omega | assumption | rfl) (lv_sub hl [4, 5, 1, 2, 0] rfl)
  exact loop_7 _ (0) (0) (0) ls rfl (by rfl) (by rfl) (by first | omega | assumption | rfl) (lv_sub hl [3, 4, 2, 1, 0] rfl)

set_option maxHeartbeats 4000000 in
set_option maxRecDepth 100000 in
theorem c_X7_reasonFor (n : Int) (hM : WM td sa T C) (h1 : 1 ≤ n) (h2 : n ≤ T 8 0 - C 11 0) : qP l D (tyG cI cB cZ cS cJ) yX7_reasonFor cX7_reasonFor 4 (Option.some FieldType.int) 2 47 [.ref (g 0), .int (iI n)] (mW g cI cB cZ th len tl ts te tk nu er eo hL hS dp bf dr td sa ad hi sl sv tr) (some (.int (iI (rsn T C (C 8 0) (usG (C 10) (C 11 6) (T 8 2)) (thk T (C 11 0) n) (lng T (C 2) (C 11 0) n) (C 1 (C 11 0)))))) := by
  have hsc := hM.sc
  have hlm := hM.lm
  have hus := hM.us
  have hth := hM.thk (k := n) (by omega) (by omega)
  have hln := hM.lng (k := n) (by omega) (by omega)
  have hsh := hM.sh (C 11 0) (by omega) (by omega)
  have hmu := mulb (A := 300) (B := 500) (show 0 ≤ C 8 0 by omega) (by omega) (show 0 ≤ usG (C 10) (C 11 6) (T 8 2) by omega) (by omega)
  refine qP_enter (by decide) (Nat.le_of_ble_eq_true rfl) (nar_i _) (fun p e R s m args below meth c Q ls X hR hP hl hret => ?_)
  obtain ⟨hx, hb, hml, hown, hts, hK⟩ := X
  have hl : lv_has ls 4 [(0, .ref (g 0)), (1, .int (iI n))] := hl
  refine lv_aload_n hx hb dX7_reasonFor_0 rfl (lv_at hl 0 rfl) ?_
  refine lv_iload_n hx hb dX7_reasonFor_1 rfl (lv_at hl 1 rfl) ?_
  refine q_callP (As := [.int (iI n)]) (rest := []) hx hb hml hown hts hK (c_X7_pickThickness (n) (by first | omega | assumption) (by first | omega | assumption) (by first | omega | assumption)) yi_X7_pickThickness ml_X7_183 (by rw [hR]; decide) hP 0 rfl rfl rfl rfl hl.1 (lv_room (Nat.le_of_ble_eq_true rfl)) dX7_reasonFor_2 ⟨by rw [hR]; exact Nat.zero_le _, by rw [hR]; exact Nat.zero_le _⟩ ?_
  refine q_bipush hx hb dX7_reasonFor_5 rfl ?_
  refine q_imul hx hb dX7_reasonFor_7 ?_
  refine lv_aload_n hx hb dX7_reasonFor_8 rfl (lv_at hl 0 rfl) ?_
  refine q_get hx hb hts hown hK hP ci_X7 0 rfl 14 (by decide) fl_X7_20 rfl dX7_reasonFor_9 ?_
  refine q_iconst hx hb dX7_reasonFor_12 ?_
  refine q_iald hx hb hK hP 4 0 rfl rfl (z := 1) (v := (C 8 0)) (by omega) (by omega) dX7_reasonFor_13 ?_
  refine lv_aload_n hx hb dX7_reasonFor_14 rfl (lv_at hl 0 rfl) ?_
  refine q_callP (As := []) (rest := [.int (iI (C 8 0)), .int (iI (thk T (C 11 0) n * 100))]) hx hb hml hown hts hK (c_X7_usual (by first | omega | assumption)) yi_X7_usual ml_X7_186 (by rw [hR]; decide) hP 0 rfl rfl rfl rfl hl.1 (lv_room (Nat.le_of_ble_eq_true rfl)) dX7_reasonFor_15 ⟨by rw [hR]; exact Nat.zero_le _, by rw [hR]; exact Nat.zero_le _⟩ ?_
  refine q_imul hx hb dX7_reasonFor_18 ?_
  refine q_icmp_le (tgt := 24) hx hb dX7_reasonFor_19 (by decide) (by omega) (fun c_19 => ?_) (fun c_19 => ?_)
  · refine lv_aload_n hx hb dX7_reasonFor_24 rfl (lv_at hl 0 rfl) ?_
    refine lv_iload_n hx hb dX7_reasonFor_25 rfl (lv_at hl 1 rfl) ?_
    refine q_callP (As := [.int (iI n)]) (rest := []) hx hb hml hown hts hK (c_X7_pickLength (n) (by first | omega | assumption) (by first | omega | assumption) (by first | omega | assumption)) yi_X7_pickLength ml_X7_189 (by rw [hR]; decide) hP 0 rfl rfl rfl rfl hl.1 (lv_room (Nat.le_of_ble_eq_true rfl)) dX7_reasonFor_26 ⟨by rw [hR]; exact Nat.zero_le _, by rw [hR]; exact Nat.zero_le _⟩ ?_
    refine lv_aload_n hx hb dX7_reasonFor_29 rfl (lv_at hl 0 rfl) ?_
    refine q_get hx hb hts hown hK hP ci_X7 0 rfl 11 (by decide) fl_X7_17 rfl dX7_reasonFor_30 ?_
    refine q_iconst hx hb dX7_reasonFor_33 ?_
    refine q_iald hx hb hK hP 3 0 rfl rfl (z := 0) (v := (T 8 1)) (by omega) (by omega) dX7_reasonFor_34 ?_
    refine q_isub hx hb dX7_reasonFor_35 ?_
    refine lv_istore_n (lv' := [(2, .int (iI (lng T (C 2) (C 11 0) n - T 8 1))), (0, .ref (g 0)), (1, .int (iI n))]) hx hb dX7_reasonFor_36 rfl hl (by decide) rfl (fun ls hl => ?_)
    refine lv_iload_n hx hb dX7_reasonFor_37 rfl (lv_at hl 0 rfl) ?_
    refine lv_aload_n hx hb dX7_reasonFor_38 rfl (lv_at hl 1 rfl) ?_
    refine q_get hx hb hts hown hK hP ci_X7 0 rfl 14 (by decide) fl_X7_20 rfl dX7_reasonFor_39 ?_
    refine q_iconst hx hb dX7_reasonFor_42 ?_
    refine q_iald hx hb hK hP 4 0 rfl rfl (z := 2) (v := (C 8 1)) (by omega) (by omega) dX7_reasonFor_43 ?_
    refine q_icmp_gt (tgt := 58) hx hb dX7_reasonFor_44 (by decide) (by omega) (fun c_44 => ?_) (fun c_44 => ?_)
    · refine q_iconst hx hb dX7_reasonFor_58 ?_
      exact q_ret (hret 59 ls dX7_reasonFor_59) (by unfold rsn; (first | rw [if_pos (by omega)] | (rw [if_neg (by omega), if_pos (by omega)]) | (rw [if_neg (by omega), if_neg (by omega), if_pos (absZ_lt.mpr (by omega))]) | (rw [if_neg (by omega), if_neg (by omega), if_neg (absZ_nlt (by omega) (by omega))])))
    · refine lv_iload_n hx hb dX7_reasonFor_47 rfl (lv_at hl 0 rfl) ?_
      refine q_ineg hx hb dX7_reasonFor_48 ?_
      refine lv_aload_n hx hb dX7_reasonFor_49 rfl (lv_at hl 1 rfl) ?_
      refine q_get hx hb hts hown hK hP ci_X7 0 rfl 14 (by decide) fl_X7_20 rfl dX7_reasonFor_50 ?_
      refine q_iconst hx hb dX7_reasonFor_53 ?_
      refine q_iald hx hb hK hP 4 0 rfl rfl (z := 2) (v := (C 8 1)) (by omega) (by omega) dX7_reasonFor_54 ?_
      refine q_icmp_le (tgt := 60) hx hb dX7_reasonFor_55 (by decide) (by omega) (fun c_55 => ?_) (fun c_55 => ?_)
      · refine lv_aload_n hx hb dX7_reasonFor_60 rfl (lv_at hl 1 rfl) ?_
        refine q_get hx hb hts hown hK hP ci_X7 0 rfl 14 (by decide) fl_X7_20 rfl dX7_reasonFor_61 ?_
        refine lv_aload_n hx hb dX7_reasonFor_64 rfl (lv_at hl 1 rfl) ?_
        refine q_iconst hx hb dX7_reasonFor_65 ?_
        refine q_callP (As := [.int (iI 0)]) (rest := [.ref (g 4)]) hx hb hml hown hts hK (c_X7_top (0) (by first | omega | assumption) (by first | omega | assumption) (by first | omega | assumption)) yi_X7_top ml_X7_180 (by rw [hR]; decide) hP 0 rfl rfl rfl rfl hl.1 (lv_room (Nat.le_of_ble_eq_true rfl)) dX7_reasonFor_66 ⟨by rw [hR]; exact Nat.zero_le _, by rw [hR]; exact Nat.zero_le _⟩ ?_
        refine q_callPS (As := [.int (iI (C 11 0 + 0))]) (rest := [.ref (g 4)]) hx hb hml hown hts hK (c_X7_of (C 11 0 + 0)) yt_X7_of ml_X7_167 (by rw [hR]; decide) (show va_P D vwCl [] _ from fun k q h => by simp at h)  rfl rfl hl.1 (lv_room (Nat.le_of_ble_eq_true rfl)) dX7_reasonFor_69 ⟨by rw [hR]; exact Nat.zero_le _, by rw [hR]; exact Nat.zero_le _⟩ ?_
        refine q_iconst hx hb dX7_reasonFor_72 ?_
        refine q_iadd hx hb dX7_reasonFor_73 ?_
        refine q_iald hx hb hK hP 4 0 rfl rfl (z := (26 + 4 * (C 11 0 + 0) + 1)) (v := (C 1 (C 11 0))) (by omega) (by rw [show C 11 0 + 0 = C 11 0 by omega]; omega) dX7_reasonFor_74 ?_
        refine lv_istore_n (lv' := [(3, .int (iI (C 1 (C 11 0)))), (2, .int (iI (lng T (C 2) (C 11 0) n - T 8 1))), (0, .ref (g 0)), (1, .int (iI n))]) hx hb dX7_reasonFor_75 rfl hl (by decide) rfl (fun ls hl => ?_)
        refine lv_iload_n hx hb dX7_reasonFor_76 rfl (lv_at hl 0 rfl) ?_
        refine q_if_ge (tgt := 85) hx hb dX7_reasonFor_77 (by decide) (by omega) (fun c_77 => ?_) (fun c_77 => ?_)
        · refine lv_iload_n hx hb dX7_reasonFor_85 rfl (lv_at hl 0 rfl) ?_
          refine lv_aload_n hx hb dX7_reasonFor_86 rfl (lv_at hl 2 rfl) ?_
          refine q_get hx hb hts hown hK hP ci_X7 0 rfl 14 (by decide) fl_X7_20 rfl dX7_reasonFor_87 ?_
          refine q_iconst hx hb dX7_reasonFor_90 ?_
          refine q_iald hx hb hK hP 4 0 rfl rfl (z := 3) (v := (C 8 2)) (by omega) (by omega) dX7_reasonFor_91 ?_
          refine q_icmp_le (tgt := 99) hx hb dX7_reasonFor_92 (by decide) (by omega) (fun c_92 => ?_) (fun c_92 => ?_)
          · refine q_iconst hx hb dX7_reasonFor_99 ?_
            exact q_ret (hret 100 ls dX7_reasonFor_100) (by unfold rsn; (first | rw [if_pos (by omega)] | (rw [if_neg (by omega), if_pos (by omega)]) | (rw [if_neg (by omega), if_neg (by omega), if_pos (absZ_lt.mpr (by omega))]) | (rw [if_neg (by omega), if_neg (by omega), if_neg (absZ_nlt (by omega) (by omega))])))
          · refine q_iconst hx hb dX7_reasonFor_95 ?_
            refine lv_goto (tgt := 100) hx hb dX7_reasonFor_96 (by decide) ?_
            exact q_ret (hret 100 ls dX7_reasonFor_100) (by unfold rsn; (first | rw [if_pos (by omega)] | (rw [if_neg (by omega), if_pos (by omega)]) | (rw [if_neg (by omega), if_neg (by omega), if_pos (absZ_lt.mpr (by omega))]) | (rw [if_neg (by omega), if_neg (by omega), if_neg (absZ_nlt (by omega) (by omega))])))
        · refine lv_iload_n hx hb dX7_reasonFor_80 rfl (lv_at hl 0 rfl) ?_
          refine q_ineg hx hb dX7_reasonFor_81 ?_
          refine lv_goto (tgt := 86) hx hb dX7_reasonFor_82 (by decide) ?_
          refine lv_aload_n hx hb dX7_reasonFor_86 rfl (lv_at hl 2 rfl) ?_
          refine q_get hx hb hts hown hK hP ci_X7 0 rfl 14 (by decide) fl_X7_20 rfl dX7_reasonFor_87 ?_
          refine q_iconst hx hb dX7_reasonFor_90 ?_
          refine q_iald hx hb hK hP 4 0 rfl rfl (z := 3) (v := (C 8 2)) (by omega) (by omega) dX7_reasonFor_91 ?_
          refine q_icmp_le (tgt := 99) hx hb dX7_reasonFor_92 (by decide) (by omega) (fun c_92 => ?_) (fun c_92 => ?_)
          · refine q_iconst hx hb dX7_reasonFor_99 ?_
            exact q_ret (hret 100 ls dX7_reasonFor_100) (by unfold rsn; (first | rw [if_pos (by omega)] | (rw [if_neg (by omega), if_pos (by omega)]) | (rw [if_neg (by omega), if_neg (by omega), if_pos (absZ_lt.mpr (by omega))]) | (rw [if_neg (by omega), if_neg (by omega), if_neg (absZ_nlt (by omega) (by omega))])))
          · refine q_iconst hx hb dX7_reasonFor_95 ?_
            refine lv_goto (tgt := 100) hx hb dX7_reasonFor_96 (by decide) ?_
            exact q_ret (hret 100 ls dX7_reasonFor_100) (by unfold rsn; (first | rw [if_pos (by omega)] | (rw [if_neg (by omega), if_pos (by omega)]) | (rw [if_neg (by omega), if_neg (by omega), if_pos (absZ_lt.mpr (by omega))]) | (rw [if_neg (by omega), if_neg (by omega), if_neg (absZ_nlt (by omega) (by omega))])))
      · refine q_iconst hx hb dX7_reasonFor_58 ?_
        exact q_ret (hret 59 ls dX7_reasonFor_59) (by unfold rsn; (first | rw [if_pos (by omega)] | (rw [if_neg (by omega), if_pos (by omega)]) | (rw [if_neg (by omega), if_neg (by omega), if_pos (absZ_lt.mpr (by omega))]) | (rw [if_neg (by omega), if_neg (by omega), if_neg (absZ_nlt (by omega) (by omega))])))
  · refine q_iconst hx hb dX7_reasonFor_22 ?_
    exact q_ret (hret 23 ls dX7_reasonFor_23) (by unfold rsn; (first | rw [if_pos (by omega)] | (rw [if_neg (by omega), if_pos (by omega)]) | (rw [if_neg (by omega), if_neg (by omega), if_pos (absZ_lt.mpr (by omega))]) | (rw [if_neg (by omega), if_neg (by omega), if_neg (absZ_nlt (by omega) (by omega))])))

set_option maxHeartbeats 4000000 in
set_option maxRecDepth 100000 in
theorem c_X7_halves (hM : WM td sa T C) : qP l D (tyG cI cB cZ cS cJ) yX7_halves cX7_halves 3 (Option.some FieldType.int) 1 20 [.ref (g 0)] (mW g cI cB cZ th len tl ts te tk nu er eo hL hS dp bf dr td sa ad hi sl sv tr) (some (.int (iI (sI (C 3) (T 8 0))))) := by
  have hsc := hM.sc
  refine qP_enter (by decide) (Nat.le_of_ble_eq_true rfl) (nar_i _) (fun p e R s m args below meth c Q ls X hR hP hl hret => ?_)
  obtain ⟨hx, hb, hml, hown, hts, hK⟩ := X
  have hl : lv_has ls 3 [(0, .ref (g 0))] := hl
  refine q_iconst hx hb dX7_halves_0 ?_
  refine lv_istore_n (lv' := [(1, .int (iI 0)), (0, .ref (g 0))]) hx hb dX7_halves_1 rfl hl (by decide) rfl (fun ls hl => ?_)
  refine q_iconst hx hb dX7_halves_2 ?_
  refine lv_istore_n (lv' := [(2, .int (iI 0)), (1, .int (iI 0)), (0, .ref (g 0))]) hx hb dX7_halves_3 rfl hl (by decide) rfl (fun ls hl => ?_)
  have loop_4 : ∀ (fu : Nat) (x : Int) (k : Int) (ls : Array Slot), (T 8 0 - k).toNat = fu → (x = sI (C 3) k) → (0 ≤ k ∧ k ≤ T 8 0) → lv_has ls 3 [(0, .ref (g 0)), (1, .int (iI x)), (2, .int (iI k))] → W p l e R s m args below meth c s.heap [] 0 0 Q (F0 m 4 ls []) := by
    intro fu
    induction fu using Nat.strongRecOn with
    | ind fu ih =>
    intro x k ls hn_4 h_x h_k hl
    refine lv_iload_n hx hb dX7_halves_4 rfl (lv_at hl 2 rfl) ?_
    refine lv_aload_n hx hb dX7_halves_5 rfl (lv_at hl 0 rfl) ?_
    refine q_callP (As := []) (rest := [.int (iI k)]) hx hb hml hown hts hK c_X7_sheets yi_X7_sheets ml_X7_164 (by rw [hR]; decide) hP 0 rfl rfl rfl rfl hl.1 (lv_room (Nat.le_of_ble_eq_true rfl)) dX7_halves_6 ⟨by rw [hR]; exact Nat.zero_le _, by rw [hR]; exact Nat.zero_le _⟩ ?_
    refine q_top (T 8 0) (by omega) ?_
    refine q_icmp_ge (tgt := 32) hx hb dX7_halves_9 (by decide) (by omega) (fun c_9 => ?_) (fun c_9 => ?_)
    · refine lv_iload_n hx hb dX7_halves_32 rfl (lv_at hl 1 rfl) ?_
      exact q_ret (hret 33 ls dX7_halves_33) (by rw [h_x, show k = T 8 0 by omega])
    · refine lv_iload_n hx hb dX7_halves_12 rfl (lv_at hl 1 rfl) ?_
      refine lv_aload_n hx hb dX7_halves_13 rfl (lv_at hl 0 rfl) ?_
      refine q_get hx hb hts hown hK hP ci_X7 0 rfl 14 (by decide) fl_X7_20 rfl dX7_halves_14 ?_
      refine lv_iload_n hx hb dX7_halves_17 rfl (lv_at hl 2 rfl) ?_
      refine q_callPS (As := [.int (iI k)]) (rest := [.ref (g 4), .int (iI x)]) hx hb hml hown hts hK (c_X7_of (k)) yt_X7_of ml_X7_167 (by rw [hR]; decide) (show va_P D vwCl [] _ from fun k q h => by simp at h)  rfl rfl hl.1 (lv_room (Nat.le_of_ble_eq_true rfl)) dX7_halves_18 ⟨by rw [hR]; exact Nat.zero_le _, by rw [hR]; exact Nat.zero_le _⟩ ?_
      refine q_iconst hx hb dX7_halves_21 ?_
      refine q_iadd hx hb dX7_halves_22 ?_
      have q_23 := hM.sh k (by omega) (by omega)
      refine q_iald hx hb hK hP 4 0 rfl rfl (z := (26 + 4 * k + 3)) (v := (C 3 k)) (by omega) (by omega) dX7_halves_23 ?_
      refine q_iadd hx hb dX7_halves_24 ?_
      refine lv_istore_n (lv' := [(1, .int (iI (x + C 3 k))), (0, .ref (g 0)), (2, .int (iI k))]) hx hb dX7_halves_25 rfl hl (by decide) rfl (fun ls hl => ?_)
      refine lv_iinc (v := iI (k + 1)) (lv' := [(2, .int (iI (k + 1))), (1, .int (iI (x + C 3 k))), (0, .ref (g 0))]) hx hb dX7_halves_26 hl (k := 2) rfl (iI_add _ _) (by decide) rfl (fun ls hl => ?_)
      refine lv_goto (tgt := 4) hx hb dX7_halves_29 (by decide) ?_
      exact ih _ (by omega) (x + C 3 k) (k + 1) ls rfl (by rw [h_x]; exact (sI_s _ (by omega)).symm) (by first | omega | assumption | rfl) (lv_sub hl [2, 1, 0] rfl)
  exact loop_4 _ (0) (0) ls rfl (by rfl) (by first | omega | assumption | rfl) (lv_sub hl [2, 1, 0] rfl)

set_option maxHeartbeats 4000000 in
set_option maxRecDepth 100000 in
theorem c_X7_pagesIn (j : Int) (hM : WM td sa T C) (hj : rg j) : qP l D (tyG cI cB cZ cS cJ) yX7_pagesIn cX7_pagesIn 4 (Option.some FieldType.int) 0 0 [.ref (g 0), .int (iI j)] (mW g cI cB cZ th len tl ts te tk nu er eo hL hS dp bf dr td sa ad hi sl sv tr) (some (.int (iI (pgJ C j)))) := by
  have hsc := hM.sc
  refine qP_enter (by decide) (Nat.le_of_ble_eq_true rfl) (nar_i _) (fun p e R s m args below meth c Q ls X hR hP hl hret => ?_)
  obtain ⟨hx, hb, hml, hown, hts, hK⟩ := X
  have hl : lv_has ls 4 [(0, .ref (g 0)), (1, .int (iI j))] := hl
  refine q_iconst hx hb dX7_pagesIn_0 ?_
  refine lv_istore_n (lv' := [(2, .int (iI 0)), (0, .ref (g 0)), (1, .int (iI j))]) hx hb dX7_pagesIn_1 rfl hl (by decide) rfl (fun ls hl => ?_)
  refine q_iconst hx hb dX7_pagesIn_2 ?_
  refine lv_istore_n (lv' := [(3, .int (iI 0)), (2, .int (iI 0)), (0, .ref (g 0)), (1, .int (iI j))]) hx hb dX7_pagesIn_3 rfl hl (by decide) rfl (fun ls hl => ?_)
  have loop_4 : ∀ (fu : Nat) (x : Int) (k : Int) (ls : Array Slot), (C 11 3 - k).toNat = fu → (x = kI (fun p => C 6 p = j) k) → (0 ≤ k ∧ k ≤ C 11 3) → lv_has ls 4 [(0, .ref (g 0)), (1, .int (iI j)), (2, .int (iI x)), (3, .int (iI k))] → W p l e R s m args below meth c s.heap [] 0 0 Q (F0 m 4 ls []) := by
    intro fu
    induction fu using Nat.strongRecOn with
    | ind fu ih =>
    intro x k ls hn_4 h_x h_k hl
    refine lv_iload_n hx hb dX7_pagesIn_4 rfl (lv_at hl 3 rfl) ?_
    refine lv_aload_n hx hb dX7_pagesIn_5 rfl (lv_at hl 0 rfl) ?_
    refine q_get hx hb hts hown hK hP ci_X7 0 rfl 14 (by decide) fl_X7_20 rfl dX7_pagesIn_6 ?_
    refine q_bipush hx hb dX7_pagesIn_9 rfl ?_
    refine q_iald hx hb hK hP 4 0 rfl rfl (z := 15) (v := (C 11 3)) (by omega) (by omega) dX7_pagesIn_11 ?_
    refine q_icmp_ge (tgt := 47) hx hb dX7_pagesIn_12 (by decide) (by omega) (fun c_12 => ?_) (fun c_12 => ?_)
    · refine lv_iload_n hx hb dX7_pagesIn_47 rfl (lv_at hl 2 rfl) ?_
      exact q_ret (hret 48 ls dX7_pagesIn_48) (by rw [h_x, show k = C 11 3 by omega]; rfl)
    · refine lv_iload_n hx hb dX7_pagesIn_15 rfl (lv_at hl 2 rfl) ?_
      refine lv_aload_n hx hb dX7_pagesIn_16 rfl (lv_at hl 0 rfl) ?_
      refine q_get hx hb hts hown hK hP ci_X7 0 rfl 14 (by decide) fl_X7_20 rfl dX7_pagesIn_17 ?_
      refine q_sipush hx hb dX7_pagesIn_20 rfl ?_
      refine q_iconst hx hb dX7_pagesIn_23 ?_
      refine lv_iload_n hx hb dX7_pagesIn_24 rfl (lv_at hl 3 rfl) ?_
      refine q_imul hx hb dX7_pagesIn_25 ?_
      refine q_iadd hx hb dX7_pagesIn_26 ?_
      refine q_iconst hx hb dX7_pagesIn_27 ?_
      refine q_iadd hx hb dX7_pagesIn_28 ?_
      have q_29 := hM.pg k (by omega) (by omega)
      refine q_iald hx hb hK hP 4 0 rfl rfl (z := (266 + 2 * k + 1)) (v := (C 6 k)) (by omega) (by omega) dX7_pagesIn_29 ?_
      refine lv_iload_n hx hb dX7_pagesIn_30 rfl (lv_at hl 1 rfl) ?_
      refine q_icmp_ne (tgt := 38) hx hb dX7_pagesIn_31 (by decide) (by omega) (fun c_31 => ?_) (fun c_31 => ?_)
      · refine q_iconst hx hb dX7_pagesIn_38 ?_
        refine q_iadd hx hb dX7_pagesIn_39 ?_
        refine q_top x (Int.add_zero _) ?_
        refine lv_istore_n (lv' := [(2, .int (iI x)), (0, .ref (g 0)), (1, .int (iI j)), (3, .int (iI k))]) hx hb dX7_pagesIn_40 rfl hl (by decide) rfl (fun ls hl => ?_)
        refine lv_iinc (v := iI (k + 1)) (lv' := [(3, .int (iI (k + 1))), (2, .int (iI x)), (0, .ref (g 0)), (1, .int (iI j))]) hx hb dX7_pagesIn_41 hl (k := 3) rfl (iI_add _ _) (by decide) rfl (fun ls hl => ?_)
        refine lv_goto (tgt := 4) hx hb dX7_pagesIn_44 (by decide) ?_
        exact ih _ (by omega) (x) (k + 1) ls rfl (by rw [h_x, kI_s _ (by omega)]; first | rw [bI_t (by omega)] | (rw [bI_f (by omega)]; omega)) (by first | omega | assumption | rfl) (lv_sub hl [2, 3, 1, 0] rfl)
      · refine q_iconst hx hb dX7_pagesIn_34 ?_
        refine lv_goto (tgt := 39) hx hb dX7_pagesIn_35 (by decide) ?_
        refine q_iadd hx hb dX7_pagesIn_39 ?_
        refine lv_istore_n (lv' := [(2, .int (iI (x + 1))), (0, .ref (g 0)), (1, .int (iI j)), (3, .int (iI k))]) hx hb dX7_pagesIn_40 rfl hl (by decide) rfl (fun ls hl => ?_)
        refine lv_iinc (v := iI (k + 1)) (lv' := [(3, .int (iI (k + 1))), (2, .int (iI (x + 1))), (0, .ref (g 0)), (1, .int (iI j))]) hx hb dX7_pagesIn_41 hl (k := 3) rfl (iI_add _ _) (by decide) rfl (fun ls hl => ?_)
        refine lv_goto (tgt := 4) hx hb dX7_pagesIn_44 (by decide) ?_
        exact ih _ (by omega) (x + 1) (k + 1) ls rfl (by rw [h_x, kI_s _ (by omega)]; first | rw [bI_t (by omega)] | (rw [bI_f (by omega)]; omega)) (by first | omega | assumption | rfl) (lv_sub hl [2, 3, 1, 0] rfl)
  exact loop_4 _ (0) (0) ls rfl (by rfl) (by first | omega | assumption | rfl) (lv_sub hl [2, 3, 1, 0] rfl)

set_option maxHeartbeats 4000000 in
set_option maxRecDepth 100000 in
theorem c_X7_firstIn (j : Int) (hM : WM td sa T C) (hj : rg j) : qP l D (tyG cI cB cZ cS cJ) yX7_firstIn cX7_firstIn 3 (Option.some FieldType.int) 0 0 [.ref (g 0), .int (iI j)] (mW g cI cB cZ th len tl ts te tk nu er eo hL hS dp bf dr td sa ad hi sl sv tr) (some (.int (iI (fsJ C j)))) := by
  have hsc := hM.sc
  refine qP_enter (by decide) (Nat.le_of_ble_eq_true rfl) (nar_i _) (fun p e R s m args below meth c Q ls X hR hP hl hret => ?_)
  obtain ⟨hx, hb, hml, hown, hts, hK⟩ := X
  have hl : lv_has ls 3 [(0, .ref (g 0)), (1, .int (iI j))] := hl
  refine q_iconst hx hb dX7_firstIn_0 ?_
  refine lv_istore_n (lv' := [(2, .int (iI 0)), (0, .ref (g 0)), (1, .int (iI j))]) hx hb dX7_firstIn_1 rfl hl (by decide) rfl (fun ls hl => ?_)
  have loop_2 : ∀ (fu : Nat) (k : Int) (ls : Array Slot), (C 11 3 - k).toNat = fu → (0 ≤ k ∧ k ≤ C 11 3) → (fsJ C j = fsN (fun p => C 6 p = j) (C 11 3 - k).toNat k) → lv_has ls 3 [(0, .ref (g 0)), (1, .int (iI j)), (2, .int (iI k))] → W p l e R s m args below meth c s.heap [] 0 0 Q (F0 m 2 ls []) := by
    intro fu
    induction fu using Nat.strongRecOn with
    | ind fu ih =>
    intro k ls hn_2 h_k h_f hl
    refine lv_iload_n hx hb dX7_firstIn_2 rfl (lv_at hl 2 rfl) ?_
    refine lv_aload_n hx hb dX7_firstIn_3 rfl (lv_at hl 0 rfl) ?_
    refine q_get hx hb hts hown hK hP ci_X7 0 rfl 14 (by decide) fl_X7_20 rfl dX7_firstIn_4 ?_
    refine q_bipush hx hb dX7_firstIn_7 rfl ?_
    refine q_iald hx hb hK hP 4 0 rfl rfl (z := 15) (v := (C 11 3)) (by omega) (by omega) dX7_firstIn_9 ?_
    refine q_icmp_ge (tgt := 39) hx hb dX7_firstIn_10 (by decide) (by omega) (fun c_10 => ?_) (fun c_10 => ?_)
    · refine q_iconst hx hb dX7_firstIn_39 ?_
      exact q_ret (hret 40 ls dX7_firstIn_40) (by rw [h_f]; exact (fsN_e (q := fun p => C 6 p = j) (n := C 11 3) (by omega)).symm)
    · refine lv_aload_n hx hb dX7_firstIn_13 rfl (lv_at hl 0 rfl) ?_
      refine q_get hx hb hts hown hK hP ci_X7 0 rfl 14 (by decide) fl_X7_20 rfl dX7_firstIn_14 ?_
      refine q_sipush hx hb dX7_firstIn_17 rfl ?_
      refine q_iconst hx hb dX7_firstIn_20 ?_
      refine lv_iload_n hx hb dX7_firstIn_21 rfl (lv_at hl 2 rfl) ?_
      refine q_imul hx hb dX7_firstIn_22 ?_
      refine q_iadd hx hb dX7_firstIn_23 ?_
      refine q_iconst hx hb dX7_firstIn_24 ?_
      refine q_iadd hx hb dX7_firstIn_25 ?_
      have q_26 := hM.pg k (by omega) (by omega)
      refine q_iald hx hb hK hP 4 0 rfl rfl (z := (266 + 2 * k + 1)) (v := (C 6 k)) (by omega) (by omega) dX7_firstIn_26 ?_
      refine lv_iload_n hx hb dX7_firstIn_27 rfl (lv_at hl 1 rfl) ?_
      refine q_icmp_ne (tgt := 33) hx hb dX7_firstIn_28 (by decide) (by omega) (fun c_28 => ?_) (fun c_28 => ?_)
      · refine lv_iinc (v := iI (k + 1)) (lv' := [(2, .int (iI (k + 1))), (0, .ref (g 0)), (1, .int (iI j))]) hx hb dX7_firstIn_33 hl (k := 2) rfl (iI_add _ _) (by decide) rfl (fun ls hl => ?_)
        refine lv_goto (tgt := 2) hx hb dX7_firstIn_36 (by decide) ?_
        exact ih _ (by omega) (k + 1) ls rfl (by first | omega | assumption | rfl) (by rw [h_f]; exact fsN_n (q := fun p => C 6 p = j) (n := C 11 3) (by omega) (by omega) c_28) (lv_sub hl [1, 2, 0] rfl)
      · refine lv_iload_n hx hb dX7_firstIn_31 rfl (lv_at hl 2 rfl) ?_
        exact q_ret (hret 32 ls dX7_firstIn_32) (by rw [h_f]; exact (fsN_y (q := fun p => C 6 p = j) (n := C 11 3) (by omega) c_28).symm)
  exact loop_2 _ (0) ls rfl (by first | omega | assumption | rfl) (by unfold fsJ; rw [show C 11 3 - 0 = C 11 3 by omega]) (lv_sub hl [1, 2, 0] rfl)

set_option maxHeartbeats 4000000 in
set_option maxRecDepth 100000 in
theorem c_X7_blankSides (b : Int) (hM : WM td sa T C) (hb1 : rg b) : qP l D (tyG cI cB cZ cS cJ) yX7_blankSides cX7_blankSides 5 (Option.some FieldType.int) 2 43 [.ref (g 0), .int (iI b)] (mW g cI cB cZ th len tl ts te tk nu er eo hL hS dp bf dr td sa ad hi sl sv tr) (some (.int (iI (blS T b)))) := by
  have hsc := hM.sc
  refine qP_enter (by decide) (Nat.le_of_ble_eq_true rfl) (nar_i _) (fun p e R s m args below meth c Q ls X hR hP hl hret => ?_)
  obtain ⟨hx, hb, hml, hown, hts, hK⟩ := X
  have hl : lv_has ls 5 [(0, .ref (g 0)), (1, .int (iI b))] := hl
  refine q_iconst hx hb dX7_blankSides_0 ?_
  refine lv_istore_n (lv' := [(2, .int (iI 0)), (0, .ref (g 0)), (1, .int (iI b))]) hx hb dX7_blankSides_1 rfl hl (by decide) rfl (fun ls hl => ?_)
  refine q_iconst hx hb dX7_blankSides_2 ?_
  refine lv_istore_n (lv' := [(3, .int (iI 0)), (2, .int (iI 0)), (0, .ref (g 0)), (1, .int (iI b))]) hx hb dX7_blankSides_3 rfl hl (by decide) rfl (fun ls hl => ?_)
  have loop_4 : ∀ (fu : Nat) (x : Int) (k : Int) (ls : Array Slot), (T 8 0 - k).toNat = fu → (x = sI (blO T b) k) → (0 ≤ k ∧ k ≤ T 8 0) → lv_has ls 5 [(0, .ref (g 0)), (1, .int (iI b)), (2, .int (iI x)), (3, .int (iI k))] → W p l e R s m args below meth c s.heap [] 0 0 Q (F0 m 4 ls []) := by
    intro fu
    induction fu using Nat.strongRecOn with
    | ind fu ih =>
    intro x k ls hn_4 h_x h_k hl
    refine lv_iload_n hx hb dX7_blankSides_4 rfl (lv_at hl 3 rfl) ?_
    refine lv_aload_n hx hb dX7_blankSides_5 rfl (lv_at hl 0 rfl) ?_
    refine q_callP (As := []) (rest := [.int (iI k)]) hx hb hml hown hts hK c_X7_sheets yi_X7_sheets ml_X7_164 (by rw [hR]; decide) hP 0 rfl rfl rfl rfl hl.1 (lv_room (Nat.le_of_ble_eq_true rfl)) dX7_blankSides_6 ⟨by rw [hR]; exact Nat.zero_le _, by rw [hR]; exact Nat.zero_le _⟩ ?_
    refine q_top (T 8 0) (by omega) ?_
    refine q_icmp_ge (tgt := 62) hx hb dX7_blankSides_9 (by decide) (by omega) (fun c_9 => ?_) (fun c_9 => ?_)
    · refine lv_iload_n hx hb dX7_blankSides_62 rfl (lv_at hl 2 rfl) ?_
      exact q_ret (hret 63 ls dX7_blankSides_63) (by rw [h_x, show k = T 8 0 by omega]; rfl)
    · refine q_iconst hx hb dX7_blankSides_12 ?_
      have q_13 := hM.tds k (by omega) (by omega)
      refine lv_istore (lv' := [(4, .int (iI 0)), (0, .ref (g 0)), (1, .int (iI b)), (2, .int (iI x)), (3, .int (iI k))]) hx hb dX7_blankSides_13 hl (by decide) rfl (fun ls hl => ?_)
      refine lv_iload hx hb dX7_blankSides_15 (lv_at hl 0 rfl) ?_
      refine q_iconst hx hb dX7_blankSides_17 ?_
      refine q_icmp_ge (tgt := 56) hx hb dX7_blankSides_18 (by decide) (by omega) (fun c_18 => absurd c_18 (by omega)) (fun c_18 => ?_)
      refine lv_aload_n hx hb dX7_blankSides_21 rfl (lv_at hl 1 rfl) ?_
      refine lv_iload_n hx hb dX7_blankSides_22 rfl (lv_at hl 4 rfl) ?_
      refine q_callP (As := [.int (iI k)]) (rest := []) hx hb hml hown hts hK (c_X7_isCode (k) (by first | omega | assumption) (by first | omega | assumption) (by first | omega | assumption)) yi_X7_isCode ml_X7_195 (by rw [hR]; decide) hP 0 rfl rfl rfl rfl hl.1 (lv_room (Nat.le_of_ble_eq_true rfl)) dX7_blankSides_23 ⟨by rw [hR]; exact Nat.zero_le _, by rw [hR]; exact Nat.zero_le _⟩ ?_
      refine q_ifb_ne (tgt := 56) hx hb dX7_blankSides_26 (by decide) (fun c_26 => ?_) (fun c_26 => ?_)
      · refine lv_iinc (v := iI (k + 1)) (lv' := [(3, .int (iI (k + 1))), (4, .int (iI 0)), (0, .ref (g 0)), (1, .int (iI b)), (2, .int (iI x))]) hx hb dX7_blankSides_56 hl (k := 4) rfl (iI_add _ _) (by decide) rfl (fun ls hl => ?_)
        refine lv_goto (tgt := 4) hx hb dX7_blankSides_59 (by decide) ?_
        exact ih _ (by omega) (x) (k + 1) ls rfl (by rw [sI_s _ (by omega), ← h_x]; unfold blO bI; (repeat' split) <;> omega) (by first | omega | assumption | rfl) (lv_sub hl [2, 3, 4, 0] rfl)
      · refine lv_iload_n hx hb dX7_blankSides_29 rfl (lv_at hl 3 rfl) ?_
        refine lv_aload_n hx hb dX7_blankSides_30 rfl (lv_at hl 1 rfl) ?_
        refine lv_iload_n hx hb dX7_blankSides_31 rfl (lv_at hl 4 rfl) ?_
        refine q_iconst hx hb dX7_blankSides_32 ?_
        refine lv_iload hx hb dX7_blankSides_33 (lv_at hl 0 rfl) ?_
        refine q_iadd hx hb dX7_blankSides_35 ?_
        refine q_top 3 rfl ?_
        refine q_callP (As := [.int (iI k), .int (iI 3)]) (rest := [.int (iI x)]) hx hb hml hown hts hK (c_X7_toldOf (k) (3) (by first | omega | assumption) (by first | omega | assumption)) yi_X7_toldOf ml_X7_170 (by rw [hR]; decide) hP 0 rfl rfl rfl rfl hl.1 (lv_room (Nat.le_of_ble_eq_true rfl)) dX7_blankSides_36 ⟨by rw [hR]; exact Nat.zero_le _, by rw [hR]; exact Nat.zero_le _⟩ ?_
        refine lv_iload_n hx hb dX7_blankSides_39 rfl (lv_at hl 2 rfl) ?_
        refine q_icmp_ge (tgt := 47) hx hb dX7_blankSides_40 (by decide) (by omega) (fun c_40 => ?_) (fun c_40 => ?_)
        · refine q_iconst hx hb dX7_blankSides_47 ?_
          refine q_iadd hx hb dX7_blankSides_48 ?_
          refine q_top x (Int.add_zero _) ?_
          refine lv_istore_n (lv' := [(2, .int (iI x)), (4, .int (iI 0)), (0, .ref (g 0)), (1, .int (iI b)), (3, .int (iI k))]) hx hb dX7_blankSides_49 rfl hl (by decide) rfl (fun ls hl => ?_)
          refine lv_iinc (v := iI (0 + 1)) (lv' := [(4, .int (iI (0 + 1))), (2, .int (iI x)), (0, .ref (g 0)), (1, .int (iI b)), (3, .int (iI k))]) hx hb dX7_blankSides_50 hl (k := 1) rfl (iI_add _ _) (by decide) rfl (fun ls hl => ?_)
          have hl : lv_has ls 5 [(4, .int (iI 1)), (2, .int (iI x)), (0, .ref (g 0)), (1, .int (iI b)), (3, .int (iI k))] := hl
          refine lv_goto (tgt := 15) hx hb dX7_blankSides_53 (by decide) ?_
          refine lv_iload hx hb dX7_blankSides_15 (lv_at hl 0 rfl) ?_
          refine q_iconst hx hb dX7_blankSides_17 ?_
          refine q_icmp_ge (tgt := 56) hx hb dX7_blankSides_18 (by decide) (by omega) (fun c_18 => absurd c_18 (by omega)) (fun c_18 => ?_)
          refine lv_aload_n hx hb dX7_blankSides_21 rfl (lv_at hl 2 rfl) ?_
          refine lv_iload_n hx hb dX7_blankSides_22 rfl (lv_at hl 4 rfl) ?_
          refine q_callP (As := [.int (iI k)]) (rest := []) hx hb hml hown hts hK (c_X7_isCode (k) (by first | omega | assumption) (by first | omega | assumption) (by first | omega | assumption)) yi_X7_isCode ml_X7_195 (by rw [hR]; decide) hP 0 rfl rfl rfl rfl hl.1 (lv_room (Nat.le_of_ble_eq_true rfl)) dX7_blankSides_23 ⟨by rw [hR]; exact Nat.zero_le _, by rw [hR]; exact Nat.zero_le _⟩ ?_
          refine q_ifb_ne (tgt := 56) hx hb dX7_blankSides_26 (by decide) (fun c_26 => ?_) (fun c_26 => ?_)
          · refine lv_iinc (v := iI (k + 1)) (lv' := [(3, .int (iI (k + 1))), (4, .int (iI 1)), (2, .int (iI x)), (0, .ref (g 0)), (1, .int (iI b))]) hx hb dX7_blankSides_56 hl (k := 4) rfl (iI_add _ _) (by decide) rfl (fun ls hl => ?_)
            refine lv_goto (tgt := 4) hx hb dX7_blankSides_59 (by decide) ?_
            exact ih _ (by omega) (x) (k + 1) ls rfl (by rw [sI_s _ (by omega), ← h_x]; unfold blO bI; (repeat' split) <;> omega) (by first | omega | assumption | rfl) (lv_sub hl [3, 4, 2, 0] rfl)
          · refine lv_iload_n hx hb dX7_blankSides_29 rfl (lv_at hl 1 rfl) ?_
            refine lv_aload_n hx hb dX7_blankSides_30 rfl (lv_at hl 2 rfl) ?_
            refine lv_iload_n hx hb dX7_blankSides_31 rfl (lv_at hl 4 rfl) ?_
            refine q_iconst hx hb dX7_blankSides_32 ?_
            refine lv_iload hx hb dX7_blankSides_33 (lv_at hl 0 rfl) ?_
            refine q_iadd hx hb dX7_blankSides_35 ?_
            refine q_top 4 rfl ?_
            refine q_callP (As := [.int (iI k), .int (iI 4)]) (rest := [.int (iI x)]) hx hb hml hown hts hK (c_X7_toldOf (k) (4) (by first | omega | assumption) (by first | omega | assumption)) yi_X7_toldOf ml_X7_170 (by rw [hR]; decide) hP 0 rfl rfl rfl rfl hl.1 (lv_room (Nat.le_of_ble_eq_true rfl)) dX7_blankSides_36 ⟨by rw [hR]; exact Nat.zero_le _, by rw [hR]; exact Nat.zero_le _⟩ ?_
            refine lv_iload_n hx hb dX7_blankSides_39 rfl (lv_at hl 3 rfl) ?_
            refine q_icmp_ge (tgt := 47) hx hb dX7_blankSides_40 (by decide) (by omega) (fun c_40 => ?_) (fun c_40 => ?_)
            · refine q_iconst hx hb dX7_blankSides_47 ?_
              refine q_iadd hx hb dX7_blankSides_48 ?_
              refine q_top x (Int.add_zero _) ?_
              refine lv_istore_n (lv' := [(2, .int (iI x)), (4, .int (iI 1)), (0, .ref (g 0)), (1, .int (iI b)), (3, .int (iI k))]) hx hb dX7_blankSides_49 rfl hl (by decide) rfl (fun ls hl => ?_)
              refine lv_iinc (v := iI (1 + 1)) (lv' := [(4, .int (iI (1 + 1))), (2, .int (iI x)), (0, .ref (g 0)), (1, .int (iI b)), (3, .int (iI k))]) hx hb dX7_blankSides_50 hl (k := 1) rfl (iI_add _ _) (by decide) rfl (fun ls hl => ?_)
              have hl : lv_has ls 5 [(4, .int (iI 2)), (2, .int (iI x)), (0, .ref (g 0)), (1, .int (iI b)), (3, .int (iI k))] := hl
              refine lv_goto (tgt := 15) hx hb dX7_blankSides_53 (by decide) ?_
              refine lv_iload hx hb dX7_blankSides_15 (lv_at hl 0 rfl) ?_
              refine q_iconst hx hb dX7_blankSides_17 ?_
              refine q_icmp_ge (tgt := 56) hx hb dX7_blankSides_18 (by decide) (by omega) (fun c_18 => ?_) (fun c_18 => absurd c_18 (by omega))
              refine lv_iinc (v := iI (k + 1)) (lv' := [(3, .int (iI (k + 1))), (4, .int (iI 2)), (2, .int (iI x)), (0, .ref (g 0)), (1, .int (iI b))]) hx hb dX7_blankSides_56 hl (k := 4) rfl (iI_add _ _) (by decide) rfl (fun ls hl => ?_)
              refine lv_goto (tgt := 4) hx hb dX7_blankSides_59 (by decide) ?_
              exact ih _ (by omega) (x) (k + 1) ls rfl (by rw [sI_s _ (by omega), ← h_x]; unfold blO bI; (repeat' split) <;> omega) (by first | omega | assumption | rfl) (lv_sub hl [3, 4, 2, 0] rfl)
            · refine q_iconst hx hb dX7_blankSides_43 ?_
              refine lv_goto (tgt := 48) hx hb dX7_blankSides_44 (by decide) ?_
              refine q_iadd hx hb dX7_blankSides_48 ?_
              refine lv_istore_n (lv' := [(2, .int (iI (x + 1))), (4, .int (iI 1)), (0, .ref (g 0)), (1, .int (iI b)), (3, .int (iI k))]) hx hb dX7_blankSides_49 rfl hl (by decide) rfl (fun ls hl => ?_)
              refine lv_iinc (v := iI (1 + 1)) (lv' := [(4, .int (iI (1 + 1))), (2, .int (iI (x + 1))), (0, .ref (g 0)), (1, .int (iI b)), (3, .int (iI k))]) hx hb dX7_blankSides_50 hl (k := 1) rfl (iI_add _ _) (by decide) rfl (fun ls hl => ?_)
              have hl : lv_has ls 5 [(4, .int (iI 2)), (2, .int (iI (x + 1))), (0, .ref (g 0)), (1, .int (iI b)), (3, .int (iI k))] := hl
              refine lv_goto (tgt := 15) hx hb dX7_blankSides_53 (by decide) ?_
              refine lv_iload hx hb dX7_blankSides_15 (lv_at hl 0 rfl) ?_
              refine q_iconst hx hb dX7_blankSides_17 ?_
              refine q_icmp_ge (tgt := 56) hx hb dX7_blankSides_18 (by decide) (by omega) (fun c_18 => ?_) (fun c_18 => absurd c_18 (by omega))
              refine lv_iinc (v := iI (k + 1)) (lv' := [(3, .int (iI (k + 1))), (4, .int (iI 2)), (2, .int (iI (x + 1))), (0, .ref (g 0)), (1, .int (iI b))]) hx hb dX7_blankSides_56 hl (k := 4) rfl (iI_add _ _) (by decide) rfl (fun ls hl => ?_)
              refine lv_goto (tgt := 4) hx hb dX7_blankSides_59 (by decide) ?_
              exact ih _ (by omega) (x + 1) (k + 1) ls rfl (by rw [sI_s _ (by omega), ← h_x]; unfold blO bI; (repeat' split) <;> omega) (by first | omega | assumption | rfl) (lv_sub hl [3, 4, 2, 0] rfl)
        · refine q_iconst hx hb dX7_blankSides_43 ?_
          refine lv_goto (tgt := 48) hx hb dX7_blankSides_44 (by decide) ?_
          refine q_iadd hx hb dX7_blankSides_48 ?_
          refine lv_istore_n (lv' := [(2, .int (iI (x + 1))), (4, .int (iI 0)), (0, .ref (g 0)), (1, .int (iI b)), (3, .int (iI k))]) hx hb dX7_blankSides_49 rfl hl (by decide) rfl (fun ls hl => ?_)
          refine lv_iinc (v := iI (0 + 1)) (lv' := [(4, .int (iI (0 + 1))), (2, .int (iI (x + 1))), (0, .ref (g 0)), (1, .int (iI b)), (3, .int (iI k))]) hx hb dX7_blankSides_50 hl (k := 1) rfl (iI_add _ _) (by decide) rfl (fun ls hl => ?_)
          have hl : lv_has ls 5 [(4, .int (iI 1)), (2, .int (iI (x + 1))), (0, .ref (g 0)), (1, .int (iI b)), (3, .int (iI k))] := hl
          refine lv_goto (tgt := 15) hx hb dX7_blankSides_53 (by decide) ?_
          refine lv_iload hx hb dX7_blankSides_15 (lv_at hl 0 rfl) ?_
          refine q_iconst hx hb dX7_blankSides_17 ?_
          refine q_icmp_ge (tgt := 56) hx hb dX7_blankSides_18 (by decide) (by omega) (fun c_18 => absurd c_18 (by omega)) (fun c_18 => ?_)
          refine lv_aload_n hx hb dX7_blankSides_21 rfl (lv_at hl 2 rfl) ?_
          refine lv_iload_n hx hb dX7_blankSides_22 rfl (lv_at hl 4 rfl) ?_
          refine q_callP (As := [.int (iI k)]) (rest := []) hx hb hml hown hts hK (c_X7_isCode (k) (by first | omega | assumption) (by first | omega | assumption) (by first | omega | assumption)) yi_X7_isCode ml_X7_195 (by rw [hR]; decide) hP 0 rfl rfl rfl rfl hl.1 (lv_room (Nat.le_of_ble_eq_true rfl)) dX7_blankSides_23 ⟨by rw [hR]; exact Nat.zero_le _, by rw [hR]; exact Nat.zero_le _⟩ ?_
          refine q_ifb_ne (tgt := 56) hx hb dX7_blankSides_26 (by decide) (fun c_26 => ?_) (fun c_26 => ?_)
          · refine lv_iinc (v := iI (k + 1)) (lv' := [(3, .int (iI (k + 1))), (4, .int (iI 1)), (2, .int (iI (x + 1))), (0, .ref (g 0)), (1, .int (iI b))]) hx hb dX7_blankSides_56 hl (k := 4) rfl (iI_add _ _) (by decide) rfl (fun ls hl => ?_)
            refine lv_goto (tgt := 4) hx hb dX7_blankSides_59 (by decide) ?_
            exact ih _ (by omega) (x + 1) (k + 1) ls rfl (by rw [sI_s _ (by omega), ← h_x]; unfold blO bI; (repeat' split) <;> omega) (by first | omega | assumption | rfl) (lv_sub hl [3, 4, 2, 0] rfl)
          · refine lv_iload_n hx hb dX7_blankSides_29 rfl (lv_at hl 1 rfl) ?_
            refine lv_aload_n hx hb dX7_blankSides_30 rfl (lv_at hl 2 rfl) ?_
            refine lv_iload_n hx hb dX7_blankSides_31 rfl (lv_at hl 4 rfl) ?_
            refine q_iconst hx hb dX7_blankSides_32 ?_
            refine lv_iload hx hb dX7_blankSides_33 (lv_at hl 0 rfl) ?_
            refine q_iadd hx hb dX7_blankSides_35 ?_
            refine q_top 4 rfl ?_
            refine q_callP (As := [.int (iI k), .int (iI 4)]) (rest := [.int (iI (x + 1))]) hx hb hml hown hts hK (c_X7_toldOf (k) (4) (by first | omega | assumption) (by first | omega | assumption)) yi_X7_toldOf ml_X7_170 (by rw [hR]; decide) hP 0 rfl rfl rfl rfl hl.1 (lv_room (Nat.le_of_ble_eq_true rfl)) dX7_blankSides_36 ⟨by rw [hR]; exact Nat.zero_le _, by rw [hR]; exact Nat.zero_le _⟩ ?_
            refine lv_iload_n hx hb dX7_blankSides_39 rfl (lv_at hl 3 rfl) ?_
            refine q_icmp_ge (tgt := 47) hx hb dX7_blankSides_40 (by decide) (by omega) (fun c_40 => ?_) (fun c_40 => ?_)
            · refine q_iconst hx hb dX7_blankSides_47 ?_
              refine q_iadd hx hb dX7_blankSides_48 ?_
              refine q_top (x + 1) (Int.add_zero _) ?_
              refine lv_istore_n (lv' := [(2, .int (iI (x + 1))), (4, .int (iI 1)), (0, .ref (g 0)), (1, .int (iI b)), (3, .int (iI k))]) hx hb dX7_blankSides_49 rfl hl (by decide) rfl (fun ls hl => ?_)
              refine lv_iinc (v := iI (1 + 1)) (lv' := [(4, .int (iI (1 + 1))), (2, .int (iI (x + 1))), (0, .ref (g 0)), (1, .int (iI b)), (3, .int (iI k))]) hx hb dX7_blankSides_50 hl (k := 1) rfl (iI_add _ _) (by decide) rfl (fun ls hl => ?_)
              have hl : lv_has ls 5 [(4, .int (iI 2)), (2, .int (iI (x + 1))), (0, .ref (g 0)), (1, .int (iI b)), (3, .int (iI k))] := hl
              refine lv_goto (tgt := 15) hx hb dX7_blankSides_53 (by decide) ?_
              refine lv_iload hx hb dX7_blankSides_15 (lv_at hl 0 rfl) ?_
              refine q_iconst hx hb dX7_blankSides_17 ?_
              refine q_icmp_ge (tgt := 56) hx hb dX7_blankSides_18 (by decide) (by omega) (fun c_18 => ?_) (fun c_18 => absurd c_18 (by omega))
              refine lv_iinc (v := iI (k + 1)) (lv' := [(3, .int (iI (k + 1))), (4, .int (iI 2)), (2, .int (iI (x + 1))), (0, .ref (g 0)), (1, .int (iI b))]) hx hb dX7_blankSides_56 hl (k := 4) rfl (iI_add _ _) (by decide) rfl (fun ls hl => ?_)
              refine lv_goto (tgt := 4) hx hb dX7_blankSides_59 (by decide) ?_
              exact ih _ (by omega) (x + 1) (k + 1) ls rfl (by rw [sI_s _ (by omega), ← h_x]; unfold blO bI; (repeat' split) <;> omega) (by first | omega | assumption | rfl) (lv_sub hl [3, 4, 2, 0] rfl)
            · refine q_iconst hx hb dX7_blankSides_43 ?_
              refine lv_goto (tgt := 48) hx hb dX7_blankSides_44 (by decide) ?_
              refine q_iadd hx hb dX7_blankSides_48 ?_
              refine lv_istore_n (lv' := [(2, .int (iI (x + 1 + 1))), (4, .int (iI 1)), (0, .ref (g 0)), (1, .int (iI b)), (3, .int (iI k))]) hx hb dX7_blankSides_49 rfl hl (by decide) rfl (fun ls hl => ?_)
              refine lv_iinc (v := iI (1 + 1)) (lv' := [(4, .int (iI (1 + 1))), (2, .int (iI (x + 1 + 1))), (0, .ref (g 0)), (1, .int (iI b)), (3, .int (iI k))]) hx hb dX7_blankSides_50 hl (k := 1) rfl (iI_add _ _) (by decide) rfl (fun ls hl => ?_)
              have hl : lv_has ls 5 [(4, .int (iI 2)), (2, .int (iI (x + 1 + 1))), (0, .ref (g 0)), (1, .int (iI b)), (3, .int (iI k))] := hl
              refine lv_goto (tgt := 15) hx hb dX7_blankSides_53 (by decide) ?_
              refine lv_iload hx hb dX7_blankSides_15 (lv_at hl 0 rfl) ?_
              refine q_iconst hx hb dX7_blankSides_17 ?_
              refine q_icmp_ge (tgt := 56) hx hb dX7_blankSides_18 (by decide) (by omega) (fun c_18 => ?_) (fun c_18 => absurd c_18 (by omega))
              refine lv_iinc (v := iI (k + 1)) (lv' := [(3, .int (iI (k + 1))), (4, .int (iI 2)), (2, .int (iI (x + 1 + 1))), (0, .ref (g 0)), (1, .int (iI b))]) hx hb dX7_blankSides_56 hl (k := 4) rfl (iI_add _ _) (by decide) rfl (fun ls hl => ?_)
              refine lv_goto (tgt := 4) hx hb dX7_blankSides_59 (by decide) ?_
              exact ih _ (by omega) (x + 1 + 1) (k + 1) ls rfl (by rw [sI_s _ (by omega), ← h_x]; unfold blO bI; (repeat' split) <;> omega) (by first | omega | assumption | rfl) (lv_sub hl [3, 4, 2, 0] rfl)
  exact loop_4 _ (0) (0) ls rfl (by rfl) (by first | omega | assumption | rfl) (lv_sub hl [2, 3, 1, 0] rfl)

set_option maxHeartbeats 4000000 in
set_option maxRecDepth 100000 in
theorem c_X7_isBlank (sh : Int) (sd : Int) (hT : WT T) (hRT : RT td T) (h1 : 0 ≤ sh) (h2 : sh < T 8 0) (h4 : 0 ≤ sd ∧ sd ≤ 1) (h6 : sa 4 = C 8 3) (h7 : 0 ≤ C 8 3 ∧ C 8 3 ≤ 1000) : qP l D (tyG cI cB cZ cS cJ) yX7_isBlank cX7_isBlank 3 (Option.some FieldType.boolean) 1 22 [.ref (g 0), .int (iI sh), .int (iI sd)] (mW g cI cB cZ th len tl ts te tk nu er eo hL hS dp bf dr td sa ad hi sl sv tr) (some (.int (iI (bI (ink T sh sd < C 8 3))))) := by
  have hsz := hT.1
  have q_t := RT.tds hT hRT sh (by omega) (by omega)
  refine qP_enter (by decide) (Nat.le_of_ble_eq_true rfl) (nar_z bI_r) (fun p e R s m args below meth c Q ls X hR hP hl hret => ?_)
  obtain ⟨hx, hb, hml, hown, hts, hK⟩ := X
  have hl : lv_has ls 3 [(0, .ref (g 0)), (1, .int (iI sh)), (2, .int (iI sd))] := hl
  refine lv_aload_n hx hb dX7_isBlank_0 rfl (lv_at hl 0 rfl) ?_
  refine lv_iload_n hx hb dX7_isBlank_1 rfl (lv_at hl 1 rfl) ?_
  refine q_iconst hx hb dX7_isBlank_2 ?_
  refine lv_iload_n hx hb dX7_isBlank_3 rfl (lv_at hl 2 rfl) ?_
  refine q_iadd hx hb dX7_isBlank_4 ?_
  refine q_callP (As := [.int (iI sh), .int (iI (3 + sd))]) (rest := []) hx hb hml hown hts hK (c_X7_toldOf (sh) (3 + sd) (by first | omega | assumption) (by first | omega | assumption)) yi_X7_toldOf ml_X7_170 (by rw [hR]; decide) hP 0 rfl rfl rfl rfl hl.1 (lv_room (Nat.le_of_ble_eq_true rfl)) dX7_isBlank_5 ⟨by rw [hR]; exact Nat.zero_le _, by rw [hR]; exact Nat.zero_le _⟩ ?_
  refine q_top (ink T sh sd) (by rcases (show sd = 0 ∨ sd = 1 by omega) with rfl | rfl <;> first | exact q_t.1.2.2.2.2.1 | exact q_t.1.2.2.2.2.2.1) ?_
  refine lv_aload_n hx hb dX7_isBlank_8 rfl (lv_at hl 0 rfl) ?_
  refine q_get hx hb hts hown hK hP ci_X7 0 rfl 14 (by decide) fl_X7_20 rfl dX7_isBlank_9 ?_
  refine q_iconst hx hb dX7_isBlank_12 ?_
  refine q_iald hx hb hK hP 4 0 rfl rfl (z := 4) (v := (C 8 3)) (by omega) (by omega) dX7_isBlank_13 ?_
  have q_i : 0 ≤ ink T sh sd ∧ ink T sh sd ≤ 1000 := by unfold ink; split <;> omega
  refine q_icmp_ge (tgt := 21) hx hb dX7_isBlank_14 (by decide) (by omega) (fun c_14 => ?_) (fun c_14 => ?_)
  · refine q_iconst hx hb dX7_isBlank_21 ?_
    exact q_ret (hret 22 ls dX7_isBlank_22) (by first | exact (bI_t (by omega)).symm | exact (bI_f (by omega)).symm)
  · refine q_iconst hx hb dX7_isBlank_17 ?_
    refine lv_goto (tgt := 22) hx hb dX7_isBlank_18 (by decide) ?_
    exact q_ret (hret 22 ls dX7_isBlank_22) (by first | exact (bI_t (by omega)).symm | exact (bI_f (by omega)).symm)

set_option maxHeartbeats 4000000 in
set_option maxRecDepth 100000 in
theorem c_X7_pagesOf (sh : Int) (hM : WM td sa T C) (h1 : 0 ≤ sh) (h2 : sh < T 8 0) : qP l D (tyG cI cB cZ cS cJ) yX7_pagesOf cX7_pagesOf 4 (Option.some FieldType.int) 2 44 [.ref (g 0), .int (iI sh)] (mW g cI cB cZ th len tl ts te tk nu er eo hL hS dp bf dr td sa ad hi sl sv tr) (some (.int (iI (pgs T C sh)))) := by
  have hsc := hM.sc
  have q_t := hM.tds sh (by omega) (by omega)
  have q_l := hM.lm
  have q_i0 : ink T sh 0 = T 3 sh := rfl
  have q_i1 : ink T sh 1 = T 4 sh := rfl
  refine qP_enter (by decide) (Nat.le_of_ble_eq_true rfl) (nar_i _) (fun p e R s m args below meth c Q ls X hR hP hl hret => ?_)
  obtain ⟨hx, hb, hml, hown, hts, hK⟩ := X
  have hl : lv_has ls 4 [(0, .ref (g 0)), (1, .int (iI sh))] := hl
  refine q_iconst hx hb dX7_pagesOf_0 ?_
  refine lv_istore_n (lv' := [(2, .int (iI 0)), (0, .ref (g 0)), (1, .int (iI sh))]) hx hb dX7_pagesOf_1 rfl hl (by decide) rfl (fun ls hl => ?_)
  refine q_iconst hx hb dX7_pagesOf_2 ?_
  refine lv_istore_n (lv' := [(3, .int (iI 0)), (2, .int (iI 0)), (0, .ref (g 0)), (1, .int (iI sh))]) hx hb dX7_pagesOf_3 rfl hl (by decide) rfl (fun ls hl => ?_)
  refine lv_iload_n hx hb dX7_pagesOf_4 rfl (lv_at hl 0 rfl) ?_
  refine lv_aload_n hx hb dX7_pagesOf_5 rfl (lv_at hl 2 rfl) ?_
  refine q_callP (As := []) (rest := [.int (iI 0)]) hx hb hml hown hts hK c_X7_sides yi_X7_sides ml_X7_192 (by rw [hR]; decide) hP 0 rfl rfl rfl rfl hl.1 (lv_room (Nat.le_of_ble_eq_true rfl)) dX7_pagesOf_6 ⟨by rw [hR]; exact Nat.zero_le _, by rw [hR]; exact Nat.zero_le _⟩ ?_
  refine q_icmp_ge (tgt := 43) hx hb dX7_pagesOf_9 (by decide) (by omega) (fun c_9 => absurd c_9 (by omega)) (fun c_9 => ?_)
  refine lv_aload_n hx hb dX7_pagesOf_12 rfl (lv_at hl 2 rfl) ?_
  refine lv_iload_n hx hb dX7_pagesOf_13 rfl (lv_at hl 3 rfl) ?_
  refine q_callP (As := [.int (iI sh)]) (rest := []) hx hb hml hown hts hK (c_X7_isCode (sh) (by first | omega | assumption) (by first | omega | assumption) (by first | omega | assumption)) yi_X7_isCode ml_X7_195 (by rw [hR]; decide) hP 0 rfl rfl rfl rfl hl.1 (lv_room (Nat.le_of_ble_eq_true rfl)) dX7_pagesOf_14 ⟨by rw [hR]; exact Nat.zero_le _, by rw [hR]; exact Nat.zero_le _⟩ ?_
  refine q_ifb_ne (tgt := 43) hx hb dX7_pagesOf_17 (by decide) (fun c_17 => ?_) (fun c_17 => ?_)
  · refine lv_iload_n hx hb dX7_pagesOf_43 rfl (lv_at hl 1 rfl) ?_
    exact q_ret (hret 44 ls dX7_pagesOf_44) (by unfold pgs bI; (repeat' split) <;> omega)
  · refine lv_iload_n hx hb dX7_pagesOf_20 rfl (lv_at hl 1 rfl) ?_
    refine lv_aload_n hx hb dX7_pagesOf_21 rfl (lv_at hl 2 rfl) ?_
    refine lv_iload_n hx hb dX7_pagesOf_22 rfl (lv_at hl 3 rfl) ?_
    refine lv_iload_n hx hb dX7_pagesOf_23 rfl (lv_at hl 0 rfl) ?_
    refine q_callP (As := [.int (iI sh), .int (iI 0)]) (rest := [.int (iI 0)]) hx hb hml hown hts hK (c_X7_isBlank (C := C) (sh) (0) (by exact hM.1) (by exact hM.2.1) (by first | omega | assumption) (by first | omega | assumption) (by first | omega | assumption) (by first | omega | assumption) (by first | omega | assumption)) yi_X7_isBlank ml_X7_199 (by rw [hR]; decide) hP 0 rfl rfl rfl rfl hl.1 (lv_room (Nat.le_of_ble_eq_true rfl)) dX7_pagesOf_24 ⟨by rw [hR]; exact Nat.zero_le _, by rw [hR]; exact Nat.zero_le _⟩ ?_
    refine q_ifb_eq (tgt := 34) hx hb dX7_pagesOf_27 (by decide) (fun c_27 => ?_) (fun c_27 => ?_)
    · refine q_iconst hx hb dX7_pagesOf_34 ?_
      refine q_iadd hx hb dX7_pagesOf_35 ?_
      refine q_top 1 rfl ?_
      refine lv_istore_n (lv' := [(2, .int (iI 1)), (3, .int (iI 0)), (0, .ref (g 0)), (1, .int (iI sh))]) hx hb dX7_pagesOf_36 rfl hl (by decide) rfl (fun ls hl => ?_)
      refine lv_iinc (v := iI (0 + 1)) (lv' := [(3, .int (iI (0 + 1))), (2, .int (iI 1)), (0, .ref (g 0)), (1, .int (iI sh))]) hx hb dX7_pagesOf_37 hl (k := 1) rfl (iI_add _ _) (by decide) rfl (fun ls hl => ?_)
      have hl : lv_has ls 4 [(3, .int (iI 1)), (2, .int (iI 1)), (0, .ref (g 0)), (1, .int (iI sh))] := hl
      refine lv_goto (tgt := 4) hx hb dX7_pagesOf_40 (by decide) ?_
      refine lv_iload_n hx hb dX7_pagesOf_4 rfl (lv_at hl 0 rfl) ?_
      refine lv_aload_n hx hb dX7_pagesOf_5 rfl (lv_at hl 2 rfl) ?_
      refine q_callP (As := []) (rest := [.int (iI 1)]) hx hb hml hown hts hK c_X7_sides yi_X7_sides ml_X7_192 (by rw [hR]; decide) hP 0 rfl rfl rfl rfl hl.1 (lv_room (Nat.le_of_ble_eq_true rfl)) dX7_pagesOf_6 ⟨by rw [hR]; exact Nat.zero_le _, by rw [hR]; exact Nat.zero_le _⟩ ?_
      refine q_icmp_ge (tgt := 43) hx hb dX7_pagesOf_9 (by decide) (by omega) (fun c_9 => ?_) (fun c_9 => ?_)
      · refine lv_iload_n hx hb dX7_pagesOf_43 rfl (lv_at hl 1 rfl) ?_
        exact q_ret (hret 44 ls dX7_pagesOf_44) (by unfold pgs bI; (repeat' split) <;> omega)
      · refine lv_aload_n hx hb dX7_pagesOf_12 rfl (lv_at hl 2 rfl) ?_
        refine lv_iload_n hx hb dX7_pagesOf_13 rfl (lv_at hl 3 rfl) ?_
        refine q_callP (As := [.int (iI sh)]) (rest := []) hx hb hml hown hts hK (c_X7_isCode (sh) (by first | omega | assumption) (by first | omega | assumption) (by first | omega | assumption)) yi_X7_isCode ml_X7_195 (by rw [hR]; decide) hP 0 rfl rfl rfl rfl hl.1 (lv_room (Nat.le_of_ble_eq_true rfl)) dX7_pagesOf_14 ⟨by rw [hR]; exact Nat.zero_le _, by rw [hR]; exact Nat.zero_le _⟩ ?_
        refine q_ifb_ne (tgt := 43) hx hb dX7_pagesOf_17 (by decide) (fun c_17 => ?_) (fun c_17 => ?_)
        · refine lv_iload_n hx hb dX7_pagesOf_43 rfl (lv_at hl 1 rfl) ?_
          exact q_ret (hret 44 ls dX7_pagesOf_44) (by unfold pgs bI; (repeat' split) <;> omega)
        · refine lv_iload_n hx hb dX7_pagesOf_20 rfl (lv_at hl 1 rfl) ?_
          refine lv_aload_n hx hb dX7_pagesOf_21 rfl (lv_at hl 2 rfl) ?_
          refine lv_iload_n hx hb dX7_pagesOf_22 rfl (lv_at hl 3 rfl) ?_
          refine lv_iload_n hx hb dX7_pagesOf_23 rfl (lv_at hl 0 rfl) ?_
          refine q_callP (As := [.int (iI sh), .int (iI 1)]) (rest := [.int (iI 1)]) hx hb hml hown hts hK (c_X7_isBlank (C := C) (sh) (1) (by exact hM.1) (by exact hM.2.1) (by first | omega | assumption) (by first | omega | assumption) (by first | omega | assumption) (by first | omega | assumption) (by first | omega | assumption)) yi_X7_isBlank ml_X7_199 (by rw [hR]; decide) hP 0 rfl rfl rfl rfl hl.1 (lv_room (Nat.le_of_ble_eq_true rfl)) dX7_pagesOf_24 ⟨by rw [hR]; exact Nat.zero_le _, by rw [hR]; exact Nat.zero_le _⟩ ?_
          refine q_ifb_eq (tgt := 34) hx hb dX7_pagesOf_27 (by decide) (fun c_27 => ?_) (fun c_27 => ?_)
          · refine q_iconst hx hb dX7_pagesOf_34 ?_
            refine q_iadd hx hb dX7_pagesOf_35 ?_
            refine q_top 2 rfl ?_
            refine lv_istore_n (lv' := [(2, .int (iI 2)), (3, .int (iI 1)), (0, .ref (g 0)), (1, .int (iI sh))]) hx hb dX7_pagesOf_36 rfl hl (by decide) rfl (fun ls hl => ?_)
            refine lv_iinc (v := iI (1 + 1)) (lv' := [(3, .int (iI (1 + 1))), (2, .int (iI 2)), (0, .ref (g 0)), (1, .int (iI sh))]) hx hb dX7_pagesOf_37 hl (k := 1) rfl (iI_add _ _) (by decide) rfl (fun ls hl => ?_)
            have hl : lv_has ls 4 [(3, .int (iI 2)), (2, .int (iI 2)), (0, .ref (g 0)), (1, .int (iI sh))] := hl
            refine lv_goto (tgt := 4) hx hb dX7_pagesOf_40 (by decide) ?_
            refine lv_iload_n hx hb dX7_pagesOf_4 rfl (lv_at hl 0 rfl) ?_
            refine lv_aload_n hx hb dX7_pagesOf_5 rfl (lv_at hl 2 rfl) ?_
            refine q_callP (As := []) (rest := [.int (iI 2)]) hx hb hml hown hts hK c_X7_sides yi_X7_sides ml_X7_192 (by rw [hR]; decide) hP 0 rfl rfl rfl rfl hl.1 (lv_room (Nat.le_of_ble_eq_true rfl)) dX7_pagesOf_6 ⟨by rw [hR]; exact Nat.zero_le _, by rw [hR]; exact Nat.zero_le _⟩ ?_
            refine q_icmp_ge (tgt := 43) hx hb dX7_pagesOf_9 (by decide) (by omega) (fun c_9 => ?_) (fun c_9 => absurd c_9 (by omega))
            refine lv_iload_n hx hb dX7_pagesOf_43 rfl (lv_at hl 1 rfl) ?_
            exact q_ret (hret 44 ls dX7_pagesOf_44) (by unfold pgs bI; (repeat' split) <;> omega)
          · refine q_iconst hx hb dX7_pagesOf_30 ?_
            refine lv_goto (tgt := 35) hx hb dX7_pagesOf_31 (by decide) ?_
            refine q_iadd hx hb dX7_pagesOf_35 ?_
            refine q_top 1 rfl ?_
            refine lv_istore_n (lv' := [(2, .int (iI 1)), (3, .int (iI 1)), (0, .ref (g 0)), (1, .int (iI sh))]) hx hb dX7_pagesOf_36 rfl hl (by decide) rfl (fun ls hl => ?_)
            refine lv_iinc (v := iI (1 + 1)) (lv' := [(3, .int (iI (1 + 1))), (2, .int (iI 1)), (0, .ref (g 0)), (1, .int (iI sh))]) hx hb dX7_pagesOf_37 hl (k := 1) rfl (iI_add _ _) (by decide) rfl (fun ls hl => ?_)
            have hl : lv_has ls 4 [(3, .int (iI 2)), (2, .int (iI 1)), (0, .ref (g 0)), (1, .int (iI sh))] := hl
            refine lv_goto (tgt := 4) hx hb dX7_pagesOf_40 (by decide) ?_
            refine lv_iload_n hx hb dX7_pagesOf_4 rfl (lv_at hl 0 rfl) ?_
            refine lv_aload_n hx hb dX7_pagesOf_5 rfl (lv_at hl 2 rfl) ?_
            refine q_callP (As := []) (rest := [.int (iI 2)]) hx hb hml hown hts hK c_X7_sides yi_X7_sides ml_X7_192 (by rw [hR]; decide) hP 0 rfl rfl rfl rfl hl.1 (lv_room (Nat.le_of_ble_eq_true rfl)) dX7_pagesOf_6 ⟨by rw [hR]; exact Nat.zero_le _, by rw [hR]; exact Nat.zero_le _⟩ ?_
            refine q_icmp_ge (tgt := 43) hx hb dX7_pagesOf_9 (by decide) (by omega) (fun c_9 => ?_) (fun c_9 => absurd c_9 (by omega))
            refine lv_iload_n hx hb dX7_pagesOf_43 rfl (lv_at hl 1 rfl) ?_
            exact q_ret (hret 44 ls dX7_pagesOf_44) (by unfold pgs bI; (repeat' split) <;> omega)
    · refine q_iconst hx hb dX7_pagesOf_30 ?_
      refine lv_goto (tgt := 35) hx hb dX7_pagesOf_31 (by decide) ?_
      refine q_iadd hx hb dX7_pagesOf_35 ?_
      refine q_top 0 rfl ?_
      refine lv_istore_n (lv' := [(2, .int (iI 0)), (3, .int (iI 0)), (0, .ref (g 0)), (1, .int (iI sh))]) hx hb dX7_pagesOf_36 rfl hl (by decide) rfl (fun ls hl => ?_)
      refine lv_iinc (v := iI (0 + 1)) (lv' := [(3, .int (iI (0 + 1))), (2, .int (iI 0)), (0, .ref (g 0)), (1, .int (iI sh))]) hx hb dX7_pagesOf_37 hl (k := 1) rfl (iI_add _ _) (by decide) rfl (fun ls hl => ?_)
      have hl : lv_has ls 4 [(3, .int (iI 1)), (2, .int (iI 0)), (0, .ref (g 0)), (1, .int (iI sh))] := hl
      refine lv_goto (tgt := 4) hx hb dX7_pagesOf_40 (by decide) ?_
      refine lv_iload_n hx hb dX7_pagesOf_4 rfl (lv_at hl 0 rfl) ?_
      refine lv_aload_n hx hb dX7_pagesOf_5 rfl (lv_at hl 2 rfl) ?_
      refine q_callP (As := []) (rest := [.int (iI 1)]) hx hb hml hown hts hK c_X7_sides yi_X7_sides ml_X7_192 (by rw [hR]; decide) hP 0 rfl rfl rfl rfl hl.1 (lv_room (Nat.le_of_ble_eq_true rfl)) dX7_pagesOf_6 ⟨by rw [hR]; exact Nat.zero_le _, by rw [hR]; exact Nat.zero_le _⟩ ?_
      refine q_icmp_ge (tgt := 43) hx hb dX7_pagesOf_9 (by decide) (by omega) (fun c_9 => ?_) (fun c_9 => ?_)
      · refine lv_iload_n hx hb dX7_pagesOf_43 rfl (lv_at hl 1 rfl) ?_
        exact q_ret (hret 44 ls dX7_pagesOf_44) (by unfold pgs bI; (repeat' split) <;> omega)
      · refine lv_aload_n hx hb dX7_pagesOf_12 rfl (lv_at hl 2 rfl) ?_
        refine lv_iload_n hx hb dX7_pagesOf_13 rfl (lv_at hl 3 rfl) ?_
        refine q_callP (As := [.int (iI sh)]) (rest := []) hx hb hml hown hts hK (c_X7_isCode (sh) (by first | omega | assumption) (by first | omega | assumption) (by first | omega | assumption)) yi_X7_isCode ml_X7_195 (by rw [hR]; decide) hP 0 rfl rfl rfl rfl hl.1 (lv_room (Nat.le_of_ble_eq_true rfl)) dX7_pagesOf_14 ⟨by rw [hR]; exact Nat.zero_le _, by rw [hR]; exact Nat.zero_le _⟩ ?_
        refine q_ifb_ne (tgt := 43) hx hb dX7_pagesOf_17 (by decide) (fun c_17 => ?_) (fun c_17 => ?_)
        · refine lv_iload_n hx hb dX7_pagesOf_43 rfl (lv_at hl 1 rfl) ?_
          exact q_ret (hret 44 ls dX7_pagesOf_44) (by unfold pgs bI; (repeat' split) <;> omega)
        · refine lv_iload_n hx hb dX7_pagesOf_20 rfl (lv_at hl 1 rfl) ?_
          refine lv_aload_n hx hb dX7_pagesOf_21 rfl (lv_at hl 2 rfl) ?_
          refine lv_iload_n hx hb dX7_pagesOf_22 rfl (lv_at hl 3 rfl) ?_
          refine lv_iload_n hx hb dX7_pagesOf_23 rfl (lv_at hl 0 rfl) ?_
          refine q_callP (As := [.int (iI sh), .int (iI 1)]) (rest := [.int (iI 0)]) hx hb hml hown hts hK (c_X7_isBlank (C := C) (sh) (1) (by exact hM.1) (by exact hM.2.1) (by first | omega | assumption) (by first | omega | assumption) (by first | omega | assumption) (by first | omega | assumption) (by first | omega | assumption)) yi_X7_isBlank ml_X7_199 (by rw [hR]; decide) hP 0 rfl rfl rfl rfl hl.1 (lv_room (Nat.le_of_ble_eq_true rfl)) dX7_pagesOf_24 ⟨by rw [hR]; exact Nat.zero_le _, by rw [hR]; exact Nat.zero_le _⟩ ?_
          refine q_ifb_eq (tgt := 34) hx hb dX7_pagesOf_27 (by decide) (fun c_27 => ?_) (fun c_27 => ?_)
          · refine q_iconst hx hb dX7_pagesOf_34 ?_
            refine q_iadd hx hb dX7_pagesOf_35 ?_
            refine q_top 1 rfl ?_
            refine lv_istore_n (lv' := [(2, .int (iI 1)), (3, .int (iI 1)), (0, .ref (g 0)), (1, .int (iI sh))]) hx hb dX7_pagesOf_36 rfl hl (by decide) rfl (fun ls hl => ?_)
            refine lv_iinc (v := iI (1 + 1)) (lv' := [(3, .int (iI (1 + 1))), (2, .int (iI 1)), (0, .ref (g 0)), (1, .int (iI sh))]) hx hb dX7_pagesOf_37 hl (k := 1) rfl (iI_add _ _) (by decide) rfl (fun ls hl => ?_)
            have hl : lv_has ls 4 [(3, .int (iI 2)), (2, .int (iI 1)), (0, .ref (g 0)), (1, .int (iI sh))] := hl
            refine lv_goto (tgt := 4) hx hb dX7_pagesOf_40 (by decide) ?_
            refine lv_iload_n hx hb dX7_pagesOf_4 rfl (lv_at hl 0 rfl) ?_
            refine lv_aload_n hx hb dX7_pagesOf_5 rfl (lv_at hl 2 rfl) ?_
            refine q_callP (As := []) (rest := [.int (iI 2)]) hx hb hml hown hts hK c_X7_sides yi_X7_sides ml_X7_192 (by rw [hR]; decide) hP 0 rfl rfl rfl rfl hl.1 (lv_room (Nat.le_of_ble_eq_true rfl)) dX7_pagesOf_6 ⟨by rw [hR]; exact Nat.zero_le _, by rw [hR]; exact Nat.zero_le _⟩ ?_
            refine q_icmp_ge (tgt := 43) hx hb dX7_pagesOf_9 (by decide) (by omega) (fun c_9 => ?_) (fun c_9 => absurd c_9 (by omega))
            refine lv_iload_n hx hb dX7_pagesOf_43 rfl (lv_at hl 1 rfl) ?_
            exact q_ret (hret 44 ls dX7_pagesOf_44) (by unfold pgs bI; (repeat' split) <;> omega)
          · refine q_iconst hx hb dX7_pagesOf_30 ?_
            refine lv_goto (tgt := 35) hx hb dX7_pagesOf_31 (by decide) ?_
            refine q_iadd hx hb dX7_pagesOf_35 ?_
            refine q_top 0 rfl ?_
            refine lv_istore_n (lv' := [(2, .int (iI 0)), (3, .int (iI 1)), (0, .ref (g 0)), (1, .int (iI sh))]) hx hb dX7_pagesOf_36 rfl hl (by decide) rfl (fun ls hl => ?_)
            refine lv_iinc (v := iI (1 + 1)) (lv' := [(3, .int (iI (1 + 1))), (2, .int (iI 0)), (0, .ref (g 0)), (1, .int (iI sh))]) hx hb dX7_pagesOf_37 hl (k := 1) rfl (iI_add _ _) (by decide) rfl (fun ls hl => ?_)
            have hl : lv_has ls 4 [(3, .int (iI 2)), (2, .int (iI 0)), (0, .ref (g 0)), (1, .int (iI sh))] := hl
            refine lv_goto (tgt := 4) hx hb dX7_pagesOf_40 (by decide) ?_
            refine lv_iload_n hx hb dX7_pagesOf_4 rfl (lv_at hl 0 rfl) ?_
            refine lv_aload_n hx hb dX7_pagesOf_5 rfl (lv_at hl 2 rfl) ?_
            refine q_callP (As := []) (rest := [.int (iI 2)]) hx hb hml hown hts hK c_X7_sides yi_X7_sides ml_X7_192 (by rw [hR]; decide) hP 0 rfl rfl rfl rfl hl.1 (lv_room (Nat.le_of_ble_eq_true rfl)) dX7_pagesOf_6 ⟨by rw [hR]; exact Nat.zero_le _, by rw [hR]; exact Nat.zero_le _⟩ ?_
            refine q_icmp_ge (tgt := 43) hx hb dX7_pagesOf_9 (by decide) (by omega) (fun c_9 => ?_) (fun c_9 => absurd c_9 (by omega))
            refine lv_iload_n hx hb dX7_pagesOf_43 rfl (lv_at hl 1 rfl) ?_
            exact q_ret (hret 44 ls dX7_pagesOf_44) (by unfold pgs bI; (repeat' split) <;> omega)
