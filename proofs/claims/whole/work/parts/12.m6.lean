variable {l : Launch} {T C : Nat → Int → Int} {J : Int → Int} {D : va_G} {cI cB cZ cS cJ : ClassId} {g : Nat → Nat} {th len tl ts te tk nu er eo hL hS dp : Int} {bf dr td sa ad hi sl sv tr : Int → Int}
set_option maxHeartbeats 4000000 in
set_option maxRecDepth 100000 in
theorem c_X7_copy {a0 b0 na nb : Nat} {fa fb : Int → Int} (i : Int) (j : Int) (h0 : 0 ≤ i ∧ 706 * i + 706 ≤ (na : Int) ∧ i ≤ 9) (h1 : 0 ≤ j ∧ 706 * j + 706 ≤ (nb : Int) ∧ j ≤ 9) : qM l D (tyG cI cB cZ cS cJ) yX7_copy cX7_copy 5 (Option.none) 0 0 [.ref a0, .int (iI i), .ref b0, .int (iI j)] [(a0, .inl (cI, na, .inl (ai fa))), (b0, .inl (cI, nb, .inl (ai fb)))] (fun u : Unit => True) (fun _ => none) (fun u => [(a0, .inl (cI, na, .inl (ai fa))), (b0, .inl (cI, nb, .inl (ai (cpk fb j fa i 706))))]) := by
  refine qM_enterV (by decide) (Nat.le_of_ble_eq_true rfl) (fun p e R s m args below meth c Q ls A X hR hA hw hl hret => ?_)
  obtain ⟨hx, hb, hml, hown, hts, hK⟩ := X
  have hl : lv_has ls 5 [(0, .ref a0), (1, .int (iI i)), (2, .ref b0), (3, .int (iI j))] := hl
  suffices K : ∀ (H : Heap) (locs : List Loc), qw D A s.heap [(a0, .inl (cI, na, .inl (ai fa))), (b0, .inl (cI, nb, .inl (ai fb)))] H locs → W p l e R s m args below meth c H locs 0 0 Q (F0 m 0 ls []) from K s.heap [] hw
  clear hw
  intro H locs hw
  refine q_iconst hx hb dX7_copy_0 ?_
  refine lv_istore (lv' := [(4, .int (iI 0)), (0, .ref a0), (1, .int (iI i)), (2, .ref b0), (3, .int (iI j))]) hx hb dX7_copy_1 hl (by decide) rfl (fun ls hl => ?_)
  have loop_3 : ∀ (fu : Nat) (x : Int → Int) (k : Int) (H : Heap) (locs : List Loc) (ls : Array Slot), (706 - k).toNat = fu → (x = cpk fb j fa i k) → (0 ≤ k ∧ k ≤ 706) → qw D A s.heap [(a0, .inl (cI, na, .inl (ai fa))), (b0, .inl (cI, nb, .inl (ai x)))] H locs → lv_has ls 5 [(0, .ref a0), (1, .int (iI i)), (2, .ref b0), (3, .int (iI j)), (4, .int (iI k))] → W p l e R s m args below meth c H locs 0 0 Q (F0 m 3 ls []) := by
    intro fu
    induction fu using Nat.strongRecOn with
    | ind fu ih =>
    intro x k H locs ls hn_3 h_x h_k hw hl
    refine lv_iload hx hb dX7_copy_3 (lv_at hl 4 rfl) ?_
    refine q_sipush hx hb dX7_copy_5 rfl ?_
    refine q_icmp_ge (tgt := 37) hx hb dX7_copy_8 (by decide) (by omega) (fun c_8 => ?_) (fun c_8 => ?_)
    · have hw : qw D A s.heap [(a0, .inl (cI, na, .inl (ai fa))), (b0, .inl (cI, nb, .inl (ai (cpk fb j fa i 706))))] H locs := by
        have hw2 := hw
        have ee : x = cpk fb j fa i 706 := by rw [h_x, show k = 706 by omega]
        rw [ee] at hw2
        exact hw2
      exact hret () H locs 37 ls trivial hw dX7_copy_37
    · refine lv_aload_n hx hb dX7_copy_11 rfl (lv_at hl 2 rfl) ?_
      refine q_sipush hx hb dX7_copy_12 rfl ?_
      refine lv_iload_n hx hb dX7_copy_15 rfl (lv_at hl 3 rfl) ?_
      refine q_imul hx hb dX7_copy_16 ?_
      refine lv_iload hx hb dX7_copy_17 (lv_at hl 4 rfl) ?_
      refine q_iadd hx hb dX7_copy_19 ?_
      refine lv_aload_n hx hb dX7_copy_20 rfl (lv_at hl 0 rfl) ?_
      refine q_sipush hx hb dX7_copy_21 rfl ?_
      refine lv_iload_n hx hb dX7_copy_24 rfl (lv_at hl 1 rfl) ?_
      refine q_imul hx hb dX7_copy_25 ?_
      refine lv_iload hx hb dX7_copy_26 (lv_at hl 4 rfl) ?_
      refine q_iadd hx hb dX7_copy_28 ?_
      refine q_iald hx hb hK hw.1 0 0 rfl rfl (z := (706 * i + k)) (v := (fa (706 * i + k))) (by omega) rfl dX7_copy_29 ?_
      refine q_iast hx hb hK hw 1 0 rfl rfl (by omega) dX7_copy_30 (fun H locs hw => ?_)
      have hw : qw D A s.heap [(a0, .inl (cI, na, .inl (ai fa))), (b0, .inl (cI, nb, .inl (ai (uI x (706 * j + k) (fa (706 * i + k))))))] H locs := hw
      obtain ⟨f_1, e_f_1⟩ : ∃ z, z = uI x (706 * j + k) (fa (706 * i + k)) := ⟨_, rfl⟩
      have hw : qw D A s.heap [(a0, .inl (cI, na, .inl (ai fa))), (b0, .inl (cI, nb, .inl (ai f_1)))] H locs := by rw [e_f_1]; exact hw
      refine lv_iinc (v := iI (k + 1)) (lv' := [(4, .int (iI (k + 1))), (0, .ref a0), (1, .int (iI i)), (2, .ref b0), (3, .int (iI j))]) hx hb dX7_copy_31 hl (k := 4) rfl (iI_add _ _) (by decide) rfl (fun ls hl => ?_)
      refine lv_goto (tgt := 3) hx hb dX7_copy_34 (by decide) ?_
      exact ih _ (by omega) (f_1) (k + 1) H locs ls rfl (by rw [e_f_1, h_x]; exact cpk_s _ _ _ _ (by omega) (by omega) (by congr 1)) (by first | omega | assumption | rfl) hw (lv_sub hl [1, 2, 3, 4, 0] rfl)
  exact loop_3 _ (fb) (0) H locs ls rfl (by exact (cpk_0 _ _ _ _).symm) (by first | omega | assumption | rfl) hw (lv_sub hl [1, 2, 3, 4, 0] rfl)

set_option maxHeartbeats 4000000 in
set_option maxRecDepth 100000 in
theorem c_X7_copy_s {a0 na : Nat} {fa : Int → Int} (i : Int) (j : Int) (h0 : 0 ≤ j ∧ 706 * i + 706 ≤ (na : Int) ∧ i ≤ 9) (h1 : i = j + 1) : qM l D (tyG cI cB cZ cS cJ) yX7_copy cX7_copy 5 (Option.none) 0 0 [.ref a0, .int (iI i), .ref a0, .int (iI j)] [(a0, .inl (cI, na, .inl (ai fa)))] (fun u : Unit => True) (fun _ => none) (fun u => [(a0, .inl (cI, na, .inl (ai (cpk fa j fa i 706))))]) := by
  refine qM_enterV (by decide) (Nat.le_of_ble_eq_true rfl) (fun p e R s m args below meth c Q ls A X hR hA hw hl hret => ?_)
  obtain ⟨hx, hb, hml, hown, hts, hK⟩ := X
  have hl : lv_has ls 5 [(0, .ref a0), (1, .int (iI i)), (2, .ref a0), (3, .int (iI j))] := hl
  suffices K : ∀ (H : Heap) (locs : List Loc), qw D A s.heap [(a0, .inl (cI, na, .inl (ai fa)))] H locs → W p l e R s m args below meth c H locs 0 0 Q (F0 m 0 ls []) from K s.heap [] hw
  clear hw
  intro H locs hw
  refine q_iconst hx hb dX7_copy_0 ?_
  refine lv_istore (lv' := [(4, .int (iI 0)), (0, .ref a0), (1, .int (iI i)), (2, .ref a0), (3, .int (iI j))]) hx hb dX7_copy_1 hl (by decide) rfl (fun ls hl => ?_)
  have loop_3 : ∀ (fu : Nat) (x : Int → Int) (k : Int) (H : Heap) (locs : List Loc) (ls : Array Slot), (706 - k).toNat = fu → (x = cpk fa j fa i k) → (0 ≤ k ∧ k ≤ 706) → qw D A s.heap [(a0, .inl (cI, na, .inl (ai x)))] H locs → lv_has ls 5 [(0, .ref a0), (1, .int (iI i)), (2, .ref a0), (3, .int (iI j)), (4, .int (iI k))] → W p l e R s m args below meth c H locs 0 0 Q (F0 m 3 ls []) := by
    intro fu
    induction fu using Nat.strongRecOn with
    | ind fu ih =>
    intro x k H locs ls hn_3 h_x h_k hw hl
    refine lv_iload hx hb dX7_copy_3 (lv_at hl 4 rfl) ?_
    refine q_sipush hx hb dX7_copy_5 rfl ?_
    refine q_icmp_ge (tgt := 37) hx hb dX7_copy_8 (by decide) (by omega) (fun c_8 => ?_) (fun c_8 => ?_)
    · have hw : qw D A s.heap [(a0, .inl (cI, na, .inl (ai (cpk fa j fa i 706))))] H locs := by
        have hw2 := hw
        have ee : x = cpk fa j fa i 706 := by rw [h_x, show k = 706 by omega]
        rw [ee] at hw2
        exact hw2
      exact hret () H locs 37 ls trivial hw dX7_copy_37
    · refine lv_aload_n hx hb dX7_copy_11 rfl (lv_at hl 2 rfl) ?_
      refine q_sipush hx hb dX7_copy_12 rfl ?_
      refine lv_iload_n hx hb dX7_copy_15 rfl (lv_at hl 3 rfl) ?_
      refine q_imul hx hb dX7_copy_16 ?_
      refine lv_iload hx hb dX7_copy_17 (lv_at hl 4 rfl) ?_
      refine q_iadd hx hb dX7_copy_19 ?_
      refine lv_aload_n hx hb dX7_copy_20 rfl (lv_at hl 0 rfl) ?_
      refine q_sipush hx hb dX7_copy_21 rfl ?_
      refine lv_iload_n hx hb dX7_copy_24 rfl (lv_at hl 1 rfl) ?_
      refine q_imul hx hb dX7_copy_25 ?_
      refine lv_iload hx hb dX7_copy_26 (lv_at hl 4 rfl) ?_
      refine q_iadd hx hb dX7_copy_28 ?_
      refine q_iald hx hb hK hw.1 0 0 rfl rfl (z := (706 * i + k)) (v := (x (706 * i + k))) (by omega) rfl dX7_copy_29 ?_
      refine q_iast hx hb hK hw 0 0 rfl rfl (by omega) dX7_copy_30 (fun H locs hw => ?_)
      have hw : qw D A s.heap [(a0, .inl (cI, na, .inl (ai (uI x (706 * j + k) (x (706 * i + k))))))] H locs := hw
      obtain ⟨f_1, e_f_1⟩ : ∃ z, z = uI x (706 * j + k) (x (706 * i + k)) := ⟨_, rfl⟩
      have hw : qw D A s.heap [(a0, .inl (cI, na, .inl (ai f_1)))] H locs := by rw [e_f_1]; exact hw
      refine lv_iinc (v := iI (k + 1)) (lv' := [(4, .int (iI (k + 1))), (0, .ref a0), (1, .int (iI i)), (2, .ref a0), (3, .int (iI j))]) hx hb dX7_copy_31 hl (k := 4) rfl (iI_add _ _) (by decide) rfl (fun ls hl => ?_)
      refine lv_goto (tgt := 3) hx hb dX7_copy_34 (by decide) ?_
      exact ih _ (by omega) (f_1) (k + 1) H locs ls rfl (by rw [e_f_1, h_x]; exact cpk_s _ _ _ _ (by omega) (by omega) (by rw [cpk_o _ _ _ _ (by omega)])) (by first | omega | assumption | rfl) hw (lv_sub hl [1, 2, 3, 4, 0] rfl)
  exact loop_3 _ (fa) (0) H locs ls rfl (by exact (cpk_0 _ _ _ _).symm) (by first | omega | assumption | rfl) hw (lv_sub hl [1, 2, 3, 4, 0] rfl)

set_option maxHeartbeats 4000000 in
set_option maxRecDepth 100000 in
theorem c_X7_keep (h0 : 0 ≤ dp ∧ dp ≤ 10) : qM l D (tyG cI cB cZ cS cJ) yX7_keep cX7_keep 2 (Option.none) 1 24 [.ref (g 0)] (mW g cI cB cZ th len tl ts te tk nu er eo hL hS dp bf dr td sa ad hi sl sv tr) (fun u : (Int → Int) × (Int) => (((u.1)) = kpH hi dp sa) ∧ (((u.2)) = kpD dp)) (fun _ => none) (fun u => (mW g cI cB cZ th len tl ts te tk nu er eo hL hS (u.2) bf dr td sa ad (u.1) sl sv tr)) := by
  refine qM_enterV (by decide) (Nat.le_of_ble_eq_true rfl) (fun p e R s m args below meth c Q ls A X hR hA hw hl hret => ?_)
  obtain ⟨hx, hb, hml, hown, hts, hK⟩ := X
  have hl : lv_has ls 2 [(0, .ref (g 0))] := hl
  suffices K : ∀ (H : Heap) (locs : List Loc), qw D A s.heap (mW g cI cB cZ th len tl ts te tk nu er eo hL hS dp bf dr td sa ad hi sl sv tr) H locs → W p l e R s m args below meth c H locs 0 0 Q (F0 m 0 ls []) from K s.heap [] hw
  clear hw
  intro H locs hw
  refine lv_aload_n hx hb dX7_keep_0 rfl (lv_at hl 0 rfl) ?_
  refine q_get hx hb hts hown hK hw.1 ci_X7 0 rfl 17 (by decide) fl_X7_173 rfl dX7_keep_1 ?_
  refine q_bipush hx hb dX7_keep_4 rfl ?_
  refine q_icmp_ne (tgt := 48) hx hb dX7_keep_6 (by decide) (by omega) (fun c_6 => ?_) (fun c_6 => ?_)
  · refine lv_aload_n hx hb dX7_keep_48 rfl (lv_at hl 0 rfl) ?_
    refine q_get hx hb hts hown hK hw.1 ci_X7 0 rfl 14 (by decide) fl_X7_20 rfl dX7_keep_49 ?_
    refine q_iconst hx hb dX7_keep_52 ?_
    refine lv_aload_n hx hb dX7_keep_53 rfl (lv_at hl 0 rfl) ?_
    refine q_get hx hb hts hown hK hw.1 ci_X7 0 rfl 16 (by decide) fl_X7_26 rfl dX7_keep_54 ?_
    refine lv_aload_n hx hb dX7_keep_57 rfl (lv_at hl 0 rfl) ?_
    refine q_get hx hb hts hown hK hw.1 ci_X7 0 rfl 17 (by decide) fl_X7_173 rfl dX7_keep_58 ?_
    refine q_callMS (As := [.ref (g 4), .int (iI 0), .ref (g 6), .int (iI dp)]) (rest := []) (wr := [((g 0), .inr (7, [.int (iI th), .ref (g 1), .int (iI len), .int (iI tl), .int (iI ts), .int (iI te), .int (iI tk), .int (iI nu), .int (iI er), .int (iI eo), .ref (g 2), .ref (g 3), .int (iI hL), .int (iI hS), .ref (g 4), .ref (g 5), .ref (g 6), .int (iI dp), .ref (g 7), .ref (g 8), .ref (g 9)])), ((g 1), .inl (cB, 700, .inl (ai bf))), ((g 2), .inl (cI, 288, .inl (ai dr))), ((g 3), .inl (cI, 288, .inl (ai td))), ((g 5), .inl (cI, 706, .inl (ai ad))), ((g 7), .inl (cI, 1412, .inl (ai sl))), ((g 8), .inl (cZ, 2, .inl (ai sv))), ((g 9), .inl (cI, 5, .inl (ai tr)))]) hx hb hml hown hts hK (c_X7_copy (0) (dp) (by first | omega | assumption) (by first | omega | assumption)) yt_X7_copy ml_X7_176 (by rw [hR]; decide) hw hA [4, 6] [0, 1, 2, 3, 5, 7, 8, 9] rfl rfl (by decide) (by decide) (by decide)  rfl rfl hl.1 (lv_room (Nat.le_of_ble_eq_true rfl)) dX7_keep_61 ⟨by rw [hR]; exact Nat.zero_le _, by rw [hR]; exact Nat.zero_le _⟩ (fun u_61 H locs hu_61 hw => ?_)
    have hw : qw D A s.heap [((g 0), .inr (7, [.int (iI th), .ref (g 1), .int (iI len), .int (iI tl), .int (iI ts), .int (iI te), .int (iI tk), .int (iI nu), .int (iI er), .int (iI eo), .ref (g 2), .ref (g 3), .int (iI hL), .int (iI hS), .ref (g 4), .ref (g 5), .ref (g 6), .int (iI dp), .ref (g 7), .ref (g 8), .ref (g 9)])), ((g 1), .inl (cB, 700, .inl (ai bf))), ((g 2), .inl (cI, 288, .inl (ai dr))), ((g 3), .inl (cI, 288, .inl (ai td))), ((g 5), .inl (cI, 706, .inl (ai ad))), ((g 7), .inl (cI, 1412, .inl (ai sl))), ((g 8), .inl (cZ, 2, .inl (ai sv))), ((g 9), .inl (cI, 5, .inl (ai tr))), ((g 4), .inl (cI, 706, .inl (ai sa))), ((g 6), .inl (cI, 7060, .inl (ai (cpk hi dp sa 0 706))))] H locs := hw
    refine lv_aload_n hx hb dX7_keep_64 rfl (lv_at hl 0 rfl) ?_
    refine lv_dup hx hb dX7_keep_65 rfl ?_
    refine q_get hx hb hts hown hK hw.1 ci_X7 0 rfl 17 (by decide) fl_X7_173 rfl dX7_keep_66 ?_
    refine q_iconst hx hb dX7_keep_69 ?_
    refine q_iadd hx hb dX7_keep_70 ?_
    refine q_put hx hb hts hown hK hw ci_X7 0 rfl 17 (by decide) fl_X7_173 rfl rfl rfl (Nat.le_of_ble_eq_true rfl) dX7_keep_71 (fun H locs hw => ?_)
    have hw : qw D A s.heap [((g 0), .inr (7, [.int (iI th), .ref (g 1), .int (iI len), .int (iI tl), .int (iI ts), .int (iI te), .int (iI tk), .int (iI nu), .int (iI er), .int (iI eo), .ref (g 2), .ref (g 3), .int (iI hL), .int (iI hS), .ref (g 4), .ref (g 5), .ref (g 6), .int (iI (dp + 1)), .ref (g 7), .ref (g 8), .ref (g 9)])), ((g 1), .inl (cB, 700, .inl (ai bf))), ((g 2), .inl (cI, 288, .inl (ai dr))), ((g 3), .inl (cI, 288, .inl (ai td))), ((g 5), .inl (cI, 706, .inl (ai ad))), ((g 7), .inl (cI, 1412, .inl (ai sl))), ((g 8), .inl (cZ, 2, .inl (ai sv))), ((g 9), .inl (cI, 5, .inl (ai tr))), ((g 4), .inl (cI, 706, .inl (ai sa))), ((g 6), .inl (cI, 7060, .inl (ai (cpk hi dp sa 0 706))))] H locs := hw
    exact hret (cpk hi dp sa 0 706, dp + 1) H locs 74 ls ⟨(by first | (rw [h_x, show k - 1 = 9 by omega]; exact kpH_1 (by omega) (by omega)) | exact kpH_0 (by omega) (by omega)), (by (unfold kpD; split <;> omega))⟩ (hw.sub [0, 1, 2, 3, 8, 4, 9, 5, 6, 7] (by decide) rfl) dX7_keep_74
  · refine q_iconst hx hb dX7_keep_9 ?_
    refine lv_istore_n (lv' := [(1, .int (iI 1)), (0, .ref (g 0))]) hx hb dX7_keep_10 rfl hl (by decide) rfl (fun ls hl => ?_)
    have loop_11 : ∀ (fu : Nat) (x : Int → Int) (k : Int) (H : Heap) (locs : List Loc) (ls : Array Slot), (10 - k).toNat = fu → (x = hsh hi (k - 1)) → (1 ≤ k ∧ k ≤ 10) → qw D A s.heap (mW g cI cB cZ th len tl ts te tk nu er eo hL hS dp bf dr td sa ad x sl sv tr) H locs → lv_has ls 2 [(0, .ref (g 0)), (1, .int (iI k))] → W p l e R s m args below meth c H locs 0 0 Q (F0 m 11 ls []) := by
      intro fu
      induction fu using Nat.strongRecOn with
      | ind fu ih =>
      intro x k H locs ls hn_11 h_x h_k hw hl
      refine lv_iload_n hx hb dX7_keep_11 rfl (lv_at hl 1 rfl) ?_
      refine q_bipush hx hb dX7_keep_12 rfl ?_
      refine q_icmp_ge (tgt := 38) hx hb dX7_keep_14 (by decide) (by omega) (fun c_14 => ?_) (fun c_14 => ?_)
      · refine lv_aload_n hx hb dX7_keep_38 rfl (lv_at hl 0 rfl) ?_
        refine lv_dup hx hb dX7_keep_39 rfl ?_
        refine q_get hx hb hts hown hK hw.1 ci_X7 0 rfl 17 (by decide) fl_X7_173 rfl dX7_keep_40 ?_
        refine q_iconst hx hb dX7_keep_43 ?_
        refine q_isub hx hb dX7_keep_44 ?_
        refine q_put hx hb hts hown hK hw ci_X7 0 rfl 17 (by decide) fl_X7_173 rfl rfl rfl (Nat.le_of_ble_eq_true rfl) dX7_keep_45 (fun H locs hw => ?_)
        have hw : qw D A s.heap (mW g cI cB cZ th len tl ts te tk nu er eo hL hS (dp - 1) bf dr td sa ad x sl sv tr) H locs := hw
        refine lv_aload_n hx hb dX7_keep_48 rfl (lv_at hl 0 rfl) ?_
        refine q_get hx hb hts hown hK hw.1 ci_X7 0 rfl 14 (by decide) fl_X7_20 rfl dX7_keep_49 ?_
        refine q_iconst hx hb dX7_keep_52 ?_
        refine lv_aload_n hx hb dX7_keep_53 rfl (lv_at hl 0 rfl) ?_
        refine q_get hx hb hts hown hK hw.1 ci_X7 0 rfl 16 (by decide) fl_X7_26 rfl dX7_keep_54 ?_
        refine lv_aload_n hx hb dX7_keep_57 rfl (lv_at hl 0 rfl) ?_
        refine q_get hx hb hts hown hK hw.1 ci_X7 0 rfl 17 (by decide) fl_X7_173 rfl dX7_keep_58 ?_
        refine q_callMS (As := [.ref (g 4), .int (iI 0), .ref (g 6), .int (iI (dp - 1))]) (rest := []) (wr := [((g 0), .inr (7, [.int (iI th), .ref (g 1), .int (iI len), .int (iI tl), .int (iI ts), .int (iI te), .int (iI tk), .int (iI nu), .int (iI er), .int (iI eo), .ref (g 2), .ref (g 3), .int (iI hL), .int (iI hS), .ref (g 4), .ref (g 5), .ref (g 6), .int (iI (dp - 1)), .ref (g 7), .ref (g 8), .ref (g 9)])), ((g 1), .inl (cB, 700, .inl (ai bf))), ((g 2), .inl (cI, 288, .inl (ai dr))), ((g 3), .inl (cI, 288, .inl (ai td))), ((g 5), .inl (cI, 706, .inl (ai ad))), ((g 7), .inl (cI, 1412, .inl (ai sl))), ((g 8), .inl (cZ, 2, .inl (ai sv))), ((g 9), .inl (cI, 5, .inl (ai tr)))]) hx hb hml hown hts hK (c_X7_copy (0) (dp - 1) (by first | omega | assumption) (by first | omega | assumption)) yt_X7_copy ml_X7_176 (by rw [hR]; decide) hw hA [4, 6] [0, 1, 2, 3, 5, 7, 8, 9] rfl rfl (by decide) (by decide) (by decide)  rfl rfl hl.1 (lv_room (Nat.le_of_ble_eq_true rfl)) dX7_keep_61 ⟨by rw [hR]; exact Nat.zero_le _, by rw [hR]; exact Nat.zero_le _⟩ (fun u_61 H locs hu_61 hw => ?_)
        have hw : qw D A s.heap [((g 0), .inr (7, [.int (iI th), .ref (g 1), .int (iI len), .int (iI tl), .int (iI ts), .int (iI te), .int (iI tk), .int (iI nu), .int (iI er), .int (iI eo), .ref (g 2), .ref (g 3), .int (iI hL), .int (iI hS), .ref (g 4), .ref (g 5), .ref (g 6), .int (iI (dp - 1)), .ref (g 7), .ref (g 8), .ref (g 9)])), ((g 1), .inl (cB, 700, .inl (ai bf))), ((g 2), .inl (cI, 288, .inl (ai dr))), ((g 3), .inl (cI, 288, .inl (ai td))), ((g 5), .inl (cI, 706, .inl (ai ad))), ((g 7), .inl (cI, 1412, .inl (ai sl))), ((g 8), .inl (cZ, 2, .inl (ai sv))), ((g 9), .inl (cI, 5, .inl (ai tr))), ((g 4), .inl (cI, 706, .inl (ai sa))), ((g 6), .inl (cI, 7060, .inl (ai (cpk x (dp - 1) sa 0 706))))] H locs := hw
        refine lv_aload_n hx hb dX7_keep_64 rfl (lv_at hl 0 rfl) ?_
        refine lv_dup hx hb dX7_keep_65 rfl ?_
        refine q_get hx hb hts hown hK hw.1 ci_X7 0 rfl 17 (by decide) fl_X7_173 rfl dX7_keep_66 ?_
        refine q_iconst hx hb dX7_keep_69 ?_
        refine q_iadd hx hb dX7_keep_70 ?_
        refine q_put hx hb hts hown hK hw ci_X7 0 rfl 17 (by decide) fl_X7_173 rfl rfl rfl (Nat.le_of_ble_eq_true rfl) dX7_keep_71 (fun H locs hw => ?_)
        have hw : qw D A s.heap [((g 0), .inr (7, [.int (iI th), .ref (g 1), .int (iI len), .int (iI tl), .int (iI ts), .int (iI te), .int (iI tk), .int (iI nu), .int (iI er), .int (iI eo), .ref (g 2), .ref (g 3), .int (iI hL), .int (iI hS), .ref (g 4), .ref (g 5), .ref (g 6), .int (iI (dp - 1 + 1)), .ref (g 7), .ref (g 8), .ref (g 9)])), ((g 1), .inl (cB, 700, .inl (ai bf))), ((g 2), .inl (cI, 288, .inl (ai dr))), ((g 3), .inl (cI, 288, .inl (ai td))), ((g 5), .inl (cI, 706, .inl (ai ad))), ((g 7), .inl (cI, 1412, .inl (ai sl))), ((g 8), .inl (cZ, 2, .inl (ai sv))), ((g 9), .inl (cI, 5, .inl (ai tr))), ((g 4), .inl (cI, 706, .inl (ai sa))), ((g 6), .inl (cI, 7060, .inl (ai (cpk x (dp - 1) sa 0 706))))] H locs := hw
        exact hret (cpk x (dp - 1) sa 0 706, dp - 1 + 1) H locs 74 ls ⟨(by first | (rw [h_x, show k - 1 = 9 by omega]; exact kpH_1 (by omega) (by omega)) | exact kpH_0 (by omega) (by omega)), (by (unfold kpD; split <;> omega))⟩ (hw.sub [0, 1, 2, 3, 8, 4, 9, 5, 6, 7] (by decide) rfl) dX7_keep_74
      · refine lv_aload_n hx hb dX7_keep_17 rfl (lv_at hl 0 rfl) ?_
        refine q_get hx hb hts hown hK hw.1 ci_X7 0 rfl 16 (by decide) fl_X7_26 rfl dX7_keep_18 ?_
        refine lv_iload_n hx hb dX7_keep_21 rfl (lv_at hl 1 rfl) ?_
        refine lv_aload_n hx hb dX7_keep_22 rfl (lv_at hl 0 rfl) ?_
        refine q_get hx hb hts hown hK hw.1 ci_X7 0 rfl 16 (by decide) fl_X7_26 rfl dX7_keep_23 ?_
        refine lv_iload_n hx hb dX7_keep_26 rfl (lv_at hl 1 rfl) ?_
        refine q_iconst hx hb dX7_keep_27 ?_
        refine q_isub hx hb dX7_keep_28 ?_
        refine q_callMS (As := [.ref (g 6), .int (iI k), .ref (g 6), .int (iI (k - 1))]) (rest := []) (wr := [((g 0), .inr (7, [.int (iI th), .ref (g 1), .int (iI len), .int (iI tl), .int (iI ts), .int (iI te), .int (iI tk), .int (iI nu), .int (iI er), .int (iI eo), .ref (g 2), .ref (g 3), .int (iI hL), .int (iI hS), .ref (g 4), .ref (g 5), .ref (g 6), .int (iI dp), .ref (g 7), .ref (g 8), .ref (g 9)])), ((g 1), .inl (cB, 700, .inl (ai bf))), ((g 2), .inl (cI, 288, .inl (ai dr))), ((g 3), .inl (cI, 288, .inl (ai td))), ((g 4), .inl (cI, 706, .inl (ai sa))), ((g 5), .inl (cI, 706, .inl (ai ad))), ((g 7), .inl (cI, 1412, .inl (ai sl))), ((g 8), .inl (cZ, 2, .inl (ai sv))), ((g 9), .inl (cI, 5, .inl (ai tr)))]) hx hb hml hown hts hK (c_X7_copy_s (k) (k - 1) (by first | omega | assumption) (by first | omega | assumption)) yt_X7_copy ml_X7_176 (by rw [hR]; decide) hw hA [6] [0, 1, 2, 3, 4, 5, 7, 8, 9] rfl rfl (by decide) (by decide) (by decide)  rfl rfl hl.1 (lv_room (Nat.le_of_ble_eq_true rfl)) dX7_keep_29 ⟨by rw [hR]; exact Nat.zero_le _, by rw [hR]; exact Nat.zero_le _⟩ (fun u_29 H locs hu_29 hw => ?_)
        have hw : qw D A s.heap [((g 0), .inr (7, [.int (iI th), .ref (g 1), .int (iI len), .int (iI tl), .int (iI ts), .int (iI te), .int (iI tk), .int (iI nu), .int (iI er), .int (iI eo), .ref (g 2), .ref (g 3), .int (iI hL), .int (iI hS), .ref (g 4), .ref (g 5), .ref (g 6), .int (iI dp), .ref (g 7), .ref (g 8), .ref (g 9)])), ((g 1), .inl (cB, 700, .inl (ai bf))), ((g 2), .inl (cI, 288, .inl (ai dr))), ((g 3), .inl (cI, 288, .inl (ai td))), ((g 4), .inl (cI, 706, .inl (ai sa))), ((g 5), .inl (cI, 706, .inl (ai ad))), ((g 7), .inl (cI, 1412, .inl (ai sl))), ((g 8), .inl (cZ, 2, .inl (ai sv))), ((g 9), .inl (cI, 5, .inl (ai tr))), ((g 6), .inl (cI, 7060, .inl (ai (cpk x (k - 1) x k 706))))] H locs := hw
        refine lv_iinc (v := iI (k + 1)) (lv' := [(1, .int (iI (k + 1))), (0, .ref (g 0))]) hx hb dX7_keep_32 hl (k := 1) rfl (iI_add _ _) (by decide) rfl (fun ls hl => ?_)
        refine lv_goto (tgt := 11) hx hb dX7_keep_35 (by decide) ?_
        exact ih _ (by omega) (cpk x (k - 1) x k 706) (k + 1) H locs ls rfl (by rw [h_x]; exact hsh_s _ (by omega) (by omega) (by omega)) (by first | omega | assumption | rfl) (hw.sub [0, 1, 2, 3, 4, 5, 9, 6, 7, 8] (by decide) rfl) (lv_sub hl [1, 0] rfl)
    exact loop_11 _ (hi) (1) H locs ls rfl (by exact (hsh_0 _).symm) (by first | omega | assumption | rfl) hw (lv_sub hl [1, 0] rfl)
