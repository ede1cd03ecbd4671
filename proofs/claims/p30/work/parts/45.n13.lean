variable {l : Launch} {z : Nat → Nat} {D : va_G} {cI cB cZ cS cJ : ClassId} {T C E : Nat → Int → Int} {x a b ap b2 : Nat → Nat} {lat und pf pm pt pl pw f1 f2 f3 f4 f5 f6 hn gc stop sinp srea spag sjob sdup : Int} {aH aV : Nat → Nat → Nat} {cH cV : Nat → Nat → Int → Int} {svd ht e0 e1 e2 e3 e4 e5 e6 e7 e8 e9 : Int → Int}
set_option maxHeartbeats 4000000 in
set_option maxRecDepth 100000 in
theorem c_X6_feed (pp : Int) (hT : WT T) (hC : WC T C) (hla : 0 ≤ lat ∧ lat ≤ 1000000 ∧ 0 ≤ und ∧ und ≤ 10) (hfr : FR C) (h0 : 1 ≤ pp ∧ pp ≤ 40) (h1 : C 11 2 = 0) : qM l D (tyG cI cB cZ cS cJ) yX6_feed cX6_feed 4 (Option.some FieldType.int) 5 122 [.ref (x 0), .int (iI pp)] ([o6C x a b ap lat und] ++ suW b cI T ++ stW a cI C ++ [((x 4), .inr (3, [.int (iI pf), .int (iI pm), .int (iI pt), .int (iI pl), .int (iI pw)])), ((x 1), .inl (cS, 10, .inr (.inr (.inr (.inr (fun i => some (aH i 0)))))))] ++ (HP 10 aH cI cH)) (fun u : (Nat → Int → Int) × (Int) × (Int) × (Int) × (Int) × (Int) => (((u.1)) = feedC T pp.toNat C)) (fun u => some (.int (iI (feedN T pp.toNat C)))) (fun u => ([o6C x a b ap (lat + 1) (nxU und)] ++ suW b cI T ++ stW a cI (u.1) ++ [((x 4), .inr (3, [.int (iI (u.2.1)), .int (iI (u.2.2.1)), .int (iI (u.2.2.2.1)), .int (iI (u.2.2.2.2.1)), .int (iI (u.2.2.2.2.2))])), ((x 1), .inl (cS, 10, .inr (.inr (.inr (.inr (fun i => some (aH i 0)))))))] ++ (HP 10 aH cI (updH cH (lat % 10).toNat C)))) := by
  have q_w := hT.1
  have q_c := hC.1
  have q_l := hC.2.1
  refine qM_enterI (val := fun u => iI (feedN T pp.toNat C)) (by decide) (Nat.le_of_ble_eq_true rfl) (fun u hu => ⟨rfl, nar_i _⟩) (fun p e R s m args below meth c Q ls A X hR hA hw hl hret => ?_)
  obtain ⟨hx, hb, hml, hown, hts, hK⟩ := X
  have hl : lv_has ls 4 [(0, .ref (x 0)), (1, .int (iI pp))] := hl
  suffices K : ∀ (H : Heap) (locs : List Loc), qw D A s.heap ([o6C x a b ap lat und] ++ suW b cI T ++ stW a cI C ++ [((x 4), .inr (3, [.int (iI pf), .int (iI pm), .int (iI pt), .int (iI pl), .int (iI pw)])), ((x 1), .inl (cS, 10, .inr (.inr (.inr (.inr (fun i => some (aH i 0)))))))] ++ (HP 10 aH cI cH)) H locs → W p l e R s m args below meth c H locs 0 0 Q (F0 m 0 ls []) from K s.heap [] hw
  clear hw
  intro H locs hw
  refine lv_iload_n hx hb dX6_feed_0 rfl (lv_at hl 1 rfl) ?_
  refine q_iconst hx hb dX6_feed_1 ?_
  refine q_icmp_lt (tgt := 11) hx hb dX6_feed_2 (by decide) (by omega) (fun c_2 => absurd c_2 (by omega)) (fun c_2 => ?_)
  refine lv_iload_n hx hb dX6_feed_5 rfl (lv_at hl 1 rfl) ?_
  refine q_bipush hx hb dX6_feed_6 rfl ?_
  refine q_icmp_le (tgt := 22) hx hb dX6_feed_8 (by decide) (by omega) (fun c_8 => ?_) (fun c_8 => absurd c_8 (by omega))
  refine lv_aload_n hx hb dX6_feed_22 rfl (lv_at hl 0 rfl) ?_
  refine q_callP (As := []) (rest := []) hx hb hml hown hts hK (c_X6_isStopped (by omega)) yi_X6_isStopped ml_X6_264 (by rw [hR]; decide) (hw.1.sub [0, 10] rfl) 0 rfl rfl rfl rfl hl.1 (lv_room (Nat.le_of_ble_eq_true rfl)) dX6_feed_23 ⟨by rw [hR]; exact Nat.zero_le _, by rw [hR]; exact Nat.zero_le _⟩ ?_
  refine q_ifb_eq (tgt := 40) hx hb dX6_feed_26 (by decide) (fun c_26 => ?_) (fun c_26 => absurd c_26 (by omega))
  refine lv_aload_n hx hb dX6_feed_40 rfl (lv_at hl 0 rfl) ?_
  refine q_callMT (As := []) (rest := []) (wr := [((b 0), .inr (4, [.ref (b 1), .ref (b 2), .ref (b 3), .ref (b 4), .ref (b 5), .ref (b 6), .ref (b 7), .ref (b 8), .int (iI (T 8 0)), .int (iI (T 8 1)), .int (iI (T 8 2)), .int (iI (T 8 3))])), ((b 1), .inl (cI, 40, .inl (ai (T 0)))), ((b 2), .inl (cI, 40, .inl (ai (T 1)))), ((b 3), .inl (cI, 40, .inl (ai (T 2)))), ((b 4), .inl (cI, 40, .inl (ai (T 3)))), ((b 5), .inl (cI, 40, .inl (ai (T 4)))), ((b 6), .inl (cI, 40, .inl (ai (T 5)))), ((b 7), .inl (cI, 40, .inl (ai (T 6)))), ((b 8), .inl (cI, 4, .inl (ai (T 7)))), ((x 4), .inr (3, [.int (iI pf), .int (iI pm), .int (iI pt), .int (iI pl), .int (iI pw)]))]) hx hb hml hown hts hK (c_X6_remember (C := C) (by exact hla) (by omega)) (fun _ => rfl) yi_X6_remember ml_X6_273 (by rw [hR]; decide) hw hA [0, 10, 11, 12, 13, 14, 15, 16, 17, 18, 19, 20, 21, 22, 24] [1, 2, 3, 4, 5, 6, 7, 8, 9, 23] rfl (by decide) 0 rfl rfl rfl rfl hl.1 (lv_room (Nat.le_of_ble_eq_true rfl)) dX6_feed_41 ⟨by rw [hR]; exact Nat.zero_le _, by rw [hR]; exact Nat.zero_le _⟩ (fun u_41 H locs hu_41 hw => ?_)
  have hw : qw D A s.heap (suW b cI T ++ [((x 4), .inr (3, [.int (iI pf), .int (iI pm), .int (iI pt), .int (iI pl), .int (iI pw)]))] ++ [o6C x a b ap (lat + 1) (nxU und)] ++ stW a cI C ++ [((x 1), .inl (cS, 10, .inr (.inr (.inr (.inr (fun i => some (aH i 0)))))))] ++ (HP 10 aH cI (updH cH (lat % 10).toNat C))) H locs := hw
  refine q_iconst hx hb dX6_feed_44 ?_
  refine lv_istore_n (lv' := [(2, .int (iI 0)), (0, .ref (x 0)), (1, .int (iI pp))]) hx hb dX6_feed_45 rfl hl (by decide) rfl (fun ls hl => ?_)
  refine q_iconst hx hb dX6_feed_46 ?_
  refine lv_istore_n (lv' := [(3, .int (iI 0)), (2, .int (iI 0)), (0, .ref (x 0)), (1, .int (iI pp))]) hx hb dX6_feed_47 rfl hl (by decide) rfl (fun ls hl => ?_)
  have loop_48 : ∀ (fu : Nat) (Ck : Nat → Int → Int) (q1 : Int) (q2 : Int) (q3 : Int) (q4 : Int) (q5 : Int) (c1 : Int) (k : Int) (H : Heap) (locs : List Loc) (ls : Array Slot), (pp - k).toNat = fu → (0 ≤ k ∧ k ≤ pp) → (WC T Ck) → (FR Ck) → (feedC T (pp - k).toNat Ck = feedC T pp.toNat C) → (c1 + feedN T (pp - k).toNat Ck = feedN T pp.toNat C) → qw D A s.heap (suW b cI T ++ [((x 4), .inr (3, [.int (iI q1), .int (iI q2), .int (iI q3), .int (iI q4), .int (iI q5)]))] ++ [o6C x a b ap (lat + 1) (nxU und)] ++ stW a cI Ck ++ [((x 1), .inl (cS, 10, .inr (.inr (.inr (.inr (fun i => some (aH i 0)))))))] ++ (HP 10 aH cI (updH cH (lat % 10).toNat C))) H locs → lv_has ls 4 [(0, .ref (x 0)), (1, .int (iI pp)), (2, .int (iI c1)), (3, .int (iI k))] → W p l e R s m args below meth c H locs 0 0 Q (F0 m 48 ls []) := by
    intro fu
    induction fu using Nat.strongRecOn with
    | ind fu ih =>
    intro Ck q1 q2 q3 q4 q5 c1 k H locs ls hn_48 h_k h_C h_F h_fc h_fn hw hl
    have q_z := h_C.1
    have q_f : Ck 11 2 = 0 ↔ Ck 11 1 = 0 := h_F
    refine lv_iload_n hx hb dX6_feed_48 rfl (lv_at hl 3 rfl) ?_
    refine lv_iload_n hx hb dX6_feed_49 rfl (lv_at hl 1 rfl) ?_
    refine q_icmp_ge (tgt := 83) hx hb dX6_feed_50 (by decide) (by omega) (fun c_50 => ?_) (fun c_50 => ?_)
    · have q_e := feedC_e (T := T) (C := Ck) (m := (pp - k).toNat) (by first | exact Or.inl (by omega) | exact Or.inr (fun w => by omega))
      refine lv_iload_n hx hb dX6_feed_83 rfl (lv_at hl 2 rfl) ?_
      refine q_top (feedN T pp.toNat C) (by rw [← h_fn, q_e.2, Int.add_zero]) ?_
      exact hret (Ck, q1, q2, q3, q4, q5) H locs 84 ls (by rw [← h_fc]; exact q_e.1.symm) (hw.subR [10, 0, 1, 2, 3, 4, 5, 6, 7, 8, 11, 12, 13, 14, 15, 16, 17, 18, 19, 20, 21, 22, 23, 9, 24] (by decide) rfl) dX6_feed_84
    · refine lv_aload_n hx hb dX6_feed_53 rfl (lv_at hl 0 rfl) ?_
      refine q_callP (As := []) (rest := []) hx hb hml hown hts hK (c_X6_isStopped (by have z := h_C.1; omega)) yi_X6_isStopped ml_X6_264 (by rw [hR]; decide) (hw.1.sub [10, 11] rfl) 0 rfl rfl rfl rfl hl.1 (lv_room (Nat.le_of_ble_eq_true rfl)) dX6_feed_54 ⟨by rw [hR]; exact Nat.zero_le _, by rw [hR]; exact Nat.zero_le _⟩ ?_
      refine q_ifb_ne (tgt := 83) hx hb dX6_feed_57 (by decide) (fun c_57 => ?_) (fun c_57 => ?_)
      · have q_e := feedC_e (T := T) (C := Ck) (m := (pp - k).toNat) (by first | exact Or.inl (by omega) | exact Or.inr (fun w => by omega))
        refine lv_iload_n hx hb dX6_feed_83 rfl (lv_at hl 2 rfl) ?_
        refine q_top (feedN T pp.toNat C) (by rw [← h_fn, q_e.2, Int.add_zero]) ?_
        exact hret (Ck, q1, q2, q3, q4, q5) H locs 84 ls (by rw [← h_fc]; exact q_e.1.symm) (hw.subR [10, 0, 1, 2, 3, 4, 5, 6, 7, 8, 11, 12, 13, 14, 15, 16, 17, 18, 19, 20, 21, 22, 23, 9, 24] (by decide) rfl) dX6_feed_84
      · refine lv_aload_n hx hb dX6_feed_60 rfl (lv_at hl 0 rfl) ?_
        refine q_callP (As := []) (rest := []) hx hb hml hown hts hK c_X6_stackSize yi_X6_stackSize ml_X6_93 (by rw [hR]; decide) (hw.1.sub [10, 0, 11] rfl) 0 rfl rfl rfl rfl hl.1 (lv_room (Nat.le_of_ble_eq_true rfl)) dX6_feed_61 ⟨by rw [hR]; exact Nat.zero_le _, by rw [hR]; exact Nat.zero_le _⟩ ?_
        refine q_if_le (tgt := 83) hx hb dX6_feed_64 (by decide) (by omega) (fun c_64 => ?_) (fun c_64 => ?_)
        · have q_e := feedC_e (T := T) (C := Ck) (m := (pp - k).toNat) (by first | exact Or.inl (by omega) | exact Or.inr (fun w => by omega))
          refine lv_iload_n hx hb dX6_feed_83 rfl (lv_at hl 2 rfl) ?_
          refine q_top (feedN T pp.toNat C) (by rw [← h_fn, q_e.2, Int.add_zero]) ?_
          exact hret (Ck, q1, q2, q3, q4, q5) H locs 84 ls (by rw [← h_fc]; exact q_e.1.symm) (hw.subR [10, 0, 1, 2, 3, 4, 5, 6, 7, 8, 11, 12, 13, 14, 15, 16, 17, 18, 19, 20, 21, 22, 23, 9, 24] (by decide) rfl) dX6_feed_84
        · refine lv_aload_n hx hb dX6_feed_67 rfl (lv_at hl 0 rfl) ?_
          refine q_callMR (As := []) (rest := []) (wr := [((x 1), .inl (cS, 10, .inr (.inr (.inr (.inr (fun i => some (aH i 0)))))))]) hx hb hml hown hts hK (c_X6_pickOnce (C := Ck) (by exact hT) (by exact h_C) (by have z := h_C.1; omega)) yi_X6_pickOnce ml_X6_276 (by rw [hR]; decide) hw hA [10, 0, 1, 2, 3, 4, 5, 6, 7, 8, 11, 12, 13, 14, 15, 16, 17, 18, 19, 20, 21, 22, 23, 9] [24] rfl (by decide) 0 rfl rfl rfl rfl hl.1 (lv_room (Nat.le_of_ble_eq_true rfl)) dX6_feed_68 ⟨by rw [hR]; exact Nat.zero_le _, by rw [hR]; exact Nat.zero_le _⟩ (fun u_68 H locs hu_68 hw => ?_)
          obtain ⟨C2_2, pf2_2, pm2_2, pt2_2, pl2_2, pw2_2⟩ := u_68
          have hu_2_0 : C2_2 = pickC T Ck := hu_68
          have hw : qw D A s.heap ([((x 1), .inl (cS, 10, .inr (.inr (.inr (.inr (fun i => some (aH i 0)))))))] ++ [o6C x a b ap (lat + 1) (nxU und)] ++ suW b cI T ++ stW a cI C2_2 ++ [((x 4), .inr (3, [.int (iI pf2_2), .int (iI pm2_2), .int (iI pt2_2), .int (iI pl2_2), .int (iI pw2_2)]))] ++ (HP 10 aH cI (updH cH (lat % 10).toNat C))) H locs := hw
          refine q_ifb_eq (tgt := 77) hx hb dX6_feed_71 (by decide) (fun c_71 => ?_) (fun c_71 => ?_)
          · refine lv_iinc (v := iI (k + 1)) (lv' := [(3, .int (iI (k + 1))), (0, .ref (x 0)), (1, .int (iI pp)), (2, .int (iI c1))]) hx hb dX6_feed_77 hl (k := 3) rfl (iI_add _ _) (by decide) rfl (fun ls hl => ?_)
            refine lv_goto (tgt := 48) hx hb dX6_feed_80 (by decide) ?_
            exact ih _ (by omega) (C2_2) (pf2_2) (pm2_2) (pt2_2) (pl2_2) (pw2_2) (c1) (k + 1) H locs ls rfl (by first | omega | assumption | rfl) (by rw [hu_2_0]; exact WC_pickC hT h_C (by omega) (by omega)) (by rw [hu_2_0]; exact FR_pickC (by omega) (by omega) (pk_bd (by omega)).1) (by rw [hu_2_0, ← h_fc]; exact (feedC_s (by omega) ⟨by omega, by omega⟩).1.symm) (by rw [hu_2_0, ← h_fn, (feedC_s (T := T) (C := Ck) (p := pp) (j := k) (by omega) ⟨by omega, by omega⟩).2]; first | (rw [if_neg (pickR_p (by omega))]; omega) | (rw [if_pos (show pickR T Ck = -1 from if_neg (by omega))]; omega)) (hw.subR [2, 3, 4, 5, 6, 7, 8, 9, 10, 24, 1, 11, 12, 13, 14, 15, 16, 17, 18, 19, 20, 21, 22, 23, 0] (by decide) rfl) (lv_sub hl [1, 2, 3, 0] rfl)
          · refine lv_iinc (v := iI (c1 + 1)) (lv' := [(2, .int (iI (c1 + 1))), (0, .ref (x 0)), (1, .int (iI pp)), (3, .int (iI k))]) hx hb dX6_feed_74 hl (k := 2) rfl (iI_add _ _) (by decide) rfl (fun ls hl => ?_)
            refine lv_iinc (v := iI (k + 1)) (lv' := [(3, .int (iI (k + 1))), (2, .int (iI (c1 + 1))), (0, .ref (x 0)), (1, .int (iI pp))]) hx hb dX6_feed_77 hl (k := 3) rfl (iI_add _ _) (by decide) rfl (fun ls hl => ?_)
            refine lv_goto (tgt := 48) hx hb dX6_feed_80 (by decide) ?_
            exact ih _ (by omega) (C2_2) (pf2_2) (pm2_2) (pt2_2) (pl2_2) (pw2_2) (c1 + 1) (k + 1) H locs ls rfl (by first | omega | assumption | rfl) (by rw [hu_2_0]; exact WC_pickC hT h_C (by omega) (by omega)) (by rw [hu_2_0]; exact FR_pickC (by omega) (by omega) (pk_bd (by omega)).1) (by rw [hu_2_0, ← h_fc]; exact (feedC_s (by omega) ⟨by omega, by omega⟩).1.symm) (by rw [hu_2_0, ← h_fn, (feedC_s (T := T) (C := Ck) (p := pp) (j := k) (by omega) ⟨by omega, by omega⟩).2]; first | (rw [if_neg (pickR_p (by omega))]; omega) | (rw [if_pos (show pickR T Ck = -1 from if_neg (by omega))]; omega)) (hw.subR [2, 3, 4, 5, 6, 7, 8, 9, 10, 24, 1, 11, 12, 13, 14, 15, 16, 17, 18, 19, 20, 21, 22, 23, 0] (by decide) rfl) (lv_sub hl [2, 3, 1, 0] rfl)
  exact loop_48 _ (C) (pf) (pm) (pt) (pl) (pw) (0) (0) H locs ls rfl (by first | omega | assumption | rfl) (by exact hC) (by exact hfr) (by rw [Int.sub_zero]) (by rw [Int.sub_zero, Int.zero_add]) hw (lv_sub hl [2, 3, 1, 0] rfl)
