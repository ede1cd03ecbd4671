variable {l : Launch} {z : Nat → Nat} {D : va_G} {cI cB cZ cS cJ : ClassId} {T C E : Nat → Int → Int} {x a b ap b2 : Nat → Nat} {lat und pf pm pt pl pw f1 f2 f3 f4 f5 f6 hn gc stop sinp srea spag sjob sdup : Int} {aH aV : Nat → Nat → Nat} {cH cV : Nat → Nat → Int → Int} {svd ht e0 e1 e2 e3 e4 e5 e6 e7 e8 e9 : Int → Int}
set_option maxHeartbeats 4000000 in
set_option maxRecDepth 100000 in
theorem c_X6_undo_no (hu : und = 0) : qP l D (tyG cI cB cZ cS cJ) yX6_undo cX6_undo 1 (Option.some FieldType.int) 0 0 [.ref (x 0)] [((x 0), .inr (6, [.ref (ap 0), .ref (b 0), .ref (a 0), .ref (x 1), .int (iI lat), .int (iI und), .ref (x 2), .ref (x 3), .ref (x 4), .ref (x 6)]))] (some (.int (iI (-1)))) := by
  refine qP_enter (by decide) (Nat.le_of_ble_eq_true rfl) (nar_i _) (fun p e R s m args below meth c Q ls X hR hP hl hret => ?_)
  obtain ⟨hx, hb, hml, hown, hts, hK⟩ := X
  have hl : lv_has ls 1 [(0, .ref (x 0))] := hl
  refine lv_aload_n hx hb dX6_undo_0 rfl (lv_at hl 0 rfl) ?_
  refine q_get hx hb hts hown hK hP ci_X6 0 rfl 5 (by decide) fl_X6_125 rfl dX6_undo_1 ?_
  refine q_if_gt (tgt := 9) hx hb dX6_undo_4 (by decide) (by omega) (fun c_4 => absurd c_4 (by omega)) (fun c_4 => ?_)
  refine q_iconst hx hb dX6_undo_7 ?_
  exact q_ret (hret 8 ls dX6_undo_8) (by first | rfl | omega)

set_option maxHeartbeats 4000000 in
set_option maxRecDepth 100000 in
theorem c_X6_undo (hla : 1 ≤ lat ∧ lat ≤ 1000000 ∧ 0 < und ∧ und ≤ 10) (hd : cH ((lat - 1) % 10).toNat 11 5 = 0 ∨ cH ((lat - 1) % 10).toNat 11 5 = 1) : qM l D (tyG cI cB cZ cS cJ) yX6_undo cX6_undo 1 (Option.some FieldType.int) 3 102 [.ref (x 0)] ([o6C x a b ap lat und] ++ stW a cI C ++ [((x 1), .inl (cS, 10, .inr (.inr (.inr (.inr (fun i => some (aH i 0)))))))] ++ (HP 10 aH cI cH)) (fun u : (Nat → Int → Int) => (u = cH ((lat - 1) % 10).toNat)) (fun u => some (.int (iI (und - 1)))) (fun u => ([o6C x a b ap (lat - 1) (und - 1)] ++ stW a cI u ++ [((x 1), .inl (cS, 10, .inr (.inr (.inr (.inr (fun i => some (aH i 0)))))))] ++ (HP 10 aH cI cH))) := by
  refine qM_enterI (val := fun u => iI (und - 1)) (by decide) (Nat.le_of_ble_eq_true rfl) (fun u hu => ⟨rfl, nar_i _⟩) (fun p e R s m args below meth c Q ls A X hR hA hw hl hret => ?_)
  obtain ⟨hx, hb, hml, hown, hts, hK⟩ := X
  have hl : lv_has ls 1 [(0, .ref (x 0))] := hl
  suffices K : ∀ (H : Heap) (locs : List Loc), qw D A s.heap ([o6C x a b ap lat und] ++ stW a cI C ++ [((x 1), .inl (cS, 10, .inr (.inr (.inr (.inr (fun i => some (aH i 0)))))))] ++ (HP 10 aH cI cH)) H locs → W p l e R s m args below meth c H locs 0 0 Q (F0 m 0 ls []) from K s.heap [] hw
  clear hw
  intro H locs hw
  refine lv_aload_n hx hb dX6_undo_0 rfl (lv_at hl 0 rfl) ?_
  refine q_get hx hb hts hown hK hw.1 ci_X6 0 rfl 5 (by decide) fl_X6_125 rfl dX6_undo_1 ?_
  refine q_if_gt (tgt := 9) hx hb dX6_undo_4 (by decide) (by omega) (fun c_4 => ?_) (fun c_4 => absurd c_4 (by omega))
  refine lv_aload_n hx hb dX6_undo_9 rfl (lv_at hl 0 rfl) ?_
  refine lv_dup hx hb dX6_undo_10 rfl ?_
  refine q_get hx hb hts hown hK hw.1 ci_X6 0 rfl 4 (by decide) fl_X6_302 rfl dX6_undo_11 ?_
  refine q_iconst hx hb dX6_undo_14 ?_
  refine q_isub hx hb dX6_undo_15 ?_
  refine q_put hx hb hts hown hK hw ci_X6 0 rfl 4 (by decide) fl_X6_302 rfl rfl rfl (Nat.le_of_ble_eq_true rfl) dX6_undo_16 (fun H locs hw => ?_)
  have hw : qw D A s.heap ([o6C x a b ap (lat - 1) und] ++ stW a cI C ++ [((x 1), .inl (cS, 10, .inr (.inr (.inr (.inr (fun i => some (aH i 0)))))))] ++ (HP 10 aH cI cH)) H locs := hw
  refine lv_aload_n hx hb dX6_undo_19 rfl (lv_at hl 0 rfl) ?_
  refine lv_dup hx hb dX6_undo_20 rfl ?_
  refine q_get hx hb hts hown hK hw.1 ci_X6 0 rfl 5 (by decide) fl_X6_125 rfl dX6_undo_21 ?_
  refine q_iconst hx hb dX6_undo_24 ?_
  refine q_isub hx hb dX6_undo_25 ?_
  refine q_put hx hb hts hown hK hw ci_X6 0 rfl 5 (by decide) fl_X6_125 rfl rfl rfl (Nat.le_of_ble_eq_true rfl) dX6_undo_26 (fun H locs hw => ?_)
  have hw : qw D A s.heap ([o6C x a b ap (lat - 1) (und - 1)] ++ stW a cI C ++ [((x 1), .inl (cS, 10, .inr (.inr (.inr (.inr (fun i => some (aH i 0)))))))] ++ (HP 10 aH cI cH)) H locs := hw
  refine lv_aload_n hx hb dX6_undo_29 rfl (lv_at hl 0 rfl) ?_
  refine q_get hx hb hts hown hK hw.1 ci_X6 0 rfl 2 (by decide) fl_X6_26 rfl dX6_undo_30 ?_
  refine lv_aload_n hx hb dX6_undo_33 rfl (lv_at hl 0 rfl) ?_
  refine q_get hx hb hts hown hK hw.1 ci_X6 0 rfl 3 (by decide) fl_X6_30 rfl dX6_undo_34 ?_
  refine lv_aload_n hx hb dX6_undo_37 rfl (lv_at hl 0 rfl) ?_
  refine q_get hx hb hts hown hK hw.1 ci_X6 0 rfl 4 (by decide) fl_X6_302 rfl dX6_undo_38 ?_
  refine q_bipush hx hb dX6_undo_41 rfl ?_
  refine q_callPS (As := [.int (iI (lat - 1)), .int (iI 10)]) (rest := [.ref (x 1), .ref (a 0)]) hx hb hml hown hts hK (c_J9_floorMod (lat - 1) (10) (by first | omega | assumption) (by first | omega | assumption)) yt_J9_floorMod_7cf53 ml_X6_305 (by rw [hR]; decide) (show va_P D vwCl [] _ from fun k q h => by simp at h)  rfl rfl hl.1 (lv_room (Nat.le_of_ble_eq_true rfl)) dX6_undo_43 ⟨by rw [hR]; exact Nat.zero_le _, by rw [hR]; exact Nat.zero_le _⟩ ?_
  obtain ⟨kk, e_kk, h_kk⟩ : ∃ kk : Nat, ((lat - 1) % 10) = (kk : Int) ∧ kk < 10 := ⟨(((lat - 1) % 10)).toNat, by omega, by omega⟩
  refine q_top (kk : Int) e_kk ?_
  refine q_aald hx hb hK hw.1 14 rfl rfl kk rfl h_kk (by decide) rfl dX6_undo_46 ?_
  have hw : qw D A s.heap ([o6C x a b ap (lat - 1) (und - 1)] ++ stW a cI C ++ [((x 1), .inl (cS, 10, .inr (.inr (.inr (.inr (fun i => some (aH i 0)))))))] ++ stW (aH kk) cI (cH kk) ++ (HPx 10 aH cI cH kk)) H locs := hw.perm (hp_o h_kk)
  refine q_callMR (As := [.ref (aH kk 0)]) (rest := []) (wr := [((x 0), .inr (6, [.ref (ap 0), .ref (b 0), .ref (a 0), .ref (x 1), .int (iI (lat - 1)), .int (iI (und - 1)), .ref (x 2), .ref (x 3), .ref (x 4), .ref (x 6)])), ((x 1), .inl (cS, 10, .inr (.inr (.inr (.inr (fun i => some (aH i 0)))))))]) hx hb hml hown hts hK (c_X5_copyFrom (by rw [e_kk, Int.toNat_natCast] at hd; exact hd)) yi_X5_copyFrom ml_X6_310 (by rw [hR]; decide) hw hA [1, 2, 3, 4, 5, 6, 7, 8, 9, 10, 11, 12, 13, 15, 16, 17, 18, 19, 20, 21, 22, 23, 24, 25, 26, 27] [0, 14] rfl (by decide) 0 rfl rfl rfl rfl hl.1 (lv_room (Nat.le_of_ble_eq_true rfl)) dX6_undo_47 ⟨by rw [hR]; exact Nat.zero_le _, by rw [hR]; exact Nat.zero_le _⟩ (fun u_47 H locs hu_47 hw => ?_)
  have hw : qw D A s.heap ([o6C x a b ap (lat - 1) (und - 1)] ++ [((x 1), .inl (cS, 10, .inr (.inr (.inr (.inr (fun i => some (aH i 0)))))))] ++ stW a cI (cH kk) ++ stW (aH kk) cI (cH kk) ++ (HPx 10 aH cI cH kk)) H locs := hw
  refine lv_aload_n hx hb dX6_undo_50 rfl (lv_at hl 0 rfl) ?_
  refine q_get hx hb hts hown hK hw.1 ci_X6 0 rfl 5 (by decide) fl_X6_125 rfl dX6_undo_51 ?_
  have hw : qw D A s.heap ([o6C x a b ap (lat - 1) (und - 1)] ++ stW a cI (cH kk) ++ [((x 1), .inl (cS, 10, .inr (.inr (.inr (.inr (fun i => some (aH i 0)))))))] ++ stW (aH kk) cI (cH kk) ++ (HPx 10 aH cI cH kk)) H locs := hw.subR [0, 2, 3, 4, 5, 6, 7, 8, 9, 10, 11, 12, 13, 14, 1, 15, 16, 17, 18, 19, 20, 21, 22, 23, 24, 25, 26, 27] (by decide) rfl
  exact hret (cH kk) H locs 54 ls (by rw [e_kk, Int.toNat_natCast]) (by exact hw.perm (hp_b h_kk)) dX6_undo_54

set_option maxHeartbeats 4000000 in
set_option maxRecDepth 100000 in
theorem c_X6_saveSnapshot_no (slot : Int) (hr : rg slot) (hn : ¬ (0 ≤ slot ∧ slot ≤ 1)) : qP l D (tyG cI cB cZ cS cJ) yX6_saveSnapshot cX6_saveSnapshot 2 (Option.some FieldType.boolean) 0 0 [.ref (x 0), .int (iI slot)] [((x 0), .inr (6, [.ref (ap 0), .ref (b 0), .ref (a 0), .ref (x 1), .int (iI lat), .int (iI und), .ref (x 2), .ref (x 3), .ref (x 4), .ref (x 6)]))] (some (.int (iI 0))) := by
  refine qP_enter (by decide) (Nat.le_of_ble_eq_true rfl) (nar_z (Or.inl rfl)) (fun p e R s m args below meth c Q ls X hR hP hl hret => ?_)
  obtain ⟨hx, hb, hml, hown, hts, hK⟩ := X
  have hl : lv_has ls 2 [(0, .ref (x 0)), (1, .int (iI slot))] := hl
  refine lv_iload_n hx hb dX6_saveSnapshot_0 rfl (lv_at hl 1 rfl) ?_
  refine q_if_lt (tgt := 9) hx hb dX6_saveSnapshot_1 (by decide) (by omega) (fun c_1 => ?_) (fun c_1 => ?_)
  · refine q_iconst hx hb dX6_saveSnapshot_9 ?_
    exact q_ret (hret 10 ls dX6_saveSnapshot_10) (by first | rfl | omega)
  · refine lv_iload_n hx hb dX6_saveSnapshot_4 rfl (lv_at hl 1 rfl) ?_
    refine q_iconst hx hb dX6_saveSnapshot_5 ?_
    refine q_icmp_lt (tgt := 11) hx hb dX6_saveSnapshot_6 (by decide) (by omega) (fun c_6 => absurd c_6 (by omega)) (fun c_6 => ?_)
    refine q_iconst hx hb dX6_saveSnapshot_9 ?_
    exact q_ret (hret 10 ls dX6_saveSnapshot_10) (by first | rfl | omega)

set_option maxHeartbeats 4000000 in
set_option maxRecDepth 100000 in
theorem c_X6_saveSnapshot (slot : Int) (hsl : 0 ≤ slot ∧ slot ≤ 1) (hd : C 11 5 = 0 ∨ C 11 5 = 1) : qM l D (tyG cI cB cZ cS cJ) yX6_saveSnapshot cX6_saveSnapshot 2 (Option.some FieldType.boolean) 3 102 [.ref (x 0), .int (iI slot)] ([o6C x a b ap lat und] ++ stW a cI C ++ [((x 2), .inl (cS, 2, .inr (.inr (.inr (.inr (fun i => some (aV i 0))))))), ((x 3), .inl (cZ, 2, .inl (ai svd)))] ++ (HP 2 aV cI cV)) (fun u : Unit => True) (fun u => some (.int (iI 1))) (fun u => ([o6C x a b ap lat und] ++ stW a cI C ++ [((x 2), .inl (cS, 2, .inr (.inr (.inr (.inr (fun i => some (aV i 0))))))), ((x 3), .inl (cZ, 2, .inl (ai (uI svd slot 1))))] ++ (HP 2 aV cI (updH cV slot.toNat C)))) := by
  refine qM_enterI (val := fun u => iI 1) (by decide) (Nat.le_of_ble_eq_true rfl) (fun u hu => ⟨rfl, nar_z (Or.inr rfl)⟩) (fun p e R s m args below meth c Q ls A X hR hA hw hl hret => ?_)
  obtain ⟨hx, hb, hml, hown, hts, hK⟩ := X
  have hl : lv_has ls 2 [(0, .ref (x 0)), (1, .int (iI slot))] := hl
  suffices K : ∀ (H : Heap) (locs : List Loc), qw D A s.heap ([o6C x a b ap lat und] ++ stW a cI C ++ [((x 2), .inl (cS, 2, .inr (.inr (.inr (.inr (fun i => some (aV i 0))))))), ((x 3), .inl (cZ, 2, .inl (ai svd)))] ++ (HP 2 aV cI cV)) H locs → W p l e R s m args below meth c H locs 0 0 Q (F0 m 0 ls []) from K s.heap [] hw
  clear hw
  intro H locs hw
  refine lv_iload_n hx hb dX6_saveSnapshot_0 rfl (lv_at hl 1 rfl) ?_
  refine q_if_lt (tgt := 9) hx hb dX6_saveSnapshot_1 (by decide) (by omega) (fun c_1 => absurd c_1 (by omega)) (fun c_1 => ?_)
  refine lv_iload_n hx hb dX6_saveSnapshot_4 rfl (lv_at hl 1 rfl) ?_
  refine q_iconst hx hb dX6_saveSnapshot_5 ?_
  refine q_icmp_lt (tgt := 11) hx hb dX6_saveSnapshot_6 (by decide) (by omega) (fun c_6 => ?_) (fun c_6 => absurd c_6 (by omega))
  refine lv_aload_n hx hb dX6_saveSnapshot_11 rfl (lv_at hl 0 rfl) ?_
  refine q_get hx hb hts hown hK hw.1 ci_X6 0 rfl 6 (by decide) fl_X6_34 rfl dX6_saveSnapshot_12 ?_
  refine lv_iload_n hx hb dX6_saveSnapshot_15 rfl (lv_at hl 1 rfl) ?_
  obtain ⟨kk, e_kk, h_kk⟩ : ∃ kk : Nat, slot = (kk : Int) ∧ kk < 2 := ⟨(slot).toNat, by omega, by omega⟩
  subst e_kk
  refine q_aald hx hb hK hw.1 14 rfl rfl kk rfl h_kk (by decide) rfl dX6_saveSnapshot_16 ?_
  have hw : qw D A s.heap ([o6C x a b ap lat und] ++ stW a cI C ++ [((x 2), .inl (cS, 2, .inr (.inr (.inr (.inr (fun i => some (aV i 0))))))), ((x 3), .inl (cZ, 2, .inl (ai svd)))] ++ stW (aV kk) cI (cV kk) ++ (HPx 2 aV cI cV kk)) H locs := hw.perm (hp_o h_kk)
  refine lv_aload_n hx hb dX6_saveSnapshot_17 rfl (lv_at hl 0 rfl) ?_
  refine q_get hx hb hts hown hK hw.1 ci_X6 0 rfl 2 (by decide) fl_X6_26 rfl dX6_saveSnapshot_18 ?_
  refine q_callMR (As := [.ref (a 0)]) (rest := []) (wr := [((x 0), .inr (6, [.ref (ap 0), .ref (b 0), .ref (a 0), .ref (x 1), .int (iI lat), .int (iI und), .ref (x 2), .ref (x 3), .ref (x 4), .ref (x 6)])), ((x 2), .inl (cS, 2, .inr (.inr (.inr (.inr (fun i => some (aV i 0))))))), ((x 3), .inl (cZ, 2, .inl (ai svd)))]) hx hb hml hown hts hK (c_X5_copyFrom (by exact hd)) yi_X5_copyFrom ml_X6_310 (by rw [hR]; decide) hw hA [16, 17, 18, 19, 20, 21, 22, 23, 24, 25, 26, 27, 28, 1, 2, 3, 4, 5, 6, 7, 8, 9, 10, 11, 12, 13] [0, 14, 15] rfl (by decide) 0 rfl rfl rfl rfl hl.1 (lv_room (Nat.le_of_ble_eq_true rfl)) dX6_saveSnapshot_21 ⟨by rw [hR]; exact Nat.zero_le _, by rw [hR]; exact Nat.zero_le _⟩ (fun u_21 H locs hu_21 hw => ?_)
  have hw : qw D A s.heap ([o6C x a b ap lat und] ++ [((x 2), .inl (cS, 2, .inr (.inr (.inr (.inr (fun i => some (aV i 0))))))), ((x 3), .inl (cZ, 2, .inl (ai svd)))] ++ stW (aV kk) cI C ++ stW a cI C ++ (HPx 2 aV cI cV kk)) H locs := hw
  refine lv_aload_n hx hb dX6_saveSnapshot_24 rfl (lv_at hl 0 rfl) ?_
  refine q_get hx hb hts hown hK hw.1 ci_X6 0 rfl 7 (by decide) fl_X6_37 rfl dX6_saveSnapshot_25 ?_
  refine lv_iload_n hx hb dX6_saveSnapshot_28 rfl (lv_at hl 1 rfl) ?_
  refine q_iconst hx hb dX6_saveSnapshot_29 ?_
  refine q_zast hx hb hK hw 2 2 rfl rfl (by first | exact Or.inl rfl | exact Or.inr rfl | omega) (by omega) dX6_saveSnapshot_30 (fun H locs hw => ?_)
  have hw : qw D A s.heap ([o6C x a b ap lat und] ++ [((x 2), .inl (cS, 2, .inr (.inr (.inr (.inr (fun i => some (aV i 0))))))), ((x 3), .inl (cZ, 2, .inl (ai (uI svd ((kk : Int)) 1))))] ++ stW (aV kk) cI C ++ stW a cI C ++ (HPx 2 aV cI cV kk)) H locs := hw
  refine q_iconst hx hb dX6_saveSnapshot_31 ?_
  have hw : qw D A s.heap ([o6C x a b ap lat und] ++ stW a cI C ++ [((x 2), .inl (cS, 2, .inr (.inr (.inr (.inr (fun i => some (aV i 0))))))), ((x 3), .inl (cZ, 2, .inl (ai (uI svd ((kk : Int)) 1))))] ++ stW (aV kk) cI C ++ (HPx 2 aV cI cV kk)) H locs := hw.subR [0, 16, 17, 18, 19, 20, 21, 22, 23, 24, 25, 26, 27, 28, 1, 2, 3, 4, 5, 6, 7, 8, 9, 10, 11, 12, 13, 14, 15] (by decide) rfl
  exact hret () H locs 32 ls (trivial) (by rw [Int.toNat_natCast]; exact hw.perm (hp_i h_kk)) dX6_saveSnapshot_32

set_option maxHeartbeats 4000000 in
set_option maxRecDepth 100000 in
theorem c_X6_restoreSnapshot_no (slot : Int) (hr : rg slot) (hn : ¬ (0 ≤ slot ∧ slot ≤ 1 ∧ svd slot ≠ 0)) (hsv : ∀ i : Int, svd i = 0 ∨ svd i = 1) : qP l D (tyG cI cB cZ cS cJ) yX6_restoreSnapshot cX6_restoreSnapshot 2 (Option.some FieldType.boolean) 0 0 [.ref (x 0), .int (iI slot)] [((x 0), .inr (6, [.ref (ap 0), .ref (b 0), .ref (a 0), .ref (x 1), .int (iI lat), .int (iI und), .ref (x 2), .ref (x 3), .ref (x 4), .ref (x 6)])), ((x 3), .inl (cZ, 2, .inl (ai svd)))] (some (.int (iI 0))) := by
  refine qP_enter (by decide) (Nat.le_of_ble_eq_true rfl) (nar_z (Or.inl rfl)) (fun p e R s m args below meth c Q ls X hR hP hl hret => ?_)
  obtain ⟨hx, hb, hml, hown, hts, hK⟩ := X
  have hl : lv_has ls 2 [(0, .ref (x 0)), (1, .int (iI slot))] := hl
  refine lv_iload_n hx hb dX6_restoreSnapshot_0 rfl (lv_at hl 1 rfl) ?_
  refine q_if_lt (tgt := 18) hx hb dX6_restoreSnapshot_1 (by decide) (by omega) (fun c_1 => ?_) (fun c_1 => ?_)
  · refine q_iconst hx hb dX6_restoreSnapshot_18 ?_
    exact q_ret (hret 19 ls dX6_restoreSnapshot_19) (by first | rfl | omega)
  · refine lv_iload_n hx hb dX6_restoreSnapshot_4 rfl (lv_at hl 1 rfl) ?_
    refine q_iconst hx hb dX6_restoreSnapshot_5 ?_
    refine q_icmp_ge (tgt := 18) hx hb dX6_restoreSnapshot_6 (by decide) (by omega) (fun c_6 => ?_) (fun c_6 => ?_)
    · refine q_iconst hx hb dX6_restoreSnapshot_18 ?_
      exact q_ret (hret 19 ls dX6_restoreSnapshot_19) (by first | rfl | omega)
    · refine lv_aload_n hx hb dX6_restoreSnapshot_9 rfl (lv_at hl 0 rfl) ?_
      refine q_get hx hb hts hown hK hP ci_X6 0 rfl 7 (by decide) fl_X6_37 rfl dX6_restoreSnapshot_10 ?_
      refine lv_iload_n hx hb dX6_restoreSnapshot_13 rfl (lv_at hl 1 rfl) ?_
      have q_v := hsv slot
      refine q_zald hx hb hK hP 1 2 rfl rfl (z := slot) (v := (svd slot)) (by omega) rfl dX6_restoreSnapshot_14 ?_
      refine q_if_ne (tgt := 20) hx hb dX6_restoreSnapshot_15 (by decide) (by omega) (fun c_15 => absurd c_15 (by omega)) (fun c_15 => ?_)
      refine q_iconst hx hb dX6_restoreSnapshot_18 ?_
      exact q_ret (hret 19 ls dX6_restoreSnapshot_19) (by first | rfl | omega)

set_option maxHeartbeats 4000000 in
set_option maxRecDepth 100000 in
theorem c_X6_restoreSnapshot (slot : Int) (hsl : 0 ≤ slot ∧ slot ≤ 1) (hsv : ∀ i : Int, svd i = 0 ∨ svd i = 1) (hv1 : svd slot ≠ 0) (hd : cV slot.toNat 11 5 = 0 ∨ cV slot.toNat 11 5 = 1) : qM l D (tyG cI cB cZ cS cJ) yX6_restoreSnapshot cX6_restoreSnapshot 2 (Option.some FieldType.boolean) 3 102 [.ref (x 0), .int (iI slot)] ([o6C x a b ap lat und] ++ stW a cI C ++ [((x 2), .inl (cS, 2, .inr (.inr (.inr (.inr (fun i => some (aV i 0))))))), ((x 3), .inl (cZ, 2, .inl (ai svd)))] ++ (HP 2 aV cI cV)) (fun u : (Nat → Int → Int) => (u = cV slot.toNat)) (fun u => some (.int (iI 1))) (fun u => ([o6C x a b ap lat 0] ++ stW a cI u ++ [((x 2), .inl (cS, 2, .inr (.inr (.inr (.inr (fun i => some (aV i 0))))))), ((x 3), .inl (cZ, 2, .inl (ai svd)))] ++ (HP 2 aV cI cV))) := by
  refine qM_enterI (val := fun u => iI 1) (by decide) (Nat.le_of_ble_eq_true rfl) (fun u hu => ⟨rfl, nar_z (Or.inr rfl)⟩) (fun p e R s m args below meth c Q ls A X hR hA hw hl hret => ?_)
  obtain ⟨hx, hb, hml, hown, hts, hK⟩ := X
  have hl : lv_has ls 2 [(0, .ref (x 0)), (1, .int (iI slot))] := hl
  suffices K : ∀ (H : Heap) (locs : List Loc), qw D A s.heap ([o6C x a b ap lat und] ++ stW a cI C ++ [((x 2), .inl (cS, 2, .inr (.inr (.inr (.inr (fun i => some (aV i 0))))))), ((x 3), .inl (cZ, 2, .inl (ai svd)))] ++ (HP 2 aV cI cV)) H locs → W p l e R s m args below meth c H locs 0 0 Q (F0 m 0 ls []) from K s.heap [] hw
  clear hw
  intro H locs hw
  refine lv_iload_n hx hb dX6_restoreSnapshot_0 rfl (lv_at hl 1 rfl) ?_
  refine q_if_lt (tgt := 18) hx hb dX6_restoreSnapshot_1 (by decide) (by omega) (fun c_1 => absurd c_1 (by omega)) (fun c_1 => ?_)
  refine lv_iload_n hx hb dX6_restoreSnapshot_4 rfl (lv_at hl 1 rfl) ?_
  refine q_iconst hx hb dX6_restoreSnapshot_5 ?_
  refine q_icmp_ge (tgt := 18) hx hb dX6_restoreSnapshot_6 (by decide) (by omega) (fun c_6 => absurd c_6 (by omega)) (fun c_6 => ?_)
  refine lv_aload_n hx hb dX6_restoreSnapshot_9 rfl (lv_at hl 0 rfl) ?_
  refine q_get hx hb hts hown hK hw.1 ci_X6 0 rfl 7 (by decide) fl_X6_37 rfl dX6_restoreSnapshot_10 ?_
  refine lv_iload_n hx hb dX6_restoreSnapshot_13 rfl (lv_at hl 1 rfl) ?_
  have q_v := hsv slot
  refine q_zald hx hb hK hw.1 15 2 rfl rfl (z := slot) (v := (svd slot)) (by omega) rfl dX6_restoreSnapshot_14 ?_
  refine q_if_ne (tgt := 20) hx hb dX6_restoreSnapshot_15 (by decide) (by omega) (fun c_15 => ?_) (fun c_15 => absurd c_15 (by omega))
  refine lv_aload_n hx hb dX6_restoreSnapshot_20 rfl (lv_at hl 0 rfl) ?_
  refine q_get hx hb hts hown hK hw.1 ci_X6 0 rfl 2 (by decide) fl_X6_26 rfl dX6_restoreSnapshot_21 ?_
  refine lv_aload_n hx hb dX6_restoreSnapshot_24 rfl (lv_at hl 0 rfl) ?_
  refine q_get hx hb hts hown hK hw.1 ci_X6 0 rfl 6 (by decide) fl_X6_34 rfl dX6_restoreSnapshot_25 ?_
  refine lv_iload_n hx hb dX6_restoreSnapshot_28 rfl (lv_at hl 1 rfl) ?_
  obtain ⟨kk, e_kk, h_kk⟩ : ∃ kk : Nat, slot = (kk : Int) ∧ kk < 2 := ⟨(slot).toNat, by omega, by omega⟩
  subst e_kk
  refine q_aald hx hb hK hw.1 14 rfl rfl kk rfl h_kk (by decide) rfl dX6_restoreSnapshot_29 ?_
  have hw : qw D A s.heap ([o6C x a b ap lat und] ++ stW a cI C ++ [((x 2), .inl (cS, 2, .inr (.inr (.inr (.inr (fun i => some (aV i 0))))))), ((x 3), .inl (cZ, 2, .inl (ai svd)))] ++ stW (aV kk) cI (cV kk) ++ (HPx 2 aV cI cV kk)) H locs := hw.perm (hp_o h_kk)
  refine q_callMR (As := [.ref (aV kk 0)]) (rest := []) (wr := [((x 0), .inr (6, [.ref (ap 0), .ref (b 0), .ref (a 0), .ref (x 1), .int (iI lat), .int (iI und), .ref (x 2), .ref (x 3), .ref (x 4), .ref (x 6)])), ((x 2), .inl (cS, 2, .inr (.inr (.inr (.inr (fun i => some (aV i 0))))))), ((x 3), .inl (cZ, 2, .inl (ai svd)))]) hx hb hml hown hts hK (c_X5_copyFrom (by rw [Int.toNat_natCast] at hd; exact hd)) yi_X5_copyFrom ml_X6_310 (by rw [hR]; decide) hw hA [1, 2, 3, 4, 5, 6, 7, 8, 9, 10, 11, 12, 13, 16, 17, 18, 19, 20, 21, 22, 23, 24, 25, 26, 27, 28] [0, 14, 15] rfl (by decide) 0 rfl rfl rfl rfl hl.1 (lv_room (Nat.le_of_ble_eq_true rfl)) dX6_restoreSnapshot_30 ⟨by rw [hR]; exact Nat.zero_le _, by rw [hR]; exact Nat.zero_le _⟩ (fun u_30 H locs hu_30 hw => ?_)
  have hw : qw D A s.heap ([o6C x a b ap lat und] ++ [((x 2), .inl (cS, 2, .inr (.inr (.inr (.inr (fun i => some (aV i 0))))))), ((x 3), .inl (cZ, 2, .inl (ai svd)))] ++ stW a cI (cV kk) ++ stW (aV kk) cI (cV kk) ++ (HPx 2 aV cI cV kk)) H locs := hw
  refine lv_aload_n hx hb dX6_restoreSnapshot_33 rfl (lv_at hl 0 rfl) ?_
  refine q_iconst hx hb dX6_restoreSnapshot_34 ?_
  refine q_put hx hb hts hown hK hw ci_X6 0 rfl 5 (by decide) fl_X6_125 rfl rfl rfl (Nat.le_of_ble_eq_true rfl) dX6_restoreSnapshot_35 (fun H locs hw => ?_)
  have hw : qw D A s.heap ([o6C x a b ap lat 0] ++ [((x 2), .inl (cS, 2, .inr (.inr (.inr (.inr (fun i => some (aV i 0))))))), ((x 3), .inl (cZ, 2, .inl (ai svd)))] ++ stW a cI (cV kk) ++ stW (aV kk) cI (cV kk) ++ (HPx 2 aV cI cV kk)) H locs := hw
  refine q_iconst hx hb dX6_restoreSnapshot_38 ?_
  have hw : qw D A s.heap ([o6C x a b ap lat 0] ++ stW a cI (cV kk) ++ [((x 2), .inl (cS, 2, .inr (.inr (.inr (.inr (fun i => some (aV i 0))))))), ((x 3), .inl (cZ, 2, .inl (ai svd)))] ++ stW (aV kk) cI (cV kk) ++ (HPx 2 aV cI cV kk)) H locs := hw.subR [0, 3, 4, 5, 6, 7, 8, 9, 10, 11, 12, 13, 14, 15, 1, 2, 16, 17, 18, 19, 20, 21, 22, 23, 24, 25, 26, 27, 28] (by decide) rfl
  exact hret (cV kk) H locs 39 ls (by rw [Int.toNat_natCast]) (by exact hw.perm (hp_b h_kk)) dX6_restoreSnapshot_39
