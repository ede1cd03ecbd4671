variable {l : Launch} {z : Nat → Nat} {D : va_G} {cI cB cZ cS cJ : ClassId} {T C E : Nat → Int → Int} {x a b ap b2 : Nat → Nat} {lat und pf pm pt pl pw f1 f2 f3 f4 f5 f6 hn gc stop sinp srea spag sjob sdup : Int} {ht e0 e1 e2 e3 e4 e5 e6 e7 e8 e9 : Int → Int}
set_option maxHeartbeats 4000000 in
set_option maxRecDepth 100000 in
theorem c_X6_isSheet (k : Int) (hn : 0 ≤ T 8 0 ∧ T 8 0 ≤ 40) (hk : rg k) : qP l D (tyG cI cB cZ cS cJ) yX6_isSheet cX6_isSheet 2 (Option.some FieldType.boolean) 0 0 [.ref (x 0), .int (iI k)] [((x 0), .inr (6, [.ref (ap 0), .ref (b 0), .ref (a 0), .ref (x 1), .int (iI lat), .int (iI und), .ref (x 2), .ref (x 3), .ref (x 4), .ref (x 6)])), ((b 0), .inr (4, [.ref (b 1), .ref (b 2), .ref (b 3), .ref (b 4), .ref (b 5), .ref (b 6), .ref (b 7), .ref (b 8), .int (iI (T 8 0)), .int (iI (T 8 1)), .int (iI (T 8 2)), .int (iI (T 8 3))]))] (some (.int (iI (bI (0 ≤ k ∧ k < T 8 0))))) := by
  refine qP_enter (by decide) (Nat.le_of_ble_eq_true rfl) (nar_z bI_r) (fun p e R s m args below meth c Q ls X hR hP hl hret => ?_)
  obtain ⟨hx, hb, hml, hown, hts, hK⟩ := X
  have hl : lv_has ls 2 [(0, .ref (x 0)), (1, .int (iI k))] := hl
  refine lv_iload_n hx hb dX6_isSheet_0 rfl (lv_at hl 1 rfl) ?_
  refine q_if_lt (tgt := 19) hx hb dX6_isSheet_1 (by decide) (by omega) (fun c_1 => ?_) (fun c_1 => ?_)
  · refine q_iconst hx hb dX6_isSheet_19 ?_
    exact q_ret (hret 20 ls dX6_isSheet_20) (by first | exact (bI_t (by omega)).symm | exact (bI_f (by omega)).symm)
  · refine lv_iload_n hx hb dX6_isSheet_4 rfl (lv_at hl 1 rfl) ?_
    refine lv_aload_n hx hb dX6_isSheet_5 rfl (lv_at hl 0 rfl) ?_
    refine q_get hx hb hts hown hK hP ci_X6 0 rfl 1 (by decide) fl_X6_19 rfl dX6_isSheet_6 ?_
    refine q_get hx hb hts hown hK hP ci_X4 1 rfl 8 (by decide) fl_X6_90 rfl dX6_isSheet_9 ?_
    refine q_icmp_ge (tgt := 19) hx hb dX6_isSheet_12 (by decide) (by omega) (fun c_12 => ?_) (fun c_12 => ?_)
    · refine q_iconst hx hb dX6_isSheet_19 ?_
      exact q_ret (hret 20 ls dX6_isSheet_20) (by first | exact (bI_t (by omega)).symm | exact (bI_f (by omega)).symm)
    · refine q_iconst hx hb dX6_isSheet_15 ?_
      refine lv_goto (tgt := 20) hx hb dX6_isSheet_16 (by decide) ?_
      exact q_ret (hret 20 ls dX6_isSheet_20) (by first | exact (bI_t (by omega)).symm | exact (bI_f (by omega)).symm)

set_option maxHeartbeats 4000000 in
set_option maxRecDepth 100000 in
theorem c_X6_isStopped (hr : rg srea) : qP l D (tyG cI cB cZ cS cJ) yX6_isStopped cX6_isStopped 1 (Option.some FieldType.boolean) 0 0 [.ref (x 0)] [((x 0), .inr (6, [.ref (ap 0), .ref (b 0), .ref (a 0), .ref (x 1), .int (iI lat), .int (iI und), .ref (x 2), .ref (x 3), .ref (x 4), .ref (x 6)])), ((a 0), .inr (5, [.ref (a 1), .ref (a 2), .ref (a 3), .ref (a 4), .ref (a 5), .ref (a 6), .ref (a 7), .ref (a 8), .ref (a 9), .ref (a 10), .ref (a 11), .int (iI stop), .int (iI sinp), .int (iI srea), .int (iI spag), .int (iI sjob), .int (iI sdup)]))] (some (.int (iI (bI (srea ≠ 0))))) := by
  refine qP_enter (by decide) (Nat.le_of_ble_eq_true rfl) (nar_z bI_r) (fun p e R s m args below meth c Q ls X hR hP hl hret => ?_)
  obtain ⟨hx, hb, hml, hown, hts, hK⟩ := X
  have hl : lv_has ls 1 [(0, .ref (x 0))] := hl
  refine lv_aload_n hx hb dX6_isStopped_0 rfl (lv_at hl 0 rfl) ?_
  refine q_get hx hb hts hown hK hP ci_X6 0 rfl 2 (by decide) fl_X6_26 rfl dX6_isStopped_1 ?_
  refine q_get hx hb hts hown hK hP ci_X5 1 rfl 13 (by decide) fl_X6_100 rfl dX6_isStopped_4 ?_
  refine q_if_eq (tgt := 14) hx hb dX6_isStopped_7 (by decide) (by omega) (fun c_7 => ?_) (fun c_7 => ?_)
  · refine q_iconst hx hb dX6_isStopped_14 ?_
    exact q_ret (hret 15 ls dX6_isStopped_15) (by first | exact (bI_t (by omega)).symm | exact (bI_f (by omega)).symm)
  · refine q_iconst hx hb dX6_isStopped_10 ?_
    refine lv_goto (tgt := 15) hx hb dX6_isStopped_11 (by decide) ?_
    exact q_ret (hret 15 ls dX6_isStopped_15) (by first | exact (bI_t (by omega)).symm | exact (bI_f (by omega)).symm)

set_option maxHeartbeats 4000000 in
set_option maxRecDepth 100000 in
theorem c_X6_stackSize : qP l D (tyG cI cB cZ cS cJ) yX6_stackSize cX6_stackSize 1 (Option.some FieldType.int) 0 0 [.ref (x 0)] [((x 0), .inr (6, [.ref (ap 0), .ref (b 0), .ref (a 0), .ref (x 1), .int (iI lat), .int (iI und), .ref (x 2), .ref (x 3), .ref (x 4), .ref (x 6)])), ((b 0), .inr (4, [.ref (b 1), .ref (b 2), .ref (b 3), .ref (b 4), .ref (b 5), .ref (b 6), .ref (b 7), .ref (b 8), .int (iI (T 8 0)), .int (iI (T 8 1)), .int (iI (T 8 2)), .int (iI (T 8 3))])), ((a 0), .inr (5, [.ref (a 1), .ref (a 2), .ref (a 3), .ref (a 4), .ref (a 5), .ref (a 6), .ref (a 7), .ref (a 8), .ref (a 9), .ref (a 10), .ref (a 11), .int (iI stop), .int (iI sinp), .int (iI srea), .int (iI spag), .int (iI sjob), .int (iI sdup)]))] (some (.int (iI (T 8 0 - stop)))) := by
  refine qP_enter (by decide) (Nat.le_of_ble_eq_true rfl) (nar_i _) (fun p e R s m args below meth c Q ls X hR hP hl hret => ?_)
  obtain ⟨hx, hb, hml, hown, hts, hK⟩ := X
  have hl : lv_has ls 1 [(0, .ref (x 0))] := hl
  refine lv_aload_n hx hb dX6_stackSize_0 rfl (lv_at hl 0 rfl) ?_
  refine q_get hx hb hts hown hK hP ci_X6 0 rfl 1 (by decide) fl_X6_19 rfl dX6_stackSize_1 ?_
  refine q_get hx hb hts hown hK hP ci_X4 1 rfl 8 (by decide) fl_X6_90 rfl dX6_stackSize_4 ?_
  refine lv_aload_n hx hb dX6_stackSize_7 rfl (lv_at hl 0 rfl) ?_
  refine q_get hx hb hts hown hK hP ci_X6 0 rfl 2 (by decide) fl_X6_26 rfl dX6_stackSize_8 ?_
  refine q_get hx hb hts hown hK hP ci_X5 2 rfl 11 (by decide) fl_X6_167 rfl dX6_stackSize_11 ?_
  refine q_isub hx hb dX6_stackSize_14 ?_
  exact q_ret (hret 15 ls dX6_stackSize_15) (by first | rfl | omega)

set_option maxHeartbeats 4000000 in
set_option maxRecDepth 100000 in
theorem c_X6_firstInPath : qP l D (tyG cI cB cZ cS cJ) yX6_firstInPath cX6_firstInPath 1 (Option.some FieldType.int) 0 0 [.ref (x 0)] [((x 0), .inr (6, [.ref (ap 0), .ref (b 0), .ref (a 0), .ref (x 1), .int (iI lat), .int (iI und), .ref (x 2), .ref (x 3), .ref (x 4), .ref (x 6)])), ((a 0), .inr (5, [.ref (a 1), .ref (a 2), .ref (a 3), .ref (a 4), .ref (a 5), .ref (a 6), .ref (a 7), .ref (a 8), .ref (a 9), .ref (a 10), .ref (a 11), .int (iI stop), .int (iI sinp), .int (iI srea), .int (iI spag), .int (iI sjob), .int (iI sdup)]))] (some (.int (iI (stop - sinp)))) := by
  refine qP_enter (by decide) (Nat.le_of_ble_eq_true rfl) (nar_i _) (fun p e R s m args below meth c Q ls X hR hP hl hret => ?_)
  obtain ⟨hx, hb, hml, hown, hts, hK⟩ := X
  have hl : lv_has ls 1 [(0, .ref (x 0))] := hl
  refine lv_aload_n hx hb dX6_firstInPath_0 rfl (lv_at hl 0 rfl) ?_
  refine q_get hx hb hts hown hK hP ci_X6 0 rfl 2 (by decide) fl_X6_26 rfl dX6_firstInPath_1 ?_
  refine q_get hx hb hts hown hK hP ci_X5 1 rfl 11 (by decide) fl_X6_167 rfl dX6_firstInPath_4 ?_
  refine lv_aload_n hx hb dX6_firstInPath_7 rfl (lv_at hl 0 rfl) ?_
  refine q_get hx hb hts hown hK hP ci_X6 0 rfl 2 (by decide) fl_X6_26 rfl dX6_firstInPath_8 ?_
  refine q_get hx hb hts hown hK hP ci_X5 1 rfl 12 (by decide) fl_X6_97 rfl dX6_firstInPath_11 ?_
  refine q_isub hx hb dX6_firstInPath_14 ?_
  exact q_ret (hret 15 ls dX6_firstInPath_15) (by first | rfl | omega)

set_option maxHeartbeats 4000000 in
set_option maxRecDepth 100000 in
theorem c_X6_halves (hn : 0 ≤ T 8 0 ∧ T 8 0 ≤ 40) : qP l D (tyG cI cB cZ cS cJ) yX6_halves cX6_halves 3 (Option.some FieldType.int) 0 0 [.ref (x 0)] [((x 0), .inr (6, [.ref (ap 0), .ref (b 0), .ref (a 0), .ref (x 1), .int (iI lat), .int (iI und), .ref (x 2), .ref (x 3), .ref (x 4), .ref (x 6)])), ((b 0), .inr (4, [.ref (b 1), .ref (b 2), .ref (b 3), .ref (b 4), .ref (b 5), .ref (b 6), .ref (b 7), .ref (b 8), .int (iI (T 8 0)), .int (iI (T 8 1)), .int (iI (T 8 2)), .int (iI (T 8 3))])), ((a 0), .inr (5, [.ref (a 1), .ref (a 2), .ref (a 3), .ref (a 4), .ref (a 5), .ref (a 6), .ref (a 7), .ref (a 8), .ref (a 9), .ref (a 10), .ref (a 11), .int (iI stop), .int (iI sinp), .int (iI srea), .int (iI spag), .int (iI sjob), .int (iI sdup)])), ((a 4), .inl (cI, 40, .inl (ai e3)))] (some (.int (iI (sI e3 (T 8 0))))) := by
  refine qP_enter (by decide) (Nat.le_of_ble_eq_true rfl) (nar_i _) (fun p e R s m args below meth c Q ls X hR hP hl hret => ?_)
  obtain ⟨hx, hb, hml, hown, hts, hK⟩ := X
  have hl : lv_has ls 3 [(0, .ref (x 0))] := hl
  refine q_iconst hx hb dX6_halves_0 ?_
  refine lv_istore_n (lv' := [(1, .int (iI 0)), (0, .ref (x 0))]) hx hb dX6_halves_1 rfl hl (by decide) rfl (fun ls hl => ?_)
  refine q_iconst hx hb dX6_halves_2 ?_
  refine lv_istore_n (lv' := [(2, .int (iI 0)), (1, .int (iI 0)), (0, .ref (x 0))]) hx hb dX6_halves_3 rfl hl (by decide) rfl (fun ls hl => ?_)
  have loop_4 : ∀ (fu : Nat) (c1 : Int) (k : Int) (ls : Array Slot), (T 8 0 - k).toNat = fu → (c1 = sI e3 k) → (0 ≤ k ∧ k ≤ T 8 0) → lv_has ls 3 [(0, .ref (x 0)), (1, .int (iI c1)), (2, .int (iI k))] → W p l e R s m args below meth c s.heap [] 0 0 Q (F0 m 4 ls []) := by
    intro fu
    induction fu using Nat.strongRecOn with
    | ind fu ih =>
    intro c1 k ls hn_4 h_c h_k hl
    refine lv_iload_n hx hb dX6_halves_4 rfl (lv_at hl 2 rfl) ?_
    refine lv_aload_n hx hb dX6_halves_5 rfl (lv_at hl 0 rfl) ?_
    refine q_get hx hb hts hown hK hP ci_X6 0 rfl 1 (by decide) fl_X6_19 rfl dX6_halves_6 ?_
    refine q_get hx hb hts hown hK hP ci_X4 1 rfl 8 (by decide) fl_X6_90 rfl dX6_halves_9 ?_
    refine q_icmp_ge (tgt := 33) hx hb dX6_halves_12 (by decide) (by omega) (fun c_12 => ?_) (fun c_12 => ?_)
    · refine lv_iload_n hx hb dX6_halves_33 rfl (lv_at hl 1 rfl) ?_
      exact q_ret (hret 34 ls dX6_halves_34) (by rw [h_c, show k = T 8 0 by omega])
    · refine lv_iload_n hx hb dX6_halves_15 rfl (lv_at hl 1 rfl) ?_
      refine lv_aload_n hx hb dX6_halves_16 rfl (lv_at hl 0 rfl) ?_
      refine q_get hx hb hts hown hK hP ci_X6 0 rfl 2 (by decide) fl_X6_26 rfl dX6_halves_17 ?_
      refine q_get hx hb hts hown hK hP ci_X5 2 rfl 3 (by decide) fl_X6_198 rfl dX6_halves_20 ?_
      refine lv_iload_n hx hb dX6_halves_23 rfl (lv_at hl 2 rfl) ?_
      refine q_iald hx hb hK hP 3 0 rfl rfl (z := k) (v := (e3 k)) (by omega) rfl dX6_halves_24 ?_
      refine q_iadd hx hb dX6_halves_25 ?_
      refine lv_istore_n (lv' := [(1, .int (iI (c1 + e3 k))), (0, .ref (x 0)), (2, .int (iI k))]) hx hb dX6_halves_26 rfl hl (by decide) rfl (fun ls hl => ?_)
      refine lv_iinc (v := iI (k + 1)) (lv' := [(2, .int (iI (k + 1))), (1, .int (iI (c1 + e3 k))), (0, .ref (x 0))]) hx hb dX6_halves_27 hl (k := 2) rfl (iI_add _ _) (by decide) rfl (fun ls hl => ?_)
      refine lv_goto (tgt := 4) hx hb dX6_halves_30 (by decide) ?_
      exact ih _ (by omega) (c1 + e3 k) (k + 1) ls rfl (by rw [h_c]; exact (sI_s _ (by omega)).symm) (by first | omega | assumption | rfl) (lv_sub hl [2, 1, 0] rfl)
  exact loop_4 _ (0) (0) ls rfl (by rfl) (by first | omega | assumption | rfl) (lv_sub hl [2, 1, 0] rfl)

set_option maxHeartbeats 4000000 in
set_option maxRecDepth 100000 in
theorem c_X6_isPage_0 (sh : Int) (sd : Int) (hn : 0 ≤ T 8 0 ∧ T 8 0 ≤ 40) (hs : 0 ≤ sh ∧ sh < T 8 0) (hr : rg (T 5 sh) ∧ rg (T 3 sh) ∧ rg (T 4 sh) ∧ rg (e8 3) ∧ 0 ≤ sdup ∧ sdup ≤ 1) (hsd : sd = 0) : qP l D (tyG cI cB cZ cS cJ) yX6_isPage cX6_isPage 3 (Option.some FieldType.boolean) 1 22 [.ref (x 0), .int (iI sh), .int (iI sd)] [((x 0), .inr (6, [.ref (ap 0), .ref (b 0), .ref (a 0), .ref (x 1), .int (iI lat), .int (iI und), .ref (x 2), .ref (x 3), .ref (x 4), .ref (x 6)])), ((b 0), .inr (4, [.ref (b 1), .ref (b 2), .ref (b 3), .ref (b 4), .ref (b 5), .ref (b 6), .ref (b 7), .ref (b 8), .int (iI (T 8 0)), .int (iI (T 8 1)), .int (iI (T 8 2)), .int (iI (T 8 3))])), ((b 4), .inl (cI, 40, .inl (ai (T 3)))), ((b 5), .inl (cI, 40, .inl (ai (T 4)))), ((b 6), .inl (cI, 40, .inl (ai (T 5)))), ((a 0), .inr (5, [.ref (a 1), .ref (a 2), .ref (a 3), .ref (a 4), .ref (a 5), .ref (a 6), .ref (a 7), .ref (a 8), .ref (a 9), .ref (a 10), .ref (a 11), .int (iI stop), .int (iI sinp), .int (iI srea), .int (iI spag), .int (iI sjob), .int (iI sdup)])), ((a 9), .inl (cI, 4, .inl (ai e8)))] (some (.int (iI (bI (T 5 sh = -1 ∧ e8 3 ≤ T 3 sh))))) := by
  refine qP_enter (by decide) (Nat.le_of_ble_eq_true rfl) (nar_z bI_r) (fun p e R s m args below meth c Q ls X hR hP hl hret => ?_)
  obtain ⟨hx, hb, hml, hown, hts, hK⟩ := X
  have hl : lv_has ls 3 [(0, .ref (x 0)), (1, .int (iI sh)), (2, .int (iI sd))] := hl
  refine lv_aload_n hx hb dX6_isPage_0 rfl (lv_at hl 0 rfl) ?_
  refine lv_iload_n hx hb dX6_isPage_1 rfl (lv_at hl 1 rfl) ?_
  refine q_callP (As := [.int (iI sh)]) (rest := []) hx hb hml hown hts hK (c_X6_isSheet (sh) (by first | omega | assumption) (by first | omega | assumption)) yi_X6_isSheet ml_X6_134 (by rw [hR]; decide) (hP.sub [0, 1] rfl) 0 rfl rfl rfl rfl hl.1 (lv_room (Nat.le_of_ble_eq_true rfl)) dX6_isPage_2 ⟨by rw [hR]; exact Nat.zero_le _, by rw [hR]; exact Nat.zero_le _⟩ ?_
  refine q_ifb_eq (tgt := 36) hx hb dX6_isPage_5 (by decide) (fun c_5 => ?_) (fun c_5 => ?_)
  · refine q_iconst hx hb dX6_isPage_36 ?_
    exact q_ret (hret 37 ls dX6_isPage_37) (by first | exact (bI_t (by omega)).symm | exact (bI_f (by omega)).symm)
  · refine lv_aload_n hx hb dX6_isPage_8 rfl (lv_at hl 0 rfl) ?_
    refine q_get hx hb hts hown hK hP ci_X6 0 rfl 1 (by decide) fl_X6_19 rfl dX6_isPage_9 ?_
    refine q_get hx hb hts hown hK hP ci_X4 1 rfl 5 (by decide) fl_X6_158 rfl dX6_isPage_12 ?_
    refine lv_iload_n hx hb dX6_isPage_15 rfl (lv_at hl 1 rfl) ?_
    refine q_iald hx hb hK hP 4 0 rfl rfl (z := sh) (v := ((T 5) sh)) (by omega) rfl dX6_isPage_16 ?_
    refine q_iconst hx hb dX6_isPage_17 ?_
    refine q_icmp_ne (tgt := 36) hx hb dX6_isPage_18 (by decide) (by omega) (fun c_18 => ?_) (fun c_18 => ?_)
    · refine q_iconst hx hb dX6_isPage_36 ?_
      exact q_ret (hret 37 ls dX6_isPage_37) (by first | exact (bI_t (by omega)).symm | exact (bI_f (by omega)).symm)
    · refine lv_iload_n hx hb dX6_isPage_21 rfl (lv_at hl 2 rfl) ?_
      refine q_iconst hx hb dX6_isPage_22 ?_
      refine q_icmp_ne (tgt := 38) hx hb dX6_isPage_23 (by decide) (by omega) (fun c_23 => ?_) (fun c_23 => absurd c_23 (by omega))
      refine lv_aload_n hx hb dX6_isPage_38 rfl (lv_at hl 0 rfl) ?_
      refine q_get hx hb hts hown hK hP ci_X6 0 rfl 1 (by decide) fl_X6_19 rfl dX6_isPage_39 ?_
      refine lv_iload_n hx hb dX6_isPage_42 rfl (lv_at hl 1 rfl) ?_
      refine lv_iload_n hx hb dX6_isPage_43 rfl (lv_at hl 2 rfl) ?_
      refine q_callP (As := [.int (iI sh), .int (iI sd)]) (rest := []) hx hb hml hown hts hK (c_X4_ink (sh) (sd) (by first | omega | assumption) (by first | omega | assumption) (by first | omega | assumption)) yi_X4_ink ml_X6_259 (by rw [hR]; decide) (hP.sub [1, 2, 3] rfl) 0 rfl rfl rfl rfl hl.1 (lv_room (Nat.le_of_ble_eq_true rfl)) dX6_isPage_44 ⟨by rw [hR]; exact Nat.zero_le _, by rw [hR]; exact Nat.zero_le _⟩ ?_
      refine q_top (T 3 sh) (by subst hsd; rfl) ?_
      refine lv_aload_n hx hb dX6_isPage_47 rfl (lv_at hl 0 rfl) ?_
      refine q_get hx hb hts hown hK hP ci_X6 0 rfl 2 (by decide) fl_X6_26 rfl dX6_isPage_48 ?_
      refine q_get hx hb hts hown hK hP ci_X5 5 rfl 8 (by decide) fl_X6_130 rfl dX6_isPage_51 ?_
      refine q_iconst hx hb dX6_isPage_54 ?_
      refine q_iald hx hb hK hP 6 0 rfl rfl (z := 3) (v := (e8 3)) (by omega) rfl dX6_isPage_55 ?_
      refine q_icmp_lt (tgt := 63) hx hb dX6_isPage_56 (by decide) (by omega) (fun c_56 => ?_) (fun c_56 => ?_)
      · refine q_iconst hx hb dX6_isPage_63 ?_
        exact q_ret (hret 64 ls dX6_isPage_64) (by first | exact (bI_t (by omega)).symm | exact (bI_f (by omega)).symm)
      · refine q_iconst hx hb dX6_isPage_59 ?_
        refine lv_goto (tgt := 64) hx hb dX6_isPage_60 (by decide) ?_
        exact q_ret (hret 64 ls dX6_isPage_64) (by first | exact (bI_t (by omega)).symm | exact (bI_f (by omega)).symm)

set_option maxHeartbeats 4000000 in
set_option maxRecDepth 100000 in
theorem c_X6_isPage_1 (sh : Int) (sd : Int) (hn : 0 ≤ T 8 0 ∧ T 8 0 ≤ 40) (hs : 0 ≤ sh ∧ sh < T 8 0) (hr : rg (T 5 sh) ∧ rg (T 3 sh) ∧ rg (T 4 sh) ∧ rg (e8 3) ∧ 0 ≤ sdup ∧ sdup ≤ 1) (hsd : sd = 1) : qP l D (tyG cI cB cZ cS cJ) yX6_isPage cX6_isPage 3 (Option.some FieldType.boolean) 1 22 [.ref (x 0), .int (iI sh), .int (iI sd)] [((x 0), .inr (6, [.ref (ap 0), .ref (b 0), .ref (a 0), .ref (x 1), .int (iI lat), .int (iI und), .ref (x 2), .ref (x 3), .ref (x 4), .ref (x 6)])), ((b 0), .inr (4, [.ref (b 1), .ref (b 2), .ref (b 3), .ref (b 4), .ref (b 5), .ref (b 6), .ref (b 7), .ref (b 8), .int (iI (T 8 0)), .int (iI (T 8 1)), .int (iI (T 8 2)), .int (iI (T 8 3))])), ((b 4), .inl (cI, 40, .inl (ai (T 3)))), ((b 5), .inl (cI, 40, .inl (ai (T 4)))), ((b 6), .inl (cI, 40, .inl (ai (T 5)))), ((a 0), .inr (5, [.ref (a 1), .ref (a 2), .ref (a 3), .ref (a 4), .ref (a 5), .ref (a 6), .ref (a 7), .ref (a 8), .ref (a 9), .ref (a 10), .ref (a 11), .int (iI stop), .int (iI sinp), .int (iI srea), .int (iI spag), .int (iI sjob), .int (iI sdup)])), ((a 9), .inl (cI, 4, .inl (ai e8)))] (some (.int (iI (bI (T 5 sh = -1 ∧ sdup = 1 ∧ e8 3 ≤ T 4 sh))))) := by
  refine qP_enter (by decide) (Nat.le_of_ble_eq_true rfl) (nar_z bI_r) (fun p e R s m args below meth c Q ls X hR hP hl hret => ?_)
  obtain ⟨hx, hb, hml, hown, hts, hK⟩ := X
  have hl : lv_has ls 3 [(0, .ref (x 0)), (1, .int (iI sh)), (2, .int (iI sd))] := hl
  refine lv_aload_n hx hb dX6_isPage_0 rfl (lv_at hl 0 rfl) ?_
  refine lv_iload_n hx hb dX6_isPage_1 rfl (lv_at hl 1 rfl) ?_
  refine q_callP (As := [.int (iI sh)]) (rest := []) hx hb hml hown hts hK (c_X6_isSheet (sh) (by first | omega | assumption) (by first | omega | assumption)) yi_X6_isSheet ml_X6_134 (by rw [hR]; decide) (hP.sub [0, 1] rfl) 0 rfl rfl rfl rfl hl.1 (lv_room (Nat.le_of_ble_eq_true rfl)) dX6_isPage_2 ⟨by rw [hR]; exact Nat.zero_le _, by rw [hR]; exact Nat.zero_le _⟩ ?_
  refine q_ifb_eq (tgt := 36) hx hb dX6_isPage_5 (by decide) (fun c_5 => ?_) (fun c_5 => ?_)
  · refine q_iconst hx hb dX6_isPage_36 ?_
    exact q_ret (hret 37 ls dX6_isPage_37) (by first | exact (bI_t (by omega)).symm | exact (bI_f (by omega)).symm)
  · refine lv_aload_n hx hb dX6_isPage_8 rfl (lv_at hl 0 rfl) ?_
    refine q_get hx hb hts hown hK hP ci_X6 0 rfl 1 (by decide) fl_X6_19 rfl dX6_isPage_9 ?_
    refine q_get hx hb hts hown hK hP ci_X4 1 rfl 5 (by decide) fl_X6_158 rfl dX6_isPage_12 ?_
    refine lv_iload_n hx hb dX6_isPage_15 rfl (lv_at hl 1 rfl) ?_
    refine q_iald hx hb hK hP 4 0 rfl rfl (z := sh) (v := ((T 5) sh)) (by omega) rfl dX6_isPage_16 ?_
    refine q_iconst hx hb dX6_isPage_17 ?_
    refine q_icmp_ne (tgt := 36) hx hb dX6_isPage_18 (by decide) (by omega) (fun c_18 => ?_) (fun c_18 => ?_)
    · refine q_iconst hx hb dX6_isPage_36 ?_
      exact q_ret (hret 37 ls dX6_isPage_37) (by first | exact (bI_t (by omega)).symm | exact (bI_f (by omega)).symm)
    · refine lv_iload_n hx hb dX6_isPage_21 rfl (lv_at hl 2 rfl) ?_
      refine q_iconst hx hb dX6_isPage_22 ?_
      refine q_icmp_ne (tgt := 38) hx hb dX6_isPage_23 (by decide) (by omega) (fun c_23 => absurd c_23 (by omega)) (fun c_23 => ?_)
      refine lv_aload_n hx hb dX6_isPage_26 rfl (lv_at hl 0 rfl) ?_
      refine q_get hx hb hts hown hK hP ci_X6 0 rfl 2 (by decide) fl_X6_26 rfl dX6_isPage_27 ?_
      refine q_get hx hb hts hown hK hP ci_X5 5 rfl 16 (by decide) fl_X6_109 rfl dX6_isPage_30 ?_
      refine q_if_ne (tgt := 38) hx hb dX6_isPage_33 (by decide) (by omega) (fun c_33 => ?_) (fun c_33 => ?_)
      · refine lv_aload_n hx hb dX6_isPage_38 rfl (lv_at hl 0 rfl) ?_
        refine q_get hx hb hts hown hK hP ci_X6 0 rfl 1 (by decide) fl_X6_19 rfl dX6_isPage_39 ?_
        refine lv_iload_n hx hb dX6_isPage_42 rfl (lv_at hl 1 rfl) ?_
        refine lv_iload_n hx hb dX6_isPage_43 rfl (lv_at hl 2 rfl) ?_
        refine q_callP (As := [.int (iI sh), .int (iI sd)]) (rest := []) hx hb hml hown hts hK (c_X4_ink (sh) (sd) (by first | omega | assumption) (by first | omega | assumption) (by first | omega | assumption)) yi_X4_ink ml_X6_259 (by rw [hR]; decide) (hP.sub [1, 2, 3] rfl) 0 rfl rfl rfl rfl hl.1 (lv_room (Nat.le_of_ble_eq_true rfl)) dX6_isPage_44 ⟨by rw [hR]; exact Nat.zero_le _, by rw [hR]; exact Nat.zero_le _⟩ ?_
        refine q_top (T 4 sh) (by subst hsd; rfl) ?_
        refine lv_aload_n hx hb dX6_isPage_47 rfl (lv_at hl 0 rfl) ?_
        refine q_get hx hb hts hown hK hP ci_X6 0 rfl 2 (by decide) fl_X6_26 rfl dX6_isPage_48 ?_
        refine q_get hx hb hts hown hK hP ci_X5 5 rfl 8 (by decide) fl_X6_130 rfl dX6_isPage_51 ?_
        refine q_iconst hx hb dX6_isPage_54 ?_
        refine q_iald hx hb hK hP 6 0 rfl rfl (z := 3) (v := (e8 3)) (by omega) rfl dX6_isPage_55 ?_
        refine q_icmp_lt (tgt := 63) hx hb dX6_isPage_56 (by decide) (by omega) (fun c_56 => ?_) (fun c_56 => ?_)
        · refine q_iconst hx hb dX6_isPage_63 ?_
          exact q_ret (hret 64 ls dX6_isPage_64) (by first | exact (bI_t (by omega)).symm | exact (bI_f (by omega)).symm)
        · refine q_iconst hx hb dX6_isPage_59 ?_
          refine lv_goto (tgt := 64) hx hb dX6_isPage_60 (by decide) ?_
          exact q_ret (hret 64 ls dX6_isPage_64) (by first | exact (bI_t (by omega)).symm | exact (bI_f (by omega)).symm)
      · refine q_iconst hx hb dX6_isPage_36 ?_
        exact q_ret (hret 37 ls dX6_isPage_37) (by first | exact (bI_t (by omega)).symm | exact (bI_f (by omega)).symm)

set_option maxHeartbeats 4000000 in
set_option maxRecDepth 100000 in
theorem c_X6_pagesOfSheet (sh : Int) (hn : 0 ≤ T 8 0 ∧ T 8 0 ≤ 40) (hs : 0 ≤ sh ∧ sh < T 8 0) (hr : rg (T 5 sh) ∧ rg (T 3 sh) ∧ rg (T 4 sh) ∧ rg (e8 3) ∧ 0 ≤ sdup ∧ sdup ≤ 1) : qP l D (tyG cI cB cZ cS cJ) yX6_pagesOfSheet cX6_pagesOfSheet 2 (Option.some FieldType.int) 2 44 [.ref (x 0), .int (iI sh)] [((x 0), .inr (6, [.ref (ap 0), .ref (b 0), .ref (a 0), .ref (x 1), .int (iI lat), .int (iI und), .ref (x 2), .ref (x 3), .ref (x 4), .ref (x 6)])), ((b 0), .inr (4, [.ref (b 1), .ref (b 2), .ref (b 3), .ref (b 4), .ref (b 5), .ref (b 6), .ref (b 7), .ref (b 8), .int (iI (T 8 0)), .int (iI (T 8 1)), .int (iI (T 8 2)), .int (iI (T 8 3))])), ((b 4), .inl (cI, 40, .inl (ai (T 3)))), ((b 5), .inl (cI, 40, .inl (ai (T 4)))), ((b 6), .inl (cI, 40, .inl (ai (T 5)))), ((a 0), .inr (5, [.ref (a 1), .ref (a 2), .ref (a 3), .ref (a 4), .ref (a 5), .ref (a 6), .ref (a 7), .ref (a 8), .ref (a 9), .ref (a 10), .ref (a 11), .int (iI stop), .int (iI sinp), .int (iI srea), .int (iI spag), .int (iI sjob), .int (iI sdup)])), ((a 9), .inl (cI, 4, .inl (ai e8)))] (some (.int (iI (bI (T 5 sh = -1 ∧ e8 3 ≤ T 3 sh) + bI (T 5 sh = -1 ∧ sdup = 1 ∧ e8 3 ≤ T 4 sh))))) := by
  refine qP_enter (by decide) (Nat.le_of_ble_eq_true rfl) (nar_i _) (fun p e R s m args below meth c Q ls X hR hP hl hret => ?_)
  obtain ⟨hx, hb, hml, hown, hts, hK⟩ := X
  have hl : lv_has ls 2 [(0, .ref (x 0)), (1, .int (iI sh))] := hl
  refine lv_aload_n hx hb dX6_pagesOfSheet_0 rfl (lv_at hl 0 rfl) ?_
  refine lv_iload_n hx hb dX6_pagesOfSheet_1 rfl (lv_at hl 1 rfl) ?_
  refine q_iconst hx hb dX6_pagesOfSheet_2 ?_
  refine q_callP (As := [.int (iI sh), .int (iI 0)]) (rest := []) hx hb hml hown hts hK (c_X6_isPage_0 (sh) (0) (by first | omega | assumption) (by first | omega | assumption) (by first | omega | assumption) (by first | omega | assumption)) yi_X6_isPage ml_X6_332 (by rw [hR]; decide) hP 0 rfl rfl rfl rfl hl.1 (lv_room (Nat.le_of_ble_eq_true rfl)) dX6_pagesOfSheet_3 ⟨by rw [hR]; exact Nat.zero_le _, by rw [hR]; exact Nat.zero_le _⟩ ?_
  refine q_ifb_eq (tgt := 13) hx hb dX6_pagesOfSheet_6 (by decide) (fun c_6 => ?_) (fun c_6 => ?_)
  · refine q_iconst hx hb dX6_pagesOfSheet_13 ?_
    refine lv_aload_n hx hb dX6_pagesOfSheet_14 rfl (lv_at hl 0 rfl) ?_
    refine lv_iload_n hx hb dX6_pagesOfSheet_15 rfl (lv_at hl 1 rfl) ?_
    refine q_iconst hx hb dX6_pagesOfSheet_16 ?_
    refine q_callP (As := [.int (iI sh), .int (iI 1)]) (rest := [.int (iI 0)]) hx hb hml hown hts hK (c_X6_isPage_1 (sh) (1) (by first | omega | assumption) (by first | omega | assumption) (by first | omega | assumption) (by first | omega | assumption)) yi_X6_isPage ml_X6_332 (by rw [hR]; decide) hP 0 rfl rfl rfl rfl hl.1 (lv_room (Nat.le_of_ble_eq_true rfl)) dX6_pagesOfSheet_17 ⟨by rw [hR]; exact Nat.zero_le _, by rw [hR]; exact Nat.zero_le _⟩ ?_
    refine q_ifb_eq (tgt := 27) hx hb dX6_pagesOfSheet_20 (by decide) (fun c_20 => ?_) (fun c_20 => ?_)
    · refine q_iconst hx hb dX6_pagesOfSheet_27 ?_
      refine q_iadd hx hb dX6_pagesOfSheet_28 ?_
      refine q_top 0 rfl ?_
      exact q_ret (hret 29 ls dX6_pagesOfSheet_29) (by (first | rw [bI_t c_6] | rw [bI_f c_6]); (first | rw [bI_t c_20] | rw [bI_f c_20]); rfl)
    · refine q_iconst hx hb dX6_pagesOfSheet_23 ?_
      refine lv_goto (tgt := 28) hx hb dX6_pagesOfSheet_24 (by decide) ?_
      refine q_iadd hx hb dX6_pagesOfSheet_28 ?_
      refine q_top 1 rfl ?_
      exact q_ret (hret 29 ls dX6_pagesOfSheet_29) (by (first | rw [bI_t c_6] | rw [bI_f c_6]); (first | rw [bI_t c_20] | rw [bI_f c_20]); rfl)
  · refine q_iconst hx hb dX6_pagesOfSheet_9 ?_
    refine lv_goto (tgt := 14) hx hb dX6_pagesOfSheet_10 (by decide) ?_
    refine lv_aload_n hx hb dX6_pagesOfSheet_14 rfl (lv_at hl 0 rfl) ?_
    refine lv_iload_n hx hb dX6_pagesOfSheet_15 rfl (lv_at hl 1 rfl) ?_
    refine q_iconst hx hb dX6_pagesOfSheet_16 ?_
    refine q_callP (As := [.int (iI sh), .int (iI 1)]) (rest := [.int (iI 1)]) hx hb hml hown hts hK (c_X6_isPage_1 (sh) (1) (by first | omega | assumption) (by first | omega | assumption) (by first | omega | assumption) (by first | omega | assumption)) yi_X6_isPage ml_X6_332 (by rw [hR]; decide) hP 0 rfl rfl rfl rfl hl.1 (lv_room (Nat.le_of_ble_eq_true rfl)) dX6_pagesOfSheet_17 ⟨by rw [hR]; exact Nat.zero_le _, by rw [hR]; exact Nat.zero_le _⟩ ?_
    refine q_ifb_eq (tgt := 27) hx hb dX6_pagesOfSheet_20 (by decide) (fun c_20 => ?_) (fun c_20 => ?_)
    · refine q_iconst hx hb dX6_pagesOfSheet_27 ?_
      refine q_iadd hx hb dX6_pagesOfSheet_28 ?_
      refine q_top 1 rfl ?_
      exact q_ret (hret 29 ls dX6_pagesOfSheet_29) (by (first | rw [bI_t c_6] | rw [bI_f c_6]); (first | rw [bI_t c_20] | rw [bI_f c_20]); rfl)
    · refine q_iconst hx hb dX6_pagesOfSheet_23 ?_
      refine lv_goto (tgt := 28) hx hb dX6_pagesOfSheet_24 (by decide) ?_
      refine q_iadd hx hb dX6_pagesOfSheet_28 ?_
      refine q_top 2 rfl ?_
      exact q_ret (hret 29 ls dX6_pagesOfSheet_29) (by (first | rw [bI_t c_6] | rw [bI_f c_6]); (first | rw [bI_t c_20] | rw [bI_f c_20]); rfl)

set_option maxHeartbeats 4000000 in
set_option maxRecDepth 100000 in
theorem c_X6_reasonToStop (pct : Int) (uu : Int) (hn : 0 ≤ T 8 0 ∧ T 8 0 ≤ 40) (h1 : 101 ≤ pct ∧ pct ≤ 300 ∧ 30 ≤ uu ∧ uu ≤ 500) (h2 : 0 ≤ pt ∧ pt ≤ 20000 ∧ 0 ≤ pl ∧ pl ≤ 16500 ∧ -99 ≤ pw ∧ pw ≤ 99) (h3 : 0 ≤ e8 1 ∧ e8 1 ≤ 200 ∧ 0 ≤ e8 2 ∧ e8 2 ≤ 99) (h4 : 50 ≤ T 8 1 ∧ T 8 1 ≤ 500) : qP l D (tyG cI cB cZ cS cJ) yX6_reasonToStop cX6_reasonToStop 4 (Option.some FieldType.int) 1 21 [.ref (x 0), .int (iI pct), .int (iI uu)] [((x 0), .inr (6, [.ref (ap 0), .ref (b 0), .ref (a 0), .ref (x 1), .int (iI lat), .int (iI und), .ref (x 2), .ref (x 3), .ref (x 4), .ref (x 6)])), ((b 0), .inr (4, [.ref (b 1), .ref (b 2), .ref (b 3), .ref (b 4), .ref (b 5), .ref (b 6), .ref (b 7), .ref (b 8), .int (iI (T 8 0)), .int (iI (T 8 1)), .int (iI (T 8 2)), .int (iI (T 8 3))])), ((a 0), .inr (5, [.ref (a 1), .ref (a 2), .ref (a 3), .ref (a 4), .ref (a 5), .ref (a 6), .ref (a 7), .ref (a 8), .ref (a 9), .ref (a 10), .ref (a 11), .int (iI stop), .int (iI sinp), .int (iI srea), .int (iI spag), .int (iI sjob), .int (iI sdup)])), ((a 9), .inl (cI, 4, .inl (ai e8))), ((x 4), .inr (3, [.int (iI pf), .int (iI pm), .int (iI pt), .int (iI pl), .int (iI pw)]))] (some (.int (iI (rsn T (fun _ => e8) pct uu pt pl pw)))) := by
  have q_m := mulb (a := pct) (b := uu) (A := 300) (B := 500) (by omega) (by omega) (by omega) (by omega)
  have q_a : 0 ≤ absZ pw ∧ absZ pw ≤ 99 := by unfold absZ; split <;> omega
  refine qP_enter (by decide) (Nat.le_of_ble_eq_true rfl) (nar_i _) (fun p e R s m args below meth c Q ls X hR hP hl hret => ?_)
  obtain ⟨hx, hb, hml, hown, hts, hK⟩ := X
  have hl : lv_has ls 4 [(0, .ref (x 0)), (1, .int (iI pct)), (2, .int (iI uu))] := hl
  refine lv_aload_n hx hb dX6_reasonToStop_0 rfl (lv_at hl 0 rfl) ?_
  refine q_get hx hb hts hown hK hP ci_X6 0 rfl 8 (by decide) fl_X6_44 rfl dX6_reasonToStop_1 ?_
  refine q_get hx hb hts hown hK hP ci_X3 4 rfl 2 (by decide) fl_X6_206 rfl dX6_reasonToStop_4 ?_
  refine q_bipush hx hb dX6_reasonToStop_7 rfl ?_
  refine q_imul hx hb dX6_reasonToStop_9 ?_
  refine lv_iload_n hx hb dX6_reasonToStop_10 rfl (lv_at hl 1 rfl) ?_
  refine lv_iload_n hx hb dX6_reasonToStop_11 rfl (lv_at hl 2 rfl) ?_
  refine q_imul hx hb dX6_reasonToStop_12 ?_
  refine q_icmp_le (tgt := 18) hx hb dX6_reasonToStop_13 (by decide) (by omega) (fun c_13 => ?_) (fun c_13 => ?_)
  · refine lv_aload_n hx hb dX6_reasonToStop_18 rfl (lv_at hl 0 rfl) ?_
    refine q_get hx hb hts hown hK hP ci_X6 0 rfl 2 (by decide) fl_X6_26 rfl dX6_reasonToStop_19 ?_
    refine q_get hx hb hts hown hK hP ci_X5 2 rfl 8 (by decide) fl_X6_130 rfl dX6_reasonToStop_22 ?_
    refine q_iconst hx hb dX6_reasonToStop_25 ?_
    refine q_iald hx hb hK hP 3 0 rfl rfl (z := 1) (v := (e8 1)) (by omega) rfl dX6_reasonToStop_26 ?_
    refine lv_istore_n (lv' := [(3, .int (iI (e8 1))), (0, .ref (x 0)), (1, .int (iI pct)), (2, .int (iI uu))]) hx hb dX6_reasonToStop_27 rfl hl (by decide) rfl (fun ls hl => ?_)
    refine lv_aload_n hx hb dX6_reasonToStop_28 rfl (lv_at hl 1 rfl) ?_
    refine q_get hx hb hts hown hK hP ci_X6 0 rfl 8 (by decide) fl_X6_44 rfl dX6_reasonToStop_29 ?_
    refine q_get hx hb hts hown hK hP ci_X3 4 rfl 3 (by decide) fl_X6_209 rfl dX6_reasonToStop_32 ?_
    refine lv_aload_n hx hb dX6_reasonToStop_35 rfl (lv_at hl 1 rfl) ?_
    refine q_get hx hb hts hown hK hP ci_X6 0 rfl 1 (by decide) fl_X6_19 rfl dX6_reasonToStop_36 ?_
    refine q_get hx hb hts hown hK hP ci_X4 1 rfl 9 (by decide) fl_X6_58 rfl dX6_reasonToStop_39 ?_
    refine lv_iload_n hx hb dX6_reasonToStop_42 rfl (lv_at hl 0 rfl) ?_
    refine q_iadd hx hb dX6_reasonToStop_43 ?_
    refine q_icmp_gt (tgt := 66) hx hb dX6_reasonToStop_44 (by decide) (by omega) (fun c_44 => ?_) (fun c_44 => ?_)
    · refine q_iconst hx hb dX6_reasonToStop_66 ?_
      exact q_ret (hret 67 ls dX6_reasonToStop_67) (by unfold rsn; dsimp only; rw [if_neg (by omega), if_pos (by omega)])
    · refine lv_aload_n hx hb dX6_reasonToStop_47 rfl (lv_at hl 1 rfl) ?_
      refine q_get hx hb hts hown hK hP ci_X6 0 rfl 8 (by decide) fl_X6_44 rfl dX6_reasonToStop_48 ?_
      refine q_get hx hb hts hown hK hP ci_X3 4 rfl 3 (by decide) fl_X6_209 rfl dX6_reasonToStop_51 ?_
      refine lv_aload_n hx hb dX6_reasonToStop_54 rfl (lv_at hl 1 rfl) ?_
      refine q_get hx hb hts hown hK hP ci_X6 0 rfl 1 (by decide) fl_X6_19 rfl dX6_reasonToStop_55 ?_
      refine q_get hx hb hts hown hK hP ci_X4 1 rfl 9 (by decide) fl_X6_58 rfl dX6_reasonToStop_58 ?_
      refine lv_iload_n hx hb dX6_reasonToStop_61 rfl (lv_at hl 0 rfl) ?_
      refine q_isub hx hb dX6_reasonToStop_62 ?_
      refine q_icmp_ge (tgt := 68) hx hb dX6_reasonToStop_63 (by decide) (by omega) (fun c_63 => ?_) (fun c_63 => ?_)
      · refine lv_aload_n hx hb dX6_reasonToStop_68 rfl (lv_at hl 1 rfl) ?_
        refine q_get hx hb hts hown hK hP ci_X6 0 rfl 8 (by decide) fl_X6_44 rfl dX6_reasonToStop_69 ?_
        refine q_get hx hb hts hown hK hP ci_X3 4 rfl 4 (by decide) fl_X6_327 rfl dX6_reasonToStop_72 ?_
        refine q_abs hx hb hml hl.1 hown hts ml_X6_329 ⟨by rw [hR]; decide, by rw [hR]; exact Nat.le_of_ble_eq_true rfl⟩ ⟨by rw [hR]; exact Nat.zero_le _, by rw [hR]; exact Nat.zero_le _⟩ (by omega) dX6_reasonToStop_75 ?_
        refine lv_aload_n hx hb dX6_reasonToStop_78 rfl (lv_at hl 1 rfl) ?_
        refine q_get hx hb hts hown hK hP ci_X6 0 rfl 2 (by decide) fl_X6_26 rfl dX6_reasonToStop_79 ?_
        refine q_get hx hb hts hown hK hP ci_X5 2 rfl 8 (by decide) fl_X6_130 rfl dX6_reasonToStop_82 ?_
        refine q_iconst hx hb dX6_reasonToStop_85 ?_
        refine q_iald hx hb hK hP 3 0 rfl rfl (z := 2) (v := (e8 2)) (by omega) rfl dX6_reasonToStop_86 ?_
        refine q_icmp_le (tgt := 94) hx hb dX6_reasonToStop_87 (by decide) (by omega) (fun c_87 => ?_) (fun c_87 => ?_)
        · refine q_iconst hx hb dX6_reasonToStop_94 ?_
          exact q_ret (hret 95 ls dX6_reasonToStop_95) (by unfold rsn; dsimp only; rw [if_neg (by omega), if_neg (by omega)]; first | rw [if_pos (by omega)] | rw [if_neg (by omega)])
        · refine q_iconst hx hb dX6_reasonToStop_90 ?_
          refine lv_goto (tgt := 95) hx hb dX6_reasonToStop_91 (by decide) ?_
          exact q_ret (hret 95 ls dX6_reasonToStop_95) (by unfold rsn; dsimp only; rw [if_neg (by omega), if_neg (by omega)]; first | rw [if_pos (by omega)] | rw [if_neg (by omega)])
      · refine q_iconst hx hb dX6_reasonToStop_66 ?_
        exact q_ret (hret 67 ls dX6_reasonToStop_67) (by unfold rsn; dsimp only; rw [if_neg (by omega), if_pos (by omega)])
  · refine q_iconst hx hb dX6_reasonToStop_16 ?_
    exact q_ret (hret 17 ls dX6_reasonToStop_17) (by unfold rsn; dsimp only; rw [if_pos (by omega)])
