variable {l : Launch} {z : Nat → Nat} {D : va_G} {cI cB cZ cS cJ : ClassId} {T C E : Nat → Int → Int} {x ap b : Nat → Nat} {pfl pln pkd pst pen per pls pss us f1 f2 f3 : Int} {bf y0 y1 y2 y3 y4 y5 y6 y7 : Int → Int}
set_option maxHeartbeats 4000000 in
set_option maxRecDepth 100000 in
theorem c_X2_addFour (v : Int) (h0 : 0 ≤ pfl ∧ pfl ≤ 696) : qM l D (tyG cI cB cZ cS cJ) yX2_addFour cX2_addFour 3 (Option.none) 0 0 [.ref (ap 0), .int (iI v)] [((ap 0), .inr (2, [.ref (ap 1), .int (iI pfl), .ref (b 0), .int (iI pln), .int (iI pkd), .int (iI pst), .int (iI pen), .int (iI per), .int (iI pls), .int (iI pss)])), ((ap 1), .inl (cB, 700, .inl (ai bf)))] (fun u : (Int → Int) => (u = apI bf pfl v)) (fun _ => none) (fun u => [((ap 0), .inr (2, [.ref (ap 1), .int (iI (pfl + 4)), .ref (b 0), .int (iI pln), .int (iI pkd), .int (iI pst), .int (iI pen), .int (iI per), .int (iI pls), .int (iI pss)])), ((ap 1), .inl (cB, 700, .inl (ai u)))]) := by
  refine qM_enterV (by decide) (Nat.le_of_ble_eq_true rfl) (fun p e R s m args below meth c Q ls A X hR hA hw hl hret => ?_)
  obtain ⟨hx, hb, hml, hown, hts, hK⟩ := X
  have hl : lv_has ls 3 [(0, .ref (ap 0)), (1, .int (iI v))] := hl
  suffices K : ∀ (H : Heap) (locs : List Loc), qw D A s.heap [((ap 0), .inr (2, [.ref (ap 1), .int (iI pfl), .ref (b 0), .int (iI pln), .int (iI pkd), .int (iI pst), .int (iI pen), .int (iI per), .int (iI pls), .int (iI pss)])), ((ap 1), .inl (cB, 700, .inl (ai bf)))] H locs → W p l e R s m args below meth c H locs 0 0 Q (F0 m 0 ls []) from K s.heap [] hw
  clear hw
  intro H locs hw
  refine q_bipush hx hb dX2_addFour_0 rfl ?_
  refine lv_istore_n (lv' := [(2, .int (iI 24)), (0, .ref (ap 0)), (1, .int (iI v))]) hx hb dX2_addFour_2 rfl hl (by decide) rfl (fun ls hl => ?_)
  refine lv_iload_n hx hb dX2_addFour_3 rfl (lv_at hl 0 rfl) ?_
  refine q_if_lt (tgt := 46) hx hb dX2_addFour_4 (by decide) (by omega) (fun c_4 => absurd c_4 (by omega)) (fun c_4 => ?_)
  refine lv_aload_n hx hb dX2_addFour_7 rfl (lv_at hl 1 rfl) ?_
  refine q_get hx hb hts hown hK hw.1 ci_X2 0 rfl 1 (by decide) fl_X2_22 rfl dX2_addFour_8 ?_
  refine q_sipush hx hb dX2_addFour_11 rfl ?_
  refine q_icmp_ge (tgt := 46) hx hb dX2_addFour_14 (by decide) (by omega) (fun c_14 => absurd c_14 (by omega)) (fun c_14 => ?_)
  refine lv_aload_n hx hb dX2_addFour_17 rfl (lv_at hl 1 rfl) ?_
  refine q_get hx hb hts hown hK hw.1 ci_X2 0 rfl 0 (by decide) fl_X2_9 rfl dX2_addFour_18 ?_
  refine lv_aload_n hx hb dX2_addFour_21 rfl (lv_at hl 1 rfl) ?_
  refine q_get hx hb hts hown hK hw.1 ci_X2 0 rfl 1 (by decide) fl_X2_22 rfl dX2_addFour_22 ?_
  refine lv_iload_n hx hb dX2_addFour_25 rfl (lv_at hl 2 rfl) ?_
  refine lv_iload_n hx hb dX2_addFour_26 rfl (lv_at hl 0 rfl) ?_
  refine q_ishr hx hb dX2_addFour_27 ?_
  refine q_i2b hx hb dX2_addFour_28 ?_
  refine q_bast hx hb hK hw 1 1 rfl rfl (by first | exact byT_bd _ | omega) (by omega) dX2_addFour_29 (fun H locs hw => ?_)
  have hw : qw D A s.heap [((ap 0), .inr (2, [.ref (ap 1), .int (iI pfl), .ref (b 0), .int (iI pln), .int (iI pkd), .int (iI pst), .int (iI pen), .int (iI per), .int (iI pls), .int (iI pss)])), ((ap 1), .inl (cB, 700, .inl (ai (uI bf pfl (byT (shR v 24))))))] H locs := hw
  obtain ⟨f_1, e_f_1⟩ : ∃ z, z = uI bf pfl (byT (shR v 24)) := ⟨_, rfl⟩
  have hw : qw D A s.heap [((ap 0), .inr (2, [.ref (ap 1), .int (iI pfl), .ref (b 0), .int (iI pln), .int (iI pkd), .int (iI pst), .int (iI pen), .int (iI per), .int (iI pls), .int (iI pss)])), ((ap 1), .inl (cB, 700, .inl (ai f_1)))] H locs := by rw [e_f_1]; exact hw
  refine lv_aload_n hx hb dX2_addFour_30 rfl (lv_at hl 1 rfl) ?_
  refine lv_dup hx hb dX2_addFour_31 rfl ?_
  refine q_get hx hb hts hown hK hw.1 ci_X2 0 rfl 1 (by decide) fl_X2_22 rfl dX2_addFour_32 ?_
  refine q_iconst hx hb dX2_addFour_35 ?_
  refine q_iadd hx hb dX2_addFour_36 ?_
  refine q_put hx hb hts hown hK hw ci_X2 0 rfl 1 (by decide) fl_X2_22 rfl rfl rfl (Nat.le_of_ble_eq_true rfl) dX2_addFour_37 (fun H locs hw => ?_)
  have hw : qw D A s.heap [((ap 0), .inr (2, [.ref (ap 1), .int (iI (pfl + 1)), .ref (b 0), .int (iI pln), .int (iI pkd), .int (iI pst), .int (iI pen), .int (iI per), .int (iI pls), .int (iI pss)])), ((ap 1), .inl (cB, 700, .inl (ai f_1)))] H locs := hw
  refine lv_iinc (v := iI (24 + (-8))) (lv' := [(2, .int (iI (24 + (-8)))), (0, .ref (ap 0)), (1, .int (iI v))]) hx hb dX2_addFour_40 hl (k := 0) rfl (iI_add _ _) (by decide) rfl (fun ls hl => ?_)
  have hl : lv_has ls 3 [(2, .int (iI 16)), (0, .ref (ap 0)), (1, .int (iI v))] := hl
  refine lv_goto (tgt := 3) hx hb dX2_addFour_43 (by decide) ?_
  refine lv_iload_n hx hb dX2_addFour_3 rfl (lv_at hl 0 rfl) ?_
  refine q_if_lt (tgt := 46) hx hb dX2_addFour_4 (by decide) (by omega) (fun c_4 => absurd c_4 (by omega)) (fun c_4 => ?_)
  refine lv_aload_n hx hb dX2_addFour_7 rfl (lv_at hl 1 rfl) ?_
  refine q_get hx hb hts hown hK hw.1 ci_X2 0 rfl 1 (by decide) fl_X2_22 rfl dX2_addFour_8 ?_
  refine q_sipush hx hb dX2_addFour_11 rfl ?_
  refine q_icmp_ge (tgt := 46) hx hb dX2_addFour_14 (by decide) (by omega) (fun c_14 => absurd c_14 (by omega)) (fun c_14 => ?_)
  refine lv_aload_n hx hb dX2_addFour_17 rfl (lv_at hl 1 rfl) ?_
  refine q_get hx hb hts hown hK hw.1 ci_X2 0 rfl 0 (by decide) fl_X2_9 rfl dX2_addFour_18 ?_
  refine lv_aload_n hx hb dX2_addFour_21 rfl (lv_at hl 1 rfl) ?_
  refine q_get hx hb hts hown hK hw.1 ci_X2 0 rfl 1 (by decide) fl_X2_22 rfl dX2_addFour_22 ?_
  refine lv_iload_n hx hb dX2_addFour_25 rfl (lv_at hl 2 rfl) ?_
  refine lv_iload_n hx hb dX2_addFour_26 rfl (lv_at hl 0 rfl) ?_
  refine q_ishr hx hb dX2_addFour_27 ?_
  refine q_i2b hx hb dX2_addFour_28 ?_
  refine q_bast hx hb hK hw 1 1 rfl rfl (by first | exact byT_bd _ | omega) (by omega) dX2_addFour_29 (fun H locs hw => ?_)
  have hw : qw D A s.heap [((ap 0), .inr (2, [.ref (ap 1), .int (iI (pfl + 1)), .ref (b 0), .int (iI pln), .int (iI pkd), .int (iI pst), .int (iI pen), .int (iI per), .int (iI pls), .int (iI pss)])), ((ap 1), .inl (cB, 700, .inl (ai (uI f_1 (pfl + 1) (byT (shR v 16))))))] H locs := hw
  obtain ⟨f_2, e_f_2⟩ : ∃ z, z = uI f_1 (pfl + 1) (byT (shR v 16)) := ⟨_, rfl⟩
  have hw : qw D A s.heap [((ap 0), .inr (2, [.ref (ap 1), .int (iI (pfl + 1)), .ref (b 0), .int (iI pln), .int (iI pkd), .int (iI pst), .int (iI pen), .int (iI per), .int (iI pls), .int (iI pss)])), ((ap 1), .inl (cB, 700, .inl (ai f_2)))] H locs := by rw [e_f_2]; exact hw
  refine lv_aload_n hx hb dX2_addFour_30 rfl (lv_at hl 1 rfl) ?_
  refine lv_dup hx hb dX2_addFour_31 rfl ?_
  refine q_get hx hb hts hown hK hw.1 ci_X2 0 rfl 1 (by decide) fl_X2_22 rfl dX2_addFour_32 ?_
  refine q_iconst hx hb dX2_addFour_35 ?_
  refine q_iadd hx hb dX2_addFour_36 ?_
  refine q_put hx hb hts hown hK hw ci_X2 0 rfl 1 (by decide) fl_X2_22 rfl rfl rfl (Nat.le_of_ble_eq_true rfl) dX2_addFour_37 (fun H locs hw => ?_)
  have hw : qw D A s.heap [((ap 0), .inr (2, [.ref (ap 1), .int (iI (pfl + 1 + 1)), .ref (b 0), .int (iI pln), .int (iI pkd), .int (iI pst), .int (iI pen), .int (iI per), .int (iI pls), .int (iI pss)])), ((ap 1), .inl (cB, 700, .inl (ai f_2)))] H locs := hw
  refine lv_iinc (v := iI (16 + (-8))) (lv' := [(2, .int (iI (16 + (-8)))), (0, .ref (ap 0)), (1, .int (iI v))]) hx hb dX2_addFour_40 hl (k := 0) rfl (iI_add _ _) (by decide) rfl (fun ls hl => ?_)
  have hl : lv_has ls 3 [(2, .int (iI 8)), (0, .ref (ap 0)), (1, .int (iI v))] := hl
  refine lv_goto (tgt := 3) hx hb dX2_addFour_43 (by decide) ?_
  refine lv_iload_n hx hb dX2_addFour_3 rfl (lv_at hl 0 rfl) ?_
  refine q_if_lt (tgt := 46) hx hb dX2_addFour_4 (by decide) (by omega) (fun c_4 => absurd c_4 (by omega)) (fun c_4 => ?_)
  refine lv_aload_n hx hb dX2_addFour_7 rfl (lv_at hl 1 rfl) ?_
  refine q_get hx hb hts hown hK hw.1 ci_X2 0 rfl 1 (by decide) fl_X2_22 rfl dX2_addFour_8 ?_
  refine q_sipush hx hb dX2_addFour_11 rfl ?_
  refine q_icmp_ge (tgt := 46) hx hb dX2_addFour_14 (by decide) (by omega) (fun c_14 => absurd c_14 (by omega)) (fun c_14 => ?_)
  refine lv_aload_n hx hb dX2_addFour_17 rfl (lv_at hl 1 rfl) ?_
  refine q_get hx hb hts hown hK hw.1 ci_X2 0 rfl 0 (by decide) fl_X2_9 rfl dX2_addFour_18 ?_
  refine lv_aload_n hx hb dX2_addFour_21 rfl (lv_at hl 1 rfl) ?_
  refine q_get hx hb hts hown hK hw.1 ci_X2 0 rfl 1 (by decide) fl_X2_22 rfl dX2_addFour_22 ?_
  refine lv_iload_n hx hb dX2_addFour_25 rfl (lv_at hl 2 rfl) ?_
  refine lv_iload_n hx hb dX2_addFour_26 rfl (lv_at hl 0 rfl) ?_
  refine q_ishr hx hb dX2_addFour_27 ?_
  refine q_i2b hx hb dX2_addFour_28 ?_
  refine q_bast hx hb hK hw 1 1 rfl rfl (by first | exact byT_bd _ | omega) (by omega) dX2_addFour_29 (fun H locs hw => ?_)
  have hw : qw D A s.heap [((ap 0), .inr (2, [.ref (ap 1), .int (iI (pfl + 1 + 1)), .ref (b 0), .int (iI pln), .int (iI pkd), .int (iI pst), .int (iI pen), .int (iI per), .int (iI pls), .int (iI pss)])), ((ap 1), .inl (cB, 700, .inl (ai (uI f_2 (pfl + 1 + 1) (byT (shR v 8))))))] H locs := hw
  obtain ⟨f_3, e_f_3⟩ : ∃ z, z = uI f_2 (pfl + 1 + 1) (byT (shR v 8)) := ⟨_, rfl⟩
  have hw : qw D A s.heap [((ap 0), .inr (2, [.ref (ap 1), .int (iI (pfl + 1 + 1)), .ref (b 0), .int (iI pln), .int (iI pkd), .int (iI pst), .int (iI pen), .int (iI per), .int (iI pls), .int (iI pss)])), ((ap 1), .inl (cB, 700, .inl (ai f_3)))] H locs := by rw [e_f_3]; exact hw
  refine lv_aload_n hx hb dX2_addFour_30 rfl (lv_at hl 1 rfl) ?_
  refine lv_dup hx hb dX2_addFour_31 rfl ?_
  refine q_get hx hb hts hown hK hw.1 ci_X2 0 rfl 1 (by decide) fl_X2_22 rfl dX2_addFour_32 ?_
  refine q_iconst hx hb dX2_addFour_35 ?_
  refine q_iadd hx hb dX2_addFour_36 ?_
  refine q_put hx hb hts hown hK hw ci_X2 0 rfl 1 (by decide) fl_X2_22 rfl rfl rfl (Nat.le_of_ble_eq_true rfl) dX2_addFour_37 (fun H locs hw => ?_)
  have hw : qw D A s.heap [((ap 0), .inr (2, [.ref (ap 1), .int (iI (pfl + 1 + 1 + 1)), .ref (b 0), .int (iI pln), .int (iI pkd), .int (iI pst), .int (iI pen), .int (iI per), .int (iI pls), .int (iI pss)])), ((ap 1), .inl (cB, 700, .inl (ai f_3)))] H locs := hw
  refine lv_iinc (v := iI (8 + (-8))) (lv' := [(2, .int (iI (8 + (-8)))), (0, .ref (ap 0)), (1, .int (iI v))]) hx hb dX2_addFour_40 hl (k := 0) rfl (iI_add _ _) (by decide) rfl (fun ls hl => ?_)
  have hl : lv_has ls 3 [(2, .int (iI 0)), (0, .ref (ap 0)), (1, .int (iI v))] := hl
  refine lv_goto (tgt := 3) hx hb dX2_addFour_43 (by decide) ?_
  refine lv_iload_n hx hb dX2_addFour_3 rfl (lv_at hl 0 rfl) ?_
  refine q_if_lt (tgt := 46) hx hb dX2_addFour_4 (by decide) (by omega) (fun c_4 => absurd c_4 (by omega)) (fun c_4 => ?_)
  refine lv_aload_n hx hb dX2_addFour_7 rfl (lv_at hl 1 rfl) ?_
  refine q_get hx hb hts hown hK hw.1 ci_X2 0 rfl 1 (by decide) fl_X2_22 rfl dX2_addFour_8 ?_
  refine q_sipush hx hb dX2_addFour_11 rfl ?_
  refine q_icmp_ge (tgt := 46) hx hb dX2_addFour_14 (by decide) (by omega) (fun c_14 => absurd c_14 (by omega)) (fun c_14 => ?_)
  refine lv_aload_n hx hb dX2_addFour_17 rfl (lv_at hl 1 rfl) ?_
  refine q_get hx hb hts hown hK hw.1 ci_X2 0 rfl 0 (by decide) fl_X2_9 rfl dX2_addFour_18 ?_
  refine lv_aload_n hx hb dX2_addFour_21 rfl (lv_at hl 1 rfl) ?_
  refine q_get hx hb hts hown hK hw.1 ci_X2 0 rfl 1 (by decide) fl_X2_22 rfl dX2_addFour_22 ?_
  refine lv_iload_n hx hb dX2_addFour_25 rfl (lv_at hl 2 rfl) ?_
  refine lv_iload_n hx hb dX2_addFour_26 rfl (lv_at hl 0 rfl) ?_
  refine q_ishr hx hb dX2_addFour_27 ?_
  refine q_i2b hx hb dX2_addFour_28 ?_
  refine q_bast hx hb hK hw 1 1 rfl rfl (by first | exact byT_bd _ | omega) (by omega) dX2_addFour_29 (fun H locs hw => ?_)
  have hw : qw D A s.heap [((ap 0), .inr (2, [.ref (ap 1), .int (iI (pfl + 1 + 1 + 1)), .ref (b 0), .int (iI pln), .int (iI pkd), .int (iI pst), .int (iI pen), .int (iI per), .int (iI pls), .int (iI pss)])), ((ap 1), .inl (cB, 700, .inl (ai (uI f_3 (pfl + 1 + 1 + 1) (byT (shR v 0))))))] H locs := hw
  obtain ⟨f_4, e_f_4⟩ : ∃ z, z = uI f_3 (pfl + 1 + 1 + 1) (byT (shR v 0)) := ⟨_, rfl⟩
  have hw : qw D A s.heap [((ap 0), .inr (2, [.ref (ap 1), .int (iI (pfl + 1 + 1 + 1)), .ref (b 0), .int (iI pln), .int (iI pkd), .int (iI pst), .int (iI pen), .int (iI per), .int (iI pls), .int (iI pss)])), ((ap 1), .inl (cB, 700, .inl (ai f_4)))] H locs := by rw [e_f_4]; exact hw
  refine lv_aload_n hx hb dX2_addFour_30 rfl (lv_at hl 1 rfl) ?_
  refine lv_dup hx hb dX2_addFour_31 rfl ?_
  refine q_get hx hb hts hown hK hw.1 ci_X2 0 rfl 1 (by decide) fl_X2_22 rfl dX2_addFour_32 ?_
  refine q_iconst hx hb dX2_addFour_35 ?_
  refine q_iadd hx hb dX2_addFour_36 ?_
  refine q_put hx hb hts hown hK hw ci_X2 0 rfl 1 (by decide) fl_X2_22 rfl rfl rfl (Nat.le_of_ble_eq_true rfl) dX2_addFour_37 (fun H locs hw => ?_)
  have hw : qw D A s.heap [((ap 0), .inr (2, [.ref (ap 1), .int (iI (pfl + 1 + 1 + 1 + 1)), .ref (b 0), .int (iI pln), .int (iI pkd), .int (iI pst), .int (iI pen), .int (iI per), .int (iI pls), .int (iI pss)])), ((ap 1), .inl (cB, 700, .inl (ai f_4)))] H locs := hw
  refine lv_iinc (v := iI (0 + (-8))) (lv' := [(2, .int (iI (0 + (-8)))), (0, .ref (ap 0)), (1, .int (iI v))]) hx hb dX2_addFour_40 hl (k := 0) rfl (iI_add _ _) (by decide) rfl (fun ls hl => ?_)
  have hl : lv_has ls 3 [(2, .int (iI (-8))), (0, .ref (ap 0)), (1, .int (iI v))] := hl
  refine lv_goto (tgt := 3) hx hb dX2_addFour_43 (by decide) ?_
  refine lv_iload_n hx hb dX2_addFour_3 rfl (lv_at hl 0 rfl) ?_
  refine q_if_lt (tgt := 46) hx hb dX2_addFour_4 (by decide) (by omega) (fun c_4 => ?_) (fun c_4 => absurd c_4 (by omega))
  have hw : qw D A s.heap [((ap 0), .inr (2, [.ref (ap 1), .int (iI (pfl + 4)), .ref (b 0), .int (iI pln), .int (iI pkd), .int (iI pst), .int (iI pen), .int (iI per), .int (iI pls), .int (iI pss)])), ((ap 1), .inl (cB, 700, .inl (ai f_4)))] H locs := by
    have hw2 := hw
    have ee : pfl + 1 + 1 + 1 + 1 = pfl + 4 := by first | rfl | omega
    rw [ee] at hw2
    exact hw2
  exact hret (f_4) H locs 46 ls (by subst_vars; unfold apI; (first | rfl | (simp only [Int.add_assoc]; rfl))) hw dX2_addFour_46

set_option maxHeartbeats 4000000 in
set_option maxRecDepth 100000 in
theorem c_X2_runEnd (lo : Int) (hI : Int) (hbf : byR bf) (h0 : 0 ≤ pst ∧ pst ≤ pln ∧ pln ≤ 700) (h1 : 0 ≤ lo ∧ lo ≤ 127 ∧ 0 ≤ hI ∧ hI ≤ 127) : qP l D (tyG cI cB cZ cS cJ) yX2_runEnd cX2_runEnd 4 (Option.some FieldType.int) 0 0 [.ref (ap 0), .int (iI lo), .int (iI hI)] [((ap 0), .inr (2, [.ref (ap 1), .int (iI pfl), .ref (b 0), .int (iI pln), .int (iI pkd), .int (iI pst), .int (iI pen), .int (iI per), .int (iI pls), .int (iI pss)])), ((ap 1), .inl (cB, 700, .inl (ai bf)))] (some (.int (iI (ru bf pln lo hI pst)))) := by
  refine qP_enter (by decide) (Nat.le_of_ble_eq_true rfl) (nar_i _) (fun p e R s m args below meth c Q ls X hR hP hl hret => ?_)
  obtain ⟨hx, hb, hml, hown, hts, hK⟩ := X
  have hl : lv_has ls 4 [(0, .ref (ap 0)), (1, .int (iI lo)), (2, .int (iI hI))] := hl
  refine lv_aload_n hx hb dX2_runEnd_0 rfl (lv_at hl 0 rfl) ?_
  refine q_get hx hb hts hown hK hP ci_X2 0 rfl 5 (by decide) fl_X2_137 rfl dX2_runEnd_1 ?_
  refine lv_istore_n (lv' := [(3, .int (iI pst)), (0, .ref (ap 0)), (1, .int (iI lo)), (2, .int (iI hI))]) hx hb dX2_runEnd_4 rfl hl (by decide) rfl (fun ls hl => ?_)
  have loop_5 : ∀ (fu : Nat) (i : Int) (ls : Array Slot), (pln - i).toNat = fu → (pst ≤ i ∧ i ≤ pln) → (ru bf pln lo hI i = ru bf pln lo hI pst) → lv_has ls 4 [(0, .ref (ap 0)), (1, .int (iI lo)), (2, .int (iI hI)), (3, .int (iI i))] → W p l e R s m args below meth c s.heap [] 0 0 Q (F0 m 5 ls []) := by
    intro fu
    induction fu using Nat.strongRecOn with
    | ind fu ih =>
    intro i ls hn_5 h_i h_r hl
    have q_r := hbf i
    refine lv_iload_n hx hb dX2_runEnd_5 rfl (lv_at hl 3 rfl) ?_
    refine lv_aload_n hx hb dX2_runEnd_6 rfl (lv_at hl 0 rfl) ?_
    refine q_get hx hb hts hown hK hP ci_X2 0 rfl 3 (by decide) fl_X2_32 rfl dX2_runEnd_7 ?_
    refine q_icmp_ge (tgt := 39) hx hb dX2_runEnd_10 (by decide) (by omega) (fun c_10 => ?_) (fun c_10 => ?_)
    · refine lv_iload_n hx hb dX2_runEnd_39 rfl (lv_at hl 3 rfl) ?_
      exact q_ret (hret 40 ls dX2_runEnd_40) (by rw [← h_r]; exact (ru_e (by omega)).symm)
    · refine lv_aload_n hx hb dX2_runEnd_13 rfl (lv_at hl 0 rfl) ?_
      refine q_get hx hb hts hown hK hP ci_X2 0 rfl 0 (by decide) fl_X2_9 rfl dX2_runEnd_14 ?_
      refine lv_iload_n hx hb dX2_runEnd_17 rfl (lv_at hl 3 rfl) ?_
      refine q_bald hx hb hK hP 1 1 rfl rfl (z := i) (v := (bf i)) (by omega) rfl dX2_runEnd_18 ?_
      refine lv_iload_n hx hb dX2_runEnd_19 rfl (lv_at hl 1 rfl) ?_
      refine q_icmp_lt (tgt := 39) hx hb dX2_runEnd_20 (by decide) (by omega) (fun c_20 => ?_) (fun c_20 => ?_)
      · refine lv_iload_n hx hb dX2_runEnd_39 rfl (lv_at hl 3 rfl) ?_
        exact q_ret (hret 40 ls dX2_runEnd_40) (by rw [← h_r]; exact (ru_e (by omega)).symm)
      · refine lv_aload_n hx hb dX2_runEnd_23 rfl (lv_at hl 0 rfl) ?_
        refine q_get hx hb hts hown hK hP ci_X2 0 rfl 0 (by decide) fl_X2_9 rfl dX2_runEnd_24 ?_
        refine lv_iload_n hx hb dX2_runEnd_27 rfl (lv_at hl 3 rfl) ?_
        refine q_bald hx hb hK hP 1 1 rfl rfl (z := i) (v := (bf i)) (by omega) rfl dX2_runEnd_28 ?_
        refine lv_iload_n hx hb dX2_runEnd_29 rfl (lv_at hl 2 rfl) ?_
        refine q_icmp_gt (tgt := 39) hx hb dX2_runEnd_30 (by decide) (by omega) (fun c_30 => ?_) (fun c_30 => ?_)
        · refine lv_iload_n hx hb dX2_runEnd_39 rfl (lv_at hl 3 rfl) ?_
          exact q_ret (hret 40 ls dX2_runEnd_40) (by rw [← h_r]; exact (ru_e (by omega)).symm)
        · refine lv_iinc (v := iI (i + 1)) (lv' := [(3, .int (iI (i + 1))), (0, .ref (ap 0)), (1, .int (iI lo)), (2, .int (iI hI))]) hx hb dX2_runEnd_33 hl (k := 3) rfl (iI_add _ _) (by decide) rfl (fun ls hl => ?_)
          refine lv_goto (tgt := 5) hx hb dX2_runEnd_36 (by decide) ?_
          exact ih _ (by omega) (i + 1) ls rfl (by first | omega | assumption | rfl) (by rw [ru_s (by omega)]; exact h_r) (lv_sub hl [1, 2, 3, 0] rfl)
  exact loop_5 _ (pst) ls rfl (by first | omega | assumption | rfl) (by rfl) (lv_sub hl [1, 2, 3, 0] rfl)

set_option maxHeartbeats 4000000 in
set_option maxRecDepth 100000 in
theorem c_X2_advance (hbf : byR bf) (hY : PY bf pln pen per C) (h0 : C 9 3 = 0) : qM l D (tyG cI cB cZ cS cJ) yX2_advance cX2_advance 1 (Option.none) 1 23 [.ref (ap 0)] [((ap 0), .inr (2, [.ref (ap 1), .int (iI pfl), .ref (b 0), .int (iI pln), .int (iI pkd), .int (iI pst), .int (iI pen), .int (iI per), .int (iI pls), .int (iI pss)])), ((ap 1), .inl (cB, 700, .inl (ai bf)))] (fun u : (Int) × (Int) × (Int) => (PX bf pln ((u.2.2)) ((u.1)) ((u.2.1)) per (nxX bf pln C))) (fun _ => none) (fun u => [((ap 0), .inr (2, [.ref (ap 1), .int (iI pfl), .ref (b 0), .int (iI pln), .int (iI (u.2.2)), .int (iI (u.1)), .int (iI (u.2.1)), .int (iI per), .int (iI pls), .int (iI pss)])), ((ap 1), .inl (cB, 700, .inl (ai bf)))]) := by
  have q_2 := hY.2.2.2
  refine qM_enterV (by decide) (Nat.le_of_ble_eq_true rfl) (fun p e R s m args below meth c Q ls A X hR hA hw hl hret => ?_)
  obtain ⟨hx, hb, hml, hown, hts, hK⟩ := X
  have hl : lv_has ls 1 [(0, .ref (ap 0))] := hl
  suffices K : ∀ (H : Heap) (locs : List Loc), qw D A s.heap [((ap 0), .inr (2, [.ref (ap 1), .int (iI pfl), .ref (b 0), .int (iI pln), .int (iI pkd), .int (iI pst), .int (iI pen), .int (iI per), .int (iI pls), .int (iI pss)])), ((ap 1), .inl (cB, 700, .inl (ai bf)))] H locs → W p l e R s m args below meth c H locs 0 0 Q (F0 m 0 ls []) from K s.heap [] hw
  clear hw
  intro H locs hw
  refine lv_aload_n hx hb dX2_advance_0 rfl (lv_at hl 0 rfl) ?_
  refine lv_aload_n hx hb dX2_advance_1 rfl (lv_at hl 0 rfl) ?_
  refine q_get hx hb hts hown hK hw.1 ci_X2 0 rfl 6 (by decide) fl_X2_48 rfl dX2_advance_2 ?_
  refine q_put hx hb hts hown hK hw ci_X2 0 rfl 5 (by decide) fl_X2_137 rfl rfl rfl (Nat.le_of_ble_eq_true rfl) dX2_advance_5 (fun H locs hw => ?_)
  have hw : qw D A s.heap [((ap 0), .inr (2, [.ref (ap 1), .int (iI pfl), .ref (b 0), .int (iI pln), .int (iI pkd), .int (iI pen), .int (iI pen), .int (iI per), .int (iI pls), .int (iI pss)])), ((ap 1), .inl (cB, 700, .inl (ai bf)))] H locs := hw
  have loop_8 : ∀ (fu : Nat) (k : Int) (H : Heap) (locs : List Loc) (ls : Array Slot), (pln - k).toNat = fu → (pen ≤ k ∧ k ≤ pln) → (sk bf pln k = sk bf pln pen) → qw D A s.heap [((ap 0), .inr (2, [.ref (ap 1), .int (iI pfl), .ref (b 0), .int (iI pln), .int (iI pkd), .int (iI k), .int (iI pen), .int (iI per), .int (iI pls), .int (iI pss)])), ((ap 1), .inl (cB, 700, .inl (ai bf)))] H locs → lv_has ls 1 [(0, .ref (ap 0))] → W p l e R s m args below meth c H locs 0 0 Q (F0 m 8 ls []) := by
    intro fu
    induction fu using Nat.strongRecOn with
    | ind fu ih =>
    intro k H locs ls hn_8 h_k h_s hw hl
    have q_r := hbf k
    refine lv_aload_n hx hb dX2_advance_8 rfl (lv_at hl 0 rfl) ?_
    refine q_get hx hb hts hown hK hw.1 ci_X2 0 rfl 5 (by decide) fl_X2_137 rfl dX2_advance_9 ?_
    refine lv_aload_n hx hb dX2_advance_12 rfl (lv_at hl 0 rfl) ?_
    refine q_get hx hb hts hown hK hw.1 ci_X2 0 rfl 3 (by decide) fl_X2_32 rfl dX2_advance_13 ?_
    refine q_icmp_ge (tgt := 60) hx hb dX2_advance_16 (by decide) (by omega) (fun c_16 => ?_) (fun c_16 => ?_)
    · have h_e : k = sk bf pln pen := by rw [← h_s, sk_e (by omega)]
      refine lv_aload_n hx hb dX2_advance_60 rfl (lv_at hl 0 rfl) ?_
      refine q_get hx hb hts hown hK hw.1 ci_X2 0 rfl 5 (by decide) fl_X2_137 rfl dX2_advance_61 ?_
      refine lv_aload_n hx hb dX2_advance_64 rfl (lv_at hl 0 rfl) ?_
      refine q_get hx hb hts hown hK hw.1 ci_X2 0 rfl 3 (by decide) fl_X2_32 rfl dX2_advance_65 ?_
      refine q_icmp_lt (tgt := 87) hx hb dX2_advance_68 (by decide) (by omega) (fun c_68 => ?_) (fun c_68 => ?_)
      · refine lv_aload_n hx hb dX2_advance_87 rfl (lv_at hl 0 rfl) ?_
        refine q_get hx hb hts hown hK hw.1 ci_X2 0 rfl 0 (by decide) fl_X2_9 rfl dX2_advance_88 ?_
        refine lv_aload_n hx hb dX2_advance_91 rfl (lv_at hl 0 rfl) ?_
        refine q_get hx hb hts hown hK hw.1 ci_X2 0 rfl 5 (by decide) fl_X2_137 rfl dX2_advance_92 ?_
        refine q_bald hx hb hK hw.1 1 1 rfl rfl (z := k) (v := (bf k)) (by omega) rfl dX2_advance_95 ?_
        refine q_bipush hx hb dX2_advance_96 rfl ?_
        refine q_icmp_lt (tgt := 153) hx hb dX2_advance_98 (by decide) (by omega) (fun c_98 => ?_) (fun c_98 => ?_)
        · refine lv_aload_n hx hb dX2_advance_153 rfl (lv_at hl 0 rfl) ?_
          refine q_get hx hb hts hown hK hw.1 ci_X2 0 rfl 0 (by decide) fl_X2_9 rfl dX2_advance_154 ?_
          refine lv_aload_n hx hb dX2_advance_157 rfl (lv_at hl 0 rfl) ?_
          refine q_get hx hb hts hown hK hw.1 ci_X2 0 rfl 5 (by decide) fl_X2_137 rfl dX2_advance_158 ?_
          refine q_bald hx hb hK hw.1 1 1 rfl rfl (z := k) (v := (bf k)) (by omega) rfl dX2_advance_161 ?_
          refine q_bipush hx hb dX2_advance_162 rfl ?_
          refine q_icmp_lt (tgt := 218) hx hb dX2_advance_164 (by decide) (by omega) (fun c_164 => ?_) (fun c_164 => ?_)
          · refine lv_aload_n hx hb dX2_advance_218 rfl (lv_at hl 0 rfl) ?_
            refine lv_aload_n hx hb dX2_advance_219 rfl (lv_at hl 0 rfl) ?_
            refine q_get hx hb hts hown hK hw.1 ci_X2 0 rfl 5 (by decide) fl_X2_137 rfl dX2_advance_220 ?_
            refine q_iconst hx hb dX2_advance_223 ?_
            refine q_iadd hx hb dX2_advance_224 ?_
            refine q_put hx hb hts hown hK hw ci_X2 0 rfl 6 (by decide) fl_X2_48 rfl rfl rfl (Nat.le_of_ble_eq_true rfl) dX2_advance_225 (fun H locs hw => ?_)
            have hw : qw D A s.heap [((ap 0), .inr (2, [.ref (ap 1), .int (iI pfl), .ref (b 0), .int (iI pln), .int (iI pkd), .int (iI k), .int (iI (k + 1)), .int (iI per), .int (iI pls), .int (iI pss)])), ((ap 1), .inl (cB, 700, .inl (ai bf)))] H locs := hw
            refine lv_aload_n hx hb dX2_advance_228 rfl (lv_at hl 0 rfl) ?_
            refine lv_aload_n hx hb dX2_advance_229 rfl (lv_at hl 0 rfl) ?_
            refine q_get hx hb hts hown hK hw.1 ci_X2 0 rfl 0 (by decide) fl_X2_9 rfl dX2_advance_230 ?_
            refine lv_aload_n hx hb dX2_advance_233 rfl (lv_at hl 0 rfl) ?_
            refine q_get hx hb hts hown hK hw.1 ci_X2 0 rfl 5 (by decide) fl_X2_137 rfl dX2_advance_234 ?_
            refine q_bald hx hb hK hw.1 1 1 rfl rfl (z := k) (v := (bf k)) (by omega) rfl dX2_advance_237 ?_
            refine q_bipush hx hb dX2_advance_238 rfl ?_
            refine q_icmp_ne (tgt := 247) hx hb dX2_advance_240 (by decide) (by omega) (fun c_240 => ?_) (fun c_240 => ?_)
            · refine lv_aload_n hx hb dX2_advance_247 rfl (lv_at hl 0 rfl) ?_
              refine q_get hx hb hts hown hK hw.1 ci_X2 0 rfl 0 (by decide) fl_X2_9 rfl dX2_advance_248 ?_
              refine lv_aload_n hx hb dX2_advance_251 rfl (lv_at hl 0 rfl) ?_
              refine q_get hx hb hts hown hK hw.1 ci_X2 0 rfl 5 (by decide) fl_X2_137 rfl dX2_advance_252 ?_
              refine q_bald hx hb hK hw.1 1 1 rfl rfl (z := k) (v := (bf k)) (by omega) rfl dX2_advance_255 ?_
              refine q_bipush hx hb dX2_advance_256 rfl ?_
              refine q_icmp_ne (tgt := 265) hx hb dX2_advance_258 (by decide) (by omega) (fun c_258 => ?_) (fun c_258 => ?_)
              · refine q_iconst hx hb dX2_advance_265 ?_
                refine q_put hx hb hts hown hK hw ci_X2 0 rfl 4 (by decide) fl_X2_76 rfl rfl rfl (Nat.le_of_ble_eq_true rfl) dX2_advance_266 (fun H locs hw => ?_)
                have hw : qw D A s.heap [((ap 0), .inr (2, [.ref (ap 1), .int (iI pfl), .ref (b 0), .int (iI pln), .int (iI 5), .int (iI k), .int (iI (k + 1)), .int (iI per), .int (iI pls), .int (iI pss)])), ((ap 1), .inl (cB, 700, .inl (ai bf)))] H locs := hw
                exact hret (k, k + 1, 5) H locs 269 ls (by first | omega | exact PX_nx hY h0 h_e (by dsimp only; unfold tkE; first | (rw [if_pos (by omega)]; omega) | (rw [if_neg (by omega), if_pos (by omega)]) | (rw [if_neg (by omega), if_neg (by omega), if_pos (by omega)]) | (rw [if_neg (by omega), if_neg (by omega), if_neg (by omega)])) (by dsimp only; unfold tkK; first | (rw [if_pos (by omega)]) | (rw [if_neg (by omega), if_pos (by omega)]; first | rw [if_pos (by omega)] | rw [if_neg (by omega)]) | (rw [if_neg (by omega), if_neg (by omega), if_pos (by omega)]; first | rw [if_pos (by omega)] | rw [if_neg (by omega)]) | (rw [if_neg (by omega), if_neg (by omega), if_neg (by omega)]; first | rw [if_pos (by omega)] | rw [if_neg (by omega), if_pos (by omega)] | rw [if_neg (by omega), if_neg (by omega)]))) hw dX2_advance_269
              · refine q_iconst hx hb dX2_advance_261 ?_
                refine lv_goto (tgt := 266) hx hb dX2_advance_262 (by decide) ?_
                refine q_put hx hb hts hown hK hw ci_X2 0 rfl 4 (by decide) fl_X2_76 rfl rfl rfl (Nat.le_of_ble_eq_true rfl) dX2_advance_266 (fun H locs hw => ?_)
                have hw : qw D A s.heap [((ap 0), .inr (2, [.ref (ap 1), .int (iI pfl), .ref (b 0), .int (iI pln), .int (iI 4), .int (iI k), .int (iI (k + 1)), .int (iI per), .int (iI pls), .int (iI pss)])), ((ap 1), .inl (cB, 700, .inl (ai bf)))] H locs := hw
                exact hret (k, k + 1, 4) H locs 269 ls (by first | omega | exact PX_nx hY h0 h_e (by dsimp only; unfold tkE; first | (rw [if_pos (by omega)]; omega) | (rw [if_neg (by omega), if_pos (by omega)]) | (rw [if_neg (by omega), if_neg (by omega), if_pos (by omega)]) | (rw [if_neg (by omega), if_neg (by omega), if_neg (by omega)])) (by dsimp only; unfold tkK; first | (rw [if_pos (by omega)]) | (rw [if_neg (by omega), if_pos (by omega)]; first | rw [if_pos (by omega)] | rw [if_neg (by omega)]) | (rw [if_neg (by omega), if_neg (by omega), if_pos (by omega)]; first | rw [if_pos (by omega)] | rw [if_neg (by omega)]) | (rw [if_neg (by omega), if_neg (by omega), if_neg (by omega)]; first | rw [if_pos (by omega)] | rw [if_neg (by omega), if_pos (by omega)] | rw [if_neg (by omega), if_neg (by omega)]))) hw dX2_advance_269
            · refine q_iconst hx hb dX2_advance_243 ?_
              refine lv_goto (tgt := 266) hx hb dX2_advance_244 (by decide) ?_
              refine q_put hx hb hts hown hK hw ci_X2 0 rfl 4 (by decide) fl_X2_76 rfl rfl rfl (Nat.le_of_ble_eq_true rfl) dX2_advance_266 (fun H locs hw => ?_)
              have hw : qw D A s.heap [((ap 0), .inr (2, [.ref (ap 1), .int (iI pfl), .ref (b 0), .int (iI pln), .int (iI 3), .int (iI k), .int (iI (k + 1)), .int (iI per), .int (iI pls), .int (iI pss)])), ((ap 1), .inl (cB, 700, .inl (ai bf)))] H locs := hw
              exact hret (k, k + 1, 3) H locs 269 ls (by first | omega | exact PX_nx hY h0 h_e (by dsimp only; unfold tkE; first | (rw [if_pos (by omega)]; omega) | (rw [if_neg (by omega), if_pos (by omega)]) | (rw [if_neg (by omega), if_neg (by omega), if_pos (by omega)]) | (rw [if_neg (by omega), if_neg (by omega), if_neg (by omega)])) (by dsimp only; unfold tkK; first | (rw [if_pos (by omega)]) | (rw [if_neg (by omega), if_pos (by omega)]; first | rw [if_pos (by omega)] | rw [if_neg (by omega)]) | (rw [if_neg (by omega), if_neg (by omega), if_pos (by omega)]; first | rw [if_pos (by omega)] | rw [if_neg (by omega)]) | (rw [if_neg (by omega), if_neg (by omega), if_neg (by omega)]; first | rw [if_pos (by omega)] | rw [if_neg (by omega), if_pos (by omega)] | rw [if_neg (by omega), if_neg (by omega)]))) hw dX2_advance_269
          · refine lv_aload_n hx hb dX2_advance_167 rfl (lv_at hl 0 rfl) ?_
            refine q_get hx hb hts hown hK hw.1 ci_X2 0 rfl 0 (by decide) fl_X2_9 rfl dX2_advance_168 ?_
            refine lv_aload_n hx hb dX2_advance_171 rfl (lv_at hl 0 rfl) ?_
            refine q_get hx hb hts hown hK hw.1 ci_X2 0 rfl 5 (by decide) fl_X2_137 rfl dX2_advance_172 ?_
            refine q_bald hx hb hK hw.1 1 1 rfl rfl (z := k) (v := (bf k)) (by omega) rfl dX2_advance_175 ?_
            refine q_bipush hx hb dX2_advance_176 rfl ?_
            refine q_icmp_gt (tgt := 218) hx hb dX2_advance_178 (by decide) (by omega) (fun c_178 => ?_) (fun c_178 => ?_)
            · refine lv_aload_n hx hb dX2_advance_218 rfl (lv_at hl 0 rfl) ?_
              refine lv_aload_n hx hb dX2_advance_219 rfl (lv_at hl 0 rfl) ?_
              refine q_get hx hb hts hown hK hw.1 ci_X2 0 rfl 5 (by decide) fl_X2_137 rfl dX2_advance_220 ?_
              refine q_iconst hx hb dX2_advance_223 ?_
              refine q_iadd hx hb dX2_advance_224 ?_
              refine q_put hx hb hts hown hK hw ci_X2 0 rfl 6 (by decide) fl_X2_48 rfl rfl rfl (Nat.le_of_ble_eq_true rfl) dX2_advance_225 (fun H locs hw => ?_)
              have hw : qw D A s.heap [((ap 0), .inr (2, [.ref (ap 1), .int (iI pfl), .ref (b 0), .int (iI pln), .int (iI pkd), .int (iI k), .int (iI (k + 1)), .int (iI per), .int (iI pls), .int (iI pss)])), ((ap 1), .inl (cB, 700, .inl (ai bf)))] H locs := hw
              refine lv_aload_n hx hb dX2_advance_228 rfl (lv_at hl 0 rfl) ?_
              refine lv_aload_n hx hb dX2_advance_229 rfl (lv_at hl 0 rfl) ?_
              refine q_get hx hb hts hown hK hw.1 ci_X2 0 rfl 0 (by decide) fl_X2_9 rfl dX2_advance_230 ?_
              refine lv_aload_n hx hb dX2_advance_233 rfl (lv_at hl 0 rfl) ?_
              refine q_get hx hb hts hown hK hw.1 ci_X2 0 rfl 5 (by decide) fl_X2_137 rfl dX2_advance_234 ?_
              refine q_bald hx hb hK hw.1 1 1 rfl rfl (z := k) (v := (bf k)) (by omega) rfl dX2_advance_237 ?_
              refine q_bipush hx hb dX2_advance_238 rfl ?_
              refine q_icmp_ne (tgt := 247) hx hb dX2_advance_240 (by decide) (by omega) (fun c_240 => ?_) (fun c_240 => ?_)
              · refine lv_aload_n hx hb dX2_advance_247 rfl (lv_at hl 0 rfl) ?_
                refine q_get hx hb hts hown hK hw.1 ci_X2 0 rfl 0 (by decide) fl_X2_9 rfl dX2_advance_248 ?_
                refine lv_aload_n hx hb dX2_advance_251 rfl (lv_at hl 0 rfl) ?_
                refine q_get hx hb hts hown hK hw.1 ci_X2 0 rfl 5 (by decide) fl_X2_137 rfl dX2_advance_252 ?_
                refine q_bald hx hb hK hw.1 1 1 rfl rfl (z := k) (v := (bf k)) (by omega) rfl dX2_advance_255 ?_
                refine q_bipush hx hb dX2_advance_256 rfl ?_
                refine q_icmp_ne (tgt := 265) hx hb dX2_advance_258 (by decide) (by omega) (fun c_258 => ?_) (fun c_258 => ?_)
                · refine q_iconst hx hb dX2_advance_265 ?_
                  refine q_put hx hb hts hown hK hw ci_X2 0 rfl 4 (by decide) fl_X2_76 rfl rfl rfl (Nat.le_of_ble_eq_true rfl) dX2_advance_266 (fun H locs hw => ?_)
                  have hw : qw D A s.heap [((ap 0), .inr (2, [.ref (ap 1), .int (iI pfl), .ref (b 0), .int (iI pln), .int (iI 5), .int (iI k), .int (iI (k + 1)), .int (iI per), .int (iI pls), .int (iI pss)])), ((ap 1), .inl (cB, 700, .inl (ai bf)))] H locs := hw
                  exact hret (k, k + 1, 5) H locs 269 ls (by first | omega | exact PX_nx hY h0 h_e (by dsimp only; unfold tkE; first | (rw [if_pos (by omega)]; omega) | (rw [if_neg (by omega), if_pos (by omega)]) | (rw [if_neg (by omega), if_neg (by omega), if_pos (by omega)]) | (rw [if_neg (by omega), if_neg (by omega), if_neg (by omega)])) (by dsimp only; unfold tkK; first | (rw [if_pos (by omega)]) | (rw [if_neg (by omega), if_pos (by omega)]; first | rw [if_pos (by omega)] | rw [if_neg (by omega)]) | (rw [if_neg (by omega), if_neg (by omega), if_pos (by omega)]; first | rw [if_pos (by omega)] | rw [if_neg (by omega)]) | (rw [if_neg (by omega), if_neg (by omega), if_neg (by omega)]; first | rw [if_pos (by omega)] | rw [if_neg (by omega), if_pos (by omega)] | rw [if_neg (by omega), if_neg (by omega)]))) hw dX2_advance_269
                · refine q_iconst hx hb dX2_advance_261 ?_
                  refine lv_goto (tgt := 266) hx hb dX2_advance_262 (by decide) ?_
                  refine q_put hx hb hts hown hK hw ci_X2 0 rfl 4 (by decide) fl_X2_76 rfl rfl rfl (Nat.le_of_ble_eq_true rfl) dX2_advance_266 (fun H locs hw => ?_)
                  have hw : qw D A s.heap [((ap 0), .inr (2, [.ref (ap 1), .int (iI pfl), .ref (b 0), .int (iI pln), .int (iI 4), .int (iI k), .int (iI (k + 1)), .int (iI per), .int (iI pls), .int (iI pss)])), ((ap 1), .inl (cB, 700, .inl (ai bf)))] H locs := hw
                  exact hret (k, k + 1, 4) H locs 269 ls (by first | omega | exact PX_nx hY h0 h_e (by dsimp only; unfold tkE; first | (rw [if_pos (by omega)]; omega) | (rw [if_neg (by omega), if_pos (by omega)]) | (rw [if_neg (by omega), if_neg (by omega), if_pos (by omega)]) | (rw [if_neg (by omega), if_neg (by omega), if_neg (by omega)])) (by dsimp only; unfold tkK; first | (rw [if_pos (by omega)]) | (rw [if_neg (by omega), if_pos (by omega)]; first | rw [if_pos (by omega)] | rw [if_neg (by omega)]) | (rw [if_neg (by omega), if_neg (by omega), if_pos (by omega)]; first | rw [if_pos (by omega)] | rw [if_neg (by omega)]) | (rw [if_neg (by omega), if_neg (by omega), if_neg (by omega)]; first | rw [if_pos (by omega)] | rw [if_neg (by omega), if_pos (by omega)] | rw [if_neg (by omega), if_neg (by omega)]))) hw dX2_advance_269
              · refine q_iconst hx hb dX2_advance_243 ?_
                refine lv_goto (tgt := 266) hx hb dX2_advance_244 (by decide) ?_
                refine q_put hx hb hts hown hK hw ci_X2 0 rfl 4 (by decide) fl_X2_76 rfl rfl rfl (Nat.le_of_ble_eq_true rfl) dX2_advance_266 (fun H locs hw => ?_)
                have hw : qw D A s.heap [((ap 0), .inr (2, [.ref (ap 1), .int (iI pfl), .ref (b 0), .int (iI pln), .int (iI 3), .int (iI k), .int (iI (k + 1)), .int (iI per), .int (iI pls), .int (iI pss)])), ((ap 1), .inl (cB, 700, .inl (ai bf)))] H locs := hw
                exact hret (k, k + 1, 3) H locs 269 ls (by first | omega | exact PX_nx hY h0 h_e (by dsimp only; unfold tkE; first | (rw [if_pos (by omega)]; omega) | (rw [if_neg (by omega), if_pos (by omega)]) | (rw [if_neg (by omega), if_neg (by omega), if_pos (by omega)]) | (rw [if_neg (by omega), if_neg (by omega), if_neg (by omega)])) (by dsimp only; unfold tkK; first | (rw [if_pos (by omega)]) | (rw [if_neg (by omega), if_pos (by omega)]; first | rw [if_pos (by omega)] | rw [if_neg (by omega)]) | (rw [if_neg (by omega), if_neg (by omega), if_pos (by omega)]; first | rw [if_pos (by omega)] | rw [if_neg (by omega)]) | (rw [if_neg (by omega), if_neg (by omega), if_neg (by omega)]; first | rw [if_pos (by omega)] | rw [if_neg (by omega), if_pos (by omega)] | rw [if_neg (by omega), if_neg (by omega)]))) hw dX2_advance_269
            · refine lv_aload_n hx hb dX2_advance_181 rfl (lv_at hl 0 rfl) ?_
              refine lv_aload_n hx hb dX2_advance_182 rfl (lv_at hl 0 rfl) ?_
              refine q_bipush hx hb dX2_advance_183 rfl ?_
              refine q_bipush hx hb dX2_advance_185 rfl ?_
              refine q_callP (As := [.int (iI 48), .int (iI 57)]) (rest := [.ref (ap 0)]) hx hb hml hown hts hK (c_X2_runEnd (48) (57) (by first | omega | assumption) (by first | omega | assumption) (by first | omega | assumption)) yi_X2_runEnd ml_X2_163 (by rw [hR]; decide) hw.1 0 rfl rfl rfl rfl hl.1 (lv_room (Nat.le_of_ble_eq_true rfl)) dX2_advance_187 ⟨by rw [hR]; exact Nat.zero_le _, by rw [hR]; exact Nat.zero_le _⟩ ?_
              refine q_put hx hb hts hown hK hw ci_X2 0 rfl 6 (by decide) fl_X2_48 rfl rfl rfl (Nat.le_of_ble_eq_true rfl) dX2_advance_190 (fun H locs hw => ?_)
              have hw : qw D A s.heap [((ap 0), .inr (2, [.ref (ap 1), .int (iI pfl), .ref (b 0), .int (iI pln), .int (iI pkd), .int (iI k), .int (iI (ru bf pln 48 57 k)), .int (iI per), .int (iI pls), .int (iI pss)])), ((ap 1), .inl (cB, 700, .inl (ai bf)))] H locs := hw
              refine lv_aload_n hx hb dX2_advance_193 rfl (lv_at hl 0 rfl) ?_
              refine lv_aload_n hx hb dX2_advance_194 rfl (lv_at hl 0 rfl) ?_
              refine q_get hx hb hts hown hK hw.1 ci_X2 0 rfl 6 (by decide) fl_X2_48 rfl dX2_advance_195 ?_
              refine lv_aload_n hx hb dX2_advance_198 rfl (lv_at hl 0 rfl) ?_
              refine q_get hx hb hts hown hK hw.1 ci_X2 0 rfl 5 (by decide) fl_X2_137 rfl dX2_advance_199 ?_
              refine q_isub hx hb dX2_advance_202 ?_
              refine q_iconst hx hb dX2_advance_203 ?_
              have q_u := ru_bd (f := bf) (lo := 48) (hi := 57) (n := pln) (k := k) (by omega)
              refine q_icmp_gt (tgt := 211) hx hb dX2_advance_204 (by decide) (by omega) (fun c_204 => ?_) (fun c_204 => ?_)
              · refine q_iconst hx hb dX2_advance_211 ?_
                refine q_put hx hb hts hown hK hw ci_X2 0 rfl 4 (by decide) fl_X2_76 rfl rfl rfl (Nat.le_of_ble_eq_true rfl) dX2_advance_212 (fun H locs hw => ?_)
                have hw : qw D A s.heap [((ap 0), .inr (2, [.ref (ap 1), .int (iI pfl), .ref (b 0), .int (iI pln), .int (iI 5), .int (iI k), .int (iI (ru bf pln 48 57 k)), .int (iI per), .int (iI pls), .int (iI pss)])), ((ap 1), .inl (cB, 700, .inl (ai bf)))] H locs := hw
                refine lv_goto (tgt := 269) hx hb dX2_advance_215 (by decide) ?_
                exact hret (k, ru bf pln 48 57 k, 5) H locs 269 ls (by first | omega | exact PX_nx hY h0 h_e (by dsimp only; unfold tkE; first | (rw [if_pos (by omega)]; omega) | (rw [if_neg (by omega), if_pos (by omega)]) | (rw [if_neg (by omega), if_neg (by omega), if_pos (by omega)]) | (rw [if_neg (by omega), if_neg (by omega), if_neg (by omega)])) (by dsimp only; unfold tkK; first | (rw [if_pos (by omega)]) | (rw [if_neg (by omega), if_pos (by omega)]; first | rw [if_pos (by omega)] | rw [if_neg (by omega)]) | (rw [if_neg (by omega), if_neg (by omega), if_pos (by omega)]; first | rw [if_pos (by omega)] | rw [if_neg (by omega)]) | (rw [if_neg (by omega), if_neg (by omega), if_neg (by omega)]; first | rw [if_pos (by omega)] | rw [if_neg (by omega), if_pos (by omega)] | rw [if_neg (by omega), if_neg (by omega)]))) hw dX2_advance_269
              · refine q_iconst hx hb dX2_advance_207 ?_
                refine lv_goto (tgt := 212) hx hb dX2_advance_208 (by decide) ?_
                refine q_put hx hb hts hown hK hw ci_X2 0 rfl 4 (by decide) fl_X2_76 rfl rfl rfl (Nat.le_of_ble_eq_true rfl) dX2_advance_212 (fun H locs hw => ?_)
                have hw : qw D A s.heap [((ap 0), .inr (2, [.ref (ap 1), .int (iI pfl), .ref (b 0), .int (iI pln), .int (iI 2), .int (iI k), .int (iI (ru bf pln 48 57 k)), .int (iI per), .int (iI pls), .int (iI pss)])), ((ap 1), .inl (cB, 700, .inl (ai bf)))] H locs := hw
                refine lv_goto (tgt := 269) hx hb dX2_advance_215 (by decide) ?_
                exact hret (k, ru bf pln 48 57 k, 2) H locs 269 ls (by first | omega | exact PX_nx hY h0 h_e (by dsimp only; unfold tkE; first | (rw [if_pos (by omega)]; omega) | (rw [if_neg (by omega), if_pos (by omega)]) | (rw [if_neg (by omega), if_neg (by omega), if_pos (by omega)]) | (rw [if_neg (by omega), if_neg (by omega), if_neg (by omega)])) (by dsimp only; unfold tkK; first | (rw [if_pos (by omega)]) | (rw [if_neg (by omega), if_pos (by omega)]; first | rw [if_pos (by omega)] | rw [if_neg (by omega)]) | (rw [if_neg (by omega), if_neg (by omega), if_pos (by omega)]; first | rw [if_pos (by omega)] | rw [if_neg (by omega)]) | (rw [if_neg (by omega), if_neg (by omega), if_neg (by omega)]; first | rw [if_pos (by omega)] | rw [if_neg (by omega), if_pos (by omega)] | rw [if_neg (by omega), if_neg (by omega)]))) hw dX2_advance_269
        · refine lv_aload_n hx hb dX2_advance_101 rfl (lv_at hl 0 rfl) ?_
          refine q_get hx hb hts hown hK hw.1 ci_X2 0 rfl 0 (by decide) fl_X2_9 rfl dX2_advance_102 ?_
          refine lv_aload_n hx hb dX2_advance_105 rfl (lv_at hl 0 rfl) ?_
          refine q_get hx hb hts hown hK hw.1 ci_X2 0 rfl 5 (by decide) fl_X2_137 rfl dX2_advance_106 ?_
          refine q_bald hx hb hK hw.1 1 1 rfl rfl (z := k) (v := (bf k)) (by omega) rfl dX2_advance_109 ?_
          refine q_bipush hx hb dX2_advance_110 rfl ?_
          refine q_icmp_gt (tgt := 153) hx hb dX2_advance_112 (by decide) (by omega) (fun c_112 => ?_) (fun c_112 => ?_)
          · refine lv_aload_n hx hb dX2_advance_153 rfl (lv_at hl 0 rfl) ?_
            refine q_get hx hb hts hown hK hw.1 ci_X2 0 rfl 0 (by decide) fl_X2_9 rfl dX2_advance_154 ?_
            refine lv_aload_n hx hb dX2_advance_157 rfl (lv_at hl 0 rfl) ?_
            refine q_get hx hb hts hown hK hw.1 ci_X2 0 rfl 5 (by decide) fl_X2_137 rfl dX2_advance_158 ?_
            refine q_bald hx hb hK hw.1 1 1 rfl rfl (z := k) (v := (bf k)) (by omega) rfl dX2_advance_161 ?_
            refine q_bipush hx hb dX2_advance_162 rfl ?_
            refine q_icmp_lt (tgt := 218) hx hb dX2_advance_164 (by decide) (by omega) (fun c_164 => ?_) (fun c_164 => ?_)
            · refine lv_aload_n hx hb dX2_advance_218 rfl (lv_at hl 0 rfl) ?_
              refine lv_aload_n hx hb dX2_advance_219 rfl (lv_at hl 0 rfl) ?_
              refine q_get hx hb hts hown hK hw.1 ci_X2 0 rfl 5 (by decide) fl_X2_137 rfl dX2_advance_220 ?_
              refine q_iconst hx hb dX2_advance_223 ?_
              refine q_iadd hx hb dX2_advance_224 ?_
              refine q_put hx hb hts hown hK hw ci_X2 0 rfl 6 (by decide) fl_X2_48 rfl rfl rfl (Nat.le_of_ble_eq_true rfl) dX2_advance_225 (fun H locs hw => ?_)
              have hw : qw D A s.heap [((ap 0), .inr (2, [.ref (ap 1), .int (iI pfl), .ref (b 0), .int (iI pln), .int (iI pkd), .int (iI k), .int (iI (k + 1)), .int (iI per), .int (iI pls), .int (iI pss)])), ((ap 1), .inl (cB, 700, .inl (ai bf)))] H locs := hw
              refine lv_aload_n hx hb dX2_advance_228 rfl (lv_at hl 0 rfl) ?_
              refine lv_aload_n hx hb dX2_advance_229 rfl (lv_at hl 0 rfl) ?_
              refine q_get hx hb hts hown hK hw.1 ci_X2 0 rfl 0 (by decide) fl_X2_9 rfl dX2_advance_230 ?_
              refine lv_aload_n hx hb dX2_advance_233 rfl (lv_at hl 0 rfl) ?_
              refine q_get hx hb hts hown hK hw.1 ci_X2 0 rfl 5 (by decide) fl_X2_137 rfl dX2_advance_234 ?_
              refine q_bald hx hb hK hw.1 1 1 rfl rfl (z := k) (v := (bf k)) (by omega) rfl dX2_advance_237 ?_
              refine q_bipush hx hb dX2_advance_238 rfl ?_
              refine q_icmp_ne (tgt := 247) hx hb dX2_advance_240 (by decide) (by omega) (fun c_240 => ?_) (fun c_240 => ?_)
              · refine lv_aload_n hx hb dX2_advance_247 rfl (lv_at hl 0 rfl) ?_
                refine q_get hx hb hts hown hK hw.1 ci_X2 0 rfl 0 (by decide) fl_X2_9 rfl dX2_advance_248 ?_
                refine lv_aload_n hx hb dX2_advance_251 rfl (lv_at hl 0 rfl) ?_
                refine q_get hx hb hts hown hK hw.1 ci_X2 0 rfl 5 (by decide) fl_X2_137 rfl dX2_advance_252 ?_
                refine q_bald hx hb hK hw.1 1 1 rfl rfl (z := k) (v := (bf k)) (by omega) rfl dX2_advance_255 ?_
                refine q_bipush hx hb dX2_advance_256 rfl ?_
                refine q_icmp_ne (tgt := 265) hx hb dX2_advance_258 (by decide) (by omega) (fun c_258 => ?_) (fun c_258 => ?_)
                · refine q_iconst hx hb dX2_advance_265 ?_
                  refine q_put hx hb hts hown hK hw ci_X2 0 rfl 4 (by decide) fl_X2_76 rfl rfl rfl (Nat.le_of_ble_eq_true rfl) dX2_advance_266 (fun H locs hw => ?_)
                  have hw : qw D A s.heap [((ap 0), .inr (2, [.ref (ap 1), .int (iI pfl), .ref (b 0), .int (iI pln), .int (iI 5), .int (iI k), .int (iI (k + 1)), .int (iI per), .int (iI pls), .int (iI pss)])), ((ap 1), .inl (cB, 700, .inl (ai bf)))] H locs := hw
                  exact hret (k, k + 1, 5) H locs 269 ls (by first | omega | exact PX_nx hY h0 h_e (by dsimp only; unfold tkE; first | (rw [if_pos (by omega)]; omega) | (rw [if_neg (by omega), if_pos (by omega)]) | (rw [if_neg (by omega), if_neg (by omega), if_pos (by omega)]) | (rw [if_neg (by omega), if_neg (by omega), if_neg (by omega)])) (by dsimp only; unfold tkK; first | (rw [if_pos (by omega)]) | (rw [if_neg (by omega), if_pos (by omega)]; first | rw [if_pos (by omega)] | rw [if_neg (by omega)]) | (rw [if_neg (by omega), if_neg (by omega), if_pos (by omega)]; first | rw [if_pos (by omega)] | rw [if_neg (by omega)]) | (rw [if_neg (by omega), if_neg (by omega), if_neg (by omega)]; first | rw [if_pos (by omega)] | rw [if_neg (by omega), if_pos (by omega)] | rw [if_neg (by omega), if_neg (by omega)]))) hw dX2_advance_269
                · refine q_iconst hx hb dX2_advance_261 ?_
                  refine lv_goto (tgt := 266) hx hb dX2_advance_262 (by decide) ?_
                  refine q_put hx hb hts hown hK hw ci_X2 0 rfl 4 (by decide) fl_X2_76 rfl rfl rfl (Nat.le_of_ble_eq_true rfl) dX2_advance_266 (fun H locs hw => ?_)
                  have hw : qw D A s.heap [((ap 0), .inr (2, [.ref (ap 1), .int (iI pfl), .ref (b 0), .int (iI pln), .int (iI 4), .int (iI k), .int (iI (k + 1)), .int (iI per), .int (iI pls), .int (iI pss)])), ((ap 1), .inl (cB, 700, .inl (ai bf)))] H locs := hw
                  exact hret (k, k + 1, 4) H locs 269 ls (by first | omega | exact PX_nx hY h0 h_e (by dsimp only; unfold tkE; first | (rw [if_pos (by omega)]; omega) | (rw [if_neg (by omega), if_pos (by omega)]) | (rw [if_neg (by omega), if_neg (by omega), if_pos (by omega)]) | (rw [if_neg (by omega), if_neg (by omega), if_neg (by omega)])) (by dsimp only; unfold tkK; first | (rw [if_pos (by omega)]) | (rw [if_neg (by omega), if_pos (by omega)]; first | rw [if_pos (by omega)] | rw [if_neg (by omega)]) | (rw [if_neg (by omega), if_neg (by omega), if_pos (by omega)]; first | rw [if_pos (by omega)] | rw [if_neg (by omega)]) | (rw [if_neg (by omega), if_neg (by omega), if_neg (by omega)]; first | rw [if_pos (by omega)] | rw [if_neg (by omega), if_pos (by omega)] | rw [if_neg (by omega), if_neg (by omega)]))) hw dX2_advance_269
              · refine q_iconst hx hb dX2_advance_243 ?_
                refine lv_goto (tgt := 266) hx hb dX2_advance_244 (by decide) ?_
                refine q_put hx hb hts hown hK hw ci_X2 0 rfl 4 (by decide) fl_X2_76 rfl rfl rfl (Nat.le_of_ble_eq_true rfl) dX2_advance_266 (fun H locs hw => ?_)
                have hw : qw D A s.heap [((ap 0), .inr (2, [.ref (ap 1), .int (iI pfl), .ref (b 0), .int (iI pln), .int (iI 3), .int (iI k), .int (iI (k + 1)), .int (iI per), .int (iI pls), .int (iI pss)])), ((ap 1), .inl (cB, 700, .inl (ai bf)))] H locs := hw
                exact hret (k, k + 1, 3) H locs 269 ls (by first | omega | exact PX_nx hY h0 h_e (by dsimp only; unfold tkE; first | (rw [if_pos (by omega)]; omega) | (rw [if_neg (by omega), if_pos (by omega)]) | (rw [if_neg (by omega), if_neg (by omega), if_pos (by omega)]) | (rw [if_neg (by omega), if_neg (by omega), if_neg (by omega)])) (by dsimp only; unfold tkK; first | (rw [if_pos (by omega)]) | (rw [if_neg (by omega), if_pos (by omega)]; first | rw [if_pos (by omega)] | rw [if_neg (by omega)]) | (rw [if_neg (by omega), if_neg (by omega), if_pos (by omega)]; first | rw [if_pos (by omega)] | rw [if_neg (by omega)]) | (rw [if_neg (by omega), if_neg (by omega), if_neg (by omega)]; first | rw [if_pos (by omega)] | rw [if_neg (by omega), if_pos (by omega)] | rw [if_neg (by omega), if_neg (by omega)]))) hw dX2_advance_269
            · refine lv_aload_n hx hb dX2_advance_167 rfl (lv_at hl 0 rfl) ?_
              refine q_get hx hb hts hown hK hw.1 ci_X2 0 rfl 0 (by decide) fl_X2_9 rfl dX2_advance_168 ?_
              refine lv_aload_n hx hb dX2_advance_171 rfl (lv_at hl 0 rfl) ?_
              refine q_get hx hb hts hown hK hw.1 ci_X2 0 rfl 5 (by decide) fl_X2_137 rfl dX2_advance_172 ?_
              refine q_bald hx hb hK hw.1 1 1 rfl rfl (z := k) (v := (bf k)) (by omega) rfl dX2_advance_175 ?_
              refine q_bipush hx hb dX2_advance_176 rfl ?_
              refine q_icmp_gt (tgt := 218) hx hb dX2_advance_178 (by decide) (by omega) (fun c_178 => ?_) (fun c_178 => ?_)
              · refine lv_aload_n hx hb dX2_advance_218 rfl (lv_at hl 0 rfl) ?_
                refine lv_aload_n hx hb dX2_advance_219 rfl (lv_at hl 0 rfl) ?_
                refine q_get hx hb hts hown hK hw.1 ci_X2 0 rfl 5 (by decide) fl_X2_137 rfl dX2_advance_220 ?_
                refine q_iconst hx hb dX2_advance_223 ?_
                refine q_iadd hx hb dX2_advance_224 ?_
                refine q_put hx hb hts hown hK hw ci_X2 0 rfl 6 (by decide) fl_X2_48 rfl rfl rfl (Nat.le_of_ble_eq_true rfl) dX2_advance_225 (fun H locs hw => ?_)
                have hw : qw D A s.heap [((ap 0), .inr (2, [.ref (ap 1), .int (iI pfl), .ref (b 0), .int (iI pln), .int (iI pkd), .int (iI k), .int (iI (k + 1)), .int (iI per), .int (iI pls), .int (iI pss)])), ((ap 1), .inl (cB, 700, .inl (ai bf)))] H locs := hw
                refine lv_aload_n hx hb dX2_advance_228 rfl (lv_at hl 0 rfl) ?_
                refine lv_aload_n hx hb dX2_advance_229 rfl (lv_at hl 0 rfl) ?_
                refine q_get hx hb hts hown hK hw.1 ci_X2 0 rfl 0 (by decide) fl_X2_9 rfl dX2_advance_230 ?_
                refine lv_aload_n hx hb dX2_advance_233 rfl (lv_at hl 0 rfl) ?_
                refine q_get hx hb hts hown hK hw.1 ci_X2 0 rfl 5 (by decide) fl_X2_137 rfl dX2_advance_234 ?_
                refine q_bald hx hb hK hw.1 1 1 rfl rfl (z := k) (v := (bf k)) (by omega) rfl dX2_advance_237 ?_
                refine q_bipush hx hb dX2_advance_238 rfl ?_
                refine q_icmp_ne (tgt := 247) hx hb dX2_advance_240 (by decide) (by omega) (fun c_240 => ?_) (fun c_240 => ?_)
                · refine lv_aload_n hx hb dX2_advance_247 rfl (lv_at hl 0 rfl) ?_
                  refine q_get hx hb hts hown hK hw.1 ci_X2 0 rfl 0 (by decide) fl_X2_9 rfl dX2_advance_248 ?_
                  refine lv_aload_n hx hb dX2_advance_251 rfl (lv_at hl 0 rfl) ?_
                  refine q_get hx hb hts hown hK hw.1 ci_X2 0 rfl 5 (by decide) fl_X2_137 rfl dX2_advance_252 ?_
                  refine q_bald hx hb hK hw.1 1 1 rfl rfl (z := k) (v := (bf k)) (by omega) rfl dX2_advance_255 ?_
                  refine q_bipush hx hb dX2_advance_256 rfl ?_
                  refine q_icmp_ne (tgt := 265) hx hb dX2_advance_258 (by decide) (by omega) (fun c_258 => ?_) (fun c_258 => ?_)
                  · refine q_iconst hx hb dX2_advance_265 ?_
                    refine q_put hx hb hts hown hK hw ci_X2 0 rfl 4 (by decide) fl_X2_76 rfl rfl rfl (Nat.le_of_ble_eq_true rfl) dX2_advance_266 (fun H locs hw => ?_)
                    have hw : qw D A s.heap [((ap 0), .inr (2, [.ref (ap 1), .int (iI pfl), .ref (b 0), .int (iI pln), .int (iI 5), .int (iI k), .int (iI (k + 1)), .int (iI per), .int (iI pls), .int (iI pss)])), ((ap 1), .inl (cB, 700, .inl (ai bf)))] H locs := hw
                    exact hret (k, k + 1, 5) H locs 269 ls (by first | omega | exact PX_nx hY h0 h_e (by dsimp only; unfold tkE; first | (rw [if_pos (by omega)]; omega) | (rw [if_neg (by omega), if_pos (by omega)]) | (rw [if_neg (by omega), if_neg (by omega), if_pos (by omega)]) | (rw [if_neg (by omega), if_neg (by omega), if_neg (by omega)])) (by dsimp only; unfold tkK; first | (rw [if_pos (by omega)]) | (rw [if_neg (by omega), if_pos (by omega)]; first | rw [if_pos (by omega)] | rw [if_neg (by omega)]) | (rw [if_neg (by omega), if_neg (by omega), if_pos (by omega)]; first | rw [if_pos (by omega)] | rw [if_neg (by omega)]) | (rw [if_neg (by omega), if_neg (by omega), if_neg (by omega)]; first | rw [if_pos (by omega)] | rw [if_neg (by omega), if_pos (by omega)] | rw [if_neg (by omega), if_neg (by omega)]))) hw dX2_advance_269
                  · refine q_iconst hx hb dX2_advance_261 ?_
                    refine lv_goto (tgt := 266) hx hb dX2_advance_262 (by decide) ?_
                    refine q_put hx hb hts hown hK hw ci_X2 0 rfl 4 (by decide) fl_X2_76 rfl rfl rfl (Nat.le_of_ble_eq_true rfl) dX2_advance_266 (fun H locs hw => ?_)
                    have hw : qw D A s.heap [((ap 0), .inr (2, [.ref (ap 1), .int (iI pfl), .ref (b 0), .int (iI pln), .int (iI 4), .int (iI k), .int (iI (k + 1)), .int (iI per), .int (iI pls), .int (iI pss)])), ((ap 1), .inl (cB, 700, .inl (ai bf)))] H locs := hw
                    exact hret (k, k + 1, 4) H locs 269 ls (by first | omega | exact PX_nx hY h0 h_e (by dsimp only; unfold tkE; first | (rw [if_pos (by omega)]; omega) | (rw [if_neg (by omega), if_pos (by omega)]) | (rw [if_neg (by omega), if_neg (by omega), if_pos (by omega)]) | (rw [if_neg (by omega), if_neg (by omega), if_neg (by omega)])) (by dsimp only; unfold tkK; first | (rw [if_pos (by omega)]) | (rw [if_neg (by omega), if_pos (by omega)]; first | rw [if_pos (by omega)] | rw [if_neg (by omega)]) | (rw [if_neg (by omega), if_neg (by omega), if_pos (by omega)]; first | rw [if_pos (by omega)] | rw [if_neg (by omega)]) | (rw [if_neg (by omega), if_neg (by omega), if_neg (by omega)]; first | rw [if_pos (by omega)] | rw [if_neg (by omega), if_pos (by omega)] | rw [if_neg (by omega), if_neg (by omega)]))) hw dX2_advance_269
                · refine q_iconst hx hb dX2_advance_243 ?_
                  refine lv_goto (tgt := 266) hx hb dX2_advance_244 (by decide) ?_
                  refine q_put hx hb hts hown hK hw ci_X2 0 rfl 4 (by decide) fl_X2_76 rfl rfl rfl (Nat.le_of_ble_eq_true rfl) dX2_advance_266 (fun H locs hw => ?_)
                  have hw : qw D A s.heap [((ap 0), .inr (2, [.ref (ap 1), .int (iI pfl), .ref (b 0), .int (iI pln), .int (iI 3), .int (iI k), .int (iI (k + 1)), .int (iI per), .int (iI pls), .int (iI pss)])), ((ap 1), .inl (cB, 700, .inl (ai bf)))] H locs := hw
                  exact hret (k, k + 1, 3) H locs 269 ls (by first | omega | exact PX_nx hY h0 h_e (by dsimp only; unfold tkE; first | (rw [if_pos (by omega)]; omega) | (rw [if_neg (by omega), if_pos (by omega)]) | (rw [if_neg (by omega), if_neg (by omega), if_pos (by omega)]) | (rw [if_neg (by omega), if_neg (by omega), if_neg (by omega)])) (by dsimp only; unfold tkK; first | (rw [if_pos (by omega)]) | (rw [if_neg (by omega), if_pos (by omega)]; first | rw [if_pos (by omega)] | rw [if_neg (by omega)]) | (rw [if_neg (by omega), if_neg (by omega), if_pos (by omega)]; first | rw [if_pos (by omega)] | rw [if_neg (by omega)]) | (rw [if_neg (by omega), if_neg (by omega), if_neg (by omega)]; first | rw [if_pos (by omega)] | rw [if_neg (by omega), if_pos (by omega)] | rw [if_neg (by omega), if_neg (by omega)]))) hw dX2_advance_269
              · refine lv_aload_n hx hb dX2_advance_181 rfl (lv_at hl 0 rfl) ?_
                refine lv_aload_n hx hb dX2_advance_182 rfl (lv_at hl 0 rfl) ?_
                refine q_bipush hx hb dX2_advance_183 rfl ?_
                refine q_bipush hx hb dX2_advance_185 rfl ?_
                refine q_callP (As := [.int (iI 48), .int (iI 57)]) (rest := [.ref (ap 0)]) hx hb hml hown hts hK (c_X2_runEnd (48) (57) (by first | omega | assumption) (by first | omega | assumption) (by first | omega | assumption)) yi_X2_runEnd ml_X2_163 (by rw [hR]; decide) hw.1 0 rfl rfl rfl rfl hl.1 (lv_room (Nat.le_of_ble_eq_true rfl)) dX2_advance_187 ⟨by rw [hR]; exact Nat.zero_le _, by rw [hR]; exact Nat.zero_le _⟩ ?_
                refine q_put hx hb hts hown hK hw ci_X2 0 rfl 6 (by decide) fl_X2_48 rfl rfl rfl (Nat.le_of_ble_eq_true rfl) dX2_advance_190 (fun H locs hw => ?_)
                have hw : qw D A s.heap [((ap 0), .inr (2, [.ref (ap 1), .int (iI pfl), .ref (b 0), .int (iI pln), .int (iI pkd), .int (iI k), .int (iI (ru bf pln 48 57 k)), .int (iI per), .int (iI pls), .int (iI pss)])), ((ap 1), .inl (cB, 700, .inl (ai bf)))] H locs := hw
                refine lv_aload_n hx hb dX2_advance_193 rfl (lv_at hl 0 rfl) ?_
                refine lv_aload_n hx hb dX2_advance_194 rfl (lv_at hl 0 rfl) ?_
                refine q_get hx hb hts hown hK hw.1 ci_X2 0 rfl 6 (by decide) fl_X2_48 rfl dX2_advance_195 ?_
                refine lv_aload_n hx hb dX2_advance_198 rfl (lv_at hl 0 rfl) ?_
                refine q_get hx hb hts hown hK hw.1 ci_X2 0 rfl 5 (by decide) fl_X2_137 rfl dX2_advance_199 ?_
                refine q_isub hx hb dX2_advance_202 ?_
                refine q_iconst hx hb dX2_advance_203 ?_
                have q_u := ru_bd (f := bf) (lo := 48) (hi := 57) (n := pln) (k := k) (by omega)
                refine q_icmp_gt (tgt := 211) hx hb dX2_advance_204 (by decide) (by omega) (fun c_204 => ?_) (fun c_204 => ?_)
                · refine q_iconst hx hb dX2_advance_211 ?_
                  refine q_put hx hb hts hown hK hw ci_X2 0 rfl 4 (by decide) fl_X2_76 rfl rfl rfl (Nat.le_of_ble_eq_true rfl) dX2_advance_212 (fun H locs hw => ?_)
                  have hw : qw D A s.heap [((ap 0), .inr (2, [.ref (ap 1), .int (iI pfl), .ref (b 0), .int (iI pln), .int (iI 5), .int (iI k), .int (iI (ru bf pln 48 57 k)), .int (iI per), .int (iI pls), .int (iI pss)])), ((ap 1), .inl (cB, 700, .inl (ai bf)))] H locs := hw
                  refine lv_goto (tgt := 269) hx hb dX2_advance_215 (by decide) ?_
                  exact hret (k, ru bf pln 48 57 k, 5) H locs 269 ls (by first | omega | exact PX_nx hY h0 h_e (by dsimp only; unfold tkE; first | (rw [if_pos (by omega)]; omega) | (rw [if_neg (by omega), if_pos (by omega)]) | (rw [if_neg (by omega), if_neg (by omega), if_pos (by omega)]) | (rw [if_neg (by omega), if_neg (by omega), if_neg (by omega)])) (by dsimp only; unfold tkK; first | (rw [if_pos (by omega)]) | (rw [if_neg (by omega), if_pos (by omega)]; first | rw [if_pos (by omega)] | rw [if_neg (by omega)]) | (rw [if_neg (by omega), if_neg (by omega), if_pos (by omega)]; first | rw [if_pos (by omega)] | rw [if_neg (by omega)]) | (rw [if_neg (by omega), if_neg (by omega), if_neg (by omega)]; first | rw [if_pos (by omega)] | rw [if_neg (by omega), if_pos (by omega)] | rw [if_neg (by omega), if_neg (by omega)]))) hw dX2_advance_269
                · refine q_iconst hx hb dX2_advance_207 ?_
                  refine lv_goto (tgt := 212) hx hb dX2_advance_208 (by decide) ?_
                  refine q_put hx hb hts hown hK hw ci_X2 0 rfl 4 (by decide) fl_X2_76 rfl rfl rfl (Nat.le_of_ble_eq_true rfl) dX2_advance_212 (fun H locs hw => ?_)
                  have hw : qw D A s.heap [((ap 0), .inr (2, [.ref (ap 1), .int (iI pfl), .ref (b 0), .int (iI pln), .int (iI 2), .int (iI k), .int (iI (ru bf pln 48 57 k)), .int (iI per), .int (iI pls), .int (iI pss)])), ((ap 1), .inl (cB, 700, .inl (ai bf)))] H locs := hw
                  refine lv_goto (tgt := 269) hx hb dX2_advance_215 (by decide) ?_
                  exact hret (k, ru bf pln 48 57 k, 2) H locs 269 ls (by first | omega | exact PX_nx hY h0 h_e (by dsimp only; unfold tkE; first | (rw [if_pos (by omega)]; omega) | (rw [if_neg (by omega), if_pos (by omega)]) | (rw [if_neg (by omega), if_neg (by omega), if_pos (by omega)]) | (rw [if_neg (by omega), if_neg (by omega), if_neg (by omega)])) (by dsimp only; unfold tkK; first | (rw [if_pos (by omega)]) | (rw [if_neg (by omega), if_pos (by omega)]; first | rw [if_pos (by omega)] | rw [if_neg (by omega)]) | (rw [if_neg (by omega), if_neg (by omega), if_pos (by omega)]; first | rw [if_pos (by omega)] | rw [if_neg (by omega)]) | (rw [if_neg (by omega), if_neg (by omega), if_neg (by omega)]; first | rw [if_pos (by omega)] | rw [if_neg (by omega), if_pos (by omega)] | rw [if_neg (by omega), if_neg (by omega)]))) hw dX2_advance_269
          · refine lv_aload_n hx hb dX2_advance_115 rfl (lv_at hl 0 rfl) ?_
            refine lv_aload_n hx hb dX2_advance_116 rfl (lv_at hl 0 rfl) ?_
            refine q_bipush hx hb dX2_advance_117 rfl ?_
            refine q_bipush hx hb dX2_advance_119 rfl ?_
            refine q_callP (As := [.int (iI 97), .int (iI 122)]) (rest := [.ref (ap 0)]) hx hb hml hown hts hK (c_X2_runEnd (97) (122) (by first | omega | assumption) (by first | omega | assumption) (by first | omega | assumption)) yi_X2_runEnd ml_X2_163 (by rw [hR]; decide) hw.1 0 rfl rfl rfl rfl hl.1 (lv_room (Nat.le_of_ble_eq_true rfl)) dX2_advance_121 ⟨by rw [hR]; exact Nat.zero_le _, by rw [hR]; exact Nat.zero_le _⟩ ?_
            refine q_put hx hb hts hown hK hw ci_X2 0 rfl 6 (by decide) fl_X2_48 rfl rfl rfl (Nat.le_of_ble_eq_true rfl) dX2_advance_124 (fun H locs hw => ?_)
            have hw : qw D A s.heap [((ap 0), .inr (2, [.ref (ap 1), .int (iI pfl), .ref (b 0), .int (iI pln), .int (iI pkd), .int (iI k), .int (iI (ru bf pln 97 122 k)), .int (iI per), .int (iI pls), .int (iI pss)])), ((ap 1), .inl (cB, 700, .inl (ai bf)))] H locs := hw
            refine lv_aload_n hx hb dX2_advance_127 rfl (lv_at hl 0 rfl) ?_
            refine lv_aload_n hx hb dX2_advance_128 rfl (lv_at hl 0 rfl) ?_
            refine q_get hx hb hts hown hK hw.1 ci_X2 0 rfl 6 (by decide) fl_X2_48 rfl dX2_advance_129 ?_
            refine lv_aload_n hx hb dX2_advance_132 rfl (lv_at hl 0 rfl) ?_
            refine q_get hx hb hts hown hK hw.1 ci_X2 0 rfl 5 (by decide) fl_X2_137 rfl dX2_advance_133 ?_
            refine q_isub hx hb dX2_advance_136 ?_
            refine q_bipush hx hb dX2_advance_137 rfl ?_
            have q_u := ru_bd (f := bf) (lo := 97) (hi := 122) (n := pln) (k := k) (by omega)
            refine q_icmp_gt (tgt := 146) hx hb dX2_advance_139 (by decide) (by omega) (fun c_139 => ?_) (fun c_139 => ?_)
            · refine q_iconst hx hb dX2_advance_146 ?_
              refine q_put hx hb hts hown hK hw ci_X2 0 rfl 4 (by decide) fl_X2_76 rfl rfl rfl (Nat.le_of_ble_eq_true rfl) dX2_advance_147 (fun H locs hw => ?_)
              have hw : qw D A s.heap [((ap 0), .inr (2, [.ref (ap 1), .int (iI pfl), .ref (b 0), .int (iI pln), .int (iI 5), .int (iI k), .int (iI (ru bf pln 97 122 k)), .int (iI per), .int (iI pls), .int (iI pss)])), ((ap 1), .inl (cB, 700, .inl (ai bf)))] H locs := hw
              refine lv_goto (tgt := 269) hx hb dX2_advance_150 (by decide) ?_
              exact hret (k, ru bf pln 97 122 k, 5) H locs 269 ls (by first | omega | exact PX_nx hY h0 h_e (by dsimp only; unfold tkE; first | (rw [if_pos (by omega)]; omega) | (rw [if_neg (by omega), if_pos (by omega)]) | (rw [if_neg (by omega), if_neg (by omega), if_pos (by omega)]) | (rw [if_neg (by omega), if_neg (by omega), if_neg (by omega)])) (by dsimp only; unfold tkK; first | (rw [if_pos (by omega)]) | (rw [if_neg (by omega), if_pos (by omega)]; first | rw [if_pos (by omega)] | rw [if_neg (by omega)]) | (rw [if_neg (by omega), if_neg (by omega), if_pos (by omega)]; first | rw [if_pos (by omega)] | rw [if_neg (by omega)]) | (rw [if_neg (by omega), if_neg (by omega), if_neg (by omega)]; first | rw [if_pos (by omega)] | rw [if_neg (by omega), if_pos (by omega)] | rw [if_neg (by omega), if_neg (by omega)]))) hw dX2_advance_269
            · refine q_iconst hx hb dX2_advance_142 ?_
              refine lv_goto (tgt := 147) hx hb dX2_advance_143 (by decide) ?_
              refine q_put hx hb hts hown hK hw ci_X2 0 rfl 4 (by decide) fl_X2_76 rfl rfl rfl (Nat.le_of_ble_eq_true rfl) dX2_advance_147 (fun H locs hw => ?_)
              have hw : qw D A s.heap [((ap 0), .inr (2, [.ref (ap 1), .int (iI pfl), .ref (b 0), .int (iI pln), .int (iI 1), .int (iI k), .int (iI (ru bf pln 97 122 k)), .int (iI per), .int (iI pls), .int (iI pss)])), ((ap 1), .inl (cB, 700, .inl (ai bf)))] H locs := hw
              refine lv_goto (tgt := 269) hx hb dX2_advance_150 (by decide) ?_
              exact hret (k, ru bf pln 97 122 k, 1) H locs 269 ls (by first | omega | exact PX_nx hY h0 h_e (by dsimp only; unfold tkE; first | (rw [if_pos (by omega)]; omega) | (rw [if_neg (by omega), if_pos (by omega)]) | (rw [if_neg (by omega), if_neg (by omega), if_pos (by omega)]) | (rw [if_neg (by omega), if_neg (by omega), if_neg (by omega)])) (by dsimp only; unfold tkK; first | (rw [if_pos (by omega)]) | (rw [if_neg (by omega), if_pos (by omega)]; first | rw [if_pos (by omega)] | rw [if_neg (by omega)]) | (rw [if_neg (by omega), if_neg (by omega), if_pos (by omega)]; first | rw [if_pos (by omega)] | rw [if_neg (by omega)]) | (rw [if_neg (by omega), if_neg (by omega), if_neg (by omega)]; first | rw [if_pos (by omega)] | rw [if_neg (by omega), if_pos (by omega)] | rw [if_neg (by omega), if_neg (by omega)]))) hw dX2_advance_269
      · refine lv_aload_n hx hb dX2_advance_71 rfl (lv_at hl 0 rfl) ?_
        refine lv_aload_n hx hb dX2_advance_72 rfl (lv_at hl 0 rfl) ?_
        refine q_get hx hb hts hown hK hw.1 ci_X2 0 rfl 3 (by decide) fl_X2_32 rfl dX2_advance_73 ?_
        refine q_put hx hb hts hown hK hw ci_X2 0 rfl 6 (by decide) fl_X2_48 rfl rfl rfl (Nat.le_of_ble_eq_true rfl) dX2_advance_76 (fun H locs hw => ?_)
        have hw : qw D A s.heap [((ap 0), .inr (2, [.ref (ap 1), .int (iI pfl), .ref (b 0), .int (iI pln), .int (iI pkd), .int (iI k), .int (iI pln), .int (iI per), .int (iI pls), .int (iI pss)])), ((ap 1), .inl (cB, 700, .inl (ai bf)))] H locs := hw
        refine lv_aload_n hx hb dX2_advance_79 rfl (lv_at hl 0 rfl) ?_
        refine q_iconst hx hb dX2_advance_80 ?_
        refine q_put hx hb hts hown hK hw ci_X2 0 rfl 4 (by decide) fl_X2_76 rfl rfl rfl (Nat.le_of_ble_eq_true rfl) dX2_advance_81 (fun H locs hw => ?_)
        have hw : qw D A s.heap [((ap 0), .inr (2, [.ref (ap 1), .int (iI pfl), .ref (b 0), .int (iI pln), .int (iI 0), .int (iI k), .int (iI pln), .int (iI per), .int (iI pls), .int (iI pss)])), ((ap 1), .inl (cB, 700, .inl (ai bf)))] H locs := hw
        refine lv_goto (tgt := 269) hx hb dX2_advance_84 (by decide) ?_
        exact hret (k, pln, 0) H locs 269 ls (by first | omega | exact PX_nx hY h0 h_e (by dsimp only; unfold tkE; first | (rw [if_pos (by omega)]; omega) | (rw [if_neg (by omega), if_pos (by omega)]) | (rw [if_neg (by omega), if_neg (by omega), if_pos (by omega)]) | (rw [if_neg (by omega), if_neg (by omega), if_neg (by omega)])) (by dsimp only; unfold tkK; first | (rw [if_pos (by omega)]) | (rw [if_neg (by omega), if_pos (by omega)]; first | rw [if_pos (by omega)] | rw [if_neg (by omega)]) | (rw [if_neg (by omega), if_neg (by omega), if_pos (by omega)]; first | rw [if_pos (by omega)] | rw [if_neg (by omega)]) | (rw [if_neg (by omega), if_neg (by omega), if_neg (by omega)]; first | rw [if_pos (by omega)] | rw [if_neg (by omega), if_pos (by omega)] | rw [if_neg (by omega), if_neg (by omega)]))) hw dX2_advance_269
    · refine lv_aload_n hx hb dX2_advance_19 rfl (lv_at hl 0 rfl) ?_
      refine q_get hx hb hts hown hK hw.1 ci_X2 0 rfl 0 (by decide) fl_X2_9 rfl dX2_advance_20 ?_
      refine lv_aload_n hx hb dX2_advance_23 rfl (lv_at hl 0 rfl) ?_
      refine q_get hx hb hts hown hK hw.1 ci_X2 0 rfl 5 (by decide) fl_X2_137 rfl dX2_advance_24 ?_
      refine q_bald hx hb hK hw.1 1 1 rfl rfl (z := k) (v := (bf k)) (by omega) rfl dX2_advance_27 ?_
      refine q_bipush hx hb dX2_advance_28 rfl ?_
      refine q_icmp_eq (tgt := 47) hx hb dX2_advance_30 (by decide) (by omega) (fun c_30 => ?_) (fun c_30 => ?_)
      · refine lv_aload_n hx hb dX2_advance_47 rfl (lv_at hl 0 rfl) ?_
        refine lv_dup hx hb dX2_advance_48 rfl ?_
        refine q_get hx hb hts hown hK hw.1 ci_X2 0 rfl 5 (by decide) fl_X2_137 rfl dX2_advance_49 ?_
        refine q_iconst hx hb dX2_advance_52 ?_
        refine q_iadd hx hb dX2_advance_53 ?_
        refine q_put hx hb hts hown hK hw ci_X2 0 rfl 5 (by decide) fl_X2_137 rfl rfl rfl (Nat.le_of_ble_eq_true rfl) dX2_advance_54 (fun H locs hw => ?_)
        have hw : qw D A s.heap [((ap 0), .inr (2, [.ref (ap 1), .int (iI pfl), .ref (b 0), .int (iI pln), .int (iI pkd), .int (iI (k + 1)), .int (iI pen), .int (iI per), .int (iI pls), .int (iI pss)])), ((ap 1), .inl (cB, 700, .inl (ai bf)))] H locs := hw
        refine lv_goto (tgt := 8) hx hb dX2_advance_57 (by decide) ?_
        exact ih _ (by omega) (k + 1) H locs ls rfl (by first | omega | assumption | rfl) (by rw [sk_s (by omega)]; exact h_s) hw hl
      · refine lv_aload_n hx hb dX2_advance_33 rfl (lv_at hl 0 rfl) ?_
        refine q_get hx hb hts hown hK hw.1 ci_X2 0 rfl 0 (by decide) fl_X2_9 rfl dX2_advance_34 ?_
        refine lv_aload_n hx hb dX2_advance_37 rfl (lv_at hl 0 rfl) ?_
        refine q_get hx hb hts hown hK hw.1 ci_X2 0 rfl 5 (by decide) fl_X2_137 rfl dX2_advance_38 ?_
        refine q_bald hx hb hK hw.1 1 1 rfl rfl (z := k) (v := (bf k)) (by omega) rfl dX2_advance_41 ?_
        refine q_bipush hx hb dX2_advance_42 rfl ?_
        refine q_icmp_ne (tgt := 60) hx hb dX2_advance_44 (by decide) (by omega) (fun c_44 => ?_) (fun c_44 => ?_)
        · have h_e : k = sk bf pln pen := by rw [← h_s, sk_e (by omega)]
          refine lv_aload_n hx hb dX2_advance_60 rfl (lv_at hl 0 rfl) ?_
          refine q_get hx hb hts hown hK hw.1 ci_X2 0 rfl 5 (by decide) fl_X2_137 rfl dX2_advance_61 ?_
          refine lv_aload_n hx hb dX2_advance_64 rfl (lv_at hl 0 rfl) ?_
          refine q_get hx hb hts hown hK hw.1 ci_X2 0 rfl 3 (by decide) fl_X2_32 rfl dX2_advance_65 ?_
          refine q_icmp_lt (tgt := 87) hx hb dX2_advance_68 (by decide) (by omega) (fun c_68 => ?_) (fun c_68 => ?_)
          · refine lv_aload_n hx hb dX2_advance_87 rfl (lv_at hl 0 rfl) ?_
            refine q_get hx hb hts hown hK hw.1 ci_X2 0 rfl 0 (by decide) fl_X2_9 rfl dX2_advance_88 ?_
            refine lv_aload_n hx hb dX2_advance_91 rfl (lv_at hl 0 rfl) ?_
            refine q_get hx hb hts hown hK hw.1 ci_X2 0 rfl 5 (by decide) fl_X2_137 rfl dX2_advance_92 ?_
            refine q_bald hx hb hK hw.1 1 1 rfl rfl (z := k) (v := (bf k)) (by omega) rfl dX2_advance_95 ?_
            refine q_bipush hx hb dX2_advance_96 rfl ?_
            refine q_icmp_lt (tgt := 153) hx hb dX2_advance_98 (by decide) (by omega) (fun c_98 => ?_) (fun c_98 => ?_)
            · refine lv_aload_n hx hb dX2_advance_153 rfl (lv_at hl 0 rfl) ?_
              refine q_get hx hb hts hown hK hw.1 ci_X2 0 rfl 0 (by decide) fl_X2_9 rfl dX2_advance_154 ?_
              refine lv_aload_n hx hb dX2_advance_157 rfl (lv_at hl 0 rfl) ?_
              refine q_get hx hb hts hown hK hw.1 ci_X2 0 rfl 5 (by decide) fl_X2_137 rfl dX2_advance_158 ?_
              refine q_bald hx hb hK hw.1 1 1 rfl rfl (z := k) (v := (bf k)) (by omega) rfl dX2_advance_161 ?_
              refine q_bipush hx hb dX2_advance_162 rfl ?_
              refine q_icmp_lt (tgt := 218) hx hb dX2_advance_164 (by decide) (by omega) (fun c_164 => ?_) (fun c_164 => ?_)
              · refine lv_aload_n hx hb dX2_advance_218 rfl (lv_at hl 0 rfl) ?_
                refine lv_aload_n hx hb dX2_advance_219 rfl (lv_at hl 0 rfl) ?_
                refine q_get hx hb hts hown hK hw.1 ci_X2 0 rfl 5 (by decide) fl_X2_137 rfl dX2_advance_220 ?_
                refine q_iconst hx hb dX2_advance_223 ?_
                refine q_iadd hx hb dX2_advance_224 ?_
                refine q_put hx hb hts hown hK hw ci_X2 0 rfl 6 (by decide) fl_X2_48 rfl rfl rfl (Nat.le_of_ble_eq_true rfl) dX2_advance_225 (fun H locs hw => ?_)
                have hw : qw D A s.heap [((ap 0), .inr (2, [.ref (ap 1), .int (iI pfl), .ref (b 0), .int (iI pln), .int (iI pkd), .int (iI k), .int (iI (k + 1)), .int (iI per), .int (iI pls), .int (iI pss)])), ((ap 1), .inl (cB, 700, .inl (ai bf)))] H locs := hw
                refine lv_aload_n hx hb dX2_advance_228 rfl (lv_at hl 0 rfl) ?_
                refine lv_aload_n hx hb dX2_advance_229 rfl (lv_at hl 0 rfl) ?_
                refine q_get hx hb hts hown hK hw.1 ci_X2 0 rfl 0 (by decide) fl_X2_9 rfl dX2_advance_230 ?_
                refine lv_aload_n hx hb dX2_advance_233 rfl (lv_at hl 0 rfl) ?_
                refine q_get hx hb hts hown hK hw.1 ci_X2 0 rfl 5 (by decide) fl_X2_137 rfl dX2_advance_234 ?_
                refine q_bald hx hb hK hw.1 1 1 rfl rfl (z := k) (v := (bf k)) (by omega) rfl dX2_advance_237 ?_
                refine q_bipush hx hb dX2_advance_238 rfl ?_
                refine q_icmp_ne (tgt := 247) hx hb dX2_advance_240 (by decide) (by omega) (fun c_240 => ?_) (fun c_240 => ?_)
                · refine lv_aload_n hx hb dX2_advance_247 rfl (lv_at hl 0 rfl) ?_
                  refine q_get hx hb hts hown hK hw.1 ci_X2 0 rfl 0 (by decide) fl_X2_9 rfl dX2_advance_248 ?_
                  refine lv_aload_n hx hb dX2_advance_251 rfl (lv_at hl 0 rfl) ?_
                  refine q_get hx hb hts hown hK hw.1 ci_X2 0 rfl 5 (by decide) fl_X2_137 rfl dX2_advance_252 ?_
                  refine q_bald hx hb hK hw.1 1 1 rfl rfl (z := k) (v := (bf k)) (by omega) rfl dX2_advance_255 ?_
                  refine q_bipush hx hb dX2_advance_256 rfl ?_
                  refine q_icmp_ne (tgt := 265) hx hb dX2_advance_258 (by decide) (by omega) (fun c_258 => ?_) (fun c_258 => ?_)
                  · refine q_iconst hx hb dX2_advance_265 ?_
                    refine q_put hx hb hts hown hK hw ci_X2 0 rfl 4 (by decide) fl_X2_76 rfl rfl rfl (Nat.le_of_ble_eq_true rfl) dX2_advance_266 (fun H locs hw => ?_)
                    have hw : qw D A s.heap [((ap 0), .inr (2, [.ref (ap 1), .int (iI pfl), .ref (b 0), .int (iI pln), .int (iI 5), .int (iI k), .int (iI (k + 1)), .int (iI per), .int (iI pls), .int (iI pss)])), ((ap 1), .inl (cB, 700, .inl (ai bf)))] H locs := hw
                    exact hret (k, k + 1, 5) H locs 269 ls (by first | omega | exact PX_nx hY h0 h_e (by dsimp only; unfold tkE; first | (rw [if_pos (by omega)]; omega) | (rw [if_neg (by omega), if_pos (by omega)]) | (rw [if_neg (by omega), if_neg (by omega), if_pos (by omega)]) | (rw [if_neg (by omega), if_neg (by omega), if_neg (by omega)])) (by dsimp only; unfold tkK; first | (rw [if_pos (by omega)]) | (rw [if_neg (by omega), if_pos (by omega)]; first | rw [if_pos (by omega)] | rw [if_neg (by omega)]) | (rw [if_neg (by omega), if_neg (by omega), if_pos (by omega)]; first | rw [if_pos (by omega)] | rw [if_neg (by omega)]) | (rw [if_neg (by omega), if_neg (by omega), if_neg (by omega)]; first | rw [if_pos (by omega)] | rw [if_neg (by omega), if_pos (by omega)] | rw [if_neg (by omega), if_neg (by omega)]))) hw dX2_advance_269
                  · refine q_iconst hx hb dX2_advance_261 ?_
                    refine lv_goto (tgt := 266) hx hb dX2_advance_262 (by decide) ?_
                    refine q_put hx hb hts hown hK hw ci_X2 0 rfl 4 (by decide) fl_X2_76 rfl rfl rfl (Nat.le_of_ble_eq_true rfl) dX2_advance_266 (fun H locs hw => ?_)
                    have hw : qw D A s.heap [((ap 0), .inr (2, [.ref (ap 1), .int (iI pfl), .ref (b 0), .int (iI pln), .int (iI 4), .int (iI k), .int (iI (k + 1)), .int (iI per), .int (iI pls), .int (iI pss)])), ((ap 1), .inl (cB, 700, .inl (ai bf)))] H locs := hw
                    exact hret (k, k + 1, 4) H locs 269 ls (by first | omega | exact PX_nx hY h0 h_e (by dsimp only; unfold tkE; first | (rw [if_pos (by omega)]; omega) | (rw [if_neg (by omega), if_pos (by omega)]) | (rw [if_neg (by omega), if_neg (by omega), if_pos (by omega)]) | (rw [if_neg (by omega), if_neg (by omega), if_neg (by omega)])) (by dsimp only; unfold tkK; first | (rw [if_pos (by omega)]) | (rw [if_neg (by omega), if_pos (by omega)]; first | rw [if_pos (by omega)] | rw [if_neg (by omega)]) | (rw [if_neg (by omega), if_neg (by omega), if_pos (by omega)]; first | rw [if_pos (by omega)] | rw [if_neg (by omega)]) | (rw [if_neg (by omega), if_neg (by omega), if_neg (by omega)]; first | rw [if_pos (by omega)] | rw [if_neg (by omega), if_pos (by omega)] | rw [if_neg (by omega), if_neg (by omega)]))) hw dX2_advance_269
                · refine q_iconst hx hb dX2_advance_243 ?_
                  refine lv_goto (tgt := 266) hx hb dX2_advance_244 (by decide) ?_
                  refine q_put hx hb hts hown hK hw ci_X2 0 rfl 4 (by decide) fl_X2_76 rfl rfl rfl (Nat.le_of_ble_eq_true rfl) dX2_advance_266 (fun H locs hw => ?_)
                  have hw : qw D A s.heap [((ap 0), .inr (2, [.ref (ap 1), .int (iI pfl), .ref (b 0), .int (iI pln), .int (iI 3), .int (iI k), .int (iI (k + 1)), .int (iI per), .int (iI pls), .int (iI pss)])), ((ap 1), .inl (cB, 700, .inl (ai bf)))] H locs := hw
                  exact hret (k, k + 1, 3) H locs 269 ls (by first | omega | exact PX_nx hY h0 h_e (by dsimp only; unfold tkE; first | (rw [if_pos (by omega)]; omega) | (rw [if_neg (by omega), if_pos (by omega)]) | (rw [if_neg (by omega), if_neg (by omega), if_pos (by omega)]) | (rw [if_neg (by omega), if_neg (by omega), if_neg (by omega)])) (by dsimp only; unfold tkK; first | (rw [if_pos (by omega)]) | (rw [if_neg (by omega), if_pos (by omega)]; first | rw [if_pos (by omega)] | rw [if_neg (by omega)]) | (rw [if_neg (by omega), if_neg (by omega), if_pos (by omega)]; first | rw [if_pos (by omega)] | rw [if_neg (by omega)]) | (rw [if_neg (by omega), if_neg (by omega), if_neg (by omega)]; first | rw [if_pos (by omega)] | rw [if_neg (by omega), if_pos (by omega)] | rw [if_neg (by omega), if_neg (by omega)]))) hw dX2_advance_269
              · refine lv_aload_n hx hb dX2_advance_167 rfl (lv_at hl 0 rfl) ?_
                refine q_get hx hb hts hown hK hw.1 ci_X2 0 rfl 0 (by decide) fl_X2_9 rfl dX2_advance_168 ?_
                refine lv_aload_n hx hb dX2_advance_171 rfl (lv_at hl 0 rfl) ?_
                refine q_get hx hb hts hown hK hw.1 ci_X2 0 rfl 5 (by decide) fl_X2_137 rfl dX2_advance_172 ?_
                refine q_bald hx hb hK hw.1 1 1 rfl rfl (z := k) (v := (bf k)) (by omega) rfl dX2_advance_175 ?_
                refine q_bipush hx hb dX2_advance_176 rfl ?_
                refine q_icmp_gt (tgt := 218) hx hb dX2_advance_178 (by decide) (by omega) (fun c_178 => ?_) (fun c_178 => ?_)
                · refine lv_aload_n hx hb dX2_advance_218 rfl (lv_at hl 0 rfl) ?_
                  refine lv_aload_n hx hb dX2_advance_219 rfl (lv_at hl 0 rfl) ?_
                  refine q_get hx hb hts hown hK hw.1 ci_X2 0 rfl 5 (by decide) fl_X2_137 rfl dX2_advance_220 ?_
                  refine q_iconst hx hb dX2_advance_223 ?_
                  refine q_iadd hx hb dX2_advance_224 ?_
                  refine q_put hx hb hts hown hK hw ci_X2 0 rfl 6 (by decide) fl_X2_48 rfl rfl rfl (Nat.le_of_ble_eq_true rfl) dX2_advance_225 (fun H locs hw => ?_)
                  have hw : qw D A s.heap [((ap 0), .inr (2, [.ref (ap 1), .int (iI pfl), .ref (b 0), .int (iI pln), .int (iI pkd), .int (iI k), .int (iI (k + 1)), .int (iI per), .int (iI pls), .int (iI pss)])), ((ap 1), .inl (cB, 700, .inl (ai bf)))] H locs := hw
                  refine lv_aload_n hx hb dX2_advance_228 rfl (lv_at hl 0 rfl) ?_
                  refine lv_aload_n hx hb dX2_advance_229 rfl (lv_at hl 0 rfl) ?_
                  refine q_get hx hb hts hown hK hw.1 ci_X2 0 rfl 0 (by decide) fl_X2_9 rfl dX2_advance_230 ?_
                  refine lv_aload_n hx hb dX2_advance_233 rfl (lv_at hl 0 rfl) ?_
                  refine q_get hx hb hts hown hK hw.1 ci_X2 0 rfl 5 (by decide) fl_X2_137 rfl dX2_advance_234 ?_
                  refine q_bald hx hb hK hw.1 1 1 rfl rfl (z := k) (v := (bf k)) (by omega) rfl dX2_advance_237 ?_
                  refine q_bipush hx hb dX2_advance_238 rfl ?_
                  refine q_icmp_ne (tgt := 247) hx hb dX2_advance_240 (by decide) (by omega) (fun c_240 => ?_) (fun c_240 => ?_)
                  · refine lv_aload_n hx hb dX2_advance_247 rfl (lv_at hl 0 rfl) ?_
                    refine q_get hx hb hts hown hK hw.1 ci_X2 0 rfl 0 (by decide) fl_X2_9 rfl dX2_advance_248 ?_
                    refine lv_aload_n hx hb dX2_advance_251 rfl (lv_at hl 0 rfl) ?_
                    refine q_get hx hb hts hown hK hw.1 ci_X2 0 rfl 5 (by decide) fl_X2_137 rfl dX2_advance_252 ?_
                    refine q_bald hx hb hK hw.1 1 1 rfl rfl (z := k) (v := (bf k)) (by omega) rfl dX2_advance_255 ?_
                    refine q_bipush hx hb dX2_advance_256 rfl ?_
                    refine q_icmp_ne (tgt := 265) hx hb dX2_advance_258 (by decide) (by omega) (fun c_258 => ?_) (fun c_258 => ?_)
                    · refine q_iconst hx hb dX2_advance_265 ?_
                      refine q_put hx hb hts hown hK hw ci_X2 0 rfl 4 (by decide) fl_X2_76 rfl rfl rfl (Nat.le_of_ble_eq_true rfl) dX2_advance_266 (fun H locs hw => ?_)
                      have hw : qw D A s.heap [((ap 0), .inr (2, [.ref (ap 1), .int (iI pfl), .ref (b 0), .int (iI pln), .int (iI 5), .int (iI k), .int (iI (k + 1)), .int (iI per), .int (iI pls), .int (iI pss)])), ((ap 1), .inl (cB, 700, .inl (ai bf)))] H locs := hw
                      exact hret (k, k + 1, 5) H locs 269 ls (by first | omega | exact PX_nx hY h0 h_e (by dsimp only; unfold tkE; first | (rw [if_pos (by omega)]; omega) | (rw [if_neg (by omega), if_pos (by omega)]) | (rw [if_neg (by omega), if_neg (by omega), if_pos (by omega)]) | (rw [if_neg (by omega), if_neg (by omega), if_neg (by omega)])) (by dsimp only; unfold tkK; first | (rw [if_pos (by omega)]) | (rw [if_neg (by omega), if_pos (by omega)]; first | rw [if_pos (by omega)] | rw [if_neg (by omega)]) | (rw [if_neg (by omega), if_neg (by omega), if_pos (by omega)]; first | rw [if_pos (by omega)] | rw [if_neg (by omega)]) | (rw [if_neg (by omega), if_neg (by omega), if_neg (by omega)]; first | rw [if_pos (by omega)] | rw [if_neg (by omega), if_pos (by omega)] | rw [if_neg (by omega), if_neg (by omega)]))) hw dX2_advance_269
                    · refine q_iconst hx hb dX2_advance_261 ?_
                      refine lv_goto (tgt := 266) hx hb dX2_advance_262 (by decide) ?_
                      refine q_put hx hb hts hown hK hw ci_X2 0 rfl 4 (by decide) fl_X2_76 rfl rfl rfl (Nat.le_of_ble_eq_true rfl) dX2_advance_266 (fun H locs hw => ?_)
                      have hw : qw D A s.heap [((ap 0), .inr (2, [.ref (ap 1), .int (iI pfl), .ref (b 0), .int (iI pln), .int (iI 4), .int (iI k), .int (iI (k + 1)), .int (iI per), .int (iI pls), .int (iI pss)])), ((ap 1), .inl (cB, 700, .inl (ai bf)))] H locs := hw
                      exact hret (k, k + 1, 4) H locs 269 ls (by first | omega | exact PX_nx hY h0 h_e (by dsimp only; unfold tkE; first | (rw [if_pos (by omega)]; omega) | (rw [if_neg (by omega), if_pos (by omega)]) | (rw [if_neg (by omega), if_neg (by omega), if_pos (by omega)]) | (rw [if_neg (by omega), if_neg (by omega), if_neg (by omega)])) (by dsimp only; unfold tkK; first | (rw [if_pos (by omega)]) | (rw [if_neg (by omega), if_pos (by omega)]; first | rw [if_pos (by omega)] | rw [if_neg (by omega)]) | (rw [if_neg (by omega), if_neg (by omega), if_pos (by omega)]; first | rw [if_pos (by omega)] | rw [if_neg (by omega)]) | (rw [if_neg (by omega), if_neg (by omega), if_neg (by omega)]; first | rw [if_pos (by omega)] | rw [if_neg (by omega), if_pos (by omega)] | rw [if_neg (by omega), if_neg (by omega)]))) hw dX2_advance_269
                  · refine q_iconst hx hb dX2_advance_243 ?_
                    refine lv_goto (tgt := 266) hx hb dX2_advance_244 (by decide) ?_
                    refine q_put hx hb hts hown hK hw ci_X2 0 rfl 4 (by decide) fl_X2_76 rfl rfl rfl (Nat.le_of_ble_eq_true rfl) dX2_advance_266 (fun H locs hw => ?_)
                    have hw : qw D A s.heap [((ap 0), .inr (2, [.ref (ap 1), .int (iI pfl), .ref (b 0), .int (iI pln), .int (iI 3), .int (iI k), .int (iI (k + 1)), .int (iI per), .int (iI pls), .int (iI pss)])), ((ap 1), .inl (cB, 700, .inl (ai bf)))] H locs := hw
                    exact hret (k, k + 1, 3) H locs 269 ls (by first | omega | exact PX_nx hY h0 h_e (by dsimp only; unfold tkE; first | (rw [if_pos (by omega)]; omega) | (rw [if_neg (by omega), if_pos (by omega)]) | (rw [if_neg (by omega), if_neg (by omega), if_pos (by omega)]) | (rw [if_neg (by omega), if_neg (by omega), if_neg (by omega)])) (by dsimp only; unfold tkK; first | (rw [if_pos (by omega)]) | (rw [if_neg (by omega), if_pos (by omega)]; first | rw [if_pos (by omega)] | rw [if_neg (by omega)]) | (rw [if_neg (by omega), if_neg (by omega), if_pos (by omega)]; first | rw [if_pos (by omega)] | rw [if_neg (by omega)]) | (rw [if_neg (by omega), if_neg (by omega), if_neg (by omega)]; first | rw [if_pos (by omega)] | rw [if_neg (by omega), if_pos (by omega)] | rw [if_neg (by omega), if_neg (by omega)]))) hw dX2_advance_269
                · refine lv_aload_n hx hb dX2_advance_181 rfl (lv_at hl 0 rfl) ?_
                  refine lv_aload_n hx hb dX2_advance_182 rfl (lv_at hl 0 rfl) ?_
                  refine q_bipush hx hb dX2_advance_183 rfl ?_
                  refine q_bipush hx hb dX2_advance_185 rfl ?_
                  refine q_callP (As := [.int (iI 48), .int (iI 57)]) (rest := [.ref (ap 0)]) hx hb hml hown hts hK (c_X2_runEnd (48) (57) (by first | omega | assumption) (by first | omega | assumption) (by first | omega | assumption)) yi_X2_runEnd ml_X2_163 (by rw [hR]; decide) hw.1 0 rfl rfl rfl rfl hl.1 (lv_room (Nat.le_of_ble_eq_true rfl)) dX2_advance_187 ⟨by rw [hR]; exact Nat.zero_le _, by rw [hR]; exact Nat.zero_le _⟩ ?_
                  refine q_put hx hb hts hown hK hw ci_X2 0 rfl 6 (by decide) fl_X2_48 rfl rfl rfl (Nat.le_of_ble_eq_true rfl) dX2_advance_190 (fun H locs hw => ?_)
                  have hw : qw D A s.heap [((ap 0), .inr (2, [.ref (ap 1), .int (iI pfl), .ref (b 0), .int (iI pln), .int (iI pkd), .int (iI k), .int (iI (ru bf pln 48 57 k)), .int (iI per), .int (iI pls), .int (iI pss)])), ((ap 1), .inl (cB, 700, .inl (ai bf)))] H locs := hw
                  refine lv_aload_n hx hb dX2_advance_193 rfl (lv_at hl 0 rfl) ?_
                  refine lv_aload_n hx hb dX2_advance_194 rfl (lv_at hl 0 rfl) ?_
                  refine q_get hx hb hts hown hK hw.1 ci_X2 0 rfl 6 (by decide) fl_X2_48 rfl dX2_advance_195 ?_
                  refine lv_aload_n hx hb dX2_advance_198 rfl (lv_at hl 0 rfl) ?_
                  refine q_get hx hb hts hown hK hw.1 ci_X2 0 rfl 5 (by decide) fl_X2_137 rfl dX2_advance_199 ?_
                  refine q_isub hx hb dX2_advance_202 ?_
                  refine q_iconst hx hb dX2_advance_203 ?_
                  have q_u := ru_bd (f := bf) (lo := 48) (hi := 57) (n := pln) (k := k) (by omega)
                  refine q_icmp_gt (tgt := 211) hx hb dX2_advance_204 (by decide) (by omega) (fun c_204 => ?_) (fun c_204 => ?_)
                  · refine q_iconst hx hb dX2_advance_211 ?_
                    refine q_put hx hb hts hown hK hw ci_X2 0 rfl 4 (by decide) fl_X2_76 rfl rfl rfl (Nat.le_of_ble_eq_true rfl) dX2_advance_212 (fun H locs hw => ?_)
                    have hw : qw D A s.heap [((ap 0), .inr (2, [.ref (ap 1), .int (iI pfl), .ref (b 0), .int (iI pln), .int (iI 5), .int (iI k), .int (iI (ru bf pln 48 57 k)), .int (iI per), .int (iI pls), .int (iI pss)])), ((ap 1), .inl (cB, 700, .inl (ai bf)))] H locs := hw
                    refine lv_goto (tgt := 269) hx hb dX2_advance_215 (by decide) ?_
                    exact hret (k, ru bf pln 48 57 k, 5) H locs 269 ls (by first | omega | exact PX_nx hY h0 h_e (by dsimp only; unfold tkE; first | (rw [if_pos (by omega)]; omega) | (rw [if_neg (by omega), if_pos (by omega)]) | (rw [if_neg (by omega), if_neg (by omega), if_pos (by omega)]) | (rw [if_neg (by omega), if_neg (by omega), if_neg (by omega)])) (by dsimp only; unfold tkK; first | (rw [if_pos (by omega)]) | (rw [if_neg (by omega), if_pos (by omega)]; first | rw [if_pos (by omega)] | rw [if_neg (by omega)]) | (rw [if_neg (by omega), if_neg (by omega), if_pos (by omega)]; first | rw [if_pos (by omega)] | rw [if_neg (by omega)]) | (rw [if_neg (by omega), if_neg (by omega), if_neg (by omega)]; first | rw [if_pos (by omega)] | rw [if_neg (by omega), if_pos (by omega)] | rw [if_neg (by omega), if_neg (by omega)]))) hw dX2_advance_269
                  · refine q_iconst hx hb dX2_advance_207 ?_
                    refine lv_goto (tgt := 212) hx hb dX2_advance_208 (by decide) ?_
                    refine q_put hx hb hts hown hK hw ci_X2 0 rfl 4 (by decide) fl_X2_76 rfl rfl rfl (Nat.le_of_ble_eq_true rfl) dX2_advance_212 (fun H locs hw => ?_)
                    have hw : qw D A s.heap [((ap 0), .inr (2, [.ref (ap 1), .int (iI pfl), .ref (b 0), .int (iI pln), .int (iI 2), .int (iI k), .int (iI (ru bf pln 48 57 k)), .int (iI per), .int (iI pls), .int (iI pss)])), ((ap 1), .inl (cB, 700, .inl (ai bf)))] H locs := hw
                    refine lv_goto (tgt := 269) hx hb dX2_advance_215 (by decide) ?_
                    exact hret (k, ru bf pln 48 57 k, 2) H locs 269 ls (by first | omega | exact PX_nx hY h0 h_e (by dsimp only; unfold tkE; first | (rw [if_pos (by omega)]; omega) | (rw [if_neg (by omega), if_pos (by omega)]) | (rw [if_neg (by omega), if_neg (by omega), if_pos (by omega)]) | (rw [if_neg (by omega), if_neg (by omega), if_neg (by omega)])) (by dsimp only; unfold tkK; first | (rw [if_pos (by omega)]) | (rw [if_neg (by omega), if_pos (by omega)]; first | rw [if_pos (by omega)] | rw [if_neg (by omega)]) | (rw [if_neg (by omega), if_neg (by omega), if_pos (by omega)]; first | rw [if_pos (by omega)] | rw [if_neg (by omega)]) | (rw [if_neg (by omega), if_neg (by omega), if_neg (by omega)]; first | rw [if_pos (by omega)] | rw [if_neg (by omega), if_pos (by omega)] | rw [if_neg (by omega), if_neg (by omega)]))) hw dX2_advance_269
            · refine lv_aload_n hx hb dX2_advance_101 rfl (lv_at hl 0 rfl) ?_
              refine q_get hx hb hts hown hK hw.1 ci_X2 0 rfl 0 (by decide) fl_X2_9 rfl dX2_advance_102 ?_
              refine lv_aload_n hx hb dX2_advance_105 rfl (lv_at hl 0 rfl) ?_
              refine q_get hx hb hts hown hK hw.1 ci_X2 0 rfl 5 (by decide) fl_X2_137 rfl dX2_advance_106 ?_
              refine q_bald hx hb hK hw.1 1 1 rfl rfl (z := k) (v := (bf k)) (by omega) rfl dX2_advance_109 ?_
              refine q_bipush hx hb dX2_advance_110 rfl ?_
              refine q_icmp_gt (tgt := 153) hx hb dX2_advance_112 (by decide) (by omega) (fun c_112 => ?_) (fun c_112 => ?_)
              · refine lv_aload_n hx hb dX2_advance_153 rfl (lv_at hl 0 rfl) ?_
                refine q_get hx hb hts hown hK hw.1 ci_X2 0 rfl 0 (by decide) fl_X2_9 rfl dX2_advance_154 ?_
                refine lv_aload_n hx hb dX2_advance_157 rfl (lv_at hl 0 rfl) ?_
                refine q_get hx hb hts hown hK hw.1 ci_X2 0 rfl 5 (by decide) fl_X2_137 rfl dX2_advance_158 ?_
                refine q_bald hx hb hK hw.1 1 1 rfl rfl (z := k) (v := (bf k)) (by omega) rfl dX2_advance_161 ?_
                refine q_bipush hx hb dX2_advance_162 rfl ?_
                refine q_icmp_lt (tgt := 218) hx hb dX2_advance_164 (by decide) (by omega) (fun c_164 => ?_) (fun c_164 => ?_)
                · refine lv_aload_n hx hb dX2_advance_218 rfl (lv_at hl 0 rfl) ?_
                  refine lv_aload_n hx hb dX2_advance_219 rfl (lv_at hl 0 rfl) ?_
                  refine q_get hx hb hts hown hK hw.1 ci_X2 0 rfl 5 (by decide) fl_X2_137 rfl dX2_advance_220 ?_
                  refine q_iconst hx hb dX2_advance_223 ?_
                  refine q_iadd hx hb dX2_advance_224 ?_
                  refine q_put hx hb hts hown hK hw ci_X2 0 rfl 6 (by decide) fl_X2_48 rfl rfl rfl (Nat.le_of_ble_eq_true rfl) dX2_advance_225 (fun H locs hw => ?_)
                  have hw : qw D A s.heap [((ap 0), .inr (2, [.ref (ap 1), .int (iI pfl), .ref (b 0), .int (iI pln), .int (iI pkd), .int (iI k), .int (iI (k + 1)), .int (iI per), .int (iI pls), .int (iI pss)])), ((ap 1), .inl (cB, 700, .inl (ai bf)))] H locs := hw
                  refine lv_aload_n hx hb dX2_advance_228 rfl (lv_at hl 0 rfl) ?_
                  refine lv_aload_n hx hb dX2_advance_229 rfl (lv_at hl 0 rfl) ?_
                  refine q_get hx hb hts hown hK hw.1 ci_X2 0 rfl 0 (by decide) fl_X2_9 rfl dX2_advance_230 ?_
                  refine lv_aload_n hx hb dX2_advance_233 rfl (lv_at hl 0 rfl) ?_
                  refine q_get hx hb hts hown hK hw.1 ci_X2 0 rfl 5 (by decide) fl_X2_137 rfl dX2_advance_234 ?_
                  refine q_bald hx hb hK hw.1 1 1 rfl rfl (z := k) (v := (bf k)) (by omega) rfl dX2_advance_237 ?_
                  refine q_bipush hx hb dX2_advance_238 rfl ?_
                  refine q_icmp_ne (tgt := 247) hx hb dX2_advance_240 (by decide) (by omega) (fun c_240 => ?_) (fun c_240 => ?_)
                  · refine lv_aload_n hx hb dX2_advance_247 rfl (lv_at hl 0 rfl) ?_
                    refine q_get hx hb hts hown hK hw.1 ci_X2 0 rfl 0 (by decide) fl_X2_9 rfl dX2_advance_248 ?_
                    refine lv_aload_n hx hb dX2_advance_251 rfl (lv_at hl 0 rfl) ?_
                    refine q_get hx hb hts hown hK hw.1 ci_X2 0 rfl 5 (by decide) fl_X2_137 rfl dX2_advance_252 ?_
                    refine q_bald hx hb hK hw.1 1 1 rfl rfl (z := k) (v := (bf k)) (by omega) rfl dX2_advance_255 ?_
                    refine q_bipush hx hb dX2_advance_256 rfl ?_
                    refine q_icmp_ne (tgt := 265) hx hb dX2_advance_258 (by decide) (by omega) (fun c_258 => ?_) (fun c_258 => ?_)
                    · refine q_iconst hx hb dX2_advance_265 ?_
                      refine q_put hx hb hts hown hK hw ci_X2 0 rfl 4 (by decide) fl_X2_76 rfl rfl rfl (Nat.le_of_ble_eq_true rfl) dX2_advance_266 (fun H locs hw => ?_)
                      have hw : qw D A s.heap [((ap 0), .inr (2, [.ref (ap 1), .int (iI pfl), .ref (b 0), .int (iI pln), .int (iI 5), .int (iI k), .int (iI (k + 1)), .int (iI per), .int (iI pls), .int (iI pss)])), ((ap 1), .inl (cB, 700, .inl (ai bf)))] H locs := hw
                      exact hret (k, k + 1, 5) H locs 269 ls (by first | omega | exact PX_nx hY h0 h_e (by dsimp only; unfold tkE; first | (rw [if_pos (by omega)]; omega) | (rw [if_neg (by omega), if_pos (by omega)]) | (rw [if_neg (by omega), if_neg (by omega), if_pos (by omega)]) | (rw [if_neg (by omega), if_neg (by omega), if_neg (by omega)])) (by dsimp only; unfold tkK; first | (rw [if_pos (by omega)]) | (rw [if_neg (by omega), if_pos (by omega)]; first | rw [if_pos (by omega)] | rw [if_neg (by omega)]) | (rw [if_neg (by omega), if_neg (by omega), if_pos (by omega)]; first | rw [if_pos (by omega)] | rw [if_neg (by omega)]) | (rw [if_neg (by omega), if_neg (by omega), if_neg (by omega)]; first | rw [if_pos (by omega)] | rw [if_neg (by omega), if_pos (by omega)] | rw [if_neg (by omega), if_neg (by omega)]))) hw dX2_advance_269
                    · refine q_iconst hx hb dX2_advance_261 ?_
                      refine lv_goto (tgt := 266) hx hb dX2_advance_262 (by decide) ?_
                      refine q_put hx hb hts hown hK hw ci_X2 0 rfl 4 (by decide) fl_X2_76 rfl rfl rfl (Nat.le_of_ble_eq_true rfl) dX2_advance_266 (fun H locs hw => ?_)
                      have hw : qw D A s.heap [((ap 0), .inr (2, [.ref (ap 1), .int (iI pfl), .ref (b 0), .int (iI pln), .int (iI 4), .int (iI k), .int (iI (k + 1)), .int (iI per), .int (iI pls), .int (iI pss)])), ((ap 1), .inl (cB, 700, .inl (ai bf)))] H locs := hw
                      exact hret (k, k + 1, 4) H locs 269 ls (by first | omega | exact PX_nx hY h0 h_e (by dsimp only; unfold tkE; first | (rw [if_pos (by omega)]; omega) | (rw [if_neg (by omega), if_pos (by omega)]) | (rw [if_neg (by omega), if_neg (by omega), if_pos (by omega)]) | (rw [if_neg (by omega), if_neg (by omega), if_neg (by omega)])) (by dsimp only; unfold tkK; first | (rw [if_pos (by omega)]) | (rw [if_neg (by omega), if_pos (by omega)]; first | rw [if_pos (by omega)] | rw [if_neg (by omega)]) | (rw [if_neg (by omega), if_neg (by omega), if_pos (by omega)]; first | rw [if_pos (by omega)] | rw [if_neg (by omega)]) | (rw [if_neg (by omega), if_neg (by omega), if_neg (by omega)]; first | rw [if_pos (by omega)] | rw [if_neg (by omega), if_pos (by omega)] | rw [if_neg (by omega), if_neg (by omega)]))) hw dX2_advance_269
                  · refine q_iconst hx hb dX2_advance_243 ?_
                    refine lv_goto (tgt := 266) hx hb dX2_advance_244 (by decide) ?_
                    refine q_put hx hb hts hown hK hw ci_X2 0 rfl 4 (by decide) fl_X2_76 rfl rfl rfl (Nat.le_of_ble_eq_true rfl) dX2_advance_266 (fun H locs hw => ?_)
                    have hw : qw D A s.heap [((ap 0), .inr (2, [.ref (ap 1), .int (iI pfl), .ref (b 0), .int (iI pln), .int (iI 3), .int (iI k), .int (iI (k + 1)), .int (iI per), .int (iI pls), .int (iI pss)])), ((ap 1), .inl (cB, 700, .inl (ai bf)))] H locs := hw
                    exact hret (k, k + 1, 3) H locs 269 ls (by first | omega | exact PX_nx hY h0 h_e (by dsimp only; unfold tkE; first | (rw [if_pos (by omega)]; omega) | (rw [if_neg (by omega), if_pos (by omega)]) | (rw [if_neg (by omega), if_neg (by omega), if_pos (by omega)]) | (rw [if_neg (by omega), if_neg (by omega), if_neg (by omega)])) (by dsimp only; unfold tkK; first | (rw [if_pos (by omega)]) | (rw [if_neg (by omega), if_pos (by omega)]; first | rw [if_pos (by omega)] | rw [if_neg (by omega)]) | (rw [if_neg (by omega), if_neg (by omega), if_pos (by omega)]; first | rw [if_pos (by omega)] | rw [if_neg (by omega)]) | (rw [if_neg (by omega), if_neg (by omega), if_neg (by omega)]; first | rw [if_pos (by omega)] | rw [if_neg (by omega), if_pos (by omega)] | rw [if_neg (by omega), if_neg (by omega)]))) hw dX2_advance_269
                · refine lv_aload_n hx hb dX2_advance_167 rfl (lv_at hl 0 rfl) ?_
                  refine q_get hx hb hts hown hK hw.1 ci_X2 0 rfl 0 (by decide) fl_X2_9 rfl dX2_advance_168 ?_
                  refine lv_aload_n hx hb dX2_advance_171 rfl (lv_at hl 0 rfl) ?_
                  refine q_get hx hb hts hown hK hw.1 ci_X2 0 rfl 5 (by decide) fl_X2_137 rfl dX2_advance_172 ?_
                  refine q_bald hx hb hK hw.1 1 1 rfl rfl (z := k) (v := (bf k)) (by omega) rfl dX2_advance_175 ?_
                  refine q_bipush hx hb dX2_advance_176 rfl ?_
                  refine q_icmp_gt (tgt := 218) hx hb dX2_advance_178 (by decide) (by omega) (fun c_178 => ?_) (fun c_178 => ?_)
                  · refine lv_aload_n hx hb dX2_advance_218 rfl (lv_at hl 0 rfl) ?_
                    refine lv_aload_n hx hb dX2_advance_219 rfl (lv_at hl 0 rfl) ?_
                    refine q_get hx hb hts hown hK hw.1 ci_X2 0 rfl 5 (by decide) fl_X2_137 rfl dX2_advance_220 ?_
                    refine q_iconst hx hb dX2_advance_223 ?_
                    refine q_iadd hx hb dX2_advance_224 ?_
                    refine q_put hx hb hts hown hK hw ci_X2 0 rfl 6 (by decide) fl_X2_48 rfl rfl rfl (Nat.le_of_ble_eq_true rfl) dX2_advance_225 (fun H locs hw => ?_)
                    have hw : qw D A s.heap [((ap 0), .inr (2, [.ref (ap 1), .int (iI pfl), .ref (b 0), .int (iI pln), .int (iI pkd), .int (iI k), .int (iI (k + 1)), .int (iI per), .int (iI pls), .int (iI pss)])), ((ap 1), .inl (cB, 700, .inl (ai bf)))] H locs := hw
                    refine lv_aload_n hx hb dX2_advance_228 rfl (lv_at hl 0 rfl) ?_
                    refine lv_aload_n hx hb dX2_advance_229 rfl (lv_at hl 0 rfl) ?_
                    refine q_get hx hb hts hown hK hw.1 ci_X2 0 rfl 0 (by decide) fl_X2_9 rfl dX2_advance_230 ?_
                    refine lv_aload_n hx hb dX2_advance_233 rfl (lv_at hl 0 rfl) ?_
                    refine q_get hx hb hts hown hK hw.1 ci_X2 0 rfl 5 (by decide) fl_X2_137 rfl dX2_advance_234 ?_
                    refine q_bald hx hb hK hw.1 1 1 rfl rfl (z := k) (v := (bf k)) (by omega) rfl dX2_advance_237 ?_
                    refine q_bipush hx hb dX2_advance_238 rfl ?_
                    refine q_icmp_ne (tgt := 247) hx hb dX2_advance_240 (by decide) (by omega) (fun c_240 => ?_) (fun c_240 => ?_)
                    · refine lv_aload_n hx hb dX2_advance_247 rfl (lv_at hl 0 rfl) ?_
                      refine q_get hx hb hts hown hK hw.1 ci_X2 0 rfl 0 (by decide) fl_X2_9 rfl dX2_advance_248 ?_
                      refine lv_aload_n hx hb dX2_advance_251 rfl (lv_at hl 0 rfl) ?_
                      refine q_get hx hb hts hown hK hw.1 ci_X2 0 rfl 5 (by decide) fl_X2_137 rfl dX2_advance_252 ?_
                      refine q_bald hx hb hK hw.1 1 1 rfl rfl (z := k) (v := (bf k)) (by omega) rfl dX2_advance_255 ?_
                      refine q_bipush hx hb dX2_advance_256 rfl ?_
                      refine q_icmp_ne (tgt := 265) hx hb dX2_advance_258 (by decide) (by omega) (fun c_258 => ?_) (fun c_258 => ?_)
                      · refine q_iconst hx hb dX2_advance_265 ?_
                        refine q_put hx hb hts hown hK hw ci_X2 0 rfl 4 (by decide) fl_X2_76 rfl rfl rfl (Nat.le_of_ble_eq_true rfl) dX2_advance_266 (fun H locs hw => ?_)
                        have hw : qw D A s.heap [((ap 0), .inr (2, [.ref (ap 1), .int (iI pfl), .ref (b 0), .int (iI pln), .int (iI 5), .int (iI k), .int (iI (k + 1)), .int (iI per), .int (iI pls), .int (iI pss)])), ((ap 1), .inl (cB, 700, .inl (ai bf)))] H locs := hw
                        exact hret (k, k + 1, 5) H locs 269 ls (by first | omega | exact PX_nx hY h0 h_e (by dsimp only; unfold tkE; first | (rw [if_pos (by omega)]; omega) | (rw [if_neg (by omega), if_pos (by omega)]) | (rw [if_neg (by omega), if_neg (by omega), if_pos (by omega)]) | (rw [if_neg (by omega), if_neg (by omega), if_neg (by omega)])) (by dsimp only; unfold tkK; first | (rw [if_pos (by omega)]) | (rw [if_neg (by omega), if_pos (by omega)]; first | rw [if_pos (by omega)] | rw [if_neg (by omega)]) | (rw [if_neg (by omega), if_neg (by omega), if_pos (by omega)]; first | rw [if_pos (by omega)] | rw [if_neg (by omega)]) | (rw [if_neg (by omega), if_neg (by omega), if_neg (by omega)]; first | rw [if_pos (by omega)] | rw [if_neg (by omega), if_pos (by omega)] | rw [if_neg (by omega), if_neg (by omega)]))) hw dX2_advance_269
                      · refine q_iconst hx hb dX2_advance_261 ?_
                        refine lv_goto (tgt := 266) hx hb dX2_advance_262 (by decide) ?_
                        refine q_put hx hb hts hown hK hw ci_X2 0 rfl 4 (by decide) fl_X2_76 rfl rfl rfl (Nat.le_of_ble_eq_true rfl) dX2_advance_266 (fun H locs hw => ?_)
                        have hw : qw D A s.heap [((ap 0), .inr (2, [.ref (ap 1), .int (iI pfl), .ref (b 0), .int (iI pln), .int (iI 4), .int (iI k), .int (iI (k + 1)), .int (iI per), .int (iI pls), .int (iI pss)])), ((ap 1), .inl (cB, 700, .inl (ai bf)))] H locs := hw
                        exact hret (k, k + 1, 4) H locs 269 ls (by first | omega | exact PX_nx hY h0 h_e (by dsimp only; unfold tkE; first | (rw [if_pos (by omega)]; omega) | (rw [if_neg (by omega), if_pos (by omega)]) | (rw [if_neg (by omega), if_neg (by omega), if_pos (by omega)]) | (rw [if_neg (by omega), if_neg (by omega), if_neg (by omega)])) (by dsimp only; unfold tkK; first | (rw [if_pos (by omega)]) | (rw [if_neg (by omega), if_pos (by omega)]; first | rw [if_pos (by omega)] | rw [if_neg (by omega)]) | (rw [if_neg (by omega), if_neg (by omega), if_pos (by omega)]; first | rw [if_pos (by omega)] | rw [if_neg (by omega)]) | (rw [if_neg (by omega), if_neg (by omega), if_neg (by omega)]; first | rw [if_pos (by omega)] | rw [if_neg (by omega), if_pos (by omega)] | rw [if_neg (by omega), if_neg (by omega)]))) hw dX2_advance_269
                    · refine q_iconst hx hb dX2_advance_243 ?_
                      refine lv_goto (tgt := 266) hx hb dX2_advance_244 (by decide) ?_
                      refine q_put hx hb hts hown hK hw ci_X2 0 rfl 4 (by decide) fl_X2_76 rfl rfl rfl (Nat.le_of_ble_eq_true rfl) dX2_advance_266 (fun H locs hw => ?_)
                      have hw : qw D A s.heap [((ap 0), .inr (2, [.ref (ap 1), .int (iI pfl), .ref (b 0), .int (iI pln), .int (iI 3), .int (iI k), .int (iI (k + 1)), .int (iI per), .int (iI pls), .int (iI pss)])), ((ap 1), .inl (cB, 700, .inl (ai bf)))] H locs := hw
                      exact hret (k, k + 1, 3) H locs 269 ls (by first | omega | exact PX_nx hY h0 h_e (by dsimp only; unfold tkE; first | (rw [if_pos (by omega)]; omega) | (rw [if_neg (by omega), if_pos (by omega)]) | (rw [if_neg (by omega), if_neg (by omega), if_pos (by omega)]) | (rw [if_neg (by omega), if_neg (by omega), if_neg (by omega)])) (by dsimp only; unfold tkK; first | (rw [if_pos (by omega)]) | (rw [if_neg (by omega), if_pos (by omega)]; first | rw [if_pos (by omega)] | rw [if_neg (by omega)]) | (rw [if_neg (by omega), if_neg (by omega), if_pos (by omega)]; first | rw [if_pos (by omega)] | rw [if_neg (by omega)]) | (rw [if_neg (by omega), if_neg (by omega), if_neg (by omega)]; first | rw [if_pos (by omega)] | rw [if_neg (by omega), if_pos (by omega)] | rw [if_neg (by omega), if_neg (by omega)]))) hw dX2_advance_269
                  · refine lv_aload_n hx hb dX2_advance_181 rfl (lv_at hl 0 rfl) ?_
                    refine lv_aload_n hx hb dX2_advance_182 rfl (lv_at hl 0 rfl) ?_
                    refine q_bipush hx hb dX2_advance_183 rfl ?_
                    refine q_bipush hx hb dX2_advance_185 rfl ?_
                    refine q_callP (As := [.int (iI 48), .int (iI 57)]) (rest := [.ref (ap 0)]) hx hb hml hown hts hK (c_X2_runEnd (48) (57) (by first | omega | assumption) (by first | omega | assumption) (by first | omega | assumption)) yi_X2_runEnd ml_X2_163 (by rw [hR]; decide) hw.1 0 rfl rfl rfl rfl hl.1 (lv_room (Nat.le_of_ble_eq_true rfl)) dX2_advance_187 ⟨by rw [hR]; exact Nat.zero_le _, by rw [hR]; exact Nat.zero_le _⟩ ?_
                    refine q_put hx hb hts hown hK hw ci_X2 0 rfl 6 (by decide) fl_X2_48 rfl rfl rfl (Nat.le_of_ble_eq_true rfl) dX2_advance_190 (fun H locs hw => ?_)
                    have hw : qw D A s.heap [((ap 0), .inr (2, [.ref (ap 1), .int (iI pfl), .ref (b 0), .int (iI pln), .int (iI pkd), .int (iI k), .int (iI (ru bf pln 48 57 k)), .int (iI per), .int (iI pls), .int (iI pss)])), ((ap 1), .inl (cB, 700, .inl (ai bf)))] H locs := hw
                    refine lv_aload_n hx hb dX2_advance_193 rfl (lv_at hl 0 rfl) ?_
                    refine lv_aload_n hx hb dX2_advance_194 rfl (lv_at hl 0 rfl) ?_
                    refine q_get hx hb hts hown hK hw.1 ci_X2 0 rfl 6 (by decide) fl_X2_48 rfl dX2_advance_195 ?_
                    refine lv_aload_n hx hb dX2_advance_198 rfl (lv_at hl 0 rfl) ?_
                    refine q_get hx hb hts hown hK hw.1 ci_X2 0 rfl 5 (by decide) fl_X2_137 rfl dX2_advance_199 ?_
                    refine q_isub hx hb dX2_advance_202 ?_
                    refine q_iconst hx hb dX2_advance_203 ?_
                    have q_u := ru_bd (f := bf) (lo := 48) (hi := 57) (n := pln) (k := k) (by omega)
                    refine q_icmp_gt (tgt := 211) hx hb dX2_advance_204 (by decide) (by omega) (fun c_204 => ?_) (fun c_204 => ?_)
                    · refine q_iconst hx hb dX2_advance_211 ?_
                      refine q_put hx hb hts hown hK hw ci_X2 0 rfl 4 (by decide) fl_X2_76 rfl rfl rfl (Nat.le_of_ble_eq_true rfl) dX2_advance_212 (fun H locs hw => ?_)
                      have hw : qw D A s.heap [((ap 0), .inr (2, [.ref (ap 1), .int (iI pfl), .ref (b 0), .int (iI pln), .int (iI 5), .int (iI k), .int (iI (ru bf pln 48 57 k)), .int (iI per), .int (iI pls), .int (iI pss)])), ((ap 1), .inl (cB, 700, .inl (ai bf)))] H locs := hw
                      refine lv_goto (tgt := 269) hx hb dX2_advance_215 (by decide) ?_
                      exact hret (k, ru bf pln 48 57 k, 5) H locs 269 ls (by first | omega | exact PX_nx hY h0 h_e (by dsimp only; unfold tkE; first | (rw [if_pos (by omega)]; omega) | (rw [if_neg (by omega), if_pos (by omega)]) | (rw [if_neg (by omega), if_neg (by omega), if_pos (by omega)]) | (rw [if_neg (by omega), if_neg (by omega), if_neg (by omega)])) (by dsimp only; unfold tkK; first | (rw [if_pos (by omega)]) | (rw [if_neg (by omega), if_pos (by omega)]; first | rw [if_pos (by omega)] | rw [if_neg (by omega)]) | (rw [if_neg (by omega), if_neg (by omega), if_pos (by omega)]; first | rw [if_pos (by omega)] | rw [if_neg (by omega)]) | (rw [if_neg (by omega), if_neg (by omega), if_neg (by omega)]; first | rw [if_pos (by omega)] | rw [if_neg (by omega), if_pos (by omega)] | rw [if_neg (by omega), if_neg (by omega)]))) hw dX2_advance_269
                    · refine q_iconst hx hb dX2_advance_207 ?_
                      refine lv_goto (tgt := 212) hx hb dX2_advance_208 (by decide) ?_
                      refine q_put hx hb hts hown hK hw ci_X2 0 rfl 4 (by decide) fl_X2_76 rfl rfl rfl (Nat.le_of_ble_eq_true rfl) dX2_advance_212 (fun H locs hw => ?_)
                      have hw : qw D A s.heap [((ap 0), .inr (2, [.ref (ap 1), .int (iI pfl), .ref (b 0), .int (iI pln), .int (iI 2), .int (iI k), .int (iI (ru bf pln 48 57 k)), .int (iI per), .int (iI pls), .int (iI pss)])), ((ap 1), .inl (cB, 700, .inl (ai bf)))] H locs := hw
                      refine lv_goto (tgt := 269) hx hb dX2_advance_215 (by decide) ?_
                      exact hret (k, ru bf pln 48 57 k, 2) H locs 269 ls (by first | omega | exact PX_nx hY h0 h_e (by dsimp only; unfold tkE; first | (rw [if_pos (by omega)]; omega) | (rw [if_neg (by omega), if_pos (by omega)]) | (rw [if_neg (by omega), if_neg (by omega), if_pos (by omega)]) | (rw [if_neg (by omega), if_neg (by omega), if_neg (by omega)])) (by dsimp only; unfold tkK; first | (rw [if_pos (by omega)]) | (rw [if_neg (by omega), if_pos (by omega)]; first | rw [if_pos (by omega)] | rw [if_neg (by omega)]) | (rw [if_neg (by omega), if_neg (by omega), if_pos (by omega)]; first | rw [if_pos (by omega)] | rw [if_neg (by omega)]) | (rw [if_neg (by omega), if_neg (by omega), if_neg (by omega)]; first | rw [if_pos (by omega)] | rw [if_neg (by omega), if_pos (by omega)] | rw [if_neg (by omega), if_neg (by omega)]))) hw dX2_advance_269
              · refine lv_aload_n hx hb dX2_advance_115 rfl (lv_at hl 0 rfl) ?_
                refine lv_aload_n hx hb dX2_advance_116 rfl (lv_at hl 0 rfl) ?_
                refine q_bipush hx hb dX2_advance_117 rfl ?_
                refine q_bipush hx hb dX2_advance_119 rfl ?_
                refine q_callP (As := [.int (iI 97), .int (iI 122)]) (rest := [.ref (ap 0)]) hx hb hml hown hts hK (c_X2_runEnd (97) (122) (by first | omega | assumption) (by first | omega | assumption) (by first | omega | assumption)) yi_X2_runEnd ml_X2_163 (by rw [hR]; decide) hw.1 0 rfl rfl rfl rfl hl.1 (lv_room (Nat.le_of_ble_eq_true rfl)) dX2_advance_121 ⟨by rw [hR]; exact Nat.zero_le _, by rw [hR]; exact Nat.zero_le _⟩ ?_
                refine q_put hx hb hts hown hK hw ci_X2 0 rfl 6 (by decide) fl_X2_48 rfl rfl rfl (Nat.le_of_ble_eq_true rfl) dX2_advance_124 (fun H locs hw => ?_)
                have hw : qw D A s.heap [((ap 0), .inr (2, [.ref (ap 1), .int (iI pfl), .ref (b 0), .int (iI pln), .int (iI pkd), .int (iI k), .int (iI (ru bf pln 97 122 k)), .int (iI per), .int (iI pls), .int (iI pss)])), ((ap 1), .inl (cB, 700, .inl (ai bf)))] H locs := hw
                refine lv_aload_n hx hb dX2_advance_127 rfl (lv_at hl 0 rfl) ?_
                refine lv_aload_n hx hb dX2_advance_128 rfl (lv_at hl 0 rfl) ?_
                refine q_get hx hb hts hown hK hw.1 ci_X2 0 rfl 6 (by decide) fl_X2_48 rfl dX2_advance_129 ?_
                refine lv_aload_n hx hb dX2_advance_132 rfl (lv_at hl 0 rfl) ?_
                refine q_get hx hb hts hown hK hw.1 ci_X2 0 rfl 5 (by decide) fl_X2_137 rfl dX2_advance_133 ?_
                refine q_isub hx hb dX2_advance_136 ?_
                refine q_bipush hx hb dX2_advance_137 rfl ?_
                have q_u := ru_bd (f := bf) (lo := 97) (hi := 122) (n := pln) (k := k) (by omega)
                refine q_icmp_gt (tgt := 146) hx hb dX2_advance_139 (by decide) (by omega) (fun c_139 => ?_) (fun c_139 => ?_)
                · refine q_iconst hx hb dX2_advance_146 ?_
                  refine q_put hx hb hts hown hK hw ci_X2 0 rfl 4 (by decide) fl_X2_76 rfl rfl rfl (Nat.le_of_ble_eq_true rfl) dX2_advance_147 (fun H locs hw => ?_)
                  have hw : qw D A s.heap [((ap 0), .inr (2, [.ref (ap 1), .int (iI pfl), .ref (b 0), .int (iI pln), .int (iI 5), .int (iI k), .int (iI (ru bf pln 97 122 k)), .int (iI per), .int (iI pls), .int (iI pss)])), ((ap 1), .inl (cB, 700, .inl (ai bf)))] H locs := hw
                  refine lv_goto (tgt := 269) hx hb dX2_advance_150 (by decide) ?_
                  exact hret (k, ru bf pln 97 122 k, 5) H locs 269 ls (by first | omega | exact PX_nx hY h0 h_e (by dsimp only; unfold tkE; first | (rw [if_pos (by omega)]; omega) | (rw [if_neg (by omega), if_pos (by omega)]) | (rw [if_neg (by omega), if_neg (by omega), if_pos (by omega)]) | (rw [if_neg (by omega), if_neg (by omega), if_neg (by omega)])) (by dsimp only; unfold tkK; first | (rw [if_pos (by omega)]) | (rw [if_neg (by omega), if_pos (by omega)]; first | rw [if_pos (by omega)] | rw [if_neg (by omega)]) | (rw [if_neg (by omega), if_neg (by omega), if_pos (by omega)]; first | rw [if_pos (by omega)] | rw [if_neg (by omega)]) | (rw [if_neg (by omega), if_neg (by omega), if_neg (by omega)]; first | rw [if_pos (by omega)] | rw [if_neg (by omega), if_pos (by omega)] | rw [if_neg (by omega), if_neg (by omega)]))) hw dX2_advance_269
                · refine q_iconst hx hb dX2_advance_142 ?_
                  refine lv_goto (tgt := 147) hx hb dX2_advance_143 (by decide) ?_
                  refine q_put hx hb hts hown hK hw ci_X2 0 rfl 4 (by decide) fl_X2_76 rfl rfl rfl (Nat.le_of_ble_eq_true rfl) dX2_advance_147 (fun H locs hw => ?_)
                  have hw : qw D A s.heap [((ap 0), .inr (2, [.ref (ap 1), .int (iI pfl), .ref (b 0), .int (iI pln), .int (iI 1), .int (iI k), .int (iI (ru bf pln 97 122 k)), .int (iI per), .int (iI pls), .int (iI pss)])), ((ap 1), .inl (cB, 700, .inl (ai bf)))] H locs := hw
                  refine lv_goto (tgt := 269) hx hb dX2_advance_150 (by decide) ?_
                  exact hret (k, ru bf pln 97 122 k, 1) H locs 269 ls (by first | omega | exact PX_nx hY h0 h_e (by dsimp only; unfold tkE; first | (rw [if_pos (by omega)]; omega) | (rw [if_neg (by omega), if_pos (by omega)]) | (rw [if_neg (by omega), if_neg (by omega), if_pos (by omega)]) | (rw [if_neg (by omega), if_neg (by omega), if_neg (by omega)])) (by dsimp only; unfold tkK; first | (rw [if_pos (by omega)]) | (rw [if_neg (by omega), if_pos (by omega)]; first | rw [if_pos (by omega)] | rw [if_neg (by omega)]) | (rw [if_neg (by omega), if_neg (by omega), if_pos (by omega)]; first | rw [if_pos (by omega)] | rw [if_neg (by omega)]) | (rw [if_neg (by omega), if_neg (by omega), if_neg (by omega)]; first | rw [if_pos (by omega)] | rw [if_neg (by omega), if_pos (by omega)] | rw [if_neg (by omega), if_neg (by omega)]))) hw dX2_advance_269
          · refine lv_aload_n hx hb dX2_advance_71 rfl (lv_at hl 0 rfl) ?_
            refine lv_aload_n hx hb dX2_advance_72 rfl (lv_at hl 0 rfl) ?_
            refine q_get hx hb hts hown hK hw.1 ci_X2 0 rfl 3 (by decide) fl_X2_32 rfl dX2_advance_73 ?_
            refine q_put hx hb hts hown hK hw ci_X2 0 rfl 6 (by decide) fl_X2_48 rfl rfl rfl (Nat.le_of_ble_eq_true rfl) dX2_advance_76 (fun H locs hw => ?_)
            have hw : qw D A s.heap [((ap 0), .inr (2, [.ref (ap 1), .int (iI pfl), .ref (b 0), .int (iI pln), .int (iI pkd), .int (iI k), .int (iI pln), .int (iI per), .int (iI pls), .int (iI pss)])), ((ap 1), .inl (cB, 700, .inl (ai bf)))] H locs := hw
            refine lv_aload_n hx hb dX2_advance_79 rfl (lv_at hl 0 rfl) ?_
            refine q_iconst hx hb dX2_advance_80 ?_
            refine q_put hx hb hts hown hK hw ci_X2 0 rfl 4 (by decide) fl_X2_76 rfl rfl rfl (Nat.le_of_ble_eq_true rfl) dX2_advance_81 (fun H locs hw => ?_)
            have hw : qw D A s.heap [((ap 0), .inr (2, [.ref (ap 1), .int (iI pfl), .ref (b 0), .int (iI pln), .int (iI 0), .int (iI k), .int (iI pln), .int (iI per), .int (iI pls), .int (iI pss)])), ((ap 1), .inl (cB, 700, .inl (ai bf)))] H locs := hw
            refine lv_goto (tgt := 269) hx hb dX2_advance_84 (by decide) ?_
            exact hret (k, pln, 0) H locs 269 ls (by first | omega | exact PX_nx hY h0 h_e (by dsimp only; unfold tkE; first | (rw [if_pos (by omega)]; omega) | (rw [if_neg (by omega), if_pos (by omega)]) | (rw [if_neg (by omega), if_neg (by omega), if_pos (by omega)]) | (rw [if_neg (by omega), if_neg (by omega), if_neg (by omega)])) (by dsimp only; unfold tkK; first | (rw [if_pos (by omega)]) | (rw [if_neg (by omega), if_pos (by omega)]; first | rw [if_pos (by omega)] | rw [if_neg (by omega)]) | (rw [if_neg (by omega), if_neg (by omega), if_pos (by omega)]; first | rw [if_pos (by omega)] | rw [if_neg (by omega)]) | (rw [if_neg (by omega), if_neg (by omega), if_neg (by omega)]; first | rw [if_pos (by omega)] | rw [if_neg (by omega), if_pos (by omega)] | rw [if_neg (by omega), if_neg (by omega)]))) hw dX2_advance_269
        · refine lv_aload_n hx hb dX2_advance_47 rfl (lv_at hl 0 rfl) ?_
          refine lv_dup hx hb dX2_advance_48 rfl ?_
          refine q_get hx hb hts hown hK hw.1 ci_X2 0 rfl 5 (by decide) fl_X2_137 rfl dX2_advance_49 ?_
          refine q_iconst hx hb dX2_advance_52 ?_
          refine q_iadd hx hb dX2_advance_53 ?_
          refine q_put hx hb hts hown hK hw ci_X2 0 rfl 5 (by decide) fl_X2_137 rfl rfl rfl (Nat.le_of_ble_eq_true rfl) dX2_advance_54 (fun H locs hw => ?_)
          have hw : qw D A s.heap [((ap 0), .inr (2, [.ref (ap 1), .int (iI pfl), .ref (b 0), .int (iI pln), .int (iI pkd), .int (iI (k + 1)), .int (iI pen), .int (iI per), .int (iI pls), .int (iI pss)])), ((ap 1), .inl (cB, 700, .inl (ai bf)))] H locs := hw
          refine lv_goto (tgt := 8) hx hb dX2_advance_57 (by decide) ?_
          exact ih _ (by omega) (k + 1) H locs ls rfl (by first | omega | assumption | rfl) (by rw [sk_s (by omega)]; exact h_s) hw hl
  exact loop_8 _ (pen) H locs ls rfl (by first | omega | assumption | rfl) (by rfl) hw hl

set_option maxHeartbeats 4000000 in
set_option maxRecDepth 100000 in
theorem c_X2_fail (kd : Int) (hX : PX bf pln pkd pst pen per C) (hk : 1 ≤ kd ∧ kd ≤ 5) : qM l D (tyG cI cB cZ cS cJ) yX2_fail cX2_fail 2 (Option.none) 0 0 [.ref (ap 0), .int (iI kd)] [((ap 0), .inr (2, [.ref (ap 1), .int (iI pfl), .ref (b 0), .int (iI pln), .int (iI pkd), .int (iI pst), .int (iI pen), .int (iI per), .int (iI pls), .int (iI pss)]))] (fun u : (Int) => (PX bf pln pkd pst pen u (faX kd C))) (fun _ => none) (fun u => [((ap 0), .inr (2, [.ref (ap 1), .int (iI pfl), .ref (b 0), .int (iI pln), .int (iI pkd), .int (iI pst), .int (iI pen), .int (iI u), .int (iI pls), .int (iI pss)]))]) := by
  have q_0 := PX_0 hX
  have q_1 : C 9 3 = 0 → pst = C 9 0 ∧ pen = C 9 1 ∧ pkd = C 9 2 ∧ pst ≤ pen := fun z => PX_1 hX z
  have q_2 := hX.2.2.2
  refine qM_enterV (by decide) (Nat.le_of_ble_eq_true rfl) (fun p e R s m args below meth c Q ls A X hR hA hw hl hret => ?_)
  obtain ⟨hx, hb, hml, hown, hts, hK⟩ := X
  have hl : lv_has ls 2 [(0, .ref (ap 0)), (1, .int (iI kd))] := hl
  suffices K : ∀ (H : Heap) (locs : List Loc), qw D A s.heap [((ap 0), .inr (2, [.ref (ap 1), .int (iI pfl), .ref (b 0), .int (iI pln), .int (iI pkd), .int (iI pst), .int (iI pen), .int (iI per), .int (iI pls), .int (iI pss)]))] H locs → W p l e R s m args below meth c H locs 0 0 Q (F0 m 0 ls []) from K s.heap [] hw
  clear hw
  intro H locs hw
  refine lv_aload_n hx hb dX2_fail_0 rfl (lv_at hl 0 rfl) ?_
  refine q_get hx hb hts hown hK hw.1 ci_X2 0 rfl 7 (by decide) fl_X2_38 rfl dX2_fail_1 ?_
  refine q_iconst hx hb dX2_fail_4 ?_
  refine q_icmp_ne (tgt := 21) hx hb dX2_fail_5 (by decide) (by omega) (fun c_5 => ?_) (fun c_5 => ?_)
  · exact hret (per) H locs 21 ls (by (have z := PX_fa hX hk; first | (rw [if_pos (by omega)] at z; exact z) | (rw [if_neg (by omega)] at z; exact z))) hw dX2_fail_21
  · refine lv_aload_n hx hb dX2_fail_8 rfl (lv_at hl 0 rfl) ?_
    refine q_bipush hx hb dX2_fail_9 rfl ?_
    refine lv_aload_n hx hb dX2_fail_11 rfl (lv_at hl 0 rfl) ?_
    refine q_get hx hb hts hown hK hw.1 ci_X2 0 rfl 5 (by decide) fl_X2_137 rfl dX2_fail_12 ?_
    refine q_imul hx hb dX2_fail_15 ?_
    refine lv_iload_n hx hb dX2_fail_16 rfl (lv_at hl 1 rfl) ?_
    refine q_iadd hx hb dX2_fail_17 ?_
    refine q_put hx hb hts hown hK hw ci_X2 0 rfl 7 (by decide) fl_X2_38 rfl rfl rfl (Nat.le_of_ble_eq_true rfl) dX2_fail_18 (fun H locs hw => ?_)
    have hw : qw D A s.heap [((ap 0), .inr (2, [.ref (ap 1), .int (iI pfl), .ref (b 0), .int (iI pln), .int (iI pkd), .int (iI pst), .int (iI pen), .int (iI (8 * pst + kd)), .int (iI pls), .int (iI pss)]))] H locs := hw
    exact hret (8 * pst + kd) H locs 21 ls (by (have z := PX_fa hX hk; first | (rw [if_pos (by omega)] at z; exact z) | (rw [if_neg (by omega)] at z; exact z))) hw dX2_fail_21

set_option maxHeartbeats 4000000 in
set_option maxRecDepth 100000 in
theorem c_X2_isWord {i : Nat} (hbf : byR bf) (hlt : i < 16) (hX : PX bf pln pkd pst pen per C) : qPz l (ZZ z) D (tyG cI cB cZ cS cJ) yX2_isWord cX2_isWord 3 (Option.some FieldType.boolean) 4 85 [.ref (ap 0), .ref (z (10 + i))] [((ap 0), .inr (2, [.ref (ap 1), .int (iI pfl), .ref (b 0), .int (iI pln), .int (iI pkd), .int (iI pst), .int (iI pen), .int (iI per), .int (iI pls), .int (iI pss)])), ((ap 1), .inl (cB, 700, .inl (ai bf)))] (some (.int (iI (bI (wdX bf C i))))) := by
  have q_0 := PX_0 hX
  have q_1 : C 9 3 = 0 → pst = C 9 0 ∧ pen = C 9 1 ∧ pkd = C 9 2 ∧ pst ≤ pen := fun z => PX_1 hX z
  have q_2 := hX.2.2.2
  have q_l := (zz_tx i hlt).1
  refine qPz_enter (by decide) (Nat.le_of_ble_eq_true rfl) (nar_z bI_r) (fun p e R s m args below meth c Q ls X hR hP hZ hl hret => ?_)
  obtain ⟨hx, hb, hml, hown, hts, hK⟩ := X
  have hl : lv_has ls 3 [(0, .ref (ap 0)), (1, .ref (z (10 + i)))] := hl
  refine lv_aload_n hx hb dX2_isWord_0 rfl (lv_at hl 0 rfl) ?_
  refine q_get hx hb hts hown hK hP ci_X2 0 rfl 7 (by decide) fl_X2_38 rfl dX2_isWord_1 ?_
  refine q_iconst hx hb dX2_isWord_4 ?_
  refine q_icmp_ne (tgt := 32) hx hb dX2_isWord_5 (by decide) (by omega) (fun c_5 => ?_) (fun c_5 => ?_)
  · refine q_iconst hx hb dX2_isWord_32 ?_
    exact q_ret (hret 33 ls dX2_isWord_33) (by exact (bI_f (fun w => by have y := (PX_wd hX).mpr w; omega)).symm)
  · refine lv_aload_n hx hb dX2_isWord_8 rfl (lv_at hl 0 rfl) ?_
    refine q_get hx hb hts hown hK hP ci_X2 0 rfl 4 (by decide) fl_X2_76 rfl dX2_isWord_9 ?_
    refine q_iconst hx hb dX2_isWord_12 ?_
    refine q_icmp_ne (tgt := 32) hx hb dX2_isWord_13 (by decide) (by omega) (fun c_13 => ?_) (fun c_13 => ?_)
    · refine q_iconst hx hb dX2_isWord_32 ?_
      exact q_ret (hret 33 ls dX2_isWord_33) (by exact (bI_f (fun w => by have y := (PX_wd hX).mpr w; omega)).symm)
    · refine lv_aload_n hx hb dX2_isWord_16 rfl (lv_at hl 0 rfl) ?_
      refine q_get hx hb hts hown hK hP ci_X2 0 rfl 6 (by decide) fl_X2_48 rfl dX2_isWord_17 ?_
      refine lv_aload_n hx hb dX2_isWord_20 rfl (lv_at hl 0 rfl) ?_
      refine q_get hx hb hts hown hK hP ci_X2 0 rfl 5 (by decide) fl_X2_137 rfl dX2_isWord_21 ?_
      refine q_isub hx hb dX2_isWord_24 ?_
      refine lv_aload_n hx hb dX2_isWord_25 rfl (lv_at hl 1 rfl) ?_
      refine q_callPzX (As := []) (rest := [.int (iI (pen - pst))]) (zz_ok z) hx hb hml hown hts hK (c_J0_length (zz_S z i hlt)) yi_J0_length_8abf5 ml_X2_154 (by rw [hR]; decide) P_nil (z_P (zz_ok z) hZ [] rfl) (vk_recv (i := 0) (hZ.2.2.1 i hlt) (by decide) va_S.rf) rfl rfl hl.1 (lv_room (Nat.le_of_ble_eq_true rfl)) dX2_isWord_26 ⟨by rw [hR]; exact Nat.zero_le _, by rw [hR]; exact Nat.zero_le _⟩ ?_
      refine q_icmp_eq (tgt := 34) hx hb dX2_isWord_29 (by decide) (by omega) (fun c_29 => ?_) (fun c_29 => ?_)
      · refine q_iconst hx hb dX2_isWord_34 ?_
        refine lv_istore_n (lv' := [(2, .int (iI 0)), (0, .ref (ap 0)), (1, .ref (z (10 + i)))]) hx hb dX2_isWord_35 rfl hl (by decide) rfl (fun ls hl => ?_)
        have loop_36 : ∀ (fu : Nat) (k : Int) (ls : Array Slot), (((txL i).length : Int) - k).toNat = fu → (0 ≤ k ∧ k ≤ ((txL i).length : Int)) → (kI (fun k => bf (pst + k) ≠ (txL i).getD k.toNat 0) k = 0) → lv_has ls 3 [(0, .ref (ap 0)), (1, .ref (z (10 + i))), (2, .int (iI k))] → W p l e R s m args below meth c s.heap [] 0 0 Q (F0 m 36 ls []) := by
          intro fu
          induction fu using Nat.strongRecOn with
          | ind fu ih =>
          intro k ls hn_36 h_k h_b hl
          refine lv_iload_n hx hb dX2_isWord_36 rfl (lv_at hl 2 rfl) ?_
          refine lv_aload_n hx hb dX2_isWord_37 rfl (lv_at hl 1 rfl) ?_
          refine q_callPzX (As := []) (rest := [.int (iI k)]) (zz_ok z) hx hb hml hown hts hK (c_J0_length (zz_S z i hlt)) yi_J0_length_8abf5 ml_X2_154 (by rw [hR]; decide) P_nil (z_P (zz_ok z) hZ [] rfl) (vk_recv (i := 0) (hZ.2.2.1 i hlt) (by decide) va_S.rf) rfl rfl hl.1 (lv_room (Nat.le_of_ble_eq_true rfl)) dX2_isWord_38 ⟨by rw [hR]; exact Nat.zero_le _, by rw [hR]; exact Nat.zero_le _⟩ ?_
          refine q_icmp_ge (tgt := 71) hx hb dX2_isWord_41 (by decide) (by omega) (fun c_41 => ?_) (fun c_41 => ?_)
          · refine q_iconst hx hb dX2_isWord_71 ?_
            exact q_ret (hret 72 ls dX2_isWord_72) (by exact (bI_t ((PX_wd hX).mp ⟨by omega, by rw [show ((txL i).length : Int) = k by omega]; exact h_b⟩)).symm)
          · refine lv_aload_n hx hb dX2_isWord_44 rfl (lv_at hl 0 rfl) ?_
            refine q_get hx hb hts hown hK hP ci_X2 0 rfl 0 (by decide) fl_X2_9 rfl dX2_isWord_45 ?_
            refine lv_aload_n hx hb dX2_isWord_48 rfl (lv_at hl 0 rfl) ?_
            refine q_get hx hb hts hown hK hP ci_X2 0 rfl 5 (by decide) fl_X2_137 rfl dX2_isWord_49 ?_
            refine lv_iload_n hx hb dX2_isWord_52 rfl (lv_at hl 2 rfl) ?_
            refine q_iadd hx hb dX2_isWord_53 ?_
            have q_b : -128 ≤ bf (pst + k) ∧ bf (pst + k) < 128 := hbf _
            have q_c := (zz_tx i hlt).2 k.toNat (by omega)
            refine q_bald hx hb hK hP 1 1 rfl rfl (z := (pst + k)) (v := (bf (pst + k))) (by omega) rfl dX2_isWord_54 ?_
            refine lv_aload_n hx hb dX2_isWord_55 rfl (lv_at hl 1 rfl) ?_
            refine lv_iload_n hx hb dX2_isWord_56 rfl (lv_at hl 2 rfl) ?_
            refine q_callPzX (As := [.int (iI k)]) (rest := [.int (iI (bf (pst + k)))]) (zz_ok z) hx hb hml hown hts hK (c_J0_charAt (zz_S z i hlt) (by omega)) yi_J0_charAt_5068e ml_X2_159 (by rw [hR]; decide) P_nil (z_P (zz_ok z) hZ [] rfl) (vk_recv (i := 0) (hZ.2.2.1 i hlt) (by decide) va_S.rf) rfl rfl hl.1 (lv_room (Nat.le_of_ble_eq_true rfl)) dX2_isWord_57 ⟨by rw [hR]; exact Nat.zero_le _, by rw [hR]; exact Nat.zero_le _⟩ ?_
            refine q_icmp_eq (tgt := 65) hx hb dX2_isWord_60 (by decide) (by omega) (fun c_60 => ?_) (fun c_60 => ?_)
            · refine lv_iinc (v := iI (k + 1)) (lv' := [(2, .int (iI (k + 1))), (0, .ref (ap 0)), (1, .ref (z (10 + i)))]) hx hb dX2_isWord_65 hl (k := 2) rfl (iI_add _ _) (by decide) rfl (fun ls hl => ?_)
              refine lv_goto (tgt := 36) hx hb dX2_isWord_68 (by decide) ?_
              exact ih _ (by omega) (k + 1) ls rfl (by first | omega | assumption | rfl) (by rw [kI_s _ (by omega), h_b, bI_f (fun w => w (by omega))]; rfl) (lv_sub hl [1, 2, 0] rfl)
            · refine q_iconst hx hb dX2_isWord_63 ?_
              exact q_ret (hret 64 ls dX2_isWord_64) (by exact (bI_f (fun w => kI_has (q := fun k => bf (pst + k) ≠ (txL i).getD k.toNat 0) h_k.1 (show k < ((txL i).length : Int) by omega) (fun z => c_60 z) ((PX_wd hX).mpr w).2)).symm)
        exact loop_36 _ (0) ls rfl (by first | omega | assumption | rfl) (by exact kI_0 _) (lv_sub hl [1, 2, 0] rfl)
      · refine q_iconst hx hb dX2_isWord_32 ?_
        exact q_ret (hret 33 ls dX2_isWord_33) (by exact (bI_f (fun w => by have y := (PX_wd hX).mpr w; omega)).symm)

set_option maxHeartbeats 4000000 in
set_option maxRecDepth 100000 in
theorem c_X2_takeIf {i : Nat} (hbf : byR bf) (hlt : i < 16) (hX : PX bf pln pkd pst pen per C) : qMz l (ZZ z) D (tyG cI cB cZ cS cJ) yX2_takeIf cX2_takeIf 2 (Option.some FieldType.boolean) 5 107 [.ref (ap 0), .ref (z (10 + i))] [((ap 0), .inr (2, [.ref (ap 1), .int (iI pfl), .ref (b 0), .int (iI pln), .int (iI pkd), .int (iI pst), .int (iI pen), .int (iI per), .int (iI pls), .int (iI pss)])), ((ap 1), .inl (cB, 700, .inl (ai bf)))] (fun u : (Int) × (Int) × (Int) => (PX bf pln ((u.2.2)) ((u.1)) ((u.2.1)) per (tiX bf pln i C))) (fun u => some (.int (iI (bI (wdX bf C i))))) (fun u => [((ap 0), .inr (2, [.ref (ap 1), .int (iI pfl), .ref (b 0), .int (iI pln), .int (iI (u.2.2)), .int (iI (u.1)), .int (iI (u.2.1)), .int (iI per), .int (iI pls), .int (iI pss)])), ((ap 1), .inl (cB, 700, .inl (ai bf)))]) := by
  have q_0 := PX_0 hX
  have q_1 : C 9 3 = 0 → pst = C 9 0 ∧ pen = C 9 1 ∧ pkd = C 9 2 ∧ pst ≤ pen := fun z => PX_1 hX z
  have q_2 := hX.2.2.2
  refine qMz_enterI (val := fun u => iI (bI (wdX bf C i))) (by decide) (Nat.le_of_ble_eq_true rfl) (fun u hu => ⟨rfl, nar_z bI_r⟩) (fun p e R s m args below meth c Q ls A X hR hA hw hZ hl hret => ?_)
  obtain ⟨hx, hb, hml, hown, hts, hK⟩ := X
  have hl : lv_has ls 2 [(0, .ref (ap 0)), (1, .ref (z (10 + i)))] := hl
  suffices K : ∀ (H : Heap) (locs : List Loc), qw D A s.heap [((ap 0), .inr (2, [.ref (ap 1), .int (iI pfl), .ref (b 0), .int (iI pln), .int (iI pkd), .int (iI pst), .int (iI pen), .int (iI per), .int (iI pls), .int (iI pss)])), ((ap 1), .inl (cB, 700, .inl (ai bf)))] H locs → W p l e R s m args below meth c H locs 0 0 Q (F0 m 0 ls []) from K s.heap [] hw
  clear hw
  intro H locs hw
  refine lv_aload_n hx hb dX2_takeIf_0 rfl (lv_at hl 0 rfl) ?_
  refine lv_aload_n hx hb dX2_takeIf_1 rfl (lv_at hl 1 rfl) ?_
  refine q_callPz (As := [.ref (z (10 + i))]) (rest := []) (zz_ok z) hx hb hml hown hts hK (c_X2_isWord (C := C) (i := i) (by first | omega | assumption) (by first | omega | assumption) (by exact hX)) yi_X2_isWord ml_X2_84 (by rw [hR]; decide) hw.1 (z_M (zz_ok z) hZ hw hA [0, 1] rfl) 0 rfl rfl rfl rfl hl.1 (lv_room (Nat.le_of_ble_eq_true rfl)) dX2_takeIf_2 ⟨by rw [hR]; exact Nat.zero_le _, by rw [hR]; exact Nat.zero_le _⟩ ?_
  refine q_ifb_ne (tgt := 10) hx hb dX2_takeIf_5 (by decide) (fun c_5 => ?_) (fun c_5 => ?_)
  · refine lv_aload_n hx hb dX2_takeIf_10 rfl (lv_at hl 0 rfl) ?_
    refine q_callM (As := []) (rest := []) (wr := []) hx hb hml hown hts hK (c_X2_advance (C := C) (by first | omega | assumption) (by exact PX_y hX) (by exact c_5.1.1)) yi_X2_advance ml_X2_51 (by rw [hR]; decide) hw hA [0, 1] [] rfl rfl (by decide) (by decide) (by decide) 0 rfl rfl rfl rfl hl.1 (lv_room (Nat.le_of_ble_eq_true rfl)) dX2_takeIf_11 ⟨by rw [hR]; exact Nat.zero_le _, by rw [hR]; exact Nat.zero_le _⟩ (fun u_11 H locs hu_11 hw => ?_)
    obtain ⟨s2_1, e2_1, k2_1⟩ := u_11
    have hu_1_0 : PX bf pln k2_1 s2_1 e2_1 per (nxX bf pln ((C))) := hu_11
    have hw : qw D A s.heap [((ap 0), .inr (2, [.ref (ap 1), .int (iI pfl), .ref (b 0), .int (iI pln), .int (iI k2_1), .int (iI s2_1), .int (iI e2_1), .int (iI per), .int (iI pls), .int (iI pss)])), ((ap 1), .inl (cB, 700, .inl (ai bf)))] H locs := hw
    have b_1 := ()
    refine q_iconst hx hb dX2_takeIf_14 ?_
    refine q_top (bI (wdX bf C i)) (by first | exact (bI_f c_5).symm | exact (bI_t c_5).symm) ?_
    exact hret (s2_1, e2_1, k2_1) H locs 15 ls (by rw [show tiX bf pln i C = nxX bf pln C from if_pos c_5]; exact hu_1_0) hw dX2_takeIf_15
  · refine q_iconst hx hb dX2_takeIf_8 ?_
    refine q_top (bI (wdX bf C i)) (by first | exact (bI_f c_5).symm | exact (bI_t c_5).symm) ?_
    exact hret (pst, pen, pkd) H locs 9 ls (by rw [show tiX bf pln i C = C from if_neg c_5]; exact hX) hw dX2_takeIf_9

set_option maxHeartbeats 4000000 in
set_option maxRecDepth 100000 in
theorem c_X2_takeMinus (hbf : byR bf) (hX : PX bf pln pkd pst pen per C) : qM l D (tyG cI cB cZ cS cJ) yX2_takeMinus cX2_takeMinus 1 (Option.some FieldType.boolean) 2 43 [.ref (ap 0)] [((ap 0), .inr (2, [.ref (ap 1), .int (iI pfl), .ref (b 0), .int (iI pln), .int (iI pkd), .int (iI pst), .int (iI pen), .int (iI per), .int (iI pls), .int (iI pss)])), ((ap 1), .inl (cB, 700, .inl (ai bf)))] (fun u : (Int) × (Int) × (Int) => (PX bf pln ((u.2.2)) ((u.1)) ((u.2.1)) per (tmX bf pln C))) (fun u => some (.int (iI (bI (lessQ C))))) (fun u => [((ap 0), .inr (2, [.ref (ap 1), .int (iI pfl), .ref (b 0), .int (iI pln), .int (iI (u.2.2)), .int (iI (u.1)), .int (iI (u.2.1)), .int (iI per), .int (iI pls), .int (iI pss)])), ((ap 1), .inl (cB, 700, .inl (ai bf)))]) := by
  have q_0 := PX_0 hX
  have q_1 : C 9 3 = 0 → pst = C 9 0 ∧ pen = C 9 1 ∧ pkd = C 9 2 ∧ pst ≤ pen := fun z => PX_1 hX z
  have q_2 := hX.2.2.2
  refine qM_enterI (val := fun u => iI (bI (lessQ C))) (by decide) (Nat.le_of_ble_eq_true rfl) (fun u hu => ⟨rfl, nar_z bI_r⟩) (fun p e R s m args below meth c Q ls A X hR hA hw hl hret => ?_)
  obtain ⟨hx, hb, hml, hown, hts, hK⟩ := X
  have hl : lv_has ls 1 [(0, .ref (ap 0))] := hl
  suffices K : ∀ (H : Heap) (locs : List Loc), qw D A s.heap [((ap 0), .inr (2, [.ref (ap 1), .int (iI pfl), .ref (b 0), .int (iI pln), .int (iI pkd), .int (iI pst), .int (iI pen), .int (iI per), .int (iI pls), .int (iI pss)])), ((ap 1), .inl (cB, 700, .inl (ai bf)))] H locs → W p l e R s m args below meth c H locs 0 0 Q (F0 m 0 ls []) from K s.heap [] hw
  clear hw
  intro H locs hw
  refine lv_aload_n hx hb dX2_takeMinus_0 rfl (lv_at hl 0 rfl) ?_
  refine q_get hx hb hts hown hK hw.1 ci_X2 0 rfl 7 (by decide) fl_X2_38 rfl dX2_takeMinus_1 ?_
  refine q_iconst hx hb dX2_takeMinus_4 ?_
  refine q_icmp_ne (tgt := 16) hx hb dX2_takeMinus_5 (by decide) (by omega) (fun c_5 => ?_) (fun c_5 => ?_)
  · refine q_iconst hx hb dX2_takeMinus_16 ?_
    refine q_top (bI (lessQ C)) (by first | exact (bI_f (fun w => by have z := w.1; have z2 := w.2; omega)).symm | exact (bI_t ⟨by omega, by omega⟩).symm) ?_
    exact hret (pst, pen, pkd) H locs 17 ls (by rw [show tmX bf pln C = C from if_neg (fun w => by have z := w.1; have z2 := w.2; omega)]; exact hX) hw dX2_takeMinus_17
  · refine lv_aload_n hx hb dX2_takeMinus_8 rfl (lv_at hl 0 rfl) ?_
    refine q_get hx hb hts hown hK hw.1 ci_X2 0 rfl 4 (by decide) fl_X2_76 rfl dX2_takeMinus_9 ?_
    refine q_iconst hx hb dX2_takeMinus_12 ?_
    refine q_icmp_eq (tgt := 18) hx hb dX2_takeMinus_13 (by decide) (by omega) (fun c_13 => ?_) (fun c_13 => ?_)
    · refine lv_aload_n hx hb dX2_takeMinus_18 rfl (lv_at hl 0 rfl) ?_
      refine q_callM (As := []) (rest := []) (wr := []) hx hb hml hown hts hK (c_X2_advance (C := C) (by first | omega | assumption) (by exact PX_y hX) (by omega)) yi_X2_advance ml_X2_51 (by rw [hR]; decide) hw hA [0, 1] [] rfl rfl (by decide) (by decide) (by decide) 0 rfl rfl rfl rfl hl.1 (lv_room (Nat.le_of_ble_eq_true rfl)) dX2_takeMinus_19 ⟨by rw [hR]; exact Nat.zero_le _, by rw [hR]; exact Nat.zero_le _⟩ (fun u_19 H locs hu_19 hw => ?_)
      obtain ⟨s2_1, e2_1, k2_1⟩ := u_19
      have hu_1_0 : PX bf pln k2_1 s2_1 e2_1 per (nxX bf pln ((C))) := hu_19
      have hw : qw D A s.heap [((ap 0), .inr (2, [.ref (ap 1), .int (iI pfl), .ref (b 0), .int (iI pln), .int (iI k2_1), .int (iI s2_1), .int (iI e2_1), .int (iI per), .int (iI pls), .int (iI pss)])), ((ap 1), .inl (cB, 700, .inl (ai bf)))] H locs := hw
      have b_1 := ()
      refine q_iconst hx hb dX2_takeMinus_22 ?_
      refine q_top (bI (lessQ C)) (by first | exact (bI_f (fun w => by have z := w.1; have z2 := w.2; omega)).symm | exact (bI_t ⟨by omega, by omega⟩).symm) ?_
      exact hret (s2_1, e2_1, k2_1) H locs 23 ls (by rw [show tmX bf pln C = nxX bf pln C from if_pos ⟨by omega, by omega⟩]; exact hu_1_0) hw dX2_takeMinus_23
    · refine q_iconst hx hb dX2_takeMinus_16 ?_
      refine q_top (bI (lessQ C)) (by first | exact (bI_f (fun w => by have z := w.1; have z2 := w.2; omega)).symm | exact (bI_t ⟨by omega, by omega⟩).symm) ?_
      exact hret (pst, pen, pkd) H locs 17 ls (by rw [show tmX bf pln C = C from if_neg (fun w => by have z := w.1; have z2 := w.2; omega)]; exact hX) hw dX2_takeMinus_17

set_option maxHeartbeats 4000000 in
set_option maxRecDepth 100000 in
theorem c_X2_takeSemicolon (hbf : byR bf) (hX : PX bf pln pkd pst pen per C) : qM l D (tyG cI cB cZ cS cJ) yX2_takeSemicolon cX2_takeSemicolon 1 (Option.none) 2 43 [.ref (ap 0)] [((ap 0), .inr (2, [.ref (ap 1), .int (iI pfl), .ref (b 0), .int (iI pln), .int (iI pkd), .int (iI pst), .int (iI pen), .int (iI per), .int (iI pls), .int (iI pss)])), ((ap 1), .inl (cB, 700, .inl (ai bf)))] (fun u : (Int) × (Int) × (Int) × (Int) => (PX bf pln ((u.2.2.1)) ((u.1)) ((u.2.1)) ((u.2.2.2)) (seX bf pln C))) (fun _ => none) (fun u => [((ap 0), .inr (2, [.ref (ap 1), .int (iI pfl), .ref (b 0), .int (iI pln), .int (iI (u.2.2.1)), .int (iI (u.1)), .int (iI (u.2.1)), .int (iI (u.2.2.2)), .int (iI pls), .int (iI pss)])), ((ap 1), .inl (cB, 700, .inl (ai bf)))]) := by
  have q_0 := PX_0 hX
  have q_1 : C 9 3 = 0 → pst = C 9 0 ∧ pen = C 9 1 ∧ pkd = C 9 2 ∧ pst ≤ pen := fun z => PX_1 hX z
  have q_2 := hX.2.2.2
  refine qM_enterV (by decide) (Nat.le_of_ble_eq_true rfl) (fun p e R s m args below meth c Q ls A X hR hA hw hl hret => ?_)
  obtain ⟨hx, hb, hml, hown, hts, hK⟩ := X
  have hl : lv_has ls 1 [(0, .ref (ap 0))] := hl
  suffices K : ∀ (H : Heap) (locs : List Loc), qw D A s.heap [((ap 0), .inr (2, [.ref (ap 1), .int (iI pfl), .ref (b 0), .int (iI pln), .int (iI pkd), .int (iI pst), .int (iI pen), .int (iI per), .int (iI pls), .int (iI pss)])), ((ap 1), .inl (cB, 700, .inl (ai bf)))] H locs → W p l e R s m args below meth c H locs 0 0 Q (F0 m 0 ls []) from K s.heap [] hw
  clear hw
  intro H locs hw
  refine lv_aload_n hx hb dX2_takeSemicolon_0 rfl (lv_at hl 0 rfl) ?_
  refine q_get hx hb hts hown hK hw.1 ci_X2 0 rfl 7 (by decide) fl_X2_38 rfl dX2_takeSemicolon_1 ?_
  refine q_iconst hx hb dX2_takeSemicolon_4 ?_
  refine q_icmp_ne (tgt := 23) hx hb dX2_takeSemicolon_5 (by decide) (by omega) (fun c_5 => ?_) (fun c_5 => ?_)
  · refine lv_aload_n hx hb dX2_takeSemicolon_23 rfl (lv_at hl 0 rfl) ?_
    refine q_iconst hx hb dX2_takeSemicolon_24 ?_
    refine q_callM (As := [.int (iI 1)]) (rest := []) (wr := [((ap 1), .inl (cB, 700, .inl (ai bf)))]) hx hb hml hown hts hK (c_X2_fail (C := C) (1) (by exact hX) (by first | omega | assumption)) yi_X2_fail ml_X2_60 (by rw [hR]; decide) hw hA [0] [1] rfl rfl (by decide) (by decide) (by decide) 0 rfl rfl rfl rfl hl.1 (lv_room (Nat.le_of_ble_eq_true rfl)) dX2_takeSemicolon_25 ⟨by rw [hR]; exact Nat.zero_le _, by rw [hR]; exact Nat.zero_le _⟩ (fun u_25 H locs hu_25 hw => ?_)
    obtain ⟨er2_1, rfl⟩ : ∃ z, z = u_25 := ⟨_, rfl⟩
    have hu_1_0 : PX bf pln pkd pst pen er2_1 (faX 1 ((C))) := hu_25
    have hw : qw D A s.heap [((ap 1), .inl (cB, 700, .inl (ai bf))), ((ap 0), .inr (2, [.ref (ap 1), .int (iI pfl), .ref (b 0), .int (iI pln), .int (iI pkd), .int (iI pst), .int (iI pen), .int (iI er2_1), .int (iI pls), .int (iI pss)]))] H locs := hw
    have b_1 := ()
    exact hret (pst, pen, pkd, er2_1) H locs 28 ls (by first | (rw [show seX bf pln C = nxX bf pln C from if_pos ⟨by omega, by omega⟩]; exact hu_1_0) | (rw [show seX bf pln C = faX 1 C from if_neg (by omega)]; exact hu_1_0)) (hw.sub [1, 0] (by decide) rfl) dX2_takeSemicolon_28
  · refine lv_aload_n hx hb dX2_takeSemicolon_8 rfl (lv_at hl 0 rfl) ?_
    refine q_get hx hb hts hown hK hw.1 ci_X2 0 rfl 4 (by decide) fl_X2_76 rfl dX2_takeSemicolon_9 ?_
    refine q_iconst hx hb dX2_takeSemicolon_12 ?_
    refine q_icmp_ne (tgt := 23) hx hb dX2_takeSemicolon_13 (by decide) (by omega) (fun c_13 => ?_) (fun c_13 => ?_)
    · refine lv_aload_n hx hb dX2_takeSemicolon_23 rfl (lv_at hl 0 rfl) ?_
      refine q_iconst hx hb dX2_takeSemicolon_24 ?_
      refine q_callM (As := [.int (iI 1)]) (rest := []) (wr := [((ap 1), .inl (cB, 700, .inl (ai bf)))]) hx hb hml hown hts hK (c_X2_fail (C := C) (1) (by exact hX) (by first | omega | assumption)) yi_X2_fail ml_X2_60 (by rw [hR]; decide) hw hA [0] [1] rfl rfl (by decide) (by decide) (by decide) 0 rfl rfl rfl rfl hl.1 (lv_room (Nat.le_of_ble_eq_true rfl)) dX2_takeSemicolon_25 ⟨by rw [hR]; exact Nat.zero_le _, by rw [hR]; exact Nat.zero_le _⟩ (fun u_25 H locs hu_25 hw => ?_)
      obtain ⟨er2_2, rfl⟩ : ∃ z, z = u_25 := ⟨_, rfl⟩
      have hu_2_0 : PX bf pln pkd pst pen er2_2 (faX 1 ((C))) := hu_25
      have hw : qw D A s.heap [((ap 1), .inl (cB, 700, .inl (ai bf))), ((ap 0), .inr (2, [.ref (ap 1), .int (iI pfl), .ref (b 0), .int (iI pln), .int (iI pkd), .int (iI pst), .int (iI pen), .int (iI er2_2), .int (iI pls), .int (iI pss)]))] H locs := hw
      have b_2 := ()
      exact hret (pst, pen, pkd, er2_2) H locs 28 ls (by first | (rw [show seX bf pln C = nxX bf pln C from if_pos ⟨by omega, by omega⟩]; exact hu_2_0) | (rw [show seX bf pln C = faX 1 C from if_neg (by omega)]; exact hu_2_0)) (hw.sub [1, 0] (by decide) rfl) dX2_takeSemicolon_28
    · refine lv_aload_n hx hb dX2_takeSemicolon_16 rfl (lv_at hl 0 rfl) ?_
      refine q_callM (As := []) (rest := []) (wr := []) hx hb hml hown hts hK (c_X2_advance (C := C) (by first | omega | assumption) (by exact PX_y hX) (by omega)) yi_X2_advance ml_X2_51 (by rw [hR]; decide) hw hA [0, 1] [] rfl rfl (by decide) (by decide) (by decide) 0 rfl rfl rfl rfl hl.1 (lv_room (Nat.le_of_ble_eq_true rfl)) dX2_takeSemicolon_17 ⟨by rw [hR]; exact Nat.zero_le _, by rw [hR]; exact Nat.zero_le _⟩ (fun u_17 H locs hu_17 hw => ?_)
      obtain ⟨s2_3, e2_3, k2_3⟩ := u_17
      have hu_3_0 : PX bf pln k2_3 s2_3 e2_3 per (nxX bf pln ((C))) := hu_17
      have hw : qw D A s.heap [((ap 0), .inr (2, [.ref (ap 1), .int (iI pfl), .ref (b 0), .int (iI pln), .int (iI k2_3), .int (iI s2_3), .int (iI e2_3), .int (iI per), .int (iI pls), .int (iI pss)])), ((ap 1), .inl (cB, 700, .inl (ai bf)))] H locs := hw
      have b_3 := ()
      refine lv_goto (tgt := 28) hx hb dX2_takeSemicolon_20 (by decide) ?_
      exact hret (s2_3, e2_3, k2_3, per) H locs 28 ls (by first | (rw [show seX bf pln C = nxX bf pln C from if_pos ⟨by omega, by omega⟩]; exact hu_3_0) | (rw [show seX bf pln C = faX 1 C from if_neg (by omega)]; exact hu_3_0)) hw dX2_takeSemicolon_28

set_option maxHeartbeats 4000000 in
set_option maxRecDepth 100000 in
theorem c_X2_takeNumber (lo : Int) (hI : Int) (hbf : byR bf) (hX : PX bf pln pkd pst pen per C) (hlo : 0 ≤ lo ∧ lo ≤ hI ∧ hI ≤ 1000) : qM l D (tyG cI cB cZ cS cJ) yX2_takeNumber cX2_takeNumber 5 (Option.some FieldType.int) 2 43 [.ref (ap 0), .int (iI lo), .int (iI hI)] [((ap 0), .inr (2, [.ref (ap 1), .int (iI pfl), .ref (b 0), .int (iI pln), .int (iI pkd), .int (iI pst), .int (iI pen), .int (iI per), .int (iI pls), .int (iI pss)])), ((ap 1), .inl (cB, 700, .inl (ai bf)))] (fun u : (Int) × (Int) × (Int) × (Int) × (Int) => (PX bf pln ((u.2.2.1)) ((u.1)) ((u.2.1)) ((u.2.2.2.1)) (rdX bf pln lo hI C)) ∧ (rdX bf pln lo hI C 9 3 = 0 → ((u.2.2.2.2)) = nuV bf C ∧ lo ≤ ((u.2.2.2.2))) ∧ (-1 ≤ ((u.2.2.2.2)) ∧ ((u.2.2.2.2)) ≤ hI)) (fun u => some (.int (iI (u.2.2.2.2)))) (fun u => [((ap 0), .inr (2, [.ref (ap 1), .int (iI pfl), .ref (b 0), .int (iI pln), .int (iI (u.2.2.1)), .int (iI (u.1)), .int (iI (u.2.1)), .int (iI (u.2.2.2.1)), .int (iI pls), .int (iI pss)])), ((ap 1), .inl (cB, 700, .inl (ai bf)))]) := by
  have q_0 := PX_0 hX
  have q_1 : C 9 3 = 0 → pst = C 9 0 ∧ pen = C 9 1 ∧ pkd = C 9 2 ∧ pst ≤ pen := fun z => PX_1 hX z
  have q_2 := hX.2.2.2
  refine qM_enterI (val := fun u => iI (u.2.2.2.2)) (by decide) (Nat.le_of_ble_eq_true rfl) (fun u hu => ⟨rfl, nar_i _⟩) (fun p e R s m args below meth c Q ls A X hR hA hw hl hret => ?_)
  obtain ⟨hx, hb, hml, hown, hts, hK⟩ := X
  have hl : lv_has ls 5 [(0, .ref (ap 0)), (1, .int (iI lo)), (2, .int (iI hI))] := hl
  suffices K : ∀ (H : Heap) (locs : List Loc), qw D A s.heap [((ap 0), .inr (2, [.ref (ap 1), .int (iI pfl), .ref (b 0), .int (iI pln), .int (iI pkd), .int (iI pst), .int (iI pen), .int (iI per), .int (iI pls), .int (iI pss)])), ((ap 1), .inl (cB, 700, .inl (ai bf)))] H locs → W p l e R s m args below meth c H locs 0 0 Q (F0 m 0 ls []) from K s.heap [] hw
  clear hw
  intro H locs hw
  refine lv_aload_n hx hb dX2_takeNumber_0 rfl (lv_at hl 0 rfl) ?_
  refine q_get hx hb hts hown hK hw.1 ci_X2 0 rfl 7 (by decide) fl_X2_38 rfl dX2_takeNumber_1 ?_
  refine q_iconst hx hb dX2_takeNumber_4 ?_
  refine q_icmp_ne (tgt := 16) hx hb dX2_takeNumber_5 (by decide) (by omega) (fun c_5 => ?_) (fun c_5 => ?_)
  · refine lv_aload_n hx hb dX2_takeNumber_16 rfl (lv_at hl 0 rfl) ?_
    refine q_iconst hx hb dX2_takeNumber_17 ?_
    refine q_callM (As := [.int (iI 1)]) (rest := []) (wr := [((ap 1), .inl (cB, 700, .inl (ai bf)))]) hx hb hml hown hts hK (c_X2_fail (C := C) (1) (by exact hX) (by first | omega | assumption)) yi_X2_fail ml_X2_60 (by rw [hR]; decide) hw hA [0] [1] rfl rfl (by decide) (by decide) (by decide) 0 rfl rfl rfl rfl hl.1 (lv_room (Nat.le_of_ble_eq_true rfl)) dX2_takeNumber_18 ⟨by rw [hR]; exact Nat.zero_le _, by rw [hR]; exact Nat.zero_le _⟩ (fun u_18 H locs hu_18 hw => ?_)
    obtain ⟨er2_1, rfl⟩ : ∃ z, z = u_18 := ⟨_, rfl⟩
    have hu_1_0 : PX bf pln pkd pst pen er2_1 (faX 1 ((C))) := hu_18
    have hw : qw D A s.heap [((ap 1), .inl (cB, 700, .inl (ai bf))), ((ap 0), .inr (2, [.ref (ap 1), .int (iI pfl), .ref (b 0), .int (iI pln), .int (iI pkd), .int (iI pst), .int (iI pen), .int (iI er2_1), .int (iI pls), .int (iI pss)]))] H locs := hw
    have b_1 := ()
    refine q_iconst hx hb dX2_takeNumber_21 ?_
    exact hret (pst, pen, pkd, er2_1, (-1)) H locs 22 ls ⟨(by (rw [(rdP_1 (by omega)).1]; exact hu_1_0)), (by exact fun y => absurd (((congrFun (congrFun (rdP_1 (by omega)).1 9) 3).symm).trans y) (rdP_1 (f := bf) (n := pln) (lo := lo) (hi := hI) (by omega)).2), (by (dsimp only; omega))⟩ (hw.sub [1, 0] (by decide) rfl) dX2_takeNumber_22
  · refine lv_aload_n hx hb dX2_takeNumber_8 rfl (lv_at hl 0 rfl) ?_
    refine q_get hx hb hts hown hK hw.1 ci_X2 0 rfl 4 (by decide) fl_X2_76 rfl dX2_takeNumber_9 ?_
    refine q_iconst hx hb dX2_takeNumber_12 ?_
    refine q_icmp_eq (tgt := 23) hx hb dX2_takeNumber_13 (by decide) (by omega) (fun c_13 => ?_) (fun c_13 => ?_)
    · refine q_iconst hx hb dX2_takeNumber_23 ?_
      refine lv_istore_n (lv' := [(3, .int (iI 0)), (0, .ref (ap 0)), (1, .int (iI lo)), (2, .int (iI hI))]) hx hb dX2_takeNumber_24 rfl hl (by decide) rfl (fun ls hl => ?_)
      refine lv_aload_n hx hb dX2_takeNumber_25 rfl (lv_at hl 1 rfl) ?_
      refine q_get hx hb hts hown hK hw.1 ci_X2 0 rfl 5 (by decide) fl_X2_137 rfl dX2_takeNumber_26 ?_
      refine lv_istore (lv' := [(4, .int (iI pst)), (3, .int (iI 0)), (0, .ref (ap 0)), (1, .int (iI lo)), (2, .int (iI hI))]) hx hb dX2_takeNumber_29 hl (by decide) rfl (fun ls hl => ?_)
      have loop_31 : ∀ (fu : Nat) (w : Int) (i : Int) (H : Heap) (locs : List Loc) (ls : Array Slot), (pen - i).toNat = fu → (pst ≤ i ∧ i ≤ pen) → (w = nv bf pst (i - pst)) → qw D A s.heap [((ap 0), .inr (2, [.ref (ap 1), .int (iI pfl), .ref (b 0), .int (iI pln), .int (iI pkd), .int (iI pst), .int (iI pen), .int (iI per), .int (iI pls), .int (iI pss)])), ((ap 1), .inl (cB, 700, .inl (ai bf)))] H locs → lv_has ls 5 [(0, .ref (ap 0)), (1, .int (iI lo)), (2, .int (iI hI)), (3, .int (iI w)), (4, .int (iI i))] → W p l e R s m args below meth c H locs 0 0 Q (F0 m 31 ls []) := by
        intro fu
        induction fu using Nat.strongRecOn with
        | ind fu ih =>
        intro w i H locs ls hn_31 h_i h_w hw hl
        refine lv_iload hx hb dX2_takeNumber_31 (lv_at hl 4 rfl) ?_
        refine lv_aload_n hx hb dX2_takeNumber_33 rfl (lv_at hl 0 rfl) ?_
        refine q_get hx hb hts hown hK hw.1 ci_X2 0 rfl 6 (by decide) fl_X2_48 rfl dX2_takeNumber_34 ?_
        refine q_icmp_ge (tgt := 62) hx hb dX2_takeNumber_37 (by decide) (by omega) (fun c_37 => ?_) (fun c_37 => ?_)
        · have q_n := PX_nu hX
          have q_w : w = nuV bf C := by rw [h_w, show i = pen by omega]; unfold nuV; rw [(q_1 (by omega)).1, (q_1 (by omega)).2.1]
          have q_n2 := q_n (by omega) (by omega)
          refine lv_iload_n hx hb dX2_takeNumber_62 rfl (lv_at hl 3 rfl) ?_
          refine lv_iload_n hx hb dX2_takeNumber_63 rfl (lv_at hl 1 rfl) ?_
          refine q_icmp_lt (tgt := 72) hx hb dX2_takeNumber_64 (by decide) (by omega) (fun c_64 => ?_) (fun c_64 => ?_)
          · refine lv_aload_n hx hb dX2_takeNumber_72 rfl (lv_at hl 0 rfl) ?_
            refine q_iconst hx hb dX2_takeNumber_73 ?_
            refine q_callM (As := [.int (iI 4)]) (rest := []) (wr := [((ap 1), .inl (cB, 700, .inl (ai bf)))]) hx hb hml hown hts hK (c_X2_fail (C := C) (4) (by exact hX) (by first | omega | assumption)) yi_X2_fail ml_X2_60 (by rw [hR]; decide) hw hA [0] [1] rfl rfl (by decide) (by decide) (by decide) 0 rfl rfl rfl rfl hl.1 (lv_room (Nat.le_of_ble_eq_true rfl)) dX2_takeNumber_74 ⟨by rw [hR]; exact Nat.zero_le _, by rw [hR]; exact Nat.zero_le _⟩ (fun u_74 H locs hu_74 hw => ?_)
            obtain ⟨er2_2, rfl⟩ : ∃ z, z = u_74 := ⟨_, rfl⟩
            have hu_2_0 : PX bf pln pkd pst pen er2_2 (faX 4 ((C))) := hu_74
            have hw : qw D A s.heap [((ap 1), .inl (cB, 700, .inl (ai bf))), ((ap 0), .inr (2, [.ref (ap 1), .int (iI pfl), .ref (b 0), .int (iI pln), .int (iI pkd), .int (iI pst), .int (iI pen), .int (iI er2_2), .int (iI pls), .int (iI pss)]))] H locs := hw
            have b_2 := ()
            refine q_iconst hx hb dX2_takeNumber_77 ?_
            exact hret (pst, pen, pkd, er2_2, (-1)) H locs 78 ls ⟨(by (rw [(rdP_2 ⟨by omega, by omega⟩ (by omega)).1]; exact hu_2_0)), (by exact fun y => absurd (((congrFun (congrFun (rdP_2 ⟨by omega, by omega⟩ (by omega)).1 9) 3).symm).trans y) (rdP_2 (f := bf) (n := pln) (lo := lo) (hi := hI) ⟨by omega, by omega⟩ (by omega)).2), (by (dsimp only; omega))⟩ (hw.sub [1, 0] (by decide) rfl) dX2_takeNumber_78
          · refine lv_iload_n hx hb dX2_takeNumber_67 rfl (lv_at hl 3 rfl) ?_
            refine lv_iload_n hx hb dX2_takeNumber_68 rfl (lv_at hl 2 rfl) ?_
            refine q_icmp_le (tgt := 79) hx hb dX2_takeNumber_69 (by decide) (by omega) (fun c_69 => ?_) (fun c_69 => ?_)
            · refine lv_aload_n hx hb dX2_takeNumber_79 rfl (lv_at hl 0 rfl) ?_
              refine q_callM (As := []) (rest := []) (wr := []) hx hb hml hown hts hK (c_X2_advance (C := C) (by first | omega | assumption) (by exact PX_y hX) (by omega)) yi_X2_advance ml_X2_51 (by rw [hR]; decide) hw hA [0, 1] [] rfl rfl (by decide) (by decide) (by decide) 0 rfl rfl rfl rfl hl.1 (lv_room (Nat.le_of_ble_eq_true rfl)) dX2_takeNumber_80 ⟨by rw [hR]; exact Nat.zero_le _, by rw [hR]; exact Nat.zero_le _⟩ (fun u_80 H locs hu_80 hw => ?_)
              obtain ⟨s2_3, e2_3, k2_3⟩ := u_80
              have hu_3_0 : PX bf pln k2_3 s2_3 e2_3 per (nxX bf pln ((C))) := hu_80
              have hw : qw D A s.heap [((ap 0), .inr (2, [.ref (ap 1), .int (iI pfl), .ref (b 0), .int (iI pln), .int (iI k2_3), .int (iI s2_3), .int (iI e2_3), .int (iI per), .int (iI pls), .int (iI pss)])), ((ap 1), .inl (cB, 700, .inl (ai bf)))] H locs := hw
              have b_3 := ()
              refine lv_iload_n hx hb dX2_takeNumber_83 rfl (lv_at hl 3 rfl) ?_
              exact hret (s2_3, e2_3, k2_3, per, w) H locs 84 ls ⟨(by (rw [rdP_3 ⟨by omega, by omega⟩ (by omega)]; exact hu_3_0)), (by exact fun _ => ⟨q_w, by dsimp only; omega⟩), (by (dsimp only; omega))⟩ hw dX2_takeNumber_84
            · refine lv_aload_n hx hb dX2_takeNumber_72 rfl (lv_at hl 0 rfl) ?_
              refine q_iconst hx hb dX2_takeNumber_73 ?_
              refine q_callM (As := [.int (iI 4)]) (rest := []) (wr := [((ap 1), .inl (cB, 700, .inl (ai bf)))]) hx hb hml hown hts hK (c_X2_fail (C := C) (4) (by exact hX) (by first | omega | assumption)) yi_X2_fail ml_X2_60 (by rw [hR]; decide) hw hA [0] [1] rfl rfl (by decide) (by decide) (by decide) 0 rfl rfl rfl rfl hl.1 (lv_room (Nat.le_of_ble_eq_true rfl)) dX2_takeNumber_74 ⟨by rw [hR]; exact Nat.zero_le _, by rw [hR]; exact Nat.zero_le _⟩ (fun u_74 H locs hu_74 hw => ?_)
              obtain ⟨er2_4, rfl⟩ : ∃ z, z = u_74 := ⟨_, rfl⟩
              have hu_4_0 : PX bf pln pkd pst pen er2_4 (faX 4 ((C))) := hu_74
              have hw : qw D A s.heap [((ap 1), .inl (cB, 700, .inl (ai bf))), ((ap 0), .inr (2, [.ref (ap 1), .int (iI pfl), .ref (b 0), .int (iI pln), .int (iI pkd), .int (iI pst), .int (iI pen), .int (iI er2_4), .int (iI pls), .int (iI pss)]))] H locs := hw
              have b_4 := ()
              refine q_iconst hx hb dX2_takeNumber_77 ?_
              exact hret (pst, pen, pkd, er2_4, (-1)) H locs 78 ls ⟨(by (rw [(rdP_2 ⟨by omega, by omega⟩ (by omega)).1]; exact hu_4_0)), (by exact fun y => absurd (((congrFun (congrFun (rdP_2 ⟨by omega, by omega⟩ (by omega)).1 9) 3).symm).trans y) (rdP_2 (f := bf) (n := pln) (lo := lo) (hi := hI) ⟨by omega, by omega⟩ (by omega)).2), (by (dsimp only; omega))⟩ (hw.sub [1, 0] (by decide) rfl) dX2_takeNumber_78
        · refine q_bipush hx hb dX2_takeNumber_40 rfl ?_
          refine lv_iload_n hx hb dX2_takeNumber_42 rfl (lv_at hl 3 rfl) ?_
          refine q_imul hx hb dX2_takeNumber_43 ?_
          refine lv_aload_n hx hb dX2_takeNumber_44 rfl (lv_at hl 0 rfl) ?_
          refine q_get hx hb hts hown hK hw.1 ci_X2 0 rfl 0 (by decide) fl_X2_9 rfl dX2_takeNumber_45 ?_
          refine lv_iload hx hb dX2_takeNumber_48 (lv_at hl 4 rfl) ?_
          refine q_bald hx hb hK hw.1 1 1 rfl rfl (z := i) (v := (bf i)) (by omega) rfl dX2_takeNumber_50 ?_
          refine q_bipush hx hb dX2_takeNumber_51 rfl ?_
          refine q_isub hx hb dX2_takeNumber_53 ?_
          refine q_iadd hx hb dX2_takeNumber_54 ?_
          refine lv_istore_n (lv' := [(3, .int (iI (10 * w + (bf i - 48)))), (0, .ref (ap 0)), (1, .int (iI lo)), (2, .int (iI hI)), (4, .int (iI i))]) hx hb dX2_takeNumber_55 rfl hl (by decide) rfl (fun ls hl => ?_)
          refine lv_iinc (v := iI (i + 1)) (lv' := [(4, .int (iI (i + 1))), (3, .int (iI (10 * w + (bf i - 48)))), (0, .ref (ap 0)), (1, .int (iI lo)), (2, .int (iI hI))]) hx hb dX2_takeNumber_56 hl (k := 4) rfl (iI_add _ _) (by decide) rfl (fun ls hl => ?_)
          refine lv_goto (tgt := 31) hx hb dX2_takeNumber_59 (by decide) ?_
          exact ih _ (by omega) (10 * w + (bf i - 48)) (i + 1) H locs ls rfl (by first | omega | assumption | rfl) (by rw [show i + 1 - pst = i - pst + 1 by omega, nv_s (by omega), ← h_w, show pst + (i - pst) = i by omega]) hw (lv_sub hl [2, 3, 4, 1, 0] rfl)
      exact loop_31 _ (0) (pst) H locs ls rfl (by first | omega | assumption | rfl) (by rw [Int.sub_self]; rfl) hw (lv_sub hl [2, 3, 4, 1, 0] rfl)
    · refine lv_aload_n hx hb dX2_takeNumber_16 rfl (lv_at hl 0 rfl) ?_
      refine q_iconst hx hb dX2_takeNumber_17 ?_
      refine q_callM (As := [.int (iI 1)]) (rest := []) (wr := [((ap 1), .inl (cB, 700, .inl (ai bf)))]) hx hb hml hown hts hK (c_X2_fail (C := C) (1) (by exact hX) (by first | omega | assumption)) yi_X2_fail ml_X2_60 (by rw [hR]; decide) hw hA [0] [1] rfl rfl (by decide) (by decide) (by decide) 0 rfl rfl rfl rfl hl.1 (lv_room (Nat.le_of_ble_eq_true rfl)) dX2_takeNumber_18 ⟨by rw [hR]; exact Nat.zero_le _, by rw [hR]; exact Nat.zero_le _⟩ (fun u_18 H locs hu_18 hw => ?_)
      obtain ⟨er2_5, rfl⟩ : ∃ z, z = u_18 := ⟨_, rfl⟩
      have hu_5_0 : PX bf pln pkd pst pen er2_5 (faX 1 ((C))) := hu_18
      have hw : qw D A s.heap [((ap 1), .inl (cB, 700, .inl (ai bf))), ((ap 0), .inr (2, [.ref (ap 1), .int (iI pfl), .ref (b 0), .int (iI pln), .int (iI pkd), .int (iI pst), .int (iI pen), .int (iI er2_5), .int (iI pls), .int (iI pss)]))] H locs := hw
      have b_5 := ()
      refine q_iconst hx hb dX2_takeNumber_21 ?_
      exact hret (pst, pen, pkd, er2_5, (-1)) H locs 22 ls ⟨(by (rw [(rdP_1 (by omega)).1]; exact hu_5_0)), (by exact fun y => absurd (((congrFun (congrFun (rdP_1 (by omega)).1 9) 3).symm).trans y) (rdP_1 (f := bf) (n := pln) (lo := lo) (hi := hI) (by omega)).2), (by (dsimp only; omega))⟩ (hw.sub [1, 0] (by decide) rfl) dX2_takeNumber_22
