variable {l : Launch} {z : Nat → Nat} {D : va_G} {cI cB cZ cS cJ : ClassId}

set_option maxHeartbeats 4000000 in
set_option maxRecDepth 100000 in
theorem c_X1_init {q0 : Nat} : qH l (ZW z) D (tyG cI cB cZ cS cJ) yX1_init (.code yX1_init cX1_init 1 none :: gW) 1 20 1 6 [.ref q0] [(q0, .inr (1, [.null, .int (iI 0)]))] (fun u : (Nat → Nat) => u 0 = q0) (fun _ => none) (fun u => [((u 0), .inr (1, [.ref (u 1), .int (iI 0)])), ((u 1), .inl (cI, 6, .inl (ai (fun _ => 0))))]) := by
  refine qH_enterC (by decide) (Nat.le_of_ble_eq_true rfl) (fun p e R s m args below meth c Q ls A X hR hA hw hZ hl hnm hret => ?_)
  obtain ⟨hx, hb, hml, hown, hts, hK⟩ := X
  have hl : lv_has ls 1 [(0, .ref q0)] := hl
  suffices K : ∀ (H : Heap) (locs : List Loc), qw D A s.heap [(q0, .inr (1, [.null, .int (iI 0)]))] H locs → W p l e R s m args below meth c H locs 0 0 Q (F0 m 0 ls []) from K s.heap [] hw
  clear hw
  intro H locs hw
  refine lv_aload_n hx hb dX1_init_0 rfl (lv_at hl 0 rfl) ?_
  refine q_objI hx hb hml hown hts ml_X1_3 hl.1 (lv_room (Nat.le_of_ble_eq_true rfl)) dX1_init_1 (by rw [hR]; exact ⟨Nat.le_of_ble_eq_true rfl, Nat.le_of_ble_eq_true rfl⟩) ?_
  refine lv_aload_n hx hb dX1_init_4 rfl (lv_at hl 0 rfl) ?_
  refine q_bipush hx hb dX1_init_5 rfl ?_
  refine q_newA (at0 := .int) (ft := .int) (t0 := 0) (N := 6) (cA0 := cI) (a0 := (6, .inl (ai (fun _ => 0)))) hx hb hts hK hw hA ac_int rfl rfl rfl (Nat.le_of_ble_eq_true rfl) (Nat.le_of_ble_eq_true rfl) ⟨by rw [hR]; exact Nat.le_of_ble_eq_true rfl, by rw [hR]; exact Nat.le_of_ble_eq_true rfl⟩ dX1_init_7 (fun q_1 H hw => ?_)
  replace hw : qw D A s.heap [(q0, .inr (1, [.null, .int (iI 0)])), (q_1, .inl (cI, 6, .inl (ai (fun _ => 0))))] H locs := hw
  refine q_putF hx hb hts hown hK hw ci_X1 0 rfl 0 (by decide) fl_X1_9 rfl hnm rfl rfl rfl (Nat.le_of_ble_eq_true rfl) dX1_init_9 (fun H locs hw => ?_)
  replace hw : qw D A s.heap [(q0, .inr (1, [.ref q_1, .int (iI 0)])), (q_1, .inl (cI, 6, .inl (ai (fun _ => 0))))] H locs := hw
  exact hret (fun i => ([q0, q_1] : List Nat).getD i 0) H locs 12 ls rfl hw dX1_init_12

set_option maxHeartbeats 4000000 in
set_option maxRecDepth 100000 in
theorem c_X3_init {q0 : Nat} : qH l (ZW z) D (tyG cI cB cZ cS cJ) yX3_init (.code yX3_init cX3_init 1 none :: gW) 1 20 0 0 [.ref q0] [(q0, .inr (3, [.int (iI 0), .int (iI 0), .int (iI 0), .int (iI 0), .int (iI 0)]))] (fun u : Unit => True) (fun _ => none) (fun u => [(q0, .inr (3, [.int (iI 0), .int (iI 0), .int (iI 0), .int (iI 0), .int (iI 0)]))]) := by
  refine qH_enterC (by decide) (Nat.le_of_ble_eq_true rfl) (fun p e R s m args below meth c Q ls A X hR hA hw hZ hl hnm hret => ?_)
  obtain ⟨hx, hb, hml, hown, hts, hK⟩ := X
  have hl : lv_has ls 1 [(0, .ref q0)] := hl
  suffices K : ∀ (H : Heap) (locs : List Loc), qw D A s.heap [(q0, .inr (3, [.int (iI 0), .int (iI 0), .int (iI 0), .int (iI 0), .int (iI 0)]))] H locs → W p l e R s m args below meth c H locs 0 0 Q (F0 m 0 ls []) from K s.heap [] hw
  clear hw
  intro H locs hw
  refine lv_aload_n hx hb dX3_init_0 rfl (lv_at hl 0 rfl) ?_
  refine q_objI hx hb hml hown hts ml_X3_3 hl.1 (lv_room (Nat.le_of_ble_eq_true rfl)) dX3_init_1 (by rw [hR]; exact ⟨Nat.le_of_ble_eq_true rfl, Nat.le_of_ble_eq_true rfl⟩) ?_
  exact hret () H locs 4 ls trivial hw dX3_init_4

set_option maxHeartbeats 4000000 in
set_option maxRecDepth 100000 in
theorem c_X4_init {q0 : Nat} : qH l (ZW z) D (tyG cI cB cZ cS cJ) yX4_init (.code yX4_init cX4_init 1 none :: gW) 1 20 8 284 [.ref q0] [(q0, .inr (4, [.null, .null, .null, .null, .null, .null, .null, .null, .int (iI 0), .int (iI 0), .int (iI 0), .int (iI 0)]))] (fun u : (Nat → Nat) => u 0 = q0) (fun _ => none) (fun u => [((u 0), .inr (4, [.ref (u 1), .ref (u 2), .ref (u 3), .ref (u 4), .ref (u 5), .ref (u 6), .ref (u 7), .ref (u 8), .int (iI 0), .int (iI 0), .int (iI 0), .int (iI 0)])), ((u 1), .inl (cI, 40, .inl (ai (fun _ => 0)))), ((u 2), .inl (cI, 40, .inl (ai (fun _ => 0)))), ((u 3), .inl (cI, 40, .inl (ai (fun _ => 0)))), ((u 4), .inl (cI, 40, .inl (ai (fun _ => 0)))), ((u 5), .inl (cI, 40, .inl (ai (fun _ => 0)))), ((u 6), .inl (cI, 40, .inl (ai (fun _ => 0)))), ((u 7), .inl (cI, 40, .inl (ai (fun _ => 0)))), ((u 8), .inl (cI, 4, .inl (ai (fun _ => 0))))]) := by
  refine qH_enterC (by decide) (Nat.le_of_ble_eq_true rfl) (fun p e R s m args below meth c Q ls A X hR hA hw hZ hl hnm hret => ?_)
  obtain ⟨hx, hb, hml, hown, hts, hK⟩ := X
  have hl : lv_has ls 1 [(0, .ref q0)] := hl
  suffices K : ∀ (H : Heap) (locs : List Loc), qw D A s.heap [(q0, .inr (4, [.null, .null, .null, .null, .null, .null, .null, .null, .int (iI 0), .int (iI 0), .int (iI 0), .int (iI 0)]))] H locs → W p l e R s m args below meth c H locs 0 0 Q (F0 m 0 ls []) from K s.heap [] hw
  clear hw
  intro H locs hw
  refine lv_aload_n hx hb dX4_init_0 rfl (lv_at hl 0 rfl) ?_
  refine q_objI hx hb hml hown hts ml_X4_3 hl.1 (lv_room (Nat.le_of_ble_eq_true rfl)) dX4_init_1 (by rw [hR]; exact ⟨Nat.le_of_ble_eq_true rfl, Nat.le_of_ble_eq_true rfl⟩) ?_
  refine lv_aload_n hx hb dX4_init_4 rfl (lv_at hl 0 rfl) ?_
  refine q_bipush hx hb dX4_init_5 rfl ?_
  refine q_newA (at0 := .int) (ft := .int) (t0 := 0) (N := 40) (cA0 := cI) (a0 := (40, .inl (ai (fun _ => 0)))) hx hb hts hK hw hA ac_int rfl rfl rfl (Nat.le_of_ble_eq_true rfl) (Nat.le_of_ble_eq_true rfl) ⟨by rw [hR]; exact Nat.le_of_ble_eq_true rfl, by rw [hR]; exact Nat.le_of_ble_eq_true rfl⟩ dX4_init_7 (fun q_1 H hw => ?_)
  replace hw : qw D A s.heap [(q0, .inr (4, [.null, .null, .null, .null, .null, .null, .null, .null, .int (iI 0), .int (iI 0), .int (iI 0), .int (iI 0)])), (q_1, .inl (cI, 40, .inl (ai (fun _ => 0))))] H locs := hw
  refine q_putF hx hb hts hown hK hw ci_X4 0 rfl 0 (by decide) fl_X4_9 rfl hnm rfl rfl rfl (Nat.le_of_ble_eq_true rfl) dX4_init_9 (fun H locs hw => ?_)
  replace hw : qw D A s.heap [(q0, .inr (4, [.ref q_1, .null, .null, .null, .null, .null, .null, .null, .int (iI 0), .int (iI 0), .int (iI 0), .int (iI 0)])), (q_1, .inl (cI, 40, .inl (ai (fun _ => 0))))] H locs := hw
  refine lv_aload_n hx hb dX4_init_12 rfl (lv_at hl 0 rfl) ?_
  refine q_bipush hx hb dX4_init_13 rfl ?_
  refine q_newA (at0 := .int) (ft := .int) (t0 := 0) (N := 40) (cA0 := cI) (a0 := (40, .inl (ai (fun _ => 0)))) hx hb hts hK hw hA ac_int rfl rfl rfl (Nat.le_of_ble_eq_true rfl) (Nat.le_of_ble_eq_true rfl) ⟨by rw [hR]; exact Nat.le_of_ble_eq_true rfl, by rw [hR]; exact Nat.le_of_ble_eq_true rfl⟩ dX4_init_15 (fun q_2 H hw => ?_)
  replace hw : qw D A s.heap [(q0, .inr (4, [.ref q_1, .null, .null, .null, .null, .null, .null, .null, .int (iI 0), .int (iI 0), .int (iI 0), .int (iI 0)])), (q_1, .inl (cI, 40, .inl (ai (fun _ => 0)))), (q_2, .inl (cI, 40, .inl (ai (fun _ => 0))))] H locs := hw
  refine q_putF hx hb hts hown hK hw ci_X4 0 rfl 1 (by decide) fl_X4_15 rfl hnm rfl rfl rfl (Nat.le_of_ble_eq_true rfl) dX4_init_17 (fun H locs hw => ?_)
  replace hw : qw D A s.heap [(q0, .inr (4, [.ref q_1, .ref q_2, .null, .null, .null, .null, .null, .null, .int (iI 0), .int (iI 0), .int (iI 0), .int (iI 0)])), (q_1, .inl (cI, 40, .inl (ai (fun _ => 0)))), (q_2, .inl (cI, 40, .inl (ai (fun _ => 0))))] H locs := hw
  refine lv_aload_n hx hb dX4_init_20 rfl (lv_at hl 0 rfl) ?_
  refine q_bipush hx hb dX4_init_21 rfl ?_
  refine q_newA (at0 := .int) (ft := .int) (t0 := 0) (N := 40) (cA0 := cI) (a0 := (40, .inl (ai (fun _ => 0)))) hx hb hts hK hw hA ac_int rfl rfl rfl (Nat.le_of_ble_eq_true rfl) (Nat.le_of_ble_eq_true rfl) ⟨by rw [hR]; exact Nat.le_of_ble_eq_true rfl, by rw [hR]; exact Nat.le_of_ble_eq_true rfl⟩ dX4_init_23 (fun q_3 H hw => ?_)
  replace hw : qw D A s.heap [(q0, .inr (4, [.ref q_1, .ref q_2, .null, .null, .null, .null, .null, .null, .int (iI 0), .int (iI 0), .int (iI 0), .int (iI 0)])), (q_1, .inl (cI, 40, .inl (ai (fun _ => 0)))), (q_2, .inl (cI, 40, .inl (ai (fun _ => 0)))), (q_3, .inl (cI, 40, .inl (ai (fun _ => 0))))] H locs := hw
  refine q_putF hx hb hts hown hK hw ci_X4 0 rfl 2 (by decide) fl_X4_18 rfl hnm rfl rfl rfl (Nat.le_of_ble_eq_true rfl) dX4_init_25 (fun H locs hw => ?_)
  replace hw : qw D A s.heap [(q0, .inr (4, [.ref q_1, .ref q_2, .ref q_3, .null, .null, .null, .null, .null, .int (iI 0), .int (iI 0), .int (iI 0), .int (iI 0)])), (q_1, .inl (cI, 40, .inl (ai (fun _ => 0)))), (q_2, .inl (cI, 40, .inl (ai (fun _ => 0)))), (q_3, .inl (cI, 40, .inl (ai (fun _ => 0))))] H locs := hw
  refine lv_aload_n hx hb dX4_init_28 rfl (lv_at hl 0 rfl) ?_
  refine q_bipush hx hb dX4_init_29 rfl ?_
  refine q_newA (at0 := .int) (ft := .int) (t0 := 0) (N := 40) (cA0 := cI) (a0 := (40, .inl (ai (fun _ => 0)))) hx hb hts hK hw hA ac_int rfl rfl rfl (Nat.le_of_ble_eq_true rfl) (Nat.le_of_ble_eq_true rfl) ⟨by rw [hR]; exact Nat.le_of_ble_eq_true rfl, by rw [hR]; exact Nat.le_of_ble_eq_true rfl⟩ dX4_init_31 (fun q_4 H hw => ?_)
  replace hw : qw D A s.heap [(q0, .inr (4, [.ref q_1, .ref q_2, .ref q_3, .null, .null, .null, .null, .null, .int (iI 0), .int (iI 0), .int (iI 0), .int (iI 0)])), (q_1, .inl (cI, 40, .inl (ai (fun _ => 0)))), (q_2, .inl (cI, 40, .inl (ai (fun _ => 0)))), (q_3, .inl (cI, 40, .inl (ai (fun _ => 0)))), (q_4, .inl (cI, 40, .inl (ai (fun _ => 0))))] H locs := hw
  refine q_putF hx hb hts hown hK hw ci_X4 0 rfl 3 (by decide) fl_X4_21 rfl hnm rfl rfl rfl (Nat.le_of_ble_eq_true rfl) dX4_init_33 (fun H locs hw => ?_)
  replace hw : qw D A s.heap [(q0, .inr (4, [.ref q_1, .ref q_2, .ref q_3, .ref q_4, .null, .null, .null, .null, .int (iI 0), .int (iI 0), .int (iI 0), .int (iI 0)])), (q_1, .inl (cI, 40, .inl (ai (fun _ => 0)))), (q_2, .inl (cI, 40, .inl (ai (fun _ => 0)))), (q_3, .inl (cI, 40, .inl (ai (fun _ => 0)))), (q_4, .inl (cI, 40, .inl (ai (fun _ => 0))))] H locs := hw
  refine lv_aload_n hx hb dX4_init_36 rfl (lv_at hl 0 rfl) ?_
  refine q_bipush hx hb dX4_init_37 rfl ?_
  refine q_newA (at0 := .int) (ft := .int) (t0 := 0) (N := 40) (cA0 := cI) (a0 := (40, .inl (ai (fun _ => 0)))) hx hb hts hK hw hA ac_int rfl rfl rfl (Nat.le_of_ble_eq_true rfl) (Nat.le_of_ble_eq_true rfl) ⟨by rw [hR]; exact Nat.le_of_ble_eq_true rfl, by rw [hR]; exact Nat.le_of_ble_eq_true rfl⟩ dX4_init_39 (fun q_5 H hw => ?_)
  replace hw : qw D A s.heap [(q0, .inr (4, [.ref q_1, .ref q_2, .ref q_3, .ref q_4, .null, .null, .null, .null, .int (iI 0), .int (iI 0), .int (iI 0), .int (iI 0)])), (q_1, .inl (cI, 40, .inl (ai (fun _ => 0)))), (q_2, .inl (cI, 40, .inl (ai (fun _ => 0)))), (q_3, .inl (cI, 40, .inl (ai (fun _ => 0)))), (q_4, .inl (cI, 40, .inl (ai (fun _ => 0)))), (q_5, .inl (cI, 40, .inl (ai (fun _ => 0))))] H locs := hw
  refine q_putF hx hb hts hown hK hw ci_X4 0 rfl 4 (by decide) fl_X4_24 rfl hnm rfl rfl rfl (Nat.le_of_ble_eq_true rfl) dX4_init_41 (fun H locs hw => ?_)
  replace hw : qw D A s.heap [(q0, .inr (4, [.ref q_1, .ref q_2, .ref q_3, .ref q_4, .ref q_5, .null, .null, .null, .int (iI 0), .int (iI 0), .int (iI 0), .int (iI 0)])), (q_1, .inl (cI, 40, .inl (ai (fun _ => 0)))), (q_2, .inl (cI, 40, .inl (ai (fun _ => 0)))), (q_3, .inl (cI, 40, .inl (ai (fun _ => 0)))), (q_4, .inl (cI, 40, .inl (ai (fun _ => 0)))), (q_5, .inl (cI, 40, .inl (ai (fun _ => 0))))] H locs := hw
  refine lv_aload_n hx hb dX4_init_44 rfl (lv_at hl 0 rfl) ?_
  refine q_bipush hx hb dX4_init_45 rfl ?_
  refine q_newA (at0 := .int) (ft := .int) (t0 := 0) (N := 40) (cA0 := cI) (a0 := (40, .inl (ai (fun _ => 0)))) hx hb hts hK hw hA ac_int rfl rfl rfl (Nat.le_of_ble_eq_true rfl) (Nat.le_of_ble_eq_true rfl) ⟨by rw [hR]; exact Nat.le_of_ble_eq_true rfl, by rw [hR]; exact Nat.le_of_ble_eq_true rfl⟩ dX4_init_47 (fun q_6 H hw => ?_)
  replace hw : qw D A s.heap [(q0, .inr (4, [.ref q_1, .ref q_2, .ref q_3, .ref q_4, .ref q_5, .null, .null, .null, .int (iI 0), .int (iI 0), .int (iI 0), .int (iI 0)])), (q_1, .inl (cI, 40, .inl (ai (fun _ => 0)))), (q_2, .inl (cI, 40, .inl (ai (fun _ => 0)))), (q_3, .inl (cI, 40, .inl (ai (fun _ => 0)))), (q_4, .inl (cI, 40, .inl (ai (fun _ => 0)))), (q_5, .inl (cI, 40, .inl (ai (fun _ => 0)))), (q_6, .inl (cI, 40, .inl (ai (fun _ => 0))))] H locs := hw
  refine q_putF hx hb hts hown hK hw ci_X4 0 rfl 5 (by decide) fl_X4_27 rfl hnm rfl rfl rfl (Nat.le_of_ble_eq_true rfl) dX4_init_49 (fun H locs hw => ?_)
  replace hw : qw D A s.heap [(q0, .inr (4, [.ref q_1, .ref q_2, .ref q_3, .ref q_4, .ref q_5, .ref q_6, .null, .null, .int (iI 0), .int (iI 0), .int (iI 0), .int (iI 0)])), (q_1, .inl (cI, 40, .inl (ai (fun _ => 0)))), (q_2, .inl (cI, 40, .inl (ai (fun _ => 0)))), (q_3, .inl (cI, 40, .inl (ai (fun _ => 0)))), (q_4, .inl (cI, 40, .inl (ai (fun _ => 0)))), (q_5, .inl (cI, 40, .inl (ai (fun _ => 0)))), (q_6, .inl (cI, 40, .inl (ai (fun _ => 0))))] H locs := hw
  refine lv_aload_n hx hb dX4_init_52 rfl (lv_at hl 0 rfl) ?_
  refine q_bipush hx hb dX4_init_53 rfl ?_
  refine q_newA (at0 := .int) (ft := .int) (t0 := 0) (N := 40) (cA0 := cI) (a0 := (40, .inl (ai (fun _ => 0)))) hx hb hts hK hw hA ac_int rfl rfl rfl (Nat.le_of_ble_eq_true rfl) (Nat.le_of_ble_eq_true rfl) ⟨by rw [hR]; exact Nat.le_of_ble_eq_true rfl, by rw [hR]; exact Nat.le_of_ble_eq_true rfl⟩ dX4_init_55 (fun q_7 H hw => ?_)
  replace hw : qw D A s.heap [(q0, .inr (4, [.ref q_1, .ref q_2, .ref q_3, .ref q_4, .ref q_5, .ref q_6, .null, .null, .int (iI 0), .int (iI 0), .int (iI 0), .int (iI 0)])), (q_1, .inl (cI, 40, .inl (ai (fun _ => 0)))), (q_2, .inl (cI, 40, .inl (ai (fun _ => 0)))), (q_3, .inl (cI, 40, .inl (ai (fun _ => 0)))), (q_4, .inl (cI, 40, .inl (ai (fun _ => 0)))), (q_5, .inl (cI, 40, .inl (ai (fun _ => 0)))), (q_6, .inl (cI, 40, .inl (ai (fun _ => 0)))), (q_7, .inl (cI, 40, .inl (ai (fun _ => 0))))] H locs := hw
  refine q_putF hx hb hts hown hK hw ci_X4 0 rfl 6 (by decide) fl_X4_30 rfl hnm rfl rfl rfl (Nat.le_of_ble_eq_true rfl) dX4_init_57 (fun H locs hw => ?_)
  replace hw : qw D A s.heap [(q0, .inr (4, [.ref q_1, .ref q_2, .ref q_3, .ref q_4, .ref q_5, .ref q_6, .ref q_7, .null, .int (iI 0), .int (iI 0), .int (iI 0), .int (iI 0)])), (q_1, .inl (cI, 40, .inl (ai (fun _ => 0)))), (q_2, .inl (cI, 40, .inl (ai (fun _ => 0)))), (q_3, .inl (cI, 40, .inl (ai (fun _ => 0)))), (q_4, .inl (cI, 40, .inl (ai (fun _ => 0)))), (q_5, .inl (cI, 40, .inl (ai (fun _ => 0)))), (q_6, .inl (cI, 40, .inl (ai (fun _ => 0)))), (q_7, .inl (cI, 40, .inl (ai (fun _ => 0))))] H locs := hw
  refine lv_aload_n hx hb dX4_init_60 rfl (lv_at hl 0 rfl) ?_
  refine q_iconst hx hb dX4_init_61 ?_
  refine q_newA (at0 := .int) (ft := .int) (t0 := 0) (N := 4) (cA0 := cI) (a0 := (4, .inl (ai (fun _ => 0)))) hx hb hts hK hw hA ac_int rfl rfl rfl (Nat.le_of_ble_eq_true rfl) (Nat.le_of_ble_eq_true rfl) ⟨by rw [hR]; exact Nat.le_of_ble_eq_true rfl, by rw [hR]; exact Nat.le_of_ble_eq_true rfl⟩ dX4_init_62 (fun q_8 H hw => ?_)
  replace hw : qw D A s.heap [(q0, .inr (4, [.ref q_1, .ref q_2, .ref q_3, .ref q_4, .ref q_5, .ref q_6, .ref q_7, .null, .int (iI 0), .int (iI 0), .int (iI 0), .int (iI 0)])), (q_1, .inl (cI, 40, .inl (ai (fun _ => 0)))), (q_2, .inl (cI, 40, .inl (ai (fun _ => 0)))), (q_3, .inl (cI, 40, .inl (ai (fun _ => 0)))), (q_4, .inl (cI, 40, .inl (ai (fun _ => 0)))), (q_5, .inl (cI, 40, .inl (ai (fun _ => 0)))), (q_6, .inl (cI, 40, .inl (ai (fun _ => 0)))), (q_7, .inl (cI, 40, .inl (ai (fun _ => 0)))), (q_8, .inl (cI, 4, .inl (ai (fun _ => 0))))] H locs := hw
  refine q_putF hx hb hts hown hK hw ci_X4 0 rfl 7 (by decide) fl_X4_33 rfl hnm rfl rfl rfl (Nat.le_of_ble_eq_true rfl) dX4_init_64 (fun H locs hw => ?_)
  replace hw : qw D A s.heap [(q0, .inr (4, [.ref q_1, .ref q_2, .ref q_3, .ref q_4, .ref q_5, .ref q_6, .ref q_7, .ref q_8, .int (iI 0), .int (iI 0), .int (iI 0), .int (iI 0)])), (q_1, .inl (cI, 40, .inl (ai (fun _ => 0)))), (q_2, .inl (cI, 40, .inl (ai (fun _ => 0)))), (q_3, .inl (cI, 40, .inl (ai (fun _ => 0)))), (q_4, .inl (cI, 40, .inl (ai (fun _ => 0)))), (q_5, .inl (cI, 40, .inl (ai (fun _ => 0)))), (q_6, .inl (cI, 40, .inl (ai (fun _ => 0)))), (q_7, .inl (cI, 40, .inl (ai (fun _ => 0)))), (q_8, .inl (cI, 4, .inl (ai (fun _ => 0))))] H locs := hw
  exact hret (fun i => ([q0, q_1, q_2, q_3, q_4, q_5, q_6, q_7, q_8] : List Nat).getD i 0) H locs 67 ls rfl hw dX4_init_67

set_option maxHeartbeats 4000000 in
set_option maxRecDepth 100000 in
theorem c_X5_init {q0 : Nat} : qH l (ZW z) D (tyG cI cB cZ cS cJ) yX5_init (.code yX5_init cX5_init 1 none :: gW) 2 60 12 560 [.ref q0] [(q0, .inr (5, [.null, .null, .null, .null, .null, .null, .null, .null, .null, .null, .null, .int (iI 0), .int (iI 0), .int (iI 0), .int (iI 0), .int (iI 0), .int (iI 0)]))] (fun u : (Nat → Nat) => u 0 = q0) (fun _ => none) (fun u => [((u 0), .inr (5, [.ref (u 1), .ref (u 2), .ref (u 3), .ref (u 4), .ref (u 5), .ref (u 6), .ref (u 7), .ref (u 8), .ref (u 9), .ref (u 10), .ref (u 11), .int (iI 0), .int (iI 0), .int (iI 0), .int (iI 0), .int (iI 0), .int (iI 0)])), ((u 1), .inl (cI, 40, .inl (ai (fun _ => 0)))), ((u 2), .inl (cI, 40, .inl (ai (fun _ => 0)))), ((u 3), .inl (cI, 40, .inl (ai (fun _ => 0)))), ((u 4), .inl (cI, 40, .inl (ai (fun _ => 0)))), ((u 5), .inl (cI, 80, .inl (ai (fun _ => 0)))), ((u 6), .inl (cI, 80, .inl (ai (fun _ => 0)))), ((u 7), .inl (cI, 80, .inl (ai (fun _ => 0)))), ((u 8), .inl (cI, 139, .inl (ai (fun _ => 0)))), ((u 9), .inl (cI, 4, .inl (ai (fun _ => 0)))), ((u 10), .inl (cI, 9, .inl (ai (fun _ => 0)))), ((u 11), .inr (1, [.ref (u 12), .int (iI 0)])), ((u 12), .inl (cI, 6, .inl (ai (fun _ => 0))))]) := by
  refine qH_enterC (by decide) (Nat.le_of_ble_eq_true rfl) (fun p e R s m args below meth c Q ls A X hR hA hw hZ hl hnm hret => ?_)
  obtain ⟨hx, hb, hml, hown, hts, hK⟩ := X
  have hl : lv_has ls 1 [(0, .ref q0)] := hl
  suffices K : ∀ (H : Heap) (locs : List Loc), qw D A s.heap [(q0, .inr (5, [.null, .null, .null, .null, .null, .null, .null, .null, .null, .null, .null, .int (iI 0), .int (iI 0), .int (iI 0), .int (iI 0), .int (iI 0), .int (iI 0)]))] H locs → W p l e R s m args below meth c H locs 0 0 Q (F0 m 0 ls []) from K s.heap [] hw
  clear hw
  intro H locs hw
  refine lv_aload_n hx hb dX5_init_0 rfl (lv_at hl 0 rfl) ?_
  refine q_objI hx hb hml hown hts ml_X5_3 hl.1 (lv_room (Nat.le_of_ble_eq_true rfl)) dX5_init_1 (by rw [hR]; exact ⟨Nat.le_of_ble_eq_true rfl, Nat.le_of_ble_eq_true rfl⟩) ?_
  refine lv_aload_n hx hb dX5_init_4 rfl (lv_at hl 0 rfl) ?_
  refine q_bipush hx hb dX5_init_5 rfl ?_
  refine q_newA (at0 := .int) (ft := .int) (t0 := 0) (N := 40) (cA0 := cI) (a0 := (40, .inl (ai (fun _ => 0)))) hx hb hts hK hw hA ac_int rfl rfl rfl (Nat.le_of_ble_eq_true rfl) (Nat.le_of_ble_eq_true rfl) ⟨by rw [hR]; exact Nat.le_of_ble_eq_true rfl, by rw [hR]; exact Nat.le_of_ble_eq_true rfl⟩ dX5_init_7 (fun q_1 H hw => ?_)
  replace hw : qw D A s.heap [(q0, .inr (5, [.null, .null, .null, .null, .null, .null, .null, .null, .null, .null, .null, .int (iI 0), .int (iI 0), .int (iI 0), .int (iI 0), .int (iI 0), .int (iI 0)])), (q_1, .inl (cI, 40, .inl (ai (fun _ => 0))))] H locs := hw
  refine q_putF hx hb hts hown hK hw ci_X5 0 rfl 0 (by decide) fl_X5_9 rfl hnm rfl rfl rfl (Nat.le_of_ble_eq_true rfl) dX5_init_9 (fun H locs hw => ?_)
  replace hw : qw D A s.heap [(q0, .inr (5, [.ref q_1, .null, .null, .null, .null, .null, .null, .null, .null, .null, .null, .int (iI 0), .int (iI 0), .int (iI 0), .int (iI 0), .int (iI 0), .int (iI 0)])), (q_1, .inl (cI, 40, .inl (ai (fun _ => 0))))] H locs := hw
  refine lv_aload_n hx hb dX5_init_12 rfl (lv_at hl 0 rfl) ?_
  refine q_bipush hx hb dX5_init_13 rfl ?_
  refine q_newA (at0 := .int) (ft := .int) (t0 := 0) (N := 40) (cA0 := cI) (a0 := (40, .inl (ai (fun _ => 0)))) hx hb hts hK hw hA ac_int rfl rfl rfl (Nat.le_of_ble_eq_true rfl) (Nat.le_of_ble_eq_true rfl) ⟨by rw [hR]; exact Nat.le_of_ble_eq_true rfl, by rw [hR]; exact Nat.le_of_ble_eq_true rfl⟩ dX5_init_15 (fun q_2 H hw => ?_)
  replace hw : qw D A s.heap [(q0, .inr (5, [.ref q_1, .null, .null, .null, .null, .null, .null, .null, .null, .null, .null, .int (iI 0), .int (iI 0), .int (iI 0), .int (iI 0), .int (iI 0), .int (iI 0)])), (q_1, .inl (cI, 40, .inl (ai (fun _ => 0)))), (q_2, .inl (cI, 40, .inl (ai (fun _ => 0))))] H locs := hw
  refine q_putF hx hb hts hown hK hw ci_X5 0 rfl 1 (by decide) fl_X5_15 rfl hnm rfl rfl rfl (Nat.le_of_ble_eq_true rfl) dX5_init_17 (fun H locs hw => ?_)
  replace hw : qw D A s.heap [(q0, .inr (5, [.ref q_1, .ref q_2, .null, .null, .null, .null, .null, .null, .null, .null, .null, .int (iI 0), .int (iI 0), .int (iI 0), .int (iI 0), .int (iI 0), .int (iI 0)])), (q_1, .inl (cI, 40, .inl (ai (fun _ => 0)))), (q_2, .inl (cI, 40, .inl (ai (fun _ => 0))))] H locs := hw
  refine lv_aload_n hx hb dX5_init_20 rfl (lv_at hl 0 rfl) ?_
  refine q_bipush hx hb dX5_init_21 rfl ?_
  refine q_newA (at0 := .int) (ft := .int) (t0 := 0) (N := 40) (cA0 := cI) (a0 := (40, .inl (ai (fun _ => 0)))) hx hb hts hK hw hA ac_int rfl rfl rfl (Nat.le_of_ble_eq_true rfl) (Nat.le_of_ble_eq_true rfl) ⟨by rw [hR]; exact Nat.le_of_ble_eq_true rfl, by rw [hR]; exact Nat.le_of_ble_eq_true rfl⟩ dX5_init_23 (fun q_3 H hw => ?_)
  replace hw : qw D A s.heap [(q0, .inr (5, [.ref q_1, .ref q_2, .null, .null, .null, .null, .null, .null, .null, .null, .null, .int (iI 0), .int (iI 0), .int (iI 0), .int (iI 0), .int (iI 0), .int (iI 0)])), (q_1, .inl (cI, 40, .inl (ai (fun _ => 0)))), (q_2, .inl (cI, 40, .inl (ai (fun _ => 0)))), (q_3, .inl (cI, 40, .inl (ai (fun _ => 0))))] H locs := hw
  refine q_putF hx hb hts hown hK hw ci_X5 0 rfl 2 (by decide) fl_X5_18 rfl hnm rfl rfl rfl (Nat.le_of_ble_eq_true rfl) dX5_init_25 (fun H locs hw => ?_)
  replace hw : qw D A s.heap [(q0, .inr (5, [.ref q_1, .ref q_2, .ref q_3, .null, .null, .null, .null, .null, .null, .null, .null, .int (iI 0), .int (iI 0), .int (iI 0), .int (iI 0), .int (iI 0), .int (iI 0)])), (q_1, .inl (cI, 40, .inl (ai (fun _ => 0)))), (q_2, .inl (cI, 40, .inl (ai (fun _ => 0)))), (q_3, .inl (cI, 40, .inl (ai (fun _ => 0))))] H locs := hw
  refine lv_aload_n hx hb dX5_init_28 rfl (lv_at hl 0 rfl) ?_
  refine q_bipush hx hb dX5_init_29 rfl ?_
  refine q_newA (at0 := .int) (ft := .int) (t0 := 0) (N := 40) (cA0 := cI) (a0 := (40, .inl (ai (fun _ => 0)))) hx hb hts hK hw hA ac_int rfl rfl rfl (Nat.le_of_ble_eq_true rfl) (Nat.le_of_ble_eq_true rfl) ⟨by rw [hR]; exact Nat.le_of_ble_eq_true rfl, by rw [hR]; exact Nat.le_of_ble_eq_true rfl⟩ dX5_init_31 (fun q_4 H hw => ?_)
  replace hw : qw D A s.heap [(q0, .inr (5, [.ref q_1, .ref q_2, .ref q_3, .null, .null, .null, .null, .null, .null, .null, .null, .int (iI 0), .int (iI 0), .int (iI 0), .int (iI 0), .int (iI 0), .int (iI 0)])), (q_1, .inl (cI, 40, .inl (ai (fun _ => 0)))), (q_2, .inl (cI, 40, .inl (ai (fun _ => 0)))), (q_3, .inl (cI, 40, .inl (ai (fun _ => 0)))), (q_4, .inl (cI, 40, .inl (ai (fun _ => 0))))] H locs := hw
  refine q_putF hx hb hts hown hK hw ci_X5 0 rfl 3 (by decide) fl_X5_21 rfl hnm rfl rfl rfl (Nat.le_of_ble_eq_true rfl) dX5_init_33 (fun H locs hw => ?_)
  replace hw : qw D A s.heap [(q0, .inr (5, [.ref q_1, .ref q_2, .ref q_3, .ref q_4, .null, .null, .null, .null, .null, .null, .null, .int (iI 0), .int (iI 0), .int (iI 0), .int (iI 0), .int (iI 0), .int (iI 0)])), (q_1, .inl (cI, 40, .inl (ai (fun _ => 0)))), (q_2, .inl (cI, 40, .inl (ai (fun _ => 0)))), (q_3, .inl (cI, 40, .inl (ai (fun _ => 0)))), (q_4, .inl (cI, 40, .inl (ai (fun _ => 0))))] H locs := hw
  refine lv_aload_n hx hb dX5_init_36 rfl (lv_at hl 0 rfl) ?_
  refine q_bipush hx hb dX5_init_37 rfl ?_
  refine q_newA (at0 := .int) (ft := .int) (t0 := 0) (N := 80) (cA0 := cI) (a0 := (80, .inl (ai (fun _ => 0)))) hx hb hts hK hw hA ac_int rfl rfl rfl (Nat.le_of_ble_eq_true rfl) (Nat.le_of_ble_eq_true rfl) ⟨by rw [hR]; exact Nat.le_of_ble_eq_true rfl, by rw [hR]; exact Nat.le_of_ble_eq_true rfl⟩ dX5_init_39 (fun q_5 H hw => ?_)
  replace hw : qw D A s.heap [(q0, .inr (5, [.ref q_1, .ref q_2, .ref q_3, .ref q_4, .null, .null, .null, .null, .null, .null, .null, .int (iI 0), .int (iI 0), .int (iI 0), .int (iI 0), .int (iI 0), .int (iI 0)])), (q_1, .inl (cI, 40, .inl (ai (fun _ => 0)))), (q_2, .inl (cI, 40, .inl (ai (fun _ => 0)))), (q_3, .inl (cI, 40, .inl (ai (fun _ => 0)))), (q_4, .inl (cI, 40, .inl (ai (fun _ => 0)))), (q_5, .inl (cI, 80, .inl (ai (fun _ => 0))))] H locs := hw
  refine q_putF hx hb hts hown hK hw ci_X5 0 rfl 4 (by decide) fl_X5_24 rfl hnm rfl rfl rfl (Nat.le_of_ble_eq_true rfl) dX5_init_41 (fun H locs hw => ?_)
  replace hw : qw D A s.heap [(q0, .inr (5, [.ref q_1, .ref q_2, .ref q_3, .ref q_4, .ref q_5, .null, .null, .null, .null, .null, .null, .int (iI 0), .int (iI 0), .int (iI 0), .int (iI 0), .int (iI 0), .int (iI 0)])), (q_1, .inl (cI, 40, .inl (ai (fun _ => 0)))), (q_2, .inl (cI, 40, .inl (ai (fun _ => 0)))), (q_3, .inl (cI, 40, .inl (ai (fun _ => 0)))), (q_4, .inl (cI, 40, .inl (ai (fun _ => 0)))), (q_5, .inl (cI, 80, .inl (ai (fun _ => 0))))] H locs := hw
  refine lv_aload_n hx hb dX5_init_44 rfl (lv_at hl 0 rfl) ?_
  refine q_bipush hx hb dX5_init_45 rfl ?_
  refine q_newA (at0 := .int) (ft := .int) (t0 := 0) (N := 80) (cA0 := cI) (a0 := (80, .inl (ai (fun _ => 0)))) hx hb hts hK hw hA ac_int rfl rfl rfl (Nat.le_of_ble_eq_true rfl) (Nat.le_of_ble_eq_true rfl) ⟨by rw [hR]; exact Nat.le_of_ble_eq_true rfl, by rw [hR]; exact Nat.le_of_ble_eq_true rfl⟩ dX5_init_47 (fun q_6 H hw => ?_)
  replace hw : qw D A s.heap [(q0, .inr (5, [.ref q_1, .ref q_2, .ref q_3, .ref q_4, .ref q_5, .null, .null, .null, .null, .null, .null, .int (iI 0), .int (iI 0), .int (iI 0), .int (iI 0), .int (iI 0), .int (iI 0)])), (q_1, .inl (cI, 40, .inl (ai (fun _ => 0)))), (q_2, .inl (cI, 40, .inl (ai (fun _ => 0)))), (q_3, .inl (cI, 40, .inl (ai (fun _ => 0)))), (q_4, .inl (cI, 40, .inl (ai (fun _ => 0)))), (q_5, .inl (cI, 80, .inl (ai (fun _ => 0)))), (q_6, .inl (cI, 80, .inl (ai (fun _ => 0))))] H locs := hw
  refine q_putF hx hb hts hown hK hw ci_X5 0 rfl 5 (by decide) fl_X5_27 rfl hnm rfl rfl rfl (Nat.le_of_ble_eq_true rfl) dX5_init_49 (fun H locs hw => ?_)
  replace hw : qw D A s.heap [(q0, .inr (5, [.ref q_1, .ref q_2, .ref q_3, .ref q_4, .ref q_5, .ref q_6, .null, .null, .null, .null, .null, .int (iI 0), .int (iI 0), .int (iI 0), .int (iI 0), .int (iI 0), .int (iI 0)])), (q_1, .inl (cI, 40, .inl (ai (fun _ => 0)))), (q_2, .inl (cI, 40, .inl (ai (fun _ => 0)))), (q_3, .inl (cI, 40, .inl (ai (fun _ => 0)))), (q_4, .inl (cI, 40, .inl (ai (fun _ => 0)))), (q_5, .inl (cI, 80, .inl (ai (fun _ => 0)))), (q_6, .inl (cI, 80, .inl (ai (fun _ => 0))))] H locs := hw
  refine lv_aload_n hx hb dX5_init_52 rfl (lv_at hl 0 rfl) ?_
  refine q_bipush hx hb dX5_init_53 rfl ?_
  refine q_newA (at0 := .int) (ft := .int) (t0 := 0) (N := 80) (cA0 := cI) (a0 := (80, .inl (ai (fun _ => 0)))) hx hb hts hK hw hA ac_int rfl rfl rfl (Nat.le_of_ble_eq_true rfl) (Nat.le_of_ble_eq_true rfl) ⟨by rw [hR]; exact Nat.le_of_ble_eq_true rfl, by rw [hR]; exact Nat.le_of_ble_eq_true rfl⟩ dX5_init_55 (fun q_7 H hw => ?_)
  replace hw : qw D A s.heap [(q0, .inr (5, [.ref q_1, .ref q_2, .ref q_3, .ref q_4, .ref q_5, .ref q_6, .null, .null, .null, .null, .null, .int (iI 0), .int (iI 0), .int (iI 0), .int (iI 0), .int (iI 0), .int (iI 0)])), (q_1, .inl (cI, 40, .inl (ai (fun _ => 0)))), (q_2, .inl (cI, 40, .inl (ai (fun _ => 0)))), (q_3, .inl (cI, 40, .inl (ai (fun _ => 0)))), (q_4, .inl (cI, 40, .inl (ai (fun _ => 0)))), (q_5, .inl (cI, 80, .inl (ai (fun _ => 0)))), (q_6, .inl (cI, 80, .inl (ai (fun _ => 0)))), (q_7, .inl (cI, 80, .inl (ai (fun _ => 0))))] H locs := hw
  refine q_putF hx hb hts hown hK hw ci_X5 0 rfl 6 (by decide) fl_X5_30 rfl hnm rfl rfl rfl (Nat.le_of_ble_eq_true rfl) dX5_init_57 (fun H locs hw => ?_)
  replace hw : qw D A s.heap [(q0, .inr (5, [.ref q_1, .ref q_2, .ref q_3, .ref q_4, .ref q_5, .ref q_6, .ref q_7, .null, .null, .null, .null, .int (iI 0), .int (iI 0), .int (iI 0), .int (iI 0), .int (iI 0), .int (iI 0)])), (q_1, .inl (cI, 40, .inl (ai (fun _ => 0)))), (q_2, .inl (cI, 40, .inl (ai (fun _ => 0)))), (q_3, .inl (cI, 40, .inl (ai (fun _ => 0)))), (q_4, .inl (cI, 40, .inl (ai (fun _ => 0)))), (q_5, .inl (cI, 80, .inl (ai (fun _ => 0)))), (q_6, .inl (cI, 80, .inl (ai (fun _ => 0)))), (q_7, .inl (cI, 80, .inl (ai (fun _ => 0))))] H locs := hw
  refine lv_aload_n hx hb dX5_init_60 rfl (lv_at hl 0 rfl) ?_
  refine q_sipush hx hb dX5_init_61 rfl ?_
  refine q_newA (at0 := .int) (ft := .int) (t0 := 0) (N := 139) (cA0 := cI) (a0 := (139, .inl (ai (fun _ => 0)))) hx hb hts hK hw hA ac_int rfl rfl rfl (Nat.le_of_ble_eq_true rfl) (Nat.le_of_ble_eq_true rfl) ⟨by rw [hR]; exact Nat.le_of_ble_eq_true rfl, by rw [hR]; exact Nat.le_of_ble_eq_true rfl⟩ dX5_init_64 (fun q_8 H hw => ?_)
  replace hw : qw D A s.heap [(q0, .inr (5, [.ref q_1, .ref q_2, .ref q_3, .ref q_4, .ref q_5, .ref q_6, .ref q_7, .null, .null, .null, .null, .int (iI 0), .int (iI 0), .int (iI 0), .int (iI 0), .int (iI 0), .int (iI 0)])), (q_1, .inl (cI, 40, .inl (ai (fun _ => 0)))), (q_2, .inl (cI, 40, .inl (ai (fun _ => 0)))), (q_3, .inl (cI, 40, .inl (ai (fun _ => 0)))), (q_4, .inl (cI, 40, .inl (ai (fun _ => 0)))), (q_5, .inl (cI, 80, .inl (ai (fun _ => 0)))), (q_6, .inl (cI, 80, .inl (ai (fun _ => 0)))), (q_7, .inl (cI, 80, .inl (ai (fun _ => 0)))), (q_8, .inl (cI, 139, .inl (ai (fun _ => 0))))] H locs := hw
  refine q_putF hx hb hts hown hK hw ci_X5 0 rfl 7 (by decide) fl_X5_33 rfl hnm rfl rfl rfl (Nat.le_of_ble_eq_true rfl) dX5_init_66 (fun H locs hw => ?_)
  replace hw : qw D A s.heap [(q0, .inr (5, [.ref q_1, .ref q_2, .ref q_3, .ref q_4, .ref q_5, .ref q_6, .ref q_7, .ref q_8, .null, .null, .null, .int (iI 0), .int (iI 0), .int (iI 0), .int (iI 0), .int (iI 0), .int (iI 0)])), (q_1, .inl (cI, 40, .inl (ai (fun _ => 0)))), (q_2, .inl (cI, 40, .inl (ai (fun _ => 0)))), (q_3, .inl (cI, 40, .inl (ai (fun _ => 0)))), (q_4, .inl (cI, 40, .inl (ai (fun _ => 0)))), (q_5, .inl (cI, 80, .inl (ai (fun _ => 0)))), (q_6, .inl (cI, 80, .inl (ai (fun _ => 0)))), (q_7, .inl (cI, 80, .inl (ai (fun _ => 0)))), (q_8, .inl (cI, 139, .inl (ai (fun _ => 0))))] H locs := hw
  refine lv_aload_n hx hb dX5_init_69 rfl (lv_at hl 0 rfl) ?_
  refine q_iconst hx hb dX5_init_70 ?_
  refine q_newA (at0 := .int) (ft := .int) (t0 := 0) (N := 4) (cA0 := cI) (a0 := (4, .inl (ai (fun _ => 0)))) hx hb hts hK hw hA ac_int rfl rfl rfl (Nat.le_of_ble_eq_true rfl) (Nat.le_of_ble_eq_true rfl) ⟨by rw [hR]; exact Nat.le_of_ble_eq_true rfl, by rw [hR]; exact Nat.le_of_ble_eq_true rfl⟩ dX5_init_71 (fun q_9 H hw => ?_)
  replace hw : qw D A s.heap [(q0, .inr (5, [.ref q_1, .ref q_2, .ref q_3, .ref q_4, .ref q_5, .ref q_6, .ref q_7, .ref q_8, .null, .null, .null, .int (iI 0), .int (iI 0), .int (iI 0), .int (iI 0), .int (iI 0), .int (iI 0)])), (q_1, .inl (cI, 40, .inl (ai (fun _ => 0)))), (q_2, .inl (cI, 40, .inl (ai (fun _ => 0)))), (q_3, .inl (cI, 40, .inl (ai (fun _ => 0)))), (q_4, .inl (cI, 40, .inl (ai (fun _ => 0)))), (q_5, .inl (cI, 80, .inl (ai (fun _ => 0)))), (q_6, .inl (cI, 80, .inl (ai (fun _ => 0)))), (q_7, .inl (cI, 80, .inl (ai (fun _ => 0)))), (q_8, .inl (cI, 139, .inl (ai (fun _ => 0)))), (q_9, .inl (cI, 4, .inl (ai (fun _ => 0))))] H locs := hw
  refine q_putF hx hb hts hown hK hw ci_X5 0 rfl 8 (by decide) fl_X5_36 rfl hnm rfl rfl rfl (Nat.le_of_ble_eq_true rfl) dX5_init_73 (fun H locs hw => ?_)
  replace hw : qw D A s.heap [(q0, .inr (5, [.ref q_1, .ref q_2, .ref q_3, .ref q_4, .ref q_5, .ref q_6, .ref q_7, .ref q_8, .ref q_9, .null, .null, .int (iI 0), .int (iI 0), .int (iI 0), .int (iI 0), .int (iI 0), .int (iI 0)])), (q_1, .inl (cI, 40, .inl (ai (fun _ => 0)))), (q_2, .inl (cI, 40, .inl (ai (fun _ => 0)))), (q_3, .inl (cI, 40, .inl (ai (fun _ => 0)))), (q_4, .inl (cI, 40, .inl (ai (fun _ => 0)))), (q_5, .inl (cI, 80, .inl (ai (fun _ => 0)))), (q_6, .inl (cI, 80, .inl (ai (fun _ => 0)))), (q_7, .inl (cI, 80, .inl (ai (fun _ => 0)))), (q_8, .inl (cI, 139, .inl (ai (fun _ => 0)))), (q_9, .inl (cI, 4, .inl (ai (fun _ => 0))))] H locs := hw
  refine lv_aload_n hx hb dX5_init_76 rfl (lv_at hl 0 rfl) ?_
  refine q_bipush hx hb dX5_init_77 rfl ?_
  refine q_newA (at0 := .int) (ft := .int) (t0 := 0) (N := 9) (cA0 := cI) (a0 := (9, .inl (ai (fun _ => 0)))) hx hb hts hK hw hA ac_int rfl rfl rfl (Nat.le_of_ble_eq_true rfl) (Nat.le_of_ble_eq_true rfl) ⟨by rw [hR]; exact Nat.le_of_ble_eq_true rfl, by rw [hR]; exact Nat.le_of_ble_eq_true rfl⟩ dX5_init_79 (fun q_10 H hw => ?_)
  replace hw : qw D A s.heap [(q0, .inr (5, [.ref q_1, .ref q_2, .ref q_3, .ref q_4, .ref q_5, .ref q_6, .ref q_7, .ref q_8, .ref q_9, .null, .null, .int (iI 0), .int (iI 0), .int (iI 0), .int (iI 0), .int (iI 0), .int (iI 0)])), (q_1, .inl (cI, 40, .inl (ai (fun _ => 0)))), (q_2, .inl (cI, 40, .inl (ai (fun _ => 0)))), (q_3, .inl (cI, 40, .inl (ai (fun _ => 0)))), (q_4, .inl (cI, 40, .inl (ai (fun _ => 0)))), (q_5, .inl (cI, 80, .inl (ai (fun _ => 0)))), (q_6, .inl (cI, 80, .inl (ai (fun _ => 0)))), (q_7, .inl (cI, 80, .inl (ai (fun _ => 0)))), (q_8, .inl (cI, 139, .inl (ai (fun _ => 0)))), (q_9, .inl (cI, 4, .inl (ai (fun _ => 0)))), (q_10, .inl (cI, 9, .inl (ai (fun _ => 0))))] H locs := hw
  refine q_putF hx hb hts hown hK hw ci_X5 0 rfl 9 (by decide) fl_X5_39 rfl hnm rfl rfl rfl (Nat.le_of_ble_eq_true rfl) dX5_init_81 (fun H locs hw => ?_)
  replace hw : qw D A s.heap [(q0, .inr (5, [.ref q_1, .ref q_2, .ref q_3, .ref q_4, .ref q_5, .ref q_6, .ref q_7, .ref q_8, .ref q_9, .ref q_10, .null, .int (iI 0), .int (iI 0), .int (iI 0), .int (iI 0), .int (iI 0), .int (iI 0)])), (q_1, .inl (cI, 40, .inl (ai (fun _ => 0)))), (q_2, .inl (cI, 40, .inl (ai (fun _ => 0)))), (q_3, .inl (cI, 40, .inl (ai (fun _ => 0)))), (q_4, .inl (cI, 40, .inl (ai (fun _ => 0)))), (q_5, .inl (cI, 80, .inl (ai (fun _ => 0)))), (q_6, .inl (cI, 80, .inl (ai (fun _ => 0)))), (q_7, .inl (cI, 80, .inl (ai (fun _ => 0)))), (q_8, .inl (cI, 139, .inl (ai (fun _ => 0)))), (q_9, .inl (cI, 4, .inl (ai (fun _ => 0)))), (q_10, .inl (cI, 9, .inl (ai (fun _ => 0))))] H locs := hw
  refine lv_aload_n hx hb dX5_init_84 rfl (lv_at hl 0 rfl) ?_
  refine q_newO (fs := [.null, .int (iI 0)]) hx hb hts hown hK hw hA ci_X1 cl_X5_42 ins_X1 ini_X1 (fun j hj => by rcases (show j = 0 ∨ j = 1 by omega) with rfl | rfl <;> rfl) ⟨by rw [hR]; exact Nat.le_of_ble_eq_true rfl, by rw [hR]; exact Nat.le_of_ble_eq_true rfl⟩ dX5_init_85 (fun q_11 H hw => ?_)
  replace hw : qw D A s.heap [(q0, .inr (5, [.ref q_1, .ref q_2, .ref q_3, .ref q_4, .ref q_5, .ref q_6, .ref q_7, .ref q_8, .ref q_9, .ref q_10, .null, .int (iI 0), .int (iI 0), .int (iI 0), .int (iI 0), .int (iI 0), .int (iI 0)])), (q_1, .inl (cI, 40, .inl (ai (fun _ => 0)))), (q_2, .inl (cI, 40, .inl (ai (fun _ => 0)))), (q_3, .inl (cI, 40, .inl (ai (fun _ => 0)))), (q_4, .inl (cI, 40, .inl (ai (fun _ => 0)))), (q_5, .inl (cI, 80, .inl (ai (fun _ => 0)))), (q_6, .inl (cI, 80, .inl (ai (fun _ => 0)))), (q_7, .inl (cI, 80, .inl (ai (fun _ => 0)))), (q_8, .inl (cI, 139, .inl (ai (fun _ => 0)))), (q_9, .inl (cI, 4, .inl (ai (fun _ => 0)))), (q_10, .inl (cI, 9, .inl (ai (fun _ => 0)))), (q_11, .inr (1, [.null, .int (iI 0)]))] H locs := hw
  refine lv_dup hx hb dX5_init_88 rfl ?_
  replace hw : qw D A s.heap ([(q0, .inr (5, [.ref q_1, .ref q_2, .ref q_3, .ref q_4, .ref q_5, .ref q_6, .ref q_7, .ref q_8, .ref q_9, .ref q_10, .null, .int (iI 0), .int (iI 0), .int (iI 0), .int (iI 0), .int (iI 0), .int (iI 0)])), (q_1, .inl (cI, 40, .inl (ai (fun _ => 0)))), (q_2, .inl (cI, 40, .inl (ai (fun _ => 0)))), (q_3, .inl (cI, 40, .inl (ai (fun _ => 0)))), (q_4, .inl (cI, 40, .inl (ai (fun _ => 0)))), (q_5, .inl (cI, 80, .inl (ai (fun _ => 0)))), (q_6, .inl (cI, 80, .inl (ai (fun _ => 0)))), (q_7, .inl (cI, 80, .inl (ai (fun _ => 0)))), (q_8, .inl (cI, 139, .inl (ai (fun _ => 0)))), (q_9, .inl (cI, 4, .inl (ai (fun _ => 0)))), (q_10, .inl (cI, 9, .inl (ai (fun _ => 0))))] ++ [(q_11, .inr (1, [.null, .int (iI 0)]))]) H locs := hw
  replace hw := hw.comm
  refine q_callN (rest := [.ref q_11, .ref q0]) (zw_ok z) hx hb hml hown hts hK (c_X1_init (q0 := q_11)) yn_X1_init (hZ.1.1.2.2.2.2.1 _ mn_X5_44) (by rw [hR]; exact ⟨Nat.le_of_ble_eq_true rfl, Nat.le_of_ble_eq_true rfl⟩) hw hA hZ rfl hl.1 (lv_room (Nat.le_of_ble_eq_true rfl)) dX5_init_89 ⟨by rw [hR]; exact Nat.le_of_ble_eq_true rfl, by rw [hR]; exact Nat.le_of_ble_eq_true rfl⟩ (fun u H locs hu hw1 => ?_)
  clear hw
  obtain ⟨u12_0, rfl⟩ : ∃ q, q = u := ⟨_, rfl⟩
  have e_12 : u12_0 0 = q_11 := hu
  subst e_12
  have hw : qw D A s.heap [(q0, .inr (5, [.ref q_1, .ref q_2, .ref q_3, .ref q_4, .ref q_5, .ref q_6, .ref q_7, .ref q_8, .ref q_9, .ref q_10, .null, .int (iI 0), .int (iI 0), .int (iI 0), .int (iI 0), .int (iI 0), .int (iI 0)])), (q_1, .inl (cI, 40, .inl (ai (fun _ => 0)))), (q_2, .inl (cI, 40, .inl (ai (fun _ => 0)))), (q_3, .inl (cI, 40, .inl (ai (fun _ => 0)))), (q_4, .inl (cI, 40, .inl (ai (fun _ => 0)))), (q_5, .inl (cI, 80, .inl (ai (fun _ => 0)))), (q_6, .inl (cI, 80, .inl (ai (fun _ => 0)))), (q_7, .inl (cI, 80, .inl (ai (fun _ => 0)))), (q_8, .inl (cI, 139, .inl (ai (fun _ => 0)))), (q_9, .inl (cI, 4, .inl (ai (fun _ => 0)))), (q_10, .inl (cI, 9, .inl (ai (fun _ => 0)))), ((u12_0 0), .inr (1, [.ref (u12_0 1), .int (iI 0)])), ((u12_0 1), .inl (cI, 6, .inl (ai (fun _ => 0))))] H locs := hw1.comm
  clear hw1
  refine q_putF hx hb hts hown hK hw ci_X5 0 rfl 10 (by decide) fl_X5_45 rfl hnm rfl rfl rfl (Nat.le_of_ble_eq_true rfl) dX5_init_92 (fun H locs hw => ?_)
  replace hw : qw D A s.heap [(q0, .inr (5, [.ref q_1, .ref q_2, .ref q_3, .ref q_4, .ref q_5, .ref q_6, .ref q_7, .ref q_8, .ref q_9, .ref q_10, .ref (u12_0 0), .int (iI 0), .int (iI 0), .int (iI 0), .int (iI 0), .int (iI 0), .int (iI 0)])), (q_1, .inl (cI, 40, .inl (ai (fun _ => 0)))), (q_2, .inl (cI, 40, .inl (ai (fun _ => 0)))), (q_3, .inl (cI, 40, .inl (ai (fun _ => 0)))), (q_4, .inl (cI, 40, .inl (ai (fun _ => 0)))), (q_5, .inl (cI, 80, .inl (ai (fun _ => 0)))), (q_6, .inl (cI, 80, .inl (ai (fun _ => 0)))), (q_7, .inl (cI, 80, .inl (ai (fun _ => 0)))), (q_8, .inl (cI, 139, .inl (ai (fun _ => 0)))), (q_9, .inl (cI, 4, .inl (ai (fun _ => 0)))), (q_10, .inl (cI, 9, .inl (ai (fun _ => 0)))), ((u12_0 0), .inr (1, [.ref (u12_0 1), .int (iI 0)])), ((u12_0 1), .inl (cI, 6, .inl (ai (fun _ => 0))))] H locs := hw
  exact hret (fun i => ([q0, q_1, q_2, q_3, q_4, q_5, q_6, q_7, q_8, q_9, q_10, (u12_0 0), (u12_0 1)] : List Nat).getD i 0) H locs 95 ls rfl hw dX5_init_95

set_option maxHeartbeats 4000000 in
set_option maxRecDepth 100000 in
theorem c_X0_init {q0 : Nat} : qH l (ZW z) D (tyG cI cB cZ cS cJ) yX0_init (.code yX0_init cX0_init 1 none :: gW) 2 60 2 8 [.ref q0] [(q0, .inr (0, [.null, .int (iI 0), .int (iI 0), .int (iI 0), .int (iI 0), .int (iI 0), .int (iI 0)]))] (fun u : (Nat → Nat) => u 0 = q0) (fun _ => none) (fun u => [((u 0), .inr (0, [.ref (u 1), .int (iI 0), .int (iI 0), .int (iI 0), .int (iI 0), .int (iI 0), .int (iI 0)])), ((u 1), .inr (1, [.ref (u 2), .int (iI 0)])), ((u 2), .inl (cI, 6, .inl (ai (fun _ => 0))))]) := by
  refine qH_enterC (by decide) (Nat.le_of_ble_eq_true rfl) (fun p e R s m args below meth c Q ls A X hR hA hw hZ hl hnm hret => ?_)
  obtain ⟨hx, hb, hml, hown, hts, hK⟩ := X
  have hl : lv_has ls 1 [(0, .ref q0)] := hl
  suffices K : ∀ (H : Heap) (locs : List Loc), qw D A s.heap [(q0, .inr (0, [.null, .int (iI 0), .int (iI 0), .int (iI 0), .int (iI 0), .int (iI 0), .int (iI 0)]))] H locs → W p l e R s m args below meth c H locs 0 0 Q (F0 m 0 ls []) from K s.heap [] hw
  clear hw
  intro H locs hw
  refine lv_aload_n hx hb dX0_init_0 rfl (lv_at hl 0 rfl) ?_
  refine q_objI hx hb hml hown hts ml_X0_3 hl.1 (lv_room (Nat.le_of_ble_eq_true rfl)) dX0_init_1 (by rw [hR]; exact ⟨Nat.le_of_ble_eq_true rfl, Nat.le_of_ble_eq_true rfl⟩) ?_
  refine lv_aload_n hx hb dX0_init_4 rfl (lv_at hl 0 rfl) ?_
  refine q_newO (fs := [.null, .int (iI 0)]) hx hb hts hown hK hw hA ci_X1 cl_X0_9 ins_X1 ini_X1 (fun j hj => by rcases (show j = 0 ∨ j = 1 by omega) with rfl | rfl <;> rfl) ⟨by rw [hR]; exact Nat.le_of_ble_eq_true rfl, by rw [hR]; exact Nat.le_of_ble_eq_true rfl⟩ dX0_init_5 (fun q_1 H hw => ?_)
  replace hw : qw D A s.heap [(q0, .inr (0, [.null, .int (iI 0), .int (iI 0), .int (iI 0), .int (iI 0), .int (iI 0), .int (iI 0)])), (q_1, .inr (1, [.null, .int (iI 0)]))] H locs := hw
  refine lv_dup hx hb dX0_init_8 rfl ?_
  replace hw : qw D A s.heap ([(q0, .inr (0, [.null, .int (iI 0), .int (iI 0), .int (iI 0), .int (iI 0), .int (iI 0), .int (iI 0)]))] ++ [(q_1, .inr (1, [.null, .int (iI 0)]))]) H locs := hw
  replace hw := hw.comm
  refine q_callN (rest := [.ref q_1, .ref q0]) (zw_ok z) hx hb hml hown hts hK (c_X1_init (q0 := q_1)) yn_X1_init (hZ.1.1.2.2.2.2.1 _ mn_X0_11) (by rw [hR]; exact ⟨Nat.le_of_ble_eq_true rfl, Nat.le_of_ble_eq_true rfl⟩) hw hA hZ rfl hl.1 (lv_room (Nat.le_of_ble_eq_true rfl)) dX0_init_9 ⟨by rw [hR]; exact Nat.le_of_ble_eq_true rfl, by rw [hR]; exact Nat.le_of_ble_eq_true rfl⟩ (fun u H locs hu hw1 => ?_)
  clear hw
  obtain ⟨u2_0, rfl⟩ : ∃ q, q = u := ⟨_, rfl⟩
  have e_2 : u2_0 0 = q_1 := hu
  subst e_2
  have hw : qw D A s.heap [(q0, .inr (0, [.null, .int (iI 0), .int (iI 0), .int (iI 0), .int (iI 0), .int (iI 0), .int (iI 0)])), ((u2_0 0), .inr (1, [.ref (u2_0 1), .int (iI 0)])), ((u2_0 1), .inl (cI, 6, .inl (ai (fun _ => 0))))] H locs := hw1.comm
  clear hw1
  refine q_putF hx hb hts hown hK hw ci_X0 0 rfl 0 (by decide) fl_X0_12 rfl hnm rfl rfl rfl (Nat.le_of_ble_eq_true rfl) dX0_init_12 (fun H locs hw => ?_)
  replace hw : qw D A s.heap [(q0, .inr (0, [.ref (u2_0 0), .int (iI 0), .int (iI 0), .int (iI 0), .int (iI 0), .int (iI 0), .int (iI 0)])), ((u2_0 0), .inr (1, [.ref (u2_0 1), .int (iI 0)])), ((u2_0 1), .inl (cI, 6, .inl (ai (fun _ => 0))))] H locs := hw
  exact hret (fun i => ([q0, (u2_0 0), (u2_0 1)] : List Nat).getD i 0) H locs 15 ls rfl hw dX0_init_15

set_option maxHeartbeats 4000000 in
set_option maxRecDepth 100000 in
theorem c_X2_init {q0 : Nat} : qH l (ZW z) D (tyG cI cB cZ cS cJ) yX2_init (.code yX2_init cX2_init 1 none :: gW) 2 60 10 996 [.ref q0] [(q0, .inr (2, [.null, .int (iI 0), .null, .int (iI 0), .int (iI 0), .int (iI 0), .int (iI 0), .int (iI 0), .int (iI 0), .int (iI 0)]))] (fun u : (Nat → Nat) × (Nat → Nat) => u.1 0 = q0) (fun _ => none) (fun u => [((u.1 0), .inr (2, [.ref (u.1 1), .int (iI 0), .ref (u.2 0), .int (iI 0), .int (iI 0), .int (iI 0), .int (iI 0), .int (iI 0), .int (iI 0), .int (iI 0)])), ((u.1 1), .inl (cB, 700, .inl (ai (fun _ => 0)))), ((u.2 0), .inr (4, [.ref (u.2 1), .ref (u.2 2), .ref (u.2 3), .ref (u.2 4), .ref (u.2 5), .ref (u.2 6), .ref (u.2 7), .ref (u.2 8), .int (iI 0), .int (iI 0), .int (iI 0), .int (iI 0)])), ((u.2 1), .inl (cI, 40, .inl (ai (fun _ => 0)))), ((u.2 2), .inl (cI, 40, .inl (ai (fun _ => 0)))), ((u.2 3), .inl (cI, 40, .inl (ai (fun _ => 0)))), ((u.2 4), .inl (cI, 40, .inl (ai (fun _ => 0)))), ((u.2 5), .inl (cI, 40, .inl (ai (fun _ => 0)))), ((u.2 6), .inl (cI, 40, .inl (ai (fun _ => 0)))), ((u.2 7), .inl (cI, 40, .inl (ai (fun _ => 0)))), ((u.2 8), .inl (cI, 4, .inl (ai (fun _ => 0))))]) := by
  refine qH_enterC (by decide) (Nat.le_of_ble_eq_true rfl) (fun p e R s m args below meth c Q ls A X hR hA hw hZ hl hnm hret => ?_)
  obtain ⟨hx, hb, hml, hown, hts, hK⟩ := X
  have hl : lv_has ls 1 [(0, .ref q0)] := hl
  suffices K : ∀ (H : Heap) (locs : List Loc), qw D A s.heap [(q0, .inr (2, [.null, .int (iI 0), .null, .int (iI 0), .int (iI 0), .int (iI 0), .int (iI 0), .int (iI 0), .int (iI 0), .int (iI 0)]))] H locs → W p l e R s m args below meth c H locs 0 0 Q (F0 m 0 ls []) from K s.heap [] hw
  clear hw
  intro H locs hw
  refine lv_aload_n hx hb dX2_init_0 rfl (lv_at hl 0 rfl) ?_
  refine q_objI hx hb hml hown hts ml_X2_3 hl.1 (lv_room (Nat.le_of_ble_eq_true rfl)) dX2_init_1 (by rw [hR]; exact ⟨Nat.le_of_ble_eq_true rfl, Nat.le_of_ble_eq_true rfl⟩) ?_
  refine lv_aload_n hx hb dX2_init_4 rfl (lv_at hl 0 rfl) ?_
  refine q_sipush hx hb dX2_init_5 rfl ?_
  refine q_newA (at0 := .byte) (ft := .byte) (t0 := 1) (N := 700) (cA0 := cB) (a0 := (700, .inl (ai (fun _ => 0)))) hx hb hts hK hw hA ac_byte rfl rfl rfl (Nat.le_of_ble_eq_true rfl) (Nat.le_of_ble_eq_true rfl) ⟨by rw [hR]; exact Nat.le_of_ble_eq_true rfl, by rw [hR]; exact Nat.le_of_ble_eq_true rfl⟩ dX2_init_8 (fun q_1 H hw => ?_)
  replace hw : qw D A s.heap [(q0, .inr (2, [.null, .int (iI 0), .null, .int (iI 0), .int (iI 0), .int (iI 0), .int (iI 0), .int (iI 0), .int (iI 0), .int (iI 0)])), (q_1, .inl (cB, 700, .inl (ai (fun _ => 0))))] H locs := hw
  refine q_putF hx hb hts hown hK hw ci_X2 0 rfl 0 (by decide) fl_X2_9 rfl hnm rfl rfl rfl (Nat.le_of_ble_eq_true rfl) dX2_init_10 (fun H locs hw => ?_)
  replace hw : qw D A s.heap [(q0, .inr (2, [.ref q_1, .int (iI 0), .null, .int (iI 0), .int (iI 0), .int (iI 0), .int (iI 0), .int (iI 0), .int (iI 0), .int (iI 0)])), (q_1, .inl (cB, 700, .inl (ai (fun _ => 0))))] H locs := hw
  refine lv_aload_n hx hb dX2_init_13 rfl (lv_at hl 0 rfl) ?_
  refine q_newO (fs := [.null, .null, .null, .null, .null, .null, .null, .null, .int (iI 0), .int (iI 0), .int (iI 0), .int (iI 0)]) hx hb hts hown hK hw hA ci_X4 cl_X2_15 ins_X4 ini_X4 (fun j hj => by rcases (show j = 0 ∨ j = 1 ∨ j = 2 ∨ j = 3 ∨ j = 4 ∨ j = 5 ∨ j = 6 ∨ j = 7 ∨ j = 8 ∨ j = 9 ∨ j = 10 ∨ j = 11 by omega) with rfl | rfl | rfl | rfl | rfl | rfl | rfl | rfl | rfl | rfl | rfl | rfl <;> rfl) ⟨by rw [hR]; exact Nat.le_of_ble_eq_true rfl, by rw [hR]; exact Nat.le_of_ble_eq_true rfl⟩ dX2_init_14 (fun q_2 H hw => ?_)
  replace hw : qw D A s.heap [(q0, .inr (2, [.ref q_1, .int (iI 0), .null, .int (iI 0), .int (iI 0), .int (iI 0), .int (iI 0), .int (iI 0), .int (iI 0), .int (iI 0)])), (q_1, .inl (cB, 700, .inl (ai (fun _ => 0)))), (q_2, .inr (4, [.null, .null, .null, .null, .null, .null, .null, .null, .int (iI 0), .int (iI 0), .int (iI 0), .int (iI 0)]))] H locs := hw
  refine lv_dup hx hb dX2_init_17 rfl ?_
  replace hw : qw D A s.heap ([(q0, .inr (2, [.ref q_1, .int (iI 0), .null, .int (iI 0), .int (iI 0), .int (iI 0), .int (iI 0), .int (iI 0), .int (iI 0), .int (iI 0)])), (q_1, .inl (cB, 700, .inl (ai (fun _ => 0))))] ++ [(q_2, .inr (4, [.null, .null, .null, .null, .null, .null, .null, .null, .int (iI 0), .int (iI 0), .int (iI 0), .int (iI 0)]))]) H locs := hw
  replace hw := hw.comm
  refine q_callN (rest := [.ref q_2, .ref q0]) (zw_ok z) hx hb hml hown hts hK (c_X4_init (q0 := q_2)) yn_X4_init (hZ.1.1.2.2.2.2.1 _ mn_X2_17) (by rw [hR]; exact ⟨Nat.le_of_ble_eq_true rfl, Nat.le_of_ble_eq_true rfl⟩) hw hA hZ rfl hl.1 (lv_room (Nat.le_of_ble_eq_true rfl)) dX2_init_18 ⟨by rw [hR]; exact Nat.le_of_ble_eq_true rfl, by rw [hR]; exact Nat.le_of_ble_eq_true rfl⟩ (fun u H locs hu hw1 => ?_)
  clear hw
  obtain ⟨u3_0, rfl⟩ : ∃ q, q = u := ⟨_, rfl⟩
  have e_3 : u3_0 0 = q_2 := hu
  subst e_3
  have hw : qw D A s.heap [(q0, .inr (2, [.ref q_1, .int (iI 0), .null, .int (iI 0), .int (iI 0), .int (iI 0), .int (iI 0), .int (iI 0), .int (iI 0), .int (iI 0)])), (q_1, .inl (cB, 700, .inl (ai (fun _ => 0)))), ((u3_0 0), .inr (4, [.ref (u3_0 1), .ref (u3_0 2), .ref (u3_0 3), .ref (u3_0 4), .ref (u3_0 5), .ref (u3_0 6), .ref (u3_0 7), .ref (u3_0 8), .int (iI 0), .int (iI 0), .int (iI 0), .int (iI 0)])), ((u3_0 1), .inl (cI, 40, .inl (ai (fun _ => 0)))), ((u3_0 2), .inl (cI, 40, .inl (ai (fun _ => 0)))), ((u3_0 3), .inl (cI, 40, .inl (ai (fun _ => 0)))), ((u3_0 4), .inl (cI, 40, .inl (ai (fun _ => 0)))), ((u3_0 5), .inl (cI, 40, .inl (ai (fun _ => 0)))), ((u3_0 6), .inl (cI, 40, .inl (ai (fun _ => 0)))), ((u3_0 7), .inl (cI, 40, .inl (ai (fun _ => 0)))), ((u3_0 8), .inl (cI, 4, .inl (ai (fun _ => 0))))] H locs := hw1.comm
  clear hw1
  refine q_put hx hb hts hown hK hw ci_X2 0 rfl 2 (by decide) fl_X2_18 rfl rfl rfl (Nat.le_of_ble_eq_true rfl) dX2_init_21 (fun H locs hw => ?_)
  replace hw : qw D A s.heap [(q0, .inr (2, [.ref q_1, .int (iI 0), .ref (u3_0 0), .int (iI 0), .int (iI 0), .int (iI 0), .int (iI 0), .int (iI 0), .int (iI 0), .int (iI 0)])), (q_1, .inl (cB, 700, .inl (ai (fun _ => 0)))), ((u3_0 0), .inr (4, [.ref (u3_0 1), .ref (u3_0 2), .ref (u3_0 3), .ref (u3_0 4), .ref (u3_0 5), .ref (u3_0 6), .ref (u3_0 7), .ref (u3_0 8), .int (iI 0), .int (iI 0), .int (iI 0), .int (iI 0)])), ((u3_0 1), .inl (cI, 40, .inl (ai (fun _ => 0)))), ((u3_0 2), .inl (cI, 40, .inl (ai (fun _ => 0)))), ((u3_0 3), .inl (cI, 40, .inl (ai (fun _ => 0)))), ((u3_0 4), .inl (cI, 40, .inl (ai (fun _ => 0)))), ((u3_0 5), .inl (cI, 40, .inl (ai (fun _ => 0)))), ((u3_0 6), .inl (cI, 40, .inl (ai (fun _ => 0)))), ((u3_0 7), .inl (cI, 40, .inl (ai (fun _ => 0)))), ((u3_0 8), .inl (cI, 4, .inl (ai (fun _ => 0))))] H locs := hw
  exact hret ((fun i => ([q0, q_1] : List Nat).getD i 0), u3_0) H locs 24 ls rfl hw dX2_init_24
