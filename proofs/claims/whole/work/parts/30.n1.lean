variable {l : Launch} {z : Nat → Nat} {D : va_G} {cI cB cZ cS cJ : ClassId} {T C E : Nat → Int → Int} {q0 q1 r0 r1 : Nat} {gn gq hn hq : Int} {gt ht : Int → Int} {a b a2 : Nat → Nat} {pf pm pt pl pw stop sinp srea spag sjob sdup : Int}
set_option maxHeartbeats 4000000 in
set_option maxRecDepth 100000 in
theorem c_X1_usual (wo : Int) (hg : 0 ≤ gn ∧ gn ≤ 6 ∧ 0 ≤ gq ∧ gq ≤ 5) (hw : rg wo) (hgt : ∀ i : Int, 0 ≤ i → i < gn → 30 ≤ gt i ∧ gt i ≤ 500) : qP l D (tyG cI cB cZ cS cJ) yX1_usual cX1_usual 4 (Option.some FieldType.int) 0 0 [.ref q0, .int (iI wo)] [(q0, .inr (1, [.ref q1, .int (iI gn), .int (iI gq)])), (q1, .inl (cI, 6, .inl (ai gt)))] (some (.int (iI (usG gt gn wo)))) := by
  refine qP_enter (by decide) (Nat.le_of_ble_eq_true rfl) (nar_i _) (fun p e R s m args below meth c Q ls X hR hP hl hret => ?_)
  obtain ⟨hx, hb, hml, hown, hts, hK⟩ := X
  have hl : lv_has ls 4 [(0, .ref q0), (1, .int (iI wo))] := hl
  refine lv_aload_n hx hb dX1_usual_0 rfl (lv_at hl 0 rfl) ?_
  refine q_get hx hb hts hown hK hP ci_X1 0 rfl 1 (by decide) fl_X1_15 rfl dX1_usual_1 ?_
  refine q_if_gt (tgt := 9) hx hb dX1_usual_4 (by decide) (by omega) (fun c_4 => ?_) (fun c_4 => ?_)
  · refine q_iconst hx hb dX1_usual_9 ?_
    refine lv_istore_n (lv' := [(2, .int (iI 0)), (0, .ref q0), (1, .int (iI wo))]) hx hb dX1_usual_10 rfl hl (by decide) rfl (fun ls hl => ?_)
    refine q_iconst hx hb dX1_usual_11 ?_
    refine lv_istore_n (lv' := [(3, .int (iI 0)), (2, .int (iI 0)), (0, .ref q0), (1, .int (iI wo))]) hx hb dX1_usual_12 rfl hl (by decide) rfl (fun ls hl => ?_)
    have loop_13 : ∀ (fu : Nat) (s2 : Int) (k : Int) (ls : Array Slot), (gn - k).toNat = fu → (s2 = sI gt k) → (0 ≤ k ∧ k ≤ gn) → lv_has ls 4 [(0, .ref q0), (1, .int (iI wo)), (2, .int (iI s2)), (3, .int (iI k))] → W p l e R s m args below meth c s.heap [] 0 0 Q (F0 m 13 ls []) := by
      intro fu
      induction fu using Nat.strongRecOn with
      | ind fu ih =>
      intro s2 k ls hn_13 h_s h_k hl
      refine lv_iload_n hx hb dX1_usual_13 rfl (lv_at hl 3 rfl) ?_
      refine lv_aload_n hx hb dX1_usual_14 rfl (lv_at hl 0 rfl) ?_
      refine q_get hx hb hts hown hK hP ci_X1 0 rfl 1 (by decide) fl_X1_15 rfl dX1_usual_15 ?_
      refine q_icmp_ge (tgt := 36) hx hb dX1_usual_18 (by decide) (by omega) (fun c_18 => ?_) (fun c_18 => ?_)
      · refine lv_iload_n hx hb dX1_usual_36 rfl (lv_at hl 2 rfl) ?_
        refine lv_aload_n hx hb dX1_usual_37 rfl (lv_at hl 0 rfl) ?_
        refine q_get hx hb hts hown hK hP ci_X1 0 rfl 1 (by decide) fl_X1_15 rfl dX1_usual_38 ?_
        refine q_idiv hx hb dX1_usual_41 (by first | omega | (have w := us_bd (gt := gt) (gc := k) (by omega) (fun i a b => hgt i a (by omega)); omega)) (by first | omega | (have w := us_bd (gt := gt) (gc := k) (by omega) (fun i a b => hgt i a (by omega)); omega)) (by first | omega | (have w := us_bd (gt := gt) (gc := k) (by omega) (fun i a b => hgt i a (by omega)); omega)) ?_
        exact q_ret (hret 42 ls dX1_usual_42) (by unfold usG; rw [if_neg (by omega), h_s, show k = gn by omega])
      · refine lv_iload_n hx hb dX1_usual_21 rfl (lv_at hl 2 rfl) ?_
        refine lv_aload_n hx hb dX1_usual_22 rfl (lv_at hl 0 rfl) ?_
        refine q_get hx hb hts hown hK hP ci_X1 0 rfl 0 (by decide) fl_X1_9 rfl dX1_usual_23 ?_
        refine lv_iload_n hx hb dX1_usual_26 rfl (lv_at hl 3 rfl) ?_
        refine q_iald hx hb hK hP 1 0 rfl rfl (z := k) (v := (gt k)) (by omega) rfl dX1_usual_27 ?_
        refine q_iadd hx hb dX1_usual_28 ?_
        refine lv_istore_n (lv' := [(2, .int (iI (s2 + gt k))), (0, .ref q0), (1, .int (iI wo)), (3, .int (iI k))]) hx hb dX1_usual_29 rfl hl (by decide) rfl (fun ls hl => ?_)
        refine lv_iinc (v := iI (k + 1)) (lv' := [(3, .int (iI (k + 1))), (2, .int (iI (s2 + gt k))), (0, .ref q0), (1, .int (iI wo))]) hx hb dX1_usual_30 hl (k := 3) rfl (iI_add _ _) (by decide) rfl (fun ls hl => ?_)
        refine lv_goto (tgt := 13) hx hb dX1_usual_33 (by decide) ?_
        exact ih _ (by omega) (s2 + gt k) (k + 1) ls rfl (by rw [h_s]; exact (sI_s _ (by omega)).symm) (by first | omega | assumption | rfl) (lv_sub hl [2, 3, 1, 0] rfl)
    exact loop_13 _ (0) (0) ls rfl (by rfl) (by first | omega | assumption | rfl) (lv_sub hl [2, 3, 1, 0] rfl)
  · refine lv_iload_n hx hb dX1_usual_7 rfl (lv_at hl 1 rfl) ?_
    exact q_ret (hret 8 ls dX1_usual_8) (by unfold usG; rw [if_pos (by omega)])

set_option maxHeartbeats 4000000 in
set_option maxRecDepth 100000 in
theorem c_X1_clear : qM l D (tyG cI cB cZ cS cJ) yX1_clear cX1_clear 1 (Option.none) 0 0 [.ref q0] [(q0, .inr (1, [.ref q1, .int (iI gn), .int (iI gq)])), (q1, .inl (cI, 6, .inl (ai gt)))] (fun u : Unit => True) (fun _ => none) (fun u => [(q0, .inr (1, [.ref q1, .int (iI 0), .int (iI 0)])), (q1, .inl (cI, 6, .inl (ai gt)))]) := by
  refine qM_enterV (by decide) (Nat.le_of_ble_eq_true rfl) (fun p e R s m args below meth c Q ls A X hR hA hw hl hret => ?_)
  obtain ⟨hx, hb, hml, hown, hts, hK⟩ := X
  have hl : lv_has ls 1 [(0, .ref q0)] := hl
  suffices K : ∀ (H : Heap) (locs : List Loc), qw D A s.heap [(q0, .inr (1, [.ref q1, .int (iI gn), .int (iI gq)])), (q1, .inl (cI, 6, .inl (ai gt)))] H locs → W p l e R s m args below meth c H locs 0 0 Q (F0 m 0 ls []) from K s.heap [] hw
  clear hw
  intro H locs hw
  refine lv_aload_n hx hb dX1_clear_0 rfl (lv_at hl 0 rfl) ?_
  refine q_iconst hx hb dX1_clear_1 ?_
  refine q_put hx hb hts hown hK hw ci_X1 0 rfl 1 (by decide) fl_X1_15 rfl rfl rfl (Nat.le_of_ble_eq_true rfl) dX1_clear_2 (fun H locs hw => ?_)
  have hw : qw D A s.heap [(q0, .inr (1, [.ref q1, .int (iI 0), .int (iI gq)])), (q1, .inl (cI, 6, .inl (ai gt)))] H locs := hw
  refine lv_aload_n hx hb dX1_clear_5 rfl (lv_at hl 0 rfl) ?_
  refine q_iconst hx hb dX1_clear_6 ?_
  refine q_put hx hb hts hown hK hw ci_X1 0 rfl 2 (by decide) fl_X1_19 rfl rfl rfl (Nat.le_of_ble_eq_true rfl) dX1_clear_7 (fun H locs hw => ?_)
  have hw : qw D A s.heap [(q0, .inr (1, [.ref q1, .int (iI 0), .int (iI 0)])), (q1, .inl (cI, 6, .inl (ai gt)))] H locs := hw
  exact hret () H locs 10 ls trivial hw dX1_clear_10

set_option maxHeartbeats 4000000 in
set_option maxRecDepth 100000 in
theorem c_X1_add (vv : Int) (hg : 0 ≤ gn ∧ gn ≤ 6 ∧ 0 ≤ gq ∧ gq ≤ 5) : qM l D (tyG cI cB cZ cS cJ) yX1_add cX1_add 2 (Option.none) 0 0 [.ref q0, .int (iI vv)] [(q0, .inr (1, [.ref q1, .int (iI gn), .int (iI gq)])), (q1, .inl (cI, 6, .inl (ai gt)))] (fun u : (Int) × (Int) × (Int → Int) => (((u.1)) = if gn < 6 then gn + 1 else gn) ∧ (((u.2.1)) = if gn < 6 then gq else if gq < 5 then gq + 1 else 0) ∧ (((u.2.2)) = if gn < 6 then uI gt gn vv else uI gt gq vv)) (fun _ => none) (fun u => [(q0, .inr (1, [.ref q1, .int (iI (u.1)), .int (iI (u.2.1))])), (q1, .inl (cI, 6, .inl (ai (u.2.2))))]) := by
  refine qM_enterV (by decide) (Nat.le_of_ble_eq_true rfl) (fun p e R s m args below meth c Q ls A X hR hA hw hl hret => ?_)
  obtain ⟨hx, hb, hml, hown, hts, hK⟩ := X
  have hl : lv_has ls 2 [(0, .ref q0), (1, .int (iI vv))] := hl
  suffices K : ∀ (H : Heap) (locs : List Loc), qw D A s.heap [(q0, .inr (1, [.ref q1, .int (iI gn), .int (iI gq)])), (q1, .inl (cI, 6, .inl (ai gt)))] H locs → W p l e R s m args below meth c H locs 0 0 Q (F0 m 0 ls []) from K s.heap [] hw
  clear hw
  intro H locs hw
  refine lv_aload_n hx hb dX1_add_0 rfl (lv_at hl 0 rfl) ?_
  refine q_get hx hb hts hown hK hw.1 ci_X1 0 rfl 1 (by decide) fl_X1_15 rfl dX1_add_1 ?_
  refine q_bipush hx hb dX1_add_4 rfl ?_
  refine q_icmp_ge (tgt := 30) hx hb dX1_add_6 (by decide) (by omega) (fun c_6 => ?_) (fun c_6 => ?_)
  · refine lv_aload_n hx hb dX1_add_30 rfl (lv_at hl 0 rfl) ?_
    refine q_get hx hb hts hown hK hw.1 ci_X1 0 rfl 0 (by decide) fl_X1_9 rfl dX1_add_31 ?_
    refine lv_aload_n hx hb dX1_add_34 rfl (lv_at hl 0 rfl) ?_
    refine q_get hx hb hts hown hK hw.1 ci_X1 0 rfl 2 (by decide) fl_X1_19 rfl dX1_add_35 ?_
    refine lv_iload_n hx hb dX1_add_38 rfl (lv_at hl 1 rfl) ?_
    refine q_iast hx hb hK hw 1 0 rfl rfl (by omega) dX1_add_39 (fun H locs hw => ?_)
    have hw : qw D A s.heap [(q0, .inr (1, [.ref q1, .int (iI gn), .int (iI gq)])), (q1, .inl (cI, 6, .inl (ai (uI gt gq vv))))] H locs := hw
    obtain ⟨f_1, e_f_1⟩ : ∃ z, z = uI gt gq vv := ⟨_, rfl⟩
    have hw : qw D A s.heap [(q0, .inr (1, [.ref q1, .int (iI gn), .int (iI gq)])), (q1, .inl (cI, 6, .inl (ai f_1)))] H locs := by rw [e_f_1]; exact hw
    refine lv_aload_n hx hb dX1_add_40 rfl (lv_at hl 0 rfl) ?_
    refine lv_aload_n hx hb dX1_add_41 rfl (lv_at hl 0 rfl) ?_
    refine q_get hx hb hts hown hK hw.1 ci_X1 0 rfl 2 (by decide) fl_X1_19 rfl dX1_add_42 ?_
    refine q_iconst hx hb dX1_add_45 ?_
    refine q_icmp_ge (tgt := 58) hx hb dX1_add_46 (by decide) (by omega) (fun c_46 => ?_) (fun c_46 => ?_)
    · refine q_iconst hx hb dX1_add_58 ?_
      refine q_put hx hb hts hown hK hw ci_X1 0 rfl 2 (by decide) fl_X1_19 rfl rfl rfl (Nat.le_of_ble_eq_true rfl) dX1_add_59 (fun H locs hw => ?_)
      have hw : qw D A s.heap [(q0, .inr (1, [.ref q1, .int (iI gn), .int (iI 0)])), (q1, .inl (cI, 6, .inl (ai f_1)))] H locs := hw
      exact hret (gn, 0, f_1) H locs 62 ls ⟨(by rw [if_neg (by omega)]), (by first | rw [if_neg (by omega), if_pos (by omega)] | rw [if_neg (by omega), if_neg (by omega)]), (by rw [if_neg (by omega), e_f_1])⟩ hw dX1_add_62
    · refine lv_aload_n hx hb dX1_add_49 rfl (lv_at hl 0 rfl) ?_
      refine q_get hx hb hts hown hK hw.1 ci_X1 0 rfl 2 (by decide) fl_X1_19 rfl dX1_add_50 ?_
      refine q_iconst hx hb dX1_add_53 ?_
      refine q_iadd hx hb dX1_add_54 ?_
      refine lv_goto (tgt := 59) hx hb dX1_add_55 (by decide) ?_
      refine q_put hx hb hts hown hK hw ci_X1 0 rfl 2 (by decide) fl_X1_19 rfl rfl rfl (Nat.le_of_ble_eq_true rfl) dX1_add_59 (fun H locs hw => ?_)
      have hw : qw D A s.heap [(q0, .inr (1, [.ref q1, .int (iI gn), .int (iI (gq + 1))])), (q1, .inl (cI, 6, .inl (ai f_1)))] H locs := hw
      exact hret (gn, gq + 1, f_1) H locs 62 ls ⟨(by rw [if_neg (by omega)]), (by first | rw [if_neg (by omega), if_pos (by omega)] | rw [if_neg (by omega), if_neg (by omega)]), (by rw [if_neg (by omega), e_f_1])⟩ hw dX1_add_62
  · refine lv_aload_n hx hb dX1_add_9 rfl (lv_at hl 0 rfl) ?_
    refine q_get hx hb hts hown hK hw.1 ci_X1 0 rfl 0 (by decide) fl_X1_9 rfl dX1_add_10 ?_
    refine lv_aload_n hx hb dX1_add_13 rfl (lv_at hl 0 rfl) ?_
    refine q_get hx hb hts hown hK hw.1 ci_X1 0 rfl 1 (by decide) fl_X1_15 rfl dX1_add_14 ?_
    refine lv_iload_n hx hb dX1_add_17 rfl (lv_at hl 1 rfl) ?_
    refine q_iast hx hb hK hw 1 0 rfl rfl (by omega) dX1_add_18 (fun H locs hw => ?_)
    have hw : qw D A s.heap [(q0, .inr (1, [.ref q1, .int (iI gn), .int (iI gq)])), (q1, .inl (cI, 6, .inl (ai (uI gt gn vv))))] H locs := hw
    obtain ⟨f_2, e_f_2⟩ : ∃ z, z = uI gt gn vv := ⟨_, rfl⟩
    have hw : qw D A s.heap [(q0, .inr (1, [.ref q1, .int (iI gn), .int (iI gq)])), (q1, .inl (cI, 6, .inl (ai f_2)))] H locs := by rw [e_f_2]; exact hw
    refine lv_aload_n hx hb dX1_add_19 rfl (lv_at hl 0 rfl) ?_
    refine lv_dup hx hb dX1_add_20 rfl ?_
    refine q_get hx hb hts hown hK hw.1 ci_X1 0 rfl 1 (by decide) fl_X1_15 rfl dX1_add_21 ?_
    refine q_iconst hx hb dX1_add_24 ?_
    refine q_iadd hx hb dX1_add_25 ?_
    refine q_put hx hb hts hown hK hw ci_X1 0 rfl 1 (by decide) fl_X1_15 rfl rfl rfl (Nat.le_of_ble_eq_true rfl) dX1_add_26 (fun H locs hw => ?_)
    have hw : qw D A s.heap [(q0, .inr (1, [.ref q1, .int (iI (gn + 1)), .int (iI gq)])), (q1, .inl (cI, 6, .inl (ai f_2)))] H locs := hw
    exact hret (gn + 1, gq, f_2) H locs 29 ls ⟨(by rw [if_pos (by omega)]), (by rw [if_pos (by omega)]), (by rw [if_pos (by omega), e_f_2])⟩ hw dX1_add_29

set_option maxHeartbeats 4000000 in
set_option maxRecDepth 100000 in
theorem c_X1_copyFrom : qM l D (tyG cI cB cZ cS cJ) yX1_copyFrom cX1_copyFrom 2 (Option.none) 1 60 [.ref q0, .ref r0] [(q0, .inr (1, [.ref q1, .int (iI gn), .int (iI gq)])), (q1, .inl (cI, 6, .inl (ai gt))), (r0, .inr (1, [.ref r1, .int (iI hn), .int (iI hq)])), (r1, .inl (cI, 6, .inl (ai ht)))] (fun u : Unit => True) (fun _ => none) (fun u => [(q0, .inr (1, [.ref q1, .int (iI hn), .int (iI hq)])), (q1, .inl (cI, 6, .inl (ai ht))), (r0, .inr (1, [.ref r1, .int (iI hn), .int (iI hq)])), (r1, .inl (cI, 6, .inl (ai ht)))]) := by
  refine qM_enterV (by decide) (Nat.le_of_ble_eq_true rfl) (fun p e R s m args below meth c Q ls A X hR hA hw hl hret => ?_)
  obtain ⟨hx, hb, hml, hown, hts, hK⟩ := X
  have hl : lv_has ls 2 [(0, .ref q0), (1, .ref r0)] := hl
  suffices K : ∀ (H : Heap) (locs : List Loc), qw D A s.heap [(q0, .inr (1, [.ref q1, .int (iI gn), .int (iI gq)])), (q1, .inl (cI, 6, .inl (ai gt))), (r0, .inr (1, [.ref r1, .int (iI hn), .int (iI hq)])), (r1, .inl (cI, 6, .inl (ai ht)))] H locs → W p l e R s m args below meth c H locs 0 0 Q (F0 m 0 ls []) from K s.heap [] hw
  clear hw
  intro H locs hw
  refine lv_aload_n hx hb dX1_copyFrom_0 rfl (lv_at hl 1 rfl) ?_
  refine q_get hx hb hts hown hK hw.1 ci_X1 2 rfl 0 (by decide) fl_X1_9 rfl dX1_copyFrom_1 ?_
  refine q_iconst hx hb dX1_copyFrom_4 ?_
  refine lv_aload_n hx hb dX1_copyFrom_5 rfl (lv_at hl 0 rfl) ?_
  refine q_get hx hb hts hown hK hw.1 ci_X1 0 rfl 0 (by decide) fl_X1_9 rfl dX1_copyFrom_6 ?_
  refine q_iconst hx hb dX1_copyFrom_9 ?_
  refine q_bipush hx hb dX1_copyFrom_10 rfl ?_
  refine q_acopy hx hb hml hl.1 hown hts ml_X1_22 hK hw 3 1 rfl rfl rfl (by decide) (k := 6) rfl (by rw [hR]; decide) (by rw [hR]; decide) dX1_copyFrom_12 (fun H locs hw => ?_)
  have hw : qw D A s.heap [(q0, .inr (1, [.ref q1, .int (iI gn), .int (iI gq)])), (q1, .inl (cI, 6, .inl (ai ht))), (r0, .inr (1, [.ref r1, .int (iI hn), .int (iI hq)])), (r1, .inl (cI, 6, .inl (ai ht)))] H locs := hw
  refine lv_aload_n hx hb dX1_copyFrom_15 rfl (lv_at hl 0 rfl) ?_
  refine lv_aload_n hx hb dX1_copyFrom_16 rfl (lv_at hl 1 rfl) ?_
  refine q_get hx hb hts hown hK hw.1 ci_X1 2 rfl 1 (by decide) fl_X1_15 rfl dX1_copyFrom_17 ?_
  refine q_put hx hb hts hown hK hw ci_X1 0 rfl 1 (by decide) fl_X1_15 rfl rfl rfl (Nat.le_of_ble_eq_true rfl) dX1_copyFrom_20 (fun H locs hw => ?_)
  have hw : qw D A s.heap [(q0, .inr (1, [.ref q1, .int (iI hn), .int (iI gq)])), (q1, .inl (cI, 6, .inl (ai ht))), (r0, .inr (1, [.ref r1, .int (iI hn), .int (iI hq)])), (r1, .inl (cI, 6, .inl (ai ht)))] H locs := hw
  refine lv_aload_n hx hb dX1_copyFrom_23 rfl (lv_at hl 0 rfl) ?_
  refine lv_aload_n hx hb dX1_copyFrom_24 rfl (lv_at hl 1 rfl) ?_
  refine q_get hx hb hts hown hK hw.1 ci_X1 2 rfl 2 (by decide) fl_X1_19 rfl dX1_copyFrom_25 ?_
  refine q_put hx hb hts hown hK hw ci_X1 0 rfl 2 (by decide) fl_X1_19 rfl rfl rfl (Nat.le_of_ble_eq_true rfl) dX1_copyFrom_28 (fun H locs hw => ?_)
  have hw : qw D A s.heap [(q0, .inr (1, [.ref q1, .int (iI hn), .int (iI hq)])), (q1, .inl (cI, 6, .inl (ai ht))), (r0, .inr (1, [.ref r1, .int (iI hn), .int (iI hq)])), (r1, .inl (cI, 6, .inl (ai ht)))] H locs := hw
  exact hret () H locs 31 ls trivial hw dX1_copyFrom_31
