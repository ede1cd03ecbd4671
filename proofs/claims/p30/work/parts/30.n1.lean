variable {l : Launch} {z : Nat → Nat} {D : va_G} {cI cB cZ cS cJ : ClassId} {T C E : Nat → Int → Int} {q0 q1 r0 r1 : Nat} {gn gc hn : Int} {gt ht : Int → Int} {a b a2 : Nat → Nat} {pf pm pt pl pw stop sinp srea spag sjob sdup : Int}
set_option maxHeartbeats 4000000 in
set_option maxRecDepth 100000 in
theorem c_X1_usual (wo : Int) (hg : 0 ≤ gn ∧ gn < 1000000) (hgc : minZ gn 6 = gc) (hw : rg wo) (hgt : ∀ i : Int, 0 ≤ i → i < gc → 30 ≤ gt i ∧ gt i ≤ 500) : qP l D (tyG cI cB cZ cS cJ) yX1_usual cX1_usual 5 (Option.some FieldType.int) 1 21 [.ref q0, .int (iI wo)] [(q0, .inr (1, [.ref q1, .int (iI gn)])), (q1, .inl (cI, 6, .inl (ai gt)))] (some (.int (iI (usG gt gc wo)))) := by
  have q_c := mz_bd hg.1 hgc
  refine qP_enter (by decide) (Nat.le_of_ble_eq_true rfl) (nar_i _) (fun p e R s m args below meth c Q ls X hR hP hl hret => ?_)
  obtain ⟨hx, hb, hml, hown, hts, hK⟩ := X
  have hl : lv_has ls 5 [(0, .ref q0), (1, .int (iI wo))] := hl
  refine lv_aload_n hx hb dX1_usual_0 rfl (lv_at hl 0 rfl) ?_
  refine q_get hx hb hts hown hK hP ci_X1 0 rfl 1 (by decide) fl_X1_15 rfl dX1_usual_1 ?_
  refine q_bipush hx hb dX1_usual_4 rfl ?_
  refine q_min hx hb hml hl.1 hown hts ml_X1_31 ⟨by rw [hR]; decide, by rw [hR]; exact Nat.le_of_ble_eq_true rfl⟩ ⟨by rw [hR]; exact Nat.zero_le _, by rw [hR]; exact Nat.zero_le _⟩ (by omega) dX1_usual_6 ?_
  refine q_top gc (by exact hgc) ?_
  refine lv_istore_n (lv' := [(2, .int (iI gc)), (0, .ref q0), (1, .int (iI wo))]) hx hb dX1_usual_9 rfl hl (by decide) rfl (fun ls hl => ?_)
  refine lv_iload_n hx hb dX1_usual_10 rfl (lv_at hl 0 rfl) ?_
  refine q_if_gt (tgt := 16) hx hb dX1_usual_11 (by decide) (by omega) (fun c_11 => ?_) (fun c_11 => ?_)
  · refine q_iconst hx hb dX1_usual_16 ?_
    refine lv_istore_n (lv' := [(3, .int (iI 0)), (2, .int (iI gc)), (0, .ref q0), (1, .int (iI wo))]) hx hb dX1_usual_17 rfl hl (by decide) rfl (fun ls hl => ?_)
    refine q_iconst hx hb dX1_usual_18 ?_
    refine lv_istore (lv' := [(4, .int (iI 0)), (3, .int (iI 0)), (2, .int (iI gc)), (0, .ref q0), (1, .int (iI wo))]) hx hb dX1_usual_19 hl (by decide) rfl (fun ls hl => ?_)
    have loop_21 : ∀ (fu : Nat) (s2 : Int) (k : Int) (ls : Array Slot), (gc - k).toNat = fu → (s2 = sI gt k) → (0 ≤ k ∧ k ≤ gc) → lv_has ls 5 [(0, .ref q0), (1, .int (iI wo)), (2, .int (iI gc)), (3, .int (iI s2)), (4, .int (iI k))] → W p l e R s m args below meth c s.heap [] 0 0 Q (F0 m 21 ls []) := by
      intro fu
      induction fu using Nat.strongRecOn with
      | ind fu ih =>
      intro s2 k ls hn_21 h_s h_k hl
      refine lv_iload hx hb dX1_usual_21 (lv_at hl 4 rfl) ?_
      refine lv_iload_n hx hb dX1_usual_23 rfl (lv_at hl 2 rfl) ?_
      refine q_icmp_ge (tgt := 43) hx hb dX1_usual_24 (by decide) (by omega) (fun c_24 => ?_) (fun c_24 => ?_)
      · refine lv_iload_n hx hb dX1_usual_43 rfl (lv_at hl 3 rfl) ?_
        refine lv_iload_n hx hb dX1_usual_44 rfl (lv_at hl 2 rfl) ?_
        refine q_idiv hx hb dX1_usual_45 (by first | omega | (have w := us_bd (gt := gt) (gc := k) (by omega) (fun i a b => hgt i a (by omega)); omega)) (by first | omega | (have w := us_bd (gt := gt) (gc := k) (by omega) (fun i a b => hgt i a (by omega)); omega)) (by first | omega | (have w := us_bd (gt := gt) (gc := k) (by omega) (fun i a b => hgt i a (by omega)); omega)) ?_
        exact q_ret (hret 46 ls dX1_usual_46) (by unfold usG; rw [if_neg (by omega), h_s, show k = gc by omega])
      · refine lv_iload_n hx hb dX1_usual_27 rfl (lv_at hl 3 rfl) ?_
        refine lv_aload_n hx hb dX1_usual_28 rfl (lv_at hl 0 rfl) ?_
        refine q_get hx hb hts hown hK hP ci_X1 0 rfl 0 (by decide) fl_X1_9 rfl dX1_usual_29 ?_
        refine lv_iload hx hb dX1_usual_32 (lv_at hl 4 rfl) ?_
        refine q_iald hx hb hK hP 1 0 rfl rfl (z := k) (v := (gt k)) (by omega) rfl dX1_usual_34 ?_
        refine q_iadd hx hb dX1_usual_35 ?_
        refine lv_istore_n (lv' := [(3, .int (iI (s2 + gt k))), (0, .ref q0), (1, .int (iI wo)), (2, .int (iI gc)), (4, .int (iI k))]) hx hb dX1_usual_36 rfl hl (by decide) rfl (fun ls hl => ?_)
        refine lv_iinc (v := iI (k + 1)) (lv' := [(4, .int (iI (k + 1))), (3, .int (iI (s2 + gt k))), (0, .ref q0), (1, .int (iI wo)), (2, .int (iI gc))]) hx hb dX1_usual_37 hl (k := 4) rfl (iI_add _ _) (by decide) rfl (fun ls hl => ?_)
        refine lv_goto (tgt := 21) hx hb dX1_usual_40 (by decide) ?_
        exact ih _ (by omega) (s2 + gt k) (k + 1) ls rfl (by rw [h_s]; exact (sI_s _ (by omega)).symm) (by first | omega | assumption | rfl) (lv_sub hl [2, 3, 4, 1, 0] rfl)
    exact loop_21 _ (0) (0) ls rfl (by rfl) (by first | omega | assumption | rfl) (lv_sub hl [3, 4, 2, 1, 0] rfl)
  · refine lv_iload_n hx hb dX1_usual_14 rfl (lv_at hl 2 rfl) ?_
    exact q_ret (hret 15 ls dX1_usual_15) (by unfold usG; rw [if_pos (by omega)])

set_option maxHeartbeats 4000000 in
set_option maxRecDepth 100000 in
theorem c_X1_clear : qM l D (tyG cI cB cZ cS cJ) yX1_clear cX1_clear 1 (Option.none) 0 0 [.ref q0] [(q0, .inr (1, [.ref q1, .int (iI gn)])), (q1, .inl (cI, 6, .inl (ai gt)))] (fun u : Unit => True) (fun _ => none) (fun u => [(q0, .inr (1, [.ref q1, .int (iI 0)])), (q1, .inl (cI, 6, .inl (ai gt)))]) := by
  refine qM_enterV (by decide) (Nat.le_of_ble_eq_true rfl) (fun p e R s m args below meth c Q ls A X hR hA hw hl hret => ?_)
  obtain ⟨hx, hb, hml, hown, hts, hK⟩ := X
  have hl : lv_has ls 1 [(0, .ref q0)] := hl
  suffices K : ∀ (H : Heap) (locs : List Loc), qw D A s.heap [(q0, .inr (1, [.ref q1, .int (iI gn)])), (q1, .inl (cI, 6, .inl (ai gt)))] H locs → W p l e R s m args below meth c H locs 0 0 Q (F0 m 0 ls []) from K s.heap [] hw
  clear hw
  intro H locs hw
  refine lv_aload_n hx hb dX1_clear_0 rfl (lv_at hl 0 rfl) ?_
  refine q_iconst hx hb dX1_clear_1 ?_
  refine q_put hx hb hts hown hK hw ci_X1 0 rfl 1 (by decide) fl_X1_15 rfl rfl rfl (Nat.le_of_ble_eq_true rfl) dX1_clear_2 (fun H locs hw => ?_)
  have hw : qw D A s.heap [(q0, .inr (1, [.ref q1, .int (iI 0)])), (q1, .inl (cI, 6, .inl (ai gt)))] H locs := hw
  exact hret () H locs 5 ls trivial hw dX1_clear_5

set_option maxHeartbeats 4000000 in
set_option maxRecDepth 100000 in
theorem c_X1_add (vv : Int) (hg : 0 ≤ gn ∧ gn < 1000000) : qM l D (tyG cI cB cZ cS cJ) yX1_add cX1_add 2 (Option.none) 1 22 [.ref q0, .int (iI vv)] [(q0, .inr (1, [.ref q1, .int (iI gn)])), (q1, .inl (cI, 6, .inl (ai gt)))] (fun u : Unit => True) (fun _ => none) (fun u => [(q0, .inr (1, [.ref q1, .int (iI (gn + 1))])), (q1, .inl (cI, 6, .inl (ai (uI gt (gn % 6) vv))))]) := by
  refine qM_enterV (by decide) (Nat.le_of_ble_eq_true rfl) (fun p e R s m args below meth c Q ls A X hR hA hw hl hret => ?_)
  obtain ⟨hx, hb, hml, hown, hts, hK⟩ := X
  have hl : lv_has ls 2 [(0, .ref q0), (1, .int (iI vv))] := hl
  suffices K : ∀ (H : Heap) (locs : List Loc), qw D A s.heap [(q0, .inr (1, [.ref q1, .int (iI gn)])), (q1, .inl (cI, 6, .inl (ai gt)))] H locs → W p l e R s m args below meth c H locs 0 0 Q (F0 m 0 ls []) from K s.heap [] hw
  clear hw
  intro H locs hw
  refine lv_aload_n hx hb dX1_add_0 rfl (lv_at hl 0 rfl) ?_
  refine q_get hx hb hts hown hK hw.1 ci_X1 0 rfl 0 (by decide) fl_X1_9 rfl dX1_add_1 ?_
  refine lv_aload_n hx hb dX1_add_4 rfl (lv_at hl 0 rfl) ?_
  refine q_get hx hb hts hown hK hw.1 ci_X1 0 rfl 1 (by decide) fl_X1_15 rfl dX1_add_5 ?_
  refine q_bipush hx hb dX1_add_8 rfl ?_
  refine q_callPS (As := [.int (iI gn), .int (iI 6)]) (rest := [.ref q1]) hx hb hml hown hts hK (c_J9_floorMod (gn) (6) (by first | omega | assumption) (by first | omega | assumption)) yt_J9_floorMod_7cf53 ml_X1_25 (by rw [hR]; decide) (show va_P D vwCl [] _ from fun k q h => by simp at h)  rfl rfl hl.1 (lv_room (Nat.le_of_ble_eq_true rfl)) dX1_add_10 ⟨by rw [hR]; exact Nat.zero_le _, by rw [hR]; exact Nat.zero_le _⟩ ?_
  refine lv_iload_n hx hb dX1_add_13 rfl (lv_at hl 1 rfl) ?_
  refine q_iast hx hb hK hw 1 0 rfl rfl (by omega) dX1_add_14 (fun H locs hw => ?_)
  have hw : qw D A s.heap [(q0, .inr (1, [.ref q1, .int (iI gn)])), (q1, .inl (cI, 6, .inl (ai (uI gt (gn % 6) vv))))] H locs := hw
  refine lv_aload_n hx hb dX1_add_15 rfl (lv_at hl 0 rfl) ?_
  refine lv_dup hx hb dX1_add_16 rfl ?_
  refine q_get hx hb hts hown hK hw.1 ci_X1 0 rfl 1 (by decide) fl_X1_15 rfl dX1_add_17 ?_
  refine q_iconst hx hb dX1_add_20 ?_
  refine q_iadd hx hb dX1_add_21 ?_
  refine q_put hx hb hts hown hK hw ci_X1 0 rfl 1 (by decide) fl_X1_15 rfl rfl rfl (Nat.le_of_ble_eq_true rfl) dX1_add_22 (fun H locs hw => ?_)
  have hw : qw D A s.heap [(q0, .inr (1, [.ref q1, .int (iI (gn + 1))])), (q1, .inl (cI, 6, .inl (ai (uI gt (gn % 6) vv))))] H locs := hw
  exact hret () H locs 25 ls trivial hw dX1_add_25

set_option maxHeartbeats 4000000 in
set_option maxRecDepth 100000 in
theorem c_X1_copyFrom : qM l D (tyG cI cB cZ cS cJ) yX1_copyFrom cX1_copyFrom 2 (Option.none) 1 60 [.ref q0, .ref r0] [(q0, .inr (1, [.ref q1, .int (iI gn)])), (q1, .inl (cI, 6, .inl (ai gt))), (r0, .inr (1, [.ref r1, .int (iI hn)])), (r1, .inl (cI, 6, .inl (ai ht)))] (fun u : Unit => True) (fun _ => none) (fun u => [(q0, .inr (1, [.ref q1, .int (iI hn)])), (q1, .inl (cI, 6, .inl (ai ht))), (r0, .inr (1, [.ref r1, .int (iI hn)])), (r1, .inl (cI, 6, .inl (ai ht)))]) := by
  refine qM_enterV (by decide) (Nat.le_of_ble_eq_true rfl) (fun p e R s m args below meth c Q ls A X hR hA hw hl hret => ?_)
  obtain ⟨hx, hb, hml, hown, hts, hK⟩ := X
  have hl : lv_has ls 2 [(0, .ref q0), (1, .ref r0)] := hl
  suffices K : ∀ (H : Heap) (locs : List Loc), qw D A s.heap [(q0, .inr (1, [.ref q1, .int (iI gn)])), (q1, .inl (cI, 6, .inl (ai gt))), (r0, .inr (1, [.ref r1, .int (iI hn)])), (r1, .inl (cI, 6, .inl (ai ht)))] H locs → W p l e R s m args below meth c H locs 0 0 Q (F0 m 0 ls []) from K s.heap [] hw
  clear hw
  intro H locs hw
  refine lv_aload_n hx hb dX1_copyFrom_0 rfl (lv_at hl 1 rfl) ?_
  refine q_get hx hb hts hown hK hw.1 ci_X1 2 rfl 0 (by decide) fl_X1_9 rfl dX1_copyFrom_1 ?_
  refine q_iconst hx hb dX1_copyFrom_4 ?_
  refine lv_aload_n hx hb dX1_copyFrom_5 rfl (lv_at hl 0 rfl) ?_
  refine q_get hx hb hts hown hK hw.1 ci_X1 0 rfl 0 (by decide) fl_X1_9 rfl dX1_copyFrom_6 ?_
  refine q_iconst hx hb dX1_copyFrom_9 ?_
  refine q_bipush hx hb dX1_copyFrom_10 rfl ?_
  refine q_acopy hx hb hml hl.1 hown hts ml_X1_19 hK hw 3 1 rfl rfl rfl (by decide) (k := 6) rfl (by rw [hR]; decide) (by rw [hR]; decide) dX1_copyFrom_12 (fun H locs hw => ?_)
  have hw : qw D A s.heap [(q0, .inr (1, [.ref q1, .int (iI gn)])), (q1, .inl (cI, 6, .inl (ai ht))), (r0, .inr (1, [.ref r1, .int (iI hn)])), (r1, .inl (cI, 6, .inl (ai ht)))] H locs := hw
  refine lv_aload_n hx hb dX1_copyFrom_15 rfl (lv_at hl 0 rfl) ?_
  refine lv_aload_n hx hb dX1_copyFrom_16 rfl (lv_at hl 1 rfl) ?_
  refine q_get hx hb hts hown hK hw.1 ci_X1 2 rfl 1 (by decide) fl_X1_15 rfl dX1_copyFrom_17 ?_
  refine q_put hx hb hts hown hK hw ci_X1 0 rfl 1 (by decide) fl_X1_15 rfl rfl rfl (Nat.le_of_ble_eq_true rfl) dX1_copyFrom_20 (fun H locs hw => ?_)
  have hw : qw D A s.heap [(q0, .inr (1, [.ref q1, .int (iI hn)])), (q1, .inl (cI, 6, .inl (ai ht))), (r0, .inr (1, [.ref r1, .int (iI hn)])), (r1, .inl (cI, 6, .inl (ai ht)))] H locs := hw
  exact hret () H locs 23 ls trivial hw dX1_copyFrom_23
