/-! THE LAW'S TEXT. Written by wip/p30/n44.py -/
section QWX
variable {D : va_G} {A : Nat → Prop} {H0 : Heap} {w1 w2 : va_W} {H : Heap} {locs : List Loc}
theorem qw_r (h : qw D A H0 (w1 ++ w2) H locs) : qw D A H0 w2 H locs := by
  obtain ⟨hP, hD, hS⟩ := h
  have hd := vD_iff.mp hD
  rw [List.map_append, List.nodup_append] at hd
  exact ⟨vP_iff.mpr (fun q hq => vP_iff.mp hP q (List.mem_append_right _ hq)), vD_iff.mpr ⟨hd.1.2.1, fun q hq => hd.2 q (List.mem_append_right _ hq)⟩, hS⟩
theorem qw_l (h : qw D A H0 (w1 ++ w2) H locs) : qw D A H0 w1 H locs := qw_r h.comm
end QWX
theorem x7 : txL 7 = txL 0 ++ [32] := rfl
theorem x8 : txL 8 = [32] := rfl
theorem x9 : txL 9 = [59] := rfl
theorem x10 : txL 10 = txL 2 ++ [32] := rfl
theorem x11 : txL 11 = txL 1 ++ [32] := rfl
theorem x12 : txL 12 = [32, 45] := rfl
theorem x13 : txL 13 = [32] ++ (txL 6 ++ [32]) := rfl
theorem x14 : txL 14 = txL 4 ++ [32] := rfl
theorem x15 : txL 15 = [32] ++ (dgS 25 ++ ([32] ++ (dgS 5 ++ [59]))) := rfl
theorem dgS_2 {x : Int} (h : x ≤ 99) : (dgS x).length ≤ 2 := by
  unfold dgS
  split
  · simp
  · rw [if_pos (by omega)]
    simp
theorem hdT_len {a b : Int} (ha : 0 ≤ a ∧ a ≤ 999) (hb : 0 ≤ b ∧ b ≤ 99) : (hdT a b).length ≤ 14 := by
  have q1 := (dgS_b ha).2.1
  have q2 := dgS_2 (x := b) hb.2
  have q3 : (txL 0).length = 6 := rfl
  unfold hdT
  simp only [List.length_append, List.length_cons, List.length_nil]
  omega
theorem WC_fr {T C : Nat → Int → Int} (hT : WT T) (h : frC T C) : WC T C := by
  obtain ⟨⟨h0, h1, h2, h3, h4, h5, h6, h7⟩, h8, h9, hs, hj⟩ := h
  obtain ⟨w1, w2, w3⟩ := hT
  have l0 := h8 0 (by decide) (by decide)
  have l1 := h8 1 (by decide) (by decide)
  have l2 := h8 2 (by decide) (by decide)
  have l3 := h8 3 (by decide) (by decide)
  refine ⟨?_, ?_, fun s a b => ?_, fun i a b => by omega, fun p a b => by omega, fun j a b => ?_⟩
  · rw [h0, h1, h2, h3, h4, h5, h6, h7]
    refine ⟨by decide, by decide, by omega, by decide, by decide, by decide, by decide, by decide, by decide, by omega, by omega, by decide, by decide, by decide, by decide, fun _ => rfl, fun _ => by decide⟩
  · rw [l0, l1, l2, l3]
    exact w2
  · obtain ⟨s0, s1, s2, s3⟩ := hs s a b
    have w := w3 s a b
    rw [s0, s1, s2, s3]
    exact ⟨by decide, by decide, by omega, by omega, by omega, by omega, by decide, by decide, fun z => absurd z (by decide)⟩
  · have e : j = 0 := by omega
    rw [e, hj]
    decide
section BEG
variable {l : Launch} {z : Nat → Nat} {D : va_G} {cI cB cZ cS cJ : ClassId} {g : Wd} {N : Int} {bb L : Nat} {xs : Nat → Int32}
set_option maxHeartbeats 40000000 in
set_option maxRecDepth 100000 in
theorem c_L_begins (hg : gd g N) (hg0 : g.2.2.2.1 2 = 0) (hL : L ≤ 3072) : qH l (ZL z bb L xs) D (tyG cI cB cZ cS cJ) yL_begins (.code yL_begins cL_begins 10 (Option.some FieldType.boolean) :: gW) 10 216 460 700000 [.ref (g.1 0 0), .ref bb] (wW g cI cB cZ cS) (fun u : Wd => gd u N ∧ u.1 0 = g.1 0) (fun u => some (.int (iI 1))) (fun u => wW u cI cB cZ cS) := by
  refine qH_enterI (val := fun u => iI 1) (by decide) (Nat.le_of_ble_eq_true rfl) (fun u hu => ⟨rfl, nar_z (Or.inr rfl)⟩) (fun p e R s m args below meth c Q ls A X hR hA hw hB hl hret => ?_)
  obtain ⟨hx, hb, hml, hown, hts, hK⟩ := X
  have hl : lv_has ls 10 [(0, .ref (g.1 0 0)), (1, .ref bb)] := hl
  have hZ := hB.1.1.1.1
  suffices K : ∀ (H : Heap) (locs : List Loc), qw D A s.heap (wW g cI cB cZ cS) H locs → W p l e R s m args below meth c H locs 0 0 Q (F0 m 0 ls []) from K s.heap [] hw
  clear hw
  intro H locs hw
  have hw : qw D A s.heap (wW g cI cB cZ cS) H locs := hw
  refine q_iconst hx hb dL_begins_0 ?_
  refine lv_aload_n hx hb dL_begins_1 rfl (lv_at hl 1 rfl) ?_
  refine q_iconst hx hb dL_begins_2 ?_
  refine q_bipush hx hb dL_begins_3 rfl ?_
  refine q_callPSz (As := [.ref bb, .int (iI 0), .int (iI 8)]) (rest := [.int (iI 3)]) (zl_ok z bb L xs) hx hb hml hown hts hK (c_L_pick 0 8 hL (by omega) (by omega)) yt_L_pick ml_L_15 (by rw [hR]; decide) P_nil (z_M (zl_ok z bb L xs) hB hw hA [] rfl) rfl rfl hl.1 (lv_room (Nat.le_of_ble_eq_true rfl)) dL_begins_5 (by rw [hR]; exact ⟨by show _ ≤ (460 : Nat); omega, by show _ ≤ (700000 : Nat); omega⟩) ?_
  obtain ⟨r_5, er_5⟩ : ∃ x : Int, x = pkV xs L 0 8 := ⟨_, rfl⟩
  have pk_5 : 0 ≤ r_5 ∧ r_5 < 8 := by rw [er_5]; exact pkV_rg (by decide)
  refine q_top r_5 er_5.symm ?_
  refine q_iadd hx hb dL_begins_8 ?_
  obtain ⟨mn, e_mn⟩ : ∃ x : Int, x = 3 + r_5 := ⟨_, rfl⟩
  have h_mn : 3 ≤ mn ∧ mn ≤ 10 := by omega
  refine q_top (mn) (by exact e_mn.symm) ?_
  refine lv_istore_n (lv' := [(2, .int (iI (mn))), (0, .ref (g.1 0 0)), (1, .ref bb)]) hx hb dL_begins_9 rfl hl (by decide) rfl (fun ls hl => ?_)
  refine q_bipush hx hb dL_begins_10 rfl ?_
  refine lv_aload_n hx hb dL_begins_12 rfl (lv_at hl 2 rfl) ?_
  refine q_iconst hx hb dL_begins_13 ?_
  refine q_sipush hx hb dL_begins_14 rfl ?_
  refine q_callPSz (As := [.ref bb, .int (iI 1), .int (iI 200)]) (rest := [.int (iI 100)]) (zl_ok z bb L xs) hx hb hml hown hts hK (c_L_pick 1 200 hL (by omega) (by omega)) yt_L_pick ml_L_15 (by rw [hR]; decide) P_nil (z_M (zl_ok z bb L xs) hB hw hA [] rfl) rfl rfl hl.1 (lv_room (Nat.le_of_ble_eq_true rfl)) dL_begins_17 (by rw [hR]; exact ⟨by show _ ≤ (460 : Nat); omega, by show _ ≤ (700000 : Nat); omega⟩) ?_
  obtain ⟨r_17, er_17⟩ : ∃ x : Int, x = pkV xs L 1 200 := ⟨_, rfl⟩
  have pk_17 : 0 ≤ r_17 ∧ r_17 < 200 := by rw [er_17]; exact pkV_rg (by decide)
  refine q_top r_17 er_17.symm ?_
  refine q_iadd hx hb dL_begins_20 ?_
  obtain ⟨ln, e_ln⟩ : ∃ x : Int, x = 100 + r_17 := ⟨_, rfl⟩
  have h_ln : 100 ≤ ln ∧ ln ≤ 299 := by omega
  refine q_top (ln) (by exact e_ln.symm) ?_
  refine lv_istore_n (lv' := [(3, .int (iI (ln))), (2, .int (iI (mn))), (0, .ref (g.1 0 0)), (1, .ref bb)]) hx hb dL_begins_21 rfl hl (by decide) rfl (fun ls hl => ?_)
  refine q_bipush hx hb dL_begins_22 rfl ?_
  refine lv_aload_n hx hb dL_begins_24 rfl (lv_at hl 3 rfl) ?_
  refine q_iconst hx hb dL_begins_25 ?_
  refine q_bipush hx hb dL_begins_26 rfl ?_
  refine q_callPSz (As := [.ref bb, .int (iI 2), .int (iI 50)]) (rest := [.int (iI 50)]) (zl_ok z bb L xs) hx hb hml hown hts hK (c_L_pick 2 50 hL (by omega) (by omega)) yt_L_pick ml_L_15 (by rw [hR]; decide) P_nil (z_M (zl_ok z bb L xs) hB hw hA [] rfl) rfl rfl hl.1 (lv_room (Nat.le_of_ble_eq_true rfl)) dL_begins_28 (by rw [hR]; exact ⟨by show _ ≤ (460 : Nat); omega, by show _ ≤ (700000 : Nat); omega⟩) ?_
  obtain ⟨r_28, er_28⟩ : ∃ x : Int, x = pkV xs L 2 50 := ⟨_, rfl⟩
  have pk_28 : 0 ≤ r_28 ∧ r_28 < 50 := by rw [er_28]; exact pkV_rg (by decide)
  refine q_top r_28 er_28.symm ?_
  refine q_iadd hx hb dL_begins_31 ?_
  obtain ⟨th, e_th⟩ : ∃ x : Int, x = 50 + r_28 := ⟨_, rfl⟩
  have h_th : 50 ≤ th ∧ th ≤ 99 := by omega
  refine q_top (th) (by exact e_th.symm) ?_
  refine lv_istore (lv' := [(4, .int (iI (th))), (3, .int (iI (ln))), (2, .int (iI (mn))), (0, .ref (g.1 0 0)), (1, .ref bb)]) hx hb dL_begins_32 hl (by decide) rfl (fun ls hl => ?_)
  refine q_newO (fs := [.null, .int (iI 0), .int (iI 0), .int (iI 0)]) hx hb hts hown hK hw hA ci_J4 cl_L_19 ins_J4 ini_J4 (fun j hj => by rcases (show j = 0 ∨ j = 1 ∨ j = 2 ∨ j = 3 by omega) with rfl | rfl | rfl | rfl <;> rfl) (by rw [hR]; exact ⟨by show _ ≤ (460 : Nat); omega, by show _ ≤ (700000 : Nat); omega⟩) dL_begins_34 (fun b H hw => ?_)
  replace hw := hw.comm
  refine lv_dup hx hb dL_begins_37 rfl ?_
  refine va_ldcS hx hb hown (hZ.2.2.2.1 _ lt_L_21) dL_begins_38 ?_
  refine q_callSN (As := [.ref (z 17)]) (rest := [.ref b]) (zl_ok z bb L xs) hx hb hml hown hts hK (qH_z (kb_init (b := b) (cI := cI) (cB := cB) (cZ := cZ) (cS := cS) (cJ := cJ) (i := 7) (by decide)) zl_b) yn_J4_init_a7421 ml_L_23 (by rw [hR]; decide) hw hA hB rfl rfl hl.1 (lv_room (Nat.le_of_ble_eq_true rfl)) dL_begins_40 (by rw [hR]; exact ⟨by show _ ≤ (460 : Nat); omega, by show _ ≤ (700000 : Nat); omega⟩) (fun q0 H locs hs_t0 hw => ?_)
  obtain ⟨t0, e_t0⟩ : ∃ x : List Int, x = txL 7 := ⟨_, rfl⟩
  rw [← e_t0] at hs_t0
  have hn_t0 : t0.length ≤ 7 := by rw [e_t0]; decide
  have hw : qw D A s.heap (bW b cB q0 t0 ++ wW g cI cB cZ cS) H locs := by rw [e_t0]; exact hw
  refine lv_iload_n hx hb dL_begins_43 rfl (lv_at hl 1 rfl) ?_
  refine q_callH (As := [.int (iI (ln))]) (rest := []) (T := TJ4) (N := 4) (zl_ok z bb L xs) hx hb hml hown hts hK (qH_z (kb_appI (b := b) (cB := cB) (cI := cI) (cZ := cZ) (cS := cS) (cJ := cJ) (x := (ln)) (by omega) hs_t0 (by have hqq := hn_t0; omega)) zl_b) yi_J4_append_bf812 ml_L_26 (by rw [hR]; decide) hw hA hB 0 bW_0 rfl rfl rfl hl.1 (lv_room (Nat.le_of_ble_eq_true rfl)) dL_begins_44 (by rw [hR]; exact ⟨by show _ ≤ (460 : Nat); omega, by show _ ≤ (700000 : Nat); omega⟩) (fun u_44 H locs hu_44 hw => ?_)
  obtain ⟨q1, rfl⟩ : ∃ x, x = u_44 := ⟨_, rfl⟩
  obtain ⟨t1, e_t1⟩ : ∃ x : List Int, x = t0 ++ dgS (ln) := ⟨_, rfl⟩
  have hs_t1 : sB q1 t1 := by rw [e_t1]; exact hu_44
  have hn_t1 : t1.length ≤ (7) + 3 := by rw [e_t1, List.length_append]; have hqq := hn_t0; have hll := (dgS_b (x := (ln)) (by omega)).2.1; omega
  have hw : qw D A s.heap (bW b cB q1 t1 ++ wW g cI cB cZ cS) H locs := by rw [e_t1]; exact hw
  refine va_ldcS hx hb hown (hZ.2.2.2.1 _ lt_L_30) dL_begins_47 ?_
  refine q_callH (As := [.ref (z 18)]) (rest := []) (T := TJ4) (N := 4) (zl_ok z bb L xs) hx hb hml hown hts hK (qH_z (kb_appS (b := b) (cB := cB) (cI := cI) (cZ := cZ) (cS := cS) (cJ := cJ) (i := 8) (by decide) hs_t1 (show t1.length + 1 ≤ 700 by have hqq := hn_t1; omega)) zl_b) yi_J4_append_15ec4 ml_L_32 (by rw [hR]; decide) hw hA hB 0 bW_0 rfl rfl rfl hl.1 (lv_room (Nat.le_of_ble_eq_true rfl)) dL_begins_49 (by rw [hR]; exact ⟨by show _ ≤ (460 : Nat); omega, by show _ ≤ (700000 : Nat); omega⟩) (fun u_49 H locs hu_49 hw => ?_)
  obtain ⟨q2, rfl⟩ : ∃ x, x = u_49 := ⟨_, rfl⟩
  obtain ⟨t2, e_t2⟩ : ∃ x : List Int, x = t1 ++ (txL 8) := ⟨_, rfl⟩
  have hs_t2 : sB q2 t2 := by rw [e_t2]; exact hu_49
  have hn_t2 : t2.length ≤ ((7) + 3) + 1 := by rw [e_t2, List.length_append]; have hqq := hn_t1; have hll : (txL 8).length = 1 := rfl; omega
  have hw : qw D A s.heap (bW b cB q2 t2 ++ wW g cI cB cZ cS) H locs := by rw [e_t2]; exact hw
  refine lv_iload hx hb dL_begins_52 (lv_at hl 0 rfl) ?_
  refine q_callH (As := [.int (iI (th))]) (rest := []) (T := TJ4) (N := 4) (zl_ok z bb L xs) hx hb hml hown hts hK (qH_z (kb_appI (b := b) (cB := cB) (cI := cI) (cZ := cZ) (cS := cS) (cJ := cJ) (x := (th)) (by omega) hs_t2 (by have hqq := hn_t2; omega)) zl_b) yi_J4_append_bf812 ml_L_26 (by rw [hR]; decide) hw hA hB 0 bW_0 rfl rfl rfl hl.1 (lv_room (Nat.le_of_ble_eq_true rfl)) dL_begins_54 (by rw [hR]; exact ⟨by show _ ≤ (460 : Nat); omega, by show _ ≤ (700000 : Nat); omega⟩) (fun u_54 H locs hu_54 hw => ?_)
  obtain ⟨q3, rfl⟩ : ∃ x, x = u_54 := ⟨_, rfl⟩
  obtain ⟨t3, e_t3⟩ : ∃ x : List Int, x = t2 ++ dgS (th) := ⟨_, rfl⟩
  have hs_t3 : sB q3 t3 := by rw [e_t3]; exact hu_54
  have hn_t3 : t3.length ≤ (((7) + 3) + 1) + 3 := by rw [e_t3, List.length_append]; have hqq := hn_t2; have hll := (dgS_b (x := (th)) (by omega)).2.1; omega
  have hw : qw D A s.heap (bW b cB q3 t3 ++ wW g cI cB cZ cS) H locs := by rw [e_t3]; exact hw
  refine va_ldcS hx hb hown (hZ.2.2.2.1 _ lt_L_35) dL_begins_57 ?_
  refine q_callH (As := [.ref (z 19)]) (rest := []) (T := TJ4) (N := 4) (zl_ok z bb L xs) hx hb hml hown hts hK (qH_z (kb_appS (b := b) (cB := cB) (cI := cI) (cZ := cZ) (cS := cS) (cJ := cJ) (i := 9) (by decide) hs_t3 (show t3.length + 1 ≤ 700 by have hqq := hn_t3; omega)) zl_b) yi_J4_append_15ec4 ml_L_32 (by rw [hR]; decide) hw hA hB 0 bW_0 rfl rfl rfl hl.1 (lv_room (Nat.le_of_ble_eq_true rfl)) dL_begins_59 (by rw [hR]; exact ⟨by show _ ≤ (460 : Nat); omega, by show _ ≤ (700000 : Nat); omega⟩) (fun u_59 H locs hu_59 hw => ?_)
  obtain ⟨q4, rfl⟩ : ∃ x, x = u_59 := ⟨_, rfl⟩
  obtain ⟨t4, e_t4⟩ : ∃ x : List Int, x = t3 ++ (txL 9) := ⟨_, rfl⟩
  have hs_t4 : sB q4 t4 := by rw [e_t4]; exact hu_59
  have hn_t4 : t4.length ≤ ((((7) + 3) + 1) + 3) + 1 := by rw [e_t4, List.length_append]; have hqq := hn_t3; have hll : (txL 9).length = 1 := rfl; omega
  have hw : qw D A s.heap (bW b cB q4 t4 ++ wW g cI cB cZ cS) H locs := by rw [e_t4]; exact hw
  refine lv_astore (lv' := [(5, .ref b), (4, .int (iI (th))), (3, .int (iI (ln))), (2, .int (iI (mn))), (0, .ref (g.1 0 0)), (1, .ref bb)]) hx hb dL_begins_62 hl (by decide) rfl (fun ls hl => ?_)
  refine q_iconst hx hb dL_begins_64 ?_
  refine lv_istore (lv' := [(6, .int (iI 0)), (5, .ref b), (4, .int (iI (th))), (3, .int (iI (ln))), (2, .int (iI (mn))), (0, .ref (g.1 0 0)), (1, .ref bb)]) hx hb dL_begins_65 hl (by decide) rfl (fun ls hl => ?_)
  have e_hd : t4 = hdT ln th ++ [] := by rw [List.append_nil, e_t4, e_t3, e_t2, e_t1, e_t0]; unfold hdT; simp only [x7, x8, x9, x10, x11, x12, x13, x14, x15, List.append_assoc]
  rw [e_hd] at hs_t4 hw
  have aft : ∀ (kn : Nat) (q : Bq) (S : List Int) (H : Heap) (locs : List Loc) (ls : Array Slot), (kn : Int) = mn → shs S kn → S.length ≤ 40 * kn → sB q (hdT ln th ++ S) → qw D A s.heap (bW b cB q (hdT ln th ++ S) ++ wW g cI cB cZ cS) H locs → lv_has ls 10 [(0, .ref (g.1 0 0)), (1, .ref bb), (2, .int (iI mn)), (3, .int (iI ln)), (4, .int (iI th)), (5, .ref b), (6, .int (iI (kn : Int)))] → W p l e R s m args below meth c H locs (8 + 30 * kn) (9000 + 45000 * kn) Q (F0 m 339 ls []) := by
    intro kn q S H locs ls hkm hS hSl hs_S hw hl
    have hdl : (hdT ln th).length ≤ 14 := hdT_len (by omega) (by omega)
    have hn_S : (hdT ln th ++ S).length ≤ 414 := by rw [List.length_append]; omega
    refine lv_aload hx hb dL_begins_339 (lv_at hl 5 rfl) ?_
    refine va_ldcS hx hb hown (hZ.2.2.2.1 _ lt_L_45) dL_begins_341 ?_
    refine q_callH (As := [.ref (z 24)]) (rest := []) (T := TJ4) (N := 4) (zl_ok z bb L xs) hx hb hml hown hts hK (qH_z (kb_appS (b := b) (cB := cB) (cI := cI) (cZ := cZ) (cS := cS) (cJ := cJ) (i := 14) (by decide) hs_S (show (hdT ln th ++ S).length + 7 ≤ 700 by have hqq := hn_S; omega)) zl_b) yi_J4_append_15ec4 ml_L_32 (by rw [hR]; decide) hw hA hB 0 bW_0 rfl rfl rfl hl.1 (lv_room (Nat.le_of_ble_eq_true rfl)) dL_begins_343 (by rw [hR]; exact ⟨by show _ ≤ (460 : Nat); omega, by show _ ≤ (700000 : Nat); omega⟩) (fun u_343 H locs hu_343 hw => ?_)
    obtain ⟨q5, rfl⟩ : ∃ x, x = u_343 := ⟨_, rfl⟩
    obtain ⟨t5, e_t5⟩ : ∃ x : List Int, x = (hdT ln th ++ S) ++ (txL 14) := ⟨_, rfl⟩
    have hs_t5 : sB q5 t5 := by rw [e_t5]; exact hu_343
    have hn_t5 : t5.length ≤ (414) + 7 := by rw [e_t5, List.length_append]; have hqq := hn_S; have hll : (txL 14).length = 7 := rfl; omega
    have hw : qw D A s.heap (bW b cB q5 t5 ++ wW g cI cB cZ cS) H locs := by rw [e_t5]; exact hw
    refine q_bipush hx hb dL_begins_346 rfl ?_
    refine lv_aload_n hx hb dL_begins_348 rfl (lv_at hl 1 rfl) ?_
    refine q_iconst hx hb dL_begins_349 ?_
    refine q_bipush hx hb dL_begins_350 rfl ?_
    refine q_callPSz (As := [.ref bb, .int (iI 3), .int (iI 100)]) (rest := [.int (iI 120), .ref b]) (zl_ok z bb L xs) hx hb hml hown hts hK (c_L_pick 3 100 hL (by omega) (by omega)) yt_L_pick ml_L_15 (by rw [hR]; decide) P_nil (z_M (zl_ok z bb L xs) hB hw hA [] rfl) rfl rfl hl.1 (lv_room (Nat.le_of_ble_eq_true rfl)) dL_begins_352 (by rw [hR]; exact ⟨by show _ ≤ (460 : Nat); omega, by show _ ≤ (700000 : Nat); omega⟩) ?_
    obtain ⟨r_352, er_352⟩ : ∃ x : Int, x = pkV xs L 3 100 := ⟨_, rfl⟩
    have pk_352 : 0 ≤ r_352 ∧ r_352 < 100 := by rw [er_352]; exact pkV_rg (by decide)
    refine q_top r_352 er_352.symm ?_
    refine q_iadd hx hb dL_begins_355 ?_
    obtain ⟨lc, e_lc⟩ : ∃ x : Int, x = 120 + r_352 := ⟨_, rfl⟩
    have h_lc : 101 ≤ lc ∧ lc ≤ 300 := by omega
    refine q_top (lc) (by exact e_lc.symm) ?_
    refine q_callH (As := [.int (iI (lc))]) (rest := []) (T := TJ4) (N := 4) (zl_ok z bb L xs) hx hb hml hown hts hK (qH_z (kb_appI (b := b) (cB := cB) (cI := cI) (cZ := cZ) (cS := cS) (cJ := cJ) (x := (lc)) (by omega) hs_t5 (by have hqq := hn_t5; omega)) zl_b) yi_J4_append_bf812 ml_L_26 (by rw [hR]; decide) hw hA hB 0 bW_0 rfl rfl rfl hl.1 (lv_room (Nat.le_of_ble_eq_true rfl)) dL_begins_356 (by rw [hR]; exact ⟨by show _ ≤ (460 : Nat); omega, by show _ ≤ (700000 : Nat); omega⟩) (fun u_356 H locs hu_356 hw => ?_)
    obtain ⟨q6, rfl⟩ : ∃ x, x = u_356 := ⟨_, rfl⟩
    obtain ⟨t6, e_t6⟩ : ∃ x : List Int, x = t5 ++ dgS (lc) := ⟨_, rfl⟩
    have hs_t6 : sB q6 t6 := by rw [e_t6]; exact hu_356
    have hn_t6 : t6.length ≤ ((414) + 7) + 3 := by rw [e_t6, List.length_append]; have hqq := hn_t5; have hll := (dgS_b (x := (lc)) (by omega)).2.1; omega
    have hw : qw D A s.heap (bW b cB q6 t6 ++ wW g cI cB cZ cS) H locs := by rw [e_t6]; exact hw
    refine va_ldcS hx hb hown (hZ.2.2.2.1 _ lt_L_30) dL_begins_359 ?_
    refine q_callH (As := [.ref (z 18)]) (rest := []) (T := TJ4) (N := 4) (zl_ok z bb L xs) hx hb hml hown hts hK (qH_z (kb_appS (b := b) (cB := cB) (cI := cI) (cZ := cZ) (cS := cS) (cJ := cJ) (i := 8) (by decide) hs_t6 (show t6.length + 1 ≤ 700 by have hqq := hn_t6; omega)) zl_b) yi_J4_append_15ec4 ml_L_32 (by rw [hR]; decide) hw hA hB 0 bW_0 rfl rfl rfl hl.1 (lv_room (Nat.le_of_ble_eq_true rfl)) dL_begins_361 (by rw [hR]; exact ⟨by show _ ≤ (460 : Nat); omega, by show _ ≤ (700000 : Nat); omega⟩) (fun u_361 H locs hu_361 hw => ?_)
    obtain ⟨q7, rfl⟩ : ∃ x, x = u_361 := ⟨_, rfl⟩
    obtain ⟨t7, e_t7⟩ : ∃ x : List Int, x = t6 ++ (txL 8) := ⟨_, rfl⟩
    have hs_t7 : sB q7 t7 := by rw [e_t7]; exact hu_361
    have hn_t7 : t7.length ≤ (((414) + 7) + 3) + 1 := by rw [e_t7, List.length_append]; have hqq := hn_t6; have hll : (txL 8).length = 1 := rfl; omega
    have hw : qw D A s.heap (bW b cB q7 t7 ++ wW g cI cB cZ cS) H locs := by rw [e_t7]; exact hw
    refine q_bipush hx hb dL_begins_364 rfl ?_
    refine lv_aload_n hx hb dL_begins_366 rfl (lv_at hl 1 rfl) ?_
    refine q_iconst hx hb dL_begins_367 ?_
    refine q_bipush hx hb dL_begins_368 rfl ?_
    refine q_callPSz (As := [.ref bb, .int (iI 4), .int (iI 60)]) (rest := [.int (iI 10), .ref b]) (zl_ok z bb L xs) hx hb hml hown hts hK (c_L_pick 4 60 hL (by omega) (by omega)) yt_L_pick ml_L_15 (by rw [hR]; decide) P_nil (z_M (zl_ok z bb L xs) hB hw hA [] rfl) rfl rfl hl.1 (lv_room (Nat.le_of_ble_eq_true rfl)) dL_begins_370 (by rw [hR]; exact ⟨by show _ ≤ (460 : Nat); omega, by show _ ≤ (700000 : Nat); omega⟩) ?_
    obtain ⟨r_370, er_370⟩ : ∃ x : Int, x = pkV xs L 4 60 := ⟨_, rfl⟩
    have pk_370 : 0 ≤ r_370 ∧ r_370 < 60 := by rw [er_370]; exact pkV_rg (by decide)
    refine q_top r_370 er_370.symm ?_
    refine q_iadd hx hb dL_begins_373 ?_
    obtain ⟨ld, e_ld⟩ : ∃ x : Int, x = 10 + r_370 := ⟨_, rfl⟩
    have h_ld : 0 ≤ ld ∧ ld ≤ 200 := by omega
    refine q_top (ld) (by exact e_ld.symm) ?_
    refine q_callH (As := [.int (iI (ld))]) (rest := []) (T := TJ4) (N := 4) (zl_ok z bb L xs) hx hb hml hown hts hK (qH_z (kb_appI (b := b) (cB := cB) (cI := cI) (cZ := cZ) (cS := cS) (cJ := cJ) (x := (ld)) (by omega) hs_t7 (by have hqq := hn_t7; omega)) zl_b) yi_J4_append_bf812 ml_L_26 (by rw [hR]; decide) hw hA hB 0 bW_0 rfl rfl rfl hl.1 (lv_room (Nat.le_of_ble_eq_true rfl)) dL_begins_374 (by rw [hR]; exact ⟨by show _ ≤ (460 : Nat); omega, by show _ ≤ (700000 : Nat); omega⟩) (fun u_374 H locs hu_374 hw => ?_)
    obtain ⟨q8, rfl⟩ : ∃ x, x = u_374 := ⟨_, rfl⟩
    obtain ⟨t8, e_t8⟩ : ∃ x : List Int, x = t7 ++ dgS (ld) := ⟨_, rfl⟩
    have hs_t8 : sB q8 t8 := by rw [e_t8]; exact hu_374
    have hn_t8 : t8.length ≤ ((((414) + 7) + 3) + 1) + 3 := by rw [e_t8, List.length_append]; have hqq := hn_t7; have hll := (dgS_b (x := (ld)) (by omega)).2.1; omega
    have hw : qw D A s.heap (bW b cB q8 t8 ++ wW g cI cB cZ cS) H locs := by rw [e_t8]; exact hw
    refine va_ldcS hx hb hown (hZ.2.2.2.1 _ lt_L_47) dL_begins_377 ?_
    refine q_callH (As := [.ref (z 25)]) (rest := []) (T := TJ4) (N := 4) (zl_ok z bb L xs) hx hb hml hown hts hK (qH_z (kb_appS (b := b) (cB := cB) (cI := cI) (cZ := cZ) (cS := cS) (cJ := cJ) (i := 15) (by decide) hs_t8 (show t8.length + 6 ≤ 700 by have hqq := hn_t8; omega)) zl_b) yi_J4_append_15ec4 ml_L_32 (by rw [hR]; decide) hw hA hB 0 bW_0 rfl rfl rfl hl.1 (lv_room (Nat.le_of_ble_eq_true rfl)) dL_begins_379 (by rw [hR]; exact ⟨by show _ ≤ (460 : Nat); omega, by show _ ≤ (700000 : Nat); omega⟩) (fun u_379 H locs hu_379 hw => ?_)
    obtain ⟨q9, rfl⟩ : ∃ x, x = u_379 := ⟨_, rfl⟩
    obtain ⟨t9, e_t9⟩ : ∃ x : List Int, x = t8 ++ (txL 15) := ⟨_, rfl⟩
    have hs_t9 : sB q9 t9 := by rw [e_t9]; exact hu_379
    have hn_t9 : t9.length ≤ (((((414) + 7) + 3) + 1) + 3) + 6 := by rw [e_t9, List.length_append]; have hqq := hn_t8; have hll : (txL 15).length = 6 := rfl; omega
    have hw : qw D A s.heap (bW b cB q9 t9 ++ wW g cI cB cZ cS) H locs := by rw [e_t9]; exact hw
    refine lv_pop hx hb dL_begins_382 rfl ?_
    have e_end : t9 = hdT ln th ++ (S ++ lmT lc ld) := by rw [e_t9, e_t8, e_t7, e_t6, e_t5]; unfold lmT; simp only [x7, x8, x9, x10, x11, x12, x13, x14, x15, List.append_assoc]
    refine lv_aload hx hb dL_begins_383 (lv_at hl 5 rfl) ?_
    refine q_callH (As := []) (rest := []) (T := TJ4) (N := 4) (zl_ok z bb L xs) hx hb hml hown hts hK (qH_z (kb_len (b := b) (cB := cB) (q := q9) (t := t9)) zl_b) yi_J4_length_8abf5 ml_L_49 (by rw [hR]; decide) hw hA hB 0 bW_0 rfl rfl rfl hl.1 (lv_room (Nat.le_of_ble_eq_true rfl)) dL_begins_385 (by rw [hR]; exact ⟨by show _ ≤ (460 : Nat); omega, by show _ ≤ (700000 : Nat); omega⟩) (fun u_385 H locs hu_385 hw => ?_)
    refine lv_istore (lv' := [(6, .int (iI (t9.length : Int))), (0, .ref (g.1 0 0)), (1, .ref bb), (2, .int (iI mn)), (3, .int (iI ln)), (4, .int (iI th)), (5, .ref b)]) hx hb dL_begins_388 hl (by decide) rfl (fun ls hl => ?_)
    refine q_iconst hx hb dL_begins_390 ?_
    refine lv_istore (lv' := [(7, .int (iI 0)), (6, .int (iI (t9.length : Int))), (0, .ref (g.1 0 0)), (1, .ref bb), (2, .int (iI mn)), (3, .int (iI ln)), (4, .int (iI th)), (5, .ref b)]) hx hb dL_begins_391 hl (by decide) rfl (fun ls hl => ?_)
    have hcl := hs_t9.2.2.2.2
    obtain ⟨ch, ech⟩ : ∃ f : Int → Int, f = fun j => if 0 ≤ j ∧ j < (t9.length : Int) then t9.getD j.toNat 0 else 32 := ⟨_, rfl⟩
    have hch : ∀ j : Int, 0 ≤ ch j ∧ ch j < 128 := fun j => by
      rw [ech]
      show 0 ≤ (if 0 ≤ j ∧ j < (t9.length : Int) then t9.getD j.toNat 0 else 32) ∧ (if 0 ≤ j ∧ j < (t9.length : Int) then t9.getD j.toNat 0 else 32) < 128
      split
      · exact hcl _ (by omega)
      · decide
    have hnE := hn_t9
    have loopI : ∀ (fu : Nat) (mi : Nat) (w : Wd) (H : Heap) (locs : List Loc) (ls : Array Slot), (t9.length : Int).toNat + 20 - 20 * mi = fu → 20 * mi ≤ t9.length + 19 → gd w N → w.1 0 = g.1 0 → w.2.2.2.1 2 = 20 * (mi : Int) → (∀ j : Int, 0 ≤ j → j < 20 * (mi : Int) → w.2.2.2.2.1 1 j = ch j) → qw D A s.heap (bW b cB q9 t9 ++ wW w cI cB cZ cS) H locs → lv_has ls 10 [(0, .ref (g.1 0 0)), (1, .ref bb), (2, .int (iI mn)), (5, .ref b), (6, .int (iI (t9.length : Int))), (7, .int (iI (20 * (mi : Int))))] → W p l e R s m args below meth c H locs (400 + mi) (600000 + 10 * mi) Q (F0 m 393 ls []) := by
      intro fu
      induction fu using Nat.strongRecOn with
      | ind fu ih =>
        intro mi w H locs ls hfu hmi hgw hwx hwp hwb hw hl
        refine lv_iload hx hb dL_begins_393 (lv_at hl 5 rfl) ?_
        refine lv_iload hx hb dL_begins_395 (lv_at hl 4 rfl) ?_
        refine q_icmp_ge (tgt := 495) hx hb dL_begins_397 (by decide) (by omega) (fun c_397 => ?_) (fun c_397 => ?_)
        · refine lv_aload_n hx hb dL_begins_495 rfl (lv_at hl 0 rfl) ?_
          refine lv_iload hx hb dL_begins_496 (lv_at hl 4 rfl) ?_
          replace hw := hw.comm
          have hrs : rst (w.2.2.2.2.1 1) (t9.length : Int) 0 (hdT ln th ++ (S ++ lmT lc ld)) := by
            rw [← e_end]
            refine ⟨by omega, by decide, fun k hk => ?_⟩
            rw [Int.zero_add, hwb _ (by omega) (by omega), ech]
            show (if 0 ≤ (k : Int) ∧ (k : Int) < (t9.length : Int) then t9.getD ((k : Int)).toNat 0 else 32) = _
            rw [if_pos (by omega)]
            rfl
          obtain ⟨hp1, hp2, hp3⟩ := pa_txt (by omega) (by omega) hS (by omega) h_lc h_ld hrs
          have hwx0 : w.1 0 0 = g.1 0 0 := by rw [hwx]
          rw [← hwx0]
          refine q_callH (As := [.int (iI (t9.length : Int))]) (rest := []) (ci := 6) (T := TX6) (N := 10) (zl_ok z bb L xs) hx hb hml hown hts hK (qH_z (k_parse hgw (t9.length : Int) (by rw [hwp]; omega) hp1) zl_w) yi_X6_parse ml_L_62 (by rw [hR]; decide) hw hA hB 0 wW_0 rfl rfl rfl hl.1 (lv_room (Nat.le_of_ble_eq_true rfl)) dL_begins_498 (by rw [hR]; exact ⟨by show _ ≤ (460 : Nat); omega, by show _ ≤ (700000 : Nat); omega⟩) (fun w2 H locs hu hw => ?_)
          obtain ⟨hu1, hu2, hu3⟩ := hu
          have hw := qw_l hw
          refine q_top mn (hp2.trans hkm) ?_
          refine lv_iload_n hx hb dL_begins_501 rfl (lv_at hl 2 rfl) ?_
          refine q_icmp_ne (tgt := 509) hx hb dL_begins_502 (by decide) (by omega) (fun c_502 => absurd rfl c_502) (fun c_502 => ?_)
          refine q_iconst hx hb dL_begins_505 ?_
          refine lv_goto (tgt := 510) hx hb dL_begins_506 (by decide) ?_
          have hWT : WT (gT w2) := WT_T hp3 hu2
          have hfr2 : frC (gT w2) (gC w2) := hu3
          have hlg := hgw.2.2.2.2.2.1
          refine W_wide (k := 460) (n := 700000) (by omega) (by omega) ?_
          exact hret w2 H locs 510 ls ⟨kd_u hu1 hWT (WC_fr hWT hfr2) (PV_fr hWT hfr2) hgw.2.2.2.1 ⟨by decide, by decide⟩ ⟨hlg.1, hlg.2.1, hlg.2.2.1, by decide, by decide⟩ (fun j => by unfold uI; split; exact Or.inl rfl; split; exact Or.inl rfl; exact hgw.2.2.2.2.2.2 j), hu1.1.trans hwx⟩ hw dL_begins_510
        · refine q_iconst hx hb dL_begins_400 ?_
          refine q_newA (at0 := .int) (ft := .int) (t0 := 0) (N := 5) (cA0 := cI) (a0 := (5, .inl (ai (fun _ => 0)))) hx hb hts hK hw hA ac_int rfl rfl rfl (Nat.le_of_ble_eq_true rfl) (Nat.le_of_ble_eq_true rfl) (by rw [hR]; exact ⟨by show _ ≤ (460 : Nat); omega, by show _ ≤ (700000 : Nat); omega⟩) dL_begins_401 (fun vv H hw => ?_)
          replace hw := hw.comm
          refine lv_astore (lv' := [(8, .ref vv), (0, .ref (g.1 0 0)), (1, .ref bb), (2, .int (iI mn)), (5, .ref b), (6, .int (iI (t9.length : Int))), (7, .int (iI (20 * (mi : Int))))]) hx hb dL_begins_403 hl (by decide) rfl (fun ls hl => ?_)
          refine q_iconst hx hb dL_begins_405 ?_
          refine lv_istore (lv' := [(9, .int (iI 0)), (8, .ref vv), (0, .ref (g.1 0 0)), (1, .ref bb), (2, .int (iI mn)), (5, .ref b), (6, .int (iI (t9.length : Int))), (7, .int (iI (20 * (mi : Int))))]) hx hb dL_begins_406 hl (by decide) rfl (fun ls hl => ?_)
          have aftJ : ∀ (h : Int → Int) (H : Heap) (locs : List Loc) (ls : Array Slot), (∀ j : Int, 0 ≤ j → j < 5 → h j = pk4 ch (20 * (mi : Int) + 4 * j)) → qw D A s.heap ([(vv, .inl (cI, 5, .inl (ai h)))] ++ (bW b cB q9 t9 ++ wW w cI cB cZ cS)) H locs → lv_has ls 10 [(9, .int (iI 20)), (8, .ref vv), (0, .ref (g.1 0 0)), (1, .ref bb), (2, .int (iI mn)), (5, .ref b), (6, .int (iI (t9.length : Int))), (7, .int (iI (20 * (mi : Int))))] → W p l e R s m args below meth c H locs (400 + mi + 1) (600000 + 10 * mi + 5) Q (F0 m 464 ls []) := by
            intro h H locs ls hh hw hl
            refine lv_aload_n hx hb dL_begins_464 rfl (lv_at hl 2 rfl) ?_
            refine lv_aload hx hb dL_begins_465 (lv_at hl 1 rfl) ?_
            refine q_iconst hx hb dL_begins_467 ?_
            refine q_iald hx hb hK hw.1 0 0 rfl rfl (z := 0) (v := pk4 ch (20 * (mi : Int))) (by decide) (by rw [hh 0 (by decide) (by decide)]; exact congrArg (pk4 ch) (by omega)) dL_begins_468 ?_
            refine lv_aload hx hb dL_begins_469 (lv_at hl 1 rfl) ?_
            refine q_iconst hx hb dL_begins_471 ?_
            refine q_iald hx hb hK hw.1 0 0 rfl rfl (z := 1) (v := pk4 ch (20 * (mi : Int) + 4)) (by decide) (by rw [hh 1 (by decide) (by decide)]; rfl) dL_begins_472 ?_
            refine lv_aload hx hb dL_begins_473 (lv_at hl 1 rfl) ?_
            refine q_iconst hx hb dL_begins_475 ?_
            refine q_iald hx hb hK hw.1 0 0 rfl rfl (z := 2) (v := pk4 ch (20 * (mi : Int) + 8)) (by decide) (by rw [hh 2 (by decide) (by decide)]; rfl) dL_begins_476 ?_
            refine lv_aload hx hb dL_begins_477 (lv_at hl 1 rfl) ?_
            refine q_iconst hx hb dL_begins_479 ?_
            refine q_iald hx hb hK hw.1 0 0 rfl rfl (z := 3) (v := pk4 ch (20 * (mi : Int) + 12)) (by decide) (by rw [hh 3 (by decide) (by decide)]; rfl) dL_begins_480 ?_
            refine lv_aload hx hb dL_begins_481 (lv_at hl 1 rfl) ?_
            refine q_iconst hx hb dL_begins_483 ?_
            refine q_iald hx hb hK hw.1 0 0 rfl rfl (z := 4) (v := pk4 ch (20 * (mi : Int) + 16)) (by decide) (by rw [hh 4 (by decide) (by decide)]; rfl) dL_begins_484 ?_
            have hw := (qw_r hw).comm
            have hwx0 : w.1 0 0 = g.1 0 0 := by rw [hwx]
            rw [← hwx0]
            refine q_callH (As := [.int (iI (pk4 ch (20 * (mi : Int)))), .int (iI (pk4 ch (20 * (mi : Int) + 4))), .int (iI (pk4 ch (20 * (mi : Int) + 8))), .int (iI (pk4 ch (20 * (mi : Int) + 12))), .int (iI (pk4 ch (20 * (mi : Int) + 16)))]) (rest := []) (ci := 6) (T := TX6) (N := 10) (zl_ok z bb L xs) hx hb hml hown hts hK (qH_z (k_append hgw (pk4 ch (20 * (mi : Int))) (pk4 ch (20 * (mi : Int) + 4)) (pk4 ch (20 * (mi : Int) + 8)) (pk4 ch (20 * (mi : Int) + 12)) (pk4 ch (20 * (mi : Int) + 16)) (by rw [hwp]; omega)) zl_w) yi_X6_append ml_L_57 (by rw [hR]; decide) hw hA hB 0 wW_0 rfl rfl rfl hl.1 (lv_room (Nat.le_of_ble_eq_true rfl)) dL_begins_485 (by rw [hR]; exact ⟨by show _ ≤ (460 : Nat); omega, by show _ ≤ (700000 : Nat); omega⟩) (fun w2 H locs hu hw => ?_)
            replace hw := hw.comm
            refine lv_pop hx hb dL_begins_488 rfl ?_
            refine lv_iinc (v := iI (20 * ((mi + 1 : Nat) : Int))) (lv' := [(7, .int (iI (20 * ((mi + 1 : Nat) : Int)))), (9, .int (iI 20)), (8, .ref vv), (0, .ref (g.1 0 0)), (1, .ref bb), (2, .int (iI mn)), (5, .ref b), (6, .int (iI (t9.length : Int)))]) hx hb dL_begins_489 hl (k := 7) rfl ((iI_add _ _).trans (by congr 1 <;> omega)) (by decide) rfl (fun ls hl => ?_)
            refine lv_goto (tgt := 393) hx hb dL_begins_492 (by decide) ?_
            refine W_wide (k := 400 + (mi + 1)) (n := 600000 + 10 * (mi + 1)) (by omega) (by omega) ?_
            obtain ⟨a1, a2, a3, a4, a5, a6, a7, a8, a9⟩ := hu
            have hlg := hgw.2.2.2.2.2.1
            exact ih _ (by omega) (mi + 1) w2 H locs ls rfl (by omega) (kd_u ⟨a1, a2, a3, a4, a5, a6, a7, a8, a9⟩ hgw.1 hgw.2.1 hgw.2.2.1 (byR_A hgw.2.2.2.1) ⟨by rw [hwp]; omega, by rw [hwp]; omega⟩ hlg hgw.2.2.2.2.2.2) (a1.trans hwx) (by rw [a6, hwp]; omega) (fun j j0 j1 => by
                rw [a8, hwp]
                by_cases cj : j < 20 * (mi : Int)
                · rw [apA_o cj]
                  exact hwb j j0 cj
                · have z := apA_i (f := w.2.2.2.2.1 1) (n := 20 * (mi : Int)) hch (r := 20 * (mi : Int)) (j := j - 20 * (mi : Int)) (by omega)
                  rw [show 20 * (mi : Int) + (j - 20 * (mi : Int)) = j by omega] at z
                  exact z) hw (lv_sub hl [3, 4, 5, 6, 7, 0] rfl)
          have loopJ : ∀ (fu : Nat) (k : Int) (h : Int → Int) (H : Heap) (locs : List Loc) (ls : Array Slot), (20 - k).toNat = fu → 0 ≤ k → k ≤ 20 → (∀ j : Int, 0 ≤ j → j < 5 → h j = pkI ch (20 * (mi : Int) + 4 * j) (k - 4 * j)) → qw D A s.heap ([(vv, .inl (cI, 5, .inl (ai h)))] ++ (bW b cB q9 t9 ++ wW w cI cB cZ cS)) H locs → lv_has ls 10 [(9, .int (iI k)), (8, .ref vv), (0, .ref (g.1 0 0)), (1, .ref bb), (2, .int (iI mn)), (5, .ref b), (6, .int (iI (t9.length : Int))), (7, .int (iI (20 * (mi : Int))))] → W p l e R s m args below meth c H locs (400 + mi + 1) (600000 + 10 * mi + 5) Q (F0 m 408 ls []) := by
            intro fu
            induction fu using Nat.strongRecOn with
            | ind fu ihJ =>
              intro k h H locs ls hfk hk0 hk1 hh hw hl
              refine lv_iload hx hb dL_begins_408 (lv_at hl 0 rfl) ?_
              refine q_bipush hx hb dL_begins_410 rfl ?_
              refine q_icmp_ge (tgt := 464) hx hb dL_begins_412 (by decide) (by omega) (fun c_412 => ?_) (fun c_412 => ?_)
              · have ek : k = 20 := by omega
                subst ek
                exact aftJ h H locs ls (fun j j0 j1 => by rw [hh j j0 j1]; exact pkI_4 (by omega)) hw hl
              · refine lv_aload hx hb dL_begins_415 (lv_at hl 1 rfl) ?_
                refine lv_iload hx hb dL_begins_417 (lv_at hl 0 rfl) ?_
                refine q_iconst hx hb dL_begins_419 ?_
                refine q_idiv hx hb dL_begins_420 (by omega) (by omega) (by omega) ?_
                refine q_top (k / 4) (by exact Int.tdiv_eq_ediv_of_nonneg hk0) ?_
                refine lv_aload hx hb dL_begins_421 (lv_at hl 1 rfl) ?_
                refine lv_iload hx hb dL_begins_423 (lv_at hl 0 rfl) ?_
                refine q_iconst hx hb dL_begins_425 ?_
                refine q_idiv hx hb dL_begins_426 (by omega) (by omega) (by omega) ?_
                refine q_top (k / 4) (by exact Int.tdiv_eq_ediv_of_nonneg hk0) ?_
                refine q_iald hx hb hK hw.1 0 0 rfl rfl (z := k / 4) (v := pkI ch (20 * (mi : Int) + 4 * (k / 4)) (k % 4)) (by omega) (by rw [hh _ (by omega) (by omega), show k - 4 * (k / 4) = k % 4 by omega]) dL_begins_427 ?_
                have hpb := pkI_bd (c := ch) hch (r := 20 * (mi : Int) + 4 * (k / 4)) (m := k % 4) (by omega)
                refine q_bipush hx hb dL_begins_428 rfl ?_
                refine q_ishl8 hx hb hpb dL_begins_430 ?_
                refine lv_iload hx hb dL_begins_431 (lv_at hl 7 rfl) ?_
                refine lv_iload hx hb dL_begins_433 (lv_at hl 0 rfl) ?_
                refine q_iadd hx hb dL_begins_435 ?_
                refine lv_iload hx hb dL_begins_436 (lv_at hl 6 rfl) ?_
                have hcj := hch (20 * (mi : Int) + k)
                refine q_icmp_ge (tgt := 454) hx hb dL_begins_438 (by decide) (by omega) (fun c_438 => ?_) (fun c_438 => ?_)
                · refine q_bipush hx hb dL_begins_454 rfl ?_
                  refine q_top (ch (20 * (mi : Int) + k)) (by rw [ech]; exact (if_neg (by omega)).symm) ?_
                  refine q_ior8 hx hb hpb (by omega) dL_begins_456 ?_
                  refine q_top (pkI ch (20 * (mi : Int) + 4 * (k / 4)) (k % 4 + 1)) (by rw [pkI_s (by omega), show 20 * (mi : Int) + 4 * (k / 4) + k % 4 = 20 * (mi : Int) + k by omega]) ?_
                  refine q_iast hx hb hK hw 0 0 rfl rfl (by omega) dL_begins_457 (fun H locs hw => ?_)
                  have hw : qw D A s.heap ([(vv, .inl (cI, 5, .inl (ai (uI h (k / 4) (pkI ch (20 * (mi : Int) + 4 * (k / 4)) (k % 4 + 1))))))] ++ (bW b cB q9 t9 ++ wW w cI cB cZ cS)) H locs := hw
                  refine lv_iinc (v := iI (k + 1)) (lv' := [(9, .int (iI (k + 1))), (8, .ref vv), (0, .ref (g.1 0 0)), (1, .ref bb), (2, .int (iI mn)), (5, .ref b), (6, .int (iI (t9.length : Int))), (7, .int (iI (20 * (mi : Int))))]) hx hb dL_begins_458 hl (k := 0) rfl (iI_add _ _) (by decide) rfl (fun ls hl => ?_)
                  refine lv_goto (tgt := 408) hx hb dL_begins_461 (by decide) ?_
                  exact ihJ _ (by omega) (k + 1) _ H locs ls rfl (by omega) (by omega) (fun j j0 j1 => by
                      by_cases cj : j = k / 4
                      · rw [cj, uI_s]
                        congr 1
                        omega
                      · rw [uI_n _ _ _ cj, hh j j0 j1]
                        by_cases c2 : j < k / 4
                        · rw [pkI_4 (by omega), pkI_4 (by omega)]
                        · rw [pkI_0 (by omega), pkI_0 (by omega)]) hw hl
                · refine lv_aload hx hb dL_begins_441 (lv_at hl 5 rfl) ?_
                  refine lv_iload hx hb dL_begins_443 (lv_at hl 7 rfl) ?_
                  refine lv_iload hx hb dL_begins_445 (lv_at hl 0 rfl) ?_
                  refine q_iadd hx hb dL_begins_447 ?_
                  replace hw := hw.comm
                  have hw : qw D A s.heap (bW b cB q9 t9 ++ (wW w cI cB cZ cS ++ [(vv, .inl (cI, 5, .inl (ai h)))])) H locs := by rw [← List.append_assoc]; exact hw
                  refine q_callH (As := [.int (iI ((20 * (mi : Int)) + k))]) (rest := [.int (iI (pkI ch (20 * (mi : Int) + 4 * (k / 4)) (k % 4) * 256)), .int (iI (k / 4)), .ref vv]) (T := TJ4) (N := 4) (zl_ok z bb L xs) hx hb hml hown hts hK (qH_z (kb_chr (b := b) (cB := cB) (cI := cI) (cZ := cZ) (cS := cS) (cJ := cJ) (k := ((20 * (mi : Int)) + k)) hs_t9 (by omega) (by have hqq := hn_t9; omega)) zl_b) yi_J4_charAt_5068e ml_L_53 (by rw [hR]; decide) hw hA hB 0 bW_0 rfl rfl rfl hl.1 (lv_room (Nat.le_of_ble_eq_true rfl)) dL_begins_448 (by rw [hR]; exact ⟨by show _ ≤ (460 : Nat); omega, by show _ ≤ (700000 : Nat); omega⟩) (fun u_448 H locs hu_448 hw => ?_)
                  have hw : qw D A s.heap ([(vv, .inl (cI, 5, .inl (ai h)))] ++ (bW b cB q9 t9 ++ wW w cI cB cZ cS)) H locs := (hw.is (List.append_assoc _ _ _).symm).comm
                  refine q_top (ch (20 * (mi : Int) + k)) (by rw [ech]; exact (if_pos (by omega)).symm) ?_
                  refine lv_goto (tgt := 456) hx hb dL_begins_451 (by decide) ?_
                  refine q_ior8 hx hb hpb (by omega) dL_begins_456 ?_
                  refine q_top (pkI ch (20 * (mi : Int) + 4 * (k / 4)) (k % 4 + 1)) (by rw [pkI_s (by omega), show 20 * (mi : Int) + 4 * (k / 4) + k % 4 = 20 * (mi : Int) + k by omega]) ?_
                  refine q_iast hx hb hK hw 0 0 rfl rfl (by omega) dL_begins_457 (fun H locs hw => ?_)
                  have hw : qw D A s.heap ([(vv, .inl (cI, 5, .inl (ai (uI h (k / 4) (pkI ch (20 * (mi : Int) + 4 * (k / 4)) (k % 4 + 1))))))] ++ (bW b cB q9 t9 ++ wW w cI cB cZ cS)) H locs := hw
                  refine lv_iinc (v := iI (k + 1)) (lv' := [(9, .int (iI (k + 1))), (8, .ref vv), (0, .ref (g.1 0 0)), (1, .ref bb), (2, .int (iI mn)), (5, .ref b), (6, .int (iI (t9.length : Int))), (7, .int (iI (20 * (mi : Int))))]) hx hb dL_begins_458 hl (k := 0) rfl (iI_add _ _) (by decide) rfl (fun ls hl => ?_)
                  refine lv_goto (tgt := 408) hx hb dL_begins_461 (by decide) ?_
                  exact ihJ _ (by omega) (k + 1) _ H locs ls rfl (by omega) (by omega) (fun j j0 j1 => by
                      by_cases cj : j = k / 4
                      · rw [cj, uI_s]
                        congr 1
                        omega
                      · rw [uI_n _ _ _ cj, hh j j0 j1]
                        by_cases c2 : j < k / 4
                        · rw [pkI_4 (by omega), pkI_4 (by omega)]
                        · rw [pkI_0 (by omega), pkI_0 (by omega)]) hw hl
          exact loopJ _ 0 (fun _ => 0) H locs ls rfl (by decide) (by decide) (fun j j0 j1 => (pkI_0 (by omega)).symm) hw (lv_sub hl [0, 1, 2, 3, 4, 5, 6, 7] rfl)
    refine W_wide (k := 400 + 0) (n := 600000 + 10 * 0) (by omega) (by omega) ?_
    exact loopI _ 0 g H locs ls rfl (by omega) hg rfl (by rw [hg0]; rfl) (fun j j0 j1 => absurd j1 (by omega)) hw (lv_sub hl [2, 3, 4, 7, 1, 0] rfl)
  have loopK : ∀ (fu : Nat) (kn : Nat) (q : Bq) (S : List Int) (H : Heap) (locs : List Loc) (ls : Array Slot), (mn - (kn : Int)).toNat = fu → (kn : Int) ≤ mn → shs S kn → S.length ≤ 40 * kn → sB q (hdT ln th ++ S) → qw D A s.heap (bW b cB q (hdT ln th ++ S) ++ wW g cI cB cZ cS) H locs → lv_has ls 10 [(0, .ref (g.1 0 0)), (1, .ref bb), (2, .int (iI mn)), (3, .int (iI ln)), (4, .int (iI th)), (5, .ref b), (6, .int (iI (kn : Int)))] → W p l e R s m args below meth c H locs (8 + 30 * kn) (9000 + 45000 * kn) Q (F0 m 67 ls []) := by
    intro fu
    induction fu using Nat.strongRecOn with
    | ind fu ih =>
      intro kn q S H locs ls hfu hkn hS hSl hs_S hw hl
      have hdl : (hdT ln th).length ≤ 14 := hdT_len (by omega) (by omega)
      have hn_S : (hdT ln th ++ S).length ≤ 374 + 40 := by rw [List.length_append]; omega
      refine lv_iload hx hb dL_begins_67 (lv_at hl 6 rfl) ?_
      refine lv_iload_n hx hb dL_begins_69 rfl (lv_at hl 2 rfl) ?_
      refine q_icmp_ge (tgt := 339) hx hb dL_begins_70 (by decide) (by omega) (fun c_70 => ?_) (fun c_70 => ?_)
      · exact aft kn q S H locs ls (by omega) hS hSl hs_S hw hl
      · refine q_iconst hx hb dL_begins_73 ?_
        refine q_bipush hx hb dL_begins_74 rfl ?_
        refine lv_iload hx hb dL_begins_76 (lv_at hl 6 rfl) ?_
        refine q_imul hx hb dL_begins_78 ?_
        refine q_iadd hx hb dL_begins_79 ?_
        obtain ⟨at9, e_at9⟩ : ∃ x : Int, x = 5 + 8 * ((kn : Int)) := ⟨_, rfl⟩
        have h_at9 : 5 ≤ at9 ∧ at9 ≤ 85 := by omega
        refine q_top (at9) (by exact e_at9.symm) ?_
        refine lv_istore (lv' := [(7, .int (iI (at9))), (0, .ref (g.1 0 0)), (1, .ref bb), (2, .int (iI mn)), (3, .int (iI ln)), (4, .int (iI th)), (5, .ref b), (6, .int (iI ((kn : Int))))]) hx hb dL_begins_80 hl (by decide) rfl (fun ls hl => ?_)
        refine lv_aload_n hx hb dL_begins_82 rfl (lv_at hl 2 rfl) ?_
        refine lv_iload hx hb dL_begins_83 (lv_at hl 0 rfl) ?_
        refine q_bipush hx hb dL_begins_85 rfl ?_
        refine q_callPSz (As := [.ref bb, .int (iI (at9)), .int (iI 6)]) (rest := []) (zl_ok z bb L xs) hx hb hml hown hts hK (c_L_pick (at9) 6 hL (by omega) (by omega)) yt_L_pick ml_L_15 (by rw [hR]; decide) P_nil (z_M (zl_ok z bb L xs) hB hw hA [] rfl) rfl rfl hl.1 (lv_room (Nat.le_of_ble_eq_true rfl)) dL_begins_87 (by rw [hR]; exact ⟨by show _ ≤ (460 : Nat); omega, by show _ ≤ (700000 : Nat); omega⟩) ?_
        obtain ⟨r_87, er_87⟩ : ∃ x : Int, x = pkV xs L (at9) 6 := ⟨_, rfl⟩
        have pk_87 : 0 ≤ r_87 ∧ r_87 < 6 := by rw [er_87]; exact pkV_rg (by decide)
        refine q_top r_87 er_87.symm ?_
        have endS : ∀ (w8 : Int) (q : Bq) (tp stk S1 : List Int) (H : Heap) (locs : List Loc) (ls : Array Slot), stO stk → tp.length + stk.length ≤ 414 + 40 → tp = (hdT ln th ++ S) ++ S1 → (∀ stk : List Int, stO stk → stm (S1 ++ (stk ++ [59]))) → (S1 ++ (stk ++ [59])).length ≤ 40 → sB q (tp ++ stk) → qw D A s.heap (bW b cB q (tp ++ stk) ++ wW g cI cB cZ cS) H locs → lv_has ls 10 [(7, .int (iI at9)), (8, .int (iI w8)), (0, .ref (g.1 0 0)), (1, .ref bb), (2, .int (iI mn)), (3, .int (iI ln)), (4, .int (iI th)), (5, .ref b), (6, .int (iI (kn : Int)))] → W p l e R s m args below meth c H locs (8 + 30 * kn + 25) (9000 + 45000 * kn + 35050) Q (F0 m 325 ls []) := by
          intro w8 q tp stk S1 H locs ls hst hle htp hsm hl1 hs_E hw hl
          have hn_E : (tp ++ stk).length ≤ 454 := by rw [List.length_append]; omega
          refine lv_aload hx hb dL_begins_325 (lv_at hl 7 rfl) ?_
          refine va_ldcS hx hb hown (hZ.2.2.2.1 _ lt_L_35) dL_begins_327 ?_
          refine q_callH (As := [.ref (z 19)]) (rest := []) (T := TJ4) (N := 4) (zl_ok z bb L xs) hx hb hml hown hts hK (qH_z (kb_appS (b := b) (cB := cB) (cI := cI) (cZ := cZ) (cS := cS) (cJ := cJ) (i := 9) (by decide) hs_E (show (tp ++ stk).length + 1 ≤ 700 by have hqq := hn_E; omega)) zl_b) yi_J4_append_15ec4 ml_L_32 (by rw [hR]; decide) hw hA hB 0 bW_0 rfl rfl rfl hl.1 (lv_room (Nat.le_of_ble_eq_true rfl)) dL_begins_329 (by rw [hR]; exact ⟨by show _ ≤ (460 : Nat); omega, by show _ ≤ (700000 : Nat); omega⟩) (fun u_329 H locs hu_329 hw => ?_)
          obtain ⟨q10, rfl⟩ : ∃ x, x = u_329 := ⟨_, rfl⟩
          obtain ⟨t10, e_t10⟩ : ∃ x : List Int, x = (tp ++ stk) ++ (txL 9) := ⟨_, rfl⟩
          have hs_t10 : sB q10 t10 := by rw [e_t10]; exact hu_329
          have hn_t10 : t10.length ≤ (454) + 1 := by rw [e_t10, List.length_append]; have hqq := hn_E; have hll : (txL 9).length = 1 := rfl; omega
          have hw : qw D A s.heap (bW b cB q10 t10 ++ wW g cI cB cZ cS) H locs := by rw [e_t10]; exact hw
          refine lv_pop hx hb dL_begins_332 rfl ?_
          have e_fin : t10 = hdT ln th ++ (S ++ (S1 ++ (stk ++ [59]))) := by rw [e_t10, htp, x9]; simp only [List.append_assoc]
          rw [e_fin] at hs_t10 hw
          refine lv_iinc (v := iI ((kn + 1 : Nat) : Int)) (lv' := [(6, .int (iI ((kn + 1 : Nat) : Int))), (7, .int (iI at9)), (8, .int (iI w8)), (0, .ref (g.1 0 0)), (1, .ref bb), (2, .int (iI mn)), (3, .int (iI ln)), (4, .int (iI th)), (5, .ref b)]) hx hb dL_begins_333 hl (k := 8) rfl ((iI_add _ _).trans (by congr 1)) (by decide) rfl (fun ls hl => ?_)
          refine lv_goto (tgt := 67) hx hb dL_begins_336 (by decide) ?_
          refine W_wide (k := 8 + 30 * (kn + 1)) (n := 9000 + 45000 * (kn + 1)) (by omega) (by omega) ?_
          exact ih _ (by omega) (kn + 1) q10 (S ++ (S1 ++ (stk ++ [59]))) H locs ls rfl (by omega) (shs_s hS (hsm stk hst)) (by rw [List.length_append]; omega) hs_t10 hw (lv_sub hl [3, 4, 5, 6, 7, 8, 0] rfl)
        have stkS : ∀ (w8 : Int) (q : Bq) (tp S1 : List Int) (H : Heap) (locs : List Loc) (ls : Array Slot), tp.length ≤ 414 + 29 → tp = (hdT ln th ++ S) ++ S1 → (∀ stk : List Int, stO stk → stm (S1 ++ (stk ++ [59]))) → S1.length ≤ 29 → sB q tp → qw D A s.heap (bW b cB q tp ++ wW g cI cB cZ cS) H locs → lv_has ls 10 [(7, .int (iI at9)), (8, .int (iI w8)), (0, .ref (g.1 0 0)), (1, .ref bb), (2, .int (iI mn)), (3, .int (iI ln)), (4, .int (iI th)), (5, .ref b), (6, .int (iI (kn : Int)))] → W p l e R s m args below meth c H locs (8 + 30 * kn + 20) (9000 + 45000 * kn + 28040) Q (F0 m 290 ls []) := by
          intro w8 q tp S1 H locs ls hle htp hsm hl1 hs_P hw hl
          have hn_P : tp.length ≤ 443 := by omega
          refine lv_aload_n hx hb dL_begins_290 rfl (lv_at hl 3 rfl) ?_
          refine lv_iload hx hb dL_begins_291 (lv_at hl 0 rfl) ?_
          refine q_iconst hx hb dL_begins_293 ?_
          refine q_iadd hx hb dL_begins_294 ?_
          refine q_iconst hx hb dL_begins_295 ?_
          refine q_callPSz (As := [.ref bb, .int (iI (at9 + 3)), .int (iI 5)]) (rest := []) (zl_ok z bb L xs) hx hb hml hown hts hK (c_L_pick (at9 + 3) 5 hL (by omega) (by omega)) yt_L_pick ml_L_15 (by rw [hR]; decide) P_nil (z_M (zl_ok z bb L xs) hB hw hA [] rfl) rfl rfl hl.1 (lv_room (Nat.le_of_ble_eq_true rfl)) dL_begins_296 (by rw [hR]; exact ⟨by show _ ≤ (460 : Nat); omega, by show _ ≤ (700000 : Nat); omega⟩) ?_
          obtain ⟨r_296, er_296⟩ : ∃ x : Int, x = pkV xs L (at9 + 3) 5 := ⟨_, rfl⟩
          have pk_296 : 0 ≤ r_296 ∧ r_296 < 5 := by rw [er_296]; exact pkV_rg (by decide)
          refine q_top r_296 er_296.symm ?_
          refine q_iconst hx hb dL_begins_299 ?_
          refine q_icmp_ne (tgt := 325) hx hb dL_begins_300 (by decide) (by omega) (fun c_300 => ?_) (fun c_300 => ?_)
          · refine W_wide (k := 8 + 30 * kn + 25) (n := 9000 + 45000 * kn + 35050) (by omega) (by omega) ?_
            have et : tp ++ [] = tp := List.append_nil tp
            exact endS w8 q tp [] S1 H locs ls (Or.inl rfl) (by show tp.length + 0 ≤ _; omega) htp hsm (by rw [List.length_append]; show S1.length + 1 ≤ 40; omega) (by rw [et]; exact hs_P) (by rw [et]; exact hw) hl
          · refine lv_aload hx hb dL_begins_303 (lv_at hl 7 rfl) ?_
            refine va_ldcS hx hb hown (hZ.2.2.2.1 _ lt_L_43) dL_begins_305 ?_
            refine q_callH (As := [.ref (z 23)]) (rest := []) (T := TJ4) (N := 4) (zl_ok z bb L xs) hx hb hml hown hts hK (qH_z (kb_appS (b := b) (cB := cB) (cI := cI) (cZ := cZ) (cS := cS) (cJ := cJ) (i := 13) (by decide) hs_P (show tp.length + 7 ≤ 700 by have hqq := hn_P; omega)) zl_b) yi_J4_append_15ec4 ml_L_32 (by rw [hR]; decide) hw hA hB 0 bW_0 rfl rfl rfl hl.1 (lv_room (Nat.le_of_ble_eq_true rfl)) dL_begins_307 (by rw [hR]; exact ⟨by show _ ≤ (460 : Nat); omega, by show _ ≤ (700000 : Nat); omega⟩) (fun u_307 H locs hu_307 hw => ?_)
            obtain ⟨q11, rfl⟩ : ∃ x, x = u_307 := ⟨_, rfl⟩
            obtain ⟨t11, e_t11⟩ : ∃ x : List Int, x = tp ++ (txL 13) := ⟨_, rfl⟩
            have hs_t11 : sB q11 t11 := by rw [e_t11]; exact hu_307
            have hn_t11 : t11.length ≤ (443) + 7 := by rw [e_t11, List.length_append]; have hqq := hn_P; have hll : (txL 13).length = 7 := rfl; omega
            have hw : qw D A s.heap (bW b cB q11 t11 ++ wW g cI cB cZ cS) H locs := by rw [e_t11]; exact hw
            refine lv_aload_n hx hb dL_begins_310 rfl (lv_at hl 3 rfl) ?_
            refine lv_iload hx hb dL_begins_311 (lv_at hl 0 rfl) ?_
            refine q_bipush hx hb dL_begins_313 rfl ?_
            refine q_iadd hx hb dL_begins_315 ?_
            refine q_bipush hx hb dL_begins_316 rfl ?_
            refine q_callPSz (As := [.ref bb, .int (iI (at9 + 6)), .int (iI 60)]) (rest := [.ref b]) (zl_ok z bb L xs) hx hb hml hown hts hK (c_L_pick (at9 + 6) 60 hL (by omega) (by omega)) yt_L_pick ml_L_15 (by rw [hR]; decide) P_nil (z_M (zl_ok z bb L xs) hB hw hA [] rfl) rfl rfl hl.1 (lv_room (Nat.le_of_ble_eq_true rfl)) dL_begins_318 (by rw [hR]; exact ⟨by show _ ≤ (460 : Nat); omega, by show _ ≤ (700000 : Nat); omega⟩) ?_
            obtain ⟨r_318, er_318⟩ : ∃ x : Int, x = pkV xs L (at9 + 6) 60 := ⟨_, rfl⟩
            have pk_318 : 0 ≤ r_318 ∧ r_318 < 60 := by rw [er_318]; exact pkV_rg (by decide)
            refine q_top r_318 er_318.symm ?_
            refine q_callH (As := [.int (iI r_318)]) (rest := []) (T := TJ4) (N := 4) (zl_ok z bb L xs) hx hb hml hown hts hK (qH_z (kb_appI (b := b) (cB := cB) (cI := cI) (cZ := cZ) (cS := cS) (cJ := cJ) (x := r_318) (by omega) hs_t11 (by have hqq := hn_t11; omega)) zl_b) yi_J4_append_bf812 ml_L_26 (by rw [hR]; decide) hw hA hB 0 bW_0 rfl rfl rfl hl.1 (lv_room (Nat.le_of_ble_eq_true rfl)) dL_begins_321 (by rw [hR]; exact ⟨by show _ ≤ (460 : Nat); omega, by show _ ≤ (700000 : Nat); omega⟩) (fun u_321 H locs hu_321 hw => ?_)
            obtain ⟨q12, rfl⟩ : ∃ x, x = u_321 := ⟨_, rfl⟩
            obtain ⟨t12, e_t12⟩ : ∃ x : List Int, x = t11 ++ dgS r_318 := ⟨_, rfl⟩
            have hs_t12 : sB q12 t12 := by rw [e_t12]; exact hu_321
            have hn_t12 : t12.length ≤ ((443) + 7) + 3 := by rw [e_t12, List.length_append]; have hqq := hn_t11; have hll := (dgS_b (x := r_318) (by omega)).2.1; omega
            have hw : qw D A s.heap (bW b cB q12 t12 ++ wW g cI cB cZ cS) H locs := by rw [e_t12]; exact hw
            refine lv_pop hx hb dL_begins_324 rfl ?_
            refine W_wide (k := 8 + 30 * kn + 25) (n := 9000 + 45000 * kn + 35050) (by omega) (by omega) ?_
            have hg9 := (dgS_b (x := r_318) (by omega)).2.1
            have es : t12 = tp ++ (txL 13 ++ dgS r_318) := by rw [e_t12, e_t11, List.append_assoc]
            have hl7 : (txL 13).length = 7 := rfl
            rw [es] at hs_t12 hw
            exact endS w8 q12 tp (txL 13 ++ dgS r_318) S1 H locs ls (Or.inr ⟨r_318, by omega, by rw [x13]; simp only [List.append_assoc]⟩) (by rw [List.length_append]; omega) htp hsm (by rw [List.length_append, List.length_append, List.length_append]; show S1.length + ((txL 13).length + (dgS r_318).length + 1) ≤ 40; omega) hs_t12 hw hl
        refine q_if_ne (tgt := 97) hx hb dL_begins_90 (by decide) (by omega) (fun c_90 => ?_) (fun c_90 => ?_)
        · refine q_iconst hx hb dL_begins_97 ?_
          refine lv_istore (lv' := [(8, .int (iI 0)), (7, .int (iI (at9))), (0, .ref (g.1 0 0)), (1, .ref bb), (2, .int (iI mn)), (3, .int (iI ln)), (4, .int (iI th)), (5, .ref b), (6, .int (iI ((kn : Int))))]) hx hb dL_begins_98 hl (by decide) rfl (fun ls hl => ?_)
          refine lv_aload hx hb dL_begins_100 (lv_at hl 7 rfl) ?_
          refine lv_iload hx hb dL_begins_102 (lv_at hl 0 rfl) ?_
          refine q_if_eq (tgt := 112) hx hb dL_begins_104 (by decide) (by omega) (fun c_104 => ?_) (fun c_104 => absurd c_104 (by omega))
          refine va_ldcS hx hb hown (hZ.2.2.2.1 _ lt_L_39) dL_begins_112 ?_
          refine q_callH (As := [.ref (z 21)]) (rest := []) (T := TJ4) (N := 4) (zl_ok z bb L xs) hx hb hml hown hts hK (qH_z (kb_appS (b := b) (cB := cB) (cI := cI) (cZ := cZ) (cS := cS) (cJ := cJ) (i := 11) (by decide) hs_S (show (hdT ln th ++ S).length + 6 ≤ 700 by have hqq := hn_S; omega)) zl_b) yi_J4_append_15ec4 ml_L_32 (by rw [hR]; decide) hw hA hB 0 bW_0 rfl rfl rfl hl.1 (lv_room (Nat.le_of_ble_eq_true rfl)) dL_begins_114 (by rw [hR]; exact ⟨by show _ ≤ (460 : Nat); omega, by show _ ≤ (700000 : Nat); omega⟩) (fun u_114 H locs hu_114 hw => ?_)
          obtain ⟨q13, rfl⟩ : ∃ x, x = u_114 := ⟨_, rfl⟩
          obtain ⟨t13, e_t13⟩ : ∃ x : List Int, x = (hdT ln th ++ S) ++ (txL 11) := ⟨_, rfl⟩
          have hs_t13 : sB q13 t13 := by rw [e_t13]; exact hu_114
          have hn_t13 : t13.length ≤ (414) + 6 := by rw [e_t13, List.length_append]; have hqq := hn_S; have hll : (txL 11).length = 6 := rfl; omega
          have hw : qw D A s.heap (bW b cB q13 t13 ++ wW g cI cB cZ cS) H locs := by rw [e_t13]; exact hw
          refine lv_pop hx hb dL_begins_117 rfl ?_
          refine lv_iload hx hb dL_begins_118 (lv_at hl 0 rfl) ?_
          refine q_if_eq (tgt := 145) hx hb dL_begins_120 (by decide) (by omega) (fun c_120 => ?_) (fun c_120 => absurd c_120 (by omega))
          refine lv_aload hx hb dL_begins_145 (lv_at hl 7 rfl) ?_
          refine lv_iload_n hx hb dL_begins_147 rfl (lv_at hl 5 rfl) ?_
          refine q_bipush hx hb dL_begins_148 rfl ?_
          refine q_isub hx hb dL_begins_150 ?_
          refine lv_aload_n hx hb dL_begins_151 rfl (lv_at hl 3 rfl) ?_
          refine lv_iload hx hb dL_begins_152 (lv_at hl 1 rfl) ?_
          refine q_iconst hx hb dL_begins_154 ?_
          refine q_iadd hx hb dL_begins_155 ?_
          refine q_bipush hx hb dL_begins_156 rfl ?_
          refine q_callPSz (As := [.ref bb, .int (iI ((at9) + 2)), .int (iI 20)]) (rest := [.int (iI (ln - 10)), .ref b]) (zl_ok z bb L xs) hx hb hml hown hts hK (c_L_pick ((at9) + 2) 20 hL (by omega) (by omega)) yt_L_pick ml_L_15 (by rw [hR]; decide) P_nil (z_M (zl_ok z bb L xs) hB hw hA [] rfl) rfl rfl hl.1 (lv_room (Nat.le_of_ble_eq_true rfl)) dL_begins_158 (by rw [hR]; exact ⟨by show _ ≤ (460 : Nat); omega, by show _ ≤ (700000 : Nat); omega⟩) ?_
          obtain ⟨r_158, er_158⟩ : ∃ x : Int, x = pkV xs L ((at9) + 2) 20 := ⟨_, rfl⟩
          have pk_158 : 0 ≤ r_158 ∧ r_158 < 20 := by rw [er_158]; exact pkV_rg (by decide)
          refine q_top r_158 er_158.symm ?_
          refine q_iadd hx hb dL_begins_161 ?_
          refine lv_aload_n hx hb dL_begins_162 rfl (lv_at hl 3 rfl) ?_
          refine lv_iload hx hb dL_begins_163 (lv_at hl 1 rfl) ?_
          refine q_iconst hx hb dL_begins_165 ?_
          refine q_iadd hx hb dL_begins_166 ?_
          refine q_bipush hx hb dL_begins_167 rfl ?_
          refine q_callPSz (As := [.ref bb, .int (iI ((at9) + 3)), .int (iI 7)]) (rest := [.int (iI (ln - 10 + r_158)), .ref b]) (zl_ok z bb L xs) hx hb hml hown hts hK (c_L_pick ((at9) + 3) 7 hL (by omega) (by omega)) yt_L_pick ml_L_15 (by rw [hR]; decide) P_nil (z_M (zl_ok z bb L xs) hB hw hA [] rfl) rfl rfl hl.1 (lv_room (Nat.le_of_ble_eq_true rfl)) dL_begins_169 (by rw [hR]; exact ⟨by show _ ≤ (460 : Nat); omega, by show _ ≤ (700000 : Nat); omega⟩) ?_
          obtain ⟨r_169, er_169⟩ : ∃ x : Int, x = pkV xs L ((at9) + 3) 7 := ⟨_, rfl⟩
          have pk_169 : 0 ≤ r_169 ∧ r_169 < 7 := by rw [er_169]; exact pkV_rg (by decide)
          refine q_top r_169 er_169.symm ?_
          have j181 : ∀ (w : Int) (H : Heap) (locs : List Loc) (ls : Array Slot), 0 ≤ w → w ≤ 40 → qw D A s.heap (bW b cB q13 t13 ++ wW g cI cB cZ cS) H locs → lv_has ls 10 [(7, .int (iI at9)), (8, .int (iI 0)), (0, .ref (g.1 0 0)), (1, .ref bb), (2, .int (iI mn)), (3, .int (iI ln)), (4, .int (iI th)), (5, .ref b), (6, .int (iI (kn : Int)))] → W p l e R s m args below meth c H locs (8 + 30 * kn + 5) (9000 + 45000 * kn + 7010) Q (F0 m 181 ls [.int (iI w), .int (iI (ln - 10 + r_158)), .ref b]) := by
            intro w H locs ls hw0 hw1 hw hl
            refine q_iadd hx hb dL_begins_181 ?_
            obtain ⟨av, e_av⟩ : ∃ x : Int, x = ln - 10 + r_158 + w := ⟨_, rfl⟩
            have h_av : 50 ≤ av ∧ av ≤ 500 := by omega
            refine q_top (av) (by exact e_av.symm) ?_
            refine q_callH (As := [.int (iI (av))]) (rest := []) (T := TJ4) (N := 4) (zl_ok z bb L xs) hx hb hml hown hts hK (qH_z (kb_appI (b := b) (cB := cB) (cI := cI) (cZ := cZ) (cS := cS) (cJ := cJ) (x := (av)) (by omega) hs_t13 (by have hqq := hn_t13; omega)) zl_b) yi_J4_append_bf812 ml_L_26 (by rw [hR]; decide) hw hA hB 0 bW_0 rfl rfl rfl hl.1 (lv_room (Nat.le_of_ble_eq_true rfl)) dL_begins_182 (by rw [hR]; exact ⟨by show _ ≤ (460 : Nat); omega, by show _ ≤ (700000 : Nat); omega⟩) (fun u_182 H locs hu_182 hw => ?_)
            obtain ⟨q14, rfl⟩ : ∃ x, x = u_182 := ⟨_, rfl⟩
            obtain ⟨t14, e_t14⟩ : ∃ x : List Int, x = t13 ++ dgS (av) := ⟨_, rfl⟩
            have hs_t14 : sB q14 t14 := by rw [e_t14]; exact hu_182
            have hn_t14 : t14.length ≤ ((414) + 6) + 3 := by rw [e_t14, List.length_append]; have hqq := hn_t13; have hll := (dgS_b (x := (av)) (by omega)).2.1; omega
            have hw : qw D A s.heap (bW b cB q14 t14 ++ wW g cI cB cZ cS) H locs := by rw [e_t14]; exact hw
            refine va_ldcS hx hb hown (hZ.2.2.2.1 _ lt_L_30) dL_begins_185 ?_
            refine q_callH (As := [.ref (z 18)]) (rest := []) (T := TJ4) (N := 4) (zl_ok z bb L xs) hx hb hml hown hts hK (qH_z (kb_appS (b := b) (cB := cB) (cI := cI) (cZ := cZ) (cS := cS) (cJ := cJ) (i := 8) (by decide) hs_t14 (show t14.length + 1 ≤ 700 by have hqq := hn_t14; omega)) zl_b) yi_J4_append_15ec4 ml_L_32 (by rw [hR]; decide) hw hA hB 0 bW_0 rfl rfl rfl hl.1 (lv_room (Nat.le_of_ble_eq_true rfl)) dL_begins_187 (by rw [hR]; exact ⟨by show _ ≤ (460 : Nat); omega, by show _ ≤ (700000 : Nat); omega⟩) (fun u_187 H locs hu_187 hw => ?_)
            obtain ⟨q15, rfl⟩ : ∃ x, x = u_187 := ⟨_, rfl⟩
            obtain ⟨t15, e_t15⟩ : ∃ x : List Int, x = t14 ++ (txL 8) := ⟨_, rfl⟩
            have hs_t15 : sB q15 t15 := by rw [e_t15]; exact hu_187
            have hn_t15 : t15.length ≤ (((414) + 6) + 3) + 1 := by rw [e_t15, List.length_append]; have hqq := hn_t14; have hll : (txL 8).length = 1 := rfl; omega
            have hw : qw D A s.heap (bW b cB q15 t15 ++ wW g cI cB cZ cS) H locs := by rw [e_t15]; exact hw
            refine lv_iload hx hb dL_begins_190 (lv_at hl 6 rfl) ?_
            refine q_iconst hx hb dL_begins_192 ?_
            refine q_isub hx hb dL_begins_193 ?_
            refine lv_aload_n hx hb dL_begins_194 rfl (lv_at hl 3 rfl) ?_
            refine lv_iload hx hb dL_begins_195 (lv_at hl 0 rfl) ?_
            refine q_iconst hx hb dL_begins_197 ?_
            refine q_iadd hx hb dL_begins_198 ?_
            refine q_bipush hx hb dL_begins_199 rfl ?_
            refine q_callPSz (As := [.ref bb, .int (iI (at9 + 4)), .int (iI 10)]) (rest := [.int (iI (th - 5)), .ref b]) (zl_ok z bb L xs) hx hb hml hown hts hK (c_L_pick (at9 + 4) 10 hL (by omega) (by omega)) yt_L_pick ml_L_15 (by rw [hR]; decide) P_nil (z_M (zl_ok z bb L xs) hB hw hA [] rfl) rfl rfl hl.1 (lv_room (Nat.le_of_ble_eq_true rfl)) dL_begins_201 (by rw [hR]; exact ⟨by show _ ≤ (460 : Nat); omega, by show _ ≤ (700000 : Nat); omega⟩) ?_
            obtain ⟨r_201, er_201⟩ : ∃ x : Int, x = pkV xs L (at9 + 4) 10 := ⟨_, rfl⟩
            have pk_201 : 0 ≤ r_201 ∧ r_201 < 10 := by rw [er_201]; exact pkV_rg (by decide)
            refine q_top r_201 er_201.symm ?_
            refine q_iadd hx hb dL_begins_204 ?_
            obtain ⟨bv, e_bv⟩ : ∃ x : Int, x = th - 5 + r_201 := ⟨_, rfl⟩
            have h_bv : 30 ≤ bv ∧ bv ≤ 500 := by omega
            refine q_top (bv) (by exact e_bv.symm) ?_
            refine q_callH (As := [.int (iI (bv))]) (rest := []) (T := TJ4) (N := 4) (zl_ok z bb L xs) hx hb hml hown hts hK (qH_z (kb_appI (b := b) (cB := cB) (cI := cI) (cZ := cZ) (cS := cS) (cJ := cJ) (x := (bv)) (by omega) hs_t15 (by have hqq := hn_t15; omega)) zl_b) yi_J4_append_bf812 ml_L_26 (by rw [hR]; decide) hw hA hB 0 bW_0 rfl rfl rfl hl.1 (lv_room (Nat.le_of_ble_eq_true rfl)) dL_begins_205 (by rw [hR]; exact ⟨by show _ ≤ (460 : Nat); omega, by show _ ≤ (700000 : Nat); omega⟩) (fun u_205 H locs hu_205 hw => ?_)
            obtain ⟨q16, rfl⟩ : ∃ x, x = u_205 := ⟨_, rfl⟩
            obtain ⟨t16, e_t16⟩ : ∃ x : List Int, x = t15 ++ dgS (bv) := ⟨_, rfl⟩
            have hs_t16 : sB q16 t16 := by rw [e_t16]; exact hu_205
            have hn_t16 : t16.length ≤ ((((414) + 6) + 3) + 1) + 3 := by rw [e_t16, List.length_append]; have hqq := hn_t15; have hll := (dgS_b (x := (bv)) (by omega)).2.1; omega
            have hw : qw D A s.heap (bW b cB q16 t16 ++ wW g cI cB cZ cS) H locs := by rw [e_t16]; exact hw
            refine lv_aload_n hx hb dL_begins_208 rfl (lv_at hl 3 rfl) ?_
            refine lv_iload hx hb dL_begins_209 (lv_at hl 0 rfl) ?_
            refine q_iconst hx hb dL_begins_211 ?_
            refine q_iadd hx hb dL_begins_212 ?_
            refine q_iconst hx hb dL_begins_213 ?_
            refine q_callPSz (As := [.ref bb, .int (iI (at9 + 5)), .int (iI 2)]) (rest := [.ref b]) (zl_ok z bb L xs) hx hb hml hown hts hK (c_L_pick (at9 + 5) 2 hL (by omega) (by omega)) yt_L_pick ml_L_15 (by rw [hR]; decide) P_nil (z_M (zl_ok z bb L xs) hB hw hA [] rfl) rfl rfl hl.1 (lv_room (Nat.le_of_ble_eq_true rfl)) dL_begins_214 (by rw [hR]; exact ⟨by show _ ≤ (460 : Nat); omega, by show _ ≤ (700000 : Nat); omega⟩) ?_
            obtain ⟨r_214, er_214⟩ : ∃ x : Int, x = pkV xs L (at9 + 5) 2 := ⟨_, rfl⟩
            have pk_214 : 0 ≤ r_214 ∧ r_214 < 2 := by rw [er_214]; exact pkV_rg (by decide)
            refine q_top r_214 er_214.symm ?_
            have j227 : ∀ (i : Nat) (H : Heap) (locs : List Loc) (ls : Array Slot), i < 16 → (txL i).length ≤ 2 → (txL i = [32] ∨ txL i = [32, 45]) → qw D A s.heap (bW b cB q16 t16 ++ wW g cI cB cZ cS) H locs → lv_has ls 10 [(7, .int (iI at9)), (8, .int (iI 0)), (0, .ref (g.1 0 0)), (1, .ref bb), (2, .int (iI mn)), (3, .int (iI ln)), (4, .int (iI th)), (5, .ref b), (6, .int (iI (kn : Int)))] → W p l e R s m args below meth c H locs (8 + 30 * kn + 10) (9000 + 45000 * kn + 14020) Q (F0 m 227 ls [.ref (z (10 + i)), .ref b]) := by
              intro i H locs ls hi_6 hi_l hi_m hw hl
              refine q_callH (As := [.ref (z (10 + i))]) (rest := []) (T := TJ4) (N := 4) (zl_ok z bb L xs) hx hb hml hown hts hK (qH_z (kb_appS (b := b) (cB := cB) (cI := cI) (cZ := cZ) (cS := cS) (cJ := cJ) (i := i) hi_6 hs_t16 (by have hqq := hn_t16; have hll := hi_l; omega)) zl_b) yi_J4_append_15ec4 ml_L_32 (by rw [hR]; decide) hw hA hB 0 bW_0 rfl rfl rfl hl.1 (lv_room (Nat.le_of_ble_eq_true rfl)) dL_begins_227 (by rw [hR]; exact ⟨by show _ ≤ (460 : Nat); omega, by show _ ≤ (700000 : Nat); omega⟩) (fun u_227 H locs hu_227 hw => ?_)
              obtain ⟨q17, rfl⟩ : ∃ x, x = u_227 := ⟨_, rfl⟩
              obtain ⟨t17, e_t17⟩ : ∃ x : List Int, x = t16 ++ (txL i) := ⟨_, rfl⟩
              have hs_t17 : sB q17 t17 := by rw [e_t17]; exact hu_227
              have hn_t17 : t17.length ≤ (((((414) + 6) + 3) + 1) + 3) + 2 := by rw [e_t17, List.length_append]; have hqq := hn_t16; have hll := hi_l; omega
              have hw : qw D A s.heap (bW b cB q17 t17 ++ wW g cI cB cZ cS) H locs := by rw [e_t17]; exact hw
              refine lv_aload_n hx hb dL_begins_230 rfl (lv_at hl 3 rfl) ?_
              refine lv_iload hx hb dL_begins_231 (lv_at hl 0 rfl) ?_
              refine q_iconst hx hb dL_begins_233 ?_
              refine q_iadd hx hb dL_begins_234 ?_
              refine q_bipush hx hb dL_begins_235 rfl ?_
              refine q_callPSz (As := [.ref bb, .int (iI (at9 + 5)), .int (iI 40)]) (rest := [.ref b]) (zl_ok z bb L xs) hx hb hml hown hts hK (c_L_pick (at9 + 5) 40 hL (by omega) (by omega)) yt_L_pick ml_L_15 (by rw [hR]; decide) P_nil (z_M (zl_ok z bb L xs) hB hw hA [] rfl) rfl rfl hl.1 (lv_room (Nat.le_of_ble_eq_true rfl)) dL_begins_237 (by rw [hR]; exact ⟨by show _ ≤ (460 : Nat); omega, by show _ ≤ (700000 : Nat); omega⟩) ?_
              obtain ⟨r_237, er_237⟩ : ∃ x : Int, x = pkV xs L (at9 + 5) 40 := ⟨_, rfl⟩
              have pk_237 : 0 ≤ r_237 ∧ r_237 < 40 := by rw [er_237]; exact pkV_rg (by decide)
              refine q_top r_237 er_237.symm ?_
              refine q_callH (As := [.int (iI r_237)]) (rest := []) (T := TJ4) (N := 4) (zl_ok z bb L xs) hx hb hml hown hts hK (qH_z (kb_appI (b := b) (cB := cB) (cI := cI) (cZ := cZ) (cS := cS) (cJ := cJ) (x := r_237) (by omega) hs_t17 (by have hqq := hn_t17; omega)) zl_b) yi_J4_append_bf812 ml_L_26 (by rw [hR]; decide) hw hA hB 0 bW_0 rfl rfl rfl hl.1 (lv_room (Nat.le_of_ble_eq_true rfl)) dL_begins_240 (by rw [hR]; exact ⟨by show _ ≤ (460 : Nat); omega, by show _ ≤ (700000 : Nat); omega⟩) (fun u_240 H locs hu_240 hw => ?_)
              obtain ⟨q18, rfl⟩ : ∃ x, x = u_240 := ⟨_, rfl⟩
              obtain ⟨t18, e_t18⟩ : ∃ x : List Int, x = t17 ++ dgS r_237 := ⟨_, rfl⟩
              have hs_t18 : sB q18 t18 := by rw [e_t18]; exact hu_240
              have hn_t18 : t18.length ≤ ((((((414) + 6) + 3) + 1) + 3) + 2) + 3 := by rw [e_t18, List.length_append]; have hqq := hn_t17; have hll := (dgS_b (x := r_237) (by omega)).2.1; omega
              have hw : qw D A s.heap (bW b cB q18 t18 ++ wW g cI cB cZ cS) H locs := by rw [e_t18]; exact hw
              refine lv_pop hx hb dL_begins_243 rfl ?_
              refine lv_iload hx hb dL_begins_244 (lv_at hl 1 rfl) ?_
              refine q_if_ne (tgt := 290) hx hb dL_begins_246 (by decide) (by omega) (fun c_246 => absurd c_246 (by omega)) (fun c_246 => ?_)
              refine lv_aload hx hb dL_begins_249 (lv_at hl 7 rfl) ?_
              refine va_ldcS hx hb hown (hZ.2.2.2.1 _ lt_L_30) dL_begins_251 ?_
              refine q_callH (As := [.ref (z 18)]) (rest := []) (T := TJ4) (N := 4) (zl_ok z bb L xs) hx hb hml hown hts hK (qH_z (kb_appS (b := b) (cB := cB) (cI := cI) (cZ := cZ) (cS := cS) (cJ := cJ) (i := 8) (by decide) hs_t18 (show t18.length + 1 ≤ 700 by have hqq := hn_t18; omega)) zl_b) yi_J4_append_15ec4 ml_L_32 (by rw [hR]; decide) hw hA hB 0 bW_0 rfl rfl rfl hl.1 (lv_room (Nat.le_of_ble_eq_true rfl)) dL_begins_253 (by rw [hR]; exact ⟨by show _ ≤ (460 : Nat); omega, by show _ ≤ (700000 : Nat); omega⟩) (fun u_253 H locs hu_253 hw => ?_)
              obtain ⟨q19, rfl⟩ : ∃ x, x = u_253 := ⟨_, rfl⟩
              obtain ⟨t19, e_t19⟩ : ∃ x : List Int, x = t18 ++ (txL 8) := ⟨_, rfl⟩
              have hs_t19 : sB q19 t19 := by rw [e_t19]; exact hu_253
              have hn_t19 : t19.length ≤ (((((((414) + 6) + 3) + 1) + 3) + 2) + 3) + 1 := by rw [e_t19, List.length_append]; have hqq := hn_t18; have hll : (txL 8).length = 1 := rfl; omega
              have hw : qw D A s.heap (bW b cB q19 t19 ++ wW g cI cB cZ cS) H locs := by rw [e_t19]; exact hw
              refine lv_aload_n hx hb dL_begins_256 rfl (lv_at hl 3 rfl) ?_
              refine lv_iload hx hb dL_begins_257 (lv_at hl 0 rfl) ?_
              refine q_bipush hx hb dL_begins_259 rfl ?_
              refine q_iadd hx hb dL_begins_261 ?_
              refine q_bipush hx hb dL_begins_262 rfl ?_
              refine q_callPSz (As := [.ref bb, .int (iI (at9 + 6)), .int (iI 12)]) (rest := [.ref b]) (zl_ok z bb L xs) hx hb hml hown hts hK (c_L_pick (at9 + 6) 12 hL (by omega) (by omega)) yt_L_pick ml_L_15 (by rw [hR]; decide) P_nil (z_M (zl_ok z bb L xs) hB hw hA [] rfl) rfl rfl hl.1 (lv_room (Nat.le_of_ble_eq_true rfl)) dL_begins_264 (by rw [hR]; exact ⟨by show _ ≤ (460 : Nat); omega, by show _ ≤ (700000 : Nat); omega⟩) ?_
              obtain ⟨r_264, er_264⟩ : ∃ x : Int, x = pkV xs L (at9 + 6) 12 := ⟨_, rfl⟩
              have pk_264 : 0 ≤ r_264 ∧ r_264 < 12 := by rw [er_264]; exact pkV_rg (by decide)
              refine q_top r_264 er_264.symm ?_
              refine q_callH (As := [.int (iI r_264)]) (rest := []) (T := TJ4) (N := 4) (zl_ok z bb L xs) hx hb hml hown hts hK (qH_z (kb_appI (b := b) (cB := cB) (cI := cI) (cZ := cZ) (cS := cS) (cJ := cJ) (x := r_264) (by omega) hs_t19 (by have hqq := hn_t19; omega)) zl_b) yi_J4_append_bf812 ml_L_26 (by rw [hR]; decide) hw hA hB 0 bW_0 rfl rfl rfl hl.1 (lv_room (Nat.le_of_ble_eq_true rfl)) dL_begins_267 (by rw [hR]; exact ⟨by show _ ≤ (460 : Nat); omega, by show _ ≤ (700000 : Nat); omega⟩) (fun u_267 H locs hu_267 hw => ?_)
              obtain ⟨q20, rfl⟩ : ∃ x, x = u_267 := ⟨_, rfl⟩
              obtain ⟨t20, e_t20⟩ : ∃ x : List Int, x = t19 ++ dgS r_264 := ⟨_, rfl⟩
              have hs_t20 : sB q20 t20 := by rw [e_t20]; exact hu_267
              have hn_t20 : t20.length ≤ ((((((((414) + 6) + 3) + 1) + 3) + 2) + 3) + 1) + 3 := by rw [e_t20, List.length_append]; have hqq := hn_t19; have hll := (dgS_b (x := r_264) (by omega)).2.1; omega
              have hw : qw D A s.heap (bW b cB q20 t20 ++ wW g cI cB cZ cS) H locs := by rw [e_t20]; exact hw
              refine va_ldcS hx hb hown (hZ.2.2.2.1 _ lt_L_30) dL_begins_270 ?_
              refine q_callH (As := [.ref (z 18)]) (rest := []) (T := TJ4) (N := 4) (zl_ok z bb L xs) hx hb hml hown hts hK (qH_z (kb_appS (b := b) (cB := cB) (cI := cI) (cZ := cZ) (cS := cS) (cJ := cJ) (i := 8) (by decide) hs_t20 (show t20.length + 1 ≤ 700 by have hqq := hn_t20; omega)) zl_b) yi_J4_append_15ec4 ml_L_32 (by rw [hR]; decide) hw hA hB 0 bW_0 rfl rfl rfl hl.1 (lv_room (Nat.le_of_ble_eq_true rfl)) dL_begins_272 (by rw [hR]; exact ⟨by show _ ≤ (460 : Nat); omega, by show _ ≤ (700000 : Nat); omega⟩) (fun u_272 H locs hu_272 hw => ?_)
              obtain ⟨q21, rfl⟩ : ∃ x, x = u_272 := ⟨_, rfl⟩
              obtain ⟨t21, e_t21⟩ : ∃ x : List Int, x = t20 ++ (txL 8) := ⟨_, rfl⟩
              have hs_t21 : sB q21 t21 := by rw [e_t21]; exact hu_272
              have hn_t21 : t21.length ≤ (((((((((414) + 6) + 3) + 1) + 3) + 2) + 3) + 1) + 3) + 1 := by rw [e_t21, List.length_append]; have hqq := hn_t20; have hll : (txL 8).length = 1 := rfl; omega
              have hw : qw D A s.heap (bW b cB q21 t21 ++ wW g cI cB cZ cS) H locs := by rw [e_t21]; exact hw
              refine lv_aload_n hx hb dL_begins_275 rfl (lv_at hl 3 rfl) ?_
              refine lv_iload hx hb dL_begins_276 (lv_at hl 0 rfl) ?_
              refine q_bipush hx hb dL_begins_278 rfl ?_
              refine q_iadd hx hb dL_begins_280 ?_
              refine q_bipush hx hb dL_begins_281 rfl ?_
              refine q_callPSz (As := [.ref bb, .int (iI (at9 + 7)), .int (iI 12)]) (rest := [.ref b]) (zl_ok z bb L xs) hx hb hml hown hts hK (c_L_pick (at9 + 7) 12 hL (by omega) (by omega)) yt_L_pick ml_L_15 (by rw [hR]; decide) P_nil (z_M (zl_ok z bb L xs) hB hw hA [] rfl) rfl rfl hl.1 (lv_room (Nat.le_of_ble_eq_true rfl)) dL_begins_283 (by rw [hR]; exact ⟨by show _ ≤ (460 : Nat); omega, by show _ ≤ (700000 : Nat); omega⟩) ?_
              obtain ⟨r_283, er_283⟩ : ∃ x : Int, x = pkV xs L (at9 + 7) 12 := ⟨_, rfl⟩
              have pk_283 : 0 ≤ r_283 ∧ r_283 < 12 := by rw [er_283]; exact pkV_rg (by decide)
              refine q_top r_283 er_283.symm ?_
              refine q_callH (As := [.int (iI r_283)]) (rest := []) (T := TJ4) (N := 4) (zl_ok z bb L xs) hx hb hml hown hts hK (qH_z (kb_appI (b := b) (cB := cB) (cI := cI) (cZ := cZ) (cS := cS) (cJ := cJ) (x := r_283) (by omega) hs_t21 (by have hqq := hn_t21; omega)) zl_b) yi_J4_append_bf812 ml_L_26 (by rw [hR]; decide) hw hA hB 0 bW_0 rfl rfl rfl hl.1 (lv_room (Nat.le_of_ble_eq_true rfl)) dL_begins_286 (by rw [hR]; exact ⟨by show _ ≤ (460 : Nat); omega, by show _ ≤ (700000 : Nat); omega⟩) (fun u_286 H locs hu_286 hw => ?_)
              obtain ⟨q22, rfl⟩ : ∃ x, x = u_286 := ⟨_, rfl⟩
              obtain ⟨t22, e_t22⟩ : ∃ x : List Int, x = t21 ++ dgS r_283 := ⟨_, rfl⟩
              have hs_t22 : sB q22 t22 := by rw [e_t22]; exact hu_286
              have hn_t22 : t22.length ≤ ((((((((((414) + 6) + 3) + 1) + 3) + 2) + 3) + 1) + 3) + 1) + 3 := by rw [e_t22, List.length_append]; have hqq := hn_t21; have hll := (dgS_b (x := r_283) (by omega)).2.1; omega
              have hw : qw D A s.heap (bW b cB q22 t22 ++ wW g cI cB cZ cS) H locs := by rw [e_t22]; exact hw
              refine lv_pop hx hb dL_begins_289 rfl ?_
              have h_c9 : 0 ≤ r_237 ∧ r_237 ≤ 99 := by omega
              have e_S1 : t22 = (hdT ln th ++ S) ++ (txL 1 ++ ([32] ++ (dgS av ++ ([32] ++ (dgS bv ++ (txL i ++ (dgS r_237 ++ ([32] ++ (dgS r_264 ++ ([32] ++ dgS r_283)))))))))) := by rw [e_t22, e_t21, e_t20, e_t19, e_t18, e_t17, e_t16, e_t15, e_t14, e_t13]; simp only [x7, x8, x9, x10, x11, x12, x13, x14, x15, List.append_assoc]
              have hd_0 := (dgS_b (x := av) (by omega)).2.1
              have hd_1 := (dgS_b (x := bv) (by omega)).2.1
              have hd_2 := (dgS_b (x := r_237) (by omega)).2.1
              have hd_3 := (dgS_b (x := r_264) (by omega)).2.1
              have hd_4 := (dgS_b (x := r_283) (by omega)).2.1
              have h1l : (txL 1).length = 5 := rfl
              have h2l : (txL 2).length = 4 := rfl
              have hd_c2 := dgS_2 (x := r_237) (by omega)
              have hd_d2 := dgS_2 (x := r_264) (by omega)
              have hd_e2 := dgS_2 (x := r_283) (by omega)
              have hS1 : (txL 1 ++ ([32] ++ (dgS av ++ ([32] ++ (dgS bv ++ (txL i ++ (dgS r_237 ++ ([32] ++ (dgS r_264 ++ ([32] ++ dgS r_283)))))))))).length ≤ 29 := by simp only [List.length_append, List.length_cons, List.length_nil]; omega
              refine W_wide (k := 8 + 30 * kn + 20) (n := 9000 + 45000 * kn + 28040) (by omega) (by omega) ?_
              exact stkS 0 q22 t22 (txL 1 ++ ([32] ++ (dgS av ++ ([32] ++ (dgS bv ++ (txL i ++ (dgS r_237 ++ ([32] ++ (dgS r_264 ++ ([32] ++ dgS r_283)))))))))) H locs ls (by rw [e_S1, List.length_append]; have := hn_S; omega) e_S1 (fun stk hst => by have q := stm_s (a := av) (b := bv) (c := r_237) (d := r_264) (e := r_283) (m := txL i) (stk := stk) h_av h_bv h_c9 (by omega) (by omega) hi_m hst; unfold shT at q; simp only [List.append_assoc] at q ⊢; exact q) hS1 hs_t22 hw hl
            refine q_if_ne (tgt := 225) hx hb dL_begins_217 (by decide) (by omega) (fun c_217 => ?_) (fun c_217 => ?_)
            · refine va_ldcS hx hb hown (hZ.2.2.2.1 _ lt_L_30) dL_begins_225 ?_
              refine W_wide (k := 8 + 30 * kn + 10) (n := 9000 + 45000 * kn + 14020) (by omega) (by omega) ?_
              exact j227 8 H locs ls (by decide) (by decide) (Or.inl rfl) hw hl
            · refine va_ldcS hx hb hown (hZ.2.2.2.1 _ lt_L_41) dL_begins_220 ?_
              refine lv_goto (tgt := 227) hx hb dL_begins_222 (by decide) ?_
              refine W_wide (k := 8 + 30 * kn + 10) (n := 9000 + 45000 * kn + 14020) (by omega) (by omega) ?_
              exact j227 12 H locs ls (by decide) (by decide) (Or.inr rfl) hw hl
          refine q_if_ne (tgt := 180) hx hb dL_begins_172 (by decide) (by omega) (fun c_172 => ?_) (fun c_172 => ?_)
          · refine q_iconst hx hb dL_begins_180 ?_
            refine W_wide (k := 8 + 30 * kn + 5) (n := 9000 + 45000 * kn + 7010) (by omega) (by omega) ?_
            exact j181 0 H locs ls (by decide) (by decide) hw (lv_sub hl [1, 0, 2, 3, 4, 5, 6, 7, 8] rfl)
          · refine q_bipush hx hb dL_begins_175 rfl ?_
            refine lv_goto (tgt := 181) hx hb dL_begins_177 (by decide) ?_
            refine W_wide (k := 8 + 30 * kn + 5) (n := 9000 + 45000 * kn + 7010) (by omega) (by omega) ?_
            exact j181 40 H locs ls (by decide) (by decide) hw (lv_sub hl [1, 0, 2, 3, 4, 5, 6, 7, 8] rfl)
        · refine q_iconst hx hb dL_begins_93 ?_
          refine lv_goto (tgt := 98) hx hb dL_begins_94 (by decide) ?_
          refine lv_istore (lv' := [(8, .int (iI 1)), (7, .int (iI (at9))), (0, .ref (g.1 0 0)), (1, .ref bb), (2, .int (iI mn)), (3, .int (iI ln)), (4, .int (iI th)), (5, .ref b), (6, .int (iI ((kn : Int))))]) hx hb dL_begins_98 hl (by decide) rfl (fun ls hl => ?_)
          refine lv_aload hx hb dL_begins_100 (lv_at hl 7 rfl) ?_
          refine lv_iload hx hb dL_begins_102 (lv_at hl 0 rfl) ?_
          refine q_if_eq (tgt := 112) hx hb dL_begins_104 (by decide) (by omega) (fun c_104 => absurd c_104 (by omega)) (fun c_104 => ?_)
          refine va_ldcS hx hb hown (hZ.2.2.2.1 _ lt_L_37) dL_begins_107 ?_
          refine lv_goto (tgt := 114) hx hb dL_begins_109 (by decide) ?_
          refine q_callH (As := [.ref (z 20)]) (rest := []) (T := TJ4) (N := 4) (zl_ok z bb L xs) hx hb hml hown hts hK (qH_z (kb_appS (b := b) (cB := cB) (cI := cI) (cZ := cZ) (cS := cS) (cJ := cJ) (i := 10) (by decide) hs_S (show (hdT ln th ++ S).length + 5 ≤ 700 by have hqq := hn_S; omega)) zl_b) yi_J4_append_15ec4 ml_L_32 (by rw [hR]; decide) hw hA hB 0 bW_0 rfl rfl rfl hl.1 (lv_room (Nat.le_of_ble_eq_true rfl)) dL_begins_114 (by rw [hR]; exact ⟨by show _ ≤ (460 : Nat); omega, by show _ ≤ (700000 : Nat); omega⟩) (fun u_114 H locs hu_114 hw => ?_)
          obtain ⟨q23, rfl⟩ : ∃ x, x = u_114 := ⟨_, rfl⟩
          obtain ⟨t23, e_t23⟩ : ∃ x : List Int, x = (hdT ln th ++ S) ++ (txL 10) := ⟨_, rfl⟩
          have hs_t23 : sB q23 t23 := by rw [e_t23]; exact hu_114
          have hn_t23 : t23.length ≤ (414) + 5 := by rw [e_t23, List.length_append]; have hqq := hn_S; have hll : (txL 10).length = 5 := rfl; omega
          have hw : qw D A s.heap (bW b cB q23 t23 ++ wW g cI cB cZ cS) H locs := by rw [e_t23]; exact hw
          refine lv_pop hx hb dL_begins_117 rfl ?_
          refine lv_iload hx hb dL_begins_118 (lv_at hl 0 rfl) ?_
          refine q_if_eq (tgt := 145) hx hb dL_begins_120 (by decide) (by omega) (fun c_120 => absurd c_120 (by omega)) (fun c_120 => ?_)
          refine lv_aload hx hb dL_begins_123 (lv_at hl 7 rfl) ?_
          refine lv_aload_n hx hb dL_begins_125 rfl (lv_at hl 3 rfl) ?_
          refine lv_iload hx hb dL_begins_126 (lv_at hl 1 rfl) ?_
          refine q_iconst hx hb dL_begins_128 ?_
          refine q_iadd hx hb dL_begins_129 ?_
          refine q_sipush hx hb dL_begins_130 rfl ?_
          refine q_callPSz (As := [.ref bb, .int (iI ((at9) + 1)), .int (iI 1000)]) (rest := [.ref b]) (zl_ok z bb L xs) hx hb hml hown hts hK (c_L_pick ((at9) + 1) 1000 hL (by omega) (by omega)) yt_L_pick ml_L_15 (by rw [hR]; decide) P_nil (z_M (zl_ok z bb L xs) hB hw hA [] rfl) rfl rfl hl.1 (lv_room (Nat.le_of_ble_eq_true rfl)) dL_begins_133 (by rw [hR]; exact ⟨by show _ ≤ (460 : Nat); omega, by show _ ≤ (700000 : Nat); omega⟩) ?_
          obtain ⟨r_133, er_133⟩ : ∃ x : Int, x = pkV xs L ((at9) + 1) 1000 := ⟨_, rfl⟩
          have pk_133 : 0 ≤ r_133 ∧ r_133 < 1000 := by rw [er_133]; exact pkV_rg (by decide)
          refine q_top r_133 er_133.symm ?_
          refine q_callH (As := [.int (iI r_133)]) (rest := []) (T := TJ4) (N := 4) (zl_ok z bb L xs) hx hb hml hown hts hK (qH_z (kb_appI (b := b) (cB := cB) (cI := cI) (cZ := cZ) (cS := cS) (cJ := cJ) (x := r_133) (by omega) hs_t23 (by have hqq := hn_t23; omega)) zl_b) yi_J4_append_bf812 ml_L_26 (by rw [hR]; decide) hw hA hB 0 bW_0 rfl rfl rfl hl.1 (lv_room (Nat.le_of_ble_eq_true rfl)) dL_begins_136 (by rw [hR]; exact ⟨by show _ ≤ (460 : Nat); omega, by show _ ≤ (700000 : Nat); omega⟩) (fun u_136 H locs hu_136 hw => ?_)
          obtain ⟨q24, rfl⟩ : ∃ x, x = u_136 := ⟨_, rfl⟩
          obtain ⟨t24, e_t24⟩ : ∃ x : List Int, x = t23 ++ dgS r_133 := ⟨_, rfl⟩
          have hs_t24 : sB q24 t24 := by rw [e_t24]; exact hu_136
          have hn_t24 : t24.length ≤ ((414) + 5) + 3 := by rw [e_t24, List.length_append]; have hqq := hn_t23; have hll := (dgS_b (x := r_133) (by omega)).2.1; omega
          have hw : qw D A s.heap (bW b cB q24 t24 ++ wW g cI cB cZ cS) H locs := by rw [e_t24]; exact hw
          refine va_ldcS hx hb hown (hZ.2.2.2.1 _ lt_L_30) dL_begins_139 ?_
          refine q_callH (As := [.ref (z 18)]) (rest := []) (T := TJ4) (N := 4) (zl_ok z bb L xs) hx hb hml hown hts hK (qH_z (kb_appS (b := b) (cB := cB) (cI := cI) (cZ := cZ) (cS := cS) (cJ := cJ) (i := 8) (by decide) hs_t24 (show t24.length + 1 ≤ 700 by have hqq := hn_t24; omega)) zl_b) yi_J4_append_15ec4 ml_L_32 (by rw [hR]; decide) hw hA hB 0 bW_0 rfl rfl rfl hl.1 (lv_room (Nat.le_of_ble_eq_true rfl)) dL_begins_141 (by rw [hR]; exact ⟨by show _ ≤ (460 : Nat); omega, by show _ ≤ (700000 : Nat); omega⟩) (fun u_141 H locs hu_141 hw => ?_)
          obtain ⟨q25, rfl⟩ : ∃ x, x = u_141 := ⟨_, rfl⟩
          obtain ⟨t25, e_t25⟩ : ∃ x : List Int, x = t24 ++ (txL 8) := ⟨_, rfl⟩
          have hs_t25 : sB q25 t25 := by rw [e_t25]; exact hu_141
          have hn_t25 : t25.length ≤ (((414) + 5) + 3) + 1 := by rw [e_t25, List.length_append]; have hqq := hn_t24; have hll : (txL 8).length = 1 := rfl; omega
          have hw : qw D A s.heap (bW b cB q25 t25 ++ wW g cI cB cZ cS) H locs := by rw [e_t25]; exact hw
          refine lv_pop hx hb dL_begins_144 rfl ?_
          refine lv_aload hx hb dL_begins_145 (lv_at hl 7 rfl) ?_
          refine lv_iload_n hx hb dL_begins_147 rfl (lv_at hl 5 rfl) ?_
          refine q_bipush hx hb dL_begins_148 rfl ?_
          refine q_isub hx hb dL_begins_150 ?_
          refine lv_aload_n hx hb dL_begins_151 rfl (lv_at hl 3 rfl) ?_
          refine lv_iload hx hb dL_begins_152 (lv_at hl 1 rfl) ?_
          refine q_iconst hx hb dL_begins_154 ?_
          refine q_iadd hx hb dL_begins_155 ?_
          refine q_bipush hx hb dL_begins_156 rfl ?_
          refine q_callPSz (As := [.ref bb, .int (iI ((at9) + 2)), .int (iI 20)]) (rest := [.int (iI (ln - 10)), .ref b]) (zl_ok z bb L xs) hx hb hml hown hts hK (c_L_pick ((at9) + 2) 20 hL (by omega) (by omega)) yt_L_pick ml_L_15 (by rw [hR]; decide) P_nil (z_M (zl_ok z bb L xs) hB hw hA [] rfl) rfl rfl hl.1 (lv_room (Nat.le_of_ble_eq_true rfl)) dL_begins_158 (by rw [hR]; exact ⟨by show _ ≤ (460 : Nat); omega, by show _ ≤ (700000 : Nat); omega⟩) ?_
          obtain ⟨r_158, er_158⟩ : ∃ x : Int, x = pkV xs L ((at9) + 2) 20 := ⟨_, rfl⟩
          have pk_158 : 0 ≤ r_158 ∧ r_158 < 20 := by rw [er_158]; exact pkV_rg (by decide)
          refine q_top r_158 er_158.symm ?_
          refine q_iadd hx hb dL_begins_161 ?_
          refine lv_aload_n hx hb dL_begins_162 rfl (lv_at hl 3 rfl) ?_
          refine lv_iload hx hb dL_begins_163 (lv_at hl 1 rfl) ?_
          refine q_iconst hx hb dL_begins_165 ?_
          refine q_iadd hx hb dL_begins_166 ?_
          refine q_bipush hx hb dL_begins_167 rfl ?_
          refine q_callPSz (As := [.ref bb, .int (iI ((at9) + 3)), .int (iI 7)]) (rest := [.int (iI (ln - 10 + r_158)), .ref b]) (zl_ok z bb L xs) hx hb hml hown hts hK (c_L_pick ((at9) + 3) 7 hL (by omega) (by omega)) yt_L_pick ml_L_15 (by rw [hR]; decide) P_nil (z_M (zl_ok z bb L xs) hB hw hA [] rfl) rfl rfl hl.1 (lv_room (Nat.le_of_ble_eq_true rfl)) dL_begins_169 (by rw [hR]; exact ⟨by show _ ≤ (460 : Nat); omega, by show _ ≤ (700000 : Nat); omega⟩) ?_
          obtain ⟨r_169, er_169⟩ : ∃ x : Int, x = pkV xs L ((at9) + 3) 7 := ⟨_, rfl⟩
          have pk_169 : 0 ≤ r_169 ∧ r_169 < 7 := by rw [er_169]; exact pkV_rg (by decide)
          refine q_top r_169 er_169.symm ?_
          have j181 : ∀ (w : Int) (H : Heap) (locs : List Loc) (ls : Array Slot), 0 ≤ w → w ≤ 40 → qw D A s.heap (bW b cB q25 t25 ++ wW g cI cB cZ cS) H locs → lv_has ls 10 [(7, .int (iI at9)), (8, .int (iI 1)), (0, .ref (g.1 0 0)), (1, .ref bb), (2, .int (iI mn)), (3, .int (iI ln)), (4, .int (iI th)), (5, .ref b), (6, .int (iI (kn : Int)))] → W p l e R s m args below meth c H locs (8 + 30 * kn + 5) (9000 + 45000 * kn + 7010) Q (F0 m 181 ls [.int (iI w), .int (iI (ln - 10 + r_158)), .ref b]) := by
            intro w H locs ls hw0 hw1 hw hl
            refine q_iadd hx hb dL_begins_181 ?_
            obtain ⟨av, e_av⟩ : ∃ x : Int, x = ln - 10 + r_158 + w := ⟨_, rfl⟩
            have h_av : 50 ≤ av ∧ av ≤ 500 := by omega
            refine q_top (av) (by exact e_av.symm) ?_
            refine q_callH (As := [.int (iI (av))]) (rest := []) (T := TJ4) (N := 4) (zl_ok z bb L xs) hx hb hml hown hts hK (qH_z (kb_appI (b := b) (cB := cB) (cI := cI) (cZ := cZ) (cS := cS) (cJ := cJ) (x := (av)) (by omega) hs_t25 (by have hqq := hn_t25; omega)) zl_b) yi_J4_append_bf812 ml_L_26 (by rw [hR]; decide) hw hA hB 0 bW_0 rfl rfl rfl hl.1 (lv_room (Nat.le_of_ble_eq_true rfl)) dL_begins_182 (by rw [hR]; exact ⟨by show _ ≤ (460 : Nat); omega, by show _ ≤ (700000 : Nat); omega⟩) (fun u_182 H locs hu_182 hw => ?_)
            obtain ⟨q26, rfl⟩ : ∃ x, x = u_182 := ⟨_, rfl⟩
            obtain ⟨t26, e_t26⟩ : ∃ x : List Int, x = t25 ++ dgS (av) := ⟨_, rfl⟩
            have hs_t26 : sB q26 t26 := by rw [e_t26]; exact hu_182
            have hn_t26 : t26.length ≤ ((((414) + 5) + 3) + 1) + 3 := by rw [e_t26, List.length_append]; have hqq := hn_t25; have hll := (dgS_b (x := (av)) (by omega)).2.1; omega
            have hw : qw D A s.heap (bW b cB q26 t26 ++ wW g cI cB cZ cS) H locs := by rw [e_t26]; exact hw
            refine va_ldcS hx hb hown (hZ.2.2.2.1 _ lt_L_30) dL_begins_185 ?_
            refine q_callH (As := [.ref (z 18)]) (rest := []) (T := TJ4) (N := 4) (zl_ok z bb L xs) hx hb hml hown hts hK (qH_z (kb_appS (b := b) (cB := cB) (cI := cI) (cZ := cZ) (cS := cS) (cJ := cJ) (i := 8) (by decide) hs_t26 (show t26.length + 1 ≤ 700 by have hqq := hn_t26; omega)) zl_b) yi_J4_append_15ec4 ml_L_32 (by rw [hR]; decide) hw hA hB 0 bW_0 rfl rfl rfl hl.1 (lv_room (Nat.le_of_ble_eq_true rfl)) dL_begins_187 (by rw [hR]; exact ⟨by show _ ≤ (460 : Nat); omega, by show _ ≤ (700000 : Nat); omega⟩) (fun u_187 H locs hu_187 hw => ?_)
            obtain ⟨q27, rfl⟩ : ∃ x, x = u_187 := ⟨_, rfl⟩
            obtain ⟨t27, e_t27⟩ : ∃ x : List Int, x = t26 ++ (txL 8) := ⟨_, rfl⟩
            have hs_t27 : sB q27 t27 := by rw [e_t27]; exact hu_187
            have hn_t27 : t27.length ≤ (((((414) + 5) + 3) + 1) + 3) + 1 := by rw [e_t27, List.length_append]; have hqq := hn_t26; have hll : (txL 8).length = 1 := rfl; omega
            have hw : qw D A s.heap (bW b cB q27 t27 ++ wW g cI cB cZ cS) H locs := by rw [e_t27]; exact hw
            refine lv_iload hx hb dL_begins_190 (lv_at hl 6 rfl) ?_
            refine q_iconst hx hb dL_begins_192 ?_
            refine q_isub hx hb dL_begins_193 ?_
            refine lv_aload_n hx hb dL_begins_194 rfl (lv_at hl 3 rfl) ?_
            refine lv_iload hx hb dL_begins_195 (lv_at hl 0 rfl) ?_
            refine q_iconst hx hb dL_begins_197 ?_
            refine q_iadd hx hb dL_begins_198 ?_
            refine q_bipush hx hb dL_begins_199 rfl ?_
            refine q_callPSz (As := [.ref bb, .int (iI (at9 + 4)), .int (iI 10)]) (rest := [.int (iI (th - 5)), .ref b]) (zl_ok z bb L xs) hx hb hml hown hts hK (c_L_pick (at9 + 4) 10 hL (by omega) (by omega)) yt_L_pick ml_L_15 (by rw [hR]; decide) P_nil (z_M (zl_ok z bb L xs) hB hw hA [] rfl) rfl rfl hl.1 (lv_room (Nat.le_of_ble_eq_true rfl)) dL_begins_201 (by rw [hR]; exact ⟨by show _ ≤ (460 : Nat); omega, by show _ ≤ (700000 : Nat); omega⟩) ?_
            obtain ⟨r_201, er_201⟩ : ∃ x : Int, x = pkV xs L (at9 + 4) 10 := ⟨_, rfl⟩
            have pk_201 : 0 ≤ r_201 ∧ r_201 < 10 := by rw [er_201]; exact pkV_rg (by decide)
            refine q_top r_201 er_201.symm ?_
            refine q_iadd hx hb dL_begins_204 ?_
            obtain ⟨bv, e_bv⟩ : ∃ x : Int, x = th - 5 + r_201 := ⟨_, rfl⟩
            have h_bv : 30 ≤ bv ∧ bv ≤ 500 := by omega
            refine q_top (bv) (by exact e_bv.symm) ?_
            refine q_callH (As := [.int (iI (bv))]) (rest := []) (T := TJ4) (N := 4) (zl_ok z bb L xs) hx hb hml hown hts hK (qH_z (kb_appI (b := b) (cB := cB) (cI := cI) (cZ := cZ) (cS := cS) (cJ := cJ) (x := (bv)) (by omega) hs_t27 (by have hqq := hn_t27; omega)) zl_b) yi_J4_append_bf812 ml_L_26 (by rw [hR]; decide) hw hA hB 0 bW_0 rfl rfl rfl hl.1 (lv_room (Nat.le_of_ble_eq_true rfl)) dL_begins_205 (by rw [hR]; exact ⟨by show _ ≤ (460 : Nat); omega, by show _ ≤ (700000 : Nat); omega⟩) (fun u_205 H locs hu_205 hw => ?_)
            obtain ⟨q28, rfl⟩ : ∃ x, x = u_205 := ⟨_, rfl⟩
            obtain ⟨t28, e_t28⟩ : ∃ x : List Int, x = t27 ++ dgS (bv) := ⟨_, rfl⟩
            have hs_t28 : sB q28 t28 := by rw [e_t28]; exact hu_205
            have hn_t28 : t28.length ≤ ((((((414) + 5) + 3) + 1) + 3) + 1) + 3 := by rw [e_t28, List.length_append]; have hqq := hn_t27; have hll := (dgS_b (x := (bv)) (by omega)).2.1; omega
            have hw : qw D A s.heap (bW b cB q28 t28 ++ wW g cI cB cZ cS) H locs := by rw [e_t28]; exact hw
            refine lv_aload_n hx hb dL_begins_208 rfl (lv_at hl 3 rfl) ?_
            refine lv_iload hx hb dL_begins_209 (lv_at hl 0 rfl) ?_
            refine q_iconst hx hb dL_begins_211 ?_
            refine q_iadd hx hb dL_begins_212 ?_
            refine q_iconst hx hb dL_begins_213 ?_
            refine q_callPSz (As := [.ref bb, .int (iI (at9 + 5)), .int (iI 2)]) (rest := [.ref b]) (zl_ok z bb L xs) hx hb hml hown hts hK (c_L_pick (at9 + 5) 2 hL (by omega) (by omega)) yt_L_pick ml_L_15 (by rw [hR]; decide) P_nil (z_M (zl_ok z bb L xs) hB hw hA [] rfl) rfl rfl hl.1 (lv_room (Nat.le_of_ble_eq_true rfl)) dL_begins_214 (by rw [hR]; exact ⟨by show _ ≤ (460 : Nat); omega, by show _ ≤ (700000 : Nat); omega⟩) ?_
            obtain ⟨r_214, er_214⟩ : ∃ x : Int, x = pkV xs L (at9 + 5) 2 := ⟨_, rfl⟩
            have pk_214 : 0 ≤ r_214 ∧ r_214 < 2 := by rw [er_214]; exact pkV_rg (by decide)
            refine q_top r_214 er_214.symm ?_
            have j227 : ∀ (i : Nat) (H : Heap) (locs : List Loc) (ls : Array Slot), i < 16 → (txL i).length ≤ 2 → (txL i = [32] ∨ txL i = [32, 45]) → qw D A s.heap (bW b cB q28 t28 ++ wW g cI cB cZ cS) H locs → lv_has ls 10 [(7, .int (iI at9)), (8, .int (iI 1)), (0, .ref (g.1 0 0)), (1, .ref bb), (2, .int (iI mn)), (3, .int (iI ln)), (4, .int (iI th)), (5, .ref b), (6, .int (iI (kn : Int)))] → W p l e R s m args below meth c H locs (8 + 30 * kn + 10) (9000 + 45000 * kn + 14020) Q (F0 m 227 ls [.ref (z (10 + i)), .ref b]) := by
              intro i H locs ls hi_6 hi_l hi_m hw hl
              refine q_callH (As := [.ref (z (10 + i))]) (rest := []) (T := TJ4) (N := 4) (zl_ok z bb L xs) hx hb hml hown hts hK (qH_z (kb_appS (b := b) (cB := cB) (cI := cI) (cZ := cZ) (cS := cS) (cJ := cJ) (i := i) hi_6 hs_t28 (by have hqq := hn_t28; have hll := hi_l; omega)) zl_b) yi_J4_append_15ec4 ml_L_32 (by rw [hR]; decide) hw hA hB 0 bW_0 rfl rfl rfl hl.1 (lv_room (Nat.le_of_ble_eq_true rfl)) dL_begins_227 (by rw [hR]; exact ⟨by show _ ≤ (460 : Nat); omega, by show _ ≤ (700000 : Nat); omega⟩) (fun u_227 H locs hu_227 hw => ?_)
              obtain ⟨q29, rfl⟩ : ∃ x, x = u_227 := ⟨_, rfl⟩
              obtain ⟨t29, e_t29⟩ : ∃ x : List Int, x = t28 ++ (txL i) := ⟨_, rfl⟩
              have hs_t29 : sB q29 t29 := by rw [e_t29]; exact hu_227
              have hn_t29 : t29.length ≤ (((((((414) + 5) + 3) + 1) + 3) + 1) + 3) + 2 := by rw [e_t29, List.length_append]; have hqq := hn_t28; have hll := hi_l; omega
              have hw : qw D A s.heap (bW b cB q29 t29 ++ wW g cI cB cZ cS) H locs := by rw [e_t29]; exact hw
              refine lv_aload_n hx hb dL_begins_230 rfl (lv_at hl 3 rfl) ?_
              refine lv_iload hx hb dL_begins_231 (lv_at hl 0 rfl) ?_
              refine q_iconst hx hb dL_begins_233 ?_
              refine q_iadd hx hb dL_begins_234 ?_
              refine q_bipush hx hb dL_begins_235 rfl ?_
              refine q_callPSz (As := [.ref bb, .int (iI (at9 + 5)), .int (iI 40)]) (rest := [.ref b]) (zl_ok z bb L xs) hx hb hml hown hts hK (c_L_pick (at9 + 5) 40 hL (by omega) (by omega)) yt_L_pick ml_L_15 (by rw [hR]; decide) P_nil (z_M (zl_ok z bb L xs) hB hw hA [] rfl) rfl rfl hl.1 (lv_room (Nat.le_of_ble_eq_true rfl)) dL_begins_237 (by rw [hR]; exact ⟨by show _ ≤ (460 : Nat); omega, by show _ ≤ (700000 : Nat); omega⟩) ?_
              obtain ⟨r_237, er_237⟩ : ∃ x : Int, x = pkV xs L (at9 + 5) 40 := ⟨_, rfl⟩
              have pk_237 : 0 ≤ r_237 ∧ r_237 < 40 := by rw [er_237]; exact pkV_rg (by decide)
              refine q_top r_237 er_237.symm ?_
              refine q_callH (As := [.int (iI r_237)]) (rest := []) (T := TJ4) (N := 4) (zl_ok z bb L xs) hx hb hml hown hts hK (qH_z (kb_appI (b := b) (cB := cB) (cI := cI) (cZ := cZ) (cS := cS) (cJ := cJ) (x := r_237) (by omega) hs_t29 (by have hqq := hn_t29; omega)) zl_b) yi_J4_append_bf812 ml_L_26 (by rw [hR]; decide) hw hA hB 0 bW_0 rfl rfl rfl hl.1 (lv_room (Nat.le_of_ble_eq_true rfl)) dL_begins_240 (by rw [hR]; exact ⟨by show _ ≤ (460 : Nat); omega, by show _ ≤ (700000 : Nat); omega⟩) (fun u_240 H locs hu_240 hw => ?_)
              obtain ⟨q30, rfl⟩ : ∃ x, x = u_240 := ⟨_, rfl⟩
              obtain ⟨t30, e_t30⟩ : ∃ x : List Int, x = t29 ++ dgS r_237 := ⟨_, rfl⟩
              have hs_t30 : sB q30 t30 := by rw [e_t30]; exact hu_240
              have hn_t30 : t30.length ≤ ((((((((414) + 5) + 3) + 1) + 3) + 1) + 3) + 2) + 3 := by rw [e_t30, List.length_append]; have hqq := hn_t29; have hll := (dgS_b (x := r_237) (by omega)).2.1; omega
              have hw : qw D A s.heap (bW b cB q30 t30 ++ wW g cI cB cZ cS) H locs := by rw [e_t30]; exact hw
              refine lv_pop hx hb dL_begins_243 rfl ?_
              refine lv_iload hx hb dL_begins_244 (lv_at hl 1 rfl) ?_
              refine q_if_ne (tgt := 290) hx hb dL_begins_246 (by decide) (by omega) (fun c_246 => ?_) (fun c_246 => absurd c_246 (by omega))
              have h_c9 : 0 ≤ r_237 ∧ r_237 ≤ 99 := by omega
              have e_S1 : t30 = (hdT ln th ++ S) ++ (txL 2 ++ ([32] ++ (dgS r_133 ++ ([32] ++ (dgS av ++ ([32] ++ (dgS bv ++ (txL i ++ dgS r_237)))))))) := by rw [e_t30, e_t29, e_t28, e_t27, e_t26, e_t25, e_t24, e_t23]; simp only [x7, x8, x9, x10, x11, x12, x13, x14, x15, List.append_assoc]
              have hd_0 := (dgS_b (x := av) (by omega)).2.1
              have hd_1 := (dgS_b (x := bv) (by omega)).2.1
              have hd_2 := (dgS_b (x := r_237) (by omega)).2.1
              have hd_3 := (dgS_b (x := r_133) (by omega)).2.1
              have h1l : (txL 1).length = 5 := rfl
              have h2l : (txL 2).length = 4 := rfl
              have hd_c2 := dgS_2 (x := r_237) (by omega)
              have hS1 : (txL 2 ++ ([32] ++ (dgS r_133 ++ ([32] ++ (dgS av ++ ([32] ++ (dgS bv ++ (txL i ++ dgS r_237)))))))).length ≤ 29 := by simp only [List.length_append, List.length_cons, List.length_nil]; omega
              refine W_wide (k := 8 + 30 * kn + 20) (n := 9000 + 45000 * kn + 28040) (by omega) (by omega) ?_
              exact stkS 1 q30 t30 (txL 2 ++ ([32] ++ (dgS r_133 ++ ([32] ++ (dgS av ++ ([32] ++ (dgS bv ++ (txL i ++ dgS r_237)))))))) H locs ls (by rw [e_S1, List.length_append]; have := hn_S; omega) e_S1 (fun stk hst => by have q := stm_c (cc := r_133) (a := av) (b := bv) (c := r_237) (m := txL i) (stk := stk) (by omega) h_av h_bv h_c9 hi_m hst; unfold cdT at q; simp only [List.append_assoc] at q ⊢; exact q) hS1 hs_t30 hw hl
            refine q_if_ne (tgt := 225) hx hb dL_begins_217 (by decide) (by omega) (fun c_217 => ?_) (fun c_217 => ?_)
            · refine va_ldcS hx hb hown (hZ.2.2.2.1 _ lt_L_30) dL_begins_225 ?_
              refine W_wide (k := 8 + 30 * kn + 10) (n := 9000 + 45000 * kn + 14020) (by omega) (by omega) ?_
              exact j227 8 H locs ls (by decide) (by decide) (Or.inl rfl) hw hl
            · refine va_ldcS hx hb hown (hZ.2.2.2.1 _ lt_L_41) dL_begins_220 ?_
              refine lv_goto (tgt := 227) hx hb dL_begins_222 (by decide) ?_
              refine W_wide (k := 8 + 30 * kn + 10) (n := 9000 + 45000 * kn + 14020) (by omega) (by omega) ?_
              exact j227 12 H locs ls (by decide) (by decide) (Or.inr rfl) hw hl
          refine q_if_ne (tgt := 180) hx hb dL_begins_172 (by decide) (by omega) (fun c_172 => ?_) (fun c_172 => ?_)
          · refine q_iconst hx hb dL_begins_180 ?_
            refine W_wide (k := 8 + 30 * kn + 5) (n := 9000 + 45000 * kn + 7010) (by omega) (by omega) ?_
            exact j181 0 H locs ls (by decide) (by decide) hw (lv_sub hl [1, 0, 2, 3, 4, 5, 6, 7, 8] rfl)
          · refine q_bipush hx hb dL_begins_175 rfl ?_
            refine lv_goto (tgt := 181) hx hb dL_begins_177 (by decide) ?_
            refine W_wide (k := 8 + 30 * kn + 5) (n := 9000 + 45000 * kn + 7010) (by omega) (by omega) ?_
            exact j181 40 H locs ls (by decide) (by decide) hw (lv_sub hl [1, 0, 2, 3, 4, 5, 6, 7, 8] rfl)
  refine W_wide (k := 8 + 30 * 0) (n := 9000 + 45000 * 0) (by omega) (by omega) ?_
  exact loopK _ 0 q4 [] H locs ls rfl (by omega) shs_0 (Nat.zero_le _) hs_t4 hw (lv_sub hl [5, 6, 4, 3, 2, 1, 0] rfl)
end BEG
