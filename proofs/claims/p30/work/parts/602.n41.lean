/-! THE BUILDER: numbers, charAt. Written by wip/p30/n41.py -/
/-- a number's digits were put before place n -/
def grD (f : Int → Int) (n : Int) (f1 : Int → Int) (x : Int) : Prop := (∀ j : Int, j < n - nD x → f1 j = f j) ∧ (∀ k : Nat, k < (dgS x).length → f1 (n - nD x + (k : Int)) = (dgS x).getD k 0) ∧ by8 f1
theorem gd_1 {f : Int → Int} {n x : Int} (hf : by8 f) (h : 0 ≤ x ∧ x < 10) : grD f n (uI f (n + (-1)) (48 + x % 10)) x := by
  have e1 : nD x = 1 := by unfold nD; rw [if_pos h.2]
  have e2 : dgS x = [48 + x] := by unfold dgS; rw [if_pos h.2]
  unfold grD
  rw [e1, e2]
  refine ⟨fun j hj => uI_n _ _ _ (by omega), fun k hk => ?_, by8_u hf (by omega)⟩
  have hk0 : k = 0 := by
    have : k < 1 := hk
    omega
  subst hk0
  show uI f (n + (-1)) (48 + x % 10) (n - 1 + ((0 : Nat) : Int)) = 48 + x
  rw [uI_i, if_pos (by omega)]
  omega
theorem gd_2 {f : Int → Int} {n x : Int} (hf : by8 f) (h : 10 ≤ x ∧ x < 100) : grD f n (uI (uI f (n + (-1)) (48 + x % 10)) (n + (-1) + (-1)) (48 + x / 10)) x := by
  have e1 : nD x = 2 := by unfold nD; rw [if_neg (by omega), if_pos h.2]
  have e2 : dgS x = [48 + x / 10, 48 + x % 10] := by unfold dgS; rw [if_neg (by omega), if_pos h.2]
  unfold grD
  rw [e1, e2]
  refine ⟨fun j hj => (uI_n _ _ _ (by omega)).trans (uI_n _ _ _ (by omega)), fun k hk => ?_, by8_u (by8_u hf (by omega)) (by omega)⟩
  have hk2 : k < 2 := hk
  by_cases q : k = 0
  · subst q
    show uI _ (n + (-1) + (-1)) (48 + x / 10) (n - 2 + ((0 : Nat) : Int)) = 48 + x / 10
    rw [uI_i, if_pos (by omega)]
  · have q1 : k = 1 := by omega
    subst q1
    show uI _ (n + (-1) + (-1)) (48 + x / 10) (n - 2 + ((1 : Nat) : Int)) = 48 + x % 10
    rw [uI_i, if_neg (by omega), uI_i, if_pos (by omega)]
theorem gd_3 {f : Int → Int} {n x : Int} (hf : by8 f) (h : 100 ≤ x ∧ x < 1000) : grD f n (uI (uI (uI f (n + (-1)) (48 + x % 100 % 10)) (n + (-1) + (-1)) (48 + x % 100 / 10)) (n + (-1) + (-1) + (-1)) (48 + x / 100 % 10)) x := by
  have e1 : nD x = 3 := by unfold nD; rw [if_neg (by omega), if_neg (by omega)]
  have e2 : dgS x = [48 + x / 100, 48 + x / 10 % 10, 48 + x % 10] := by unfold dgS; rw [if_neg (by omega), if_neg (by omega)]
  unfold grD
  rw [e1, e2]
  refine ⟨fun j hj => (uI_n _ _ _ (by omega)).trans ((uI_n _ _ _ (by omega)).trans (uI_n _ _ _ (by omega))), fun k hk => ?_, by8_u (by8_u (by8_u hf (by omega)) (by omega)) (by omega)⟩
  have hk2 : k < 3 := hk
  by_cases q : k = 0
  · subst q
    show uI _ (n + (-1) + (-1) + (-1)) (48 + x / 100 % 10) (n - 3 + ((0 : Nat) : Int)) = 48 + x / 100
    rw [uI_i, if_pos (by omega)]
    omega
  · by_cases q1 : k = 1
    · subst q1
      show uI _ (n + (-1) + (-1) + (-1)) (48 + x / 100 % 10) (n - 3 + ((1 : Nat) : Int)) = 48 + x / 10 % 10
      rw [uI_i, if_neg (by omega), uI_i, if_pos (by omega)]
      omega
    · have q2 : k = 2 := by omega
      subst q2
      show uI _ (n + (-1) + (-1) + (-1)) (48 + x / 100 % 10) (n - 3 + ((2 : Nat) : Int)) = 48 + x % 10
      rw [uI_i, if_neg (by omega), uI_i, if_neg (by omega), uI_i, if_pos (by omega)]
      omega
theorem td_100 {x : Int} (h : 0 ≤ x) : Int.tdiv (-x) 100 = -(x / 100) := by rw [Int.neg_tdiv, Int.tdiv_eq_ediv_of_nonneg h]
section BLD2
variable {l : Launch} {z : Nat → Nat} {D : va_G} {cI cB cZ cS cJ : ClassId} {b v cap : Nat} {f : Int → Int} {n x k : Int}

set_option maxHeartbeats 4000000 in
set_option maxRecDepth 100000 in
theorem c_J6_stringSize (hx9 : 0 ≤ x ∧ x ≤ 999) : qH l (ZB z) D (tyG cI cB cZ cS cJ) yJ6_stringSize_0f7a4 (.code yJ6_stringSize_0f7a4 cJ6_stringSize_0f7a4 4 (Option.some FieldType.int) :: gW) 0 0 0 0 [.int (iI x)] [] (fun u : Unit => True) (fun u => some (.int (iI (nD x)))) (fun u => []) := by
  refine qH_enterI (val := fun u => iI (nD x)) (by decide) (Nat.le_of_ble_eq_true rfl) (fun u hu => ⟨rfl, nar_i _⟩) (fun p e R s m args below meth c Q ls A X hR hA hw hB hl hret => ?_)
  obtain ⟨hx, hb, hml, hown, hts, hK⟩ := X
  have hl : lv_has ls 4 [(0, .int (iI x))] := hl
  have hZ := hB.1.1.1
  suffices K : ∀ (H : Heap) (locs : List Loc), qw D A s.heap [] H locs → W p l e R s m args below meth c H locs 0 0 Q (F0 m 0 ls []) from K s.heap [] hw
  clear hw
  intro H locs hw
  refine q_iconst hx hb dJ6_stringSize_0f7a4_0 ?_
  refine lv_istore_n (lv' := [(1, .int (iI 1)), (0, .int (iI x))]) hx hb dJ6_stringSize_0f7a4_1 rfl hl (by decide) rfl (fun ls hl => ?_)
  refine lv_iload_n hx hb dJ6_stringSize_0f7a4_2 rfl (lv_at hl 1 rfl) ?_
  refine q_if_lt (tgt := 11) hx hb dJ6_stringSize_0f7a4_3 (by decide) (by omega) (fun c_3 => absurd c_3 (by omega)) (fun c_3 => ?_)
  refine q_iconst hx hb dJ6_stringSize_0f7a4_6 ?_
  refine lv_istore_n (lv' := [(1, .int (iI 0)), (0, .int (iI x))]) hx hb dJ6_stringSize_0f7a4_7 rfl hl (by decide) rfl (fun ls hl => ?_)
  refine lv_iload_n hx hb dJ6_stringSize_0f7a4_8 rfl (lv_at hl 1 rfl) ?_
  refine q_ineg hx hb dJ6_stringSize_0f7a4_9 ?_
  refine lv_istore_n (lv' := [(0, .int (iI (-x))), (1, .int (iI 0))]) hx hb dJ6_stringSize_0f7a4_10 rfl hl (by decide) rfl (fun ls hl => ?_)
  refine q_bipush hx hb dJ6_stringSize_0f7a4_11 rfl ?_
  refine lv_istore_n (lv' := [(2, .int (iI (-10))), (0, .int (iI (-x))), (1, .int (iI 0))]) hx hb dJ6_stringSize_0f7a4_13 rfl hl (by decide) rfl (fun ls hl => ?_)
  refine q_iconst hx hb dJ6_stringSize_0f7a4_14 ?_
  refine lv_istore_n (lv' := [(3, .int (iI 1)), (2, .int (iI (-10))), (0, .int (iI (-x))), (1, .int (iI 0))]) hx hb dJ6_stringSize_0f7a4_15 rfl hl (by decide) rfl (fun ls hl => ?_)
  refine lv_iload_n hx hb dJ6_stringSize_0f7a4_16 rfl (lv_at hl 0 rfl) ?_
  refine q_bipush hx hb dJ6_stringSize_0f7a4_17 rfl ?_
  refine q_icmp_ge (tgt := 42) hx hb dJ6_stringSize_0f7a4_19 (by decide) (by omega) (fun c_19 => absurd c_19 (by omega)) (fun c_19 => ?_)
  refine lv_iload_n hx hb dJ6_stringSize_0f7a4_22 rfl (lv_at hl 2 rfl) ?_
  refine lv_iload_n hx hb dJ6_stringSize_0f7a4_23 rfl (lv_at hl 1 rfl) ?_
  refine q_icmp_le (tgt := 31) hx hb dJ6_stringSize_0f7a4_24 (by decide) (by omega) (fun c_1 => ?_) (fun c_1 => ?_)
  · refine q_bipush hx hb dJ6_stringSize_0f7a4_31 rfl ?_
    refine lv_iload_n hx hb dJ6_stringSize_0f7a4_33 rfl (lv_at hl 1 rfl) ?_
    refine q_imul hx hb dJ6_stringSize_0f7a4_34 ?_
    refine q_top (-100) rfl ?_
    refine lv_istore_n (lv' := [(2, .int (iI (-100))), (3, .int (iI 1)), (0, .int (iI (-x))), (1, .int (iI 0))]) hx hb dJ6_stringSize_0f7a4_35 rfl hl (by decide) rfl (fun ls hl => ?_)
    refine lv_iinc (v := iI (1 + 1)) (lv' := [(3, .int (iI (1 + 1))), (2, .int (iI (-100))), (0, .int (iI (-x))), (1, .int (iI 0))]) hx hb dJ6_stringSize_0f7a4_36 hl (k := 1) rfl (iI_add _ _) (by decide) rfl (fun ls hl => ?_)
    have hl : lv_has ls 4 [(3, .int (iI 2)), (2, .int (iI (-100))), (0, .int (iI (-x))), (1, .int (iI 0))] := hl
    refine lv_goto (tgt := 16) hx hb dJ6_stringSize_0f7a4_39 (by decide) ?_
    refine lv_iload_n hx hb dJ6_stringSize_0f7a4_16 rfl (lv_at hl 0 rfl) ?_
    refine q_bipush hx hb dJ6_stringSize_0f7a4_17 rfl ?_
    refine q_icmp_ge (tgt := 42) hx hb dJ6_stringSize_0f7a4_19 (by decide) (by omega) (fun c_19 => absurd c_19 (by omega)) (fun c_19 => ?_)
    refine lv_iload_n hx hb dJ6_stringSize_0f7a4_22 rfl (lv_at hl 2 rfl) ?_
    refine lv_iload_n hx hb dJ6_stringSize_0f7a4_23 rfl (lv_at hl 1 rfl) ?_
    refine q_icmp_le (tgt := 31) hx hb dJ6_stringSize_0f7a4_24 (by decide) (by omega) (fun c_2 => ?_) (fun c_2 => ?_)
    · refine q_bipush hx hb dJ6_stringSize_0f7a4_31 rfl ?_
      refine lv_iload_n hx hb dJ6_stringSize_0f7a4_33 rfl (lv_at hl 1 rfl) ?_
      refine q_imul hx hb dJ6_stringSize_0f7a4_34 ?_
      refine q_top (-1000) rfl ?_
      refine lv_istore_n (lv' := [(2, .int (iI (-1000))), (3, .int (iI 2)), (0, .int (iI (-x))), (1, .int (iI 0))]) hx hb dJ6_stringSize_0f7a4_35 rfl hl (by decide) rfl (fun ls hl => ?_)
      refine lv_iinc (v := iI (2 + 1)) (lv' := [(3, .int (iI (2 + 1))), (2, .int (iI (-1000))), (0, .int (iI (-x))), (1, .int (iI 0))]) hx hb dJ6_stringSize_0f7a4_36 hl (k := 1) rfl (iI_add _ _) (by decide) rfl (fun ls hl => ?_)
      have hl : lv_has ls 4 [(3, .int (iI 3)), (2, .int (iI (-1000))), (0, .int (iI (-x))), (1, .int (iI 0))] := hl
      refine lv_goto (tgt := 16) hx hb dJ6_stringSize_0f7a4_39 (by decide) ?_
      refine lv_iload_n hx hb dJ6_stringSize_0f7a4_16 rfl (lv_at hl 0 rfl) ?_
      refine q_bipush hx hb dJ6_stringSize_0f7a4_17 rfl ?_
      refine q_icmp_ge (tgt := 42) hx hb dJ6_stringSize_0f7a4_19 (by decide) (by omega) (fun c_19 => absurd c_19 (by omega)) (fun c_19 => ?_)
      refine lv_iload_n hx hb dJ6_stringSize_0f7a4_22 rfl (lv_at hl 2 rfl) ?_
      refine lv_iload_n hx hb dJ6_stringSize_0f7a4_23 rfl (lv_at hl 1 rfl) ?_
      refine q_icmp_le (tgt := 31) hx hb dJ6_stringSize_0f7a4_24 (by decide) (by omega) (fun c_3 => absurd c_3 (by omega)) (fun c_3 => ?_)
      refine lv_iload_n hx hb dJ6_stringSize_0f7a4_27 rfl (lv_at hl 0 rfl) ?_
      refine lv_iload_n hx hb dJ6_stringSize_0f7a4_28 rfl (lv_at hl 3 rfl) ?_
      refine q_iadd hx hb dJ6_stringSize_0f7a4_29 ?_
      refine q_top 3 rfl ?_
      refine q_top (nD x) (by unfold nD; rw [if_neg (by omega), if_neg (by omega)]) ?_
      refine W_wide (k := 0) (n := 0) (by omega) (by omega) ?_
      exact hret () H locs 30 ls trivial hw dJ6_stringSize_0f7a4_30
    · refine lv_iload_n hx hb dJ6_stringSize_0f7a4_27 rfl (lv_at hl 0 rfl) ?_
      refine lv_iload_n hx hb dJ6_stringSize_0f7a4_28 rfl (lv_at hl 3 rfl) ?_
      refine q_iadd hx hb dJ6_stringSize_0f7a4_29 ?_
      refine q_top 2 rfl ?_
      refine q_top (nD x) (by unfold nD; rw [if_neg (by omega), if_pos (by omega)]) ?_
      refine W_wide (k := 0) (n := 0) (by omega) (by omega) ?_
      exact hret () H locs 30 ls trivial hw dJ6_stringSize_0f7a4_30
  · refine lv_iload_n hx hb dJ6_stringSize_0f7a4_27 rfl (lv_at hl 0 rfl) ?_
    refine lv_iload_n hx hb dJ6_stringSize_0f7a4_28 rfl (lv_at hl 3 rfl) ?_
    refine q_iadd hx hb dJ6_stringSize_0f7a4_29 ?_
    refine q_top 1 rfl ?_
    refine q_top (nD x) (by unfold nD; rw [if_pos (by omega)]) ?_
    refine W_wide (k := 0) (n := 0) (by omega) (by omega) ?_
    exact hret () H locs 30 ls trivial hw dJ6_stringSize_0f7a4_30

set_option maxHeartbeats 4000000 in
set_option maxRecDepth 100000 in
theorem c_J6_getChars (hx9 : 0 ≤ x ∧ x ≤ 999) (hcap : cap ≤ 1402) (hn : nD x ≤ n ∧ n ≤ (cap : Int)) (hf : by8 f) : qH l (ZB z) D (tyG cI cB cZ cS cJ) yJ6_getChars_ba4f3 (.code yJ6_getChars_ba4f3 cJ6_getChars_ba4f3 7 (Option.some FieldType.int) :: gW) 0 0 0 0 [.int (iI x), .int (iI n), .ref v] [(v, .inl (cB, cap, .inl (ai f)))] (fun u : Int → Int => grD f n u x) (fun u => some (.int (iI (n - nD x)))) (fun u => [(v, .inl (cB, cap, .inl (ai u)))]) := by
  have hnd : 1 ≤ nD x ∧ (10 ≤ x → 2 ≤ nD x) ∧ (100 ≤ x → 3 ≤ nD x) := by unfold nD; split <;> (try split) <;> omega
  refine qH_enterI (val := fun u => iI (n - nD x)) (by decide) (Nat.le_of_ble_eq_true rfl) (fun u hu => ⟨rfl, nar_i _⟩) (fun p e R s m args below meth c Q ls A X hR hA hw hB hl hret => ?_)
  obtain ⟨hx, hb, hml, hown, hts, hK⟩ := X
  have hl : lv_has ls 7 [(0, .int (iI x)), (1, .int (iI n)), (2, .ref v)] := hl
  have hZ := hB.1.1.1
  suffices K : ∀ (H : Heap) (locs : List Loc), qw D A s.heap [(v, .inl (cB, cap, .inl (ai f)))] H locs → W p l e R s m args below meth c H locs 0 0 Q (F0 m 0 ls []) from K s.heap [] hw
  clear hw
  intro H locs hw
  refine lv_iload_n hx hb dJ6_getChars_ba4f3_0 rfl (lv_at hl 1 rfl) ?_
  refine lv_istore (lv' := [(5, .int (iI n)), (0, .int (iI x)), (1, .int (iI n)), (2, .ref v)]) hx hb dJ6_getChars_ba4f3_1 hl (by decide) rfl (fun ls hl => ?_)
  refine lv_iload_n hx hb dJ6_getChars_ba4f3_3 rfl (lv_at hl 1 rfl) ?_
  refine q_if_ge (tgt := 11) hx hb dJ6_getChars_ba4f3_4 (by decide) (by omega) (fun c_4 => ?_) (fun c_4 => absurd c_4 (by omega))
  refine q_iconst hx hb dJ6_getChars_ba4f3_11 ?_
  refine lv_istore (lv' := [(6, .int (iI 0)), (5, .int (iI n)), (0, .int (iI x)), (1, .int (iI n)), (2, .ref v)]) hx hb dJ6_getChars_ba4f3_12 hl (by decide) rfl (fun ls hl => ?_)
  refine lv_iload hx hb dJ6_getChars_ba4f3_14 (lv_at hl 0 rfl) ?_
  refine q_if_ne (tgt := 22) hx hb dJ6_getChars_ba4f3_16 (by decide) (by omega) (fun c_16 => absurd c_16 (by omega)) (fun c_16 => ?_)
  refine lv_iload_n hx hb dJ6_getChars_ba4f3_19 rfl (lv_at hl 2 rfl) ?_
  refine q_ineg hx hb dJ6_getChars_ba4f3_20 ?_
  refine lv_istore_n (lv' := [(0, .int (iI (-x))), (6, .int (iI 0)), (5, .int (iI n)), (1, .int (iI n)), (2, .ref v)]) hx hb dJ6_getChars_ba4f3_21 rfl hl (by decide) rfl (fun ls hl => ?_)
  refine lv_iload_n hx hb dJ6_getChars_ba4f3_22 rfl (lv_at hl 0 rfl) ?_
  refine q_bipush hx hb dJ6_getChars_ba4f3_23 rfl ?_
  refine q_icmp_gt (tgt := 72) hx hb dJ6_getChars_ba4f3_25 (by decide) (by omega) (fun c_25 => ?_) (fun c_25 => ?_)
  · refine lv_aload_n hx hb dJ6_getChars_ba4f3_72 rfl (lv_at hl 4 rfl) ?_
    refine lv_iinc (v := iI (n + (-1))) (lv' := [(5, .int (iI (n + (-1)))), (0, .int (iI (-x))), (6, .int (iI 0)), (1, .int (iI n)), (2, .ref v)]) hx hb dJ6_getChars_ba4f3_73 hl (k := 2) rfl (iI_add _ _) (by decide) rfl (fun ls hl => ?_)
    refine lv_iload hx hb dJ6_getChars_ba4f3_76 (lv_at hl 0 rfl) ?_
    refine va_gets hx hb hB.2.1 hw.2.2 hown (hts _ fl_J6_83) (fun _ h => h) dJ6_getChars_ba4f3_78 ?_
    refine lv_iload_n hx hb dJ6_getChars_ba4f3_81 rfl (lv_at hl 1 rfl) ?_
    refine q_ineg hx hb dJ6_getChars_ba4f3_82 ?_
    refine q_top (x) (by omega) ?_
    refine q_top (x) (by omega) ?_
    refine q_ones (i := (x)) hx hb hB.2.2.2.1 hw.2.2 (by omega) dJ6_getChars_ba4f3_83 ?_
    refine q_bast hx hb hK hw 0 1 rfl rfl (by first | exact byT_bd _ | omega) (by omega) dJ6_getChars_ba4f3_84 (fun H locs hw => ?_)
    have hw : qw D A s.heap [(v, .inl (cB, cap, .inl (ai (uI f (n + (-1)) (48 + ((x)) % 10)))))] H locs := hw
    refine lv_iload_n hx hb dJ6_getChars_ba4f3_85 rfl (lv_at hl 1 rfl) ?_
    refine q_bipush hx hb dJ6_getChars_ba4f3_86 rfl ?_
    refine q_icmp_ge (tgt := 104) hx hb dJ6_getChars_ba4f3_88 (by decide) (by omega) (fun c_88 => ?_) (fun c_88 => ?_)
    · refine lv_iload hx hb dJ6_getChars_ba4f3_104 (lv_at hl 2 rfl) ?_
      refine q_if_eq (tgt := 118) hx hb dJ6_getChars_ba4f3_106 (by decide) (by omega) (fun c_106 => ?_) (fun c_106 => absurd c_106 (by omega))
      refine lv_iload hx hb dJ6_getChars_ba4f3_118 (lv_at hl 0 rfl) ?_
      refine q_top (n - nD x) (by unfold nD; rw [if_pos (by omega)]; omega) ?_
      refine W_wide (k := 0) (n := 0) (by omega) (by omega) ?_
      exact hret _ H locs 120 ls (gd_1 hf (by omega)) hw dJ6_getChars_ba4f3_120
    · refine lv_aload_n hx hb dJ6_getChars_ba4f3_91 rfl (lv_at hl 4 rfl) ?_
      refine lv_iinc (v := iI (n + (-1) + (-1))) (lv' := [(5, .int (iI (n + (-1) + (-1)))), (0, .int (iI (-x))), (6, .int (iI 0)), (1, .int (iI n)), (2, .ref v)]) hx hb dJ6_getChars_ba4f3_92 hl (k := 0) rfl (iI_add _ _) (by decide) rfl (fun ls hl => ?_)
      refine lv_iload hx hb dJ6_getChars_ba4f3_95 (lv_at hl 0 rfl) ?_
      refine va_gets hx hb hB.2.2.1 hw.2.2 hown (hts _ fl_J6_87) (fun _ h => h) dJ6_getChars_ba4f3_97 ?_
      refine lv_iload_n hx hb dJ6_getChars_ba4f3_100 rfl (lv_at hl 1 rfl) ?_
      refine q_ineg hx hb dJ6_getChars_ba4f3_101 ?_
      refine q_top (x) (by omega) ?_
      refine q_tens (i := (x)) hx hb hB.2.2.2.2 hw.2.2 (by omega) dJ6_getChars_ba4f3_102 ?_
      refine q_bast hx hb hK hw 0 1 rfl rfl (by first | exact byT_bd _ | omega) (by omega) dJ6_getChars_ba4f3_103 (fun H locs hw => ?_)
      have hw : qw D A s.heap [(v, .inl (cB, cap, .inl (ai (uI (uI f (n + (-1)) (48 + ((x)) % 10)) (n + (-1) + (-1)) (48 + ((x)) / 10)))))] H locs := hw
      refine lv_iload hx hb dJ6_getChars_ba4f3_104 (lv_at hl 2 rfl) ?_
      refine q_if_eq (tgt := 118) hx hb dJ6_getChars_ba4f3_106 (by decide) (by omega) (fun c_106 => ?_) (fun c_106 => absurd c_106 (by omega))
      refine lv_iload hx hb dJ6_getChars_ba4f3_118 (lv_at hl 0 rfl) ?_
      refine q_top (n - nD x) (by unfold nD; rw [if_neg (by omega), if_pos (by omega)]; omega) ?_
      refine W_wide (k := 0) (n := 0) (by omega) (by omega) ?_
      exact hret _ H locs 120 ls (gd_2 hf (by omega)) hw dJ6_getChars_ba4f3_120
  · refine lv_iload_n hx hb dJ6_getChars_ba4f3_28 rfl (lv_at hl 0 rfl) ?_
    refine q_bipush hx hb dJ6_getChars_ba4f3_29 rfl ?_
    refine q_idiv hx hb dJ6_getChars_ba4f3_31 (by omega) (by omega) (by omega) ?_
    refine q_top (-(x / 100)) (by exact td_100 hx9.1) ?_
    refine lv_istore_n (lv' := [(3, .int (iI (-(x / 100)))), (0, .int (iI (-x))), (6, .int (iI 0)), (5, .int (iI n)), (1, .int (iI n)), (2, .ref v)]) hx hb dJ6_getChars_ba4f3_32 rfl hl (by decide) rfl (fun ls hl => ?_)
    refine lv_iload_n hx hb dJ6_getChars_ba4f3_33 rfl (lv_at hl 0 rfl) ?_
    refine q_bipush hx hb dJ6_getChars_ba4f3_34 rfl ?_
    refine q_imul hx hb dJ6_getChars_ba4f3_36 ?_
    refine lv_iload_n hx hb dJ6_getChars_ba4f3_37 rfl (lv_at hl 1 rfl) ?_
    refine q_isub hx hb dJ6_getChars_ba4f3_38 ?_
    refine q_top (x % 100) (by omega) ?_
    refine lv_istore (lv' := [(4, .int (iI (x % 100))), (3, .int (iI (-(x / 100)))), (0, .int (iI (-x))), (6, .int (iI 0)), (5, .int (iI n)), (1, .int (iI n)), (2, .ref v)]) hx hb dJ6_getChars_ba4f3_39 hl (by decide) rfl (fun ls hl => ?_)
    refine lv_iload_n hx hb dJ6_getChars_ba4f3_41 rfl (lv_at hl 1 rfl) ?_
    refine lv_istore_n (lv' := [(0, .int (iI (-(x / 100)))), (4, .int (iI (x % 100))), (3, .int (iI (-(x / 100)))), (6, .int (iI 0)), (5, .int (iI n)), (1, .int (iI n)), (2, .ref v)]) hx hb dJ6_getChars_ba4f3_42 rfl hl (by decide) rfl (fun ls hl => ?_)
    refine lv_aload_n hx hb dJ6_getChars_ba4f3_43 rfl (lv_at hl 6 rfl) ?_
    refine lv_iinc (v := iI (n + (-1))) (lv' := [(5, .int (iI (n + (-1)))), (0, .int (iI (-(x / 100)))), (4, .int (iI (x % 100))), (3, .int (iI (-(x / 100)))), (6, .int (iI 0)), (1, .int (iI n)), (2, .ref v)]) hx hb dJ6_getChars_ba4f3_44 hl (k := 4) rfl (iI_add _ _) (by decide) rfl (fun ls hl => ?_)
    refine lv_iload hx hb dJ6_getChars_ba4f3_47 (lv_at hl 0 rfl) ?_
    refine va_gets hx hb hB.2.1 hw.2.2 hown (hts _ fl_J6_83) (fun _ h => h) dJ6_getChars_ba4f3_49 ?_
    refine lv_iload hx hb dJ6_getChars_ba4f3_52 (lv_at hl 2 rfl) ?_
    refine q_ones (i := (x % 100)) hx hb hB.2.2.2.1 hw.2.2 (by omega) dJ6_getChars_ba4f3_54 ?_
    refine q_bast hx hb hK hw 0 1 rfl rfl (by first | exact byT_bd _ | omega) (by omega) dJ6_getChars_ba4f3_55 (fun H locs hw => ?_)
    have hw : qw D A s.heap [(v, .inl (cB, cap, .inl (ai (uI f (n + (-1)) (48 + ((x % 100)) % 10)))))] H locs := hw
    refine lv_aload_n hx hb dJ6_getChars_ba4f3_56 rfl (lv_at hl 6 rfl) ?_
    refine lv_iinc (v := iI (n + (-1) + (-1))) (lv' := [(5, .int (iI (n + (-1) + (-1)))), (0, .int (iI (-(x / 100)))), (4, .int (iI (x % 100))), (3, .int (iI (-(x / 100)))), (6, .int (iI 0)), (1, .int (iI n)), (2, .ref v)]) hx hb dJ6_getChars_ba4f3_57 hl (k := 0) rfl (iI_add _ _) (by decide) rfl (fun ls hl => ?_)
    refine lv_iload hx hb dJ6_getChars_ba4f3_60 (lv_at hl 0 rfl) ?_
    refine va_gets hx hb hB.2.2.1 hw.2.2 hown (hts _ fl_J6_87) (fun _ h => h) dJ6_getChars_ba4f3_62 ?_
    refine lv_iload hx hb dJ6_getChars_ba4f3_65 (lv_at hl 2 rfl) ?_
    refine q_tens (i := (x % 100)) hx hb hB.2.2.2.2 hw.2.2 (by omega) dJ6_getChars_ba4f3_67 ?_
    refine q_bast hx hb hK hw 0 1 rfl rfl (by first | exact byT_bd _ | omega) (by omega) dJ6_getChars_ba4f3_68 (fun H locs hw => ?_)
    have hw : qw D A s.heap [(v, .inl (cB, cap, .inl (ai (uI (uI f (n + (-1)) (48 + ((x % 100)) % 10)) (n + (-1) + (-1)) (48 + ((x % 100)) / 10)))))] H locs := hw
    refine lv_goto (tgt := 22) hx hb dJ6_getChars_ba4f3_69 (by decide) ?_
    refine lv_iload_n hx hb dJ6_getChars_ba4f3_22 rfl (lv_at hl 1 rfl) ?_
    refine q_bipush hx hb dJ6_getChars_ba4f3_23 rfl ?_
    refine q_icmp_gt (tgt := 72) hx hb dJ6_getChars_ba4f3_25 (by decide) (by omega) (fun c_26 => ?_) (fun c_26 => absurd c_26 (by omega))
    refine lv_aload_n hx hb dJ6_getChars_ba4f3_72 rfl (lv_at hl 6 rfl) ?_
    refine lv_iinc (v := iI (n + (-1) + (-1) + (-1))) (lv' := [(5, .int (iI (n + (-1) + (-1) + (-1)))), (0, .int (iI (-(x / 100)))), (4, .int (iI (x % 100))), (3, .int (iI (-(x / 100)))), (6, .int (iI 0)), (1, .int (iI n)), (2, .ref v)]) hx hb dJ6_getChars_ba4f3_73 hl (k := 0) rfl (iI_add _ _) (by decide) rfl (fun ls hl => ?_)
    refine lv_iload hx hb dJ6_getChars_ba4f3_76 (lv_at hl 0 rfl) ?_
    refine va_gets hx hb hB.2.1 hw.2.2 hown (hts _ fl_J6_83) (fun _ h => h) dJ6_getChars_ba4f3_78 ?_
    refine lv_iload_n hx hb dJ6_getChars_ba4f3_81 rfl (lv_at hl 1 rfl) ?_
    refine q_ineg hx hb dJ6_getChars_ba4f3_82 ?_
    refine q_top (x / 100) (by omega) ?_
    refine q_top (x / 100) (by omega) ?_
    refine q_ones (i := (x / 100)) hx hb hB.2.2.2.1 hw.2.2 (by omega) dJ6_getChars_ba4f3_83 ?_
    refine q_bast hx hb hK hw 0 1 rfl rfl (by first | exact byT_bd _ | omega) (by omega) dJ6_getChars_ba4f3_84 (fun H locs hw => ?_)
    have hw : qw D A s.heap [(v, .inl (cB, cap, .inl (ai (uI (uI (uI f (n + (-1)) (48 + ((x % 100)) % 10)) (n + (-1) + (-1)) (48 + ((x % 100)) / 10)) (n + (-1) + (-1) + (-1)) (48 + ((x / 100)) % 10)))))] H locs := hw
    refine lv_iload_n hx hb dJ6_getChars_ba4f3_85 rfl (lv_at hl 1 rfl) ?_
    refine q_bipush hx hb dJ6_getChars_ba4f3_86 rfl ?_
    refine q_icmp_ge (tgt := 104) hx hb dJ6_getChars_ba4f3_88 (by decide) (by omega) (fun c_88 => ?_) (fun c_88 => absurd c_88 (by omega))
    refine lv_iload hx hb dJ6_getChars_ba4f3_104 (lv_at hl 4 rfl) ?_
    refine q_if_eq (tgt := 118) hx hb dJ6_getChars_ba4f3_106 (by decide) (by omega) (fun c_106 => ?_) (fun c_106 => absurd c_106 (by omega))
    refine lv_iload hx hb dJ6_getChars_ba4f3_118 (lv_at hl 0 rfl) ?_
    refine q_top (n - nD x) (by unfold nD; rw [if_neg (by omega), if_neg (by omega)]; omega) ?_
    refine W_wide (k := 0) (n := 0) (by omega) (by omega) ?_
    exact hret _ H locs 120 ls (gd_3 hf (by omega)) hw dJ6_getChars_ba4f3_120

set_option maxHeartbeats 4000000 in
set_option maxRecDepth 100000 in
theorem c_J5_appI (hx9 : 0 ≤ x ∧ x ≤ 999) (hcap : cap ≤ 1402) (hn : 0 ≤ n ∧ n ≤ (cap : Int)) (hr : n + nD x ≤ 700) (hf : by8 f) : qH l (ZB z) D (tyG cI cB cZ cS cJ) yJ5_append_c97b9 (.code yJ5_append_c97b9 cJ5_append_c97b9 4 (Option.some (FieldType.object "java/lang/AbstractStringBuilder")) :: gW) 4 104 1 1402 [.ref b, .int (iI x)] [(b, .inr (7, [.ref v, .int (iI 0), .int (iI 0), .int (iI n)])), (v, .inl (cB, cap, .inl (ai f)))] (fun u : Nat × Nat × (Int → Int) => grF n f u.2.1 u.2.2 (dgS x)) (fun u => some (.ref (b))) (fun u => [(b, .inr (7, [.ref u.1, .int (iI 0), .int (iI 0), .int (iI (n + nD x))])), (u.1, .inl (cB, u.2.1, .inl (ai u.2.2)))]) := by
  have hnd : 1 ≤ nD x ∧ nD x ≤ 3 := by unfold nD; split <;> (try split) <;> omega
  refine qH_enterR (ad := fun u => b) (by decide) (Nat.le_of_ble_eq_true rfl) (Or.inl ⟨_, rfl⟩) (fun u hu => rfl) (fun p e R s m args below meth c Q ls A X hR hA hw hB hl hret => ?_)
  obtain ⟨hx, hb, hml, hown, hts, hK⟩ := X
  have hl : lv_has ls 4 [(0, .ref b), (1, .int (iI x))] := hl
  have hZ := hB.1.1.1
  suffices K : ∀ (H : Heap) (locs : List Loc), qw D A s.heap [(b, .inr (7, [.ref v, .int (iI 0), .int (iI 0), .int (iI n)])), (v, .inl (cB, cap, .inl (ai f)))] H locs → W p l e R s m args below meth c H locs 0 0 Q (F0 m 0 ls []) from K s.heap [] hw
  clear hw
  intro H locs hw
  refine lv_aload_n hx hb dJ5_append_c97b9_0 rfl (lv_at hl 0 rfl) ?_
  refine q_get hx hb hts hown hK hw.1 ci_X7 0 rfl 3 (by decide) fl_J5_79 rfl dJ5_append_c97b9_1 ?_
  refine lv_istore_n (lv' := [(2, .int (iI n)), (0, .ref b), (1, .int (iI x))]) hx hb dJ5_append_c97b9_4 rfl hl (by decide) rfl (fun ls hl => ?_)
  refine lv_iload_n hx hb dJ5_append_c97b9_5 rfl (lv_at hl 0 rfl) ?_
  refine lv_iload_n hx hb dJ5_append_c97b9_6 rfl (lv_at hl 2 rfl) ?_
  have hw : qw D A s.heap ([] ++ [(b, .inr (7, [.ref v, .int (iI 0), .int (iI 0), .int (iI n)])), (v, .inl (cB, cap, .inl (ai f)))]) H locs := hw
  refine q_callHS (As := [.int (iI x)]) (rest := [.int (iI n)]) (zb_ok z) hx hb hml hown hts hK (c_J6_stringSize hx9) yt_J6_stringSize_0f7a4 ml_J5_245 (by rw [hR]; decide) hw hA hB rfl rfl hl.1 (lv_room (Nat.le_of_ble_eq_true rfl)) dJ5_append_c97b9_7 (by rw [hR]; exact ⟨by show _ ≤ (1 : Nat); omega, by show _ ≤ (1402 : Nat); omega⟩) (fun u_7 H locs hu_7 hw => ?_)
  have hw : qw D A s.heap [(b, .inr (7, [.ref v, .int (iI 0), .int (iI 0), .int (iI n)])), (v, .inl (cB, cap, .inl (ai f)))] H locs := hw
  refine q_iadd hx hb dJ5_append_c97b9_10 ?_
  refine lv_istore_n (lv' := [(3, .int (iI (n + (nD x)))), (2, .int (iI n)), (0, .ref b), (1, .int (iI x))]) hx hb dJ5_append_c97b9_11 rfl hl (by decide) rfl (fun ls hl => ?_)
  refine lv_aload_n hx hb dJ5_append_c97b9_12 rfl (lv_at hl 2 rfl) ?_
  refine lv_iload_n hx hb dJ5_append_c97b9_13 rfl (lv_at hl 0 rfl) ?_
  have hw : qw D A s.heap ([(b, .inr (7, [.ref v, .int (iI 0), .int (iI 0), .int (iI n)])), (v, .inl (cB, cap, .inl (ai f)))] ++ []) H locs := hw
  refine q_callU (As := [.int (iI (n + nD x))]) (rest := []) (zb_ok z) hx hb hml hown hts hK (c_J5_ensureCap (n := n) hcap (by omega) hf) yv_J5_ensureCapacityInternal_d00df yv_J5_ensureCapacityInternal_d00df.1 im_J5_ensureCapacityInternal_d00df yv_J5_ensureCapacityInternal_d00df.2.2 sm_J5_ensureCapacityInternal_d00df sv_0 im_J5_ensureCapacityInternal_d00df ml_J5_100 (by rw [hR]; decide) hw hA hB 0 rfl rfl rfl hl.1 (lv_room (Nat.le_of_ble_eq_true rfl)) dJ5_append_c97b9_14 (by rw [hR]; exact ⟨by show _ ≤ (1 : Nat); omega, by show _ ≤ (1402 : Nat); omega⟩) (fun u_14 H locs hu_14 hw => ?_)
  obtain ⟨v1, cap1, f1⟩ := u_14
  obtain ⟨k1, k2, k3, k4, k5⟩ := hu_14
  have hw : qw D A s.heap [(b, .inr (7, [.ref v1, .int (iI 0), .int (iI 0), .int (iI n)])), (v1, .inl (cB, cap1, .inl (ai f1)))] H locs := hw
  refine lv_aload_n hx hb dJ5_append_c97b9_17 rfl (lv_at hl 2 rfl) ?_
  have hw : qw D A s.heap ([(b, .inr (7, [.ref v1, .int (iI 0), .int (iI 0), .int (iI n)]))] ++ [(v1, .inl (cB, cap1, .inl (ai f1)))]) H locs := hw
  refine q_callU (As := []) (rest := []) (zb_ok z) hx hb hml hown hts hK (c_J5_isLatin1 (n := n) (v := v1)) yv_J5_isLatin1_aae02 yv_J5_isLatin1_aae02.1 im_J5_isLatin1_aae02 yv_J5_isLatin1_aae02.2.2 sm_J5_isLatin1_aae02 su_J5_isLatin1_aae02 im_J5_isLatin1_aae02 ml_J5_83 (by rw [hR]; decide) hw hA hB 0 rfl rfl rfl hl.1 (lv_room (Nat.le_of_ble_eq_true rfl)) dJ5_append_c97b9_18 (by rw [hR]; exact ⟨by show _ ≤ (1 : Nat); omega, by show _ ≤ (1402 : Nat); omega⟩) (fun u_18 H locs hu_18 hw => ?_)
  have hw : qw D A s.heap [(b, .inr (7, [.ref v1, .int (iI 0), .int (iI 0), .int (iI n)])), (v1, .inl (cB, cap1, .inl (ai f1)))] H locs := hw
  refine q_if_eq (tgt := 37) hx hb dJ5_append_c97b9_21 (by decide) (by omega) (fun c_21 => absurd c_21 (by omega)) (fun c_21 => ?_)
  refine lv_iload_n hx hb dJ5_append_c97b9_24 rfl (lv_at hl 3 rfl) ?_
  refine lv_iload_n hx hb dJ5_append_c97b9_25 rfl (lv_at hl 0 rfl) ?_
  refine lv_aload_n hx hb dJ5_append_c97b9_26 rfl (lv_at hl 2 rfl) ?_
  refine q_get hx hb hts hown hK hw.1 ci_X7 0 rfl 0 (by decide) fl_J5_15 rfl dJ5_append_c97b9_27 ?_
  have hw : qw D A s.heap ([(v1, .inl (cB, cap1, .inl (ai f1)))] ++ [(b, .inr (7, [.ref v1, .int (iI 0), .int (iI 0), .int (iI n)]))]) H locs := (hw.sub [1, 0] (by decide) rfl)
  refine q_callHS (As := [.int (iI x), .int (iI (n + (nD x))), .ref v1]) (rest := []) (zb_ok z) hx hb hml hown hts hK (c_J6_getChars (n := n + nD x) hx9 k2 (by omega) k5) yt_J6_getChars_ba4f3 ml_J5_248 (by rw [hR]; decide) hw hA hB rfl rfl hl.1 (lv_room (Nat.le_of_ble_eq_true rfl)) dJ5_append_c97b9_30 (by rw [hR]; exact ⟨by show _ ≤ (1 : Nat); omega, by show _ ≤ (1402 : Nat); omega⟩) (fun u_30 H locs hu_30 hw => ?_)
  obtain ⟨f2, rfl⟩ : ∃ z, z = u_30 := ⟨_, rfl⟩
  obtain ⟨g1, g2, g3⟩ := hu_30
  have hw : qw D A s.heap [(v1, .inl (cB, cap1, .inl (ai f2))), (b, .inr (7, [.ref v1, .int (iI 0), .int (iI 0), .int (iI n)]))] H locs := hw
  refine lv_pop hx hb dJ5_append_c97b9_33 rfl ?_
  refine lv_goto (tgt := 48) hx hb dJ5_append_c97b9_34 (by decide) ?_
  refine lv_aload_n hx hb dJ5_append_c97b9_48 rfl (lv_at hl 2 rfl) ?_
  refine lv_iload_n hx hb dJ5_append_c97b9_49 rfl (lv_at hl 0 rfl) ?_
  refine q_put hx hb hts hown hK hw ci_X7 1 rfl 3 (by decide) fl_J5_79 rfl rfl rfl (Nat.le_of_ble_eq_true rfl) dJ5_append_c97b9_50 (fun H locs hw => ?_)
  have hw : qw D A s.heap [(v1, .inl (cB, cap1, .inl (ai f2))), (b, .inr (7, [.ref v1, .int (iI 0), .int (iI 0), .int (iI (n + (nD x)))]))] H locs := hw
  refine lv_aload_n hx hb dJ5_append_c97b9_53 rfl (lv_at hl 2 rfl) ?_
  have hw : qw D A s.heap [(b, .inr (7, [.ref v1, .int (iI 0), .int (iI 0), .int (iI (n + nD x))])), (v1, .inl (cB, cap1, .inl (ai f2)))] H locs := hw.sub [1, 0] (by decide) rfl
  refine W_wide (k := 1) (n := 1402) (by omega) (by omega) ?_
  exact hret (v1, cap1, f2) H locs 54 ls (show grF n f cap1 f2 (dgS x) from ⟨by rw [nD_len]; omega, k2, fun j h0 hj => (g1 j (by omega)).trans (k4 j h0 (by omega)), fun k hk => by have q := g2 k hk; rw [show n + nD x - nD x = n by omega] at q; exact q, g3⟩) hw dJ5_append_c97b9_54

set_option maxHeartbeats 4000000 in
set_option maxRecDepth 100000 in
theorem c_J4_appI (hx9 : 0 ≤ x ∧ x ≤ 999) (hcap : cap ≤ 1402) (hn : 0 ≤ n ∧ n ≤ (cap : Int)) (hr : n + nD x ≤ 700) (hf : by8 f) : qH l (ZB z) D (tyG cI cB cZ cS cJ) yJ4_append_bf812 (.code yJ4_append_bf812 cJ4_append_bf812 2 (Option.some (FieldType.object "java/lang/StringBuilder")) :: gW) 5 127 1 1402 [.ref b, .int (iI x)] [(b, .inr (7, [.ref v, .int (iI 0), .int (iI 0), .int (iI n)])), (v, .inl (cB, cap, .inl (ai f)))] (fun u : Nat × Nat × (Int → Int) => grF n f u.2.1 u.2.2 (dgS x)) (fun u => some (.ref (b))) (fun u => [(b, .inr (7, [.ref u.1, .int (iI 0), .int (iI 0), .int (iI (n + nD x))])), (u.1, .inl (cB, u.2.1, .inl (ai u.2.2)))]) := by
  refine qH_enterR (ad := fun u => b) (by decide) (Nat.le_of_ble_eq_true rfl) (Or.inl ⟨_, rfl⟩) (fun u hu => rfl) (fun p e R s m args below meth c Q ls A X hR hA hw hB hl hret => ?_)
  obtain ⟨hx, hb, hml, hown, hts, hK⟩ := X
  have hl : lv_has ls 2 [(0, .ref b), (1, .int (iI x))] := hl
  have hZ := hB.1.1.1
  suffices K : ∀ (H : Heap) (locs : List Loc), qw D A s.heap [(b, .inr (7, [.ref v, .int (iI 0), .int (iI 0), .int (iI n)])), (v, .inl (cB, cap, .inl (ai f)))] H locs → W p l e R s m args below meth c H locs 0 0 Q (F0 m 0 ls []) from K s.heap [] hw
  clear hw
  intro H locs hw
  refine lv_aload_n hx hb dJ4_append_bf812_0 rfl (lv_at hl 0 rfl) ?_
  refine lv_iload_n hx hb dJ4_append_bf812_1 rfl (lv_at hl 1 rfl) ?_
  have hw : qw D A s.heap ([(b, .inr (7, [.ref v, .int (iI 0), .int (iI 0), .int (iI n)])), (v, .inl (cB, cap, .inl (ai f)))] ++ []) H locs := hw
  refine q_callX (As := [.int (iI x)]) (rest := []) (zb_ok z) hx hb hml hown hts hK (c_J5_appI hx9 hcap hn hr hf) yv_J5_append_c97b9 sm_J5_append_c97b9 sp_J4 im_J5_append_c97b9 (by decide) ml_J4_53 (by rw [hR]; decide) hw hA hB 0 rfl rfl rfl hl.1 (lv_room (Nat.le_of_ble_eq_true rfl)) dJ4_append_bf812_2 (by rw [hR]; exact ⟨by show _ ≤ (1 : Nat); omega, by show _ ≤ (1402 : Nat); omega⟩) (fun u_2 H locs hu_2 hw => ?_)
  obtain ⟨v1, cap1, f1⟩ := u_2
  have hw : qw D A s.heap [(b, .inr (7, [.ref v1, .int (iI 0), .int (iI 0), .int (iI (n + nD x))])), (v1, .inl (cB, cap1, .inl (ai f1)))] H locs := hw
  refine lv_pop hx hb dJ4_append_bf812_5 rfl ?_
  refine lv_aload_n hx hb dJ4_append_bf812_6 rfl (lv_at hl 0 rfl) ?_
  refine W_wide (k := 1) (n := 1402) (by omega) (by omega) ?_
  exact hret (v1, cap1, f1) H locs 7 ls hu_2 hw dJ4_append_bf812_7

set_option maxHeartbeats 4000000 in
set_option maxRecDepth 100000 in
theorem c_J5_charAt (h1 : 0 ≤ k ∧ k < n) (h2 : n ≤ (cap : Int) ∧ n ≤ 700) (hcap : cap ≤ 1402) (h3 : 0 ≤ f k ∧ f k < 128) : qH l (ZB z) D (tyG cI cB cZ cS cJ) yJ5_charAt_5068e (.code yJ5_charAt_5068e cJ5_charAt_5068e 5 (Option.some FieldType.char) :: gW) 2 43 0 0 [.ref b, .int (iI k)] [(b, .inr (7, [.ref v, .int (iI 0), .int (iI 0), .int (iI n)])), (v, .inl (cB, cap, .inl (ai f)))] (fun u : Unit => True) (fun u => some (.int (iI (f k)))) (fun u => [(b, .inr (7, [.ref v, .int (iI 0), .int (iI 0), .int (iI n)])), (v, .inl (cB, cap, .inl (ai f)))]) := by
  refine qH_enterI (val := fun u => iI (f k)) (by decide) (Nat.le_of_ble_eq_true rfl) (fun u hu => ⟨rfl, (nar_c h3.1 h3.2)⟩) (fun p e R s m args below meth c Q ls A X hR hA hw hB hl hret => ?_)
  obtain ⟨hx, hb, hml, hown, hts, hK⟩ := X
  have hl : lv_has ls 5 [(0, .ref b), (1, .int (iI k))] := hl
  have hZ := hB.1.1.1
  suffices K : ∀ (H : Heap) (locs : List Loc), qw D A s.heap [(b, .inr (7, [.ref v, .int (iI 0), .int (iI 0), .int (iI n)])), (v, .inl (cB, cap, .inl (ai f)))] H locs → W p l e R s m args below meth c H locs 0 0 Q (F0 m 0 ls []) from K s.heap [] hw
  clear hw
  intro H locs hw
  refine lv_aload_n hx hb dJ5_charAt_5068e_0 rfl (lv_at hl 0 rfl) ?_
  refine q_get hx hb hts hown hK hw.1 ci_X7 0 rfl 1 (by decide) fl_J5_22 rfl dJ5_charAt_5068e_1 ?_
  refine lv_istore_n (lv' := [(2, .int (iI 0)), (0, .ref b), (1, .int (iI k))]) hx hb dJ5_charAt_5068e_4 rfl hl (by decide) rfl (fun ls hl => ?_)
  refine lv_aload_n hx hb dJ5_charAt_5068e_5 rfl (lv_at hl 1 rfl) ?_
  refine q_get hx hb hts hown hK hw.1 ci_X7 0 rfl 0 (by decide) fl_J5_15 rfl dJ5_charAt_5068e_6 ?_
  refine lv_astore_n (lv' := [(3, .ref v), (2, .int (iI 0)), (0, .ref b), (1, .int (iI k))]) hx hb dJ5_charAt_5068e_9 rfl hl (by decide) rfl (fun ls hl => ?_)
  refine lv_aload_n hx hb dJ5_charAt_5068e_10 rfl (lv_at hl 2 rfl) ?_
  refine q_get hx hb hts hown hK hw.1 ci_X7 0 rfl 3 (by decide) fl_J5_79 rfl dJ5_charAt_5068e_11 ?_
  refine lv_aload_n hx hb dJ5_charAt_5068e_14 rfl (lv_at hl 0 rfl) ?_
  refine va_alen hx hb hK hw.1 1 1 rfl rfl (v := iI (cap : Int)) rfl dJ5_charAt_5068e_15 ?_
  refine lv_iload_n hx hb dJ5_charAt_5068e_16 rfl (lv_at hl 1 rfl) ?_
  refine q_ishr0 hx hb dJ5_charAt_5068e_17 ?_
  refine q_min hx hb hml hl.1 hown hts ml_J5_138 ⟨by rw [hR]; decide, by rw [hR]; exact Nat.le_of_ble_eq_true rfl⟩ (by rw [hR]; exact ⟨by show _ ≤ (0 : Nat); omega, by show _ ≤ (0 : Nat); omega⟩) (by omega) dJ5_charAt_5068e_18 ?_
  refine q_top (n) (by unfold minZ; split <;> omega) ?_
  refine lv_istore (lv' := [(4, .int (iI (n))), (3, .ref v), (2, .int (iI 0)), (0, .ref b), (1, .int (iI k))]) hx hb dJ5_charAt_5068e_21 hl (by decide) rfl (fun ls hl => ?_)
  refine lv_iload_n hx hb dJ5_charAt_5068e_23 rfl (lv_at hl 4 rfl) ?_
  refine lv_iload hx hb dJ5_charAt_5068e_24 (lv_at hl 0 rfl) ?_
  refine q_callPSz (As := [.int (iI k), .int (iI n)]) (rest := []) (zz_ok z) hx hb hml hown hts hK (c_J0_checkIndex (zz_S z 0 (by decide)) (by omega)) yt_J0_checkIndex_df160 ml_J5_144 (by rw [hR]; decide) P_nil (z_M (zz_ok z) hZ hw hA [] rfl) rfl rfl hl.1 (lv_room (Nat.le_of_ble_eq_true rfl)) dJ5_charAt_5068e_26 (by rw [hR]; exact ⟨by show _ ≤ (0 : Nat); omega, by show _ ≤ (0 : Nat); omega⟩) ?_
  refine lv_iload_n hx hb dJ5_charAt_5068e_29 rfl (lv_at hl 2 rfl) ?_
  refine q_if_ne (tgt := 42) hx hb dJ5_charAt_5068e_30 (by decide) (by omega) (fun c_30 => absurd c_30 (by omega)) (fun c_30 => ?_)
  refine lv_aload_n hx hb dJ5_charAt_5068e_33 rfl (lv_at hl 1 rfl) ?_
  refine lv_iload_n hx hb dJ5_charAt_5068e_34 rfl (lv_at hl 4 rfl) ?_
  refine q_bald hx hb hK hw.1 1 1 rfl rfl (z := k) (v := (f k)) (by omega) rfl dJ5_charAt_5068e_35 ?_
  refine lv_sipush hx hb dJ5_charAt_5068e_36 (v := 255) rfl ?_
  refine lv_iand hx hb dJ5_charAt_5068e_39 ?_
  refine lv_i2c hx hb dJ5_charAt_5068e_40 (ch_32 _ h3.1 h3.2) ?_
  refine W_wide (k := 0) (n := 0) (by omega) (by omega) ?_
  exact hret () H locs 41 ls trivial hw dJ5_charAt_5068e_41

set_option maxHeartbeats 4000000 in
set_option maxRecDepth 100000 in
theorem c_J4_charAt (h1 : 0 ≤ k ∧ k < n) (h2 : n ≤ (cap : Int) ∧ n ≤ 700) (hcap : cap ≤ 1402) (h3 : 0 ≤ f k ∧ f k < 128) : qH l (ZB z) D (tyG cI cB cZ cS cJ) yJ4_charAt_5068e (.code yJ4_charAt_5068e cJ4_charAt_5068e 2 (Option.some FieldType.char) :: gW) 3 67 0 0 [.ref b, .int (iI k)] [(b, .inr (7, [.ref v, .int (iI 0), .int (iI 0), .int (iI n)])), (v, .inl (cB, cap, .inl (ai f)))] (fun u : Unit => True) (fun u => some (.int (iI (f k)))) (fun u => [(b, .inr (7, [.ref v, .int (iI 0), .int (iI 0), .int (iI n)])), (v, .inl (cB, cap, .inl (ai f)))]) := by
  refine qH_enterI (val := fun u => iI (f k)) (by decide) (Nat.le_of_ble_eq_true rfl) (fun u hu => ⟨rfl, (nar_c h3.1 h3.2)⟩) (fun p e R s m args below meth c Q ls A X hR hA hw hB hl hret => ?_)
  obtain ⟨hx, hb, hml, hown, hts, hK⟩ := X
  have hl : lv_has ls 2 [(0, .ref b), (1, .int (iI k))] := hl
  have hZ := hB.1.1.1
  suffices K : ∀ (H : Heap) (locs : List Loc), qw D A s.heap [(b, .inr (7, [.ref v, .int (iI 0), .int (iI 0), .int (iI n)])), (v, .inl (cB, cap, .inl (ai f)))] H locs → W p l e R s m args below meth c H locs 0 0 Q (F0 m 0 ls []) from K s.heap [] hw
  clear hw
  intro H locs hw
  refine lv_aload_n hx hb dJ4_charAt_5068e_0 rfl (lv_at hl 0 rfl) ?_
  refine lv_iload_n hx hb dJ4_charAt_5068e_1 rfl (lv_at hl 1 rfl) ?_
  have hw : qw D A s.heap ([(b, .inr (7, [.ref v, .int (iI 0), .int (iI 0), .int (iI n)])), (v, .inl (cB, cap, .inl (ai f)))] ++ []) H locs := hw
  refine q_callX (As := [.int (iI k)]) (rest := []) (zb_ok z) hx hb hml hown hts hK (c_J5_charAt h1 h2 hcap h3) yv_J5_charAt_5068e sm_J5_charAt_5068e sp_J4 im_J5_charAt_5068e (by decide) ml_J4_329 (by rw [hR]; decide) hw hA hB 0 rfl rfl rfl hl.1 (lv_room (Nat.le_of_ble_eq_true rfl)) dJ4_charAt_5068e_2 (by rw [hR]; exact ⟨by show _ ≤ (0 : Nat); omega, by show _ ≤ (0 : Nat); omega⟩) (fun u_2 H locs hu_2 hw => ?_)
  have hw : qw D A s.heap [(b, .inr (7, [.ref v, .int (iI 0), .int (iI 0), .int (iI n)])), (v, .inl (cB, cap, .inl (ai f)))] H locs := hw
  refine W_wide (k := 0) (n := 0) (by omega) (by omega) ?_
  exact hret () H locs 5 ls trivial hw dJ4_charAt_5068e_5
end BLD2
