/-! THE LAW'S SCRIPT: what nobody writes, with it; cell and pick -/
def ZL (z : Nat → Nat) (bb L : Nat) (xs : Nat → Int32) : ZT := fun A U H => ZB z A U H ∧ va_T .int bb L (fun j => .int (xs j)) A U H
theorem zl_ok (z : Nat → Nat) (bb L : Nat) (xs : Nat → Int32) : zOk (ZL z bb L xs) := by
  obtain ⟨o1, o2, o3, o4⟩ := zb_ok z
  exact ⟨fun A s U H hW h => ⟨o1 A s U H hW h.1, va_T.moved hW.alike h.2⟩, fun A u U H hv h => ⟨o2 A u U H hv h.1, va_T.moved (by rw [hv]; exact Vm.Alike.refl _) h.2⟩, fun A U H H1 h hq => ⟨o3 A U H H1 h.1 hq, h.2.kept hq⟩, fun A B U H h hq => ⟨o4 A B U H h.1 hq, h.2.narrow hq⟩⟩
section ZLS
variable {z : Nat → Nat} {bb L : Nat} {xs : Nat → Int32}
theorem zl_b : ∀ (A : Nat → Prop) (U : State) (H : Heap), ZL z bb L xs A U H → ZB z A U H := fun _ _ _ h => h.1
theorem zl_w : ∀ (A : Nat → Prop) (U : State) (H : Heap), ZL z bb L xs A U H → ZW z A U H := fun _ _ _ h => h.1.1
theorem zl_y : ∀ (A : Nat → Prop) (U : State) (H : Heap), ZL z bb L xs A U H → ZY z A U H := fun _ _ _ h => h.1.1.1
theorem zl_z : ∀ (A : Nat → Prop) (U : State) (H : Heap), ZL z bb L xs A U H → ZZ z A U H := fun _ _ _ h => h.1.1.1.1
end ZLS
/-- the law's cell and pick -/
def clV (xs : Nat → Int32) (L : Nat) (k : Int) : Int := if L = 0 then 0 else (xs (k.tmod (L : Int)).toNat ^^^ iI (40503 * k.tdiv (L : Int))).toInt
def pkV (xs : Nat → Int32) (L : Nat) (k n : Int) : Int := ((iI (clV xs L k) &&& iI 65535).toInt).tmod n
theorem and_rg (x : Int32) : 0 ≤ (x &&& iI 65535).toInt ∧ (x &&& iI 65535).toInt ≤ 65535 := by
  have e : (x &&& iI 65535).toBitVec = x.toBitVec &&& 65535#32 := rfl
  have h : (x.toBitVec &&& 65535#32).toNat ≤ 65535 := by
    rw [BitVec.toNat_and]
    exact Nat.and_le_right
  have h2 : (x &&& iI 65535).toInt = (x.toBitVec &&& 65535#32).toInt := by rw [← e]; rfl
  rw [h2, BitVec.toInt_eq_toNat_cond]
  rw [if_pos (by omega)]
  omega
theorem pkV_rg {xs : Nat → Int32} {L : Nat} {k n : Int} (hn : 0 < n) : 0 ≤ pkV xs L k n ∧ pkV xs L k n < n := by
  unfold pkV
  have q := and_rg (iI (clV xs L k))
  rw [Int.tmod_eq_emod_of_nonneg q.1]
  exact ⟨Int.emod_nonneg _ (by omega), Int.emod_lt_of_pos _ hn⟩
section LCL
variable {l : Launch} {z : Nat → Nat} {D : va_G} {ty : List (ClassId × FieldType)} {bb L : Nat} {xs : Nat → Int32}
set_option maxHeartbeats 4000000 in
theorem c_L_cell {k : Int} (hL : L ≤ 3072) (hk : 0 ≤ k ∧ k ≤ 1000) : qPz l (ZL z bb L xs) D ty yL_cell cL_cell 2 (Option.some FieldType.int) 0 0 [.ref bb, .int (iI k)] [] (some (.int (iI (clV xs L k)))) := by
  refine qPz_enter (by decide) (Nat.le_of_ble_eq_true rfl) (nar_i _) (fun p e R s m args below meth c Q ls X hR hP hZ hl hret => ?_)
  obtain ⟨hx, hb, hml, hown, hts, hK⟩ := X
  have hl : lv_has ls 2 [(0, .ref bb), (1, .int (iI k))] := hl
  have hT := hZ.2
  refine lv_aload_n hx hb dL_cell_0 rfl (lv_at hl 0 rfl) ?_
  refine va_tlen hx hb hT va_S.rf (v := iI (L : Int)) rfl dL_cell_1 ?_
  refine q_if_ne (tgt := 9) hx hb dL_cell_2 (by decide) (by omega) (fun c_2 => ?_) (fun c_2 => ?_)
  · have hm := Int.tmod_eq_emod_of_nonneg (b := (L : Int)) hk.1
    have hm1 : 0 ≤ k.tmod (L : Int) := by rw [hm]; exact Int.emod_nonneg _ c_2
    have hm2 : k.tmod (L : Int) < (L : Int) := by rw [hm]; exact Int.emod_lt_of_pos _ (by omega)
    refine lv_aload_n hx hb dL_cell_9 rfl (lv_at hl 0 rfl) ?_
    refine lv_iload_n hx hb dL_cell_10 rfl (lv_at hl 1 rfl) ?_
    refine lv_aload_n hx hb dL_cell_11 rfl (lv_at hl 0 rfl) ?_
    refine va_tlen hx hb hT va_S.rf (v := iI (L : Int)) rfl dL_cell_12 ?_
    refine q_irem hx hb dL_cell_13 (by omega) (by omega) (by omega) ?_
    refine va_ti hx hb hT va_S.rf (iI_in hm1 hm2 (by omega)) (v := .int (xs (k.tmod (L : Int)).toNat)) (by rw [iI_cl hm1 (by omega)]) dL_cell_14 ?_
    refine q_ldc (z := 40503) hx hb hown hts kc_L_7 (by decide) dL_cell_15 ?_
    refine lv_iload_n hx hb dL_cell_17 rfl (lv_at hl 1 rfl) ?_
    refine lv_aload_n hx hb dL_cell_18 rfl (lv_at hl 0 rfl) ?_
    refine va_tlen hx hb hT va_S.rf (v := iI (L : Int)) rfl dL_cell_19 ?_
    refine q_idiv hx hb dL_cell_20 (by omega) (by omega) (by omega) ?_
    refine q_imul hx hb dL_cell_21 ?_
    refine lv_ixor hx hb dL_cell_22 ?_
    have e : xs (k.tmod (L : Int)).toNat ^^^ iI (40503 * k.tdiv (L : Int)) = iI (clV xs L k) := by
      unfold clV
      rw [if_neg (by omega), iI_of]
    rw [e]
    exact hret 23 ls dL_cell_23
  · have e : clV xs L k = 0 := by
      unfold clV
      rw [if_pos (by omega)]
    refine q_iconst hx hb dL_cell_5 ?_
    refine lv_goto (tgt := 23) hx hb dL_cell_6 (by decide) ?_
    rw [e] at hret
    exact hret 23 ls dL_cell_23
set_option maxHeartbeats 4000000 in
theorem c_L_pick (k n : Int) (hL : L ≤ 3072) (hk : 0 ≤ k ∧ k ≤ 1000) (hn : 0 < n ∧ n ≤ 100000) : qPz l (ZL z bb L xs) D ty yL_pick cL_pick 3 (Option.some FieldType.int) 1 21 [.ref bb, .int (iI k), .int (iI n)] [] (some (.int (iI (pkV xs L k n)))) := by
  refine qPz_enter (by decide) (Nat.le_of_ble_eq_true rfl) (nar_i _) (fun p e R s m args below meth c Q ls X hR hP hZ hl hret => ?_)
  obtain ⟨hx, hb, hml, hown, hts, hK⟩ := X
  have hl : lv_has ls 3 [(0, .ref bb), (1, .int (iI k)), (2, .int (iI n))] := hl
  refine lv_aload_n hx hb dL_pick_0 rfl (lv_at hl 0 rfl) ?_
  refine lv_iload_n hx hb dL_pick_1 rfl (lv_at hl 1 rfl) ?_
  refine q_callPSz (As := [.ref bb, .int (iI k)]) (rest := []) (zl_ok z bb L xs) hx hb hml hown hts hK (c_L_cell hL hk) yt_L_cell ml_L_8 (by rw [hR]; decide) P_nil hZ rfl rfl hl.1 (lv_room (Nat.le_of_ble_eq_true rfl)) dL_pick_2 ⟨by rw [hR]; exact Nat.zero_le _, by rw [hR]; exact Nat.zero_le _⟩ ?_
  refine q_ldc (z := 65535) hx hb hown hts kc_L_14 (by decide) dL_pick_5 ?_
  refine lv_iand hx hb dL_pick_7 ?_
  rw [← iI_of (iI (clV xs L k) &&& iI 65535)]
  have q := and_rg (iI (clV xs L k))
  refine lv_iload_n hx hb dL_pick_8 rfl (lv_at hl 2 rfl) ?_
  refine q_irem hx hb dL_pick_9 (by omega) (by omega) (by omega) ?_
  exact hret 10 ls dL_pick_10
end LCL
