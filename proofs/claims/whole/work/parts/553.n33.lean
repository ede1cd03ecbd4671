abbrev zC : Nat → Int → Int := fun _ _ => 0
abbrev zH : Nat → Nat → Int → Int := fun _ => zC
/-- the setup of a new object -/
def tI : Nat → Int → Int := puT (fun _ => 0) (fun _ => 0) (fun _ => 0) (fun _ => 0) (fun _ => 0) (fun _ => 0) (fun _ => 0) usK 0 50 30 1
theorem WT_I : WT tI := ⟨by decide, by decide, fun s a b => absurd b (show ¬ s < 0 by omega)⟩
theorem RT_I {dr : Int → Int} (h : ∀ k : Int, 0 ≤ k → k < 288 → dr k = dfV k) : RT (uI (uI dr 0 50) 1 30) tI := by
  have d := fun (k : Int) (p : 0 ≤ k) (q : k < 288) (r : k ≠ 0) (s : k ≠ 1) => (uI_n (uI dr 0 50) 1 30 s).trans ((uI_n dr 0 50 r).trans (h k p q))
  refine ⟨⟨?_, ?_, ?_, ?_⟩, fun k p q => ?_, fun s p x y c => absurd y (show ¬ s < 0 by omega)⟩
  · rw [uI_n _ _ _ (by decide), uI_s]; rfl
  · rw [uI_s]; rfl
  · rw [d _ (by decide) (by decide) (by decide) (by decide)]; rfl
  · rw [d _ (by decide) (by decide) (by decide) (by decide)]; rfl
  · rw [d _ (by omega) (by omega) (by omega) (by omega)]
    have c : k = 0 ∨ k = 1 ∨ k = 2 ∨ k = 3 := by omega
    rcases c with rfl | rfl | rfl | rfl <;> rfl
variable {l : Launch} {z : Nat → Nat} {D : va_G} {cI cB cZ cS cJ : ClassId}
set_option maxHeartbeats 4000000 in
set_option maxRecDepth 100000 in
theorem c_X7_init {q0 : Nat} : qH l (ZW z) D (tyG cI cB cZ cS cJ) yX7_init (.code yX7_init cX7_init 1 none :: gW) 3 80 9 11167 [.ref q0] [(q0, .inr (7, [.int (iI 0), .null, .int (iI 0), .int (iI 0), .int (iI 0), .int (iI 0), .int (iI 0), .int (iI 0), .int (iI 0), .int (iI 0), .null, .null, .int (iI 0), .int (iI 0), .null, .null, .null, .int (iI 0), .null, .null, .null]))] (fun u : (Nat → Nat) × (Int → Int) × (Int → Int) × (Int → Int) => u.1 0 = q0 ∧ (∀ E : Nat → Int → Int, frC tI E → WM u.2.2.1 u.2.2.2 tI E)) (fun _ => none) (fun u => (mW u.1 cI cB cZ 0 0 0 0 0 0 0 0 0 0 0 0 (fun _ => 0) u.2.1 u.2.2.1 u.2.2.2 (fun _ => 0) (fun _ => 0) (fun _ => 0) (uI (uI (fun _ => 0) 0 0) 1 0) (fun _ => 0))) := by
  refine qH_enterC (by decide) (Nat.le_of_ble_eq_true rfl) (fun p e R s m args below meth c Q ls A X hR hA hw hZ hl hnm hret => ?_)
  obtain ⟨hx, hb, hml, hown, hts, hK⟩ := X
  have hl : lv_has ls 1 [(0, .ref q0)] := hl
  suffices K : ∀ (H : Heap) (locs : List Loc), qw D A s.heap [(q0, .inr (7, [.int (iI 0), .null, .int (iI 0), .int (iI 0), .int (iI 0), .int (iI 0), .int (iI 0), .int (iI 0), .int (iI 0), .int (iI 0), .null, .null, .int (iI 0), .int (iI 0), .null, .null, .null, .int (iI 0), .null, .null, .null]))] H locs → W p l e R s m args below meth c H locs 0 0 Q (F0 m 0 ls []) from K s.heap [] hw
  clear hw
  intro H locs hw
  refine lv_aload_n hx hb dX7_init_0 rfl (lv_at hl 0 rfl) ?_
  refine q_objI hx hb hml hown hts ml_X7_1 hl.1 (lv_room (Nat.le_of_ble_eq_true rfl)) dX7_init_1 (by rw [hR]; exact ⟨Nat.le_of_ble_eq_true rfl, Nat.le_of_ble_eq_true rfl⟩) ?_
  refine lv_aload_n hx hb dX7_init_4 rfl (lv_at hl 0 rfl) ?_
  refine q_sipush hx hb dX7_init_5 rfl ?_
  refine q_newA (at0 := .byte) (ft := .byte) (t0 := 1) (N := 700) (cA0 := cB) (a0 := (700, .inl (ai (fun _ => 0)))) hx hb hts hK hw hA ac_byte rfl rfl rfl (Nat.le_of_ble_eq_true rfl) (Nat.le_of_ble_eq_true rfl) ⟨by rw [hR]; exact Nat.le_of_ble_eq_true rfl, by rw [hR]; exact Nat.le_of_ble_eq_true rfl⟩ dX7_init_8 (fun q_1 H hw => ?_)
  replace hw : qw D A s.heap [(q0, .inr (7, [.int (iI 0), .null, .int (iI 0), .int (iI 0), .int (iI 0), .int (iI 0), .int (iI 0), .int (iI 0), .int (iI 0), .int (iI 0), .null, .null, .int (iI 0), .int (iI 0), .null, .null, .null, .int (iI 0), .null, .null, .null])), (q_1, .inl (cB, 700, .inl (ai (fun _ => 0))))] H locs := hw
  refine q_putF hx hb hts hown hK hw ci_X7 0 rfl 1 (by decide) fl_X7_7 rfl hnm rfl rfl rfl (Nat.le_of_ble_eq_true rfl) dX7_init_10 (fun H locs hw => ?_)
  replace hw : qw D A s.heap [(q0, .inr (7, [.int (iI 0), .ref q_1, .int (iI 0), .int (iI 0), .int (iI 0), .int (iI 0), .int (iI 0), .int (iI 0), .int (iI 0), .int (iI 0), .null, .null, .int (iI 0), .int (iI 0), .null, .null, .null, .int (iI 0), .null, .null, .null])), (q_1, .inl (cB, 700, .inl (ai (fun _ => 0))))] H locs := hw
  refine lv_aload_n hx hb dX7_init_13 rfl (lv_at hl 0 rfl) ?_
  refine q_sipush hx hb dX7_init_14 rfl ?_
  refine q_newA (at0 := .int) (ft := .int) (t0 := 0) (N := 288) (cA0 := cI) (a0 := (288, .inl (ai (fun _ => 0)))) hx hb hts hK hw hA ac_int rfl rfl rfl (Nat.le_of_ble_eq_true rfl) (Nat.le_of_ble_eq_true rfl) ⟨by rw [hR]; exact Nat.le_of_ble_eq_true rfl, by rw [hR]; exact Nat.le_of_ble_eq_true rfl⟩ dX7_init_17 (fun q_2 H hw => ?_)
  replace hw : qw D A s.heap [(q0, .inr (7, [.int (iI 0), .ref q_1, .int (iI 0), .int (iI 0), .int (iI 0), .int (iI 0), .int (iI 0), .int (iI 0), .int (iI 0), .int (iI 0), .null, .null, .int (iI 0), .int (iI 0), .null, .null, .null, .int (iI 0), .null, .null, .null])), (q_1, .inl (cB, 700, .inl (ai (fun _ => 0)))), (q_2, .inl (cI, 288, .inl (ai (fun _ => 0))))] H locs := hw
  refine q_putF hx hb hts hown hK hw ci_X7 0 rfl 10 (by decide) fl_X7_13 rfl hnm rfl rfl rfl (Nat.le_of_ble_eq_true rfl) dX7_init_19 (fun H locs hw => ?_)
  replace hw : qw D A s.heap [(q0, .inr (7, [.int (iI 0), .ref q_1, .int (iI 0), .int (iI 0), .int (iI 0), .int (iI 0), .int (iI 0), .int (iI 0), .int (iI 0), .int (iI 0), .ref q_2, .null, .int (iI 0), .int (iI 0), .null, .null, .null, .int (iI 0), .null, .null, .null])), (q_1, .inl (cB, 700, .inl (ai (fun _ => 0)))), (q_2, .inl (cI, 288, .inl (ai (fun _ => 0))))] H locs := hw
  refine lv_aload_n hx hb dX7_init_22 rfl (lv_at hl 0 rfl) ?_
  refine q_sipush hx hb dX7_init_23 rfl ?_
  refine q_newA (at0 := .int) (ft := .int) (t0 := 0) (N := 288) (cA0 := cI) (a0 := (288, .inl (ai (fun _ => 0)))) hx hb hts hK hw hA ac_int rfl rfl rfl (Nat.le_of_ble_eq_true rfl) (Nat.le_of_ble_eq_true rfl) ⟨by rw [hR]; exact Nat.le_of_ble_eq_true rfl, by rw [hR]; exact Nat.le_of_ble_eq_true rfl⟩ dX7_init_26 (fun q_3 H hw => ?_)
  replace hw : qw D A s.heap [(q0, .inr (7, [.int (iI 0), .ref q_1, .int (iI 0), .int (iI 0), .int (iI 0), .int (iI 0), .int (iI 0), .int (iI 0), .int (iI 0), .int (iI 0), .ref q_2, .null, .int (iI 0), .int (iI 0), .null, .null, .null, .int (iI 0), .null, .null, .null])), (q_1, .inl (cB, 700, .inl (ai (fun _ => 0)))), (q_2, .inl (cI, 288, .inl (ai (fun _ => 0)))), (q_3, .inl (cI, 288, .inl (ai (fun _ => 0))))] H locs := hw
  refine q_putF hx hb hts hown hK hw ci_X7 0 rfl 11 (by decide) fl_X7_17 rfl hnm rfl rfl rfl (Nat.le_of_ble_eq_true rfl) dX7_init_28 (fun H locs hw => ?_)
  replace hw : qw D A s.heap [(q0, .inr (7, [.int (iI 0), .ref q_1, .int (iI 0), .int (iI 0), .int (iI 0), .int (iI 0), .int (iI 0), .int (iI 0), .int (iI 0), .int (iI 0), .ref q_2, .ref q_3, .int (iI 0), .int (iI 0), .null, .null, .null, .int (iI 0), .null, .null, .null])), (q_1, .inl (cB, 700, .inl (ai (fun _ => 0)))), (q_2, .inl (cI, 288, .inl (ai (fun _ => 0)))), (q_3, .inl (cI, 288, .inl (ai (fun _ => 0))))] H locs := hw
  refine lv_aload_n hx hb dX7_init_31 rfl (lv_at hl 0 rfl) ?_
  refine q_sipush hx hb dX7_init_32 rfl ?_
  refine q_newA (at0 := .int) (ft := .int) (t0 := 0) (N := 706) (cA0 := cI) (a0 := (706, .inl (ai (fun _ => 0)))) hx hb hts hK hw hA ac_int rfl rfl rfl (Nat.le_of_ble_eq_true rfl) (Nat.le_of_ble_eq_true rfl) ⟨by rw [hR]; exact Nat.le_of_ble_eq_true rfl, by rw [hR]; exact Nat.le_of_ble_eq_true rfl⟩ dX7_init_35 (fun q_4 H hw => ?_)
  replace hw : qw D A s.heap [(q0, .inr (7, [.int (iI 0), .ref q_1, .int (iI 0), .int (iI 0), .int (iI 0), .int (iI 0), .int (iI 0), .int (iI 0), .int (iI 0), .int (iI 0), .ref q_2, .ref q_3, .int (iI 0), .int (iI 0), .null, .null, .null, .int (iI 0), .null, .null, .null])), (q_1, .inl (cB, 700, .inl (ai (fun _ => 0)))), (q_2, .inl (cI, 288, .inl (ai (fun _ => 0)))), (q_3, .inl (cI, 288, .inl (ai (fun _ => 0)))), (q_4, .inl (cI, 706, .inl (ai (fun _ => 0))))] H locs := hw
  refine q_putF hx hb hts hown hK hw ci_X7 0 rfl 14 (by decide) fl_X7_20 rfl hnm rfl rfl rfl (Nat.le_of_ble_eq_true rfl) dX7_init_37 (fun H locs hw => ?_)
  replace hw : qw D A s.heap [(q0, .inr (7, [.int (iI 0), .ref q_1, .int (iI 0), .int (iI 0), .int (iI 0), .int (iI 0), .int (iI 0), .int (iI 0), .int (iI 0), .int (iI 0), .ref q_2, .ref q_3, .int (iI 0), .int (iI 0), .ref q_4, .null, .null, .int (iI 0), .null, .null, .null])), (q_1, .inl (cB, 700, .inl (ai (fun _ => 0)))), (q_2, .inl (cI, 288, .inl (ai (fun _ => 0)))), (q_3, .inl (cI, 288, .inl (ai (fun _ => 0)))), (q_4, .inl (cI, 706, .inl (ai (fun _ => 0))))] H locs := hw
  refine lv_aload_n hx hb dX7_init_40 rfl (lv_at hl 0 rfl) ?_
  refine q_sipush hx hb dX7_init_41 rfl ?_
  refine q_newA (at0 := .int) (ft := .int) (t0 := 0) (N := 706) (cA0 := cI) (a0 := (706, .inl (ai (fun _ => 0)))) hx hb hts hK hw hA ac_int rfl rfl rfl (Nat.le_of_ble_eq_true rfl) (Nat.le_of_ble_eq_true rfl) ⟨by rw [hR]; exact Nat.le_of_ble_eq_true rfl, by rw [hR]; exact Nat.le_of_ble_eq_true rfl⟩ dX7_init_44 (fun q_5 H hw => ?_)
  replace hw : qw D A s.heap [(q0, .inr (7, [.int (iI 0), .ref q_1, .int (iI 0), .int (iI 0), .int (iI 0), .int (iI 0), .int (iI 0), .int (iI 0), .int (iI 0), .int (iI 0), .ref q_2, .ref q_3, .int (iI 0), .int (iI 0), .ref q_4, .null, .null, .int (iI 0), .null, .null, .null])), (q_1, .inl (cB, 700, .inl (ai (fun _ => 0)))), (q_2, .inl (cI, 288, .inl (ai (fun _ => 0)))), (q_3, .inl (cI, 288, .inl (ai (fun _ => 0)))), (q_4, .inl (cI, 706, .inl (ai (fun _ => 0)))), (q_5, .inl (cI, 706, .inl (ai (fun _ => 0))))] H locs := hw
  refine q_putF hx hb hts hown hK hw ci_X7 0 rfl 15 (by decide) fl_X7_23 rfl hnm rfl rfl rfl (Nat.le_of_ble_eq_true rfl) dX7_init_46 (fun H locs hw => ?_)
  replace hw : qw D A s.heap [(q0, .inr (7, [.int (iI 0), .ref q_1, .int (iI 0), .int (iI 0), .int (iI 0), .int (iI 0), .int (iI 0), .int (iI 0), .int (iI 0), .int (iI 0), .ref q_2, .ref q_3, .int (iI 0), .int (iI 0), .ref q_4, .ref q_5, .null, .int (iI 0), .null, .null, .null])), (q_1, .inl (cB, 700, .inl (ai (fun _ => 0)))), (q_2, .inl (cI, 288, .inl (ai (fun _ => 0)))), (q_3, .inl (cI, 288, .inl (ai (fun _ => 0)))), (q_4, .inl (cI, 706, .inl (ai (fun _ => 0)))), (q_5, .inl (cI, 706, .inl (ai (fun _ => 0))))] H locs := hw
  refine lv_aload_n hx hb dX7_init_49 rfl (lv_at hl 0 rfl) ?_
  refine q_sipush hx hb dX7_init_50 rfl ?_
  refine q_newA (at0 := .int) (ft := .int) (t0 := 0) (N := 7060) (cA0 := cI) (a0 := (7060, .inl (ai (fun _ => 0)))) hx hb hts hK hw hA ac_int rfl rfl rfl (Nat.le_of_ble_eq_true rfl) (Nat.le_of_ble_eq_true rfl) ⟨by rw [hR]; exact Nat.le_of_ble_eq_true rfl, by rw [hR]; exact Nat.le_of_ble_eq_true rfl⟩ dX7_init_53 (fun q_6 H hw => ?_)
  replace hw : qw D A s.heap [(q0, .inr (7, [.int (iI 0), .ref q_1, .int (iI 0), .int (iI 0), .int (iI 0), .int (iI 0), .int (iI 0), .int (iI 0), .int (iI 0), .int (iI 0), .ref q_2, .ref q_3, .int (iI 0), .int (iI 0), .ref q_4, .ref q_5, .null, .int (iI 0), .null, .null, .null])), (q_1, .inl (cB, 700, .inl (ai (fun _ => 0)))), (q_2, .inl (cI, 288, .inl (ai (fun _ => 0)))), (q_3, .inl (cI, 288, .inl (ai (fun _ => 0)))), (q_4, .inl (cI, 706, .inl (ai (fun _ => 0)))), (q_5, .inl (cI, 706, .inl (ai (fun _ => 0)))), (q_6, .inl (cI, 7060, .inl (ai (fun _ => 0))))] H locs := hw
  refine q_putF hx hb hts hown hK hw ci_X7 0 rfl 16 (by decide) fl_X7_26 rfl hnm rfl rfl rfl (Nat.le_of_ble_eq_true rfl) dX7_init_55 (fun H locs hw => ?_)
  replace hw : qw D A s.heap [(q0, .inr (7, [.int (iI 0), .ref q_1, .int (iI 0), .int (iI 0), .int (iI 0), .int (iI 0), .int (iI 0), .int (iI 0), .int (iI 0), .int (iI 0), .ref q_2, .ref q_3, .int (iI 0), .int (iI 0), .ref q_4, .ref q_5, .ref q_6, .int (iI 0), .null, .null, .null])), (q_1, .inl (cB, 700, .inl (ai (fun _ => 0)))), (q_2, .inl (cI, 288, .inl (ai (fun _ => 0)))), (q_3, .inl (cI, 288, .inl (ai (fun _ => 0)))), (q_4, .inl (cI, 706, .inl (ai (fun _ => 0)))), (q_5, .inl (cI, 706, .inl (ai (fun _ => 0)))), (q_6, .inl (cI, 7060, .inl (ai (fun _ => 0))))] H locs := hw
  refine lv_aload_n hx hb dX7_init_58 rfl (lv_at hl 0 rfl) ?_
  refine q_sipush hx hb dX7_init_59 rfl ?_
  refine q_newA (at0 := .int) (ft := .int) (t0 := 0) (N := 1412) (cA0 := cI) (a0 := (1412, .inl (ai (fun _ => 0)))) hx hb hts hK hw hA ac_int rfl rfl rfl (Nat.le_of_ble_eq_true rfl) (Nat.le_of_ble_eq_true rfl) ⟨by rw [hR]; exact Nat.le_of_ble_eq_true rfl, by rw [hR]; exact Nat.le_of_ble_eq_true rfl⟩ dX7_init_62 (fun q_7 H hw => ?_)
  replace hw : qw D A s.heap [(q0, .inr (7, [.int (iI 0), .ref q_1, .int (iI 0), .int (iI 0), .int (iI 0), .int (iI 0), .int (iI 0), .int (iI 0), .int (iI 0), .int (iI 0), .ref q_2, .ref q_3, .int (iI 0), .int (iI 0), .ref q_4, .ref q_5, .ref q_6, .int (iI 0), .null, .null, .null])), (q_1, .inl (cB, 700, .inl (ai (fun _ => 0)))), (q_2, .inl (cI, 288, .inl (ai (fun _ => 0)))), (q_3, .inl (cI, 288, .inl (ai (fun _ => 0)))), (q_4, .inl (cI, 706, .inl (ai (fun _ => 0)))), (q_5, .inl (cI, 706, .inl (ai (fun _ => 0)))), (q_6, .inl (cI, 7060, .inl (ai (fun _ => 0)))), (q_7, .inl (cI, 1412, .inl (ai (fun _ => 0))))] H locs := hw
  refine q_putF hx hb hts hown hK hw ci_X7 0 rfl 18 (by decide) fl_X7_29 rfl hnm rfl rfl rfl (Nat.le_of_ble_eq_true rfl) dX7_init_64 (fun H locs hw => ?_)
  replace hw : qw D A s.heap [(q0, .inr (7, [.int (iI 0), .ref q_1, .int (iI 0), .int (iI 0), .int (iI 0), .int (iI 0), .int (iI 0), .int (iI 0), .int (iI 0), .int (iI 0), .ref q_2, .ref q_3, .int (iI 0), .int (iI 0), .ref q_4, .ref q_5, .ref q_6, .int (iI 0), .ref q_7, .null, .null])), (q_1, .inl (cB, 700, .inl (ai (fun _ => 0)))), (q_2, .inl (cI, 288, .inl (ai (fun _ => 0)))), (q_3, .inl (cI, 288, .inl (ai (fun _ => 0)))), (q_4, .inl (cI, 706, .inl (ai (fun _ => 0)))), (q_5, .inl (cI, 706, .inl (ai (fun _ => 0)))), (q_6, .inl (cI, 7060, .inl (ai (fun _ => 0)))), (q_7, .inl (cI, 1412, .inl (ai (fun _ => 0))))] H locs := hw
  refine lv_aload_n hx hb dX7_init_67 rfl (lv_at hl 0 rfl) ?_
  refine q_iconst hx hb dX7_init_68 ?_
  refine q_newA (at0 := .boolean) (ft := .boolean) (t0 := 2) (N := 2) (cA0 := cZ) (a0 := (2, .inl (ai (fun _ => 0)))) hx hb hts hK hw hA ac_boolean rfl rfl rfl (Nat.le_of_ble_eq_true rfl) (Nat.le_of_ble_eq_true rfl) ⟨by rw [hR]; exact Nat.le_of_ble_eq_true rfl, by rw [hR]; exact Nat.le_of_ble_eq_true rfl⟩ dX7_init_69 (fun q_8 H hw => ?_)
  replace hw : qw D A s.heap [(q0, .inr (7, [.int (iI 0), .ref q_1, .int (iI 0), .int (iI 0), .int (iI 0), .int (iI 0), .int (iI 0), .int (iI 0), .int (iI 0), .int (iI 0), .ref q_2, .ref q_3, .int (iI 0), .int (iI 0), .ref q_4, .ref q_5, .ref q_6, .int (iI 0), .ref q_7, .null, .null])), (q_1, .inl (cB, 700, .inl (ai (fun _ => 0)))), (q_2, .inl (cI, 288, .inl (ai (fun _ => 0)))), (q_3, .inl (cI, 288, .inl (ai (fun _ => 0)))), (q_4, .inl (cI, 706, .inl (ai (fun _ => 0)))), (q_5, .inl (cI, 706, .inl (ai (fun _ => 0)))), (q_6, .inl (cI, 7060, .inl (ai (fun _ => 0)))), (q_7, .inl (cI, 1412, .inl (ai (fun _ => 0)))), (q_8, .inl (cZ, 2, .inl (ai (fun _ => 0))))] H locs := hw
  refine q_putF hx hb hts hown hK hw ci_X7 0 rfl 19 (by decide) fl_X7_32 rfl hnm rfl rfl rfl (Nat.le_of_ble_eq_true rfl) dX7_init_71 (fun H locs hw => ?_)
  replace hw : qw D A s.heap [(q0, .inr (7, [.int (iI 0), .ref q_1, .int (iI 0), .int (iI 0), .int (iI 0), .int (iI 0), .int (iI 0), .int (iI 0), .int (iI 0), .int (iI 0), .ref q_2, .ref q_3, .int (iI 0), .int (iI 0), .ref q_4, .ref q_5, .ref q_6, .int (iI 0), .ref q_7, .ref q_8, .null])), (q_1, .inl (cB, 700, .inl (ai (fun _ => 0)))), (q_2, .inl (cI, 288, .inl (ai (fun _ => 0)))), (q_3, .inl (cI, 288, .inl (ai (fun _ => 0)))), (q_4, .inl (cI, 706, .inl (ai (fun _ => 0)))), (q_5, .inl (cI, 706, .inl (ai (fun _ => 0)))), (q_6, .inl (cI, 7060, .inl (ai (fun _ => 0)))), (q_7, .inl (cI, 1412, .inl (ai (fun _ => 0)))), (q_8, .inl (cZ, 2, .inl (ai (fun _ => 0))))] H locs := hw
  refine lv_aload_n hx hb dX7_init_74 rfl (lv_at hl 0 rfl) ?_
  refine q_iconst hx hb dX7_init_75 ?_
  refine q_newA (at0 := .int) (ft := .int) (t0 := 0) (N := 5) (cA0 := cI) (a0 := (5, .inl (ai (fun _ => 0)))) hx hb hts hK hw hA ac_int rfl rfl rfl (Nat.le_of_ble_eq_true rfl) (Nat.le_of_ble_eq_true rfl) ⟨by rw [hR]; exact Nat.le_of_ble_eq_true rfl, by rw [hR]; exact Nat.le_of_ble_eq_true rfl⟩ dX7_init_76 (fun q_9 H hw => ?_)
  replace hw : qw D A s.heap [(q0, .inr (7, [.int (iI 0), .ref q_1, .int (iI 0), .int (iI 0), .int (iI 0), .int (iI 0), .int (iI 0), .int (iI 0), .int (iI 0), .int (iI 0), .ref q_2, .ref q_3, .int (iI 0), .int (iI 0), .ref q_4, .ref q_5, .ref q_6, .int (iI 0), .ref q_7, .ref q_8, .null])), (q_1, .inl (cB, 700, .inl (ai (fun _ => 0)))), (q_2, .inl (cI, 288, .inl (ai (fun _ => 0)))), (q_3, .inl (cI, 288, .inl (ai (fun _ => 0)))), (q_4, .inl (cI, 706, .inl (ai (fun _ => 0)))), (q_5, .inl (cI, 706, .inl (ai (fun _ => 0)))), (q_6, .inl (cI, 7060, .inl (ai (fun _ => 0)))), (q_7, .inl (cI, 1412, .inl (ai (fun _ => 0)))), (q_8, .inl (cZ, 2, .inl (ai (fun _ => 0)))), (q_9, .inl (cI, 5, .inl (ai (fun _ => 0))))] H locs := hw
  refine q_putF hx hb hts hown hK hw ci_X7 0 rfl 20 (by decide) fl_X7_36 rfl hnm rfl rfl rfl (Nat.le_of_ble_eq_true rfl) dX7_init_78 (fun H locs hw => ?_)
  replace hw : qw D A s.heap [(q0, .inr (7, [.int (iI 0), .ref q_1, .int (iI 0), .int (iI 0), .int (iI 0), .int (iI 0), .int (iI 0), .int (iI 0), .int (iI 0), .int (iI 0), .ref q_2, .ref q_3, .int (iI 0), .int (iI 0), .ref q_4, .ref q_5, .ref q_6, .int (iI 0), .ref q_7, .ref q_8, .ref q_9])), (q_1, .inl (cB, 700, .inl (ai (fun _ => 0)))), (q_2, .inl (cI, 288, .inl (ai (fun _ => 0)))), (q_3, .inl (cI, 288, .inl (ai (fun _ => 0)))), (q_4, .inl (cI, 706, .inl (ai (fun _ => 0)))), (q_5, .inl (cI, 706, .inl (ai (fun _ => 0)))), (q_6, .inl (cI, 7060, .inl (ai (fun _ => 0)))), (q_7, .inl (cI, 1412, .inl (ai (fun _ => 0)))), (q_8, .inl (cZ, 2, .inl (ai (fun _ => 0)))), (q_9, .inl (cI, 5, .inl (ai (fun _ => 0))))] H locs := hw
  obtain ⟨g, e_g⟩ : ∃ g : Nat → Nat, g = (fun i => ([q0, q_1, q_2, q_3, q_4, q_5, q_6, q_7, q_8, q_9] : List Nat).getD i 0) := ⟨_, rfl⟩
  have hg0 : g 0 = q0 := by rw [e_g]; rfl
  replace hw : qw D A s.heap ((mW g cI cB cZ 0 0 0 0 0 0 0 0 0 0 0 0 (fun _ => 0) (fun _ => 0) (fun _ => 0) (fun _ => 0) (fun _ => 0) (fun _ => 0) (fun _ => 0) (fun _ => 0) (fun _ => 0)) ++ []) H locs := by rw [e_g, List.append_nil]; exact hw
  replace hl : lv_has ls 1 [(0, .ref (g 0))] := by rw [hg0]; exact hl
  refine lv_aload_n hx hb dX7_init_81 rfl (lv_at hl 0 rfl) ?_
  refine q_callH (As := []) (rest := []) (wr := []) (zw_ok z) hx hb hml hown hts hK (qH_M c_X7_setDefaults) yi_X7_setDefaults ml_X7_39 (by rw [hR]; exact ⟨Nat.le_of_ble_eq_true rfl, Nat.le_of_ble_eq_true rfl⟩) hw hA hZ 0 rfl rfl rfl rfl hl.1 (lv_room (Nat.le_of_ble_eq_true rfl)) dX7_init_82 ⟨by rw [hR]; exact Nat.le_of_ble_eq_true rfl, by rw [hR]; exact Nat.le_of_ble_eq_true rfl⟩ (fun u H locs hu hw => ?_)
  obtain ⟨dr2, rfl⟩ : ∃ q, q = u := ⟨_, rfl⟩
  replace hw : qw D A s.heap (mW g cI cB cZ 0 0 0 0 0 0 0 0 0 0 0 0 (fun _ => 0) dr2 (fun _ => 0) (fun _ => 0) (fun _ => 0) (fun _ => 0) (fun _ => 0) (fun _ => 0) (fun _ => 0)) H locs := by rw [List.append_nil] at hw; exact hw
  refine lv_aload_n hx hb dX7_init_85 rfl (lv_at hl 0 rfl) ?_
  refine q_get hx hb hts hown hK hw.1 ci_X7 0 rfl 10 (by decide) fl_X7_13 rfl dX7_init_86 ?_
  refine q_iconst hx hb dX7_init_89 ?_
  refine q_bipush hx hb dX7_init_90 rfl ?_
  refine q_iast hx hb hK hw 2 0 rfl rfl (by omega) dX7_init_92 (fun H locs hw => ?_)
  replace hw : qw D A s.heap (mW g cI cB cZ 0 0 0 0 0 0 0 0 0 0 0 0 (fun _ => 0) (uI dr2 0 50) (fun _ => 0) (fun _ => 0) (fun _ => 0) (fun _ => 0) (fun _ => 0) (fun _ => 0) (fun _ => 0)) H locs := hw
  refine lv_aload_n hx hb dX7_init_93 rfl (lv_at hl 0 rfl) ?_
  refine q_get hx hb hts hown hK hw.1 ci_X7 0 rfl 10 (by decide) fl_X7_13 rfl dX7_init_94 ?_
  refine q_iconst hx hb dX7_init_97 ?_
  refine q_bipush hx hb dX7_init_98 rfl ?_
  refine q_iast hx hb hK hw 2 0 rfl rfl (by omega) dX7_init_100 (fun H locs hw => ?_)
  replace hw : qw D A s.heap ((mW g cI cB cZ 0 0 0 0 0 0 0 0 0 0 0 0 (fun _ => 0) (uI (uI dr2 0 50) 1 30) (fun _ => 0) (fun _ => 0) (fun _ => 0) (fun _ => 0) (fun _ => 0) (fun _ => 0) (fun _ => 0)) ++ []) H locs := by rw [List.append_nil]; exact hw
  refine lv_aload_n hx hb dX7_init_101 rfl (lv_at hl 0 rfl) ?_
  refine q_callH (As := []) (rest := []) (wr := []) (zw_ok z) hx hb hml hown hts hK (qH_M (c_X7_takeDraft (C := tI) (RT_I hu) WT_I)) yi_X7_takeDraft ml_X7_42 (by rw [hR]; exact ⟨Nat.le_of_ble_eq_true rfl, Nat.le_of_ble_eq_true rfl⟩) hw hA hZ 0 rfl rfl rfl rfl hl.1 (lv_room (Nat.le_of_ble_eq_true rfl)) dX7_init_102 ⟨by rw [hR]; exact Nat.le_of_ble_eq_true rfl, by rw [hR]; exact Nat.le_of_ble_eq_true rfl⟩ (fun u H locs hu hw => ?_)
  obtain ⟨td2, sa2, sv2⟩ := u
  obtain ⟨n1, n2, n3⟩ := hu
  have n4 : sv2 = uI (uI (fun _ => 0) 0 0) 1 0 := n3
  replace hw : qw D A s.heap (mW g cI cB cZ 0 0 0 0 0 0 0 0 0 0 0 0 (fun _ => 0) (uI (uI dr2 0 50) 1 30) td2 sa2 (fun _ => 0) (fun _ => 0) (fun _ => 0) (uI (uI (fun _ => 0) 0 0) 1 0) (fun _ => 0)) H locs := by rw [List.append_nil] at hw; rw [← n4]; exact hw
  exact hret (g, uI (uI dr2 0 50) 1 30, td2, sa2) H locs 105 ls ⟨hg0, n2⟩ hw dX7_init_105
