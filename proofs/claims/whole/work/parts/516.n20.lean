variable {l : Launch} {T C : Nat → Int → Int} {D : va_G} {cI cB cZ cS cJ : ClassId} {g : Nat → Nat} {th len tl ts te tk nu er eo hL hS dp : Int} {bf dr td sa ad hi sl sv tr : Int → Int}
set_option maxHeartbeats 4000000 in
set_option maxRecDepth 100000 in
theorem c_X7_meanInk (hM : WM td sa T C) : qM l D (tyG cI cB cZ cS cJ) yX7_meanInk cX7_meanInk 3 (Option.some FieldType.double) 1 22 [.ref (g 0)] (mW g cI cB cZ th len tl ts te tk nu er eo hL hS dp bf dr td sa ad hi sl sv tr) (fun u : Unit => True) (fun u => some (.double (mkV T C))) (fun u => (mW g cI cB cZ 0 len tl ts te tk nu er eo hL hS dp bf dr td sa ad hi sl sv tr)) := by
  have hsc := hM.sc
  refine qM_enterD (val := fun _ => mkV T C) (by decide) (Nat.le_of_ble_eq_true rfl) (fun u hu => rfl) (fun p e R s m args below meth c Q ls A X hR hA hw hl hret => ?_)
  obtain ⟨hx, hb, hml, hown, hts, hK⟩ := X
  have hl : lv_has ls 3 [(0, .ref (g 0))] := hl
  suffices K : ∀ (H : Heap) (locs : List Loc), qw D A s.heap (mW g cI cB cZ th len tl ts te tk nu er eo hL hS dp bf dr td sa ad hi sl sv tr) H locs → W p l e R s m args below meth c H locs 0 0 Q (F0 m 0 ls []) from K s.heap [] hw
  clear hw
  intro H locs hw
  refine lv_aload_n hx hb dX7_meanInk_0 rfl (lv_at hl 0 rfl) ?_
  refine q_iconst hx hb dX7_meanInk_1 ?_
  refine q_put hx hb hts hown hK hw ci_X7 0 rfl 0 (by decide) fl_X7_45 rfl rfl rfl (Nat.le_of_ble_eq_true rfl) dX7_meanInk_2 (fun H locs hw => ?_)
  have hw : qw D A s.heap (mW g cI cB cZ 0 len tl ts te tk nu er eo hL hS dp bf dr td sa ad hi sl sv tr) H locs := hw
  refine lv_aload_n hx hb dX7_meanInk_5 rfl (lv_at hl 0 rfl) ?_
  refine q_get hx hb hts hown hK hw.1 ci_X7 0 rfl 14 (by decide) fl_X7_20 rfl dX7_meanInk_6 ?_
  refine q_bipush hx hb dX7_meanInk_9 rfl ?_
  refine q_iald hx hb hK hw.1 4 0 rfl rfl (z := 15) (v := (C 11 3)) (by omega) (by omega) dX7_meanInk_11 ?_
  refine q_if_ne (tgt := 17) hx hb dX7_meanInk_12 (by decide) (by omega) (fun c_12 => ?_) (fun c_12 => ?_)
  · refine q_iconst hx hb dX7_meanInk_17 ?_
    refine lv_istore_n (lv' := [(1, .int (iI 0)), (0, .ref (g 0))]) hx hb dX7_meanInk_18 rfl hl (by decide) rfl (fun ls hl => ?_)
    refine q_iconst hx hb dX7_meanInk_19 ?_
    refine lv_istore_n (lv' := [(2, .int (iI 0)), (1, .int (iI 0)), (0, .ref (g 0))]) hx hb dX7_meanInk_20 rfl hl (by decide) rfl (fun ls hl => ?_)
    have loop_21 : ∀ (fu : Nat) (su : Int) (k : Int) (H : Heap) (locs : List Loc) (ls : Array Slot), (C 11 3 - k).toNat = fu → (su = sI (mkI T C) k) → (0 ≤ k ∧ k ≤ C 11 3) → qw D A s.heap (mW g cI cB cZ 0 len tl ts te tk nu er eo hL hS dp bf dr td sa ad hi sl sv tr) H locs → lv_has ls 3 [(0, .ref (g 0)), (1, .int (iI su)), (2, .int (iI k))] → W p l e R s m args below meth c H locs 0 0 Q (F0 m 21 ls []) := by
      intro fu
      induction fu using Nat.strongRecOn with
      | ind fu ih =>
      intro su k H locs ls hn_21 h_x h_k hw hl
      refine lv_iload_n hx hb dX7_meanInk_21 rfl (lv_at hl 2 rfl) ?_
      refine lv_aload_n hx hb dX7_meanInk_22 rfl (lv_at hl 0 rfl) ?_
      refine q_get hx hb hts hown hK hw.1 ci_X7 0 rfl 14 (by decide) fl_X7_20 rfl dX7_meanInk_23 ?_
      refine q_bipush hx hb dX7_meanInk_26 rfl ?_
      refine q_iald hx hb hK hw.1 4 0 rfl rfl (z := 15) (v := (C 11 3)) (by omega) (by omega) dX7_meanInk_28 ?_
      refine q_icmp_ge (tgt := 75) hx hb dX7_meanInk_29 (by decide) (by omega) (fun c_29 => ?_) (fun c_29 => ?_)
      · refine lv_iload_n hx hb dX7_meanInk_75 rfl (lv_at hl 1 rfl) ?_
        refine lv_i2d hx hb dX7_meanInk_76 ?_
        refine lv_aload_n hx hb dX7_meanInk_77 rfl (lv_at hl 0 rfl) ?_
        refine q_get hx hb hts hown hK hw.1 ci_X7 0 rfl 14 (by decide) fl_X7_20 rfl dX7_meanInk_78 ?_
        refine q_bipush hx hb dX7_meanInk_81 rfl ?_
        refine q_iald hx hb hK hw.1 4 0 rfl rfl (z := 15) (v := (C 11 3)) (by omega) (by omega) dX7_meanInk_83 ?_
        refine lv_i2d hx hb dX7_meanInk_84 ?_
        refine lv_ddiv hx hb dX7_meanInk_85 (by exact fp_div _ (by omega)) ?_
        refine q_dtop (mkV T C) (by (rw [h_x, show k = C 11 3 by omega]; exact (if_neg (by omega)).symm)) ?_
        exact hret () H locs 86 ls trivial hw dX7_meanInk_86
      · have q_p := hM.pg k (by omega) (by omega)
        have q_t := hM.tds (C 4 k) (by omega) (by omega)
        refine lv_iload_n hx hb dX7_meanInk_32 rfl (lv_at hl 1 rfl) ?_
        refine lv_aload_n hx hb dX7_meanInk_33 rfl (lv_at hl 0 rfl) ?_
        refine lv_aload_n hx hb dX7_meanInk_34 rfl (lv_at hl 0 rfl) ?_
        refine q_get hx hb hts hown hK hw.1 ci_X7 0 rfl 14 (by decide) fl_X7_20 rfl dX7_meanInk_35 ?_
        refine q_sipush hx hb dX7_meanInk_38 rfl ?_
        refine q_iconst hx hb dX7_meanInk_41 ?_
        refine lv_iload_n hx hb dX7_meanInk_42 rfl (lv_at hl 2 rfl) ?_
        refine q_imul hx hb dX7_meanInk_43 ?_
        refine q_iadd hx hb dX7_meanInk_44 ?_
        refine q_iald hx hb hK hw.1 4 0 rfl rfl (z := (266 + 2 * k)) (v := (2 * C 4 k + C 5 k)) (by omega) (by omega) dX7_meanInk_45 ?_
        refine q_iconst hx hb dX7_meanInk_46 ?_
        refine q_idiv hx hb dX7_meanInk_47 (by omega) (by omega) (by omega) ?_
        refine q_top (C 4 k) (by rw [Int.tdiv_eq_ediv_of_nonneg (by omega)]; omega) ?_
        refine q_iconst hx hb dX7_meanInk_48 ?_
        refine lv_aload_n hx hb dX7_meanInk_49 rfl (lv_at hl 0 rfl) ?_
        refine q_get hx hb hts hown hK hw.1 ci_X7 0 rfl 14 (by decide) fl_X7_20 rfl dX7_meanInk_50 ?_
        refine q_sipush hx hb dX7_meanInk_53 rfl ?_
        refine q_iconst hx hb dX7_meanInk_56 ?_
        refine lv_iload_n hx hb dX7_meanInk_57 rfl (lv_at hl 2 rfl) ?_
        refine q_imul hx hb dX7_meanInk_58 ?_
        refine q_iadd hx hb dX7_meanInk_59 ?_
        refine q_iald hx hb hK hw.1 4 0 rfl rfl (z := (266 + 2 * k)) (v := (sa (266 + 2 * k))) (by omega) rfl dX7_meanInk_60 ?_
        refine q_iconst hx hb dX7_meanInk_61 ?_
        refine q_irem hx hb dX7_meanInk_62 (by omega) (by omega) (by omega) ?_
        refine q_top (C 5 k) (by rw [Int.tmod_eq_emod_of_nonneg (by omega)]; omega) ?_
        refine q_iadd hx hb dX7_meanInk_63 ?_
        refine q_callP (As := [.int (iI (C 4 k)), .int (iI (3 + C 5 k))]) (rest := [.int (iI su)]) hx hb hml hown hts hK (c_X7_toldOf (C 4 k) (3 + C 5 k) (by first | omega | assumption) (by first | omega | assumption)) yi_X7_toldOf ml_X7_170 (by rw [hR]; decide) hw.1 0 rfl rfl rfl rfl hl.1 (lv_room (Nat.le_of_ble_eq_true rfl)) dX7_meanInk_64 ⟨by rw [hR]; exact Nat.zero_le _, by rw [hR]; exact Nat.zero_le _⟩ ?_
        refine q_top (mkI T C k) (by unfold mkI; rcases (show C 5 k = 0 ∨ C 5 k = 1 by omega) with q | q <;> rw [q] <;> first | exact q_t.1.2.2.2.2.1 | exact q_t.1.2.2.2.2.2.1) ?_
        refine q_iadd hx hb dX7_meanInk_67 ?_
        refine lv_istore_n (lv' := [(1, .int (iI (su + mkI T C k))), (0, .ref (g 0)), (2, .int (iI k))]) hx hb dX7_meanInk_68 rfl hl (by decide) rfl (fun ls hl => ?_)
        refine lv_iinc (v := iI (k + 1)) (lv' := [(2, .int (iI (k + 1))), (1, .int (iI (su + mkI T C k))), (0, .ref (g 0))]) hx hb dX7_meanInk_69 hl (k := 2) rfl (iI_add _ _) (by decide) rfl (fun ls hl => ?_)
        refine lv_goto (tgt := 21) hx hb dX7_meanInk_72 (by decide) ?_
        exact ih _ (by omega) (su + mkI T C k) (k + 1) H locs ls rfl (by rw [h_x]; exact (sI_s _ (by omega)).symm) (by first | omega | assumption | rfl) hw (lv_sub hl [2, 1, 0] rfl)
    exact loop_21 _ (0) (0) H locs ls rfl (by rfl) (by first | omega | assumption | rfl) hw (lv_sub hl [2, 1, 0] rfl)
  · refine lv_dconst0 hx hb dX7_meanInk_15 ?_
    refine q_dtop (mkV T C) (by exact (if_pos (by omega)).symm) ?_
    exact hret () H locs 16 ls trivial hw dX7_meanInk_16

variable {l : Launch} {z : Nat → Nat} {D : va_G} {cI cB cZ cS cJ : ClassId} {T C E : Nat → Int → Int} {x a b ap b2 : Nat → Nat} {lat und pf pm pt pl pw f1 f2 f3 f4 f5 f6 hn gc stop sinp srea spag sjob sdup : Int} {ht e0 e1 e2 e3 e4 e5 e6 e7 e8 e9 : Int → Int}
set_option maxHeartbeats 4000000 in
set_option maxRecDepth 100000 in
theorem c_X6_meanInk (hT : WT T) (hC : WC T C) : qP l D (tyG cI cB cZ cS cJ) yX6_meanInk cX6_meanInk 3 (Option.some FieldType.double) 1 22 [.ref (x 0)] ([o6C x a b ap lat und] ++ suW b cI T ++ stW a cI C ++ [((x 4), .inr (3, [.int (iI pf), .int (iI pm), .int (iI pt), .int (iI pl), .int (iI pw)])), ((x 6), .inr (0, [.ref (x 7), .int (iI f1), .int (iI f2), .int (iI f3), .int (iI f4), .int (iI f5), .int (iI f6)])), ((x 7), .inr (1, [.ref (x 8), .int (iI hn)])), ((x 8), .inl (cI, 6, .inl (ai ht)))]) (some (.double (mkV T C))) := by
  have q_w := hT.1
  have q_c := hC.1
  have q_l := hC.2.1
  refine qP_enterD (by decide) (Nat.le_of_ble_eq_true rfl) (fun p e R s m args below meth c Q ls X hR hP hl hret => ?_)
  obtain ⟨hx, hb, hml, hown, hts, hK⟩ := X
  have hl : lv_has ls 3 [(0, .ref (x 0))] := hl
  refine lv_aload_n hx hb dX6_meanInk_0 rfl (lv_at hl 0 rfl) ?_
  refine q_get hx hb hts hown hK hP ci_X6 0 rfl 2 (by decide) fl_X6_26 rfl dX6_meanInk_1 ?_
  refine q_get hx hb hts hown hK hP ci_X5 10 rfl 14 (by decide) fl_X6_103 rfl dX6_meanInk_4 ?_
  refine q_if_gt (tgt := 12) hx hb dX6_meanInk_7 (by decide) (by omega) (fun c_7 => ?_) (fun c_7 => ?_)
  · refine q_iconst hx hb dX6_meanInk_12 ?_
    refine lv_istore_n (lv' := [(1, .int (iI 0)), (0, .ref (x 0))]) hx hb dX6_meanInk_13 rfl hl (by decide) rfl (fun ls hl => ?_)
    refine q_iconst hx hb dX6_meanInk_14 ?_
    refine lv_istore_n (lv' := [(2, .int (iI 0)), (1, .int (iI 0)), (0, .ref (x 0))]) hx hb dX6_meanInk_15 rfl hl (by decide) rfl (fun ls hl => ?_)
    have loop_16 : ∀ (fu : Nat) (su : Int) (k : Int) (ls : Array Slot), (C 11 3 - k).toNat = fu → (su = sI (mkI T C) k) → (0 ≤ k ∧ k ≤ C 11 3) → lv_has ls 3 [(0, .ref (x 0)), (1, .int (iI su)), (2, .int (iI k))] → W p l e R s m args below meth c s.heap [] 0 0 Q (F0 m 16 ls []) := by
      intro fu
      induction fu using Nat.strongRecOn with
      | ind fu ih =>
      intro su k ls hn_16 h_x h_k hl
      refine lv_iload_n hx hb dX6_meanInk_16 rfl (lv_at hl 2 rfl) ?_
      refine lv_aload_n hx hb dX6_meanInk_17 rfl (lv_at hl 0 rfl) ?_
      refine q_get hx hb hts hown hK hP ci_X6 0 rfl 2 (by decide) fl_X6_26 rfl dX6_meanInk_18 ?_
      refine q_get hx hb hts hown hK hP ci_X5 10 rfl 14 (by decide) fl_X6_103 rfl dX6_meanInk_21 ?_
      refine q_icmp_ge (tgt := 61) hx hb dX6_meanInk_24 (by decide) (by omega) (fun c_24 => ?_) (fun c_24 => ?_)
      · refine lv_iload_n hx hb dX6_meanInk_61 rfl (lv_at hl 1 rfl) ?_
        refine lv_i2d hx hb dX6_meanInk_62 ?_
        refine lv_aload_n hx hb dX6_meanInk_63 rfl (lv_at hl 0 rfl) ?_
        refine q_get hx hb hts hown hK hP ci_X6 0 rfl 2 (by decide) fl_X6_26 rfl dX6_meanInk_64 ?_
        refine q_get hx hb hts hown hK hP ci_X5 10 rfl 14 (by decide) fl_X6_103 rfl dX6_meanInk_67 ?_
        refine lv_i2d hx hb dX6_meanInk_70 ?_
        refine lv_ddiv hx hb dX6_meanInk_71 (by exact fp_div _ (by omega)) ?_
        refine q_dtop (mkV T C) (by (rw [h_x, show k = C 11 3 by omega]; exact (if_neg (by omega)).symm)) ?_
        exact hret 72 ls dX6_meanInk_72
      · have q_p := hC.2.2.2.2.1 k (by omega) (by omega)
        refine lv_iload_n hx hb dX6_meanInk_27 rfl (lv_at hl 1 rfl) ?_
        refine lv_aload_n hx hb dX6_meanInk_28 rfl (lv_at hl 0 rfl) ?_
        refine q_get hx hb hts hown hK hP ci_X6 0 rfl 1 (by decide) fl_X6_19 rfl dX6_meanInk_29 ?_
        refine lv_aload_n hx hb dX6_meanInk_32 rfl (lv_at hl 0 rfl) ?_
        refine q_get hx hb hts hown hK hP ci_X6 0 rfl 2 (by decide) fl_X6_26 rfl dX6_meanInk_33 ?_
        refine q_get hx hb hts hown hK hP ci_X5 10 rfl 4 (by decide) fl_X6_175 rfl dX6_meanInk_36 ?_
        refine lv_iload_n hx hb dX6_meanInk_39 rfl (lv_at hl 2 rfl) ?_
        refine q_iald hx hb hK hP 15 0 rfl rfl (z := k) (v := ((C 4) k)) (by omega) rfl dX6_meanInk_40 ?_
        refine lv_aload_n hx hb dX6_meanInk_41 rfl (lv_at hl 0 rfl) ?_
        refine q_get hx hb hts hown hK hP ci_X6 0 rfl 2 (by decide) fl_X6_26 rfl dX6_meanInk_42 ?_
        refine q_get hx hb hts hown hK hP ci_X5 10 rfl 5 (by decide) fl_X6_178 rfl dX6_meanInk_45 ?_
        refine lv_iload_n hx hb dX6_meanInk_48 rfl (lv_at hl 2 rfl) ?_
        refine q_iald hx hb hK hP 16 0 rfl rfl (z := k) (v := ((C 5) k)) (by omega) rfl dX6_meanInk_49 ?_
        refine q_callP (As := [.int (iI ((C 4) k)), .int (iI ((C 5) k))]) (rest := [.int (iI su)]) hx hb hml hown hts hK (c_X4_ink ((C 4) k) ((C 5) k) (by first | omega | assumption) (by omega) (by omega)) yi_X4_ink ml_X6_259 (by rw [hR]; decide) (hP.sub [1, 5, 6] rfl) 0 rfl rfl rfl rfl hl.1 (lv_room (Nat.le_of_ble_eq_true rfl)) dX6_meanInk_50 ⟨by rw [hR]; exact Nat.zero_le _, by rw [hR]; exact Nat.zero_le _⟩ ?_
        refine q_top (mkI T C k) (by rfl) ?_
        refine q_iadd hx hb dX6_meanInk_53 ?_
        refine lv_istore_n (lv' := [(1, .int (iI (su + mkI T C k))), (0, .ref (x 0)), (2, .int (iI k))]) hx hb dX6_meanInk_54 rfl hl (by decide) rfl (fun ls hl => ?_)
        refine lv_iinc (v := iI (k + 1)) (lv' := [(2, .int (iI (k + 1))), (1, .int (iI (su + mkI T C k))), (0, .ref (x 0))]) hx hb dX6_meanInk_55 hl (k := 2) rfl (iI_add _ _) (by decide) rfl (fun ls hl => ?_)
        refine lv_goto (tgt := 16) hx hb dX6_meanInk_58 (by decide) ?_
        exact ih _ (by omega) (su + mkI T C k) (k + 1) ls rfl (by rw [h_x]; exact (sI_s _ (by omega)).symm) (by first | omega | assumption | rfl) (lv_sub hl [2, 1, 0] rfl)
    exact loop_16 _ (0) (0) ls rfl (by rfl) (by first | omega | assumption | rfl) (lv_sub hl [2, 1, 0] rfl)
  · refine lv_dconst0 hx hb dX6_meanInk_10 ?_
    refine q_dtop (mkV T C) (by exact (if_pos (by omega)).symm) ?_
    exact hret 11 ls dX6_meanInk_11
