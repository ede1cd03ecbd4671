variable {l : Launch} {T C : Nat → Int → Int} {J : Int → Int} {D : va_G} {cI cB cZ cS cJ : ClassId} {g : Nat → Nat} {th len tl ts te tk nu er eo hL hS dp : Int} {bf dr td sa ad hi sl sv tr : Int → Int}
set_option maxHeartbeats 4000000 in
set_option maxRecDepth 100000 in
theorem c_X7_addPage (sh : Int) (sd : Int) (hB : BB T C) (hJ : RJ sa T C J) (h0 : 0 ≤ C 11 3) (h1 : C 11 3 < 80) : qM l D (tyG cI cB cZ cS cJ) yX7_addPage cX7_addPage 4 (Option.none) 0 0 [.ref (g 0), .int (iI sh), .int (iI sd)] (mW g cI cB cZ th len tl ts te tk nu er eo hL hS dp bf dr td sa ad hi sl sv tr) (fun u : (Int → Int) => (RJ u T (adP C sh sd) J)) (fun _ => none) (fun u => (mW g cI cB cZ th len tl ts te tk nu er eo hL hS dp bf dr td u ad hi sl sv tr)) := by
  refine qM_enterV (by decide) (Nat.le_of_ble_eq_true rfl) (fun p e R s m args below meth c Q ls A X hR hA hw hl hret => ?_)
  obtain ⟨hx, hb, hml, hown, hts, hK⟩ := X
  have hl : lv_has ls 4 [(0, .ref (g 0)), (1, .int (iI sh)), (2, .int (iI sd))] := hl
  suffices K : ∀ (H : Heap) (locs : List Loc), qw D A s.heap (mW g cI cB cZ th len tl ts te tk nu er eo hL hS dp bf dr td sa ad hi sl sv tr) H locs → W p l e R s m args below meth c H locs 0 0 Q (F0 m 0 ls []) from K s.heap [] hw
  clear hw
  intro H locs hw
  refine q_sipush hx hb dX7_addPage_0 rfl ?_
  refine q_iconst hx hb dX7_addPage_3 ?_
  refine lv_aload_n hx hb dX7_addPage_4 rfl (lv_at hl 0 rfl) ?_
  refine q_get hx hb hts hown hK hw.1 ci_X7 0 rfl 14 (by decide) fl_X7_20 rfl dX7_addPage_5 ?_
  refine q_bipush hx hb dX7_addPage_8 rfl ?_
  refine q_iald hx hb hK hw.1 4 0 rfl rfl (z := 15) (v := (C 11 3)) (by omega) (by exact hJ.s15) dX7_addPage_10 ?_
  refine q_imul hx hb dX7_addPage_11 ?_
  refine q_iadd hx hb dX7_addPage_12 ?_
  refine lv_istore_n (lv' := [(3, .int (iI (266 + 2 * C 11 3))), (0, .ref (g 0)), (1, .int (iI sh)), (2, .int (iI sd))]) hx hb dX7_addPage_13 rfl hl (by decide) rfl (fun ls hl => ?_)
  refine lv_aload_n hx hb dX7_addPage_14 rfl (lv_at hl 1 rfl) ?_
  refine q_get hx hb hts hown hK hw.1 ci_X7 0 rfl 14 (by decide) fl_X7_20 rfl dX7_addPage_15 ?_
  refine lv_iload_n hx hb dX7_addPage_18 rfl (lv_at hl 0 rfl) ?_
  refine q_iconst hx hb dX7_addPage_19 ?_
  refine lv_iload_n hx hb dX7_addPage_20 rfl (lv_at hl 2 rfl) ?_
  refine q_imul hx hb dX7_addPage_21 ?_
  refine lv_iload_n hx hb dX7_addPage_22 rfl (lv_at hl 3 rfl) ?_
  refine q_iadd hx hb dX7_addPage_23 ?_
  refine q_iast hx hb hK hw 4 0 rfl rfl (by omega) dX7_addPage_24 (fun H locs hw => ?_)
  have hw : qw D A s.heap (mW g cI cB cZ th len tl ts te tk nu er eo hL hS dp bf dr td (uI sa (266 + 2 * C 11 3) (2 * sh + sd)) ad hi sl sv tr) H locs := hw
  obtain ⟨f_1, e_f_1⟩ : ∃ z, z = uI sa (266 + 2 * C 11 3) (2 * sh + sd) := ⟨_, rfl⟩
  have hw : qw D A s.heap (mW g cI cB cZ th len tl ts te tk nu er eo hL hS dp bf dr td f_1 ad hi sl sv tr) H locs := by rw [e_f_1]; exact hw
  refine lv_aload_n hx hb dX7_addPage_25 rfl (lv_at hl 1 rfl) ?_
  refine q_get hx hb hts hown hK hw.1 ci_X7 0 rfl 14 (by decide) fl_X7_20 rfl dX7_addPage_26 ?_
  refine lv_iload_n hx hb dX7_addPage_29 rfl (lv_at hl 0 rfl) ?_
  refine q_iconst hx hb dX7_addPage_30 ?_
  refine q_iadd hx hb dX7_addPage_31 ?_
  refine lv_aload_n hx hb dX7_addPage_32 rfl (lv_at hl 1 rfl) ?_
  refine q_get hx hb hts hown hK hw.1 ci_X7 0 rfl 14 (by decide) fl_X7_20 rfl dX7_addPage_33 ?_
  refine q_bipush hx hb dX7_addPage_36 rfl ?_
  refine q_iald hx hb hK hw.1 4 0 rfl rfl (z := 16) (v := (C 11 4)) (by omega) (by rw [e_f_1, uI_n _ _ _ (by omega)]; exact hJ.s16) dX7_addPage_38 ?_
  refine q_iconst hx hb dX7_addPage_39 ?_
  refine q_isub hx hb dX7_addPage_40 ?_
  refine q_iast hx hb hK hw 4 0 rfl rfl (by omega) dX7_addPage_41 (fun H locs hw => ?_)
  have hw : qw D A s.heap (mW g cI cB cZ th len tl ts te tk nu er eo hL hS dp bf dr td (uI f_1 (266 + 2 * C 11 3 + 1) (C 11 4 - 1)) ad hi sl sv tr) H locs := hw
  obtain ⟨f_2, e_f_2⟩ : ∃ z, z = uI f_1 (266 + 2 * C 11 3 + 1) (C 11 4 - 1) := ⟨_, rfl⟩
  have hw : qw D A s.heap (mW g cI cB cZ th len tl ts te tk nu er eo hL hS dp bf dr td f_2 ad hi sl sv tr) H locs := by rw [e_f_2]; exact hw
  refine lv_aload_n hx hb dX7_addPage_42 rfl (lv_at hl 1 rfl) ?_
  refine q_get hx hb hts hown hK hw.1 ci_X7 0 rfl 14 (by decide) fl_X7_20 rfl dX7_addPage_43 ?_
  refine q_bipush hx hb dX7_addPage_46 rfl ?_
  refine lv_dup2_11 hx hb dX7_addPage_48 rfl rfl ?_
  refine q_iald hx hb hK hw.1 4 0 rfl rfl (z := 15) (v := (C 11 3)) (by omega) (by rw [e_f_2, uI_n _ _ _ (by omega), e_f_1, uI_n _ _ _ (by omega)]; exact hJ.s15) dX7_addPage_49 ?_
  refine q_iconst hx hb dX7_addPage_50 ?_
  refine q_iadd hx hb dX7_addPage_51 ?_
  refine q_iast hx hb hK hw 4 0 rfl rfl (by omega) dX7_addPage_52 (fun H locs hw => ?_)
  have hw : qw D A s.heap (mW g cI cB cZ th len tl ts te tk nu er eo hL hS dp bf dr td (uI f_2 15 (C 11 3 + 1)) ad hi sl sv tr) H locs := hw
  obtain ⟨f_3, e_f_3⟩ : ∃ z, z = uI f_2 15 (C 11 3 + 1) := ⟨_, rfl⟩
  have hw : qw D A s.heap (mW g cI cB cZ th len tl ts te tk nu er eo hL hS dp bf dr td f_3 ad hi sl sv tr) H locs := by rw [e_f_3]; exact hw
  exact hret (f_3) H locs 53 ls (by subst_vars; exact RJ_pa sh sd hJ hB (by omega) (by omega)) hw dX7_addPage_53

set_option maxHeartbeats 4000000 in
set_option maxRecDepth 100000 in
theorem c_X7_beginJob (cd : Int) (hB : BB T C) (hJ : RJ sa T C J) (h0 : 1 ≤ C 11 4) (h1 : C 11 4 < 140) : qM l D (tyG cI cB cZ cS cJ) yX7_beginJob cX7_beginJob 2 (Option.none) 0 0 [.ref (g 0), .int (iI cd)] (mW g cI cB cZ th len tl ts te tk nu er eo hL hS dp bf dr td sa ad hi sl sv tr) (fun u : (Int → Int) => (RJ u T (bgJ C cd) (uI J (C 11 4) 0))) (fun _ => none) (fun u => (mW g cI cB cZ th len tl ts te tk nu er eo hL hS dp bf dr td u ad hi sl sv tr)) := by
  refine qM_enterV (by decide) (Nat.le_of_ble_eq_true rfl) (fun p e R s m args below meth c Q ls A X hR hA hw hl hret => ?_)
  obtain ⟨hx, hb, hml, hown, hts, hK⟩ := X
  have hl : lv_has ls 2 [(0, .ref (g 0)), (1, .int (iI cd))] := hl
  suffices K : ∀ (H : Heap) (locs : List Loc), qw D A s.heap (mW g cI cB cZ th len tl ts te tk nu er eo hL hS dp bf dr td sa ad hi sl sv tr) H locs → W p l e R s m args below meth c H locs 0 0 Q (F0 m 0 ls []) from K s.heap [] hw
  clear hw
  intro H locs hw
  refine lv_aload_n hx hb dX7_beginJob_0 rfl (lv_at hl 0 rfl) ?_
  refine q_get hx hb hts hown hK hw.1 ci_X7 0 rfl 14 (by decide) fl_X7_20 rfl dX7_beginJob_1 ?_
  refine q_sipush hx hb dX7_beginJob_4 rfl ?_
  refine q_iconst hx hb dX7_beginJob_7 ?_
  refine lv_aload_n hx hb dX7_beginJob_8 rfl (lv_at hl 0 rfl) ?_
  refine q_get hx hb hts hown hK hw.1 ci_X7 0 rfl 14 (by decide) fl_X7_20 rfl dX7_beginJob_9 ?_
  refine q_bipush hx hb dX7_beginJob_12 rfl ?_
  refine q_iald hx hb hK hw.1 4 0 rfl rfl (z := 16) (v := (C 11 4)) (by omega) (by exact hJ.s16) dX7_beginJob_14 ?_
  refine q_imul hx hb dX7_beginJob_15 ?_
  refine q_iadd hx hb dX7_beginJob_16 ?_
  refine lv_iload_n hx hb dX7_beginJob_17 rfl (lv_at hl 1 rfl) ?_
  refine q_iast hx hb hK hw 4 0 rfl rfl (by omega) dX7_beginJob_18 (fun H locs hw => ?_)
  have hw : qw D A s.heap (mW g cI cB cZ th len tl ts te tk nu er eo hL hS dp bf dr td (uI sa (426 + 2 * C 11 4) cd) ad hi sl sv tr) H locs := hw
  obtain ⟨f_1, e_f_1⟩ : ∃ z, z = uI sa (426 + 2 * C 11 4) cd := ⟨_, rfl⟩
  have hw : qw D A s.heap (mW g cI cB cZ th len tl ts te tk nu er eo hL hS dp bf dr td f_1 ad hi sl sv tr) H locs := by rw [e_f_1]; exact hw
  refine lv_aload_n hx hb dX7_beginJob_19 rfl (lv_at hl 0 rfl) ?_
  refine q_get hx hb hts hown hK hw.1 ci_X7 0 rfl 14 (by decide) fl_X7_20 rfl dX7_beginJob_20 ?_
  refine q_sipush hx hb dX7_beginJob_23 rfl ?_
  refine q_iconst hx hb dX7_beginJob_26 ?_
  refine lv_aload_n hx hb dX7_beginJob_27 rfl (lv_at hl 0 rfl) ?_
  refine q_get hx hb hts hown hK hw.1 ci_X7 0 rfl 14 (by decide) fl_X7_20 rfl dX7_beginJob_28 ?_
  refine q_bipush hx hb dX7_beginJob_31 rfl ?_
  refine q_iald hx hb hK hw.1 4 0 rfl rfl (z := 16) (v := (C 11 4)) (by omega) (by rw [e_f_1, uI_n _ _ _ (by omega)]; exact hJ.s16) dX7_beginJob_33 ?_
  refine q_imul hx hb dX7_beginJob_34 ?_
  refine q_iadd hx hb dX7_beginJob_35 ?_
  refine q_iconst hx hb dX7_beginJob_36 ?_
  refine q_iadd hx hb dX7_beginJob_37 ?_
  refine q_iconst hx hb dX7_beginJob_38 ?_
  refine q_iast hx hb hK hw 4 0 rfl rfl (by omega) dX7_beginJob_39 (fun H locs hw => ?_)
  have hw : qw D A s.heap (mW g cI cB cZ th len tl ts te tk nu er eo hL hS dp bf dr td (uI f_1 (426 + 2 * C 11 4 + 1) 0) ad hi sl sv tr) H locs := hw
  obtain ⟨f_2, e_f_2⟩ : ∃ z, z = uI f_1 (426 + 2 * C 11 4 + 1) 0 := ⟨_, rfl⟩
  have hw : qw D A s.heap (mW g cI cB cZ th len tl ts te tk nu er eo hL hS dp bf dr td f_2 ad hi sl sv tr) H locs := by rw [e_f_2]; exact hw
  refine lv_aload_n hx hb dX7_beginJob_40 rfl (lv_at hl 0 rfl) ?_
  refine q_get hx hb hts hown hK hw.1 ci_X7 0 rfl 14 (by decide) fl_X7_20 rfl dX7_beginJob_41 ?_
  refine q_bipush hx hb dX7_beginJob_44 rfl ?_
  refine lv_dup2_11 hx hb dX7_beginJob_46 rfl rfl ?_
  refine q_iald hx hb hK hw.1 4 0 rfl rfl (z := 16) (v := (C 11 4)) (by omega) (by rw [e_f_2, uI_n _ _ _ (by omega), e_f_1, uI_n _ _ _ (by omega)]; exact hJ.s16) dX7_beginJob_47 ?_
  refine q_iconst hx hb dX7_beginJob_48 ?_
  refine q_iadd hx hb dX7_beginJob_49 ?_
  refine q_iast hx hb hK hw 4 0 rfl rfl (by omega) dX7_beginJob_50 (fun H locs hw => ?_)
  have hw : qw D A s.heap (mW g cI cB cZ th len tl ts te tk nu er eo hL hS dp bf dr td (uI f_2 16 (C 11 4 + 1)) ad hi sl sv tr) H locs := hw
  obtain ⟨f_3, e_f_3⟩ : ∃ z, z = uI f_2 16 (C 11 4 + 1) := ⟨_, rfl⟩
  have hw : qw D A s.heap (mW g cI cB cZ th len tl ts te tk nu er eo hL hS dp bf dr td f_3 ad hi sl sv tr) H locs := by rw [e_f_3]; exact hw
  exact hret (f_3) H locs 51 ls (by subst_vars; exact RJ_jo cd hJ hB (by omega) (by omega)) hw dX7_beginJob_51

set_option maxHeartbeats 4000000 in
set_option maxRecDepth 100000 in
theorem c_X7_countsGood (v : Int) (hT : WT T) (hW : WC T C) (hJ : RJ sa T C J) : qM l D (tyG cI cB cZ cS cJ) yX7_countsGood cX7_countsGood 3 (Option.none) 0 0 [.ref (g 0), .int (iI v)] (mW g cI cB cZ th len tl ts te tk nu er eo hL hS dp bf dr td sa ad hi sl sv tr) (fun u : (Int → Int) => (RJ u T (acc (gAdd C v) 4 1) J)) (fun _ => none) (fun u => (mW g cI cB cZ th len tl ts te tk nu er eo hL hS dp bf dr td u ad hi sl sv tr)) := by
  have hB := hW.hB hT
  have hw1 := hW.1
  refine qM_enterV (by decide) (Nat.le_of_ble_eq_true rfl) (fun p e R s m args below meth c Q ls A X hR hA hw hl hret => ?_)
  obtain ⟨hx, hb, hml, hown, hts, hK⟩ := X
  have hl : lv_has ls 3 [(0, .ref (g 0)), (1, .int (iI v))] := hl
  suffices K : ∀ (H : Heap) (locs : List Loc), qw D A s.heap (mW g cI cB cZ th len tl ts te tk nu er eo hL hS dp bf dr td sa ad hi sl sv tr) H locs → W p l e R s m args below meth c H locs 0 0 Q (F0 m 0 ls []) from K s.heap [] hw
  clear hw
  intro H locs hw
  refine lv_aload_n hx hb dX7_countsGood_0 rfl (lv_at hl 0 rfl) ?_
  refine q_get hx hb hts hown hK hw.1 ci_X7 0 rfl 14 (by decide) fl_X7_20 rfl dX7_countsGood_1 ?_
  refine q_bipush hx hb dX7_countsGood_4 rfl ?_
  refine lv_dup2_11 hx hb dX7_countsGood_6 rfl rfl ?_
  refine q_iald hx hb hK hw.1 4 0 rfl rfl (z := 21) (v := (C 9 4)) (by omega) (by exact hJ.a 4 21 (by decide) (by decide) (by decide)) dX7_countsGood_7 ?_
  refine q_iconst hx hb dX7_countsGood_8 ?_
  refine q_iadd hx hb dX7_countsGood_9 ?_
  refine q_iast hx hb hK hw 4 0 rfl rfl (by omega) dX7_countsGood_10 (fun H locs hw => ?_)
  have hw : qw D A s.heap (mW g cI cB cZ th len tl ts te tk nu er eo hL hS dp bf dr td (uI sa 21 (C 9 4 + 1)) ad hi sl sv tr) H locs := hw
  obtain ⟨f_1, e_f_1⟩ : ∃ z, z = uI sa 21 (C 9 4 + 1) := ⟨_, rfl⟩
  have hw : qw D A s.heap (mW g cI cB cZ th len tl ts te tk nu er eo hL hS dp bf dr td f_1 ad hi sl sv tr) H locs := by rw [e_f_1]; exact hw
  refine lv_aload_n hx hb dX7_countsGood_11 rfl (lv_at hl 0 rfl) ?_
  refine q_get hx hb hts hown hK hw.1 ci_X7 0 rfl 14 (by decide) fl_X7_20 rfl dX7_countsGood_12 ?_
  refine q_bipush hx hb dX7_countsGood_15 rfl ?_
  refine q_iald hx hb hK hw.1 4 0 rfl rfl (z := 8) (v := (C 11 6)) (by omega) (by rw [e_f_1, uI_n _ _ _ (by omega)]; exact hJ.s8) dX7_countsGood_17 ?_
  refine q_bipush hx hb dX7_countsGood_18 rfl ?_
  refine q_icmp_ne (tgt := 68) hx hb dX7_countsGood_20 (by decide) (by omega) (fun c_20 => ?_) (fun c_20 => ?_)
  · refine lv_aload_n hx hb dX7_countsGood_68 rfl (lv_at hl 0 rfl) ?_
    refine q_get hx hb hts hown hK hw.1 ci_X7 0 rfl 14 (by decide) fl_X7_20 rfl dX7_countsGood_69 ?_
    refine q_bipush hx hb dX7_countsGood_72 rfl ?_
    refine lv_aload_n hx hb dX7_countsGood_74 rfl (lv_at hl 0 rfl) ?_
    refine q_get hx hb hts hown hK hw.1 ci_X7 0 rfl 14 (by decide) fl_X7_20 rfl dX7_countsGood_75 ?_
    refine q_bipush hx hb dX7_countsGood_78 rfl ?_
    refine q_iald hx hb hK hw.1 4 0 rfl rfl (z := 8) (v := (C 11 6)) (by omega) (by rw [e_f_1, uI_n _ _ _ (by omega)]; exact hJ.s8) dX7_countsGood_80 ?_
    refine q_iadd hx hb dX7_countsGood_81 ?_
    refine lv_iload_n hx hb dX7_countsGood_82 rfl (lv_at hl 1 rfl) ?_
    refine q_iast hx hb hK hw 4 0 rfl rfl (by omega) dX7_countsGood_83 (fun H locs hw => ?_)
    have hw : qw D A s.heap (mW g cI cB cZ th len tl ts te tk nu er eo hL hS dp bf dr td (uI f_1 (9 + C 11 6) v) ad hi sl sv tr) H locs := hw
    obtain ⟨f_2, e_f_2⟩ : ∃ z, z = uI f_1 (9 + C 11 6) v := ⟨_, rfl⟩
    have hw : qw D A s.heap (mW g cI cB cZ th len tl ts te tk nu er eo hL hS dp bf dr td f_2 ad hi sl sv tr) H locs := by rw [e_f_2]; exact hw
    refine lv_aload_n hx hb dX7_countsGood_84 rfl (lv_at hl 0 rfl) ?_
    refine q_get hx hb hts hown hK hw.1 ci_X7 0 rfl 14 (by decide) fl_X7_20 rfl dX7_countsGood_85 ?_
    refine q_bipush hx hb dX7_countsGood_88 rfl ?_
    refine lv_dup2_11 hx hb dX7_countsGood_90 rfl rfl ?_
    refine q_iald hx hb hK hw.1 4 0 rfl rfl (z := 8) (v := (C 11 6)) (by omega) (by rw [e_f_2, uI_n _ _ _ (by omega), e_f_1, uI_n _ _ _ (by omega)]; exact hJ.s8) dX7_countsGood_91 ?_
    refine q_iconst hx hb dX7_countsGood_92 ?_
    refine q_iadd hx hb dX7_countsGood_93 ?_
    refine q_iast hx hb hK hw 4 0 rfl rfl (by omega) dX7_countsGood_94 (fun H locs hw => ?_)
    have hw : qw D A s.heap (mW g cI cB cZ th len tl ts te tk nu er eo hL hS dp bf dr td (uI f_2 8 (C 11 6 + 1)) ad hi sl sv tr) H locs := hw
    obtain ⟨f_3, e_f_3⟩ : ∃ z, z = uI f_2 8 (C 11 6 + 1) := ⟨_, rfl⟩
    have hw : qw D A s.heap (mW g cI cB cZ th len tl ts te tk nu er eo hL hS dp bf dr td f_3 ad hi sl sv tr) H locs := by rw [e_f_3]; exact hw
    exact hret (f_3) H locs 95 ls (by subst_vars; first | exact RJ_cgn hJ hB (by omega) (by omega) (by omega) | (rw [show C 11 6 - 1 + 1 = 6 by omega, show 9 + (C 11 6 - 1) = 14 by omega, show C 11 6 - 1 = 5 by omega]; exact RJ_cgf hJ hB (by omega) (by omega))) hw dX7_countsGood_95
  · refine q_iconst hx hb dX7_countsGood_23 ?_
    refine lv_istore_n (lv' := [(2, .int (iI 1)), (0, .ref (g 0)), (1, .int (iI v))]) hx hb dX7_countsGood_24 rfl hl (by decide) rfl (fun ls hl => ?_)
    refine lv_iload_n hx hb dX7_countsGood_25 rfl (lv_at hl 0 rfl) ?_
    refine q_bipush hx hb dX7_countsGood_26 rfl ?_
    refine q_icmp_ge (tgt := 57) hx hb dX7_countsGood_28 (by decide) (by omega) (fun c_28 => absurd c_28 (by omega)) (fun c_28 => ?_)
    refine lv_aload_n hx hb dX7_countsGood_31 rfl (lv_at hl 1 rfl) ?_
    refine q_get hx hb hts hown hK hw.1 ci_X7 0 rfl 14 (by decide) fl_X7_20 rfl dX7_countsGood_32 ?_
    refine q_bipush hx hb dX7_countsGood_35 rfl ?_
    refine lv_iload_n hx hb dX7_countsGood_37 rfl (lv_at hl 0 rfl) ?_
    refine q_iadd hx hb dX7_countsGood_38 ?_
    refine q_top 10 rfl ?_
    refine q_iconst hx hb dX7_countsGood_39 ?_
    refine q_isub hx hb dX7_countsGood_40 ?_
    refine q_top 9 rfl ?_
    refine lv_aload_n hx hb dX7_countsGood_41 rfl (lv_at hl 1 rfl) ?_
    refine q_get hx hb hts hown hK hw.1 ci_X7 0 rfl 14 (by decide) fl_X7_20 rfl dX7_countsGood_42 ?_
    refine q_bipush hx hb dX7_countsGood_45 rfl ?_
    refine lv_iload_n hx hb dX7_countsGood_47 rfl (lv_at hl 0 rfl) ?_
    refine q_iadd hx hb dX7_countsGood_48 ?_
    refine q_top 10 rfl ?_
    refine q_iald hx hb hK hw.1 4 0 rfl rfl (z := 10) (v := (sa 10)) (by omega) (by rw [e_f_1, uI_n _ _ _ (by omega)]) dX7_countsGood_49 ?_
    refine q_iast hx hb hK hw 4 0 rfl rfl (by omega) dX7_countsGood_50 (fun H locs hw => ?_)
    have hw : qw D A s.heap (mW g cI cB cZ th len tl ts te tk nu er eo hL hS dp bf dr td (uI f_1 9 (sa 10)) ad hi sl sv tr) H locs := hw
    obtain ⟨f_4, e_f_4⟩ : ∃ z, z = uI f_1 9 (sa 10) := ⟨_, rfl⟩
    have hw : qw D A s.heap (mW g cI cB cZ th len tl ts te tk nu er eo hL hS dp bf dr td f_4 ad hi sl sv tr) H locs := by rw [e_f_4]; exact hw
    refine lv_iinc (v := iI (1 + 1)) (lv' := [(2, .int (iI (1 + 1))), (0, .ref (g 0)), (1, .int (iI v))]) hx hb dX7_countsGood_51 hl (k := 0) rfl (iI_add _ _) (by decide) rfl (fun ls hl => ?_)
    have hl : lv_has ls 3 [(2, .int (iI 2)), (0, .ref (g 0)), (1, .int (iI v))] := hl
    refine lv_goto (tgt := 25) hx hb dX7_countsGood_54 (by decide) ?_
    refine lv_iload_n hx hb dX7_countsGood_25 rfl (lv_at hl 0 rfl) ?_
    refine q_bipush hx hb dX7_countsGood_26 rfl ?_
    refine q_icmp_ge (tgt := 57) hx hb dX7_countsGood_28 (by decide) (by omega) (fun c_28 => absurd c_28 (by omega)) (fun c_28 => ?_)
    refine lv_aload_n hx hb dX7_countsGood_31 rfl (lv_at hl 1 rfl) ?_
    refine q_get hx hb hts hown hK hw.1 ci_X7 0 rfl 14 (by decide) fl_X7_20 rfl dX7_countsGood_32 ?_
    refine q_bipush hx hb dX7_countsGood_35 rfl ?_
    refine lv_iload_n hx hb dX7_countsGood_37 rfl (lv_at hl 0 rfl) ?_
    refine q_iadd hx hb dX7_countsGood_38 ?_
    refine q_top 11 rfl ?_
    refine q_iconst hx hb dX7_countsGood_39 ?_
    refine q_isub hx hb dX7_countsGood_40 ?_
    refine q_top 10 rfl ?_
    refine lv_aload_n hx hb dX7_countsGood_41 rfl (lv_at hl 1 rfl) ?_
    refine q_get hx hb hts hown hK hw.1 ci_X7 0 rfl 14 (by decide) fl_X7_20 rfl dX7_countsGood_42 ?_
    refine q_bipush hx hb dX7_countsGood_45 rfl ?_
    refine lv_iload_n hx hb dX7_countsGood_47 rfl (lv_at hl 0 rfl) ?_
    refine q_iadd hx hb dX7_countsGood_48 ?_
    refine q_top 11 rfl ?_
    refine q_iald hx hb hK hw.1 4 0 rfl rfl (z := 11) (v := (sa 11)) (by omega) (by rw [e_f_4, uI_n _ _ _ (by omega), e_f_1, uI_n _ _ _ (by omega)]) dX7_countsGood_49 ?_
    refine q_iast hx hb hK hw 4 0 rfl rfl (by omega) dX7_countsGood_50 (fun H locs hw => ?_)
    have hw : qw D A s.heap (mW g cI cB cZ th len tl ts te tk nu er eo hL hS dp bf dr td (uI f_4 10 (sa 11)) ad hi sl sv tr) H locs := hw
    obtain ⟨f_5, e_f_5⟩ : ∃ z, z = uI f_4 10 (sa 11) := ⟨_, rfl⟩
    have hw : qw D A s.heap (mW g cI cB cZ th len tl ts te tk nu er eo hL hS dp bf dr td f_5 ad hi sl sv tr) H locs := by rw [e_f_5]; exact hw
    refine lv_iinc (v := iI (2 + 1)) (lv' := [(2, .int (iI (2 + 1))), (0, .ref (g 0)), (1, .int (iI v))]) hx hb dX7_countsGood_51 hl (k := 0) rfl (iI_add _ _) (by decide) rfl (fun ls hl => ?_)
    have hl : lv_has ls 3 [(2, .int (iI 3)), (0, .ref (g 0)), (1, .int (iI v))] := hl
    refine lv_goto (tgt := 25) hx hb dX7_countsGood_54 (by decide) ?_
    refine lv_iload_n hx hb dX7_countsGood_25 rfl (lv_at hl 0 rfl) ?_
    refine q_bipush hx hb dX7_countsGood_26 rfl ?_
    refine q_icmp_ge (tgt := 57) hx hb dX7_countsGood_28 (by decide) (by omega) (fun c_28 => absurd c_28 (by omega)) (fun c_28 => ?_)
    refine lv_aload_n hx hb dX7_countsGood_31 rfl (lv_at hl 1 rfl) ?_
    refine q_get hx hb hts hown hK hw.1 ci_X7 0 rfl 14 (by decide) fl_X7_20 rfl dX7_countsGood_32 ?_
    refine q_bipush hx hb dX7_countsGood_35 rfl ?_
    refine lv_iload_n hx hb dX7_countsGood_37 rfl (lv_at hl 0 rfl) ?_
    refine q_iadd hx hb dX7_countsGood_38 ?_
    refine q_top 12 rfl ?_
    refine q_iconst hx hb dX7_countsGood_39 ?_
    refine q_isub hx hb dX7_countsGood_40 ?_
    refine q_top 11 rfl ?_
    refine lv_aload_n hx hb dX7_countsGood_41 rfl (lv_at hl 1 rfl) ?_
    refine q_get hx hb hts hown hK hw.1 ci_X7 0 rfl 14 (by decide) fl_X7_20 rfl dX7_countsGood_42 ?_
    refine q_bipush hx hb dX7_countsGood_45 rfl ?_
    refine lv_iload_n hx hb dX7_countsGood_47 rfl (lv_at hl 0 rfl) ?_
    refine q_iadd hx hb dX7_countsGood_48 ?_
    refine q_top 12 rfl ?_
    refine q_iald hx hb hK hw.1 4 0 rfl rfl (z := 12) (v := (sa 12)) (by omega) (by rw [e_f_5, uI_n _ _ _ (by omega), e_f_4, uI_n _ _ _ (by omega), e_f_1, uI_n _ _ _ (by omega)]) dX7_countsGood_49 ?_
    refine q_iast hx hb hK hw 4 0 rfl rfl (by omega) dX7_countsGood_50 (fun H locs hw => ?_)
    have hw : qw D A s.heap (mW g cI cB cZ th len tl ts te tk nu er eo hL hS dp bf dr td (uI f_5 11 (sa 12)) ad hi sl sv tr) H locs := hw
    obtain ⟨f_6, e_f_6⟩ : ∃ z, z = uI f_5 11 (sa 12) := ⟨_, rfl⟩
    have hw : qw D A s.heap (mW g cI cB cZ th len tl ts te tk nu er eo hL hS dp bf dr td f_6 ad hi sl sv tr) H locs := by rw [e_f_6]; exact hw
    refine lv_iinc (v := iI (3 + 1)) (lv' := [(2, .int (iI (3 + 1))), (0, .ref (g 0)), (1, .int (iI v))]) hx hb dX7_countsGood_51 hl (k := 0) rfl (iI_add _ _) (by decide) rfl (fun ls hl => ?_)
    have hl : lv_has ls 3 [(2, .int (iI 4)), (0, .ref (g 0)), (1, .int (iI v))] := hl
    refine lv_goto (tgt := 25) hx hb dX7_countsGood_54 (by decide) ?_
    refine lv_iload_n hx hb dX7_countsGood_25 rfl (lv_at hl 0 rfl) ?_
    refine q_bipush hx hb dX7_countsGood_26 rfl ?_
    refine q_icmp_ge (tgt := 57) hx hb dX7_countsGood_28 (by decide) (by omega) (fun c_28 => absurd c_28 (by omega)) (fun c_28 => ?_)
    refine lv_aload_n hx hb dX7_countsGood_31 rfl (lv_at hl 1 rfl) ?_
    refine q_get hx hb hts hown hK hw.1 ci_X7 0 rfl 14 (by decide) fl_X7_20 rfl dX7_countsGood_32 ?_
    refine q_bipush hx hb dX7_countsGood_35 rfl ?_
    refine lv_iload_n hx hb dX7_countsGood_37 rfl (lv_at hl 0 rfl) ?_
    refine q_iadd hx hb dX7_countsGood_38 ?_
    refine q_top 13 rfl ?_
    refine q_iconst hx hb dX7_countsGood_39 ?_
    refine q_isub hx hb dX7_countsGood_40 ?_
    refine q_top 12 rfl ?_
    refine lv_aload_n hx hb dX7_countsGood_41 rfl (lv_at hl 1 rfl) ?_
    refine q_get hx hb hts hown hK hw.1 ci_X7 0 rfl 14 (by decide) fl_X7_20 rfl dX7_countsGood_42 ?_
    refine q_bipush hx hb dX7_countsGood_45 rfl ?_
    refine lv_iload_n hx hb dX7_countsGood_47 rfl (lv_at hl 0 rfl) ?_
    refine q_iadd hx hb dX7_countsGood_48 ?_
    refine q_top 13 rfl ?_
    refine q_iald hx hb hK hw.1 4 0 rfl rfl (z := 13) (v := (sa 13)) (by omega) (by rw [e_f_6, uI_n _ _ _ (by omega), e_f_5, uI_n _ _ _ (by omega), e_f_4, uI_n _ _ _ (by omega), e_f_1, uI_n _ _ _ (by omega)]) dX7_countsGood_49 ?_
    refine q_iast hx hb hK hw 4 0 rfl rfl (by omega) dX7_countsGood_50 (fun H locs hw => ?_)
    have hw : qw D A s.heap (mW g cI cB cZ th len tl ts te tk nu er eo hL hS dp bf dr td (uI f_6 12 (sa 13)) ad hi sl sv tr) H locs := hw
    obtain ⟨f_7, e_f_7⟩ : ∃ z, z = uI f_6 12 (sa 13) := ⟨_, rfl⟩
    have hw : qw D A s.heap (mW g cI cB cZ th len tl ts te tk nu er eo hL hS dp bf dr td f_7 ad hi sl sv tr) H locs := by rw [e_f_7]; exact hw
    refine lv_iinc (v := iI (4 + 1)) (lv' := [(2, .int (iI (4 + 1))), (0, .ref (g 0)), (1, .int (iI v))]) hx hb dX7_countsGood_51 hl (k := 0) rfl (iI_add _ _) (by decide) rfl (fun ls hl => ?_)
    have hl : lv_has ls 3 [(2, .int (iI 5)), (0, .ref (g 0)), (1, .int (iI v))] := hl
    refine lv_goto (tgt := 25) hx hb dX7_countsGood_54 (by decide) ?_
    refine lv_iload_n hx hb dX7_countsGood_25 rfl (lv_at hl 0 rfl) ?_
    refine q_bipush hx hb dX7_countsGood_26 rfl ?_
    refine q_icmp_ge (tgt := 57) hx hb dX7_countsGood_28 (by decide) (by omega) (fun c_28 => absurd c_28 (by omega)) (fun c_28 => ?_)
    refine lv_aload_n hx hb dX7_countsGood_31 rfl (lv_at hl 1 rfl) ?_
    refine q_get hx hb hts hown hK hw.1 ci_X7 0 rfl 14 (by decide) fl_X7_20 rfl dX7_countsGood_32 ?_
    refine q_bipush hx hb dX7_countsGood_35 rfl ?_
    refine lv_iload_n hx hb dX7_countsGood_37 rfl (lv_at hl 0 rfl) ?_
    refine q_iadd hx hb dX7_countsGood_38 ?_
    refine q_top 14 rfl ?_
    refine q_iconst hx hb dX7_countsGood_39 ?_
    refine q_isub hx hb dX7_countsGood_40 ?_
    refine q_top 13 rfl ?_
    refine lv_aload_n hx hb dX7_countsGood_41 rfl (lv_at hl 1 rfl) ?_
    refine q_get hx hb hts hown hK hw.1 ci_X7 0 rfl 14 (by decide) fl_X7_20 rfl dX7_countsGood_42 ?_
    refine q_bipush hx hb dX7_countsGood_45 rfl ?_
    refine lv_iload_n hx hb dX7_countsGood_47 rfl (lv_at hl 0 rfl) ?_
    refine q_iadd hx hb dX7_countsGood_48 ?_
    refine q_top 14 rfl ?_
    refine q_iald hx hb hK hw.1 4 0 rfl rfl (z := 14) (v := (sa 14)) (by omega) (by rw [e_f_7, uI_n _ _ _ (by omega), e_f_6, uI_n _ _ _ (by omega), e_f_5, uI_n _ _ _ (by omega), e_f_4, uI_n _ _ _ (by omega), e_f_1, uI_n _ _ _ (by omega)]) dX7_countsGood_49 ?_
    refine q_iast hx hb hK hw 4 0 rfl rfl (by omega) dX7_countsGood_50 (fun H locs hw => ?_)
    have hw : qw D A s.heap (mW g cI cB cZ th len tl ts te tk nu er eo hL hS dp bf dr td (uI f_7 13 (sa 14)) ad hi sl sv tr) H locs := hw
    obtain ⟨f_8, e_f_8⟩ : ∃ z, z = uI f_7 13 (sa 14) := ⟨_, rfl⟩
    have hw : qw D A s.heap (mW g cI cB cZ th len tl ts te tk nu er eo hL hS dp bf dr td f_8 ad hi sl sv tr) H locs := by rw [e_f_8]; exact hw
    refine lv_iinc (v := iI (5 + 1)) (lv' := [(2, .int (iI (5 + 1))), (0, .ref (g 0)), (1, .int (iI v))]) hx hb dX7_countsGood_51 hl (k := 0) rfl (iI_add _ _) (by decide) rfl (fun ls hl => ?_)
    have hl : lv_has ls 3 [(2, .int (iI 6)), (0, .ref (g 0)), (1, .int (iI v))] := hl
    refine lv_goto (tgt := 25) hx hb dX7_countsGood_54 (by decide) ?_
    refine lv_iload_n hx hb dX7_countsGood_25 rfl (lv_at hl 0 rfl) ?_
    refine q_bipush hx hb dX7_countsGood_26 rfl ?_
    refine q_icmp_ge (tgt := 57) hx hb dX7_countsGood_28 (by decide) (by omega) (fun c_28 => ?_) (fun c_28 => absurd c_28 (by omega))
    refine lv_aload_n hx hb dX7_countsGood_57 rfl (lv_at hl 1 rfl) ?_
    refine q_get hx hb hts hown hK hw.1 ci_X7 0 rfl 14 (by decide) fl_X7_20 rfl dX7_countsGood_58 ?_
    refine q_bipush hx hb dX7_countsGood_61 rfl ?_
    refine lv_dup2_11 hx hb dX7_countsGood_63 rfl rfl ?_
    refine q_iald hx hb hK hw.1 4 0 rfl rfl (z := 8) (v := (C 11 6)) (by omega) (by rw [e_f_8, uI_n _ _ _ (by omega), e_f_7, uI_n _ _ _ (by omega), e_f_6, uI_n _ _ _ (by omega), e_f_5, uI_n _ _ _ (by omega), e_f_4, uI_n _ _ _ (by omega), e_f_1, uI_n _ _ _ (by omega)]; exact hJ.s8) dX7_countsGood_64 ?_
    refine q_iconst hx hb dX7_countsGood_65 ?_
    refine q_isub hx hb dX7_countsGood_66 ?_
    refine q_iast hx hb hK hw 4 0 rfl rfl (by omega) dX7_countsGood_67 (fun H locs hw => ?_)
    have hw : qw D A s.heap (mW g cI cB cZ th len tl ts te tk nu er eo hL hS dp bf dr td (uI f_8 8 (C 11 6 - 1)) ad hi sl sv tr) H locs := hw
    obtain ⟨f_9, e_f_9⟩ : ∃ z, z = uI f_8 8 (C 11 6 - 1) := ⟨_, rfl⟩
    have hw : qw D A s.heap (mW g cI cB cZ th len tl ts te tk nu er eo hL hS dp bf dr td f_9 ad hi sl sv tr) H locs := by rw [e_f_9]; exact hw
    refine lv_aload_n hx hb dX7_countsGood_68 rfl (lv_at hl 1 rfl) ?_
    refine q_get hx hb hts hown hK hw.1 ci_X7 0 rfl 14 (by decide) fl_X7_20 rfl dX7_countsGood_69 ?_
    refine q_bipush hx hb dX7_countsGood_72 rfl ?_
    refine lv_aload_n hx hb dX7_countsGood_74 rfl (lv_at hl 1 rfl) ?_
    refine q_get hx hb hts hown hK hw.1 ci_X7 0 rfl 14 (by decide) fl_X7_20 rfl dX7_countsGood_75 ?_
    refine q_bipush hx hb dX7_countsGood_78 rfl ?_
    refine q_iald hx hb hK hw.1 4 0 rfl rfl (z := 8) (v := (C 11 6 - 1)) (by omega) (by rw [e_f_9, uI_i, if_pos (by omega)]) dX7_countsGood_80 ?_
    refine q_iadd hx hb dX7_countsGood_81 ?_
    refine lv_iload_n hx hb dX7_countsGood_82 rfl (lv_at hl 2 rfl) ?_
    refine q_iast hx hb hK hw 4 0 rfl rfl (by omega) dX7_countsGood_83 (fun H locs hw => ?_)
    have hw : qw D A s.heap (mW g cI cB cZ th len tl ts te tk nu er eo hL hS dp bf dr td (uI f_9 (9 + (C 11 6 - 1)) v) ad hi sl sv tr) H locs := hw
    obtain ⟨f_10, e_f_10⟩ : ∃ z, z = uI f_9 (9 + (C 11 6 - 1)) v := ⟨_, rfl⟩
    have hw : qw D A s.heap (mW g cI cB cZ th len tl ts te tk nu er eo hL hS dp bf dr td f_10 ad hi sl sv tr) H locs := by rw [e_f_10]; exact hw
    refine lv_aload_n hx hb dX7_countsGood_84 rfl (lv_at hl 1 rfl) ?_
    refine q_get hx hb hts hown hK hw.1 ci_X7 0 rfl 14 (by decide) fl_X7_20 rfl dX7_countsGood_85 ?_
    refine q_bipush hx hb dX7_countsGood_88 rfl ?_
    refine lv_dup2_11 hx hb dX7_countsGood_90 rfl rfl ?_
    refine q_iald hx hb hK hw.1 4 0 rfl rfl (z := 8) (v := (C 11 6 - 1)) (by omega) (by rw [e_f_10, uI_n _ _ _ (by omega), e_f_9, uI_i, if_pos (by omega)]) dX7_countsGood_91 ?_
    refine q_iconst hx hb dX7_countsGood_92 ?_
    refine q_iadd hx hb dX7_countsGood_93 ?_
    refine q_iast hx hb hK hw 4 0 rfl rfl (by omega) dX7_countsGood_94 (fun H locs hw => ?_)
    have hw : qw D A s.heap (mW g cI cB cZ th len tl ts te tk nu er eo hL hS dp bf dr td (uI f_10 8 (C 11 6 - 1 + 1)) ad hi sl sv tr) H locs := hw
    obtain ⟨f_11, e_f_11⟩ : ∃ z, z = uI f_10 8 (C 11 6 - 1 + 1) := ⟨_, rfl⟩
    have hw : qw D A s.heap (mW g cI cB cZ th len tl ts te tk nu er eo hL hS dp bf dr td f_11 ad hi sl sv tr) H locs := by rw [e_f_11]; exact hw
    exact hret (f_11) H locs 95 ls (by subst_vars; first | exact RJ_cgn hJ hB (by omega) (by omega) (by omega) | (rw [show C 11 6 - 1 + 1 = 6 by omega, show 9 + (C 11 6 - 1) = 14 by omega, show C 11 6 - 1 = 5 by omega]; exact RJ_cgf hJ hB (by omega) (by omega))) hw dX7_countsGood_95

set_option maxHeartbeats 4000000 in
set_option maxRecDepth 100000 in
theorem c_X7_goesThrough (hM : WM td sa T C) (h1 : 1 ≤ C 11 1) : qM l D (tyG cI cB cZ cS cJ) yX7_goesThrough cX7_goesThrough 4 (Option.some FieldType.int) 2 44 [.ref (g 0)] (mW g cI cB cZ th len tl ts te tk nu er eo hL hS dp bf dr td sa ad hi sl sv tr) (fun u : (Int → Int) => (WM td u T (goC T C))) (fun u => some (.int (iI (goR T C (C 11 0 - C 11 1))))) (fun u => (mW g cI cB cZ th len tl ts te tk nu er eo hL hS dp bf dr td u ad hi sl sv tr)) := by
  have hsc := hM.sc
  have hlm := hM.lm
  have hB := hM.2.2.1.hB hM.1
  have q_t := hM.tds (C 11 0 - C 11 1) (by omega) (by omega)
  have q_s := hM.sh (C 11 0 - C 11 1) (by omega) (by omega)
  have q_i0 : ink T (C 11 0 - C 11 1) 0 = T 3 (C 11 0 - C 11 1) := rfl
  have q_i1 : ink T (C 11 0 - C 11 1) 1 = T 4 (C 11 0 - C 11 1) := rfl
  refine qM_enterI (val := fun u => iI (goR T C (C 11 0 - C 11 1))) (by decide) (Nat.le_of_ble_eq_true rfl) (fun u hu => ⟨rfl, nar_i _⟩) (fun p e R s m args below meth c Q ls A X hR hA hw hl hret => ?_)
  obtain ⟨hx, hb, hml, hown, hts, hK⟩ := X
  have hl : lv_has ls 4 [(0, .ref (g 0))] := hl
  suffices K : ∀ (H : Heap) (locs : List Loc), qw D A s.heap (mW g cI cB cZ th len tl ts te tk nu er eo hL hS dp bf dr td sa ad hi sl sv tr) H locs → W p l e R s m args below meth c H locs 0 0 Q (F0 m 0 ls []) from K s.heap [] hw
  clear hw
  intro H locs hw
  refine lv_aload_n hx hb dX7_goesThrough_0 rfl (lv_at hl 0 rfl) ?_
  refine q_get hx hb hts hown hK hw.1 ci_X7 0 rfl 14 (by decide) fl_X7_20 rfl dX7_goesThrough_1 ?_
  refine q_sipush hx hb dX7_goesThrough_4 rfl ?_
  refine q_iald hx hb hK hw.1 4 0 rfl rfl (z := 226) (v := (C 11 0 - C 11 1)) (by omega) (by exact hM.p0 h1) dX7_goesThrough_7 ?_
  refine lv_istore_n (lv' := [(1, .int (iI (C 11 0 - C 11 1))), (0, .ref (g 0))]) hx hb dX7_goesThrough_8 rfl hl (by decide) rfl (fun ls hl => ?_)
  refine q_iconst hx hb dX7_goesThrough_9 ?_
  refine lv_istore_n (lv' := [(2, .int (iI 1)), (1, .int (iI (C 11 0 - C 11 1))), (0, .ref (g 0))]) hx hb dX7_goesThrough_10 rfl hl (by decide) rfl (fun ls hl => ?_)
  have loop_11 : ∀ (fu : Nat) (x : Int → Int) (k : Int) (H : Heap) (locs : List Loc) (ls : Array Slot), (C 11 1 - k).toNat = fu → (x = wfl sa ((C 11 0 - C 11 1) + 1) ((C 11 0 - C 11 1) + k) 5) → (1 ≤ k ∧ k ≤ C 11 1) → qw D A s.heap (mW g cI cB cZ th len tl ts te tk nu er eo hL hS dp bf dr td x ad hi sl sv tr) H locs → lv_has ls 4 [(0, .ref (g 0)), (1, .int (iI (C 11 0 - C 11 1))), (2, .int (iI k))] → W p l e R s m args below meth c H locs 0 0 Q (F0 m 11 ls []) := by
    intro fu
    induction fu using Nat.strongRecOn with
    | ind fu ih =>
    intro x k H locs ls hn_11 h_x h_k hw hl
    refine lv_iload_n hx hb dX7_goesThrough_11 rfl (lv_at hl 2 rfl) ?_
    refine lv_aload_n hx hb dX7_goesThrough_12 rfl (lv_at hl 0 rfl) ?_
    refine q_get hx hb hts hown hK hw.1 ci_X7 0 rfl 14 (by decide) fl_X7_20 rfl dX7_goesThrough_13 ?_
    refine q_bipush hx hb dX7_goesThrough_16 rfl ?_
    refine q_iald hx hb hK hw.1 4 0 rfl rfl (z := 7) (v := (C 11 1)) (by omega) (by rw [h_x, wfl_n _ (by omega)]; omega) dX7_goesThrough_18 ?_
    refine q_icmp_ge (tgt := 49) hx hb dX7_goesThrough_19 (by decide) (by omega) (fun c_19 => ?_) (fun c_19 => ?_)
    · have r_0 : RJ x T (st C 0 (fil (C 0) ((C 11 0 - C 11 1) + 1) ((C 11 0 - C 11 1) + C 11 1) 5)) (shJ C) := by rw [h_x, show k = C 11 1 by omega]; exact RJ_wf _ _ _ hM.2.2.2 hB
      refine lv_aload_n hx hb dX7_goesThrough_49 rfl (lv_at hl 0 rfl) ?_
      refine q_get hx hb hts hown hK hw.1 ci_X7 0 rfl 14 (by decide) fl_X7_20 rfl dX7_goesThrough_50 ?_
      refine q_bipush hx hb dX7_goesThrough_53 rfl ?_
      refine q_iconst hx hb dX7_goesThrough_55 ?_
      refine q_iast hx hb hK hw 4 0 rfl rfl (by omega) dX7_goesThrough_56 (fun H locs hw => ?_)
      have hw : qw D A s.heap (mW g cI cB cZ th len tl ts te tk nu er eo hL hS dp bf dr td (uI x 7 0) ad hi sl sv tr) H locs := hw
      obtain ⟨f_1, e_f_1⟩ : ∃ z, z = uI x 7 0 := ⟨_, rfl⟩
      have hw : qw D A s.heap (mW g cI cB cZ th len tl ts te tk nu er eo hL hS dp bf dr td f_1 ad hi sl sv tr) H locs := by rw [e_f_1]; exact hw
      have r_1 : RJ f_1 T (s1 (st C 0 (fil (C 0) ((C 11 0 - C 11 1) + 1) ((C 11 0 - C 11 1) + C 11 1) 5)) 1 0) (shJ C) := by rw [e_f_1]; exact RJ_p0 r_0 hB
      have b_1 := (BB_p0 hB)
      refine lv_aload_n hx hb dX7_goesThrough_57 rfl (lv_at hl 0 rfl) ?_
      refine q_get hx hb hts hown hK hw.1 ci_X7 0 rfl 14 (by decide) fl_X7_20 rfl dX7_goesThrough_58 ?_
      refine q_iconst hx hb dX7_goesThrough_61 ?_
      refine q_iconst hx hb dX7_goesThrough_62 ?_
      refine q_iast hx hb hK hw 4 0 rfl rfl (by omega) dX7_goesThrough_63 (fun H locs hw => ?_)
      have hw : qw D A s.heap (mW g cI cB cZ th len tl ts te tk nu er eo hL hS dp bf dr td (uI f_1 5 0) ad hi sl sv tr) H locs := hw
      obtain ⟨f_2, e_f_2⟩ : ∃ z, z = uI f_1 5 0 := ⟨_, rfl⟩
      have hw : qw D A s.heap (mW g cI cB cZ th len tl ts te tk nu er eo hL hS dp bf dr td f_2 ad hi sl sv tr) H locs := by rw [e_f_2]; exact hw
      have r_2 : RJ f_2 T (s1 (s1 (st C 0 (fil (C 0) ((C 11 0 - C 11 1) + 1) ((C 11 0 - C 11 1) + C 11 1) 5)) 1 0) 2 0) (shJ C) := by rw [e_f_2]; exact RJ_re r_1 b_1
      have b_2 := (BB_re (v := 0) b_1)
      refine lv_aload_n hx hb dX7_goesThrough_64 rfl (lv_at hl 0 rfl) ?_
      refine lv_iload_n hx hb dX7_goesThrough_65 rfl (lv_at hl 1 rfl) ?_
      refine q_callP (As := [.int (iI (C 11 0 - C 11 1))]) (rest := []) hx hb hml hown hts hK (c_X7_isCode (C 11 0 - C 11 1) (by first | omega | assumption) (by first | omega | assumption) (by first | omega | assumption)) yi_X7_isCode ml_X7_195 (by rw [hR]; decide) hw.1 0 rfl rfl rfl rfl hl.1 (lv_room (Nat.le_of_ble_eq_true rfl)) dX7_goesThrough_66 ⟨by rw [hR]; exact Nat.zero_le _, by rw [hR]; exact Nat.zero_le _⟩ ?_
      refine q_ifb_eq (tgt := 96) hx hb dX7_goesThrough_69 (by decide) (fun c_69 => ?_) (fun c_69 => ?_)
      · refine q_iconst hx hb dX7_goesThrough_96 ?_
        refine lv_istore_n (lv' := [(2, .int (iI 0)), (0, .ref (g 0)), (1, .int (iI (C 11 0 - C 11 1)))]) hx hb dX7_goesThrough_97 rfl hl (by decide) rfl (fun ls hl => ?_)
        refine q_iconst hx hb dX7_goesThrough_98 ?_
        refine lv_istore_n (lv' := [(3, .int (iI 0)), (2, .int (iI 0)), (0, .ref (g 0)), (1, .int (iI (C 11 0 - C 11 1)))]) hx hb dX7_goesThrough_99 rfl hl (by decide) rfl (fun ls hl => ?_)
        refine lv_iload_n hx hb dX7_goesThrough_100 rfl (lv_at hl 0 rfl) ?_
        refine lv_aload_n hx hb dX7_goesThrough_101 rfl (lv_at hl 2 rfl) ?_
        refine q_callP (As := []) (rest := [.int (iI 0)]) hx hb hml hown hts hK c_X7_sides yi_X7_sides ml_X7_192 (by rw [hR]; decide) hw.1 0 rfl rfl rfl rfl hl.1 (lv_room (Nat.le_of_ble_eq_true rfl)) dX7_goesThrough_102 ⟨by rw [hR]; exact Nat.zero_le _, by rw [hR]; exact Nat.zero_le _⟩ ?_
        refine q_top (C 11 5 + 1) (by rw [show f_2 0 = C 11 5 from r_2.s0]) ?_
        refine q_icmp_ge (tgt := 135) hx hb dX7_goesThrough_105 (by decide) (by omega) (fun c_105 => absurd c_105 (by omega)) (fun c_105 => ?_)
        refine lv_aload_n hx hb dX7_goesThrough_108 rfl (lv_at hl 2 rfl) ?_
        refine lv_iload_n hx hb dX7_goesThrough_109 rfl (lv_at hl 3 rfl) ?_
        refine lv_iload_n hx hb dX7_goesThrough_110 rfl (lv_at hl 0 rfl) ?_
        refine q_callP (As := [.int (iI (C 11 0 - C 11 1)), .int (iI 0)]) (rest := []) hx hb hml hown hts hK (c_X7_isBlank (C := C) (C 11 0 - C 11 1) (0) (by exact hM.1) (by exact hM.2.1) (by first | omega | assumption) (by first | omega | assumption) (by first | omega | assumption) (by exact r_2.l3) (by first | omega | assumption)) yi_X7_isBlank ml_X7_199 (by rw [hR]; decide) hw.1 0 rfl rfl rfl rfl hl.1 (lv_room (Nat.le_of_ble_eq_true rfl)) dX7_goesThrough_111 ⟨by rw [hR]; exact Nat.zero_le _, by rw [hR]; exact Nat.zero_le _⟩ ?_
        refine q_ifb_eq (tgt := 120) hx hb dX7_goesThrough_114 (by decide) (fun c_114 => ?_) (fun c_114 => ?_)
        · refine lv_aload_n hx hb dX7_goesThrough_120 rfl (lv_at hl 2 rfl) ?_
          refine lv_iload_n hx hb dX7_goesThrough_121 rfl (lv_at hl 3 rfl) ?_
          refine lv_iload_n hx hb dX7_goesThrough_122 rfl (lv_at hl 0 rfl) ?_
          refine q_callM (As := [.int (iI (C 11 0 - C 11 1)), .int (iI 0)]) (rest := []) (wr := []) hx hb hml hown hts hK (c_X7_addPage (C := (s1 (s1 (st C 0 (fil (C 0) ((C 11 0 - C 11 1) + 1) ((C 11 0 - C 11 1) + C 11 1) 5)) 1 0) 2 0)) (J := (shJ C)) (C 11 0 - C 11 1) (0) (by exact b_2) (by exact r_2) (by first | (show 0 ≤ C 11 3; omega) | (show 0 ≤ C 11 3 + 1; omega)) (by first | (show C 11 3 < 80; omega) | (show C 11 3 + 1 < 80; omega))) yi_X7_addPage ml_X7_206 (by rw [hR]; decide) hw hA [0, 1, 2, 3, 4, 5, 6, 7, 8, 9] [] rfl rfl (by decide) (by decide) (by decide) 0 rfl rfl rfl rfl hl.1 (lv_room (Nat.le_of_ble_eq_true rfl)) dX7_goesThrough_123 ⟨by rw [hR]; exact Nat.zero_le _, by rw [hR]; exact Nat.zero_le _⟩ (fun u_123 H locs hu_123 hw => ?_)
          obtain ⟨s2_1, rfl⟩ : ∃ z, z = u_123 := ⟨_, rfl⟩
          have hu_1_0 : RJ s2_1 T (adP (((s1 (s1 (st C 0 (fil (C 0) ((C 11 0 - C 11 1) + 1) ((C 11 0 - C 11 1) + C 11 1) 5)) 1 0) 2 0))) (C 11 0 - C 11 1) 0) (((shJ C))) := hu_123
          have hw : qw D A s.heap (mW g cI cB cZ th len tl ts te tk nu er eo hL hS dp bf dr td s2_1 ad hi sl sv tr) H locs := hw
          have b_3 := (BB_ad0 b_2 (by first | (show C 11 3 + 1 ≤ 80; omega) | (show C 11 3 + 1 + 1 ≤ 80; omega)))
          refine lv_iinc (v := iI (0 + 1)) (lv' := [(2, .int (iI (0 + 1))), (3, .int (iI 0)), (0, .ref (g 0)), (1, .int (iI (C 11 0 - C 11 1)))]) hx hb dX7_goesThrough_126 hl (k := 1) rfl (iI_add _ _) (by decide) rfl (fun ls hl => ?_)
          have hl : lv_has ls 4 [(2, .int (iI 1)), (3, .int (iI 0)), (0, .ref (g 0)), (1, .int (iI (C 11 0 - C 11 1)))] := hl
          refine lv_iinc (v := iI (0 + 1)) (lv' := [(3, .int (iI (0 + 1))), (2, .int (iI 1)), (0, .ref (g 0)), (1, .int (iI (C 11 0 - C 11 1)))]) hx hb dX7_goesThrough_129 hl (k := 1) rfl (iI_add _ _) (by decide) rfl (fun ls hl => ?_)
          have hl : lv_has ls 4 [(3, .int (iI 1)), (2, .int (iI 1)), (0, .ref (g 0)), (1, .int (iI (C 11 0 - C 11 1)))] := hl
          refine lv_goto (tgt := 100) hx hb dX7_goesThrough_132 (by decide) ?_
          refine lv_iload_n hx hb dX7_goesThrough_100 rfl (lv_at hl 0 rfl) ?_
          refine lv_aload_n hx hb dX7_goesThrough_101 rfl (lv_at hl 2 rfl) ?_
          refine q_callP (As := []) (rest := [.int (iI 1)]) hx hb hml hown hts hK c_X7_sides yi_X7_sides ml_X7_192 (by rw [hR]; decide) hw.1 0 rfl rfl rfl rfl hl.1 (lv_room (Nat.le_of_ble_eq_true rfl)) dX7_goesThrough_102 ⟨by rw [hR]; exact Nat.zero_le _, by rw [hR]; exact Nat.zero_le _⟩ ?_
          refine q_top (C 11 5 + 1) (by rw [show s2_1 0 = C 11 5 from hu_1_0.s0]) ?_
          refine q_icmp_ge (tgt := 135) hx hb dX7_goesThrough_105 (by decide) (by omega) (fun c_105 => ?_) (fun c_105 => ?_)
          · refine lv_aload_n hx hb dX7_goesThrough_135 rfl (lv_at hl 2 rfl) ?_
            refine q_get hx hb hts hown hK hw.1 ci_X7 0 rfl 14 (by decide) fl_X7_20 rfl dX7_goesThrough_136 ?_
            refine lv_iload_n hx hb dX7_goesThrough_139 rfl (lv_at hl 3 rfl) ?_
            refine q_callPS (As := [.int (iI (C 11 0 - C 11 1))]) (rest := [.ref (g 4)]) hx hb hml hown hts hK (c_X7_of (C 11 0 - C 11 1)) yt_X7_of ml_X7_167 (by rw [hR]; decide) (show va_P D vwCl [] _ from fun k q h => by simp at h)  rfl rfl hl.1 (lv_room (Nat.le_of_ble_eq_true rfl)) dX7_goesThrough_140 ⟨by rw [hR]; exact Nat.zero_le _, by rw [hR]; exact Nat.zero_le _⟩ ?_
            refine q_iconst hx hb dX7_goesThrough_143 ?_
            refine q_iadd hx hb dX7_goesThrough_144 ?_
            refine q_top (26 + 4 * (C 11 0 - C 11 1)) (Int.add_zero _) ?_
            refine lv_iload_n hx hb dX7_goesThrough_145 rfl (lv_at hl 1 rfl) ?_
            refine q_if_le (tgt := 153) hx hb dX7_goesThrough_146 (by decide) (by omega) (fun c_146 => absurd c_146 (by omega)) (fun c_146 => ?_)
            refine q_iconst hx hb dX7_goesThrough_149 ?_
            refine lv_goto (tgt := 154) hx hb dX7_goesThrough_150 (by decide) ?_
            refine q_iast hx hb hK hw 4 0 rfl rfl (by omega) dX7_goesThrough_154 (fun H locs hw => ?_)
            have hw : qw D A s.heap (mW g cI cB cZ th len tl ts te tk nu er eo hL hS dp bf dr td (uI s2_1 (26 + 4 * (C 11 0 - C 11 1)) 2) ad hi sl sv tr) H locs := hw
            obtain ⟨f_3, e_f_3⟩ : ∃ z, z = uI s2_1 (26 + 4 * (C 11 0 - C 11 1)) 2 := ⟨_, rfl⟩
            have hw : qw D A s.heap (mW g cI cB cZ th len tl ts te tk nu er eo hL hS dp bf dr td f_3 ad hi sl sv tr) H locs := by rw [e_f_3]; exact hw
            have r_3 : RJ f_3 T (st (adP (s1 (s1 (st C 0 (fil (C 0) ((C 11 0 - C 11 1) + 1) ((C 11 0 - C 11 1) + C 11 1) 5)) 1 0) 2 0) ((C 11 0 - C 11 1)) (0)) 0 (uI ((adP (s1 (s1 (st C 0 (fil (C 0) ((C 11 0 - C 11 1) + 1) ((C 11 0 - C 11 1) + C 11 1) 5)) 1 0) 2 0) ((C 11 0 - C 11 1)) (0)) 0) (C 11 0 - C 11 1) 2)) (shJ C) := by rw [e_f_3]; exact RJ_wh _ _ hu_1_0 b_3 (by omega) (by omega)
            refine lv_aload_n hx hb dX7_goesThrough_155 rfl (lv_at hl 2 rfl) ?_
            refine q_get hx hb hts hown hK hw.1 ci_X7 0 rfl 14 (by decide) fl_X7_20 rfl dX7_goesThrough_156 ?_
            refine q_sipush hx hb dX7_goesThrough_159 rfl ?_
            refine q_iconst hx hb dX7_goesThrough_162 ?_
            refine lv_aload_n hx hb dX7_goesThrough_163 rfl (lv_at hl 2 rfl) ?_
            refine q_get hx hb hts hown hK hw.1 ci_X7 0 rfl 14 (by decide) fl_X7_20 rfl dX7_goesThrough_164 ?_
            refine q_bipush hx hb dX7_goesThrough_167 rfl ?_
            refine q_iald hx hb hK hw.1 4 0 rfl rfl (z := 16) (v := (C 11 4)) (by omega) (by exact r_3.s16) dX7_goesThrough_169 ?_
            refine q_iconst hx hb dX7_goesThrough_170 ?_
            refine q_isub hx hb dX7_goesThrough_171 ?_
            refine q_imul hx hb dX7_goesThrough_172 ?_
            refine q_iadd hx hb dX7_goesThrough_173 ?_
            refine q_iconst hx hb dX7_goesThrough_174 ?_
            refine q_iadd hx hb dX7_goesThrough_175 ?_
            refine lv_dup2_11 hx hb dX7_goesThrough_176 rfl rfl ?_
            refine q_iald hx hb hK hw.1 4 0 rfl rfl (z := (426 + 2 * (C 11 4 - 1) + 1)) (v := (shJ C (C 11 4 - 1))) (by omega) (by exact r_3.jo (C 11 4 - 1) (by omega) (by show C 11 4 - 1 < C 11 4; omega)) dX7_goesThrough_177 ?_
            refine lv_iload_n hx hb dX7_goesThrough_178 rfl (lv_at hl 1 rfl) ?_
            refine q_if_le (tgt := 186) hx hb dX7_goesThrough_179 (by decide) (by omega) (fun c_179 => absurd c_179 (by omega)) (fun c_179 => ?_)
            refine q_iconst hx hb dX7_goesThrough_182 ?_
            refine lv_goto (tgt := 187) hx hb dX7_goesThrough_183 (by decide) ?_
            refine q_iadd hx hb dX7_goesThrough_187 ?_
            refine q_iast hx hb hK hw 4 0 rfl rfl (by omega) dX7_goesThrough_188 (fun H locs hw => ?_)
            have hw : qw D A s.heap (mW g cI cB cZ th len tl ts te tk nu er eo hL hS dp bf dr td (uI f_3 (426 + 2 * (C 11 4 - 1) + 1) (shJ C (C 11 4 - 1) + 1)) ad hi sl sv tr) H locs := hw
            obtain ⟨f_4, e_f_4⟩ : ∃ z, z = uI f_3 (426 + 2 * (C 11 4 - 1) + 1) (shJ C (C 11 4 - 1) + 1) := ⟨_, rfl⟩
            have hw : qw D A s.heap (mW g cI cB cZ th len tl ts te tk nu er eo hL hS dp bf dr td f_4 ad hi sl sv tr) H locs := by rw [e_f_4]; exact hw
            have r_4 : RJ f_4 T ((st (adP (s1 (s1 (st C 0 (fil (C 0) ((C 11 0 - C 11 1) + 1) ((C 11 0 - C 11 1) + C 11 1) 5)) 1 0) 2 0) ((C 11 0 - C 11 1)) (0)) 0 (uI ((adP (s1 (s1 (st C 0 (fil (C 0) ((C 11 0 - C 11 1) + 1) ((C 11 0 - C 11 1) + C 11 1) 5)) 1 0) 2 0) ((C 11 0 - C 11 1)) (0)) 0) (C 11 0 - C 11 1) 2))) (uI (shJ C) (C 11 4 - 1) (shJ C (C 11 4 - 1) + 1)) := by rw [e_f_4]; exact RJ_jn _ _ r_3 b_3 (by omega) (by omega)
            refine lv_aload_n hx hb dX7_goesThrough_189 rfl (lv_at hl 2 rfl) ?_
            refine q_get hx hb hts hown hK hw.1 ci_X7 0 rfl 14 (by decide) fl_X7_20 rfl dX7_goesThrough_190 ?_
            refine q_bipush hx hb dX7_goesThrough_193 rfl ?_
            refine lv_dup2_11 hx hb dX7_goesThrough_195 rfl rfl ?_
            refine q_iald hx hb hK hw.1 4 0 rfl rfl (z := 22) (v := (C 9 5)) (by omega) (by exact r_4.a 5 22 (by decide) (by decide) (by decide)) dX7_goesThrough_196 ?_
            refine lv_aload_n hx hb dX7_goesThrough_197 rfl (lv_at hl 2 rfl) ?_
            refine q_get hx hb hts hown hK hw.1 ci_X7 0 rfl 14 (by decide) fl_X7_20 rfl dX7_goesThrough_198 ?_
            refine lv_iload_n hx hb dX7_goesThrough_201 rfl (lv_at hl 3 rfl) ?_
            refine q_callPS (As := [.int (iI (C 11 0 - C 11 1))]) (rest := [.ref (g 4), .int (iI (C 9 5)), .int (iI 22), .ref (g 4)]) hx hb hml hown hts hK (c_X7_of (C 11 0 - C 11 1)) yt_X7_of ml_X7_167 (by rw [hR]; decide) (show va_P D vwCl [] _ from fun k q h => by simp at h)  rfl rfl hl.1 (lv_room (Nat.le_of_ble_eq_true rfl)) dX7_goesThrough_202 ⟨by rw [hR]; exact Nat.zero_le _, by rw [hR]; exact Nat.zero_le _⟩ ?_
            refine q_iconst hx hb dX7_goesThrough_205 ?_
            refine q_iadd hx hb dX7_goesThrough_206 ?_
            refine q_iald hx hb hK hw.1 4 0 rfl rfl (z := (26 + 4 * (C 11 0 - C 11 1) + 3)) (v := (C 3 (C 11 0 - C 11 1))) (by omega) (by exact (r_4.sh (C 11 0 - C 11 1) (by omega) (by omega)).2.2.2) dX7_goesThrough_207 ?_
            refine q_iadd hx hb dX7_goesThrough_208 ?_
            refine q_iast hx hb hK hw 4 0 rfl rfl (by omega) dX7_goesThrough_209 (fun H locs hw => ?_)
            have hw : qw D A s.heap (mW g cI cB cZ th len tl ts te tk nu er eo hL hS dp bf dr td (uI f_4 22 (C 9 5 + C 3 (C 11 0 - C 11 1))) ad hi sl sv tr) H locs := hw
            obtain ⟨f_5, e_f_5⟩ : ∃ z, z = uI f_4 22 (C 9 5 + C 3 (C 11 0 - C 11 1)) := ⟨_, rfl⟩
            have hw : qw D A s.heap (mW g cI cB cZ th len tl ts te tk nu er eo hL hS dp bf dr td f_5 ad hi sl sv tr) H locs := by rw [e_f_5]; exact hw
            have r_5 : RJ f_5 T (st ((st (adP (s1 (s1 (st C 0 (fil (C 0) ((C 11 0 - C 11 1) + 1) ((C 11 0 - C 11 1) + C 11 1) 5)) 1 0) 2 0) ((C 11 0 - C 11 1)) (0)) 0 (uI ((adP (s1 (s1 (st C 0 (fil (C 0) ((C 11 0 - C 11 1) + 1) ((C 11 0 - C 11 1) + C 11 1) 5)) 1 0) 2 0) ((C 11 0 - C 11 1)) (0)) 0) (C 11 0 - C 11 1) 2))) 9 (uI (((st (adP (s1 (s1 (st C 0 (fil (C 0) ((C 11 0 - C 11 1) + 1) ((C 11 0 - C 11 1) + C 11 1) 5)) 1 0) 2 0) ((C 11 0 - C 11 1)) (0)) 0 (uI ((adP (s1 (s1 (st C 0 (fil (C 0) ((C 11 0 - C 11 1) + 1) ((C 11 0 - C 11 1) + C 11 1) 5)) 1 0) 2 0) ((C 11 0 - C 11 1)) (0)) 0) (C 11 0 - C 11 1) 2))) 9) 5 (C 9 5 + C 3 (C 11 0 - C 11 1)))) (uI (shJ C) (C 11 4 - 1) (shJ C (C 11 4 - 1) + 1)) := by rw [e_f_5]; exact RJ_a 5 22 r_4 b_3 (by decide) (by decide) (by decide)
            refine lv_aload_n hx hb dX7_goesThrough_210 rfl (lv_at hl 2 rfl) ?_
            refine q_get hx hb hts hown hK hw.1 ci_X7 0 rfl 14 (by decide) fl_X7_20 rfl dX7_goesThrough_211 ?_
            refine lv_iload_n hx hb dX7_goesThrough_214 rfl (lv_at hl 3 rfl) ?_
            refine q_callPS (As := [.int (iI (C 11 0 - C 11 1))]) (rest := [.ref (g 4)]) hx hb hml hown hts hK (c_X7_of (C 11 0 - C 11 1)) yt_X7_of ml_X7_167 (by rw [hR]; decide) (show va_P D vwCl [] _ from fun k q h => by simp at h)  rfl rfl hl.1 (lv_room (Nat.le_of_ble_eq_true rfl)) dX7_goesThrough_215 ⟨by rw [hR]; exact Nat.zero_le _, by rw [hR]; exact Nat.zero_le _⟩ ?_
            refine q_iconst hx hb dX7_goesThrough_218 ?_
            refine q_iadd hx hb dX7_goesThrough_219 ?_
            refine q_iconst hx hb dX7_goesThrough_220 ?_
            refine q_iast hx hb hK hw 4 0 rfl rfl (by omega) dX7_goesThrough_221 (fun H locs hw => ?_)
            have hw : qw D A s.heap (mW g cI cB cZ th len tl ts te tk nu er eo hL hS dp bf dr td (uI f_5 (26 + 4 * (C 11 0 - C 11 1) + 3) 0) ad hi sl sv tr) H locs := hw
            obtain ⟨f_6, e_f_6⟩ : ∃ z, z = uI f_5 (26 + 4 * (C 11 0 - C 11 1) + 3) 0 := ⟨_, rfl⟩
            have hw : qw D A s.heap (mW g cI cB cZ th len tl ts te tk nu er eo hL hS dp bf dr td f_6 ad hi sl sv tr) H locs := by rw [e_f_6]; exact hw
            have r_6 : RJ f_6 T (st (st ((st (adP (s1 (s1 (st C 0 (fil (C 0) ((C 11 0 - C 11 1) + 1) ((C 11 0 - C 11 1) + C 11 1) 5)) 1 0) 2 0) ((C 11 0 - C 11 1)) (0)) 0 (uI ((adP (s1 (s1 (st C 0 (fil (C 0) ((C 11 0 - C 11 1) + 1) ((C 11 0 - C 11 1) + C 11 1) 5)) 1 0) 2 0) ((C 11 0 - C 11 1)) (0)) 0) (C 11 0 - C 11 1) 2))) 9 (uI (((st (adP (s1 (s1 (st C 0 (fil (C 0) ((C 11 0 - C 11 1) + 1) ((C 11 0 - C 11 1) + C 11 1) 5)) 1 0) 2 0) ((C 11 0 - C 11 1)) (0)) 0 (uI ((adP (s1 (s1 (st C 0 (fil (C 0) ((C 11 0 - C 11 1) + 1) ((C 11 0 - C 11 1) + C 11 1) 5)) 1 0) 2 0) ((C 11 0 - C 11 1)) (0)) 0) (C 11 0 - C 11 1) 2))) 9) 5 (C 9 5 + C 3 (C 11 0 - C 11 1)))) 3 (uI ((st ((st (adP (s1 (s1 (st C 0 (fil (C 0) ((C 11 0 - C 11 1) + 1) ((C 11 0 - C 11 1) + C 11 1) 5)) 1 0) 2 0) ((C 11 0 - C 11 1)) (0)) 0 (uI ((adP (s1 (s1 (st C 0 (fil (C 0) ((C 11 0 - C 11 1) + 1) ((C 11 0 - C 11 1) + C 11 1) 5)) 1 0) 2 0) ((C 11 0 - C 11 1)) (0)) 0) (C 11 0 - C 11 1) 2))) 9 (uI (((st (adP (s1 (s1 (st C 0 (fil (C 0) ((C 11 0 - C 11 1) + 1) ((C 11 0 - C 11 1) + C 11 1) 5)) 1 0) 2 0) ((C 11 0 - C 11 1)) (0)) 0 (uI ((adP (s1 (s1 (st C 0 (fil (C 0) ((C 11 0 - C 11 1) + 1) ((C 11 0 - C 11 1) + C 11 1) 5)) 1 0) 2 0) ((C 11 0 - C 11 1)) (0)) 0) (C 11 0 - C 11 1) 2))) 9) 5 (C 9 5 + C 3 (C 11 0 - C 11 1)))) 3) (C 11 0 - C 11 1) 0)) (uI (shJ C) (C 11 4 - 1) (shJ C (C 11 4 - 1) + 1)) := by rw [e_f_6]; exact RJ_ha _ _ r_5 b_3 (by omega) (by omega)
            refine lv_iload_n hx hb dX7_goesThrough_222 rfl (lv_at hl 1 rfl) ?_
            refine q_top (goR T C (C 11 0 - C 11 1)) (by unfold goR; first | exact (if_pos (by omega)).symm | (rw [if_neg (by omega)]; unfold pgs bI; (repeat' split) <;> omega)) ?_
            exact hret (f_6) H locs 223 ls (by exact ⟨hM.1, hM.2.1, WC_goC hM.1 hM.2.2.1 h1, goC_fin hM.1 hM.2.2.1 h1 (by omega) (by first | exact goB_11 (by omega) (by omega) | exact goB_10 (by omega) (by omega) | exact goB_01 (by omega) (by omega) | exact goB_00 (by omega) (by omega)) (by unfold pgs bI; (repeat' split) <;> omega) (by unfold pgs bI; (repeat' split) <;> omega) r_6⟩) hw dX7_goesThrough_223
          · refine lv_aload_n hx hb dX7_goesThrough_108 rfl (lv_at hl 2 rfl) ?_
            refine lv_iload_n hx hb dX7_goesThrough_109 rfl (lv_at hl 3 rfl) ?_
            refine lv_iload_n hx hb dX7_goesThrough_110 rfl (lv_at hl 0 rfl) ?_
            refine q_callP (As := [.int (iI (C 11 0 - C 11 1)), .int (iI 1)]) (rest := []) hx hb hml hown hts hK (c_X7_isBlank (C := C) (C 11 0 - C 11 1) (1) (by exact hM.1) (by exact hM.2.1) (by first | omega | assumption) (by first | omega | assumption) (by first | omega | assumption) (by exact hu_1_0.l3) (by first | omega | assumption)) yi_X7_isBlank ml_X7_199 (by rw [hR]; decide) hw.1 0 rfl rfl rfl rfl hl.1 (lv_room (Nat.le_of_ble_eq_true rfl)) dX7_goesThrough_111 ⟨by rw [hR]; exact Nat.zero_le _, by rw [hR]; exact Nat.zero_le _⟩ ?_
            refine q_ifb_eq (tgt := 120) hx hb dX7_goesThrough_114 (by decide) (fun c_114 => ?_) (fun c_114 => ?_)
            · refine lv_aload_n hx hb dX7_goesThrough_120 rfl (lv_at hl 2 rfl) ?_
              refine lv_iload_n hx hb dX7_goesThrough_121 rfl (lv_at hl 3 rfl) ?_
              refine lv_iload_n hx hb dX7_goesThrough_122 rfl (lv_at hl 0 rfl) ?_
              refine q_callM (As := [.int (iI (C 11 0 - C 11 1)), .int (iI 1)]) (rest := []) (wr := []) hx hb hml hown hts hK (c_X7_addPage (C := (adP (s1 (s1 (st C 0 (fil (C 0) ((C 11 0 - C 11 1) + 1) ((C 11 0 - C 11 1) + C 11 1) 5)) 1 0) 2 0) ((C 11 0 - C 11 1)) (0))) (J := (shJ C)) (C 11 0 - C 11 1) (1) (by exact b_3) (by exact hu_1_0) (by first | (show 0 ≤ C 11 3; omega) | (show 0 ≤ C 11 3 + 1; omega)) (by first | (show C 11 3 < 80; omega) | (show C 11 3 + 1 < 80; omega))) yi_X7_addPage ml_X7_206 (by rw [hR]; decide) hw hA [0, 1, 2, 3, 4, 5, 6, 7, 8, 9] [] rfl rfl (by decide) (by decide) (by decide) 0 rfl rfl rfl rfl hl.1 (lv_room (Nat.le_of_ble_eq_true rfl)) dX7_goesThrough_123 ⟨by rw [hR]; exact Nat.zero_le _, by rw [hR]; exact Nat.zero_le _⟩ (fun u_123 H locs hu_123 hw => ?_)
              obtain ⟨s2_2, rfl⟩ : ∃ z, z = u_123 := ⟨_, rfl⟩
              have hu_2_0 : RJ s2_2 T (adP (((adP (s1 (s1 (st C 0 (fil (C 0) ((C 11 0 - C 11 1) + 1) ((C 11 0 - C 11 1) + C 11 1) 5)) 1 0) 2 0) ((C 11 0 - C 11 1)) (0)))) (C 11 0 - C 11 1) 1) (((shJ C))) := hu_123
              have hw : qw D A s.heap (mW g cI cB cZ th len tl ts te tk nu er eo hL hS dp bf dr td s2_2 ad hi sl sv tr) H locs := hw
              have b_4 := (BB_ad0 b_3 (by first | (show C 11 3 + 1 ≤ 80; omega) | (show C 11 3 + 1 + 1 ≤ 80; omega)))
              refine lv_iinc (v := iI (1 + 1)) (lv' := [(2, .int (iI (1 + 1))), (3, .int (iI 1)), (0, .ref (g 0)), (1, .int (iI (C 11 0 - C 11 1)))]) hx hb dX7_goesThrough_126 hl (k := 1) rfl (iI_add _ _) (by decide) rfl (fun ls hl => ?_)
              have hl : lv_has ls 4 [(2, .int (iI 2)), (3, .int (iI 1)), (0, .ref (g 0)), (1, .int (iI (C 11 0 - C 11 1)))] := hl
              refine lv_iinc (v := iI (1 + 1)) (lv' := [(3, .int (iI (1 + 1))), (2, .int (iI 2)), (0, .ref (g 0)), (1, .int (iI (C 11 0 - C 11 1)))]) hx hb dX7_goesThrough_129 hl (k := 1) rfl (iI_add _ _) (by decide) rfl (fun ls hl => ?_)
              have hl : lv_has ls 4 [(3, .int (iI 2)), (2, .int (iI 2)), (0, .ref (g 0)), (1, .int (iI (C 11 0 - C 11 1)))] := hl
              refine lv_goto (tgt := 100) hx hb dX7_goesThrough_132 (by decide) ?_
              refine lv_iload_n hx hb dX7_goesThrough_100 rfl (lv_at hl 0 rfl) ?_
              refine lv_aload_n hx hb dX7_goesThrough_101 rfl (lv_at hl 2 rfl) ?_
              refine q_callP (As := []) (rest := [.int (iI 2)]) hx hb hml hown hts hK c_X7_sides yi_X7_sides ml_X7_192 (by rw [hR]; decide) hw.1 0 rfl rfl rfl rfl hl.1 (lv_room (Nat.le_of_ble_eq_true rfl)) dX7_goesThrough_102 ⟨by rw [hR]; exact Nat.zero_le _, by rw [hR]; exact Nat.zero_le _⟩ ?_
              refine q_top (C 11 5 + 1) (by rw [show s2_2 0 = C 11 5 from hu_2_0.s0]) ?_
              refine q_icmp_ge (tgt := 135) hx hb dX7_goesThrough_105 (by decide) (by omega) (fun c_105 => ?_) (fun c_105 => absurd c_105 (by omega))
              refine lv_aload_n hx hb dX7_goesThrough_135 rfl (lv_at hl 2 rfl) ?_
              refine q_get hx hb hts hown hK hw.1 ci_X7 0 rfl 14 (by decide) fl_X7_20 rfl dX7_goesThrough_136 ?_
              refine lv_iload_n hx hb dX7_goesThrough_139 rfl (lv_at hl 3 rfl) ?_
              refine q_callPS (As := [.int (iI (C 11 0 - C 11 1))]) (rest := [.ref (g 4)]) hx hb hml hown hts hK (c_X7_of (C 11 0 - C 11 1)) yt_X7_of ml_X7_167 (by rw [hR]; decide) (show va_P D vwCl [] _ from fun k q h => by simp at h)  rfl rfl hl.1 (lv_room (Nat.le_of_ble_eq_true rfl)) dX7_goesThrough_140 ⟨by rw [hR]; exact Nat.zero_le _, by rw [hR]; exact Nat.zero_le _⟩ ?_
              refine q_iconst hx hb dX7_goesThrough_143 ?_
              refine q_iadd hx hb dX7_goesThrough_144 ?_
              refine q_top (26 + 4 * (C 11 0 - C 11 1)) (Int.add_zero _) ?_
              refine lv_iload_n hx hb dX7_goesThrough_145 rfl (lv_at hl 1 rfl) ?_
              refine q_if_le (tgt := 153) hx hb dX7_goesThrough_146 (by decide) (by omega) (fun c_146 => absurd c_146 (by omega)) (fun c_146 => ?_)
              refine q_iconst hx hb dX7_goesThrough_149 ?_
              refine lv_goto (tgt := 154) hx hb dX7_goesThrough_150 (by decide) ?_
              refine q_iast hx hb hK hw 4 0 rfl rfl (by omega) dX7_goesThrough_154 (fun H locs hw => ?_)
              have hw : qw D A s.heap (mW g cI cB cZ th len tl ts te tk nu er eo hL hS dp bf dr td (uI s2_2 (26 + 4 * (C 11 0 - C 11 1)) 2) ad hi sl sv tr) H locs := hw
              obtain ⟨f_7, e_f_7⟩ : ∃ z, z = uI s2_2 (26 + 4 * (C 11 0 - C 11 1)) 2 := ⟨_, rfl⟩
              have hw : qw D A s.heap (mW g cI cB cZ th len tl ts te tk nu er eo hL hS dp bf dr td f_7 ad hi sl sv tr) H locs := by rw [e_f_7]; exact hw
              have r_7 : RJ f_7 T (st (adP (adP (s1 (s1 (st C 0 (fil (C 0) ((C 11 0 - C 11 1) + 1) ((C 11 0 - C 11 1) + C 11 1) 5)) 1 0) 2 0) ((C 11 0 - C 11 1)) (0)) ((C 11 0 - C 11 1)) (1)) 0 (uI ((adP (adP (s1 (s1 (st C 0 (fil (C 0) ((C 11 0 - C 11 1) + 1) ((C 11 0 - C 11 1) + C 11 1) 5)) 1 0) 2 0) ((C 11 0 - C 11 1)) (0)) ((C 11 0 - C 11 1)) (1)) 0) (C 11 0 - C 11 1) 2)) (shJ C) := by rw [e_f_7]; exact RJ_wh _ _ hu_2_0 b_4 (by omega) (by omega)
              refine lv_aload_n hx hb dX7_goesThrough_155 rfl (lv_at hl 2 rfl) ?_
              refine q_get hx hb hts hown hK hw.1 ci_X7 0 rfl 14 (by decide) fl_X7_20 rfl dX7_goesThrough_156 ?_
              refine q_sipush hx hb dX7_goesThrough_159 rfl ?_
              refine q_iconst hx hb dX7_goesThrough_162 ?_
              refine lv_aload_n hx hb dX7_goesThrough_163 rfl (lv_at hl 2 rfl) ?_
              refine q_get hx hb hts hown hK hw.1 ci_X7 0 rfl 14 (by decide) fl_X7_20 rfl dX7_goesThrough_164 ?_
              refine q_bipush hx hb dX7_goesThrough_167 rfl ?_
              refine q_iald hx hb hK hw.1 4 0 rfl rfl (z := 16) (v := (C 11 4)) (by omega) (by exact r_7.s16) dX7_goesThrough_169 ?_
              refine q_iconst hx hb dX7_goesThrough_170 ?_
              refine q_isub hx hb dX7_goesThrough_171 ?_
              refine q_imul hx hb dX7_goesThrough_172 ?_
              refine q_iadd hx hb dX7_goesThrough_173 ?_
              refine q_iconst hx hb dX7_goesThrough_174 ?_
              refine q_iadd hx hb dX7_goesThrough_175 ?_
              refine lv_dup2_11 hx hb dX7_goesThrough_176 rfl rfl ?_
              refine q_iald hx hb hK hw.1 4 0 rfl rfl (z := (426 + 2 * (C 11 4 - 1) + 1)) (v := (shJ C (C 11 4 - 1))) (by omega) (by exact r_7.jo (C 11 4 - 1) (by omega) (by show C 11 4 - 1 < C 11 4; omega)) dX7_goesThrough_177 ?_
              refine lv_iload_n hx hb dX7_goesThrough_178 rfl (lv_at hl 1 rfl) ?_
              refine q_if_le (tgt := 186) hx hb dX7_goesThrough_179 (by decide) (by omega) (fun c_179 => absurd c_179 (by omega)) (fun c_179 => ?_)
              refine q_iconst hx hb dX7_goesThrough_182 ?_
              refine lv_goto (tgt := 187) hx hb dX7_goesThrough_183 (by decide) ?_
              refine q_iadd hx hb dX7_goesThrough_187 ?_
              refine q_iast hx hb hK hw 4 0 rfl rfl (by omega) dX7_goesThrough_188 (fun H locs hw => ?_)
              have hw : qw D A s.heap (mW g cI cB cZ th len tl ts te tk nu er eo hL hS dp bf dr td (uI f_7 (426 + 2 * (C 11 4 - 1) + 1) (shJ C (C 11 4 - 1) + 1)) ad hi sl sv tr) H locs := hw
              obtain ⟨f_8, e_f_8⟩ : ∃ z, z = uI f_7 (426 + 2 * (C 11 4 - 1) + 1) (shJ C (C 11 4 - 1) + 1) := ⟨_, rfl⟩
              have hw : qw D A s.heap (mW g cI cB cZ th len tl ts te tk nu er eo hL hS dp bf dr td f_8 ad hi sl sv tr) H locs := by rw [e_f_8]; exact hw
              have r_8 : RJ f_8 T ((st (adP (adP (s1 (s1 (st C 0 (fil (C 0) ((C 11 0 - C 11 1) + 1) ((C 11 0 - C 11 1) + C 11 1) 5)) 1 0) 2 0) ((C 11 0 - C 11 1)) (0)) ((C 11 0 - C 11 1)) (1)) 0 (uI ((adP (adP (s1 (s1 (st C 0 (fil (C 0) ((C 11 0 - C 11 1) + 1) ((C 11 0 - C 11 1) + C 11 1) 5)) 1 0) 2 0) ((C 11 0 - C 11 1)) (0)) ((C 11 0 - C 11 1)) (1)) 0) (C 11 0 - C 11 1) 2))) (uI (shJ C) (C 11 4 - 1) (shJ C (C 11 4 - 1) + 1)) := by rw [e_f_8]; exact RJ_jn _ _ r_7 b_4 (by omega) (by omega)
              refine lv_aload_n hx hb dX7_goesThrough_189 rfl (lv_at hl 2 rfl) ?_
              refine q_get hx hb hts hown hK hw.1 ci_X7 0 rfl 14 (by decide) fl_X7_20 rfl dX7_goesThrough_190 ?_
              refine q_bipush hx hb dX7_goesThrough_193 rfl ?_
              refine lv_dup2_11 hx hb dX7_goesThrough_195 rfl rfl ?_
              refine q_iald hx hb hK hw.1 4 0 rfl rfl (z := 22) (v := (C 9 5)) (by omega) (by exact r_8.a 5 22 (by decide) (by decide) (by decide)) dX7_goesThrough_196 ?_
              refine lv_aload_n hx hb dX7_goesThrough_197 rfl (lv_at hl 2 rfl) ?_
              refine q_get hx hb hts hown hK hw.1 ci_X7 0 rfl 14 (by decide) fl_X7_20 rfl dX7_goesThrough_198 ?_
              refine lv_iload_n hx hb dX7_goesThrough_201 rfl (lv_at hl 3 rfl) ?_
              refine q_callPS (As := [.int (iI (C 11 0 - C 11 1))]) (rest := [.ref (g 4), .int (iI (C 9 5)), .int (iI 22), .ref (g 4)]) hx hb hml hown hts hK (c_X7_of (C 11 0 - C 11 1)) yt_X7_of ml_X7_167 (by rw [hR]; decide) (show va_P D vwCl [] _ from fun k q h => by simp at h)  rfl rfl hl.1 (lv_room (Nat.le_of_ble_eq_true rfl)) dX7_goesThrough_202 ⟨by rw [hR]; exact Nat.zero_le _, by rw [hR]; exact Nat.zero_le _⟩ ?_
              refine q_iconst hx hb dX7_goesThrough_205 ?_
              refine q_iadd hx hb dX7_goesThrough_206 ?_
              refine q_iald hx hb hK hw.1 4 0 rfl rfl (z := (26 + 4 * (C 11 0 - C 11 1) + 3)) (v := (C 3 (C 11 0 - C 11 1))) (by omega) (by exact (r_8.sh (C 11 0 - C 11 1) (by omega) (by omega)).2.2.2) dX7_goesThrough_207 ?_
              refine q_iadd hx hb dX7_goesThrough_208 ?_
              refine q_iast hx hb hK hw 4 0 rfl rfl (by omega) dX7_goesThrough_209 (fun H locs hw => ?_)
              have hw : qw D A s.heap (mW g cI cB cZ th len tl ts te tk nu er eo hL hS dp bf dr td (uI f_8 22 (C 9 5 + C 3 (C 11 0 - C 11 1))) ad hi sl sv tr) H locs := hw
              obtain ⟨f_9, e_f_9⟩ : ∃ z, z = uI f_8 22 (C 9 5 + C 3 (C 11 0 - C 11 1)) := ⟨_, rfl⟩
              have hw : qw D A s.heap (mW g cI cB cZ th len tl ts te tk nu er eo hL hS dp bf dr td f_9 ad hi sl sv tr) H locs := by rw [e_f_9]; exact hw
              have r_9 : RJ f_9 T (st ((st (adP (adP (s1 (s1 (st C 0 (fil (C 0) ((C 11 0 - C 11 1) + 1) ((C 11 0 - C 11 1) + C 11 1) 5)) 1 0) 2 0) ((C 11 0 - C 11 1)) (0)) ((C 11 0 - C 11 1)) (1)) 0 (uI ((adP (adP (s1 (s1 (st C 0 (fil (C 0) ((C 11 0 - C 11 1) + 1) ((C 11 0 - C 11 1) + C 11 1) 5)) 1 0) 2 0) ((C 11 0 - C 11 1)) (0)) ((C 11 0 - C 11 1)) (1)) 0) (C 11 0 - C 11 1) 2))) 9 (uI (((st (adP (adP (s1 (s1 (st C 0 (fil (C 0) ((C 11 0 - C 11 1) + 1) ((C 11 0 - C 11 1) + C 11 1) 5)) 1 0) 2 0) ((C 11 0 - C 11 1)) (0)) ((C 11 0 - C 11 1)) (1)) 0 (uI ((adP (adP (s1 (s1 (st C 0 (fil (C 0) ((C 11 0 - C 11 1) + 1) ((C 11 0 - C 11 1) + C 11 1) 5)) 1 0) 2 0) ((C 11 0 - C 11 1)) (0)) ((C 11 0 - C 11 1)) (1)) 0) (C 11 0 - C 11 1) 2))) 9) 5 (C 9 5 + C 3 (C 11 0 - C 11 1)))) (uI (shJ C) (C 11 4 - 1) (shJ C (C 11 4 - 1) + 1)) := by rw [e_f_9]; exact RJ_a 5 22 r_8 b_4 (by decide) (by decide) (by decide)
              refine lv_aload_n hx hb dX7_goesThrough_210 rfl (lv_at hl 2 rfl) ?_
              refine q_get hx hb hts hown hK hw.1 ci_X7 0 rfl 14 (by decide) fl_X7_20 rfl dX7_goesThrough_211 ?_
              refine lv_iload_n hx hb dX7_goesThrough_214 rfl (lv_at hl 3 rfl) ?_
              refine q_callPS (As := [.int (iI (C 11 0 - C 11 1))]) (rest := [.ref (g 4)]) hx hb hml hown hts hK (c_X7_of (C 11 0 - C 11 1)) yt_X7_of ml_X7_167 (by rw [hR]; decide) (show va_P D vwCl [] _ from fun k q h => by simp at h)  rfl rfl hl.1 (lv_room (Nat.le_of_ble_eq_true rfl)) dX7_goesThrough_215 ⟨by rw [hR]; exact Nat.zero_le _, by rw [hR]; exact Nat.zero_le _⟩ ?_
              refine q_iconst hx hb dX7_goesThrough_218 ?_
              refine q_iadd hx hb dX7_goesThrough_219 ?_
              refine q_iconst hx hb dX7_goesThrough_220 ?_
              refine q_iast hx hb hK hw 4 0 rfl rfl (by omega) dX7_goesThrough_221 (fun H locs hw => ?_)
              have hw : qw D A s.heap (mW g cI cB cZ th len tl ts te tk nu er eo hL hS dp bf dr td (uI f_9 (26 + 4 * (C 11 0 - C 11 1) + 3) 0) ad hi sl sv tr) H locs := hw
              obtain ⟨f_10, e_f_10⟩ : ∃ z, z = uI f_9 (26 + 4 * (C 11 0 - C 11 1) + 3) 0 := ⟨_, rfl⟩
              have hw : qw D A s.heap (mW g cI cB cZ th len tl ts te tk nu er eo hL hS dp bf dr td f_10 ad hi sl sv tr) H locs := by rw [e_f_10]; exact hw
              have r_10 : RJ f_10 T (st (st ((st (adP (adP (s1 (s1 (st C 0 (fil (C 0) ((C 11 0 - C 11 1) + 1) ((C 11 0 - C 11 1) + C 11 1) 5)) 1 0) 2 0) ((C 11 0 - C 11 1)) (0)) ((C 11 0 - C 11 1)) (1)) 0 (uI ((adP (adP (s1 (s1 (st C 0 (fil (C 0) ((C 11 0 - C 11 1) + 1) ((C 11 0 - C 11 1) + C 11 1) 5)) 1 0) 2 0) ((C 11 0 - C 11 1)) (0)) ((C 11 0 - C 11 1)) (1)) 0) (C 11 0 - C 11 1) 2))) 9 (uI (((st (adP (adP (s1 (s1 (st C 0 (fil (C 0) ((C 11 0 - C 11 1) + 1) ((C 11 0 - C 11 1) + C 11 1) 5)) 1 0) 2 0) ((C 11 0 - C 11 1)) (0)) ((C 11 0 - C 11 1)) (1)) 0 (uI ((adP (adP (s1 (s1 (st C 0 (fil (C 0) ((C 11 0 - C 11 1) + 1) ((C 11 0 - C 11 1) + C 11 1) 5)) 1 0) 2 0) ((C 11 0 - C 11 1)) (0)) ((C 11 0 - C 11 1)) (1)) 0) (C 11 0 - C 11 1) 2))) 9) 5 (C 9 5 + C 3 (C 11 0 - C 11 1)))) 3 (uI ((st ((st (adP (adP (s1 (s1 (st C 0 (fil (C 0) ((C 11 0 - C 11 1) + 1) ((C 11 0 - C 11 1) + C 11 1) 5)) 1 0) 2 0) ((C 11 0 - C 11 1)) (0)) ((C 11 0 - C 11 1)) (1)) 0 (uI ((adP (adP (s1 (s1 (st C 0 (fil (C 0) ((C 11 0 - C 11 1) + 1) ((C 11 0 - C 11 1) + C 11 1) 5)) 1 0) 2 0) ((C 11 0 - C 11 1)) (0)) ((C 11 0 - C 11 1)) (1)) 0) (C 11 0 - C 11 1) 2))) 9 (uI (((st (adP (adP (s1 (s1 (st C 0 (fil (C 0) ((C 11 0 - C 11 1) + 1) ((C 11 0 - C 11 1) + C 11 1) 5)) 1 0) 2 0) ((C 11 0 - C 11 1)) (0)) ((C 11 0 - C 11 1)) (1)) 0 (uI ((adP (adP (s1 (s1 (st C 0 (fil (C 0) ((C 11 0 - C 11 1) + 1) ((C 11 0 - C 11 1) + C 11 1) 5)) 1 0) 2 0) ((C 11 0 - C 11 1)) (0)) ((C 11 0 - C 11 1)) (1)) 0) (C 11 0 - C 11 1) 2))) 9) 5 (C 9 5 + C 3 (C 11 0 - C 11 1)))) 3) (C 11 0 - C 11 1) 0)) (uI (shJ C) (C 11 4 - 1) (shJ C (C 11 4 - 1) + 1)) := by rw [e_f_10]; exact RJ_ha _ _ r_9 b_4 (by omega) (by omega)
              refine lv_iload_n hx hb dX7_goesThrough_222 rfl (lv_at hl 1 rfl) ?_
              refine q_top (goR T C (C 11 0 - C 11 1)) (by unfold goR; first | exact (if_pos (by omega)).symm | (rw [if_neg (by omega)]; unfold pgs bI; (repeat' split) <;> omega)) ?_
              exact hret (f_10) H locs 223 ls (by exact ⟨hM.1, hM.2.1, WC_goC hM.1 hM.2.2.1 h1, goC_fin hM.1 hM.2.2.1 h1 (by omega) (by first | exact goB_11 (by omega) (by omega) | exact goB_10 (by omega) (by omega) | exact goB_01 (by omega) (by omega) | exact goB_00 (by omega) (by omega)) (by unfold pgs bI; (repeat' split) <;> omega) (by unfold pgs bI; (repeat' split) <;> omega) r_10⟩) hw dX7_goesThrough_223
            · refine lv_goto (tgt := 129) hx hb dX7_goesThrough_117 (by decide) ?_
              refine lv_iinc (v := iI (1 + 1)) (lv' := [(3, .int (iI (1 + 1))), (2, .int (iI 1)), (0, .ref (g 0)), (1, .int (iI (C 11 0 - C 11 1)))]) hx hb dX7_goesThrough_129 hl (k := 0) rfl (iI_add _ _) (by decide) rfl (fun ls hl => ?_)
              have hl : lv_has ls 4 [(3, .int (iI 2)), (2, .int (iI 1)), (0, .ref (g 0)), (1, .int (iI (C 11 0 - C 11 1)))] := hl
              refine lv_goto (tgt := 100) hx hb dX7_goesThrough_132 (by decide) ?_
              refine lv_iload_n hx hb dX7_goesThrough_100 rfl (lv_at hl 0 rfl) ?_
              refine lv_aload_n hx hb dX7_goesThrough_101 rfl (lv_at hl 2 rfl) ?_
              refine q_callP (As := []) (rest := [.int (iI 2)]) hx hb hml hown hts hK c_X7_sides yi_X7_sides ml_X7_192 (by rw [hR]; decide) hw.1 0 rfl rfl rfl rfl hl.1 (lv_room (Nat.le_of_ble_eq_true rfl)) dX7_goesThrough_102 ⟨by rw [hR]; exact Nat.zero_le _, by rw [hR]; exact Nat.zero_le _⟩ ?_
              refine q_top (C 11 5 + 1) (by rw [show s2_1 0 = C 11 5 from hu_1_0.s0]) ?_
              refine q_icmp_ge (tgt := 135) hx hb dX7_goesThrough_105 (by decide) (by omega) (fun c_105 => ?_) (fun c_105 => absurd c_105 (by omega))
              refine lv_aload_n hx hb dX7_goesThrough_135 rfl (lv_at hl 2 rfl) ?_
              refine q_get hx hb hts hown hK hw.1 ci_X7 0 rfl 14 (by decide) fl_X7_20 rfl dX7_goesThrough_136 ?_
              refine lv_iload_n hx hb dX7_goesThrough_139 rfl (lv_at hl 3 rfl) ?_
              refine q_callPS (As := [.int (iI (C 11 0 - C 11 1))]) (rest := [.ref (g 4)]) hx hb hml hown hts hK (c_X7_of (C 11 0 - C 11 1)) yt_X7_of ml_X7_167 (by rw [hR]; decide) (show va_P D vwCl [] _ from fun k q h => by simp at h)  rfl rfl hl.1 (lv_room (Nat.le_of_ble_eq_true rfl)) dX7_goesThrough_140 ⟨by rw [hR]; exact Nat.zero_le _, by rw [hR]; exact Nat.zero_le _⟩ ?_
              refine q_iconst hx hb dX7_goesThrough_143 ?_
              refine q_iadd hx hb dX7_goesThrough_144 ?_
              refine q_top (26 + 4 * (C 11 0 - C 11 1)) (Int.add_zero _) ?_
              refine lv_iload_n hx hb dX7_goesThrough_145 rfl (lv_at hl 1 rfl) ?_
              refine q_if_le (tgt := 153) hx hb dX7_goesThrough_146 (by decide) (by omega) (fun c_146 => absurd c_146 (by omega)) (fun c_146 => ?_)
              refine q_iconst hx hb dX7_goesThrough_149 ?_
              refine lv_goto (tgt := 154) hx hb dX7_goesThrough_150 (by decide) ?_
              refine q_iast hx hb hK hw 4 0 rfl rfl (by omega) dX7_goesThrough_154 (fun H locs hw => ?_)
              have hw : qw D A s.heap (mW g cI cB cZ th len tl ts te tk nu er eo hL hS dp bf dr td (uI s2_1 (26 + 4 * (C 11 0 - C 11 1)) 2) ad hi sl sv tr) H locs := hw
              obtain ⟨f_11, e_f_11⟩ : ∃ z, z = uI s2_1 (26 + 4 * (C 11 0 - C 11 1)) 2 := ⟨_, rfl⟩
              have hw : qw D A s.heap (mW g cI cB cZ th len tl ts te tk nu er eo hL hS dp bf dr td f_11 ad hi sl sv tr) H locs := by rw [e_f_11]; exact hw
              have r_11 : RJ f_11 T (st (adP (s1 (s1 (st C 0 (fil (C 0) ((C 11 0 - C 11 1) + 1) ((C 11 0 - C 11 1) + C 11 1) 5)) 1 0) 2 0) ((C 11 0 - C 11 1)) (0)) 0 (uI ((adP (s1 (s1 (st C 0 (fil (C 0) ((C 11 0 - C 11 1) + 1) ((C 11 0 - C 11 1) + C 11 1) 5)) 1 0) 2 0) ((C 11 0 - C 11 1)) (0)) 0) (C 11 0 - C 11 1) 2)) (shJ C) := by rw [e_f_11]; exact RJ_wh _ _ hu_1_0 b_3 (by omega) (by omega)
              refine lv_aload_n hx hb dX7_goesThrough_155 rfl (lv_at hl 2 rfl) ?_
              refine q_get hx hb hts hown hK hw.1 ci_X7 0 rfl 14 (by decide) fl_X7_20 rfl dX7_goesThrough_156 ?_
              refine q_sipush hx hb dX7_goesThrough_159 rfl ?_
              refine q_iconst hx hb dX7_goesThrough_162 ?_
              refine lv_aload_n hx hb dX7_goesThrough_163 rfl (lv_at hl 2 rfl) ?_
              refine q_get hx hb hts hown hK hw.1 ci_X7 0 rfl 14 (by decide) fl_X7_20 rfl dX7_goesThrough_164 ?_
              refine q_bipush hx hb dX7_goesThrough_167 rfl ?_
              refine q_iald hx hb hK hw.1 4 0 rfl rfl (z := 16) (v := (C 11 4)) (by omega) (by exact r_11.s16) dX7_goesThrough_169 ?_
              refine q_iconst hx hb dX7_goesThrough_170 ?_
              refine q_isub hx hb dX7_goesThrough_171 ?_
              refine q_imul hx hb dX7_goesThrough_172 ?_
              refine q_iadd hx hb dX7_goesThrough_173 ?_
              refine q_iconst hx hb dX7_goesThrough_174 ?_
              refine q_iadd hx hb dX7_goesThrough_175 ?_
              refine lv_dup2_11 hx hb dX7_goesThrough_176 rfl rfl ?_
              refine q_iald hx hb hK hw.1 4 0 rfl rfl (z := (426 + 2 * (C 11 4 - 1) + 1)) (v := (shJ C (C 11 4 - 1))) (by omega) (by exact r_11.jo (C 11 4 - 1) (by omega) (by show C 11 4 - 1 < C 11 4; omega)) dX7_goesThrough_177 ?_
              refine lv_iload_n hx hb dX7_goesThrough_178 rfl (lv_at hl 1 rfl) ?_
              refine q_if_le (tgt := 186) hx hb dX7_goesThrough_179 (by decide) (by omega) (fun c_179 => absurd c_179 (by omega)) (fun c_179 => ?_)
              refine q_iconst hx hb dX7_goesThrough_182 ?_
              refine lv_goto (tgt := 187) hx hb dX7_goesThrough_183 (by decide) ?_
              refine q_iadd hx hb dX7_goesThrough_187 ?_
              refine q_iast hx hb hK hw 4 0 rfl rfl (by omega) dX7_goesThrough_188 (fun H locs hw => ?_)
              have hw : qw D A s.heap (mW g cI cB cZ th len tl ts te tk nu er eo hL hS dp bf dr td (uI f_11 (426 + 2 * (C 11 4 - 1) + 1) (shJ C (C 11 4 - 1) + 1)) ad hi sl sv tr) H locs := hw
              obtain ⟨f_12, e_f_12⟩ : ∃ z, z = uI f_11 (426 + 2 * (C 11 4 - 1) + 1) (shJ C (C 11 4 - 1) + 1) := ⟨_, rfl⟩
              have hw : qw D A s.heap (mW g cI cB cZ th len tl ts te tk nu er eo hL hS dp bf dr td f_12 ad hi sl sv tr) H locs := by rw [e_f_12]; exact hw
              have r_12 : RJ f_12 T ((st (adP (s1 (s1 (st C 0 (fil (C 0) ((C 11 0 - C 11 1) + 1) ((C 11 0 - C 11 1) + C 11 1) 5)) 1 0) 2 0) ((C 11 0 - C 11 1)) (0)) 0 (uI ((adP (s1 (s1 (st C 0 (fil (C 0) ((C 11 0 - C 11 1) + 1) ((C 11 0 - C 11 1) + C 11 1) 5)) 1 0) 2 0) ((C 11 0 - C 11 1)) (0)) 0) (C 11 0 - C 11 1) 2))) (uI (shJ C) (C 11 4 - 1) (shJ C (C 11 4 - 1) + 1)) := by rw [e_f_12]; exact RJ_jn _ _ r_11 b_3 (by omega) (by omega)
              refine lv_aload_n hx hb dX7_goesThrough_189 rfl (lv_at hl 2 rfl) ?_
              refine q_get hx hb hts hown hK hw.1 ci_X7 0 rfl 14 (by decide) fl_X7_20 rfl dX7_goesThrough_190 ?_
              refine q_bipush hx hb dX7_goesThrough_193 rfl ?_
              refine lv_dup2_11 hx hb dX7_goesThrough_195 rfl rfl ?_
              refine q_iald hx hb hK hw.1 4 0 rfl rfl (z := 22) (v := (C 9 5)) (by omega) (by exact r_12.a 5 22 (by decide) (by decide) (by decide)) dX7_goesThrough_196 ?_
              refine lv_aload_n hx hb dX7_goesThrough_197 rfl (lv_at hl 2 rfl) ?_
              refine q_get hx hb hts hown hK hw.1 ci_X7 0 rfl 14 (by decide) fl_X7_20 rfl dX7_goesThrough_198 ?_
              refine lv_iload_n hx hb dX7_goesThrough_201 rfl (lv_at hl 3 rfl) ?_
              refine q_callPS (As := [.int (iI (C 11 0 - C 11 1))]) (rest := [.ref (g 4), .int (iI (C 9 5)), .int (iI 22), .ref (g 4)]) hx hb hml hown hts hK (c_X7_of (C 11 0 - C 11 1)) yt_X7_of ml_X7_167 (by rw [hR]; decide) (show va_P D vwCl [] _ from fun k q h => by simp at h)  rfl rfl hl.1 (lv_room (Nat.le_of_ble_eq_true rfl)) dX7_goesThrough_202 ⟨by rw [hR]; exact Nat.zero_le _, by rw [hR]; exact Nat.zero_le _⟩ ?_
              refine q_iconst hx hb dX7_goesThrough_205 ?_
              refine q_iadd hx hb dX7_goesThrough_206 ?_
              refine q_iald hx hb hK hw.1 4 0 rfl rfl (z := (26 + 4 * (C 11 0 - C 11 1) + 3)) (v := (C 3 (C 11 0 - C 11 1))) (by omega) (by exact (r_12.sh (C 11 0 - C 11 1) (by omega) (by omega)).2.2.2) dX7_goesThrough_207 ?_
              refine q_iadd hx hb dX7_goesThrough_208 ?_
              refine q_iast hx hb hK hw 4 0 rfl rfl (by omega) dX7_goesThrough_209 (fun H locs hw => ?_)
              have hw : qw D A s.heap (mW g cI cB cZ th len tl ts te tk nu er eo hL hS dp bf dr td (uI f_12 22 (C 9 5 + C 3 (C 11 0 - C 11 1))) ad hi sl sv tr) H locs := hw
              obtain ⟨f_13, e_f_13⟩ : ∃ z, z = uI f_12 22 (C 9 5 + C 3 (C 11 0 - C 11 1)) := ⟨_, rfl⟩
              have hw : qw D A s.heap (mW g cI cB cZ th len tl ts te tk nu er eo hL hS dp bf dr td f_13 ad hi sl sv tr) H locs := by rw [e_f_13]; exact hw
              have r_13 : RJ f_13 T (st ((st (adP (s1 (s1 (st C 0 (fil (C 0) ((C 11 0 - C 11 1) + 1) ((C 11 0 - C 11 1) + C 11 1) 5)) 1 0) 2 0) ((C 11 0 - C 11 1)) (0)) 0 (uI ((adP (s1 (s1 (st C 0 (fil (C 0) ((C 11 0 - C 11 1) + 1) ((C 11 0 - C 11 1) + C 11 1) 5)) 1 0) 2 0) ((C 11 0 - C 11 1)) (0)) 0) (C 11 0 - C 11 1) 2))) 9 (uI (((st (adP (s1 (s1 (st C 0 (fil (C 0) ((C 11 0 - C 11 1) + 1) ((C 11 0 - C 11 1) + C 11 1) 5)) 1 0) 2 0) ((C 11 0 - C 11 1)) (0)) 0 (uI ((adP (s1 (s1 (st C 0 (fil (C 0) ((C 11 0 - C 11 1) + 1) ((C 11 0 - C 11 1) + C 11 1) 5)) 1 0) 2 0) ((C 11 0 - C 11 1)) (0)) 0) (C 11 0 - C 11 1) 2))) 9) 5 (C 9 5 + C 3 (C 11 0 - C 11 1)))) (uI (shJ C) (C 11 4 - 1) (shJ C (C 11 4 - 1) + 1)) := by rw [e_f_13]; exact RJ_a 5 22 r_12 b_3 (by decide) (by decide) (by decide)
              refine lv_aload_n hx hb dX7_goesThrough_210 rfl (lv_at hl 2 rfl) ?_
              refine q_get hx hb hts hown hK hw.1 ci_X7 0 rfl 14 (by decide) fl_X7_20 rfl dX7_goesThrough_211 ?_
              refine lv_iload_n hx hb dX7_goesThrough_214 rfl (lv_at hl 3 rfl) ?_
              refine q_callPS (As := [.int (iI (C 11 0 - C 11 1))]) (rest := [.ref (g 4)]) hx hb hml hown hts hK (c_X7_of (C 11 0 - C 11 1)) yt_X7_of ml_X7_167 (by rw [hR]; decide) (show va_P D vwCl [] _ from fun k q h => by simp at h)  rfl rfl hl.1 (lv_room (Nat.le_of_ble_eq_true rfl)) dX7_goesThrough_215 ⟨by rw [hR]; exact Nat.zero_le _, by rw [hR]; exact Nat.zero_le _⟩ ?_
              refine q_iconst hx hb dX7_goesThrough_218 ?_
              refine q_iadd hx hb dX7_goesThrough_219 ?_
              refine q_iconst hx hb dX7_goesThrough_220 ?_
              refine q_iast hx hb hK hw 4 0 rfl rfl (by omega) dX7_goesThrough_221 (fun H locs hw => ?_)
              have hw : qw D A s.heap (mW g cI cB cZ th len tl ts te tk nu er eo hL hS dp bf dr td (uI f_13 (26 + 4 * (C 11 0 - C 11 1) + 3) 0) ad hi sl sv tr) H locs := hw
              obtain ⟨f_14, e_f_14⟩ : ∃ z, z = uI f_13 (26 + 4 * (C 11 0 - C 11 1) + 3) 0 := ⟨_, rfl⟩
              have hw : qw D A s.heap (mW g cI cB cZ th len tl ts te tk nu er eo hL hS dp bf dr td f_14 ad hi sl sv tr) H locs := by rw [e_f_14]; exact hw
              have r_14 : RJ f_14 T (st (st ((st (adP (s1 (s1 (st C 0 (fil (C 0) ((C 11 0 - C 11 1) + 1) ((C 11 0 - C 11 1) + C 11 1) 5)) 1 0) 2 0) ((C 11 0 - C 11 1)) (0)) 0 (uI ((adP (s1 (s1 (st C 0 (fil (C 0) ((C 11 0 - C 11 1) + 1) ((C 11 0 - C 11 1) + C 11 1) 5)) 1 0) 2 0) ((C 11 0 - C 11 1)) (0)) 0) (C 11 0 - C 11 1) 2))) 9 (uI (((st (adP (s1 (s1 (st C 0 (fil (C 0) ((C 11 0 - C 11 1) + 1) ((C 11 0 - C 11 1) + C 11 1) 5)) 1 0) 2 0) ((C 11 0 - C 11 1)) (0)) 0 (uI ((adP (s1 (s1 (st C 0 (fil (C 0) ((C 11 0 - C 11 1) + 1) ((C 11 0 - C 11 1) + C 11 1) 5)) 1 0) 2 0) ((C 11 0 - C 11 1)) (0)) 0) (C 11 0 - C 11 1) 2))) 9) 5 (C 9 5 + C 3 (C 11 0 - C 11 1)))) 3 (uI ((st ((st (adP (s1 (s1 (st C 0 (fil (C 0) ((C 11 0 - C 11 1) + 1) ((C 11 0 - C 11 1) + C 11 1) 5)) 1 0) 2 0) ((C 11 0 - C 11 1)) (0)) 0 (uI ((adP (s1 (s1 (st C 0 (fil (C 0) ((C 11 0 - C 11 1) + 1) ((C 11 0 - C 11 1) + C 11 1) 5)) 1 0) 2 0) ((C 11 0 - C 11 1)) (0)) 0) (C 11 0 - C 11 1) 2))) 9 (uI (((st (adP (s1 (s1 (st C 0 (fil (C 0) ((C 11 0 - C 11 1) + 1) ((C 11 0 - C 11 1) + C 11 1) 5)) 1 0) 2 0) ((C 11 0 - C 11 1)) (0)) 0 (uI ((adP (s1 (s1 (st C 0 (fil (C 0) ((C 11 0 - C 11 1) + 1) ((C 11 0 - C 11 1) + C 11 1) 5)) 1 0) 2 0) ((C 11 0 - C 11 1)) (0)) 0) (C 11 0 - C 11 1) 2))) 9) 5 (C 9 5 + C 3 (C 11 0 - C 11 1)))) 3) (C 11 0 - C 11 1) 0)) (uI (shJ C) (C 11 4 - 1) (shJ C (C 11 4 - 1) + 1)) := by rw [e_f_14]; exact RJ_ha _ _ r_13 b_3 (by omega) (by omega)
              refine lv_iload_n hx hb dX7_goesThrough_222 rfl (lv_at hl 1 rfl) ?_
              refine q_top (goR T C (C 11 0 - C 11 1)) (by unfold goR; first | exact (if_pos (by omega)).symm | (rw [if_neg (by omega)]; unfold pgs bI; (repeat' split) <;> omega)) ?_
              exact hret (f_14) H locs 223 ls (by exact ⟨hM.1, hM.2.1, WC_goC hM.1 hM.2.2.1 h1, goC_fin hM.1 hM.2.2.1 h1 (by omega) (by first | exact goB_11 (by omega) (by omega) | exact goB_10 (by omega) (by omega) | exact goB_01 (by omega) (by omega) | exact goB_00 (by omega) (by omega)) (by unfold pgs bI; (repeat' split) <;> omega) (by unfold pgs bI; (repeat' split) <;> omega) r_14⟩) hw dX7_goesThrough_223
        · refine lv_goto (tgt := 129) hx hb dX7_goesThrough_117 (by decide) ?_
          refine lv_iinc (v := iI (0 + 1)) (lv' := [(3, .int (iI (0 + 1))), (2, .int (iI 0)), (0, .ref (g 0)), (1, .int (iI (C 11 0 - C 11 1)))]) hx hb dX7_goesThrough_129 hl (k := 0) rfl (iI_add _ _) (by decide) rfl (fun ls hl => ?_)
          have hl : lv_has ls 4 [(3, .int (iI 1)), (2, .int (iI 0)), (0, .ref (g 0)), (1, .int (iI (C 11 0 - C 11 1)))] := hl
          refine lv_goto (tgt := 100) hx hb dX7_goesThrough_132 (by decide) ?_
          refine lv_iload_n hx hb dX7_goesThrough_100 rfl (lv_at hl 0 rfl) ?_
          refine lv_aload_n hx hb dX7_goesThrough_101 rfl (lv_at hl 2 rfl) ?_
          refine q_callP (As := []) (rest := [.int (iI 1)]) hx hb hml hown hts hK c_X7_sides yi_X7_sides ml_X7_192 (by rw [hR]; decide) hw.1 0 rfl rfl rfl rfl hl.1 (lv_room (Nat.le_of_ble_eq_true rfl)) dX7_goesThrough_102 ⟨by rw [hR]; exact Nat.zero_le _, by rw [hR]; exact Nat.zero_le _⟩ ?_
          refine q_top (C 11 5 + 1) (by rw [show f_2 0 = C 11 5 from r_2.s0]) ?_
          refine q_icmp_ge (tgt := 135) hx hb dX7_goesThrough_105 (by decide) (by omega) (fun c_105 => ?_) (fun c_105 => ?_)
          · refine lv_aload_n hx hb dX7_goesThrough_135 rfl (lv_at hl 2 rfl) ?_
            refine q_get hx hb hts hown hK hw.1 ci_X7 0 rfl 14 (by decide) fl_X7_20 rfl dX7_goesThrough_136 ?_
            refine lv_iload_n hx hb dX7_goesThrough_139 rfl (lv_at hl 3 rfl) ?_
            refine q_callPS (As := [.int (iI (C 11 0 - C 11 1))]) (rest := [.ref (g 4)]) hx hb hml hown hts hK (c_X7_of (C 11 0 - C 11 1)) yt_X7_of ml_X7_167 (by rw [hR]; decide) (show va_P D vwCl [] _ from fun k q h => by simp at h)  rfl rfl hl.1 (lv_room (Nat.le_of_ble_eq_true rfl)) dX7_goesThrough_140 ⟨by rw [hR]; exact Nat.zero_le _, by rw [hR]; exact Nat.zero_le _⟩ ?_
            refine q_iconst hx hb dX7_goesThrough_143 ?_
            refine q_iadd hx hb dX7_goesThrough_144 ?_
            refine q_top (26 + 4 * (C 11 0 - C 11 1)) (Int.add_zero _) ?_
            refine lv_iload_n hx hb dX7_goesThrough_145 rfl (lv_at hl 1 rfl) ?_
            refine q_if_le (tgt := 153) hx hb dX7_goesThrough_146 (by decide) (by omega) (fun c_146 => ?_) (fun c_146 => absurd c_146 (by omega))
            refine q_iconst hx hb dX7_goesThrough_153 ?_
            refine q_iast hx hb hK hw 4 0 rfl rfl (by omega) dX7_goesThrough_154 (fun H locs hw => ?_)
            have hw : qw D A s.heap (mW g cI cB cZ th len tl ts te tk nu er eo hL hS dp bf dr td (uI f_2 (26 + 4 * (C 11 0 - C 11 1)) 3) ad hi sl sv tr) H locs := hw
            obtain ⟨f_15, e_f_15⟩ : ∃ z, z = uI f_2 (26 + 4 * (C 11 0 - C 11 1)) 3 := ⟨_, rfl⟩
            have hw : qw D A s.heap (mW g cI cB cZ th len tl ts te tk nu er eo hL hS dp bf dr td f_15 ad hi sl sv tr) H locs := by rw [e_f_15]; exact hw
            have r_15 : RJ f_15 T (st (s1 (s1 (st C 0 (fil (C 0) ((C 11 0 - C 11 1) + 1) ((C 11 0 - C 11 1) + C 11 1) 5)) 1 0) 2 0) 0 (uI ((s1 (s1 (st C 0 (fil (C 0) ((C 11 0 - C 11 1) + 1) ((C 11 0 - C 11 1) + C 11 1) 5)) 1 0) 2 0) 0) (C 11 0 - C 11 1) 3)) (shJ C) := by rw [e_f_15]; exact RJ_wh _ _ r_2 b_2 (by omega) (by omega)
            refine lv_aload_n hx hb dX7_goesThrough_155 rfl (lv_at hl 2 rfl) ?_
            refine q_get hx hb hts hown hK hw.1 ci_X7 0 rfl 14 (by decide) fl_X7_20 rfl dX7_goesThrough_156 ?_
            refine q_sipush hx hb dX7_goesThrough_159 rfl ?_
            refine q_iconst hx hb dX7_goesThrough_162 ?_
            refine lv_aload_n hx hb dX7_goesThrough_163 rfl (lv_at hl 2 rfl) ?_
            refine q_get hx hb hts hown hK hw.1 ci_X7 0 rfl 14 (by decide) fl_X7_20 rfl dX7_goesThrough_164 ?_
            refine q_bipush hx hb dX7_goesThrough_167 rfl ?_
            refine q_iald hx hb hK hw.1 4 0 rfl rfl (z := 16) (v := (C 11 4)) (by omega) (by exact r_15.s16) dX7_goesThrough_169 ?_
            refine q_iconst hx hb dX7_goesThrough_170 ?_
            refine q_isub hx hb dX7_goesThrough_171 ?_
            refine q_imul hx hb dX7_goesThrough_172 ?_
            refine q_iadd hx hb dX7_goesThrough_173 ?_
            refine q_iconst hx hb dX7_goesThrough_174 ?_
            refine q_iadd hx hb dX7_goesThrough_175 ?_
            refine lv_dup2_11 hx hb dX7_goesThrough_176 rfl rfl ?_
            refine q_iald hx hb hK hw.1 4 0 rfl rfl (z := (426 + 2 * (C 11 4 - 1) + 1)) (v := (shJ C (C 11 4 - 1))) (by omega) (by exact r_15.jo (C 11 4 - 1) (by omega) (by show C 11 4 - 1 < C 11 4; omega)) dX7_goesThrough_177 ?_
            refine lv_iload_n hx hb dX7_goesThrough_178 rfl (lv_at hl 1 rfl) ?_
            refine q_if_le (tgt := 186) hx hb dX7_goesThrough_179 (by decide) (by omega) (fun c_179 => ?_) (fun c_179 => absurd c_179 (by omega))
            refine q_iconst hx hb dX7_goesThrough_186 ?_
            refine q_iadd hx hb dX7_goesThrough_187 ?_
            refine q_top (shJ C (C 11 4 - 1)) (Int.add_zero _) ?_
            refine q_iast hx hb hK hw 4 0 rfl rfl (by omega) dX7_goesThrough_188 (fun H locs hw => ?_)
            have hw : qw D A s.heap (mW g cI cB cZ th len tl ts te tk nu er eo hL hS dp bf dr td (uI f_15 (426 + 2 * (C 11 4 - 1) + 1) (shJ C (C 11 4 - 1))) ad hi sl sv tr) H locs := hw
            obtain ⟨f_16, e_f_16⟩ : ∃ z, z = uI f_15 (426 + 2 * (C 11 4 - 1) + 1) (shJ C (C 11 4 - 1)) := ⟨_, rfl⟩
            have hw : qw D A s.heap (mW g cI cB cZ th len tl ts te tk nu er eo hL hS dp bf dr td f_16 ad hi sl sv tr) H locs := by rw [e_f_16]; exact hw
            have r_16 : RJ f_16 T ((st (s1 (s1 (st C 0 (fil (C 0) ((C 11 0 - C 11 1) + 1) ((C 11 0 - C 11 1) + C 11 1) 5)) 1 0) 2 0) 0 (uI ((s1 (s1 (st C 0 (fil (C 0) ((C 11 0 - C 11 1) + 1) ((C 11 0 - C 11 1) + C 11 1) 5)) 1 0) 2 0) 0) (C 11 0 - C 11 1) 3))) (uI (shJ C) (C 11 4 - 1) (shJ C (C 11 4 - 1))) := by rw [e_f_16]; exact RJ_jn _ _ r_15 b_2 (by omega) (by omega)
            refine lv_aload_n hx hb dX7_goesThrough_189 rfl (lv_at hl 2 rfl) ?_
            refine q_get hx hb hts hown hK hw.1 ci_X7 0 rfl 14 (by decide) fl_X7_20 rfl dX7_goesThrough_190 ?_
            refine q_bipush hx hb dX7_goesThrough_193 rfl ?_
            refine lv_dup2_11 hx hb dX7_goesThrough_195 rfl rfl ?_
            refine q_iald hx hb hK hw.1 4 0 rfl rfl (z := 22) (v := (C 9 5)) (by omega) (by exact r_16.a 5 22 (by decide) (by decide) (by decide)) dX7_goesThrough_196 ?_
            refine lv_aload_n hx hb dX7_goesThrough_197 rfl (lv_at hl 2 rfl) ?_
            refine q_get hx hb hts hown hK hw.1 ci_X7 0 rfl 14 (by decide) fl_X7_20 rfl dX7_goesThrough_198 ?_
            refine lv_iload_n hx hb dX7_goesThrough_201 rfl (lv_at hl 3 rfl) ?_
            refine q_callPS (As := [.int (iI (C 11 0 - C 11 1))]) (rest := [.ref (g 4), .int (iI (C 9 5)), .int (iI 22), .ref (g 4)]) hx hb hml hown hts hK (c_X7_of (C 11 0 - C 11 1)) yt_X7_of ml_X7_167 (by rw [hR]; decide) (show va_P D vwCl [] _ from fun k q h => by simp at h)  rfl rfl hl.1 (lv_room (Nat.le_of_ble_eq_true rfl)) dX7_goesThrough_202 ⟨by rw [hR]; exact Nat.zero_le _, by rw [hR]; exact Nat.zero_le _⟩ ?_
            refine q_iconst hx hb dX7_goesThrough_205 ?_
            refine q_iadd hx hb dX7_goesThrough_206 ?_
            refine q_iald hx hb hK hw.1 4 0 rfl rfl (z := (26 + 4 * (C 11 0 - C 11 1) + 3)) (v := (C 3 (C 11 0 - C 11 1))) (by omega) (by exact (r_16.sh (C 11 0 - C 11 1) (by omega) (by omega)).2.2.2) dX7_goesThrough_207 ?_
            refine q_iadd hx hb dX7_goesThrough_208 ?_
            refine q_iast hx hb hK hw 4 0 rfl rfl (by omega) dX7_goesThrough_209 (fun H locs hw => ?_)
            have hw : qw D A s.heap (mW g cI cB cZ th len tl ts te tk nu er eo hL hS dp bf dr td (uI f_16 22 (C 9 5 + C 3 (C 11 0 - C 11 1))) ad hi sl sv tr) H locs := hw
            obtain ⟨f_17, e_f_17⟩ : ∃ z, z = uI f_16 22 (C 9 5 + C 3 (C 11 0 - C 11 1)) := ⟨_, rfl⟩
            have hw : qw D A s.heap (mW g cI cB cZ th len tl ts te tk nu er eo hL hS dp bf dr td f_17 ad hi sl sv tr) H locs := by rw [e_f_17]; exact hw
            have r_17 : RJ f_17 T (st ((st (s1 (s1 (st C 0 (fil (C 0) ((C 11 0 - C 11 1) + 1) ((C 11 0 - C 11 1) + C 11 1) 5)) 1 0) 2 0) 0 (uI ((s1 (s1 (st C 0 (fil (C 0) ((C 11 0 - C 11 1) + 1) ((C 11 0 - C 11 1) + C 11 1) 5)) 1 0) 2 0) 0) (C 11 0 - C 11 1) 3))) 9 (uI (((st (s1 (s1 (st C 0 (fil (C 0) ((C 11 0 - C 11 1) + 1) ((C 11 0 - C 11 1) + C 11 1) 5)) 1 0) 2 0) 0 (uI ((s1 (s1 (st C 0 (fil (C 0) ((C 11 0 - C 11 1) + 1) ((C 11 0 - C 11 1) + C 11 1) 5)) 1 0) 2 0) 0) (C 11 0 - C 11 1) 3))) 9) 5 (C 9 5 + C 3 (C 11 0 - C 11 1)))) (uI (shJ C) (C 11 4 - 1) (shJ C (C 11 4 - 1))) := by rw [e_f_17]; exact RJ_a 5 22 r_16 b_2 (by decide) (by decide) (by decide)
            refine lv_aload_n hx hb dX7_goesThrough_210 rfl (lv_at hl 2 rfl) ?_
            refine q_get hx hb hts hown hK hw.1 ci_X7 0 rfl 14 (by decide) fl_X7_20 rfl dX7_goesThrough_211 ?_
            refine lv_iload_n hx hb dX7_goesThrough_214 rfl (lv_at hl 3 rfl) ?_
            refine q_callPS (As := [.int (iI (C 11 0 - C 11 1))]) (rest := [.ref (g 4)]) hx hb hml hown hts hK (c_X7_of (C 11 0 - C 11 1)) yt_X7_of ml_X7_167 (by rw [hR]; decide) (show va_P D vwCl [] _ from fun k q h => by simp at h)  rfl rfl hl.1 (lv_room (Nat.le_of_ble_eq_true rfl)) dX7_goesThrough_215 ⟨by rw [hR]; exact Nat.zero_le _, by rw [hR]; exact Nat.zero_le _⟩ ?_
            refine q_iconst hx hb dX7_goesThrough_218 ?_
            refine q_iadd hx hb dX7_goesThrough_219 ?_
            refine q_iconst hx hb dX7_goesThrough_220 ?_
            refine q_iast hx hb hK hw 4 0 rfl rfl (by omega) dX7_goesThrough_221 (fun H locs hw => ?_)
            have hw : qw D A s.heap (mW g cI cB cZ th len tl ts te tk nu er eo hL hS dp bf dr td (uI f_17 (26 + 4 * (C 11 0 - C 11 1) + 3) 0) ad hi sl sv tr) H locs := hw
            obtain ⟨f_18, e_f_18⟩ : ∃ z, z = uI f_17 (26 + 4 * (C 11 0 - C 11 1) + 3) 0 := ⟨_, rfl⟩
            have hw : qw D A s.heap (mW g cI cB cZ th len tl ts te tk nu er eo hL hS dp bf dr td f_18 ad hi sl sv tr) H locs := by rw [e_f_18]; exact hw
            have r_18 : RJ f_18 T (st (st ((st (s1 (s1 (st C 0 (fil (C 0) ((C 11 0 - C 11 1) + 1) ((C 11 0 - C 11 1) + C 11 1) 5)) 1 0) 2 0) 0 (uI ((s1 (s1 (st C 0 (fil (C 0) ((C 11 0 - C 11 1) + 1) ((C 11 0 - C 11 1) + C 11 1) 5)) 1 0) 2 0) 0) (C 11 0 - C 11 1) 3))) 9 (uI (((st (s1 (s1 (st C 0 (fil (C 0) ((C 11 0 - C 11 1) + 1) ((C 11 0 - C 11 1) + C 11 1) 5)) 1 0) 2 0) 0 (uI ((s1 (s1 (st C 0 (fil (C 0) ((C 11 0 - C 11 1) + 1) ((C 11 0 - C 11 1) + C 11 1) 5)) 1 0) 2 0) 0) (C 11 0 - C 11 1) 3))) 9) 5 (C 9 5 + C 3 (C 11 0 - C 11 1)))) 3 (uI ((st ((st (s1 (s1 (st C 0 (fil (C 0) ((C 11 0 - C 11 1) + 1) ((C 11 0 - C 11 1) + C 11 1) 5)) 1 0) 2 0) 0 (uI ((s1 (s1 (st C 0 (fil (C 0) ((C 11 0 - C 11 1) + 1) ((C 11 0 - C 11 1) + C 11 1) 5)) 1 0) 2 0) 0) (C 11 0 - C 11 1) 3))) 9 (uI (((st (s1 (s1 (st C 0 (fil (C 0) ((C 11 0 - C 11 1) + 1) ((C 11 0 - C 11 1) + C 11 1) 5)) 1 0) 2 0) 0 (uI ((s1 (s1 (st C 0 (fil (C 0) ((C 11 0 - C 11 1) + 1) ((C 11 0 - C 11 1) + C 11 1) 5)) 1 0) 2 0) 0) (C 11 0 - C 11 1) 3))) 9) 5 (C 9 5 + C 3 (C 11 0 - C 11 1)))) 3) (C 11 0 - C 11 1) 0)) (uI (shJ C) (C 11 4 - 1) (shJ C (C 11 4 - 1))) := by rw [e_f_18]; exact RJ_ha _ _ r_17 b_2 (by omega) (by omega)
            refine lv_iload_n hx hb dX7_goesThrough_222 rfl (lv_at hl 1 rfl) ?_
            refine q_top (goR T C (C 11 0 - C 11 1)) (by unfold goR; first | exact (if_pos (by omega)).symm | (rw [if_neg (by omega)]; unfold pgs bI; (repeat' split) <;> omega)) ?_
            exact hret (f_18) H locs 223 ls (by exact ⟨hM.1, hM.2.1, WC_goC hM.1 hM.2.2.1 h1, goC_fin hM.1 hM.2.2.1 h1 (by omega) (by first | exact goB_11 (by omega) (by omega) | exact goB_10 (by omega) (by omega) | exact goB_01 (by omega) (by omega) | exact goB_00 (by omega) (by omega)) (by unfold pgs bI; (repeat' split) <;> omega) (by unfold pgs bI; (repeat' split) <;> omega) r_18⟩) hw dX7_goesThrough_223
          · refine lv_aload_n hx hb dX7_goesThrough_108 rfl (lv_at hl 2 rfl) ?_
            refine lv_iload_n hx hb dX7_goesThrough_109 rfl (lv_at hl 3 rfl) ?_
            refine lv_iload_n hx hb dX7_goesThrough_110 rfl (lv_at hl 0 rfl) ?_
            refine q_callP (As := [.int (iI (C 11 0 - C 11 1)), .int (iI 1)]) (rest := []) hx hb hml hown hts hK (c_X7_isBlank (C := C) (C 11 0 - C 11 1) (1) (by exact hM.1) (by exact hM.2.1) (by first | omega | assumption) (by first | omega | assumption) (by first | omega | assumption) (by exact r_2.l3) (by first | omega | assumption)) yi_X7_isBlank ml_X7_199 (by rw [hR]; decide) hw.1 0 rfl rfl rfl rfl hl.1 (lv_room (Nat.le_of_ble_eq_true rfl)) dX7_goesThrough_111 ⟨by rw [hR]; exact Nat.zero_le _, by rw [hR]; exact Nat.zero_le _⟩ ?_
            refine q_ifb_eq (tgt := 120) hx hb dX7_goesThrough_114 (by decide) (fun c_114 => ?_) (fun c_114 => ?_)
            · refine lv_aload_n hx hb dX7_goesThrough_120 rfl (lv_at hl 2 rfl) ?_
              refine lv_iload_n hx hb dX7_goesThrough_121 rfl (lv_at hl 3 rfl) ?_
              refine lv_iload_n hx hb dX7_goesThrough_122 rfl (lv_at hl 0 rfl) ?_
              refine q_callM (As := [.int (iI (C 11 0 - C 11 1)), .int (iI 1)]) (rest := []) (wr := []) hx hb hml hown hts hK (c_X7_addPage (C := (s1 (s1 (st C 0 (fil (C 0) ((C 11 0 - C 11 1) + 1) ((C 11 0 - C 11 1) + C 11 1) 5)) 1 0) 2 0)) (J := (shJ C)) (C 11 0 - C 11 1) (1) (by exact b_2) (by exact r_2) (by first | (show 0 ≤ C 11 3; omega) | (show 0 ≤ C 11 3 + 1; omega)) (by first | (show C 11 3 < 80; omega) | (show C 11 3 + 1 < 80; omega))) yi_X7_addPage ml_X7_206 (by rw [hR]; decide) hw hA [0, 1, 2, 3, 4, 5, 6, 7, 8, 9] [] rfl rfl (by decide) (by decide) (by decide) 0 rfl rfl rfl rfl hl.1 (lv_room (Nat.le_of_ble_eq_true rfl)) dX7_goesThrough_123 ⟨by rw [hR]; exact Nat.zero_le _, by rw [hR]; exact Nat.zero_le _⟩ (fun u_123 H locs hu_123 hw => ?_)
              obtain ⟨s2_3, rfl⟩ : ∃ z, z = u_123 := ⟨_, rfl⟩
              have hu_3_0 : RJ s2_3 T (adP (((s1 (s1 (st C 0 (fil (C 0) ((C 11 0 - C 11 1) + 1) ((C 11 0 - C 11 1) + C 11 1) 5)) 1 0) 2 0))) (C 11 0 - C 11 1) 1) (((shJ C))) := hu_123
              have hw : qw D A s.heap (mW g cI cB cZ th len tl ts te tk nu er eo hL hS dp bf dr td s2_3 ad hi sl sv tr) H locs := hw
              have b_5 := (BB_ad0 b_2 (by first | (show C 11 3 + 1 ≤ 80; omega) | (show C 11 3 + 1 + 1 ≤ 80; omega)))
              refine lv_iinc (v := iI (0 + 1)) (lv' := [(2, .int (iI (0 + 1))), (3, .int (iI 1)), (0, .ref (g 0)), (1, .int (iI (C 11 0 - C 11 1)))]) hx hb dX7_goesThrough_126 hl (k := 1) rfl (iI_add _ _) (by decide) rfl (fun ls hl => ?_)
              have hl : lv_has ls 4 [(2, .int (iI 1)), (3, .int (iI 1)), (0, .ref (g 0)), (1, .int (iI (C 11 0 - C 11 1)))] := hl
              refine lv_iinc (v := iI (1 + 1)) (lv' := [(3, .int (iI (1 + 1))), (2, .int (iI 1)), (0, .ref (g 0)), (1, .int (iI (C 11 0 - C 11 1)))]) hx hb dX7_goesThrough_129 hl (k := 1) rfl (iI_add _ _) (by decide) rfl (fun ls hl => ?_)
              have hl : lv_has ls 4 [(3, .int (iI 2)), (2, .int (iI 1)), (0, .ref (g 0)), (1, .int (iI (C 11 0 - C 11 1)))] := hl
              refine lv_goto (tgt := 100) hx hb dX7_goesThrough_132 (by decide) ?_
              refine lv_iload_n hx hb dX7_goesThrough_100 rfl (lv_at hl 0 rfl) ?_
              refine lv_aload_n hx hb dX7_goesThrough_101 rfl (lv_at hl 2 rfl) ?_
              refine q_callP (As := []) (rest := [.int (iI 2)]) hx hb hml hown hts hK c_X7_sides yi_X7_sides ml_X7_192 (by rw [hR]; decide) hw.1 0 rfl rfl rfl rfl hl.1 (lv_room (Nat.le_of_ble_eq_true rfl)) dX7_goesThrough_102 ⟨by rw [hR]; exact Nat.zero_le _, by rw [hR]; exact Nat.zero_le _⟩ ?_
              refine q_top (C 11 5 + 1) (by rw [show s2_3 0 = C 11 5 from hu_3_0.s0]) ?_
              refine q_icmp_ge (tgt := 135) hx hb dX7_goesThrough_105 (by decide) (by omega) (fun c_105 => ?_) (fun c_105 => absurd c_105 (by omega))
              refine lv_aload_n hx hb dX7_goesThrough_135 rfl (lv_at hl 2 rfl) ?_
              refine q_get hx hb hts hown hK hw.1 ci_X7 0 rfl 14 (by decide) fl_X7_20 rfl dX7_goesThrough_136 ?_
              refine lv_iload_n hx hb dX7_goesThrough_139 rfl (lv_at hl 3 rfl) ?_
              refine q_callPS (As := [.int (iI (C 11 0 - C 11 1))]) (rest := [.ref (g 4)]) hx hb hml hown hts hK (c_X7_of (C 11 0 - C 11 1)) yt_X7_of ml_X7_167 (by rw [hR]; decide) (show va_P D vwCl [] _ from fun k q h => by simp at h)  rfl rfl hl.1 (lv_room (Nat.le_of_ble_eq_true rfl)) dX7_goesThrough_140 ⟨by rw [hR]; exact Nat.zero_le _, by rw [hR]; exact Nat.zero_le _⟩ ?_
              refine q_iconst hx hb dX7_goesThrough_143 ?_
              refine q_iadd hx hb dX7_goesThrough_144 ?_
              refine q_top (26 + 4 * (C 11 0 - C 11 1)) (Int.add_zero _) ?_
              refine lv_iload_n hx hb dX7_goesThrough_145 rfl (lv_at hl 1 rfl) ?_
              refine q_if_le (tgt := 153) hx hb dX7_goesThrough_146 (by decide) (by omega) (fun c_146 => absurd c_146 (by omega)) (fun c_146 => ?_)
              refine q_iconst hx hb dX7_goesThrough_149 ?_
              refine lv_goto (tgt := 154) hx hb dX7_goesThrough_150 (by decide) ?_
              refine q_iast hx hb hK hw 4 0 rfl rfl (by omega) dX7_goesThrough_154 (fun H locs hw => ?_)
              have hw : qw D A s.heap (mW g cI cB cZ th len tl ts te tk nu er eo hL hS dp bf dr td (uI s2_3 (26 + 4 * (C 11 0 - C 11 1)) 2) ad hi sl sv tr) H locs := hw
              obtain ⟨f_19, e_f_19⟩ : ∃ z, z = uI s2_3 (26 + 4 * (C 11 0 - C 11 1)) 2 := ⟨_, rfl⟩
              have hw : qw D A s.heap (mW g cI cB cZ th len tl ts te tk nu er eo hL hS dp bf dr td f_19 ad hi sl sv tr) H locs := by rw [e_f_19]; exact hw
              have r_19 : RJ f_19 T (st (adP (s1 (s1 (st C 0 (fil (C 0) ((C 11 0 - C 11 1) + 1) ((C 11 0 - C 11 1) + C 11 1) 5)) 1 0) 2 0) ((C 11 0 - C 11 1)) (1)) 0 (uI ((adP (s1 (s1 (st C 0 (fil (C 0) ((C 11 0 - C 11 1) + 1) ((C 11 0 - C 11 1) + C 11 1) 5)) 1 0) 2 0) ((C 11 0 - C 11 1)) (1)) 0) (C 11 0 - C 11 1) 2)) (shJ C) := by rw [e_f_19]; exact RJ_wh _ _ hu_3_0 b_5 (by omega) (by omega)
              refine lv_aload_n hx hb dX7_goesThrough_155 rfl (lv_at hl 2 rfl) ?_
              refine q_get hx hb hts hown hK hw.1 ci_X7 0 rfl 14 (by decide) fl_X7_20 rfl dX7_goesThrough_156 ?_
              refine q_sipush hx hb dX7_goesThrough_159 rfl ?_
              refine q_iconst hx hb dX7_goesThrough_162 ?_
              refine lv_aload_n hx hb dX7_goesThrough_163 rfl (lv_at hl 2 rfl) ?_
              refine q_get hx hb hts hown hK hw.1 ci_X7 0 rfl 14 (by decide) fl_X7_20 rfl dX7_goesThrough_164 ?_
              refine q_bipush hx hb dX7_goesThrough_167 rfl ?_
              refine q_iald hx hb hK hw.1 4 0 rfl rfl (z := 16) (v := (C 11 4)) (by omega) (by exact r_19.s16) dX7_goesThrough_169 ?_
              refine q_iconst hx hb dX7_goesThrough_170 ?_
              refine q_isub hx hb dX7_goesThrough_171 ?_
              refine q_imul hx hb dX7_goesThrough_172 ?_
              refine q_iadd hx hb dX7_goesThrough_173 ?_
              refine q_iconst hx hb dX7_goesThrough_174 ?_
              refine q_iadd hx hb dX7_goesThrough_175 ?_
              refine lv_dup2_11 hx hb dX7_goesThrough_176 rfl rfl ?_
              refine q_iald hx hb hK hw.1 4 0 rfl rfl (z := (426 + 2 * (C 11 4 - 1) + 1)) (v := (shJ C (C 11 4 - 1))) (by omega) (by exact r_19.jo (C 11 4 - 1) (by omega) (by show C 11 4 - 1 < C 11 4; omega)) dX7_goesThrough_177 ?_
              refine lv_iload_n hx hb dX7_goesThrough_178 rfl (lv_at hl 1 rfl) ?_
              refine q_if_le (tgt := 186) hx hb dX7_goesThrough_179 (by decide) (by omega) (fun c_179 => absurd c_179 (by omega)) (fun c_179 => ?_)
              refine q_iconst hx hb dX7_goesThrough_182 ?_
              refine lv_goto (tgt := 187) hx hb dX7_goesThrough_183 (by decide) ?_
              refine q_iadd hx hb dX7_goesThrough_187 ?_
              refine q_iast hx hb hK hw 4 0 rfl rfl (by omega) dX7_goesThrough_188 (fun H locs hw => ?_)
              have hw : qw D A s.heap (mW g cI cB cZ th len tl ts te tk nu er eo hL hS dp bf dr td (uI f_19 (426 + 2 * (C 11 4 - 1) + 1) (shJ C (C 11 4 - 1) + 1)) ad hi sl sv tr) H locs := hw
              obtain ⟨f_20, e_f_20⟩ : ∃ z, z = uI f_19 (426 + 2 * (C 11 4 - 1) + 1) (shJ C (C 11 4 - 1) + 1) := ⟨_, rfl⟩
              have hw : qw D A s.heap (mW g cI cB cZ th len tl ts te tk nu er eo hL hS dp bf dr td f_20 ad hi sl sv tr) H locs := by rw [e_f_20]; exact hw
              have r_20 : RJ f_20 T ((st (adP (s1 (s1 (st C 0 (fil (C 0) ((C 11 0 - C 11 1) + 1) ((C 11 0 - C 11 1) + C 11 1) 5)) 1 0) 2 0) ((C 11 0 - C 11 1)) (1)) 0 (uI ((adP (s1 (s1 (st C 0 (fil (C 0) ((C 11 0 - C 11 1) + 1) ((C 11 0 - C 11 1) + C 11 1) 5)) 1 0) 2 0) ((C 11 0 - C 11 1)) (1)) 0) (C 11 0 - C 11 1) 2))) (uI (shJ C) (C 11 4 - 1) (shJ C (C 11 4 - 1) + 1)) := by rw [e_f_20]; exact RJ_jn _ _ r_19 b_5 (by omega) (by omega)
              refine lv_aload_n hx hb dX7_goesThrough_189 rfl (lv_at hl 2 rfl) ?_
              refine q_get hx hb hts hown hK hw.1 ci_X7 0 rfl 14 (by decide) fl_X7_20 rfl dX7_goesThrough_190 ?_
              refine q_bipush hx hb dX7_goesThrough_193 rfl ?_
              refine lv_dup2_11 hx hb dX7_goesThrough_195 rfl rfl ?_
              refine q_iald hx hb hK hw.1 4 0 rfl rfl (z := 22) (v := (C 9 5)) (by omega) (by exact r_20.a 5 22 (by decide) (by decide) (by decide)) dX7_goesThrough_196 ?_
              refine lv_aload_n hx hb dX7_goesThrough_197 rfl (lv_at hl 2 rfl) ?_
              refine q_get hx hb hts hown hK hw.1 ci_X7 0 rfl 14 (by decide) fl_X7_20 rfl dX7_goesThrough_198 ?_
              refine lv_iload_n hx hb dX7_goesThrough_201 rfl (lv_at hl 3 rfl) ?_
              refine q_callPS (As := [.int (iI (C 11 0 - C 11 1))]) (rest := [.ref (g 4), .int (iI (C 9 5)), .int (iI 22), .ref (g 4)]) hx hb hml hown hts hK (c_X7_of (C 11 0 - C 11 1)) yt_X7_of ml_X7_167 (by rw [hR]; decide) (show va_P D vwCl [] _ from fun k q h => by simp at h)  rfl rfl hl.1 (lv_room (Nat.le_of_ble_eq_true rfl)) dX7_goesThrough_202 ⟨by rw [hR]; exact Nat.zero_le _, by rw [hR]; exact Nat.zero_le _⟩ ?_
              refine q_iconst hx hb dX7_goesThrough_205 ?_
              refine q_iadd hx hb dX7_goesThrough_206 ?_
              refine q_iald hx hb hK hw.1 4 0 rfl rfl (z := (26 + 4 * (C 11 0 - C 11 1) + 3)) (v := (C 3 (C 11 0 - C 11 1))) (by omega) (by exact (r_20.sh (C 11 0 - C 11 1) (by omega) (by omega)).2.2.2) dX7_goesThrough_207 ?_
              refine q_iadd hx hb dX7_goesThrough_208 ?_
              refine q_iast hx hb hK hw 4 0 rfl rfl (by omega) dX7_goesThrough_209 (fun H locs hw => ?_)
              have hw : qw D A s.heap (mW g cI cB cZ th len tl ts te tk nu er eo hL hS dp bf dr td (uI f_20 22 (C 9 5 + C 3 (C 11 0 - C 11 1))) ad hi sl sv tr) H locs := hw
              obtain ⟨f_21, e_f_21⟩ : ∃ z, z = uI f_20 22 (C 9 5 + C 3 (C 11 0 - C 11 1)) := ⟨_, rfl⟩
              have hw : qw D A s.heap (mW g cI cB cZ th len tl ts te tk nu er eo hL hS dp bf dr td f_21 ad hi sl sv tr) H locs := by rw [e_f_21]; exact hw
              have r_21 : RJ f_21 T (st ((st (adP (s1 (s1 (st C 0 (fil (C 0) ((C 11 0 - C 11 1) + 1) ((C 11 0 - C 11 1) + C 11 1) 5)) 1 0) 2 0) ((C 11 0 - C 11 1)) (1)) 0 (uI ((adP (s1 (s1 (st C 0 (fil (C 0) ((C 11 0 - C 11 1) + 1) ((C 11 0 - C 11 1) + C 11 1) 5)) 1 0) 2 0) ((C 11 0 - C 11 1)) (1)) 0) (C 11 0 - C 11 1) 2))) 9 (uI (((st (adP (s1 (s1 (st C 0 (fil (C 0) ((C 11 0 - C 11 1) + 1) ((C 11 0 - C 11 1) + C 11 1) 5)) 1 0) 2 0) ((C 11 0 - C 11 1)) (1)) 0 (uI ((adP (s1 (s1 (st C 0 (fil (C 0) ((C 11 0 - C 11 1) + 1) ((C 11 0 - C 11 1) + C 11 1) 5)) 1 0) 2 0) ((C 11 0 - C 11 1)) (1)) 0) (C 11 0 - C 11 1) 2))) 9) 5 (C 9 5 + C 3 (C 11 0 - C 11 1)))) (uI (shJ C) (C 11 4 - 1) (shJ C (C 11 4 - 1) + 1)) := by rw [e_f_21]; exact RJ_a 5 22 r_20 b_5 (by decide) (by decide) (by decide)
              refine lv_aload_n hx hb dX7_goesThrough_210 rfl (lv_at hl 2 rfl) ?_
              refine q_get hx hb hts hown hK hw.1 ci_X7 0 rfl 14 (by decide) fl_X7_20 rfl dX7_goesThrough_211 ?_
              refine lv_iload_n hx hb dX7_goesThrough_214 rfl (lv_at hl 3 rfl) ?_
              refine q_callPS (As := [.int (iI (C 11 0 - C 11 1))]) (rest := [.ref (g 4)]) hx hb hml hown hts hK (c_X7_of (C 11 0 - C 11 1)) yt_X7_of ml_X7_167 (by rw [hR]; decide) (show va_P D vwCl [] _ from fun k q h => by simp at h)  rfl rfl hl.1 (lv_room (Nat.le_of_ble_eq_true rfl)) dX7_goesThrough_215 ⟨by rw [hR]; exact Nat.zero_le _, by rw [hR]; exact Nat.zero_le _⟩ ?_
              refine q_iconst hx hb dX7_goesThrough_218 ?_
              refine q_iadd hx hb dX7_goesThrough_219 ?_
              refine q_iconst hx hb dX7_goesThrough_220 ?_
              refine q_iast hx hb hK hw 4 0 rfl rfl (by omega) dX7_goesThrough_221 (fun H locs hw => ?_)
              have hw : qw D A s.heap (mW g cI cB cZ th len tl ts te tk nu er eo hL hS dp bf dr td (uI f_21 (26 + 4 * (C 11 0 - C 11 1) + 3) 0) ad hi sl sv tr) H locs := hw
              obtain ⟨f_22, e_f_22⟩ : ∃ z, z = uI f_21 (26 + 4 * (C 11 0 - C 11 1) + 3) 0 := ⟨_, rfl⟩
              have hw : qw D A s.heap (mW g cI cB cZ th len tl ts te tk nu er eo hL hS dp bf dr td f_22 ad hi sl sv tr) H locs := by rw [e_f_22]; exact hw
              have r_22 : RJ f_22 T (st (st ((st (adP (s1 (s1 (st C 0 (fil (C 0) ((C 11 0 - C 11 1) + 1) ((C 11 0 - C 11 1) + C 11 1) 5)) 1 0) 2 0) ((C 11 0 - C 11 1)) (1)) 0 (uI ((adP (s1 (s1 (st C 0 (fil (C 0) ((C 11 0 - C 11 1) + 1) ((C 11 0 - C 11 1) + C 11 1) 5)) 1 0) 2 0) ((C 11 0 - C 11 1)) (1)) 0) (C 11 0 - C 11 1) 2))) 9 (uI (((st (adP (s1 (s1 (st C 0 (fil (C 0) ((C 11 0 - C 11 1) + 1) ((C 11 0 - C 11 1) + C 11 1) 5)) 1 0) 2 0) ((C 11 0 - C 11 1)) (1)) 0 (uI ((adP (s1 (s1 (st C 0 (fil (C 0) ((C 11 0 - C 11 1) + 1) ((C 11 0 - C 11 1) + C 11 1) 5)) 1 0) 2 0) ((C 11 0 - C 11 1)) (1)) 0) (C 11 0 - C 11 1) 2))) 9) 5 (C 9 5 + C 3 (C 11 0 - C 11 1)))) 3 (uI ((st ((st (adP (s1 (s1 (st C 0 (fil (C 0) ((C 11 0 - C 11 1) + 1) ((C 11 0 - C 11 1) + C 11 1) 5)) 1 0) 2 0) ((C 11 0 - C 11 1)) (1)) 0 (uI ((adP (s1 (s1 (st C 0 (fil (C 0) ((C 11 0 - C 11 1) + 1) ((C 11 0 - C 11 1) + C 11 1) 5)) 1 0) 2 0) ((C 11 0 - C 11 1)) (1)) 0) (C 11 0 - C 11 1) 2))) 9 (uI (((st (adP (s1 (s1 (st C 0 (fil (C 0) ((C 11 0 - C 11 1) + 1) ((C 11 0 - C 11 1) + C 11 1) 5)) 1 0) 2 0) ((C 11 0 - C 11 1)) (1)) 0 (uI ((adP (s1 (s1 (st C 0 (fil (C 0) ((C 11 0 - C 11 1) + 1) ((C 11 0 - C 11 1) + C 11 1) 5)) 1 0) 2 0) ((C 11 0 - C 11 1)) (1)) 0) (C 11 0 - C 11 1) 2))) 9) 5 (C 9 5 + C 3 (C 11 0 - C 11 1)))) 3) (C 11 0 - C 11 1) 0)) (uI (shJ C) (C 11 4 - 1) (shJ C (C 11 4 - 1) + 1)) := by rw [e_f_22]; exact RJ_ha _ _ r_21 b_5 (by omega) (by omega)
              refine lv_iload_n hx hb dX7_goesThrough_222 rfl (lv_at hl 1 rfl) ?_
              refine q_top (goR T C (C 11 0 - C 11 1)) (by unfold goR; first | exact (if_pos (by omega)).symm | (rw [if_neg (by omega)]; unfold pgs bI; (repeat' split) <;> omega)) ?_
              exact hret (f_22) H locs 223 ls (by exact ⟨hM.1, hM.2.1, WC_goC hM.1 hM.2.2.1 h1, goC_fin hM.1 hM.2.2.1 h1 (by omega) (by first | exact goB_11 (by omega) (by omega) | exact goB_10 (by omega) (by omega) | exact goB_01 (by omega) (by omega) | exact goB_00 (by omega) (by omega)) (by unfold pgs bI; (repeat' split) <;> omega) (by unfold pgs bI; (repeat' split) <;> omega) r_22⟩) hw dX7_goesThrough_223
            · refine lv_goto (tgt := 129) hx hb dX7_goesThrough_117 (by decide) ?_
              refine lv_iinc (v := iI (1 + 1)) (lv' := [(3, .int (iI (1 + 1))), (2, .int (iI 0)), (0, .ref (g 0)), (1, .int (iI (C 11 0 - C 11 1)))]) hx hb dX7_goesThrough_129 hl (k := 0) rfl (iI_add _ _) (by decide) rfl (fun ls hl => ?_)
              have hl : lv_has ls 4 [(3, .int (iI 2)), (2, .int (iI 0)), (0, .ref (g 0)), (1, .int (iI (C 11 0 - C 11 1)))] := hl
              refine lv_goto (tgt := 100) hx hb dX7_goesThrough_132 (by decide) ?_
              refine lv_iload_n hx hb dX7_goesThrough_100 rfl (lv_at hl 0 rfl) ?_
              refine lv_aload_n hx hb dX7_goesThrough_101 rfl (lv_at hl 2 rfl) ?_
              refine q_callP (As := []) (rest := [.int (iI 2)]) hx hb hml hown hts hK c_X7_sides yi_X7_sides ml_X7_192 (by rw [hR]; decide) hw.1 0 rfl rfl rfl rfl hl.1 (lv_room (Nat.le_of_ble_eq_true rfl)) dX7_goesThrough_102 ⟨by rw [hR]; exact Nat.zero_le _, by rw [hR]; exact Nat.zero_le _⟩ ?_
              refine q_top (C 11 5 + 1) (by rw [show f_2 0 = C 11 5 from r_2.s0]) ?_
              refine q_icmp_ge (tgt := 135) hx hb dX7_goesThrough_105 (by decide) (by omega) (fun c_105 => ?_) (fun c_105 => absurd c_105 (by omega))
              refine lv_aload_n hx hb dX7_goesThrough_135 rfl (lv_at hl 2 rfl) ?_
              refine q_get hx hb hts hown hK hw.1 ci_X7 0 rfl 14 (by decide) fl_X7_20 rfl dX7_goesThrough_136 ?_
              refine lv_iload_n hx hb dX7_goesThrough_139 rfl (lv_at hl 3 rfl) ?_
              refine q_callPS (As := [.int (iI (C 11 0 - C 11 1))]) (rest := [.ref (g 4)]) hx hb hml hown hts hK (c_X7_of (C 11 0 - C 11 1)) yt_X7_of ml_X7_167 (by rw [hR]; decide) (show va_P D vwCl [] _ from fun k q h => by simp at h)  rfl rfl hl.1 (lv_room (Nat.le_of_ble_eq_true rfl)) dX7_goesThrough_140 ⟨by rw [hR]; exact Nat.zero_le _, by rw [hR]; exact Nat.zero_le _⟩ ?_
              refine q_iconst hx hb dX7_goesThrough_143 ?_
              refine q_iadd hx hb dX7_goesThrough_144 ?_
              refine q_top (26 + 4 * (C 11 0 - C 11 1)) (Int.add_zero _) ?_
              refine lv_iload_n hx hb dX7_goesThrough_145 rfl (lv_at hl 1 rfl) ?_
              refine q_if_le (tgt := 153) hx hb dX7_goesThrough_146 (by decide) (by omega) (fun c_146 => ?_) (fun c_146 => absurd c_146 (by omega))
              refine q_iconst hx hb dX7_goesThrough_153 ?_
              refine q_iast hx hb hK hw 4 0 rfl rfl (by omega) dX7_goesThrough_154 (fun H locs hw => ?_)
              have hw : qw D A s.heap (mW g cI cB cZ th len tl ts te tk nu er eo hL hS dp bf dr td (uI f_2 (26 + 4 * (C 11 0 - C 11 1)) 3) ad hi sl sv tr) H locs := hw
              obtain ⟨f_23, e_f_23⟩ : ∃ z, z = uI f_2 (26 + 4 * (C 11 0 - C 11 1)) 3 := ⟨_, rfl⟩
              have hw : qw D A s.heap (mW g cI cB cZ th len tl ts te tk nu er eo hL hS dp bf dr td f_23 ad hi sl sv tr) H locs := by rw [e_f_23]; exact hw
              have r_23 : RJ f_23 T (st (s1 (s1 (st C 0 (fil (C 0) ((C 11 0 - C 11 1) + 1) ((C 11 0 - C 11 1) + C 11 1) 5)) 1 0) 2 0) 0 (uI ((s1 (s1 (st C 0 (fil (C 0) ((C 11 0 - C 11 1) + 1) ((C 11 0 - C 11 1) + C 11 1) 5)) 1 0) 2 0) 0) (C 11 0 - C 11 1) 3)) (shJ C) := by rw [e_f_23]; exact RJ_wh _ _ r_2 b_2 (by omega) (by omega)
              refine lv_aload_n hx hb dX7_goesThrough_155 rfl (lv_at hl 2 rfl) ?_
              refine q_get hx hb hts hown hK hw.1 ci_X7 0 rfl 14 (by decide) fl_X7_20 rfl dX7_goesThrough_156 ?_
              refine q_sipush hx hb dX7_goesThrough_159 rfl ?_
              refine q_iconst hx hb dX7_goesThrough_162 ?_
              refine lv_aload_n hx hb dX7_goesThrough_163 rfl (lv_at hl 2 rfl) ?_
              refine q_get hx hb hts hown hK hw.1 ci_X7 0 rfl 14 (by decide) fl_X7_20 rfl dX7_goesThrough_164 ?_
              refine q_bipush hx hb dX7_goesThrough_167 rfl ?_
              refine q_iald hx hb hK hw.1 4 0 rfl rfl (z := 16) (v := (C 11 4)) (by omega) (by exact r_23.s16) dX7_goesThrough_169 ?_
              refine q_iconst hx hb dX7_goesThrough_170 ?_
              refine q_isub hx hb dX7_goesThrough_171 ?_
              refine q_imul hx hb dX7_goesThrough_172 ?_
              refine q_iadd hx hb dX7_goesThrough_173 ?_
              refine q_iconst hx hb dX7_goesThrough_174 ?_
              refine q_iadd hx hb dX7_goesThrough_175 ?_
              refine lv_dup2_11 hx hb dX7_goesThrough_176 rfl rfl ?_
              refine q_iald hx hb hK hw.1 4 0 rfl rfl (z := (426 + 2 * (C 11 4 - 1) + 1)) (v := (shJ C (C 11 4 - 1))) (by omega) (by exact r_23.jo (C 11 4 - 1) (by omega) (by show C 11 4 - 1 < C 11 4; omega)) dX7_goesThrough_177 ?_
              refine lv_iload_n hx hb dX7_goesThrough_178 rfl (lv_at hl 1 rfl) ?_
              refine q_if_le (tgt := 186) hx hb dX7_goesThrough_179 (by decide) (by omega) (fun c_179 => ?_) (fun c_179 => absurd c_179 (by omega))
              refine q_iconst hx hb dX7_goesThrough_186 ?_
              refine q_iadd hx hb dX7_goesThrough_187 ?_
              refine q_top (shJ C (C 11 4 - 1)) (Int.add_zero _) ?_
              refine q_iast hx hb hK hw 4 0 rfl rfl (by omega) dX7_goesThrough_188 (fun H locs hw => ?_)
              have hw : qw D A s.heap (mW g cI cB cZ th len tl ts te tk nu er eo hL hS dp bf dr td (uI f_23 (426 + 2 * (C 11 4 - 1) + 1) (shJ C (C 11 4 - 1))) ad hi sl sv tr) H locs := hw
              obtain ⟨f_24, e_f_24⟩ : ∃ z, z = uI f_23 (426 + 2 * (C 11 4 - 1) + 1) (shJ C (C 11 4 - 1)) := ⟨_, rfl⟩
              have hw : qw D A s.heap (mW g cI cB cZ th len tl ts te tk nu er eo hL hS dp bf dr td f_24 ad hi sl sv tr) H locs := by rw [e_f_24]; exact hw
              have r_24 : RJ f_24 T ((st (s1 (s1 (st C 0 (fil (C 0) ((C 11 0 - C 11 1) + 1) ((C 11 0 - C 11 1) + C 11 1) 5)) 1 0) 2 0) 0 (uI ((s1 (s1 (st C 0 (fil (C 0) ((C 11 0 - C 11 1) + 1) ((C 11 0 - C 11 1) + C 11 1) 5)) 1 0) 2 0) 0) (C 11 0 - C 11 1) 3))) (uI (shJ C) (C 11 4 - 1) (shJ C (C 11 4 - 1))) := by rw [e_f_24]; exact RJ_jn _ _ r_23 b_2 (by omega) (by omega)
              refine lv_aload_n hx hb dX7_goesThrough_189 rfl (lv_at hl 2 rfl) ?_
              refine q_get hx hb hts hown hK hw.1 ci_X7 0 rfl 14 (by decide) fl_X7_20 rfl dX7_goesThrough_190 ?_
              refine q_bipush hx hb dX7_goesThrough_193 rfl ?_
              refine lv_dup2_11 hx hb dX7_goesThrough_195 rfl rfl ?_
              refine q_iald hx hb hK hw.1 4 0 rfl rfl (z := 22) (v := (C 9 5)) (by omega) (by exact r_24.a 5 22 (by decide) (by decide) (by decide)) dX7_goesThrough_196 ?_
              refine lv_aload_n hx hb dX7_goesThrough_197 rfl (lv_at hl 2 rfl) ?_
              refine q_get hx hb hts hown hK hw.1 ci_X7 0 rfl 14 (by decide) fl_X7_20 rfl dX7_goesThrough_198 ?_
              refine lv_iload_n hx hb dX7_goesThrough_201 rfl (lv_at hl 3 rfl) ?_
              refine q_callPS (As := [.int (iI (C 11 0 - C 11 1))]) (rest := [.ref (g 4), .int (iI (C 9 5)), .int (iI 22), .ref (g 4)]) hx hb hml hown hts hK (c_X7_of (C 11 0 - C 11 1)) yt_X7_of ml_X7_167 (by rw [hR]; decide) (show va_P D vwCl [] _ from fun k q h => by simp at h)  rfl rfl hl.1 (lv_room (Nat.le_of_ble_eq_true rfl)) dX7_goesThrough_202 ⟨by rw [hR]; exact Nat.zero_le _, by rw [hR]; exact Nat.zero_le _⟩ ?_
              refine q_iconst hx hb dX7_goesThrough_205 ?_
              refine q_iadd hx hb dX7_goesThrough_206 ?_
              refine q_iald hx hb hK hw.1 4 0 rfl rfl (z := (26 + 4 * (C 11 0 - C 11 1) + 3)) (v := (C 3 (C 11 0 - C 11 1))) (by omega) (by exact (r_24.sh (C 11 0 - C 11 1) (by omega) (by omega)).2.2.2) dX7_goesThrough_207 ?_
              refine q_iadd hx hb dX7_goesThrough_208 ?_
              refine q_iast hx hb hK hw 4 0 rfl rfl (by omega) dX7_goesThrough_209 (fun H locs hw => ?_)
              have hw : qw D A s.heap (mW g cI cB cZ th len tl ts te tk nu er eo hL hS dp bf dr td (uI f_24 22 (C 9 5 + C 3 (C 11 0 - C 11 1))) ad hi sl sv tr) H locs := hw
              obtain ⟨f_25, e_f_25⟩ : ∃ z, z = uI f_24 22 (C 9 5 + C 3 (C 11 0 - C 11 1)) := ⟨_, rfl⟩
              have hw : qw D A s.heap (mW g cI cB cZ th len tl ts te tk nu er eo hL hS dp bf dr td f_25 ad hi sl sv tr) H locs := by rw [e_f_25]; exact hw
              have r_25 : RJ f_25 T (st ((st (s1 (s1 (st C 0 (fil (C 0) ((C 11 0 - C 11 1) + 1) ((C 11 0 - C 11 1) + C 11 1) 5)) 1 0) 2 0) 0 (uI ((s1 (s1 (st C 0 (fil (C 0) ((C 11 0 - C 11 1) + 1) ((C 11 0 - C 11 1) + C 11 1) 5)) 1 0) 2 0) 0) (C 11 0 - C 11 1) 3))) 9 (uI (((st (s1 (s1 (st C 0 (fil (C 0) ((C 11 0 - C 11 1) + 1) ((C 11 0 - C 11 1) + C 11 1) 5)) 1 0) 2 0) 0 (uI ((s1 (s1 (st C 0 (fil (C 0) ((C 11 0 - C 11 1) + 1) ((C 11 0 - C 11 1) + C 11 1) 5)) 1 0) 2 0) 0) (C 11 0 - C 11 1) 3))) 9) 5 (C 9 5 + C 3 (C 11 0 - C 11 1)))) (uI (shJ C) (C 11 4 - 1) (shJ C (C 11 4 - 1))) := by rw [e_f_25]; exact RJ_a 5 22 r_24 b_2 (by decide) (by decide) (by decide)
              refine lv_aload_n hx hb dX7_goesThrough_210 rfl (lv_at hl 2 rfl) ?_
              refine q_get hx hb hts hown hK hw.1 ci_X7 0 rfl 14 (by decide) fl_X7_20 rfl dX7_goesThrough_211 ?_
              refine lv_iload_n hx hb dX7_goesThrough_214 rfl (lv_at hl 3 rfl) ?_
              refine q_callPS (As := [.int (iI (C 11 0 - C 11 1))]) (rest := [.ref (g 4)]) hx hb hml hown hts hK (c_X7_of (C 11 0 - C 11 1)) yt_X7_of ml_X7_167 (by rw [hR]; decide) (show va_P D vwCl [] _ from fun k q h => by simp at h)  rfl rfl hl.1 (lv_room (Nat.le_of_ble_eq_true rfl)) dX7_goesThrough_215 ⟨by rw [hR]; exact Nat.zero_le _, by rw [hR]; exact Nat.zero_le _⟩ ?_
              refine q_iconst hx hb dX7_goesThrough_218 ?_
              refine q_iadd hx hb dX7_goesThrough_219 ?_
              refine q_iconst hx hb dX7_goesThrough_220 ?_
              refine q_iast hx hb hK hw 4 0 rfl rfl (by omega) dX7_goesThrough_221 (fun H locs hw => ?_)
              have hw : qw D A s.heap (mW g cI cB cZ th len tl ts te tk nu er eo hL hS dp bf dr td (uI f_25 (26 + 4 * (C 11 0 - C 11 1) + 3) 0) ad hi sl sv tr) H locs := hw
              obtain ⟨f_26, e_f_26⟩ : ∃ z, z = uI f_25 (26 + 4 * (C 11 0 - C 11 1) + 3) 0 := ⟨_, rfl⟩
              have hw : qw D A s.heap (mW g cI cB cZ th len tl ts te tk nu er eo hL hS dp bf dr td f_26 ad hi sl sv tr) H locs := by rw [e_f_26]; exact hw
              have r_26 : RJ f_26 T (st (st ((st (s1 (s1 (st C 0 (fil (C 0) ((C 11 0 - C 11 1) + 1) ((C 11 0 - C 11 1) + C 11 1) 5)) 1 0) 2 0) 0 (uI ((s1 (s1 (st C 0 (fil (C 0) ((C 11 0 - C 11 1) + 1) ((C 11 0 - C 11 1) + C 11 1) 5)) 1 0) 2 0) 0) (C 11 0 - C 11 1) 3))) 9 (uI (((st (s1 (s1 (st C 0 (fil (C 0) ((C 11 0 - C 11 1) + 1) ((C 11 0 - C 11 1) + C 11 1) 5)) 1 0) 2 0) 0 (uI ((s1 (s1 (st C 0 (fil (C 0) ((C 11 0 - C 11 1) + 1) ((C 11 0 - C 11 1) + C 11 1) 5)) 1 0) 2 0) 0) (C 11 0 - C 11 1) 3))) 9) 5 (C 9 5 + C 3 (C 11 0 - C 11 1)))) 3 (uI ((st ((st (s1 (s1 (st C 0 (fil (C 0) ((C 11 0 - C 11 1) + 1) ((C 11 0 - C 11 1) + C 11 1) 5)) 1 0) 2 0) 0 (uI ((s1 (s1 (st C 0 (fil (C 0) ((C 11 0 - C 11 1) + 1) ((C 11 0 - C 11 1) + C 11 1) 5)) 1 0) 2 0) 0) (C 11 0 - C 11 1) 3))) 9 (uI (((st (s1 (s1 (st C 0 (fil (C 0) ((C 11 0 - C 11 1) + 1) ((C 11 0 - C 11 1) + C 11 1) 5)) 1 0) 2 0) 0 (uI ((s1 (s1 (st C 0 (fil (C 0) ((C 11 0 - C 11 1) + 1) ((C 11 0 - C 11 1) + C 11 1) 5)) 1 0) 2 0) 0) (C 11 0 - C 11 1) 3))) 9) 5 (C 9 5 + C 3 (C 11 0 - C 11 1)))) 3) (C 11 0 - C 11 1) 0)) (uI (shJ C) (C 11 4 - 1) (shJ C (C 11 4 - 1))) := by rw [e_f_26]; exact RJ_ha _ _ r_25 b_2 (by omega) (by omega)
              refine lv_iload_n hx hb dX7_goesThrough_222 rfl (lv_at hl 1 rfl) ?_
              refine q_top (goR T C (C 11 0 - C 11 1)) (by unfold goR; first | exact (if_pos (by omega)).symm | (rw [if_neg (by omega)]; unfold pgs bI; (repeat' split) <;> omega)) ?_
              exact hret (f_26) H locs 223 ls (by exact ⟨hM.1, hM.2.1, WC_goC hM.1 hM.2.2.1 h1, goC_fin hM.1 hM.2.2.1 h1 (by omega) (by first | exact goB_11 (by omega) (by omega) | exact goB_10 (by omega) (by omega) | exact goB_01 (by omega) (by omega) | exact goB_00 (by omega) (by omega)) (by unfold pgs bI; (repeat' split) <;> omega) (by unfold pgs bI; (repeat' split) <;> omega) r_26⟩) hw dX7_goesThrough_223
      · refine lv_aload_n hx hb dX7_goesThrough_72 rfl (lv_at hl 0 rfl) ?_
        refine q_get hx hb hts hown hK hw.1 ci_X7 0 rfl 14 (by decide) fl_X7_20 rfl dX7_goesThrough_73 ?_
        refine lv_iload_n hx hb dX7_goesThrough_76 rfl (lv_at hl 1 rfl) ?_
        refine q_callPS (As := [.int (iI (C 11 0 - C 11 1))]) (rest := [.ref (g 4)]) hx hb hml hown hts hK (c_X7_of (C 11 0 - C 11 1)) yt_X7_of ml_X7_167 (by rw [hR]; decide) (show va_P D vwCl [] _ from fun k q h => by simp at h)  rfl rfl hl.1 (lv_room (Nat.le_of_ble_eq_true rfl)) dX7_goesThrough_77 ⟨by rw [hR]; exact Nat.zero_le _, by rw [hR]; exact Nat.zero_le _⟩ ?_
        refine q_iconst hx hb dX7_goesThrough_80 ?_
        refine q_iadd hx hb dX7_goesThrough_81 ?_
        refine q_top (26 + 4 * (C 11 0 - C 11 1)) (Int.add_zero _) ?_
        refine q_iconst hx hb dX7_goesThrough_82 ?_
        refine q_iast hx hb hK hw 4 0 rfl rfl (by omega) dX7_goesThrough_83 (fun H locs hw => ?_)
        have hw : qw D A s.heap (mW g cI cB cZ th len tl ts te tk nu er eo hL hS dp bf dr td (uI f_2 (26 + 4 * (C 11 0 - C 11 1)) 4) ad hi sl sv tr) H locs := hw
        obtain ⟨f_27, e_f_27⟩ : ∃ z, z = uI f_2 (26 + 4 * (C 11 0 - C 11 1)) 4 := ⟨_, rfl⟩
        have hw : qw D A s.heap (mW g cI cB cZ th len tl ts te tk nu er eo hL hS dp bf dr td f_27 ad hi sl sv tr) H locs := by rw [e_f_27]; exact hw
        have r_27 : RJ f_27 T (st (s1 (s1 (st C 0 (fil (C 0) ((C 11 0 - C 11 1) + 1) ((C 11 0 - C 11 1) + C 11 1) 5)) 1 0) 2 0) 0 (uI ((s1 (s1 (st C 0 (fil (C 0) ((C 11 0 - C 11 1) + 1) ((C 11 0 - C 11 1) + C 11 1) 5)) 1 0) 2 0) 0) (C 11 0 - C 11 1) 4)) (shJ C) := by rw [e_f_27]; exact RJ_wh _ _ r_2 b_2 (by omega) (by omega)
        refine lv_aload_n hx hb dX7_goesThrough_84 rfl (lv_at hl 0 rfl) ?_
        refine lv_aload_n hx hb dX7_goesThrough_85 rfl (lv_at hl 0 rfl) ?_
        refine lv_iload_n hx hb dX7_goesThrough_86 rfl (lv_at hl 1 rfl) ?_
        refine q_iconst hx hb dX7_goesThrough_87 ?_
        refine q_callP (As := [.int (iI (C 11 0 - C 11 1)), .int (iI 5)]) (rest := [.ref (g 0)]) hx hb hml hown hts hK (c_X7_toldOf (C 11 0 - C 11 1) (5) (by first | omega | assumption) (by first | omega | assumption)) yi_X7_toldOf ml_X7_170 (by rw [hR]; decide) hw.1 0 rfl rfl rfl rfl hl.1 (lv_room (Nat.le_of_ble_eq_true rfl)) dX7_goesThrough_88 ⟨by rw [hR]; exact Nat.zero_le _, by rw [hR]; exact Nat.zero_le _⟩ ?_
        refine q_top (T 5 (C 11 0 - C 11 1)) (by omega) ?_
        refine q_callM (As := [.int (iI (T 5 (C 11 0 - C 11 1)))]) (rest := []) (wr := []) hx hb hml hown hts hK (c_X7_beginJob (C := (st (s1 (s1 (st C 0 (fil (C 0) ((C 11 0 - C 11 1) + 1) ((C 11 0 - C 11 1) + C 11 1) 5)) 1 0) 2 0) 0 (uI ((s1 (s1 (st C 0 (fil (C 0) ((C 11 0 - C 11 1) + 1) ((C 11 0 - C 11 1) + C 11 1) 5)) 1 0) 2 0) 0) (C 11 0 - C 11 1) 4))) (J := (shJ C)) (T 5 (C 11 0 - C 11 1)) (by exact b_2) (by exact r_27) (by show 1 ≤ C 11 4; omega) (by show C 11 4 < 140; omega)) yi_X7_beginJob ml_X7_203 (by rw [hR]; decide) hw hA [0, 1, 2, 3, 4, 5, 6, 7, 8, 9] [] rfl rfl (by decide) (by decide) (by decide) 0 rfl rfl rfl rfl hl.1 (lv_room (Nat.le_of_ble_eq_true rfl)) dX7_goesThrough_91 ⟨by rw [hR]; exact Nat.zero_le _, by rw [hR]; exact Nat.zero_le _⟩ (fun u_91 H locs hu_91 hw => ?_)
        obtain ⟨s2_4, rfl⟩ : ∃ z, z = u_91 := ⟨_, rfl⟩
        have hu_4_0 : RJ s2_4 T (bgJ (((st (s1 (s1 (st C 0 (fil (C 0) ((C 11 0 - C 11 1) + 1) ((C 11 0 - C 11 1) + C 11 1) 5)) 1 0) 2 0) 0 (uI ((s1 (s1 (st C 0 (fil (C 0) ((C 11 0 - C 11 1) + 1) ((C 11 0 - C 11 1) + C 11 1) 5)) 1 0) 2 0) 0) (C 11 0 - C 11 1) 4)))) (T 5 (C 11 0 - C 11 1))) (uI (((shJ C))) ((((st (s1 (s1 (st C 0 (fil (C 0) ((C 11 0 - C 11 1) + 1) ((C 11 0 - C 11 1) + C 11 1) 5)) 1 0) 2 0) 0 (uI ((s1 (s1 (st C 0 (fil (C 0) ((C 11 0 - C 11 1) + 1) ((C 11 0 - C 11 1) + C 11 1) 5)) 1 0) 2 0) 0) (C 11 0 - C 11 1) 4)))) 11 4) 0) := hu_91
        have hw : qw D A s.heap (mW g cI cB cZ th len tl ts te tk nu er eo hL hS dp bf dr td s2_4 ad hi sl sv tr) H locs := hw
        refine q_iconst hx hb dX7_goesThrough_94 ?_
        refine q_top (goR T C (C 11 0 - C 11 1)) (by unfold goR; first | exact (if_pos (by omega)).symm | (rw [if_neg (by omega)]; unfold pgs bI; (repeat' split) <;> omega)) ?_
        exact hret (s2_4) H locs 95 ls (by exact ⟨hM.1, hM.2.1, WC_goC hM.1 hM.2.2.1 h1, goC_code hM.1 hM.2.2.1 (by omega) (by omega) hu_4_0⟩) hw dX7_goesThrough_95
    · refine lv_aload_n hx hb dX7_goesThrough_22 rfl (lv_at hl 0 rfl) ?_
      refine q_get hx hb hts hown hK hw.1 ci_X7 0 rfl 14 (by decide) fl_X7_20 rfl dX7_goesThrough_23 ?_
      refine lv_aload_n hx hb dX7_goesThrough_26 rfl (lv_at hl 0 rfl) ?_
      refine q_get hx hb hts hown hK hw.1 ci_X7 0 rfl 14 (by decide) fl_X7_20 rfl dX7_goesThrough_27 ?_
      refine q_sipush hx hb dX7_goesThrough_30 rfl ?_
      refine lv_iload_n hx hb dX7_goesThrough_33 rfl (lv_at hl 2 rfl) ?_
      refine q_iadd hx hb dX7_goesThrough_34 ?_
      refine q_iald hx hb hK hw.1 4 0 rfl rfl (z := (226 + k)) (v := (C 11 0 - C 11 1 + k)) (by omega) (by rw [h_x, wfl_n _ (by omega)]; exact hM.pt k (by omega) (by omega)) dX7_goesThrough_35 ?_
      refine q_callPS (As := [.int (iI (C 11 0 - C 11 1 + k))]) (rest := [.ref (g 4)]) hx hb hml hown hts hK (c_X7_of (C 11 0 - C 11 1 + k)) yt_X7_of ml_X7_167 (by rw [hR]; decide) (show va_P D vwCl [] _ from fun k q h => by simp at h)  rfl rfl hl.1 (lv_room (Nat.le_of_ble_eq_true rfl)) dX7_goesThrough_36 ⟨by rw [hR]; exact Nat.zero_le _, by rw [hR]; exact Nat.zero_le _⟩ ?_
      refine q_iconst hx hb dX7_goesThrough_39 ?_
      refine q_iadd hx hb dX7_goesThrough_40 ?_
      refine q_top (26 + 4 * (C 11 0 - C 11 1 + k)) (Int.add_zero _) ?_
      refine q_iconst hx hb dX7_goesThrough_41 ?_
      refine q_iast hx hb hK hw 4 0 rfl rfl (by omega) dX7_goesThrough_42 (fun H locs hw => ?_)
      have hw : qw D A s.heap (mW g cI cB cZ th len tl ts te tk nu er eo hL hS dp bf dr td (uI x (26 + 4 * (C 11 0 - C 11 1 + k)) 5) ad hi sl sv tr) H locs := hw
      obtain ⟨f_28, e_f_28⟩ : ∃ z, z = uI x (26 + 4 * (C 11 0 - C 11 1 + k)) 5 := ⟨_, rfl⟩
      have hw : qw D A s.heap (mW g cI cB cZ th len tl ts te tk nu er eo hL hS dp bf dr td f_28 ad hi sl sv tr) H locs := by rw [e_f_28]; exact hw
      refine lv_iinc (v := iI (k + 1)) (lv' := [(2, .int (iI (k + 1))), (0, .ref (g 0)), (1, .int (iI (C 11 0 - C 11 1)))]) hx hb dX7_goesThrough_43 hl (k := 2) rfl (iI_add _ _) (by decide) rfl (fun ls hl => ?_)
      refine lv_goto (tgt := 11) hx hb dX7_goesThrough_46 (by decide) ?_
      exact ih _ (by omega) (f_28) (k + 1) H locs ls rfl (by rw [e_f_28, h_x]; exact wfl_s2 sa (by omega) (by omega) (by omega) (by omega) (by omega)) (by first | omega | assumption | rfl) hw (lv_sub hl [1, 2, 0] rfl)
  exact loop_11 _ (sa) (1) H locs ls rfl (by exact (wfl_0 sa (by omega)).symm) (by first | omega | assumption | rfl) hw (lv_sub hl [2, 1, 0] rfl)
