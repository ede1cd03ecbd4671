variable {l : Launch} {T C : Nat → Int → Int} {J : Int → Int} {D : va_G} {cI cB cZ cS cJ : ClassId} {g : Nat → Nat} {th len tl ts te tk nu er eo hL hS dp : Int} {bf dr td sa ad hi sl sv tr : Int → Int}
set_option maxHeartbeats 4000000 in
set_option maxRecDepth 100000 in
theorem c_X7_appendInt (v : Int) (h0 : 0 ≤ len ∧ len ≤ 696) : qM l D (tyG cI cB cZ cS cJ) yX7_appendInt cX7_appendInt 3 (Option.none) 0 0 [.ref (g 0), .int (iI v)] (mW g cI cB cZ th len tl ts te tk nu er eo hL hS dp bf dr td sa ad hi sl sv tr) (fun u : (Int → Int) => (u = apI bf len v)) (fun _ => none) (fun u => (mW g cI cB cZ th (len + 4) tl ts te tk nu er eo hL hS dp u dr td sa ad hi sl sv tr)) := by
  refine qM_enterV (by decide) (Nat.le_of_ble_eq_true rfl) (fun p e R s m args below meth c Q ls A X hR hA hw hl hret => ?_)
  obtain ⟨hx, hb, hml, hown, hts, hK⟩ := X
  have hl : lv_has ls 3 [(0, .ref (g 0)), (1, .int (iI v))] := hl
  suffices K : ∀ (H : Heap) (locs : List Loc), qw D A s.heap (mW g cI cB cZ th len tl ts te tk nu er eo hL hS dp bf dr td sa ad hi sl sv tr) H locs → W p l e R s m args below meth c H locs 0 0 Q (F0 m 0 ls []) from K s.heap [] hw
  clear hw
  intro H locs hw
  refine q_bipush hx hb dX7_appendInt_0 rfl ?_
  refine lv_istore_n (lv' := [(2, .int (iI 24)), (0, .ref (g 0)), (1, .int (iI v))]) hx hb dX7_appendInt_2 rfl hl (by decide) rfl (fun ls hl => ?_)
  refine lv_iload_n hx hb dX7_appendInt_3 rfl (lv_at hl 0 rfl) ?_
  refine q_if_lt (tgt := 36) hx hb dX7_appendInt_4 (by decide) (by omega) (fun c_4 => absurd c_4 (by omega)) (fun c_4 => ?_)
  refine lv_aload_n hx hb dX7_appendInt_7 rfl (lv_at hl 1 rfl) ?_
  refine q_get hx hb hts hown hK hw.1 ci_X7 0 rfl 1 (by decide) fl_X7_7 rfl dX7_appendInt_8 ?_
  refine lv_aload_n hx hb dX7_appendInt_11 rfl (lv_at hl 1 rfl) ?_
  refine q_get hx hb hts hown hK hw.1 ci_X7 0 rfl 2 (by decide) fl_X7_49 rfl dX7_appendInt_12 ?_
  refine lv_iload_n hx hb dX7_appendInt_15 rfl (lv_at hl 2 rfl) ?_
  refine lv_iload_n hx hb dX7_appendInt_16 rfl (lv_at hl 0 rfl) ?_
  refine q_ishr hx hb dX7_appendInt_17 ?_
  refine q_i2b hx hb dX7_appendInt_18 ?_
  refine q_bast hx hb hK hw 1 1 rfl rfl (by first | exact byT_bd _ | omega) (by omega) dX7_appendInt_19 (fun H locs hw => ?_)
  have hw : qw D A s.heap (mW g cI cB cZ th len tl ts te tk nu er eo hL hS dp (uI bf len (byT (shR v 24))) dr td sa ad hi sl sv tr) H locs := hw
  obtain ⟨f_1, e_f_1⟩ : ∃ z, z = uI bf len (byT (shR v 24)) := ⟨_, rfl⟩
  have hw : qw D A s.heap (mW g cI cB cZ th len tl ts te tk nu er eo hL hS dp f_1 dr td sa ad hi sl sv tr) H locs := by rw [e_f_1]; exact hw
  refine lv_aload_n hx hb dX7_appendInt_20 rfl (lv_at hl 1 rfl) ?_
  refine lv_dup hx hb dX7_appendInt_21 rfl ?_
  refine q_get hx hb hts hown hK hw.1 ci_X7 0 rfl 2 (by decide) fl_X7_49 rfl dX7_appendInt_22 ?_
  refine q_iconst hx hb dX7_appendInt_25 ?_
  refine q_iadd hx hb dX7_appendInt_26 ?_
  refine q_put hx hb hts hown hK hw ci_X7 0 rfl 2 (by decide) fl_X7_49 rfl rfl rfl (Nat.le_of_ble_eq_true rfl) dX7_appendInt_27 (fun H locs hw => ?_)
  have hw : qw D A s.heap (mW g cI cB cZ th (len + 1) tl ts te tk nu er eo hL hS dp f_1 dr td sa ad hi sl sv tr) H locs := hw
  refine lv_iinc (v := iI (24 + (-8))) (lv' := [(2, .int (iI (24 + (-8)))), (0, .ref (g 0)), (1, .int (iI v))]) hx hb dX7_appendInt_30 hl (k := 0) rfl (iI_add _ _) (by decide) rfl (fun ls hl => ?_)
  have hl : lv_has ls 3 [(2, .int (iI 16)), (0, .ref (g 0)), (1, .int (iI v))] := hl
  refine lv_goto (tgt := 3) hx hb dX7_appendInt_33 (by decide) ?_
  refine lv_iload_n hx hb dX7_appendInt_3 rfl (lv_at hl 0 rfl) ?_
  refine q_if_lt (tgt := 36) hx hb dX7_appendInt_4 (by decide) (by omega) (fun c_4 => absurd c_4 (by omega)) (fun c_4 => ?_)
  refine lv_aload_n hx hb dX7_appendInt_7 rfl (lv_at hl 1 rfl) ?_
  refine q_get hx hb hts hown hK hw.1 ci_X7 0 rfl 1 (by decide) fl_X7_7 rfl dX7_appendInt_8 ?_
  refine lv_aload_n hx hb dX7_appendInt_11 rfl (lv_at hl 1 rfl) ?_
  refine q_get hx hb hts hown hK hw.1 ci_X7 0 rfl 2 (by decide) fl_X7_49 rfl dX7_appendInt_12 ?_
  refine lv_iload_n hx hb dX7_appendInt_15 rfl (lv_at hl 2 rfl) ?_
  refine lv_iload_n hx hb dX7_appendInt_16 rfl (lv_at hl 0 rfl) ?_
  refine q_ishr hx hb dX7_appendInt_17 ?_
  refine q_i2b hx hb dX7_appendInt_18 ?_
  refine q_bast hx hb hK hw 1 1 rfl rfl (by first | exact byT_bd _ | omega) (by omega) dX7_appendInt_19 (fun H locs hw => ?_)
  have hw : qw D A s.heap (mW g cI cB cZ th (len + 1) tl ts te tk nu er eo hL hS dp (uI f_1 (len + 1) (byT (shR v 16))) dr td sa ad hi sl sv tr) H locs := hw
  obtain ⟨f_2, e_f_2⟩ : ∃ z, z = uI f_1 (len + 1) (byT (shR v 16)) := ⟨_, rfl⟩
  have hw : qw D A s.heap (mW g cI cB cZ th (len + 1) tl ts te tk nu er eo hL hS dp f_2 dr td sa ad hi sl sv tr) H locs := by rw [e_f_2]; exact hw
  refine lv_aload_n hx hb dX7_appendInt_20 rfl (lv_at hl 1 rfl) ?_
  refine lv_dup hx hb dX7_appendInt_21 rfl ?_
  refine q_get hx hb hts hown hK hw.1 ci_X7 0 rfl 2 (by decide) fl_X7_49 rfl dX7_appendInt_22 ?_
  refine q_iconst hx hb dX7_appendInt_25 ?_
  refine q_iadd hx hb dX7_appendInt_26 ?_
  refine q_put hx hb hts hown hK hw ci_X7 0 rfl 2 (by decide) fl_X7_49 rfl rfl rfl (Nat.le_of_ble_eq_true rfl) dX7_appendInt_27 (fun H locs hw => ?_)
  have hw : qw D A s.heap (mW g cI cB cZ th (len + 1 + 1) tl ts te tk nu er eo hL hS dp f_2 dr td sa ad hi sl sv tr) H locs := hw
  refine lv_iinc (v := iI (16 + (-8))) (lv' := [(2, .int (iI (16 + (-8)))), (0, .ref (g 0)), (1, .int (iI v))]) hx hb dX7_appendInt_30 hl (k := 0) rfl (iI_add _ _) (by decide) rfl (fun ls hl => ?_)
  have hl : lv_has ls 3 [(2, .int (iI 8)), (0, .ref (g 0)), (1, .int (iI v))] := hl
  refine lv_goto (tgt := 3) hx hb dX7_appendInt_33 (by decide) ?_
  refine lv_iload_n hx hb dX7_appendInt_3 rfl (lv_at hl 0 rfl) ?_
  refine q_if_lt (tgt := 36) hx hb dX7_appendInt_4 (by decide) (by omega) (fun c_4 => absurd c_4 (by omega)) (fun c_4 => ?_)
  refine lv_aload_n hx hb dX7_appendInt_7 rfl (lv_at hl 1 rfl) ?_
  refine q_get hx hb hts hown hK hw.1 ci_X7 0 rfl 1 (by decide) fl_X7_7 rfl dX7_appendInt_8 ?_
  refine lv_aload_n hx hb dX7_appendInt_11 rfl (lv_at hl 1 rfl) ?_
  refine q_get hx hb hts hown hK hw.1 ci_X7 0 rfl 2 (by decide) fl_X7_49 rfl dX7_appendInt_12 ?_
  refine lv_iload_n hx hb dX7_appendInt_15 rfl (lv_at hl 2 rfl) ?_
  refine lv_iload_n hx hb dX7_appendInt_16 rfl (lv_at hl 0 rfl) ?_
  refine q_ishr hx hb dX7_appendInt_17 ?_
  refine q_i2b hx hb dX7_appendInt_18 ?_
  refine q_bast hx hb hK hw 1 1 rfl rfl (by first | exact byT_bd _ | omega) (by omega) dX7_appendInt_19 (fun H locs hw => ?_)
  have hw : qw D A s.heap (mW g cI cB cZ th (len + 1 + 1) tl ts te tk nu er eo hL hS dp (uI f_2 (len + 1 + 1) (byT (shR v 8))) dr td sa ad hi sl sv tr) H locs := hw
  obtain ⟨f_3, e_f_3⟩ : ∃ z, z = uI f_2 (len + 1 + 1) (byT (shR v 8)) := ⟨_, rfl⟩
  have hw : qw D A s.heap (mW g cI cB cZ th (len + 1 + 1) tl ts te tk nu er eo hL hS dp f_3 dr td sa ad hi sl sv tr) H locs := by rw [e_f_3]; exact hw
  refine lv_aload_n hx hb dX7_appendInt_20 rfl (lv_at hl 1 rfl) ?_
  refine lv_dup hx hb dX7_appendInt_21 rfl ?_
  refine q_get hx hb hts hown hK hw.1 ci_X7 0 rfl 2 (by decide) fl_X7_49 rfl dX7_appendInt_22 ?_
  refine q_iconst hx hb dX7_appendInt_25 ?_
  refine q_iadd hx hb dX7_appendInt_26 ?_
  refine q_put hx hb hts hown hK hw ci_X7 0 rfl 2 (by decide) fl_X7_49 rfl rfl rfl (Nat.le_of_ble_eq_true rfl) dX7_appendInt_27 (fun H locs hw => ?_)
  have hw : qw D A s.heap (mW g cI cB cZ th (len + 1 + 1 + 1) tl ts te tk nu er eo hL hS dp f_3 dr td sa ad hi sl sv tr) H locs := hw
  refine lv_iinc (v := iI (8 + (-8))) (lv' := [(2, .int (iI (8 + (-8)))), (0, .ref (g 0)), (1, .int (iI v))]) hx hb dX7_appendInt_30 hl (k := 0) rfl (iI_add _ _) (by decide) rfl (fun ls hl => ?_)
  have hl : lv_has ls 3 [(2, .int (iI 0)), (0, .ref (g 0)), (1, .int (iI v))] := hl
  refine lv_goto (tgt := 3) hx hb dX7_appendInt_33 (by decide) ?_
  refine lv_iload_n hx hb dX7_appendInt_3 rfl (lv_at hl 0 rfl) ?_
  refine q_if_lt (tgt := 36) hx hb dX7_appendInt_4 (by decide) (by omega) (fun c_4 => absurd c_4 (by omega)) (fun c_4 => ?_)
  refine lv_aload_n hx hb dX7_appendInt_7 rfl (lv_at hl 1 rfl) ?_
  refine q_get hx hb hts hown hK hw.1 ci_X7 0 rfl 1 (by decide) fl_X7_7 rfl dX7_appendInt_8 ?_
  refine lv_aload_n hx hb dX7_appendInt_11 rfl (lv_at hl 1 rfl) ?_
  refine q_get hx hb hts hown hK hw.1 ci_X7 0 rfl 2 (by decide) fl_X7_49 rfl dX7_appendInt_12 ?_
  refine lv_iload_n hx hb dX7_appendInt_15 rfl (lv_at hl 2 rfl) ?_
  refine lv_iload_n hx hb dX7_appendInt_16 rfl (lv_at hl 0 rfl) ?_
  refine q_ishr hx hb dX7_appendInt_17 ?_
  refine q_i2b hx hb dX7_appendInt_18 ?_
  refine q_bast hx hb hK hw 1 1 rfl rfl (by first | exact byT_bd _ | omega) (by omega) dX7_appendInt_19 (fun H locs hw => ?_)
  have hw : qw D A s.heap (mW g cI cB cZ th (len + 1 + 1 + 1) tl ts te tk nu er eo hL hS dp (uI f_3 (len + 1 + 1 + 1) (byT (shR v 0))) dr td sa ad hi sl sv tr) H locs := hw
  obtain ⟨f_4, e_f_4⟩ : ∃ z, z = uI f_3 (len + 1 + 1 + 1) (byT (shR v 0)) := ⟨_, rfl⟩
  have hw : qw D A s.heap (mW g cI cB cZ th (len + 1 + 1 + 1) tl ts te tk nu er eo hL hS dp f_4 dr td sa ad hi sl sv tr) H locs := by rw [e_f_4]; exact hw
  refine lv_aload_n hx hb dX7_appendInt_20 rfl (lv_at hl 1 rfl) ?_
  refine lv_dup hx hb dX7_appendInt_21 rfl ?_
  refine q_get hx hb hts hown hK hw.1 ci_X7 0 rfl 2 (by decide) fl_X7_49 rfl dX7_appendInt_22 ?_
  refine q_iconst hx hb dX7_appendInt_25 ?_
  refine q_iadd hx hb dX7_appendInt_26 ?_
  refine q_put hx hb hts hown hK hw ci_X7 0 rfl 2 (by decide) fl_X7_49 rfl rfl rfl (Nat.le_of_ble_eq_true rfl) dX7_appendInt_27 (fun H locs hw => ?_)
  have hw : qw D A s.heap (mW g cI cB cZ th (len + 1 + 1 + 1 + 1) tl ts te tk nu er eo hL hS dp f_4 dr td sa ad hi sl sv tr) H locs := hw
  refine lv_iinc (v := iI (0 + (-8))) (lv' := [(2, .int (iI (0 + (-8)))), (0, .ref (g 0)), (1, .int (iI v))]) hx hb dX7_appendInt_30 hl (k := 0) rfl (iI_add _ _) (by decide) rfl (fun ls hl => ?_)
  have hl : lv_has ls 3 [(2, .int (iI (-8))), (0, .ref (g 0)), (1, .int (iI v))] := hl
  refine lv_goto (tgt := 3) hx hb dX7_appendInt_33 (by decide) ?_
  refine lv_iload_n hx hb dX7_appendInt_3 rfl (lv_at hl 0 rfl) ?_
  refine q_if_lt (tgt := 36) hx hb dX7_appendInt_4 (by decide) (by omega) (fun c_4 => ?_) (fun c_4 => absurd c_4 (by omega))
  have hw : qw D A s.heap (mW g cI cB cZ th (len + 4) tl ts te tk nu er eo hL hS dp f_4 dr td sa ad hi sl sv tr) H locs := by
    have hw2 := hw
    have ee : len + 1 + 1 + 1 + 1 = len + 4 := by first | rfl | omega
    rw [ee] at hw2
    exact hw2
  exact hret (f_4) H locs 36 ls (by subst_vars; unfold apI; (first | rfl | (simp only [Int.add_assoc]; rfl))) hw dX7_appendInt_36

set_option maxHeartbeats 4000000 in
set_option maxRecDepth 100000 in
theorem c_X7_append_no (v1 : Int) (v2 : Int) (v3 : Int) (v4 : Int) (v5 : Int) (hl0 : 0 ≤ len ∧ len ≤ 700) (h0 : 700 < len + 20) : qM l D (tyG cI cB cZ cS cJ) yX7_append cX7_append 6 (Option.some FieldType.int) 0 0 [.ref (g 0), .int (iI v1), .int (iI v2), .int (iI v3), .int (iI v4), .int (iI v5)] (mW g cI cB cZ th len tl ts te tk nu er eo hL hS dp bf dr td sa ad hi sl sv tr) (fun u : Unit => True) (fun u => some (.int (iI (-1)))) (fun u => (mW g cI cB cZ 0 len tl ts te tk nu er eo hL hS dp bf dr td sa ad hi sl sv tr)) := by
  refine qM_enterI (val := fun u => iI (-1)) (by decide) (Nat.le_of_ble_eq_true rfl) (fun u hu => ⟨rfl, nar_i _⟩) (fun p e R s m args below meth c Q ls A X hR hA hw hl hret => ?_)
  obtain ⟨hx, hb, hml, hown, hts, hK⟩ := X
  have hl : lv_has ls 6 [(0, .ref (g 0)), (1, .int (iI v1)), (2, .int (iI v2)), (3, .int (iI v3)), (4, .int (iI v4)), (5, .int (iI v5))] := hl
  suffices K : ∀ (H : Heap) (locs : List Loc), qw D A s.heap (mW g cI cB cZ th len tl ts te tk nu er eo hL hS dp bf dr td sa ad hi sl sv tr) H locs → W p l e R s m args below meth c H locs 0 0 Q (F0 m 0 ls []) from K s.heap [] hw
  clear hw
  intro H locs hw
  refine lv_aload_n hx hb dX7_append_0 rfl (lv_at hl 0 rfl) ?_
  refine q_iconst hx hb dX7_append_1 ?_
  refine q_put hx hb hts hown hK hw ci_X7 0 rfl 0 (by decide) fl_X7_45 rfl rfl rfl (Nat.le_of_ble_eq_true rfl) dX7_append_2 (fun H locs hw => ?_)
  have hw : qw D A s.heap (mW g cI cB cZ 0 len tl ts te tk nu er eo hL hS dp bf dr td sa ad hi sl sv tr) H locs := hw
  refine lv_aload_n hx hb dX7_append_5 rfl (lv_at hl 0 rfl) ?_
  refine q_get hx hb hts hown hK hw.1 ci_X7 0 rfl 2 (by decide) fl_X7_49 rfl dX7_append_6 ?_
  refine q_bipush hx hb dX7_append_9 rfl ?_
  refine q_iadd hx hb dX7_append_11 ?_
  refine q_sipush hx hb dX7_append_12 rfl ?_
  refine q_icmp_le (tgt := 20) hx hb dX7_append_15 (by decide) (by omega) (fun c_15 => absurd c_15 (by omega)) (fun c_15 => ?_)
  refine q_iconst hx hb dX7_append_18 ?_
  exact hret () H locs 19 ls trivial hw dX7_append_19

set_option maxHeartbeats 4000000 in
set_option maxRecDepth 100000 in
theorem c_X7_append (v1 : Int) (v2 : Int) (v3 : Int) (v4 : Int) (v5 : Int) (hl0 : 0 ≤ len ∧ len ≤ 700) (h0 : len + 20 ≤ 700) : qM l D (tyG cI cB cZ cS cJ) yX7_append cX7_append 6 (Option.some FieldType.int) 1 22 [.ref (g 0), .int (iI v1), .int (iI v2), .int (iI v3), .int (iI v4), .int (iI v5)] (mW g cI cB cZ th len tl ts te tk nu er eo hL hS dp bf dr td sa ad hi sl sv tr) (fun u : (Int → Int) => (u = apA bf len v1 v2 v3 v4 v5)) (fun u => some (.int (iI (len + 20)))) (fun u => (mW g cI cB cZ 0 (len + 20) tl ts te tk nu er eo hL hS dp u dr td sa ad hi sl sv tr)) := by
  refine qM_enterI (val := fun u => iI (len + 20)) (by decide) (Nat.le_of_ble_eq_true rfl) (fun u hu => ⟨rfl, nar_i _⟩) (fun p e R s m args below meth c Q ls A X hR hA hw hl hret => ?_)
  obtain ⟨hx, hb, hml, hown, hts, hK⟩ := X
  have hl : lv_has ls 6 [(0, .ref (g 0)), (1, .int (iI v1)), (2, .int (iI v2)), (3, .int (iI v3)), (4, .int (iI v4)), (5, .int (iI v5))] := hl
  suffices K : ∀ (H : Heap) (locs : List Loc), qw D A s.heap (mW g cI cB cZ th len tl ts te tk nu er eo hL hS dp bf dr td sa ad hi sl sv tr) H locs → W p l e R s m args below meth c H locs 0 0 Q (F0 m 0 ls []) from K s.heap [] hw
  clear hw
  intro H locs hw
  refine lv_aload_n hx hb dX7_append_0 rfl (lv_at hl 0 rfl) ?_
  refine q_iconst hx hb dX7_append_1 ?_
  refine q_put hx hb hts hown hK hw ci_X7 0 rfl 0 (by decide) fl_X7_45 rfl rfl rfl (Nat.le_of_ble_eq_true rfl) dX7_append_2 (fun H locs hw => ?_)
  have hw : qw D A s.heap (mW g cI cB cZ 0 len tl ts te tk nu er eo hL hS dp bf dr td sa ad hi sl sv tr) H locs := hw
  refine lv_aload_n hx hb dX7_append_5 rfl (lv_at hl 0 rfl) ?_
  refine q_get hx hb hts hown hK hw.1 ci_X7 0 rfl 2 (by decide) fl_X7_49 rfl dX7_append_6 ?_
  refine q_bipush hx hb dX7_append_9 rfl ?_
  refine q_iadd hx hb dX7_append_11 ?_
  refine q_sipush hx hb dX7_append_12 rfl ?_
  refine q_icmp_le (tgt := 20) hx hb dX7_append_15 (by decide) (by omega) (fun c_15 => ?_) (fun c_15 => absurd c_15 (by omega))
  refine lv_aload_n hx hb dX7_append_20 rfl (lv_at hl 0 rfl) ?_
  refine lv_iload_n hx hb dX7_append_21 rfl (lv_at hl 1 rfl) ?_
  refine q_callM (As := [.int (iI v1)]) (rest := []) (wr := []) hx hb hml hown hts hK (c_X7_appendInt (v1) (by first | omega | assumption)) yi_X7_appendInt ml_X7_52 (by rw [hR]; decide) hw hA [0, 1, 2, 3, 4, 5, 6, 7, 8, 9] [] rfl rfl (by decide) (by decide) (by decide) 0 rfl rfl rfl rfl hl.1 (lv_room (Nat.le_of_ble_eq_true rfl)) dX7_append_22 ⟨by rw [hR]; exact Nat.zero_le _, by rw [hR]; exact Nat.zero_le _⟩ (fun u_22 H locs hu_22 hw => ?_)
  obtain ⟨b2_1, rfl⟩ : ∃ z, z = u_22 := ⟨_, rfl⟩
  have hu_1_0 : b2_1 = apI bf len v1 := hu_22
  have hw : qw D A s.heap (mW g cI cB cZ 0 (len + 4) tl ts te tk nu er eo hL hS dp b2_1 dr td sa ad hi sl sv tr) H locs := hw
  refine lv_aload_n hx hb dX7_append_25 rfl (lv_at hl 0 rfl) ?_
  refine lv_iload_n hx hb dX7_append_26 rfl (lv_at hl 2 rfl) ?_
  refine q_callM (As := [.int (iI v2)]) (rest := []) (wr := []) hx hb hml hown hts hK (c_X7_appendInt (v2) (by first | omega | assumption)) yi_X7_appendInt ml_X7_52 (by rw [hR]; decide) hw hA [0, 1, 2, 3, 4, 5, 6, 7, 8, 9] [] rfl rfl (by decide) (by decide) (by decide) 0 rfl rfl rfl rfl hl.1 (lv_room (Nat.le_of_ble_eq_true rfl)) dX7_append_27 ⟨by rw [hR]; exact Nat.zero_le _, by rw [hR]; exact Nat.zero_le _⟩ (fun u_27 H locs hu_27 hw => ?_)
  obtain ⟨b2_2, rfl⟩ : ∃ z, z = u_27 := ⟨_, rfl⟩
  have hu_2_0 : b2_2 = apI b2_1 (len + 4) v2 := hu_27
  have hw : qw D A s.heap (mW g cI cB cZ 0 (len + 4 + 4) tl ts te tk nu er eo hL hS dp b2_2 dr td sa ad hi sl sv tr) H locs := hw
  refine lv_aload_n hx hb dX7_append_30 rfl (lv_at hl 0 rfl) ?_
  refine lv_iload_n hx hb dX7_append_31 rfl (lv_at hl 3 rfl) ?_
  refine q_callM (As := [.int (iI v3)]) (rest := []) (wr := []) hx hb hml hown hts hK (c_X7_appendInt (v3) (by first | omega | assumption)) yi_X7_appendInt ml_X7_52 (by rw [hR]; decide) hw hA [0, 1, 2, 3, 4, 5, 6, 7, 8, 9] [] rfl rfl (by decide) (by decide) (by decide) 0 rfl rfl rfl rfl hl.1 (lv_room (Nat.le_of_ble_eq_true rfl)) dX7_append_32 ⟨by rw [hR]; exact Nat.zero_le _, by rw [hR]; exact Nat.zero_le _⟩ (fun u_32 H locs hu_32 hw => ?_)
  obtain ⟨b2_3, rfl⟩ : ∃ z, z = u_32 := ⟨_, rfl⟩
  have hu_3_0 : b2_3 = apI b2_2 (len + 4 + 4) v3 := hu_32
  have hw : qw D A s.heap (mW g cI cB cZ 0 (len + 4 + 4 + 4) tl ts te tk nu er eo hL hS dp b2_3 dr td sa ad hi sl sv tr) H locs := hw
  refine lv_aload_n hx hb dX7_append_35 rfl (lv_at hl 0 rfl) ?_
  refine lv_iload hx hb dX7_append_36 (lv_at hl 4 rfl) ?_
  refine q_callM (As := [.int (iI v4)]) (rest := []) (wr := []) hx hb hml hown hts hK (c_X7_appendInt (v4) (by first | omega | assumption)) yi_X7_appendInt ml_X7_52 (by rw [hR]; decide) hw hA [0, 1, 2, 3, 4, 5, 6, 7, 8, 9] [] rfl rfl (by decide) (by decide) (by decide) 0 rfl rfl rfl rfl hl.1 (lv_room (Nat.le_of_ble_eq_true rfl)) dX7_append_38 ⟨by rw [hR]; exact Nat.zero_le _, by rw [hR]; exact Nat.zero_le _⟩ (fun u_38 H locs hu_38 hw => ?_)
  obtain ⟨b2_4, rfl⟩ : ∃ z, z = u_38 := ⟨_, rfl⟩
  have hu_4_0 : b2_4 = apI b2_3 (len + 4 + 4 + 4) v4 := hu_38
  have hw : qw D A s.heap (mW g cI cB cZ 0 (len + 4 + 4 + 4 + 4) tl ts te tk nu er eo hL hS dp b2_4 dr td sa ad hi sl sv tr) H locs := hw
  refine lv_aload_n hx hb dX7_append_41 rfl (lv_at hl 0 rfl) ?_
  refine lv_iload hx hb dX7_append_42 (lv_at hl 5 rfl) ?_
  refine q_callM (As := [.int (iI v5)]) (rest := []) (wr := []) hx hb hml hown hts hK (c_X7_appendInt (v5) (by first | omega | assumption)) yi_X7_appendInt ml_X7_52 (by rw [hR]; decide) hw hA [0, 1, 2, 3, 4, 5, 6, 7, 8, 9] [] rfl rfl (by decide) (by decide) (by decide) 0 rfl rfl rfl rfl hl.1 (lv_room (Nat.le_of_ble_eq_true rfl)) dX7_append_44 ⟨by rw [hR]; exact Nat.zero_le _, by rw [hR]; exact Nat.zero_le _⟩ (fun u_44 H locs hu_44 hw => ?_)
  obtain ⟨b2_5, rfl⟩ : ∃ z, z = u_44 := ⟨_, rfl⟩
  have hu_5_0 : b2_5 = apI b2_4 (len + 4 + 4 + 4 + 4) v5 := hu_44
  have hw : qw D A s.heap (mW g cI cB cZ 0 (len + 4 + 4 + 4 + 4 + 4) tl ts te tk nu er eo hL hS dp b2_5 dr td sa ad hi sl sv tr) H locs := hw
  refine lv_aload_n hx hb dX7_append_47 rfl (lv_at hl 0 rfl) ?_
  refine q_get hx hb hts hown hK hw.1 ci_X7 0 rfl 2 (by decide) fl_X7_49 rfl dX7_append_48 ?_
  refine q_top (len + 20) (by first | rfl | omega) ?_
  have hw : qw D A s.heap (mW g cI cB cZ 0 (len + 20) tl ts te tk nu er eo hL hS dp b2_5 dr td sa ad hi sl sv tr) H locs := by
    have hw2 := hw
    have ee : len + 4 + 4 + 4 + 4 + 4 = len + 20 := by first | rfl | omega
    rw [ee] at hw2
    exact hw2
  exact hret (b2_5) H locs 51 ls (by subst_vars; unfold apA; (first | rfl | (simp only [Int.add_assoc]; rfl))) hw dX7_append_51

set_option maxHeartbeats 4000000 in
set_option maxRecDepth 100000 in
theorem c_X7_byteAt (k : Int) (hbf : byR bf) (ht : 0 ≤ tl ∧ tl ≤ 700) (h0 : 0 ≤ k ∧ k ≤ 700) : qP l D (tyG cI cB cZ cS cJ) yX7_byteAt cX7_byteAt 2 (Option.some FieldType.int) 0 0 [.ref (g 0), .int (iI k)] (mW g cI cB cZ th len tl ts te tk nu er eo hL hS dp bf dr td sa ad hi sl sv tr) (some (.int (iI (bytA bf tl k)))) := by
  have q_b := hbf k
  refine qP_enter (by decide) (Nat.le_of_ble_eq_true rfl) (nar_i _) (fun p e R s m args below meth c Q ls X hR hP hl hret => ?_)
  obtain ⟨hx, hb, hml, hown, hts, hK⟩ := X
  have hl : lv_has ls 2 [(0, .ref (g 0)), (1, .int (iI k))] := hl
  refine lv_iload_n hx hb dX7_byteAt_0 rfl (lv_at hl 1 rfl) ?_
  refine lv_aload_n hx hb dX7_byteAt_1 rfl (lv_at hl 0 rfl) ?_
  refine q_get hx hb hts hown hK hP ci_X7 0 rfl 3 (by decide) fl_X7_56 rfl dX7_byteAt_2 ?_
  refine q_icmp_ge (tgt := 21) hx hb dX7_byteAt_5 (by decide) (by omega) (fun c_5 => ?_) (fun c_5 => ?_)
  · refine q_iconst hx hb dX7_byteAt_21 ?_
    exact q_ret (hret 22 ls dX7_byteAt_22) (by first | exact (bytA_y (by omega)).symm | exact (bytA_n (by omega)).symm)
  · refine lv_aload_n hx hb dX7_byteAt_8 rfl (lv_at hl 0 rfl) ?_
    refine q_get hx hb hts hown hK hP ci_X7 0 rfl 1 (by decide) fl_X7_7 rfl dX7_byteAt_9 ?_
    refine lv_iload_n hx hb dX7_byteAt_12 rfl (lv_at hl 1 rfl) ?_
    refine q_bald hx hb hK hP 1 1 rfl rfl (z := k) (v := (bf k)) (by omega) rfl dX7_byteAt_13 ?_
    refine q_sipush hx hb dX7_byteAt_14 rfl ?_
    refine q_iand255 hx hb dX7_byteAt_17 (by omega) ?_
    refine lv_goto (tgt := 22) hx hb dX7_byteAt_18 (by decide) ?_
    exact q_ret (hret 22 ls dX7_byteAt_22) (by first | exact (bytA_y (by omega)).symm | exact (bytA_n (by omega)).symm)

set_option maxHeartbeats 4000000 in
set_option maxRecDepth 100000 in
theorem c_X7_nextToken (hbf : byR bf) (ht : 0 ≤ tl ∧ tl ≤ 700) (h0 : 0 ≤ te ∧ te ≤ tl) (hnu : rg nu) : qM l D (tyG cI cB cZ cS cJ) yX7_nextToken cX7_nextToken 2 (Option.none) 1 22 [.ref (g 0)] (mW g cI cB cZ th len tl ts te tk nu er eo hL hS dp bf dr td sa ad hi sl sv tr) (fun u : (Int) × (Int) × (Int) × (Int) => (((u.1)) = sk bf tl te) ∧ (((u.2.1)) = tkE bf tl ((u.1))) ∧ (((u.2.2.1)) = tkK bf tl ((u.1))) ∧ (((u.2.2.1)) = 2 → ((u.2.2.2)) = nv bf ((u.1)) (((u.2.1)) - ((u.1)))) ∧ (rg ((u.2.2.2))) ∧ (((u.2.2.1)) = 2 → 0 ≤ ((u.2.2.2)) ∧ ((u.2.2.2)) ≤ 9999)) (fun _ => none) (fun u => (mW g cI cB cZ th len tl (u.1) (u.2.1) (u.2.2.1) (u.2.2.2) er eo hL hS dp bf dr td sa ad hi sl sv tr)) := by
  refine qM_enterV (by decide) (Nat.le_of_ble_eq_true rfl) (fun p e R s m args below meth c Q ls A X hR hA hw hl hret => ?_)
  obtain ⟨hx, hb, hml, hown, hts, hK⟩ := X
  have hl : lv_has ls 2 [(0, .ref (g 0))] := hl
  suffices K : ∀ (H : Heap) (locs : List Loc), qw D A s.heap (mW g cI cB cZ th len tl ts te tk nu er eo hL hS dp bf dr td sa ad hi sl sv tr) H locs → W p l e R s m args below meth c H locs 0 0 Q (F0 m 0 ls []) from K s.heap [] hw
  clear hw
  intro H locs hw
  refine lv_aload_n hx hb dX7_nextToken_0 rfl (lv_at hl 0 rfl) ?_
  refine lv_aload_n hx hb dX7_nextToken_1 rfl (lv_at hl 0 rfl) ?_
  refine q_get hx hb hts hown hK hw.1 ci_X7 0 rfl 5 (by decide) fl_X7_59 rfl dX7_nextToken_2 ?_
  refine q_put hx hb hts hown hK hw ci_X7 0 rfl 4 (by decide) fl_X7_62 rfl rfl rfl (Nat.le_of_ble_eq_true rfl) dX7_nextToken_5 (fun H locs hw => ?_)
  have hw : qw D A s.heap (mW g cI cB cZ th len tl te te tk nu er eo hL hS dp bf dr td sa ad hi sl sv tr) H locs := hw
  have loop_8 : ∀ (fu : Nat) (k : Int) (H : Heap) (locs : List Loc) (ls : Array Slot), (tl - k).toNat = fu → (te ≤ k ∧ k ≤ tl) → (sk bf tl k = sk bf tl te) → qw D A s.heap (mW g cI cB cZ th len tl k te tk nu er eo hL hS dp bf dr td sa ad hi sl sv tr) H locs → lv_has ls 2 [(0, .ref (g 0))] → W p l e R s m args below meth c H locs 0 0 Q (F0 m 8 ls []) := by
    intro fu
    induction fu using Nat.strongRecOn with
    | ind fu ih =>
    intro k H locs ls hn_8 h_k h_s hw hl
    have q_bk := bytA_bd (n := tl) (k := k) hbf
    have q_rk := hbf k
    refine lv_aload_n hx hb dX7_nextToken_8 rfl (lv_at hl 0 rfl) ?_
    refine lv_aload_n hx hb dX7_nextToken_9 rfl (lv_at hl 0 rfl) ?_
    refine q_get hx hb hts hown hK hw.1 ci_X7 0 rfl 4 (by decide) fl_X7_62 rfl dX7_nextToken_10 ?_
    refine q_callP (As := [.int (iI k)]) (rest := []) hx hb hml hown hts hK (c_X7_byteAt (k) (by first | omega | assumption) (by first | omega | assumption) (by first | omega | assumption)) yi_X7_byteAt ml_X7_65 (by rw [hR]; decide) hw.1 0 rfl rfl rfl rfl hl.1 (lv_room (Nat.le_of_ble_eq_true rfl)) dX7_nextToken_13 ⟨by rw [hR]; exact Nat.zero_le _, by rw [hR]; exact Nat.zero_le _⟩ ?_
    refine q_bipush hx hb dX7_nextToken_16 rfl ?_
    refine q_icmp_eq (tgt := 34) hx hb dX7_nextToken_18 (by decide) (by omega) (fun c_18 => ?_) (fun c_18 => ?_)
    · refine lv_aload_n hx hb dX7_nextToken_34 rfl (lv_at hl 0 rfl) ?_
      refine lv_dup hx hb dX7_nextToken_35 rfl ?_
      refine q_get hx hb hts hown hK hw.1 ci_X7 0 rfl 4 (by decide) fl_X7_62 rfl dX7_nextToken_36 ?_
      refine q_iconst hx hb dX7_nextToken_39 ?_
      refine q_iadd hx hb dX7_nextToken_40 ?_
      refine q_put hx hb hts hown hK hw ci_X7 0 rfl 4 (by decide) fl_X7_62 rfl rfl rfl (Nat.le_of_ble_eq_true rfl) dX7_nextToken_41 (fun H locs hw => ?_)
      have hw : qw D A s.heap (mW g cI cB cZ th len tl (k + 1) te tk nu er eo hL hS dp bf dr td sa ad hi sl sv tr) H locs := hw
      refine lv_goto (tgt := 8) hx hb dX7_nextToken_44 (by decide) ?_
      exact ih _ (by omega) (k + 1) H locs ls rfl (by first | omega | assumption | rfl) (by rw [sk_s (by omega)]; exact h_s) hw hl
    · refine lv_aload_n hx hb dX7_nextToken_21 rfl (lv_at hl 0 rfl) ?_
      refine lv_aload_n hx hb dX7_nextToken_22 rfl (lv_at hl 0 rfl) ?_
      refine q_get hx hb hts hown hK hw.1 ci_X7 0 rfl 4 (by decide) fl_X7_62 rfl dX7_nextToken_23 ?_
      refine q_callP (As := [.int (iI k)]) (rest := []) hx hb hml hown hts hK (c_X7_byteAt (k) (by first | omega | assumption) (by first | omega | assumption) (by first | omega | assumption)) yi_X7_byteAt ml_X7_65 (by rw [hR]; decide) hw.1 0 rfl rfl rfl rfl hl.1 (lv_room (Nat.le_of_ble_eq_true rfl)) dX7_nextToken_26 ⟨by rw [hR]; exact Nat.zero_le _, by rw [hR]; exact Nat.zero_le _⟩ ?_
      refine q_bipush hx hb dX7_nextToken_29 rfl ?_
      refine q_icmp_ne (tgt := 47) hx hb dX7_nextToken_31 (by decide) (by omega) (fun c_31 => ?_) (fun c_31 => ?_)
      · have h_e : k = sk bf tl te := by rw [← h_s, sk_e (by omega)]
        refine lv_aload_n hx hb dX7_nextToken_47 rfl (lv_at hl 0 rfl) ?_
        refine lv_aload_n hx hb dX7_nextToken_48 rfl (lv_at hl 0 rfl) ?_
        refine q_get hx hb hts hown hK hw.1 ci_X7 0 rfl 4 (by decide) fl_X7_62 rfl dX7_nextToken_49 ?_
        refine q_callP (As := [.int (iI k)]) (rest := []) hx hb hml hown hts hK (c_X7_byteAt (k) (by first | omega | assumption) (by first | omega | assumption) (by first | omega | assumption)) yi_X7_byteAt ml_X7_65 (by rw [hR]; decide) hw.1 0 rfl rfl rfl rfl hl.1 (lv_room (Nat.le_of_ble_eq_true rfl)) dX7_nextToken_52 ⟨by rw [hR]; exact Nat.zero_le _, by rw [hR]; exact Nat.zero_le _⟩ ?_
        refine lv_istore_n (lv' := [(1, .int (iI (bytA bf tl k))), (0, .ref (g 0))]) hx hb dX7_nextToken_55 rfl hl (by decide) rfl (fun ls hl => ?_)
        refine lv_aload_n hx hb dX7_nextToken_56 rfl (lv_at hl 1 rfl) ?_
        refine lv_aload_n hx hb dX7_nextToken_57 rfl (lv_at hl 1 rfl) ?_
        refine q_get hx hb hts hown hK hw.1 ci_X7 0 rfl 4 (by decide) fl_X7_62 rfl dX7_nextToken_58 ?_
        refine q_put hx hb hts hown hK hw ci_X7 0 rfl 5 (by decide) fl_X7_59 rfl rfl rfl (Nat.le_of_ble_eq_true rfl) dX7_nextToken_61 (fun H locs hw => ?_)
        have hw : qw D A s.heap (mW g cI cB cZ th len tl k k tk nu er eo hL hS dp bf dr td sa ad hi sl sv tr) H locs := hw
        refine lv_aload_n hx hb dX7_nextToken_64 rfl (lv_at hl 1 rfl) ?_
        refine q_iconst hx hb dX7_nextToken_65 ?_
        refine q_put hx hb hts hown hK hw ci_X7 0 rfl 6 (by decide) fl_X7_69 rfl rfl rfl (Nat.le_of_ble_eq_true rfl) dX7_nextToken_66 (fun H locs hw => ?_)
        have hw : qw D A s.heap (mW g cI cB cZ th len tl k k 5 nu er eo hL hS dp bf dr td sa ad hi sl sv tr) H locs := hw
        refine lv_iload_n hx hb dX7_nextToken_69 rfl (lv_at hl 0 rfl) ?_
        refine q_iconst hx hb dX7_nextToken_70 ?_
        refine q_icmp_ne (tgt := 82) hx hb dX7_nextToken_71 (by decide) (by omega) (fun c_71 => ?_) (fun c_71 => ?_)
        · refine lv_iload_n hx hb dX7_nextToken_82 rfl (lv_at hl 0 rfl) ?_
          refine q_bipush hx hb dX7_nextToken_83 rfl ?_
          refine q_bipush hx hb dX7_nextToken_85 rfl ?_
          refine q_callPS (As := [.int (iI (bytA bf tl k)), .int (iI 97), .int (iI 122)]) (rest := []) hx hb hml hown hts hK (c_X7_within (bytA bf tl k) (97) (122) (by first | omega | assumption) (by first | omega | assumption) (by first | omega | assumption)) yt_X7_within ml_X7_72 (by rw [hR]; decide) (show va_P D vwCl [] _ from fun k q h => by simp at h)  rfl rfl hl.1 (lv_room (Nat.le_of_ble_eq_true rfl)) dX7_nextToken_87 ⟨by rw [hR]; exact Nat.zero_le _, by rw [hR]; exact Nat.zero_le _⟩ ?_
          refine q_ifb_eq (tgt := 150) hx hb dX7_nextToken_90 (by decide) (fun c_90 => ?_) (fun c_90 => ?_)
          · refine lv_iload_n hx hb dX7_nextToken_150 rfl (lv_at hl 0 rfl) ?_
            refine q_bipush hx hb dX7_nextToken_151 rfl ?_
            refine q_bipush hx hb dX7_nextToken_153 rfl ?_
            refine q_callPS (As := [.int (iI (bytA bf tl k)), .int (iI 48), .int (iI 57)]) (rest := []) hx hb hml hown hts hK (c_X7_within (bytA bf tl k) (48) (57) (by first | omega | assumption) (by first | omega | assumption) (by first | omega | assumption)) yt_X7_within ml_X7_72 (by rw [hR]; decide) (show va_P D vwCl [] _ from fun k q h => by simp at h)  rfl rfl hl.1 (lv_room (Nat.le_of_ble_eq_true rfl)) dX7_nextToken_155 ⟨by rw [hR]; exact Nat.zero_le _, by rw [hR]; exact Nat.zero_le _⟩ ?_
            refine q_ifb_eq (tgt := 265) hx hb dX7_nextToken_158 (by decide) (fun c_158 => ?_) (fun c_158 => ?_)
            · refine lv_aload_n hx hb dX7_nextToken_265 rfl (lv_at hl 1 rfl) ?_
              refine lv_dup hx hb dX7_nextToken_266 rfl ?_
              refine q_get hx hb hts hown hK hw.1 ci_X7 0 rfl 5 (by decide) fl_X7_59 rfl dX7_nextToken_267 ?_
              refine q_iconst hx hb dX7_nextToken_270 ?_
              refine q_iadd hx hb dX7_nextToken_271 ?_
              refine q_put hx hb hts hown hK hw ci_X7 0 rfl 5 (by decide) fl_X7_59 rfl rfl rfl (Nat.le_of_ble_eq_true rfl) dX7_nextToken_272 (fun H locs hw => ?_)
              have hw : qw D A s.heap (mW g cI cB cZ th len tl k (k + 1) 5 nu er eo hL hS dp bf dr td sa ad hi sl sv tr) H locs := hw
              refine lv_aload_n hx hb dX7_nextToken_275 rfl (lv_at hl 1 rfl) ?_
              refine lv_iload_n hx hb dX7_nextToken_276 rfl (lv_at hl 0 rfl) ?_
              refine q_bipush hx hb dX7_nextToken_277 rfl ?_
              refine q_icmp_ne (tgt := 286) hx hb dX7_nextToken_279 (by decide) (by omega) (fun c_279 => ?_) (fun c_279 => ?_)
              · refine lv_iload_n hx hb dX7_nextToken_286 rfl (lv_at hl 0 rfl) ?_
                refine q_bipush hx hb dX7_nextToken_287 rfl ?_
                refine q_icmp_ne (tgt := 296) hx hb dX7_nextToken_289 (by decide) (by omega) (fun c_289 => ?_) (fun c_289 => ?_)
                · refine q_iconst hx hb dX7_nextToken_296 ?_
                  refine q_put hx hb hts hown hK hw ci_X7 0 rfl 6 (by decide) fl_X7_69 rfl rfl rfl (Nat.le_of_ble_eq_true rfl) dX7_nextToken_297 (fun H locs hw => ?_)
                  have hw : qw D A s.heap (mW g cI cB cZ th len tl k (k + 1) 5 nu er eo hL hS dp bf dr td sa ad hi sl sv tr) H locs := hw
                  exact hret (k, k + 1, 5, nu) H locs 300 ls ⟨(by exact h_e), (by dsimp only; unfold tkE; first | (rw [if_pos (by omega)]) | (rw [if_neg (by omega), if_pos (by omega), ← h_r, ru_e (by omega)]) | (rw [if_neg (by omega), if_neg (by omega), if_pos (by omega), ← h_r, ru_e (by omega)]) | (rw [if_neg (by omega), if_neg (by omega), if_neg (by omega)])), (by dsimp only; unfold tkK; first | (rw [if_pos (by omega)]) | (rw [if_neg (by omega), if_pos (by omega), ← h_r, ru_e (by omega)]; first | rw [if_pos (by omega)] | rw [if_neg (by omega)]) | (rw [if_neg (by omega), if_neg (by omega), if_pos (by omega), ← h_r, ru_e (by omega)]; first | rw [if_pos (by omega)] | rw [if_neg (by omega)]) | (rw [if_neg (by omega), if_neg (by omega), if_neg (by omega)]; first | rw [if_pos (by omega)] | rw [if_neg (by omega), if_pos (by omega)] | rw [if_neg (by omega), if_neg (by omega)])), (by dsimp only; intro q; first | exact h_w (by omega) | omega), (by dsimp only; first | exact hnu | omega), (by dsimp only; intro q; omega)⟩ hw dX7_nextToken_300
                · refine q_iconst hx hb dX7_nextToken_292 ?_
                  refine lv_goto (tgt := 297) hx hb dX7_nextToken_293 (by decide) ?_
                  refine q_put hx hb hts hown hK hw ci_X7 0 rfl 6 (by decide) fl_X7_69 rfl rfl rfl (Nat.le_of_ble_eq_true rfl) dX7_nextToken_297 (fun H locs hw => ?_)
                  have hw : qw D A s.heap (mW g cI cB cZ th len tl k (k + 1) 4 nu er eo hL hS dp bf dr td sa ad hi sl sv tr) H locs := hw
                  exact hret (k, k + 1, 4, nu) H locs 300 ls ⟨(by exact h_e), (by dsimp only; unfold tkE; first | (rw [if_pos (by omega)]) | (rw [if_neg (by omega), if_pos (by omega), ← h_r, ru_e (by omega)]) | (rw [if_neg (by omega), if_neg (by omega), if_pos (by omega), ← h_r, ru_e (by omega)]) | (rw [if_neg (by omega), if_neg (by omega), if_neg (by omega)])), (by dsimp only; unfold tkK; first | (rw [if_pos (by omega)]) | (rw [if_neg (by omega), if_pos (by omega), ← h_r, ru_e (by omega)]; first | rw [if_pos (by omega)] | rw [if_neg (by omega)]) | (rw [if_neg (by omega), if_neg (by omega), if_pos (by omega), ← h_r, ru_e (by omega)]; first | rw [if_pos (by omega)] | rw [if_neg (by omega)]) | (rw [if_neg (by omega), if_neg (by omega), if_neg (by omega)]; first | rw [if_pos (by omega)] | rw [if_neg (by omega), if_pos (by omega)] | rw [if_neg (by omega), if_neg (by omega)])), (by dsimp only; intro q; first | exact h_w (by omega) | omega), (by dsimp only; first | exact hnu | omega), (by dsimp only; intro q; omega)⟩ hw dX7_nextToken_300
              · refine q_iconst hx hb dX7_nextToken_282 ?_
                refine lv_goto (tgt := 297) hx hb dX7_nextToken_283 (by decide) ?_
                refine q_put hx hb hts hown hK hw ci_X7 0 rfl 6 (by decide) fl_X7_69 rfl rfl rfl (Nat.le_of_ble_eq_true rfl) dX7_nextToken_297 (fun H locs hw => ?_)
                have hw : qw D A s.heap (mW g cI cB cZ th len tl k (k + 1) 3 nu er eo hL hS dp bf dr td sa ad hi sl sv tr) H locs := hw
                exact hret (k, k + 1, 3, nu) H locs 300 ls ⟨(by exact h_e), (by dsimp only; unfold tkE; first | (rw [if_pos (by omega)]) | (rw [if_neg (by omega), if_pos (by omega), ← h_r, ru_e (by omega)]) | (rw [if_neg (by omega), if_neg (by omega), if_pos (by omega), ← h_r, ru_e (by omega)]) | (rw [if_neg (by omega), if_neg (by omega), if_neg (by omega)])), (by dsimp only; unfold tkK; first | (rw [if_pos (by omega)]) | (rw [if_neg (by omega), if_pos (by omega), ← h_r, ru_e (by omega)]; first | rw [if_pos (by omega)] | rw [if_neg (by omega)]) | (rw [if_neg (by omega), if_neg (by omega), if_pos (by omega), ← h_r, ru_e (by omega)]; first | rw [if_pos (by omega)] | rw [if_neg (by omega)]) | (rw [if_neg (by omega), if_neg (by omega), if_neg (by omega)]; first | rw [if_pos (by omega)] | rw [if_neg (by omega), if_pos (by omega)] | rw [if_neg (by omega), if_neg (by omega)])), (by dsimp only; intro q; first | exact h_w (by omega) | omega), (by dsimp only; first | exact hnu | omega), (by dsimp only; intro q; omega)⟩ hw dX7_nextToken_300
            · refine lv_aload_n hx hb dX7_nextToken_161 rfl (lv_at hl 1 rfl) ?_
              refine q_iconst hx hb dX7_nextToken_162 ?_
              refine q_put hx hb hts hown hK hw ci_X7 0 rfl 7 (by decide) fl_X7_76 rfl rfl rfl (Nat.le_of_ble_eq_true rfl) dX7_nextToken_163 (fun H locs hw => ?_)
              have hw : qw D A s.heap (mW g cI cB cZ th len tl k k 5 0 er eo hL hS dp bf dr td sa ad hi sl sv tr) H locs := hw
              have loop_166 : ∀ (fu : Nat) (i : Int) (w : Int) (H : Heap) (locs : List Loc) (ls : Array Slot), (tl - i).toNat = fu → (k ≤ i ∧ i ≤ tl) → (ru bf tl 48 57 i = ru bf tl 48 57 k) → (0 ≤ w ∧ (i - k ≤ 0 → w ≤ 0) ∧ (i - k ≤ 1 → w ≤ 9) ∧ (i - k ≤ 2 → w ≤ 99) ∧ (i - k ≤ 3 → w ≤ 999) ∧ w ≤ 9999) → (i - k ≤ 4 → w = nv bf k (i - k)) → qw D A s.heap (mW g cI cB cZ th len tl k i 5 w er eo hL hS dp bf dr td sa ad hi sl sv tr) H locs → lv_has ls 2 [(0, .ref (g 0)), (1, .int (iI (bytA bf tl k)))] → W p l e R s m args below meth c H locs 0 0 Q (F0 m 166 ls []) := by
                intro fu
                induction fu using Nat.strongRecOn with
                | ind fu ih =>
                intro i w H locs ls hn_166 h_i h_r h_b h_w hw hl
                have q_bi := bytA_bd (n := tl) (k := i) hbf
                have q_ri := hbf i
                refine lv_aload_n hx hb dX7_nextToken_166 rfl (lv_at hl 0 rfl) ?_
                refine lv_aload_n hx hb dX7_nextToken_167 rfl (lv_at hl 0 rfl) ?_
                refine q_get hx hb hts hown hK hw.1 ci_X7 0 rfl 5 (by decide) fl_X7_59 rfl dX7_nextToken_168 ?_
                refine q_callP (As := [.int (iI i)]) (rest := []) hx hb hml hown hts hK (c_X7_byteAt (i) (by first | omega | assumption) (by first | omega | assumption) (by first | omega | assumption)) yi_X7_byteAt ml_X7_65 (by rw [hR]; decide) hw.1 0 rfl rfl rfl rfl hl.1 (lv_room (Nat.le_of_ble_eq_true rfl)) dX7_nextToken_171 ⟨by rw [hR]; exact Nat.zero_le _, by rw [hR]; exact Nat.zero_le _⟩ ?_
                refine q_bipush hx hb dX7_nextToken_174 rfl ?_
                refine q_bipush hx hb dX7_nextToken_176 rfl ?_
                refine q_callPS (As := [.int (iI (bytA bf tl i)), .int (iI 48), .int (iI 57)]) (rest := []) hx hb hml hown hts hK (c_X7_within (bytA bf tl i) (48) (57) (by first | omega | assumption) (by first | omega | assumption) (by first | omega | assumption)) yt_X7_within ml_X7_72 (by rw [hR]; decide) (show va_P D vwCl [] _ from fun k q h => by simp at h)  rfl rfl hl.1 (lv_room (Nat.le_of_ble_eq_true rfl)) dX7_nextToken_178 ⟨by rw [hR]; exact Nat.zero_le _, by rw [hR]; exact Nat.zero_le _⟩ ?_
                refine q_ifb_eq (tgt := 240) hx hb dX7_nextToken_181 (by decide) (fun c_181 => ?_) (fun c_181 => ?_)
                · refine lv_aload_n hx hb dX7_nextToken_240 rfl (lv_at hl 0 rfl) ?_
                  refine lv_aload_n hx hb dX7_nextToken_241 rfl (lv_at hl 0 rfl) ?_
                  refine q_get hx hb hts hown hK hw.1 ci_X7 0 rfl 5 (by decide) fl_X7_59 rfl dX7_nextToken_242 ?_
                  refine lv_aload_n hx hb dX7_nextToken_245 rfl (lv_at hl 0 rfl) ?_
                  refine q_get hx hb hts hown hK hw.1 ci_X7 0 rfl 4 (by decide) fl_X7_62 rfl dX7_nextToken_246 ?_
                  refine q_isub hx hb dX7_nextToken_249 ?_
                  refine q_iconst hx hb dX7_nextToken_250 ?_
                  refine q_icmp_le (tgt := 258) hx hb dX7_nextToken_251 (by decide) (by omega) (fun c_251 => ?_) (fun c_251 => ?_)
                  · refine q_iconst hx hb dX7_nextToken_258 ?_
                    refine q_put hx hb hts hown hK hw ci_X7 0 rfl 6 (by decide) fl_X7_69 rfl rfl rfl (Nat.le_of_ble_eq_true rfl) dX7_nextToken_259 (fun H locs hw => ?_)
                    have hw : qw D A s.heap (mW g cI cB cZ th len tl k i 2 w er eo hL hS dp bf dr td sa ad hi sl sv tr) H locs := hw
                    refine lv_goto (tgt := 300) hx hb dX7_nextToken_262 (by decide) ?_
                    exact hret (k, i, 2, w) H locs 300 ls ⟨(by exact h_e), (by dsimp only; unfold tkE; first | (rw [if_pos (by omega)]) | (rw [if_neg (by omega), if_pos (by omega), ← h_r, ru_e (by omega)]) | (rw [if_neg (by omega), if_neg (by omega), if_pos (by omega), ← h_r, ru_e (by omega)]) | (rw [if_neg (by omega), if_neg (by omega), if_neg (by omega)])), (by dsimp only; unfold tkK; first | (rw [if_pos (by omega)]) | (rw [if_neg (by omega), if_pos (by omega), ← h_r, ru_e (by omega)]; first | rw [if_pos (by omega)] | rw [if_neg (by omega)]) | (rw [if_neg (by omega), if_neg (by omega), if_pos (by omega), ← h_r, ru_e (by omega)]; first | rw [if_pos (by omega)] | rw [if_neg (by omega)]) | (rw [if_neg (by omega), if_neg (by omega), if_neg (by omega)]; first | rw [if_pos (by omega)] | rw [if_neg (by omega), if_pos (by omega)] | rw [if_neg (by omega), if_neg (by omega)])), (by dsimp only; intro q; first | exact h_w (by omega) | omega), (by dsimp only; first | exact hnu | omega), (by dsimp only; intro q; omega)⟩ hw dX7_nextToken_300
                  · refine q_iconst hx hb dX7_nextToken_254 ?_
                    refine lv_goto (tgt := 259) hx hb dX7_nextToken_255 (by decide) ?_
                    refine q_put hx hb hts hown hK hw ci_X7 0 rfl 6 (by decide) fl_X7_69 rfl rfl rfl (Nat.le_of_ble_eq_true rfl) dX7_nextToken_259 (fun H locs hw => ?_)
                    have hw : qw D A s.heap (mW g cI cB cZ th len tl k i 5 w er eo hL hS dp bf dr td sa ad hi sl sv tr) H locs := hw
                    refine lv_goto (tgt := 300) hx hb dX7_nextToken_262 (by decide) ?_
                    exact hret (k, i, 5, w) H locs 300 ls ⟨(by exact h_e), (by dsimp only; unfold tkE; first | (rw [if_pos (by omega)]) | (rw [if_neg (by omega), if_pos (by omega), ← h_r, ru_e (by omega)]) | (rw [if_neg (by omega), if_neg (by omega), if_pos (by omega), ← h_r, ru_e (by omega)]) | (rw [if_neg (by omega), if_neg (by omega), if_neg (by omega)])), (by dsimp only; unfold tkK; first | (rw [if_pos (by omega)]) | (rw [if_neg (by omega), if_pos (by omega), ← h_r, ru_e (by omega)]; first | rw [if_pos (by omega)] | rw [if_neg (by omega)]) | (rw [if_neg (by omega), if_neg (by omega), if_pos (by omega), ← h_r, ru_e (by omega)]; first | rw [if_pos (by omega)] | rw [if_neg (by omega)]) | (rw [if_neg (by omega), if_neg (by omega), if_neg (by omega)]; first | rw [if_pos (by omega)] | rw [if_neg (by omega), if_pos (by omega)] | rw [if_neg (by omega), if_neg (by omega)])), (by dsimp only; intro q; first | exact h_w (by omega) | omega), (by dsimp only; first | exact hnu | omega), (by dsimp only; intro q; omega)⟩ hw dX7_nextToken_300
                · refine lv_aload_n hx hb dX7_nextToken_184 rfl (lv_at hl 0 rfl) ?_
                  refine lv_aload_n hx hb dX7_nextToken_185 rfl (lv_at hl 0 rfl) ?_
                  refine q_get hx hb hts hown hK hw.1 ci_X7 0 rfl 5 (by decide) fl_X7_59 rfl dX7_nextToken_186 ?_
                  refine lv_aload_n hx hb dX7_nextToken_189 rfl (lv_at hl 0 rfl) ?_
                  refine q_get hx hb hts hown hK hw.1 ci_X7 0 rfl 4 (by decide) fl_X7_62 rfl dX7_nextToken_190 ?_
                  refine q_isub hx hb dX7_nextToken_193 ?_
                  refine q_iconst hx hb dX7_nextToken_194 ?_
                  refine q_icmp_ge (tgt := 220) hx hb dX7_nextToken_195 (by decide) (by omega) (fun c_195 => ?_) (fun c_195 => ?_)
                  · refine lv_aload_n hx hb dX7_nextToken_220 rfl (lv_at hl 0 rfl) ?_
                    refine q_get hx hb hts hown hK hw.1 ci_X7 0 rfl 7 (by decide) fl_X7_76 rfl dX7_nextToken_221 ?_
                    refine q_put hx hb hts hown hK hw ci_X7 0 rfl 7 (by decide) fl_X7_76 rfl rfl rfl (Nat.le_of_ble_eq_true rfl) dX7_nextToken_224 (fun H locs hw => ?_)
                    have hw : qw D A s.heap (mW g cI cB cZ th len tl k i 5 w er eo hL hS dp bf dr td sa ad hi sl sv tr) H locs := hw
                    refine lv_aload_n hx hb dX7_nextToken_227 rfl (lv_at hl 0 rfl) ?_
                    refine lv_dup hx hb dX7_nextToken_228 rfl ?_
                    refine q_get hx hb hts hown hK hw.1 ci_X7 0 rfl 5 (by decide) fl_X7_59 rfl dX7_nextToken_229 ?_
                    refine q_iconst hx hb dX7_nextToken_232 ?_
                    refine q_iadd hx hb dX7_nextToken_233 ?_
                    refine q_put hx hb hts hown hK hw ci_X7 0 rfl 5 (by decide) fl_X7_59 rfl rfl rfl (Nat.le_of_ble_eq_true rfl) dX7_nextToken_234 (fun H locs hw => ?_)
                    have hw : qw D A s.heap (mW g cI cB cZ th len tl k (i + 1) 5 w er eo hL hS dp bf dr td sa ad hi sl sv tr) H locs := hw
                    refine lv_goto (tgt := 166) hx hb dX7_nextToken_237 (by decide) ?_
                    exact ih _ (by omega) (i + 1) (w) H locs ls rfl (by first | omega | assumption | rfl) (by rw [ru_s (by omega)]; exact h_r) (by first | omega | assumption | rfl) (by intro q; first | omega | (rw [show i + 1 - k = i - k + 1 by omega, nv_s (by omega), ← h_w (by omega), show k + (i - k) = i by omega]; omega)) hw hl
                  · refine q_bipush hx hb dX7_nextToken_198 rfl ?_
                    refine lv_aload_n hx hb dX7_nextToken_200 rfl (lv_at hl 0 rfl) ?_
                    refine q_get hx hb hts hown hK hw.1 ci_X7 0 rfl 7 (by decide) fl_X7_76 rfl dX7_nextToken_201 ?_
                    refine q_imul hx hb dX7_nextToken_204 ?_
                    refine lv_aload_n hx hb dX7_nextToken_205 rfl (lv_at hl 0 rfl) ?_
                    refine lv_aload_n hx hb dX7_nextToken_206 rfl (lv_at hl 0 rfl) ?_
                    refine q_get hx hb hts hown hK hw.1 ci_X7 0 rfl 5 (by decide) fl_X7_59 rfl dX7_nextToken_207 ?_
                    refine q_callP (As := [.int (iI i)]) (rest := [.int (iI (10 * w)), .ref (g 0)]) hx hb hml hown hts hK (c_X7_byteAt (i) (by first | omega | assumption) (by first | omega | assumption) (by first | omega | assumption)) yi_X7_byteAt ml_X7_65 (by rw [hR]; decide) hw.1 0 rfl rfl rfl rfl hl.1 (lv_room (Nat.le_of_ble_eq_true rfl)) dX7_nextToken_210 ⟨by rw [hR]; exact Nat.zero_le _, by rw [hR]; exact Nat.zero_le _⟩ ?_
                    refine q_iadd hx hb dX7_nextToken_213 ?_
                    refine q_bipush hx hb dX7_nextToken_214 rfl ?_
                    refine q_isub hx hb dX7_nextToken_216 ?_
                    refine lv_goto (tgt := 224) hx hb dX7_nextToken_217 (by decide) ?_
                    refine q_put hx hb hts hown hK hw ci_X7 0 rfl 7 (by decide) fl_X7_76 rfl rfl rfl (Nat.le_of_ble_eq_true rfl) dX7_nextToken_224 (fun H locs hw => ?_)
                    have hw : qw D A s.heap (mW g cI cB cZ th len tl k i 5 (10 * w + bytA bf tl i - 48) er eo hL hS dp bf dr td sa ad hi sl sv tr) H locs := hw
                    refine lv_aload_n hx hb dX7_nextToken_227 rfl (lv_at hl 0 rfl) ?_
                    refine lv_dup hx hb dX7_nextToken_228 rfl ?_
                    refine q_get hx hb hts hown hK hw.1 ci_X7 0 rfl 5 (by decide) fl_X7_59 rfl dX7_nextToken_229 ?_
                    refine q_iconst hx hb dX7_nextToken_232 ?_
                    refine q_iadd hx hb dX7_nextToken_233 ?_
                    refine q_put hx hb hts hown hK hw ci_X7 0 rfl 5 (by decide) fl_X7_59 rfl rfl rfl (Nat.le_of_ble_eq_true rfl) dX7_nextToken_234 (fun H locs hw => ?_)
                    have hw : qw D A s.heap (mW g cI cB cZ th len tl k (i + 1) 5 (10 * w + bytA bf tl i - 48) er eo hL hS dp bf dr td sa ad hi sl sv tr) H locs := hw
                    refine lv_goto (tgt := 166) hx hb dX7_nextToken_237 (by decide) ?_
                    exact ih _ (by omega) (i + 1) (10 * w + bytA bf tl i - 48) H locs ls rfl (by first | omega | assumption | rfl) (by rw [ru_s (by omega)]; exact h_r) (by first | omega | assumption | rfl) (by intro q; first | omega | (rw [show i + 1 - k = i - k + 1 by omega, nv_s (by omega), ← h_w (by omega), show k + (i - k) = i by omega]; omega)) hw hl
              exact loop_166 _ (k) (0) H locs ls rfl (by first | omega | assumption | rfl) (by rfl) (by first | omega | assumption | rfl) (by intro _; rw [Int.sub_self]; rfl) hw (lv_sub hl [1, 0] rfl)
          · have loop_93 : ∀ (fu : Nat) (i : Int) (H : Heap) (locs : List Loc) (ls : Array Slot), (tl - i).toNat = fu → (k ≤ i ∧ i ≤ tl) → (ru bf tl 97 122 i = ru bf tl 97 122 k) → qw D A s.heap (mW g cI cB cZ th len tl k i 5 nu er eo hL hS dp bf dr td sa ad hi sl sv tr) H locs → lv_has ls 2 [(0, .ref (g 0)), (1, .int (iI (bytA bf tl k)))] → W p l e R s m args below meth c H locs 0 0 Q (F0 m 93 ls []) := by
              intro fu
              induction fu using Nat.strongRecOn with
              | ind fu ih =>
              intro i H locs ls hn_93 h_i h_r hw hl
              have q_bi := bytA_bd (n := tl) (k := i) hbf
              have q_ri := hbf i
              refine lv_aload_n hx hb dX7_nextToken_93 rfl (lv_at hl 0 rfl) ?_
              refine lv_aload_n hx hb dX7_nextToken_94 rfl (lv_at hl 0 rfl) ?_
              refine q_get hx hb hts hown hK hw.1 ci_X7 0 rfl 5 (by decide) fl_X7_59 rfl dX7_nextToken_95 ?_
              refine q_callP (As := [.int (iI i)]) (rest := []) hx hb hml hown hts hK (c_X7_byteAt (i) (by first | omega | assumption) (by first | omega | assumption) (by first | omega | assumption)) yi_X7_byteAt ml_X7_65 (by rw [hR]; decide) hw.1 0 rfl rfl rfl rfl hl.1 (lv_room (Nat.le_of_ble_eq_true rfl)) dX7_nextToken_98 ⟨by rw [hR]; exact Nat.zero_le _, by rw [hR]; exact Nat.zero_le _⟩ ?_
              refine q_bipush hx hb dX7_nextToken_101 rfl ?_
              refine q_bipush hx hb dX7_nextToken_103 rfl ?_
              refine q_callPS (As := [.int (iI (bytA bf tl i)), .int (iI 97), .int (iI 122)]) (rest := []) hx hb hml hown hts hK (c_X7_within (bytA bf tl i) (97) (122) (by first | omega | assumption) (by first | omega | assumption) (by first | omega | assumption)) yt_X7_within ml_X7_72 (by rw [hR]; decide) (show va_P D vwCl [] _ from fun k q h => by simp at h)  rfl rfl hl.1 (lv_room (Nat.le_of_ble_eq_true rfl)) dX7_nextToken_105 ⟨by rw [hR]; exact Nat.zero_le _, by rw [hR]; exact Nat.zero_le _⟩ ?_
              refine q_ifb_eq (tgt := 124) hx hb dX7_nextToken_108 (by decide) (fun c_108 => ?_) (fun c_108 => ?_)
              · refine lv_aload_n hx hb dX7_nextToken_124 rfl (lv_at hl 0 rfl) ?_
                refine lv_aload_n hx hb dX7_nextToken_125 rfl (lv_at hl 0 rfl) ?_
                refine q_get hx hb hts hown hK hw.1 ci_X7 0 rfl 5 (by decide) fl_X7_59 rfl dX7_nextToken_126 ?_
                refine lv_aload_n hx hb dX7_nextToken_129 rfl (lv_at hl 0 rfl) ?_
                refine q_get hx hb hts hown hK hw.1 ci_X7 0 rfl 4 (by decide) fl_X7_62 rfl dX7_nextToken_130 ?_
                refine q_isub hx hb dX7_nextToken_133 ?_
                refine q_bipush hx hb dX7_nextToken_134 rfl ?_
                refine q_icmp_le (tgt := 143) hx hb dX7_nextToken_136 (by decide) (by omega) (fun c_136 => ?_) (fun c_136 => ?_)
                · refine q_iconst hx hb dX7_nextToken_143 ?_
                  refine q_put hx hb hts hown hK hw ci_X7 0 rfl 6 (by decide) fl_X7_69 rfl rfl rfl (Nat.le_of_ble_eq_true rfl) dX7_nextToken_144 (fun H locs hw => ?_)
                  have hw : qw D A s.heap (mW g cI cB cZ th len tl k i 1 nu er eo hL hS dp bf dr td sa ad hi sl sv tr) H locs := hw
                  refine lv_goto (tgt := 300) hx hb dX7_nextToken_147 (by decide) ?_
                  exact hret (k, i, 1, nu) H locs 300 ls ⟨(by exact h_e), (by dsimp only; unfold tkE; first | (rw [if_pos (by omega)]) | (rw [if_neg (by omega), if_pos (by omega), ← h_r, ru_e (by omega)]) | (rw [if_neg (by omega), if_neg (by omega), if_pos (by omega), ← h_r, ru_e (by omega)]) | (rw [if_neg (by omega), if_neg (by omega), if_neg (by omega)])), (by dsimp only; unfold tkK; first | (rw [if_pos (by omega)]) | (rw [if_neg (by omega), if_pos (by omega), ← h_r, ru_e (by omega)]; first | rw [if_pos (by omega)] | rw [if_neg (by omega)]) | (rw [if_neg (by omega), if_neg (by omega), if_pos (by omega), ← h_r, ru_e (by omega)]; first | rw [if_pos (by omega)] | rw [if_neg (by omega)]) | (rw [if_neg (by omega), if_neg (by omega), if_neg (by omega)]; first | rw [if_pos (by omega)] | rw [if_neg (by omega), if_pos (by omega)] | rw [if_neg (by omega), if_neg (by omega)])), (by dsimp only; intro q; first | exact h_w (by omega) | omega), (by dsimp only; first | exact hnu | omega), (by dsimp only; intro q; omega)⟩ hw dX7_nextToken_300
                · refine q_iconst hx hb dX7_nextToken_139 ?_
                  refine lv_goto (tgt := 144) hx hb dX7_nextToken_140 (by decide) ?_
                  refine q_put hx hb hts hown hK hw ci_X7 0 rfl 6 (by decide) fl_X7_69 rfl rfl rfl (Nat.le_of_ble_eq_true rfl) dX7_nextToken_144 (fun H locs hw => ?_)
                  have hw : qw D A s.heap (mW g cI cB cZ th len tl k i 5 nu er eo hL hS dp bf dr td sa ad hi sl sv tr) H locs := hw
                  refine lv_goto (tgt := 300) hx hb dX7_nextToken_147 (by decide) ?_
                  exact hret (k, i, 5, nu) H locs 300 ls ⟨(by exact h_e), (by dsimp only; unfold tkE; first | (rw [if_pos (by omega)]) | (rw [if_neg (by omega), if_pos (by omega), ← h_r, ru_e (by omega)]) | (rw [if_neg (by omega), if_neg (by omega), if_pos (by omega), ← h_r, ru_e (by omega)]) | (rw [if_neg (by omega), if_neg (by omega), if_neg (by omega)])), (by dsimp only; unfold tkK; first | (rw [if_pos (by omega)]) | (rw [if_neg (by omega), if_pos (by omega), ← h_r, ru_e (by omega)]; first | rw [if_pos (by omega)] | rw [if_neg (by omega)]) | (rw [if_neg (by omega), if_neg (by omega), if_pos (by omega), ← h_r, ru_e (by omega)]; first | rw [if_pos (by omega)] | rw [if_neg (by omega)]) | (rw [if_neg (by omega), if_neg (by omega), if_neg (by omega)]; first | rw [if_pos (by omega)] | rw [if_neg (by omega), if_pos (by omega)] | rw [if_neg (by omega), if_neg (by omega)])), (by dsimp only; intro q; first | exact h_w (by omega) | omega), (by dsimp only; first | exact hnu | omega), (by dsimp only; intro q; omega)⟩ hw dX7_nextToken_300
              · refine lv_aload_n hx hb dX7_nextToken_111 rfl (lv_at hl 0 rfl) ?_
                refine lv_dup hx hb dX7_nextToken_112 rfl ?_
                refine q_get hx hb hts hown hK hw.1 ci_X7 0 rfl 5 (by decide) fl_X7_59 rfl dX7_nextToken_113 ?_
                refine q_iconst hx hb dX7_nextToken_116 ?_
                refine q_iadd hx hb dX7_nextToken_117 ?_
                refine q_put hx hb hts hown hK hw ci_X7 0 rfl 5 (by decide) fl_X7_59 rfl rfl rfl (Nat.le_of_ble_eq_true rfl) dX7_nextToken_118 (fun H locs hw => ?_)
                have hw : qw D A s.heap (mW g cI cB cZ th len tl k (i + 1) 5 nu er eo hL hS dp bf dr td sa ad hi sl sv tr) H locs := hw
                refine lv_goto (tgt := 93) hx hb dX7_nextToken_121 (by decide) ?_
                exact ih _ (by omega) (i + 1) H locs ls rfl (by first | omega | assumption | rfl) (by rw [ru_s (by omega)]; exact h_r) hw hl
            exact loop_93 _ (k) H locs ls rfl (by first | omega | assumption | rfl) (by rfl) hw (lv_sub hl [1, 0] rfl)
        · refine lv_aload_n hx hb dX7_nextToken_74 rfl (lv_at hl 1 rfl) ?_
          refine q_iconst hx hb dX7_nextToken_75 ?_
          refine q_put hx hb hts hown hK hw ci_X7 0 rfl 6 (by decide) fl_X7_69 rfl rfl rfl (Nat.le_of_ble_eq_true rfl) dX7_nextToken_76 (fun H locs hw => ?_)
          have hw : qw D A s.heap (mW g cI cB cZ th len tl k k 0 nu er eo hL hS dp bf dr td sa ad hi sl sv tr) H locs := hw
          refine lv_goto (tgt := 300) hx hb dX7_nextToken_79 (by decide) ?_
          exact hret (k, k, 0, nu) H locs 300 ls ⟨(by exact h_e), (by dsimp only; unfold tkE; first | (rw [if_pos (by omega)]) | (rw [if_neg (by omega), if_pos (by omega), ← h_r, ru_e (by omega)]) | (rw [if_neg (by omega), if_neg (by omega), if_pos (by omega), ← h_r, ru_e (by omega)]) | (rw [if_neg (by omega), if_neg (by omega), if_neg (by omega)])), (by dsimp only; unfold tkK; first | (rw [if_pos (by omega)]) | (rw [if_neg (by omega), if_pos (by omega), ← h_r, ru_e (by omega)]; first | rw [if_pos (by omega)] | rw [if_neg (by omega)]) | (rw [if_neg (by omega), if_neg (by omega), if_pos (by omega), ← h_r, ru_e (by omega)]; first | rw [if_pos (by omega)] | rw [if_neg (by omega)]) | (rw [if_neg (by omega), if_neg (by omega), if_neg (by omega)]; first | rw [if_pos (by omega)] | rw [if_neg (by omega), if_pos (by omega)] | rw [if_neg (by omega), if_neg (by omega)])), (by dsimp only; intro q; first | exact h_w (by omega) | omega), (by dsimp only; first | exact hnu | omega), (by dsimp only; intro q; omega)⟩ hw dX7_nextToken_300
      · refine lv_aload_n hx hb dX7_nextToken_34 rfl (lv_at hl 0 rfl) ?_
        refine lv_dup hx hb dX7_nextToken_35 rfl ?_
        refine q_get hx hb hts hown hK hw.1 ci_X7 0 rfl 4 (by decide) fl_X7_62 rfl dX7_nextToken_36 ?_
        refine q_iconst hx hb dX7_nextToken_39 ?_
        refine q_iadd hx hb dX7_nextToken_40 ?_
        refine q_put hx hb hts hown hK hw ci_X7 0 rfl 4 (by decide) fl_X7_62 rfl rfl rfl (Nat.le_of_ble_eq_true rfl) dX7_nextToken_41 (fun H locs hw => ?_)
        have hw : qw D A s.heap (mW g cI cB cZ th len tl (k + 1) te tk nu er eo hL hS dp bf dr td sa ad hi sl sv tr) H locs := hw
        refine lv_goto (tgt := 8) hx hb dX7_nextToken_44 (by decide) ?_
        exact ih _ (by omega) (k + 1) H locs ls rfl (by first | omega | assumption | rfl) (by rw [sk_s (by omega)]; exact h_s) hw hl
  exact loop_8 _ (te) H locs ls rfl (by first | omega | assumption | rfl) (by rfl) hw hl
