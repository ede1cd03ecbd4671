variable {l : Launch} {T C : Nat → Int → Int} {J : Int → Int} {D : va_G} {cI cB cZ cS cJ : ClassId} {g : Nat → Nat} {th len tl ts te tk nu er eo hL hS dp : Int} {bf dr td sa ad hi sl sv tr : Int → Int}
set_option maxHeartbeats 4000000 in
set_option maxRecDepth 100000 in
theorem c_X7_must (b : Int) (kd : Int) (hP : PR bf tl ts te tk nu er eo C) (hb0 : 0 ≤ b ∧ b ≤ 1) (hk : 1 ≤ kd ∧ kd ≤ 5) : qM l D (tyG cI cB cZ cS cJ) yX7_must cX7_must 3 (Option.some FieldType.boolean) 0 0 [.ref (g 0), .int (iI b), .int (iI kd)] (mW g cI cB cZ th len tl ts te tk nu er eo hL hS dp bf dr td sa ad hi sl sv tr) (fun u : (Int) × (Int) => (PR bf tl ts te tk nu ((u.1)) ((u.2)) (muX b kd C))) (fun u => some (.int (iI (bI (muX b kd C 9 3 = 0))))) (fun u => (mW g cI cB cZ th len tl ts te tk nu (u.1) (u.2) hL hS dp bf dr td sa ad hi sl sv tr)) := by
  have q_e := hP.1
  have q_m := muX_3 (b := b) (k := kd) (X := C) (by omega)
  have q_5 := hP.2.1
  refine qM_enterI (val := fun u => iI (bI (muX b kd C 9 3 = 0))) (by decide) (Nat.le_of_ble_eq_true rfl) (fun u hu => ⟨rfl, nar_z bI_r⟩) (fun p e R s m args below meth c Q ls A X hR hA hw hl hret => ?_)
  obtain ⟨hx, hb, hml, hown, hts, hK⟩ := X
  have hl : lv_has ls 3 [(0, .ref (g 0)), (1, .int (iI b)), (2, .int (iI kd))] := hl
  suffices K : ∀ (H : Heap) (locs : List Loc), qw D A s.heap (mW g cI cB cZ th len tl ts te tk nu er eo hL hS dp bf dr td sa ad hi sl sv tr) H locs → W p l e R s m args below meth c H locs 0 0 Q (F0 m 0 ls []) from K s.heap [] hw
  clear hw
  intro H locs hw
  refine lv_aload_n hx hb dX7_must_0 rfl (lv_at hl 0 rfl) ?_
  refine q_get hx hb hts hown hK hw.1 ci_X7 0 rfl 8 (by decide) fl_X7_79 rfl dX7_must_1 ?_
  refine q_if_ne (tgt := 24) hx hb dX7_must_4 (by decide) (by omega) (fun c_4 => ?_) (fun c_4 => ?_)
  · refine lv_aload_n hx hb dX7_must_24 rfl (lv_at hl 0 rfl) ?_
    refine q_get hx hb hts hown hK hw.1 ci_X7 0 rfl 8 (by decide) fl_X7_79 rfl dX7_must_25 ?_
    refine q_if_ne (tgt := 35) hx hb dX7_must_28 (by decide) (by omega) (fun c_28 => ?_) (fun c_28 => ?_)
    · refine q_iconst hx hb dX7_must_35 ?_
      refine q_top (bI (muX b kd C 9 3 = 0)) (by unfold bI; split <;> omega) ?_
      exact hret (er, eo) H locs 36 ls (by (have z := PR_mu (b := b) (k := kd) hP hk; first | (rw [if_pos (by omega), if_pos (by omega)] at z; exact z) | (rw [if_neg (by omega), if_neg (by omega)] at z; exact z))) hw dX7_must_36
    · refine q_iconst hx hb dX7_must_31 ?_
      refine lv_goto (tgt := 36) hx hb dX7_must_32 (by decide) ?_
      refine q_top (bI (muX b kd C 9 3 = 0)) (by unfold bI; split <;> omega) ?_
      exact hret (er, eo) H locs 36 ls (by (have z := PR_mu (b := b) (k := kd) hP hk; first | (rw [if_pos (by omega), if_pos (by omega)] at z; exact z) | (rw [if_neg (by omega), if_neg (by omega)] at z; exact z))) hw dX7_must_36
  · refine lv_iload_n hx hb dX7_must_7 rfl (lv_at hl 1 rfl) ?_
    refine q_if_ne (tgt := 24) hx hb dX7_must_8 (by decide) (by omega) (fun c_8 => ?_) (fun c_8 => ?_)
    · refine lv_aload_n hx hb dX7_must_24 rfl (lv_at hl 0 rfl) ?_
      refine q_get hx hb hts hown hK hw.1 ci_X7 0 rfl 8 (by decide) fl_X7_79 rfl dX7_must_25 ?_
      refine q_if_ne (tgt := 35) hx hb dX7_must_28 (by decide) (by omega) (fun c_28 => ?_) (fun c_28 => ?_)
      · refine q_iconst hx hb dX7_must_35 ?_
        refine q_top (bI (muX b kd C 9 3 = 0)) (by unfold bI; split <;> omega) ?_
        exact hret (er, eo) H locs 36 ls (by (have z := PR_mu (b := b) (k := kd) hP hk; first | (rw [if_pos (by omega), if_pos (by omega)] at z; exact z) | (rw [if_neg (by omega), if_neg (by omega)] at z; exact z))) hw dX7_must_36
      · refine q_iconst hx hb dX7_must_31 ?_
        refine lv_goto (tgt := 36) hx hb dX7_must_32 (by decide) ?_
        refine q_top (bI (muX b kd C 9 3 = 0)) (by unfold bI; split <;> omega) ?_
        exact hret (er, eo) H locs 36 ls (by (have z := PR_mu (b := b) (k := kd) hP hk; first | (rw [if_pos (by omega), if_pos (by omega)] at z; exact z) | (rw [if_neg (by omega), if_neg (by omega)] at z; exact z))) hw dX7_must_36
    · refine lv_aload_n hx hb dX7_must_11 rfl (lv_at hl 0 rfl) ?_
      refine lv_iload_n hx hb dX7_must_12 rfl (lv_at hl 2 rfl) ?_
      refine q_put hx hb hts hown hK hw ci_X7 0 rfl 8 (by decide) fl_X7_79 rfl rfl rfl (Nat.le_of_ble_eq_true rfl) dX7_must_13 (fun H locs hw => ?_)
      have hw : qw D A s.heap (mW g cI cB cZ th len tl ts te tk nu kd eo hL hS dp bf dr td sa ad hi sl sv tr) H locs := hw
      refine lv_aload_n hx hb dX7_must_16 rfl (lv_at hl 0 rfl) ?_
      refine lv_aload_n hx hb dX7_must_17 rfl (lv_at hl 0 rfl) ?_
      refine q_get hx hb hts hown hK hw.1 ci_X7 0 rfl 4 (by decide) fl_X7_62 rfl dX7_must_18 ?_
      refine q_put hx hb hts hown hK hw ci_X7 0 rfl 9 (by decide) fl_X7_82 rfl rfl rfl (Nat.le_of_ble_eq_true rfl) dX7_must_21 (fun H locs hw => ?_)
      have hw : qw D A s.heap (mW g cI cB cZ th len tl ts te tk nu kd ts hL hS dp bf dr td sa ad hi sl sv tr) H locs := hw
      refine lv_aload_n hx hb dX7_must_24 rfl (lv_at hl 0 rfl) ?_
      refine q_get hx hb hts hown hK hw.1 ci_X7 0 rfl 8 (by decide) fl_X7_79 rfl dX7_must_25 ?_
      refine q_if_ne (tgt := 35) hx hb dX7_must_28 (by decide) (by omega) (fun c_28 => ?_) (fun c_28 => ?_)
      · refine q_iconst hx hb dX7_must_35 ?_
        refine q_top (bI (muX b kd C 9 3 = 0)) (by unfold bI; split <;> omega) ?_
        exact hret (kd, ts) H locs 36 ls (by (have z := PR_mu (b := b) (k := kd) hP hk; first | (rw [if_pos (by omega), if_pos (by omega)] at z; exact z) | (rw [if_neg (by omega), if_neg (by omega)] at z; exact z))) hw dX7_must_36
      · refine q_iconst hx hb dX7_must_31 ?_
        refine lv_goto (tgt := 36) hx hb dX7_must_32 (by decide) ?_
        refine q_top (bI (muX b kd C 9 3 = 0)) (by unfold bI; split <;> omega) ?_
        exact hret (kd, ts) H locs 36 ls (by (have z := PR_mu (b := b) (k := kd) hP hk; first | (rw [if_pos (by omega), if_pos (by omega)] at z; exact z) | (rw [if_neg (by omega), if_neg (by omega)] at z; exact z))) hw dX7_must_36

set_option maxHeartbeats 4000000 in
set_option maxRecDepth 100000 in
theorem c_X7_goOn (hbf : byR bf) (ht : 0 ≤ tl ∧ tl ≤ 700) (hP : PR bf tl ts te tk nu er eo C) : qM l D (tyG cI cB cZ cS cJ) yX7_goOn cX7_goOn 1 (Option.none) 2 43 [.ref (g 0)] (mW g cI cB cZ th len tl ts te tk nu er eo hL hS dp bf dr td sa ad hi sl sv tr) (fun u : (Int) × (Int) × (Int) × (Int) => (PR bf tl ((u.1)) ((u.2.1)) ((u.2.2.1)) ((u.2.2.2)) er eo (goX bf tl C))) (fun _ => none) (fun u => (mW g cI cB cZ th len tl (u.1) (u.2.1) (u.2.2.1) (u.2.2.2) er eo hL hS dp bf dr td sa ad hi sl sv tr)) := by
  have q_e := hP.1
  have q_5 := hP.2.2.2.2
  have q_6 := hP.2.1
  refine qM_enterV (by decide) (Nat.le_of_ble_eq_true rfl) (fun p e R s m args below meth c Q ls A X hR hA hw hl hret => ?_)
  obtain ⟨hx, hb, hml, hown, hts, hK⟩ := X
  have hl : lv_has ls 1 [(0, .ref (g 0))] := hl
  suffices K : ∀ (H : Heap) (locs : List Loc), qw D A s.heap (mW g cI cB cZ th len tl ts te tk nu er eo hL hS dp bf dr td sa ad hi sl sv tr) H locs → W p l e R s m args below meth c H locs 0 0 Q (F0 m 0 ls []) from K s.heap [] hw
  clear hw
  intro H locs hw
  refine lv_aload_n hx hb dX7_goOn_0 rfl (lv_at hl 0 rfl) ?_
  refine q_get hx hb hts hown hK hw.1 ci_X7 0 rfl 8 (by decide) fl_X7_79 rfl dX7_goOn_1 ?_
  refine q_if_ne (tgt := 11) hx hb dX7_goOn_4 (by decide) (by omega) (fun c_4 => ?_) (fun c_4 => ?_)
  · exact hret (ts, te, tk, nu) H locs 11 ls (by first | (rw [show goX bf tl C = C from if_neg (by omega)]; exact hP) | (rw [show goX bf tl C = nxX bf tl C from if_pos (by omega)]; exact PR_nx hP (by omega) hu_1_0 hu_1_1 hu_1_2 hu_1_3 hu_1_4 hu_1_5)) hw dX7_goOn_11
  · refine lv_aload_n hx hb dX7_goOn_7 rfl (lv_at hl 0 rfl) ?_
    refine q_callM (As := []) (rest := []) (wr := []) hx hb hml hown hts hK (c_X7_nextToken (by first | omega | assumption) (by first | omega | assumption) (by first | omega | assumption) (by first | omega | assumption)) yi_X7_nextToken ml_X7_94 (by rw [hR]; decide) hw hA [0, 1, 2, 3, 4, 5, 6, 7, 8, 9] [] rfl rfl (by decide) (by decide) (by decide) 0 rfl rfl rfl rfl hl.1 (lv_room (Nat.le_of_ble_eq_true rfl)) dX7_goOn_8 ⟨by rw [hR]; exact Nat.zero_le _, by rw [hR]; exact Nat.zero_le _⟩ (fun u_8 H locs hu_8 hw => ?_)
    obtain ⟨ts2_1, te2_1, tk2_1, nu2_1⟩ := u_8
    obtain ⟨hu_1_0, hu_1_1, hu_1_2, hu_1_3, hu_1_4, hu_1_5⟩ : (ts2_1 = sk bf tl te) ∧ (te2_1 = tkE bf tl ts2_1) ∧ (tk2_1 = tkK bf tl ts2_1) ∧ (tk2_1 = 2 → nu2_1 = nv bf ts2_1 (te2_1 - ts2_1)) ∧ (rg nu2_1) ∧ (tk2_1 = 2 → 0 ≤ nu2_1 ∧ nu2_1 ≤ 9999) := hu_8
    have hw : qw D A s.heap (mW g cI cB cZ th len tl ts2_1 te2_1 tk2_1 nu2_1 er eo hL hS dp bf dr td sa ad hi sl sv tr) H locs := hw
    exact hret (ts2_1, te2_1, tk2_1, nu2_1) H locs 11 ls (by first | (rw [show goX bf tl C = C from if_neg (by omega)]; exact hP) | (rw [show goX bf tl C = nxX bf tl C from if_pos (by omega)]; exact PR_nx hP (by omega) hu_1_0 hu_1_1 hu_1_2 hu_1_3 hu_1_4 hu_1_5)) hw dX7_goOn_11

set_option maxHeartbeats 4000000 in
set_option maxRecDepth 100000 in
theorem c_X7_read (lo : Int) (hI : Int) (hbf : byR bf) (ht : 0 ≤ tl ∧ tl ≤ 700) (hP : PR bf tl ts te tk nu er eo C) (hlo : 0 ≤ lo ∧ lo ≤ hI ∧ hI ≤ 1000) : qM l D (tyG cI cB cZ cS cJ) yX7_read cX7_read 4 (Option.some FieldType.int) 3 63 [.ref (g 0), .int (iI lo), .int (iI hI)] (mW g cI cB cZ th len tl ts te tk nu er eo hL hS dp bf dr td sa ad hi sl sv tr) (fun u : (Int) × (Int) × (Int) × (Int) × (Int) × (Int) × (Int) => (PR bf tl ((u.1)) ((u.2.1)) ((u.2.2.1)) ((u.2.2.2.1)) ((u.2.2.2.2.1)) ((u.2.2.2.2.2.1)) (rdX bf tl lo hI C)) ∧ (rdX bf tl lo hI C 9 3 = 0 → ((u.2.2.2.2.2.2)) = nuV bf C) ∧ (lo ≤ ((u.2.2.2.2.2.2)) ∧ ((u.2.2.2.2.2.2)) ≤ hI)) (fun u => some (.int (iI (u.2.2.2.2.2.2)))) (fun u => (mW g cI cB cZ th len tl (u.1) (u.2.1) (u.2.2.1) (u.2.2.2.1) (u.2.2.2.2.1) (u.2.2.2.2.2.1) hL hS dp bf dr td sa ad hi sl sv tr)) := by
  have q_e := hP.1
  have q_5 := hP.2.2.2.2
  have q_6 := hP.2.1
  have q_7 := hP.2.2.2.1
  refine qM_enterI (val := fun u => iI (u.2.2.2.2.2.2)) (by decide) (Nat.le_of_ble_eq_true rfl) (fun u hu => ⟨rfl, nar_i _⟩) (fun p e R s m args below meth c Q ls A X hR hA hw hl hret => ?_)
  obtain ⟨hx, hb, hml, hown, hts, hK⟩ := X
  have hl : lv_has ls 4 [(0, .ref (g 0)), (1, .int (iI lo)), (2, .int (iI hI))] := hl
  suffices K : ∀ (H : Heap) (locs : List Loc), qw D A s.heap (mW g cI cB cZ th len tl ts te tk nu er eo hL hS dp bf dr td sa ad hi sl sv tr) H locs → W p l e R s m args below meth c H locs 0 0 Q (F0 m 0 ls []) from K s.heap [] hw
  clear hw
  intro H locs hw
  refine lv_aload_n hx hb dX7_read_0 rfl (lv_at hl 0 rfl) ?_
  refine lv_aload_n hx hb dX7_read_1 rfl (lv_at hl 0 rfl) ?_
  refine q_get hx hb hts hown hK hw.1 ci_X7 0 rfl 6 (by decide) fl_X7_69 rfl dX7_read_2 ?_
  refine q_iconst hx hb dX7_read_5 ?_
  refine q_icmp_ne (tgt := 13) hx hb dX7_read_6 (by decide) (by omega) (fun c_6 => ?_) (fun c_6 => ?_)
  · refine q_iconst hx hb dX7_read_13 ?_
    refine q_iconst hx hb dX7_read_14 ?_
    refine q_callM (As := [.int (iI 0), .int (iI 1)]) (rest := []) (wr := []) hx hb hml hown hts hK (c_X7_must (C := C) (0) (1) (by exact hP) (by first | omega | assumption) (by first | omega | assumption)) yi_X7_must ml_X7_97 (by rw [hR]; decide) hw hA [0, 1, 2, 3, 4, 5, 6, 7, 8, 9] [] rfl rfl (by decide) (by decide) (by decide) 0 rfl rfl rfl rfl hl.1 (lv_room (Nat.le_of_ble_eq_true rfl)) dX7_read_15 ⟨by rw [hR]; exact Nat.zero_le _, by rw [hR]; exact Nat.zero_le _⟩ (fun u_15 H locs hu_15 hw => ?_)
    obtain ⟨er2_1, eo2_1⟩ := u_15
    have hu_1_0 : PR bf tl ts te tk nu er2_1 eo2_1 (muX 0 1 ((C))) := hu_15
    have hw : qw D A s.heap (mW g cI cB cZ th len tl ts te tk nu er2_1 eo2_1 hL hS dp bf dr td sa ad hi sl sv tr) H locs := hw
    have b_1 := ()
    refine q_ifb_eq (tgt := 45) hx hb dX7_read_18 (by decide) (fun c_18 => ?_) (fun c_18 => ?_)
    · refine lv_iload_n hx hb dX7_read_45 rfl (lv_at hl 1 rfl) ?_
      refine lv_istore_n (lv' := [(3, .int (iI lo)), (0, .ref (g 0)), (1, .int (iI lo)), (2, .int (iI hI))]) hx hb dX7_read_46 rfl hl (by decide) rfl (fun ls hl => ?_)
      refine lv_aload_n hx hb dX7_read_47 rfl (lv_at hl 1 rfl) ?_
      refine q_callM (As := []) (rest := []) (wr := []) hx hb hml hown hts hK (c_X7_goOn (C := (muX (0) (1) C)) (by first | omega | assumption) (by first | omega | assumption) (by exact hu_1_0)) yi_X7_goOn ml_X7_101 (by rw [hR]; decide) hw hA [0, 1, 2, 3, 4, 5, 6, 7, 8, 9] [] rfl rfl (by decide) (by decide) (by decide) 0 rfl rfl rfl rfl hl.1 (lv_room (Nat.le_of_ble_eq_true rfl)) dX7_read_48 ⟨by rw [hR]; exact Nat.zero_le _, by rw [hR]; exact Nat.zero_le _⟩ (fun u_48 H locs hu_48 hw => ?_)
      obtain ⟨ts2_2, te2_2, tk2_2, nu2_2⟩ := u_48
      have hu_2_0 : PR bf tl ts2_2 te2_2 tk2_2 nu2_2 er2_1 eo2_1 (goX bf tl (((muX (0) (1) C)))) := hu_48
      have hw : qw D A s.heap (mW g cI cB cZ th len tl ts2_2 te2_2 tk2_2 nu2_2 er2_1 eo2_1 hL hS dp bf dr td sa ad hi sl sv tr) H locs := hw
      refine lv_iload_n hx hb dX7_read_51 rfl (lv_at hl 0 rfl) ?_
      exact hret (ts2_2, te2_2, tk2_2, nu2_2, er2_1, eo2_1, lo) H locs 52 ls ⟨(by first | exact (rd_1 hP (by omega) c_18).1 ▸ hu_2_0 | exact (rd_2 hP (by omega) c_18 c_35 rfl).1 ▸ hu_2_0 | exact (rd_3 hP (by omega) c_18 c_35 rfl).1 ▸ hu_2_0), (by first | exact fun q => absurd q (rd_1 hP (by omega) c_18).2 | exact fun q => absurd q (rd_2 hP (by omega) c_18 c_35 rfl).2 | exact fun _ => (rd_3 hP (by omega) c_18 c_35 rfl).2.1), (by dsimp only; first | exact (rd_3 (lo := lo) (hi := hI) hP (by omega) c_18 c_35 rfl).2.2 | exact ⟨Int.le_refl _, hlo.2.1⟩)⟩ hw dX7_read_52
    · refine lv_aload_n hx hb dX7_read_21 rfl (lv_at hl 0 rfl) ?_
      refine lv_aload_n hx hb dX7_read_22 rfl (lv_at hl 0 rfl) ?_
      refine q_get hx hb hts hown hK hw.1 ci_X7 0 rfl 7 (by decide) fl_X7_76 rfl dX7_read_23 ?_
      refine lv_iload_n hx hb dX7_read_26 rfl (lv_at hl 1 rfl) ?_
      refine lv_iload_n hx hb dX7_read_27 rfl (lv_at hl 2 rfl) ?_
      refine q_callPS (As := [.int (iI nu), .int (iI lo), .int (iI hI)]) (rest := [.ref (g 0)]) hx hb hml hown hts hK (c_X7_within (nu) (lo) (hI) (by first | omega | assumption) (by first | omega | assumption) (by first | omega | assumption)) yt_X7_within ml_X7_72 (by rw [hR]; decide) (show va_P D vwCl [] _ from fun k q h => by simp at h)  rfl rfl hl.1 (lv_room (Nat.le_of_ble_eq_true rfl)) dX7_read_28 ⟨by rw [hR]; exact Nat.zero_le _, by rw [hR]; exact Nat.zero_le _⟩ ?_
      refine q_iconst hx hb dX7_read_31 ?_
      refine q_callM (As := [.int (iI (bI (lo ≤ nu ∧ nu ≤ hI))), .int (iI 4)]) (rest := []) (wr := []) hx hb hml hown hts hK (c_X7_must (C := (muX (0) (1) C)) (bI (lo ≤ nu ∧ nu ≤ hI)) (4) (by exact hu_1_0) (by unfold bI; split <;> omega) (by first | omega | assumption)) yi_X7_must ml_X7_97 (by rw [hR]; decide) hw hA [0, 1, 2, 3, 4, 5, 6, 7, 8, 9] [] rfl rfl (by decide) (by decide) (by decide) 0 rfl rfl rfl rfl hl.1 (lv_room (Nat.le_of_ble_eq_true rfl)) dX7_read_32 ⟨by rw [hR]; exact Nat.zero_le _, by rw [hR]; exact Nat.zero_le _⟩ (fun u_32 H locs hu_32 hw => ?_)
      obtain ⟨er2_3, eo2_3⟩ := u_32
      have hu_3_0 : PR bf tl ts te tk nu er2_3 eo2_3 (muX (bI (lo ≤ nu ∧ nu ≤ hI)) 4 (((muX (0) (1) C)))) := hu_32
      have hw : qw D A s.heap (mW g cI cB cZ th len tl ts te tk nu er2_3 eo2_3 hL hS dp bf dr td sa ad hi sl sv tr) H locs := hw
      refine q_ifb_eq (tgt := 45) hx hb dX7_read_35 (by decide) (fun c_35 => ?_) (fun c_35 => ?_)
      · refine lv_iload_n hx hb dX7_read_45 rfl (lv_at hl 1 rfl) ?_
        refine lv_istore_n (lv' := [(3, .int (iI lo)), (0, .ref (g 0)), (1, .int (iI lo)), (2, .int (iI hI))]) hx hb dX7_read_46 rfl hl (by decide) rfl (fun ls hl => ?_)
        refine lv_aload_n hx hb dX7_read_47 rfl (lv_at hl 1 rfl) ?_
        refine q_callM (As := []) (rest := []) (wr := []) hx hb hml hown hts hK (c_X7_goOn (C := (muX ((bI (lo ≤ nu ∧ nu ≤ hI))) (4) (muX (0) (1) C))) (by first | omega | assumption) (by first | omega | assumption) (by exact hu_3_0)) yi_X7_goOn ml_X7_101 (by rw [hR]; decide) hw hA [0, 1, 2, 3, 4, 5, 6, 7, 8, 9] [] rfl rfl (by decide) (by decide) (by decide) 0 rfl rfl rfl rfl hl.1 (lv_room (Nat.le_of_ble_eq_true rfl)) dX7_read_48 ⟨by rw [hR]; exact Nat.zero_le _, by rw [hR]; exact Nat.zero_le _⟩ (fun u_48 H locs hu_48 hw => ?_)
        obtain ⟨ts2_4, te2_4, tk2_4, nu2_4⟩ := u_48
        have hu_4_0 : PR bf tl ts2_4 te2_4 tk2_4 nu2_4 er2_3 eo2_3 (goX bf tl (((muX ((bI (lo ≤ nu ∧ nu ≤ hI))) (4) (muX (0) (1) C))))) := hu_48
        have hw : qw D A s.heap (mW g cI cB cZ th len tl ts2_4 te2_4 tk2_4 nu2_4 er2_3 eo2_3 hL hS dp bf dr td sa ad hi sl sv tr) H locs := hw
        refine lv_iload_n hx hb dX7_read_51 rfl (lv_at hl 0 rfl) ?_
        exact hret (ts2_4, te2_4, tk2_4, nu2_4, er2_3, eo2_3, lo) H locs 52 ls ⟨(by first | exact (rd_1 hP (by omega) c_18).1 ▸ hu_4_0 | exact (rd_2 hP (by omega) c_18 c_35 rfl).1 ▸ hu_4_0 | exact (rd_3 hP (by omega) c_18 c_35 rfl).1 ▸ hu_4_0), (by first | exact fun q => absurd q (rd_1 hP (by omega) c_18).2 | exact fun q => absurd q (rd_2 hP (by omega) c_18 c_35 rfl).2 | exact fun _ => (rd_3 hP (by omega) c_18 c_35 rfl).2.1), (by dsimp only; first | exact (rd_3 (lo := lo) (hi := hI) hP (by omega) c_18 c_35 rfl).2.2 | exact ⟨Int.le_refl _, hlo.2.1⟩)⟩ hw dX7_read_52
      · refine lv_aload_n hx hb dX7_read_38 rfl (lv_at hl 0 rfl) ?_
        refine q_get hx hb hts hown hK hw.1 ci_X7 0 rfl 7 (by decide) fl_X7_76 rfl dX7_read_39 ?_
        refine lv_goto (tgt := 46) hx hb dX7_read_42 (by decide) ?_
        refine lv_istore_n (lv' := [(3, .int (iI nu)), (0, .ref (g 0)), (1, .int (iI lo)), (2, .int (iI hI))]) hx hb dX7_read_46 rfl hl (by decide) rfl (fun ls hl => ?_)
        refine lv_aload_n hx hb dX7_read_47 rfl (lv_at hl 1 rfl) ?_
        refine q_callM (As := []) (rest := []) (wr := []) hx hb hml hown hts hK (c_X7_goOn (C := (muX ((bI (lo ≤ nu ∧ nu ≤ hI))) (4) (muX (0) (1) C))) (by first | omega | assumption) (by first | omega | assumption) (by exact hu_3_0)) yi_X7_goOn ml_X7_101 (by rw [hR]; decide) hw hA [0, 1, 2, 3, 4, 5, 6, 7, 8, 9] [] rfl rfl (by decide) (by decide) (by decide) 0 rfl rfl rfl rfl hl.1 (lv_room (Nat.le_of_ble_eq_true rfl)) dX7_read_48 ⟨by rw [hR]; exact Nat.zero_le _, by rw [hR]; exact Nat.zero_le _⟩ (fun u_48 H locs hu_48 hw => ?_)
        obtain ⟨ts2_5, te2_5, tk2_5, nu2_5⟩ := u_48
        have hu_5_0 : PR bf tl ts2_5 te2_5 tk2_5 nu2_5 er2_3 eo2_3 (goX bf tl (((muX ((bI (lo ≤ nu ∧ nu ≤ hI))) (4) (muX (0) (1) C))))) := hu_48
        have hw : qw D A s.heap (mW g cI cB cZ th len tl ts2_5 te2_5 tk2_5 nu2_5 er2_3 eo2_3 hL hS dp bf dr td sa ad hi sl sv tr) H locs := hw
        refine lv_iload_n hx hb dX7_read_51 rfl (lv_at hl 0 rfl) ?_
        exact hret (ts2_5, te2_5, tk2_5, nu2_5, er2_3, eo2_3, nu) H locs 52 ls ⟨(by first | exact (rd_1 hP (by omega) c_18).1 ▸ hu_5_0 | exact (rd_2 hP (by omega) c_18 c_35 rfl).1 ▸ hu_5_0 | exact (rd_3 hP (by omega) c_18 c_35 rfl).1 ▸ hu_5_0), (by first | exact fun q => absurd q (rd_1 hP (by omega) c_18).2 | exact fun q => absurd q (rd_2 hP (by omega) c_18 c_35 rfl).2 | exact fun _ => (rd_3 hP (by omega) c_18 c_35 rfl).2.1), (by dsimp only; first | exact (rd_3 (lo := lo) (hi := hI) hP (by omega) c_18 c_35 rfl).2.2 | exact ⟨Int.le_refl _, hlo.2.1⟩)⟩ hw dX7_read_52
  · refine q_iconst hx hb dX7_read_9 ?_
    refine lv_goto (tgt := 14) hx hb dX7_read_10 (by decide) ?_
    refine q_iconst hx hb dX7_read_14 ?_
    refine q_callM (As := [.int (iI 1), .int (iI 1)]) (rest := []) (wr := []) hx hb hml hown hts hK (c_X7_must (C := C) (1) (1) (by exact hP) (by first | omega | assumption) (by first | omega | assumption)) yi_X7_must ml_X7_97 (by rw [hR]; decide) hw hA [0, 1, 2, 3, 4, 5, 6, 7, 8, 9] [] rfl rfl (by decide) (by decide) (by decide) 0 rfl rfl rfl rfl hl.1 (lv_room (Nat.le_of_ble_eq_true rfl)) dX7_read_15 ⟨by rw [hR]; exact Nat.zero_le _, by rw [hR]; exact Nat.zero_le _⟩ (fun u_15 H locs hu_15 hw => ?_)
    obtain ⟨er2_6, eo2_6⟩ := u_15
    have hu_6_0 : PR bf tl ts te tk nu er2_6 eo2_6 (muX 1 1 ((C))) := hu_15
    have hw : qw D A s.heap (mW g cI cB cZ th len tl ts te tk nu er2_6 eo2_6 hL hS dp bf dr td sa ad hi sl sv tr) H locs := hw
    have b_2 := ()
    refine q_ifb_eq (tgt := 45) hx hb dX7_read_18 (by decide) (fun c_18 => ?_) (fun c_18 => ?_)
    · refine lv_iload_n hx hb dX7_read_45 rfl (lv_at hl 1 rfl) ?_
      refine lv_istore_n (lv' := [(3, .int (iI lo)), (0, .ref (g 0)), (1, .int (iI lo)), (2, .int (iI hI))]) hx hb dX7_read_46 rfl hl (by decide) rfl (fun ls hl => ?_)
      refine lv_aload_n hx hb dX7_read_47 rfl (lv_at hl 1 rfl) ?_
      refine q_callM (As := []) (rest := []) (wr := []) hx hb hml hown hts hK (c_X7_goOn (C := (muX (1) (1) C)) (by first | omega | assumption) (by first | omega | assumption) (by exact hu_6_0)) yi_X7_goOn ml_X7_101 (by rw [hR]; decide) hw hA [0, 1, 2, 3, 4, 5, 6, 7, 8, 9] [] rfl rfl (by decide) (by decide) (by decide) 0 rfl rfl rfl rfl hl.1 (lv_room (Nat.le_of_ble_eq_true rfl)) dX7_read_48 ⟨by rw [hR]; exact Nat.zero_le _, by rw [hR]; exact Nat.zero_le _⟩ (fun u_48 H locs hu_48 hw => ?_)
      obtain ⟨ts2_7, te2_7, tk2_7, nu2_7⟩ := u_48
      have hu_7_0 : PR bf tl ts2_7 te2_7 tk2_7 nu2_7 er2_6 eo2_6 (goX bf tl (((muX (1) (1) C)))) := hu_48
      have hw : qw D A s.heap (mW g cI cB cZ th len tl ts2_7 te2_7 tk2_7 nu2_7 er2_6 eo2_6 hL hS dp bf dr td sa ad hi sl sv tr) H locs := hw
      refine lv_iload_n hx hb dX7_read_51 rfl (lv_at hl 0 rfl) ?_
      exact hret (ts2_7, te2_7, tk2_7, nu2_7, er2_6, eo2_6, lo) H locs 52 ls ⟨(by first | exact (rd_1 hP (by omega) c_18).1 ▸ hu_7_0 | exact (rd_2 hP (by omega) c_18 c_35 rfl).1 ▸ hu_7_0 | exact (rd_3 hP (by omega) c_18 c_35 rfl).1 ▸ hu_7_0), (by first | exact fun q => absurd q (rd_1 hP (by omega) c_18).2 | exact fun q => absurd q (rd_2 hP (by omega) c_18 c_35 rfl).2 | exact fun _ => (rd_3 hP (by omega) c_18 c_35 rfl).2.1), (by dsimp only; first | exact (rd_3 (lo := lo) (hi := hI) hP (by omega) c_18 c_35 rfl).2.2 | exact ⟨Int.le_refl _, hlo.2.1⟩)⟩ hw dX7_read_52
    · refine lv_aload_n hx hb dX7_read_21 rfl (lv_at hl 0 rfl) ?_
      refine lv_aload_n hx hb dX7_read_22 rfl (lv_at hl 0 rfl) ?_
      refine q_get hx hb hts hown hK hw.1 ci_X7 0 rfl 7 (by decide) fl_X7_76 rfl dX7_read_23 ?_
      refine lv_iload_n hx hb dX7_read_26 rfl (lv_at hl 1 rfl) ?_
      refine lv_iload_n hx hb dX7_read_27 rfl (lv_at hl 2 rfl) ?_
      refine q_callPS (As := [.int (iI nu), .int (iI lo), .int (iI hI)]) (rest := [.ref (g 0)]) hx hb hml hown hts hK (c_X7_within (nu) (lo) (hI) (by first | omega | assumption) (by first | omega | assumption) (by first | omega | assumption)) yt_X7_within ml_X7_72 (by rw [hR]; decide) (show va_P D vwCl [] _ from fun k q h => by simp at h)  rfl rfl hl.1 (lv_room (Nat.le_of_ble_eq_true rfl)) dX7_read_28 ⟨by rw [hR]; exact Nat.zero_le _, by rw [hR]; exact Nat.zero_le _⟩ ?_
      refine q_iconst hx hb dX7_read_31 ?_
      refine q_callM (As := [.int (iI (bI (lo ≤ nu ∧ nu ≤ hI))), .int (iI 4)]) (rest := []) (wr := []) hx hb hml hown hts hK (c_X7_must (C := (muX (1) (1) C)) (bI (lo ≤ nu ∧ nu ≤ hI)) (4) (by exact hu_6_0) (by unfold bI; split <;> omega) (by first | omega | assumption)) yi_X7_must ml_X7_97 (by rw [hR]; decide) hw hA [0, 1, 2, 3, 4, 5, 6, 7, 8, 9] [] rfl rfl (by decide) (by decide) (by decide) 0 rfl rfl rfl rfl hl.1 (lv_room (Nat.le_of_ble_eq_true rfl)) dX7_read_32 ⟨by rw [hR]; exact Nat.zero_le _, by rw [hR]; exact Nat.zero_le _⟩ (fun u_32 H locs hu_32 hw => ?_)
      obtain ⟨er2_8, eo2_8⟩ := u_32
      have hu_8_0 : PR bf tl ts te tk nu er2_8 eo2_8 (muX (bI (lo ≤ nu ∧ nu ≤ hI)) 4 (((muX (1) (1) C)))) := hu_32
      have hw : qw D A s.heap (mW g cI cB cZ th len tl ts te tk nu er2_8 eo2_8 hL hS dp bf dr td sa ad hi sl sv tr) H locs := hw
      refine q_ifb_eq (tgt := 45) hx hb dX7_read_35 (by decide) (fun c_35 => ?_) (fun c_35 => ?_)
      · refine lv_iload_n hx hb dX7_read_45 rfl (lv_at hl 1 rfl) ?_
        refine lv_istore_n (lv' := [(3, .int (iI lo)), (0, .ref (g 0)), (1, .int (iI lo)), (2, .int (iI hI))]) hx hb dX7_read_46 rfl hl (by decide) rfl (fun ls hl => ?_)
        refine lv_aload_n hx hb dX7_read_47 rfl (lv_at hl 1 rfl) ?_
        refine q_callM (As := []) (rest := []) (wr := []) hx hb hml hown hts hK (c_X7_goOn (C := (muX ((bI (lo ≤ nu ∧ nu ≤ hI))) (4) (muX (1) (1) C))) (by first | omega | assumption) (by first | omega | assumption) (by exact hu_8_0)) yi_X7_goOn ml_X7_101 (by rw [hR]; decide) hw hA [0, 1, 2, 3, 4, 5, 6, 7, 8, 9] [] rfl rfl (by decide) (by decide) (by decide) 0 rfl rfl rfl rfl hl.1 (lv_room (Nat.le_of_ble_eq_true rfl)) dX7_read_48 ⟨by rw [hR]; exact Nat.zero_le _, by rw [hR]; exact Nat.zero_le _⟩ (fun u_48 H locs hu_48 hw => ?_)
        obtain ⟨ts2_9, te2_9, tk2_9, nu2_9⟩ := u_48
        have hu_9_0 : PR bf tl ts2_9 te2_9 tk2_9 nu2_9 er2_8 eo2_8 (goX bf tl (((muX ((bI (lo ≤ nu ∧ nu ≤ hI))) (4) (muX (1) (1) C))))) := hu_48
        have hw : qw D A s.heap (mW g cI cB cZ th len tl ts2_9 te2_9 tk2_9 nu2_9 er2_8 eo2_8 hL hS dp bf dr td sa ad hi sl sv tr) H locs := hw
        refine lv_iload_n hx hb dX7_read_51 rfl (lv_at hl 0 rfl) ?_
        exact hret (ts2_9, te2_9, tk2_9, nu2_9, er2_8, eo2_8, lo) H locs 52 ls ⟨(by first | exact (rd_1 hP (by omega) c_18).1 ▸ hu_9_0 | exact (rd_2 hP (by omega) c_18 c_35 rfl).1 ▸ hu_9_0 | exact (rd_3 hP (by omega) c_18 c_35 rfl).1 ▸ hu_9_0), (by first | exact fun q => absurd q (rd_1 hP (by omega) c_18).2 | exact fun q => absurd q (rd_2 hP (by omega) c_18 c_35 rfl).2 | exact fun _ => (rd_3 hP (by omega) c_18 c_35 rfl).2.1), (by dsimp only; first | exact (rd_3 (lo := lo) (hi := hI) hP (by omega) c_18 c_35 rfl).2.2 | exact ⟨Int.le_refl _, hlo.2.1⟩)⟩ hw dX7_read_52
      · refine lv_aload_n hx hb dX7_read_38 rfl (lv_at hl 0 rfl) ?_
        refine q_get hx hb hts hown hK hw.1 ci_X7 0 rfl 7 (by decide) fl_X7_76 rfl dX7_read_39 ?_
        refine lv_goto (tgt := 46) hx hb dX7_read_42 (by decide) ?_
        refine lv_istore_n (lv' := [(3, .int (iI nu)), (0, .ref (g 0)), (1, .int (iI lo)), (2, .int (iI hI))]) hx hb dX7_read_46 rfl hl (by decide) rfl (fun ls hl => ?_)
        refine lv_aload_n hx hb dX7_read_47 rfl (lv_at hl 1 rfl) ?_
        refine q_callM (As := []) (rest := []) (wr := []) hx hb hml hown hts hK (c_X7_goOn (C := (muX ((bI (lo ≤ nu ∧ nu ≤ hI))) (4) (muX (1) (1) C))) (by first | omega | assumption) (by first | omega | assumption) (by exact hu_8_0)) yi_X7_goOn ml_X7_101 (by rw [hR]; decide) hw hA [0, 1, 2, 3, 4, 5, 6, 7, 8, 9] [] rfl rfl (by decide) (by decide) (by decide) 0 rfl rfl rfl rfl hl.1 (lv_room (Nat.le_of_ble_eq_true rfl)) dX7_read_48 ⟨by rw [hR]; exact Nat.zero_le _, by rw [hR]; exact Nat.zero_le _⟩ (fun u_48 H locs hu_48 hw => ?_)
        obtain ⟨ts2_10, te2_10, tk2_10, nu2_10⟩ := u_48
        have hu_10_0 : PR bf tl ts2_10 te2_10 tk2_10 nu2_10 er2_8 eo2_8 (goX bf tl (((muX ((bI (lo ≤ nu ∧ nu ≤ hI))) (4) (muX (1) (1) C))))) := hu_48
        have hw : qw D A s.heap (mW g cI cB cZ th len tl ts2_10 te2_10 tk2_10 nu2_10 er2_8 eo2_8 hL hS dp bf dr td sa ad hi sl sv tr) H locs := hw
        refine lv_iload_n hx hb dX7_read_51 rfl (lv_at hl 0 rfl) ?_
        exact hret (ts2_10, te2_10, tk2_10, nu2_10, er2_8, eo2_8, nu) H locs 52 ls ⟨(by first | exact (rd_1 hP (by omega) c_18).1 ▸ hu_10_0 | exact (rd_2 hP (by omega) c_18 c_35 rfl).1 ▸ hu_10_0 | exact (rd_3 hP (by omega) c_18 c_35 rfl).1 ▸ hu_10_0), (by first | exact fun q => absurd q (rd_1 hP (by omega) c_18).2 | exact fun q => absurd q (rd_2 hP (by omega) c_18 c_35 rfl).2 | exact fun _ => (rd_3 hP (by omega) c_18 c_35 rfl).2.1), (by dsimp only; first | exact (rd_3 (lo := lo) (hi := hI) hP (by omega) c_18 c_35 rfl).2.2 | exact ⟨Int.le_refl _, hlo.2.1⟩)⟩ hw dX7_read_52
