variable {l : Launch} {T C : Nat → Int → Int} {J : Int → Int} {D : va_G} {cI cB cZ cS cJ : ClassId} {g : Nat → Nat} {th len tl ts te tk nu er eo hL hS dp : Int} {bf dr td sa ad hi sl sv tr : Int → Int}
set_option maxHeartbeats 4000000 in
set_option maxRecDepth 100000 in
theorem c_X7_simplexLine (hbf : byR bf) (ht : 0 ≤ tl ∧ tl ≤ 700) (hP : PR bf tl ts te tk nu er eo C) (hD : DR dr hL hS C) : qM l D (tyG cI cB cZ cS cJ) yX7_simplexLine cX7_simplexLine 1 (Option.none) 3 63 [.ref (g 0)] (mW g cI cB cZ th len tl ts te tk nu er eo hL hS dp bf dr td sa ad hi sl sv tr) (fun u : (Int) × (Int) × (Int) × (Int) × (Int) × (Int) × (Int → Int) × (Int) => (PR bf tl ((u.1)) ((u.2.1)) ((u.2.2.1)) ((u.2.2.2.1)) ((u.2.2.2.2.1)) ((u.2.2.2.2.2.1)) (simX bf tl C)) ∧ (DR ((u.2.2.2.2.2.2.1)) hL ((u.2.2.2.2.2.2.2)) (simX bf tl C))) (fun _ => none) (fun u => (mW g cI cB cZ th len tl (u.1) (u.2.1) (u.2.2.1) (u.2.2.2.1) (u.2.2.2.2.1) (u.2.2.2.2.2.1) hL (u.2.2.2.2.2.2.2) dp bf (u.2.2.2.2.2.2.1) td sa ad hi sl sv tr)) := by
  have q_e := hP.1
  have q_5 := hP.2.2.2.2
  have q_6 := hP.2.1
  have q_7 := hP.2.2.2.1
  have q_8 := hD.1
  have q_a : C 9 3 = 0 → hS = C 9 6 := fun z => (hD.2 z).2.2.2
  have q_b : C 9 3 = 0 → hL = C 9 5 := fun z => (hD.2 z).2.2.1
  refine qM_enterV (by decide) (Nat.le_of_ble_eq_true rfl) (fun p e R s m args below meth c Q ls A X hR hA hw hl hret => ?_)
  obtain ⟨hx, hb, hml, hown, hts, hK⟩ := X
  have hl : lv_has ls 1 [(0, .ref (g 0))] := hl
  suffices K : ∀ (H : Heap) (locs : List Loc), qw D A s.heap (mW g cI cB cZ th len tl ts te tk nu er eo hL hS dp bf dr td sa ad hi sl sv tr) H locs → W p l e R s m args below meth c H locs 0 0 Q (F0 m 0 ls []) from K s.heap [] hw
  clear hw
  intro H locs hw
  refine lv_aload_n hx hb dX7_simplexLine_0 rfl (lv_at hl 0 rfl) ?_
  refine lv_aload_n hx hb dX7_simplexLine_1 rfl (lv_at hl 0 rfl) ?_
  refine q_get hx hb hts hown hK hw.1 ci_X7 0 rfl 13 (by decide) fl_X7_108 rfl dX7_simplexLine_2 ?_
  refine q_if_ne (tgt := 12) hx hb dX7_simplexLine_5 (by decide) (by omega) (fun c_5 => ?_) (fun c_5 => ?_)
  · refine q_iconst hx hb dX7_simplexLine_12 ?_
    refine q_iconst hx hb dX7_simplexLine_13 ?_
    refine q_callM (As := [.int (iI 0), .int (iI 2)]) (rest := []) (wr := []) hx hb hml hown hts hK (c_X7_must (C := C) (0) (2) (by exact hP) (by first | omega | assumption) (by first | omega | assumption)) yi_X7_must ml_X7_97 (by rw [hR]; decide) hw hA [0, 1, 2, 3, 4, 5, 6, 7, 8, 9] [] rfl rfl (by decide) (by decide) (by decide) 0 rfl rfl rfl rfl hl.1 (lv_room (Nat.le_of_ble_eq_true rfl)) dX7_simplexLine_14 ⟨by rw [hR]; exact Nat.zero_le _, by rw [hR]; exact Nat.zero_le _⟩ (fun u_14 H locs hu_14 hw => ?_)
    obtain ⟨er2_1, eo2_1⟩ := u_14
    have hu_1_0 : PR bf tl ts te tk nu er2_1 eo2_1 (muX 0 2 ((C))) := hu_14
    have hw : qw D A s.heap (mW g cI cB cZ th len tl ts te tk nu er2_1 eo2_1 hL hS dp bf dr td sa ad hi sl sv tr) H locs := hw
    have b_1 := ()
    refine q_ifb_ne (tgt := 21) hx hb dX7_simplexLine_17 (by decide) (fun c_17 => ?_) (fun c_17 => ?_)
    · have q_c := (muX_3 (k := 2) (X := C) (by decide)).mp c_17
      have q_f := (hD.2 q_c.1).2.2
      refine lv_aload_n hx hb dX7_simplexLine_21 rfl (lv_at hl 0 rfl) ?_
      refine q_iconst hx hb dX7_simplexLine_22 ?_
      refine q_put hx hb hts hown hK hw ci_X7 0 rfl 13 (by decide) fl_X7_108 rfl (nar_z (by first | exact Or.inl rfl | exact Or.inr rfl | exact bI_r | omega)) rfl (Nat.le_of_ble_eq_true rfl) dX7_simplexLine_23 (fun H locs hw => ?_)
      have hw : qw D A s.heap (mW g cI cB cZ th len tl ts te tk nu er2_1 eo2_1 hL 1 dp bf dr td sa ad hi sl sv tr) H locs := hw
      refine lv_aload_n hx hb dX7_simplexLine_26 rfl (lv_at hl 0 rfl) ?_
      refine q_callM (As := []) (rest := []) (wr := []) hx hb hml hown hts hK (c_X7_goOn (C := (muX (0) (2) C)) (by first | omega | assumption) (by first | omega | assumption) (by exact hu_1_0)) yi_X7_goOn ml_X7_101 (by rw [hR]; decide) hw hA [0, 1, 2, 3, 4, 5, 6, 7, 8, 9] [] rfl rfl (by decide) (by decide) (by decide) 0 rfl rfl rfl rfl hl.1 (lv_room (Nat.le_of_ble_eq_true rfl)) dX7_simplexLine_27 ⟨by rw [hR]; exact Nat.zero_le _, by rw [hR]; exact Nat.zero_le _⟩ (fun u_27 H locs hu_27 hw => ?_)
      obtain ⟨ts2_2, te2_2, tk2_2, nu2_2⟩ := u_27
      have hu_2_0 : PR bf tl ts2_2 te2_2 tk2_2 nu2_2 er2_1 eo2_1 (goX bf tl (((muX (0) (2) C)))) := hu_27
      have hw : qw D A s.heap (mW g cI cB cZ th len tl ts2_2 te2_2 tk2_2 nu2_2 er2_1 eo2_1 hL 1 dp bf dr td sa ad hi sl sv tr) H locs := hw
      refine lv_aload_n hx hb dX7_simplexLine_30 rfl (lv_at hl 0 rfl) ?_
      refine q_get hx hb hts hown hK hw.1 ci_X7 0 rfl 10 (by decide) fl_X7_13 rfl dX7_simplexLine_31 ?_
      refine q_iconst hx hb dX7_simplexLine_34 ?_
      refine q_iconst hx hb dX7_simplexLine_35 ?_
      refine q_iast hx hb hK hw 2 0 rfl rfl (by omega) dX7_simplexLine_36 (fun H locs hw => ?_)
      have hw : qw D A s.heap (mW g cI cB cZ th len tl ts2_2 te2_2 tk2_2 nu2_2 er2_1 eo2_1 hL 1 dp bf (uI dr 3 0) td sa ad hi sl sv tr) H locs := hw
      obtain ⟨f_1, e_f_1⟩ : ∃ z, z = uI dr 3 0 := ⟨_, rfl⟩
      have hw : qw D A s.heap (mW g cI cB cZ th len tl ts2_2 te2_2 tk2_2 nu2_2 er2_1 eo2_1 hL 1 dp bf f_1 td sa ad hi sl sv tr) H locs := by rw [e_f_1]; exact hw
      exact hret (ts2_2, te2_2, tk2_2, nu2_2, er2_1, eo2_1, f_1, 1) H locs 37 ls ⟨(by (rw [show simX bf tl C = st (nxX bf tl (st C 9 (uI (C 9) 6 1))) 8 (uI (C 8) 3 0) from if_pos (by omega)]; exact PR_si hu_2_0 q_c)), (by (subst_vars; rw [show simX bf tl C = st (nxX bf tl (st C 9 (uI (C 9) 6 1))) 8 (uI (C 8) 3 0) from if_pos (by omega)]; exact DR_si hD q_c.1))⟩ hw dX7_simplexLine_37
    · have q_c : ¬ C 9 3 = 0 ∨ hS ≠ 0 := (Classical.em (C 9 3 = 0)).elim (fun z => Or.inr (fun y => c_17 ((muX_3 (k := 2) (X := C) (by decide)).mpr ⟨z, by omega⟩))) Or.inl
      exact hret (ts, te, tk, nu, er2_1, eo2_1, dr, hS) H locs 20 ls ⟨(by (rw [show simX bf tl C = faX 2 C from if_neg (by omega)]; exact PR_muf hu_1_0 (by omega))), (by (rw [show simX bf tl C = faX 2 C from if_neg (by omega)]; exact DR_fa hD (by decide)))⟩ hw dX7_simplexLine_20
  · refine q_iconst hx hb dX7_simplexLine_8 ?_
    refine lv_goto (tgt := 13) hx hb dX7_simplexLine_9 (by decide) ?_
    refine q_iconst hx hb dX7_simplexLine_13 ?_
    refine q_callM (As := [.int (iI 1), .int (iI 2)]) (rest := []) (wr := []) hx hb hml hown hts hK (c_X7_must (C := C) (1) (2) (by exact hP) (by first | omega | assumption) (by first | omega | assumption)) yi_X7_must ml_X7_97 (by rw [hR]; decide) hw hA [0, 1, 2, 3, 4, 5, 6, 7, 8, 9] [] rfl rfl (by decide) (by decide) (by decide) 0 rfl rfl rfl rfl hl.1 (lv_room (Nat.le_of_ble_eq_true rfl)) dX7_simplexLine_14 ⟨by rw [hR]; exact Nat.zero_le _, by rw [hR]; exact Nat.zero_le _⟩ (fun u_14 H locs hu_14 hw => ?_)
    obtain ⟨er2_3, eo2_3⟩ := u_14
    have hu_3_0 : PR bf tl ts te tk nu er2_3 eo2_3 (muX 1 2 ((C))) := hu_14
    have hw : qw D A s.heap (mW g cI cB cZ th len tl ts te tk nu er2_3 eo2_3 hL hS dp bf dr td sa ad hi sl sv tr) H locs := hw
    have b_2 := ()
    refine q_ifb_ne (tgt := 21) hx hb dX7_simplexLine_17 (by decide) (fun c_17 => ?_) (fun c_17 => ?_)
    · have q_c := (muX_3 (k := 2) (X := C) (by decide)).mp c_17
      have q_f := (hD.2 q_c.1).2.2
      refine lv_aload_n hx hb dX7_simplexLine_21 rfl (lv_at hl 0 rfl) ?_
      refine q_iconst hx hb dX7_simplexLine_22 ?_
      refine q_put hx hb hts hown hK hw ci_X7 0 rfl 13 (by decide) fl_X7_108 rfl (nar_z (by first | exact Or.inl rfl | exact Or.inr rfl | exact bI_r | omega)) rfl (Nat.le_of_ble_eq_true rfl) dX7_simplexLine_23 (fun H locs hw => ?_)
      have hw : qw D A s.heap (mW g cI cB cZ th len tl ts te tk nu er2_3 eo2_3 hL 1 dp bf dr td sa ad hi sl sv tr) H locs := hw
      refine lv_aload_n hx hb dX7_simplexLine_26 rfl (lv_at hl 0 rfl) ?_
      refine q_callM (As := []) (rest := []) (wr := []) hx hb hml hown hts hK (c_X7_goOn (C := (muX (1) (2) C)) (by first | omega | assumption) (by first | omega | assumption) (by exact hu_3_0)) yi_X7_goOn ml_X7_101 (by rw [hR]; decide) hw hA [0, 1, 2, 3, 4, 5, 6, 7, 8, 9] [] rfl rfl (by decide) (by decide) (by decide) 0 rfl rfl rfl rfl hl.1 (lv_room (Nat.le_of_ble_eq_true rfl)) dX7_simplexLine_27 ⟨by rw [hR]; exact Nat.zero_le _, by rw [hR]; exact Nat.zero_le _⟩ (fun u_27 H locs hu_27 hw => ?_)
      obtain ⟨ts2_4, te2_4, tk2_4, nu2_4⟩ := u_27
      have hu_4_0 : PR bf tl ts2_4 te2_4 tk2_4 nu2_4 er2_3 eo2_3 (goX bf tl (((muX (1) (2) C)))) := hu_27
      have hw : qw D A s.heap (mW g cI cB cZ th len tl ts2_4 te2_4 tk2_4 nu2_4 er2_3 eo2_3 hL 1 dp bf dr td sa ad hi sl sv tr) H locs := hw
      refine lv_aload_n hx hb dX7_simplexLine_30 rfl (lv_at hl 0 rfl) ?_
      refine q_get hx hb hts hown hK hw.1 ci_X7 0 rfl 10 (by decide) fl_X7_13 rfl dX7_simplexLine_31 ?_
      refine q_iconst hx hb dX7_simplexLine_34 ?_
      refine q_iconst hx hb dX7_simplexLine_35 ?_
      refine q_iast hx hb hK hw 2 0 rfl rfl (by omega) dX7_simplexLine_36 (fun H locs hw => ?_)
      have hw : qw D A s.heap (mW g cI cB cZ th len tl ts2_4 te2_4 tk2_4 nu2_4 er2_3 eo2_3 hL 1 dp bf (uI dr 3 0) td sa ad hi sl sv tr) H locs := hw
      obtain ⟨f_2, e_f_2⟩ : ∃ z, z = uI dr 3 0 := ⟨_, rfl⟩
      have hw : qw D A s.heap (mW g cI cB cZ th len tl ts2_4 te2_4 tk2_4 nu2_4 er2_3 eo2_3 hL 1 dp bf f_2 td sa ad hi sl sv tr) H locs := by rw [e_f_2]; exact hw
      exact hret (ts2_4, te2_4, tk2_4, nu2_4, er2_3, eo2_3, f_2, 1) H locs 37 ls ⟨(by (rw [show simX bf tl C = st (nxX bf tl (st C 9 (uI (C 9) 6 1))) 8 (uI (C 8) 3 0) from if_pos (by omega)]; exact PR_si hu_4_0 q_c)), (by (subst_vars; rw [show simX bf tl C = st (nxX bf tl (st C 9 (uI (C 9) 6 1))) 8 (uI (C 8) 3 0) from if_pos (by omega)]; exact DR_si hD q_c.1))⟩ hw dX7_simplexLine_37
    · have q_c : ¬ C 9 3 = 0 ∨ hS ≠ 0 := (Classical.em (C 9 3 = 0)).elim (fun z => Or.inr (fun y => c_17 ((muX_3 (k := 2) (X := C) (by decide)).mpr ⟨z, by omega⟩))) Or.inl
      exact hret (ts, te, tk, nu, er2_3, eo2_3, dr, hS) H locs 20 ls ⟨(by (rw [show simX bf tl C = faX 2 C from if_neg (by omega)]; exact PR_muf hu_3_0 (by omega))), (by (rw [show simX bf tl C = faX 2 C from if_neg (by omega)]; exact DR_fa hD (by decide)))⟩ hw dX7_simplexLine_20

set_option maxHeartbeats 4000000 in
set_option maxRecDepth 100000 in
theorem c_X7_limitsLine (hbf : byR bf) (ht : 0 ≤ tl ∧ tl ≤ 700) (hP : PR bf tl ts te tk nu er eo C) (hD : DR dr hL hS C) : qM l D (tyG cI cB cZ cS cJ) yX7_limitsLine cX7_limitsLine 2 (Option.none) 4 86 [.ref (g 0)] (mW g cI cB cZ th len tl ts te tk nu er eo hL hS dp bf dr td sa ad hi sl sv tr) (fun u : (Int) × (Int) × (Int) × (Int) × (Int) × (Int) × (Int → Int) × (Int) => (PR bf tl ((u.1)) ((u.2.1)) ((u.2.2.1)) ((u.2.2.2.1)) ((u.2.2.2.2.1)) ((u.2.2.2.2.2.1)) (limX bf tl C)) ∧ (DR ((u.2.2.2.2.2.2.1)) ((u.2.2.2.2.2.2.2)) hS (limX bf tl C))) (fun _ => none) (fun u => (mW g cI cB cZ th len tl (u.1) (u.2.1) (u.2.2.1) (u.2.2.2.1) (u.2.2.2.2.1) (u.2.2.2.2.2.1) (u.2.2.2.2.2.2.2) hS dp bf (u.2.2.2.2.2.2.1) td sa ad hi sl sv tr)) := by
  have q_e := hP.1
  have q_5 := hP.2.2.2.2
  have q_6 := hP.2.1
  have q_7 := hP.2.2.2.1
  have q_8 := hD.1
  have q_a : C 9 3 = 0 → hS = C 9 6 := fun z => (hD.2 z).2.2.2
  have q_b : C 9 3 = 0 → hL = C 9 5 := fun z => (hD.2 z).2.2.1
  refine qM_enterV (by decide) (Nat.le_of_ble_eq_true rfl) (fun p e R s m args below meth c Q ls A X hR hA hw hl hret => ?_)
  obtain ⟨hx, hb, hml, hown, hts, hK⟩ := X
  have hl : lv_has ls 2 [(0, .ref (g 0))] := hl
  suffices K : ∀ (H : Heap) (locs : List Loc), qw D A s.heap (mW g cI cB cZ th len tl ts te tk nu er eo hL hS dp bf dr td sa ad hi sl sv tr) H locs → W p l e R s m args below meth c H locs 0 0 Q (F0 m 0 ls []) from K s.heap [] hw
  clear hw
  intro H locs hw
  refine lv_aload_n hx hb dX7_limitsLine_0 rfl (lv_at hl 0 rfl) ?_
  refine lv_aload_n hx hb dX7_limitsLine_1 rfl (lv_at hl 0 rfl) ?_
  refine q_get hx hb hts hown hK hw.1 ci_X7 0 rfl 12 (by decide) fl_X7_104 rfl dX7_limitsLine_2 ?_
  refine q_if_ne (tgt := 12) hx hb dX7_limitsLine_5 (by decide) (by omega) (fun c_5 => ?_) (fun c_5 => ?_)
  · refine q_iconst hx hb dX7_limitsLine_12 ?_
    refine q_iconst hx hb dX7_limitsLine_13 ?_
    refine q_callM (As := [.int (iI 0), .int (iI 2)]) (rest := []) (wr := []) hx hb hml hown hts hK (c_X7_must (C := C) (0) (2) (by exact hP) (by first | omega | assumption) (by first | omega | assumption)) yi_X7_must ml_X7_97 (by rw [hR]; decide) hw hA [0, 1, 2, 3, 4, 5, 6, 7, 8, 9] [] rfl rfl (by decide) (by decide) (by decide) 0 rfl rfl rfl rfl hl.1 (lv_room (Nat.le_of_ble_eq_true rfl)) dX7_limitsLine_14 ⟨by rw [hR]; exact Nat.zero_le _, by rw [hR]; exact Nat.zero_le _⟩ (fun u_14 H locs hu_14 hw => ?_)
    obtain ⟨er2_1, eo2_1⟩ := u_14
    have hu_1_0 : PR bf tl ts te tk nu er2_1 eo2_1 (muX 0 2 ((C))) := hu_14
    have hw : qw D A s.heap (mW g cI cB cZ th len tl ts te tk nu er2_1 eo2_1 hL hS dp bf dr td sa ad hi sl sv tr) H locs := hw
    have b_1 := ()
    refine q_ifb_ne (tgt := 21) hx hb dX7_limitsLine_17 (by decide) (fun c_17 => ?_) (fun c_17 => ?_)
    · have q_c := (muX_3 (k := 2) (X := C) (by decide)).mp c_17
      have q_f := (hD.2 q_c.1).2.2
      refine lv_aload_n hx hb dX7_limitsLine_21 rfl (lv_at hl 0 rfl) ?_
      refine q_iconst hx hb dX7_limitsLine_22 ?_
      refine q_put hx hb hts hown hK hw ci_X7 0 rfl 12 (by decide) fl_X7_104 rfl (nar_z (by first | exact Or.inl rfl | exact Or.inr rfl | exact bI_r | omega)) rfl (Nat.le_of_ble_eq_true rfl) dX7_limitsLine_23 (fun H locs hw => ?_)
      have hw : qw D A s.heap (mW g cI cB cZ th len tl ts te tk nu er2_1 eo2_1 1 hS dp bf dr td sa ad hi sl sv tr) H locs := hw
      refine lv_aload_n hx hb dX7_limitsLine_26 rfl (lv_at hl 0 rfl) ?_
      refine q_callM (As := []) (rest := []) (wr := []) hx hb hml hown hts hK (c_X7_goOn (C := (muX (0) (2) C)) (by first | omega | assumption) (by first | omega | assumption) (by exact hu_1_0)) yi_X7_goOn ml_X7_101 (by rw [hR]; decide) hw hA [0, 1, 2, 3, 4, 5, 6, 7, 8, 9] [] rfl rfl (by decide) (by decide) (by decide) 0 rfl rfl rfl rfl hl.1 (lv_room (Nat.le_of_ble_eq_true rfl)) dX7_limitsLine_27 ⟨by rw [hR]; exact Nat.zero_le _, by rw [hR]; exact Nat.zero_le _⟩ (fun u_27 H locs hu_27 hw => ?_)
      obtain ⟨ts2_2, te2_2, tk2_2, nu2_2⟩ := u_27
      have hu_2_0 : PR bf tl ts2_2 te2_2 tk2_2 nu2_2 er2_1 eo2_1 (goX bf tl (((muX (0) (2) C)))) := hu_27
      have hw : qw D A s.heap (mW g cI cB cZ th len tl ts2_2 te2_2 tk2_2 nu2_2 er2_1 eo2_1 1 hS dp bf dr td sa ad hi sl sv tr) H locs := hw
      refine q_iconst hx hb dX7_limitsLine_30 ?_
      refine lv_istore_n (lv' := [(1, .int (iI 0)), (0, .ref (g 0))]) hx hb dX7_limitsLine_31 rfl hl (by decide) rfl (fun ls hl => ?_)
      have loop_32 : ∀ (fu : Nat) (x1 : Int) (x2 : Int) (x3 : Int) (x4 : Int) (x5 : Int) (x6 : Int) (y : Int → Int) (Ck : Nat → Int → Int) (k : Int) (H : Heap) (locs : List Loc) (ls : Array Slot), (4 - k).toNat = fu → (PR bf tl x1 x2 x3 x4 x5 x6 Ck) → (DR y 1 hS Ck) → (limR bf tl (4 - k).toNat k Ck = limX bf tl C) → (0 ≤ k ∧ k ≤ 4) → qw D A s.heap (mW g cI cB cZ th len tl x1 x2 x3 x4 x5 x6 1 hS dp bf y td sa ad hi sl sv tr) H locs → lv_has ls 2 [(0, .ref (g 0)), (1, .int (iI k))] → W p l e R s m args below meth c H locs 0 0 Q (F0 m 32 ls []) := by
        intro fu
        induction fu using Nat.strongRecOn with
        | ind fu ih =>
        intro x1 x2 x3 x4 x5 x6 y Ck k H locs ls hn_32 h_P h_D h_c h_k hw hl
        refine lv_iload_n hx hb dX7_limitsLine_32 rfl (lv_at hl 1 rfl) ?_
        refine q_iconst hx hb dX7_limitsLine_33 ?_
        refine q_icmp_ge (tgt := 63) hx hb dX7_limitsLine_34 (by decide) (by omega) (fun c_34 => ?_) (fun c_34 => ?_)
        · exact hret (x1, x2, x3, x4, x5, x6, y, 1) H locs 63 ls ⟨(by (rw [← h_c, show (4 - k).toNat = 0 by omega]; exact h_P)), (by (rw [← h_c, show (4 - k).toNat = 0 by omega]; exact h_D))⟩ hw dX7_limitsLine_63
        · refine lv_aload_n hx hb dX7_limitsLine_37 rfl (lv_at hl 0 rfl) ?_
          refine q_get hx hb hts hown hK hw.1 ci_X7 0 rfl 10 (by decide) fl_X7_13 rfl dX7_limitsLine_38 ?_
          refine q_iconst hx hb dX7_limitsLine_41 ?_
          refine lv_iload_n hx hb dX7_limitsLine_42 rfl (lv_at hl 1 rfl) ?_
          refine q_iadd hx hb dX7_limitsLine_43 ?_
          refine lv_aload_n hx hb dX7_limitsLine_44 rfl (lv_at hl 0 rfl) ?_
          refine lv_iload_n hx hb dX7_limitsLine_45 rfl (lv_at hl 1 rfl) ?_
          refine q_callPS (As := [.int (iI k)]) (rest := [.ref (g 0), .int (iI (4 + k)), .ref (g 2)]) hx hb hml hown hts hK (c_X7_lowest (k) (by first | omega | assumption)) yt_X7_lowest ml_X7_127 (by rw [hR]; decide) (show va_P D vwCl [] _ from fun k q h => by simp at h)  rfl rfl hl.1 (lv_room (Nat.le_of_ble_eq_true rfl)) dX7_limitsLine_46 ⟨by rw [hR]; exact Nat.zero_le _, by rw [hR]; exact Nat.zero_le _⟩ ?_
          refine lv_iload_n hx hb dX7_limitsLine_49 rfl (lv_at hl 1 rfl) ?_
          refine q_callPS (As := [.int (iI k)]) (rest := [.int (iI (if k = 0 then 101 else 0)), .ref (g 0), .int (iI (4 + k)), .ref (g 2)]) hx hb hml hown hts hK (c_X7_highest (k) (by first | omega | assumption)) yt_X7_highest ml_X7_130 (by rw [hR]; decide) (show va_P D vwCl [] _ from fun k q h => by simp at h)  rfl rfl hl.1 (lv_room (Nat.le_of_ble_eq_true rfl)) dX7_limitsLine_50 ⟨by rw [hR]; exact Nat.zero_le _, by rw [hR]; exact Nat.zero_le _⟩ ?_
          refine q_callM (As := [.int (iI (if k = 0 then 101 else 0)), .int (iI (if k = 0 then 300 else if k = 1 then 200 else if k = 2 then 99 else 1000))]) (rest := [.int (iI (4 + k)), .ref (g 2)]) (wr := []) hx hb hml hown hts hK (c_X7_read (C := Ck) ((if k = 0 then 101 else 0)) ((if k = 0 then 300 else if k = 1 then 200 else if k = 2 then 99 else 1000)) (by first | omega | assumption) (by first | omega | assumption) (by exact h_P) (by (repeat' split) <;> omega)) yi_X7_read ml_X7_111 (by rw [hR]; decide) hw hA [0, 1, 2, 3, 4, 5, 6, 7, 8, 9] [] rfl rfl (by decide) (by decide) (by decide) 0 rfl rfl rfl rfl hl.1 (lv_room (Nat.le_of_ble_eq_true rfl)) dX7_limitsLine_53 ⟨by rw [hR]; exact Nat.zero_le _, by rw [hR]; exact Nat.zero_le _⟩ (fun u_53 H locs hu_53 hw => ?_)
          obtain ⟨ts2_3, te2_3, tk2_3, nu2_3, er2_3, eo2_3, r2_3⟩ := u_53
          obtain ⟨hu_3_0, hu_3_1, hu_3_2⟩ : (PR bf tl ts2_3 te2_3 tk2_3 nu2_3 er2_3 eo2_3 (rdX bf tl ((if k = 0 then 101 else 0)) ((if k = 0 then 300 else if k = 1 then 200 else if k = 2 then 99 else 1000)) ((Ck)))) ∧ (rdX bf tl ((if k = 0 then 101 else 0)) ((if k = 0 then 300 else if k = 1 then 200 else if k = 2 then 99 else 1000)) ((Ck)) 9 3 = 0 → r2_3 = nuV bf ((Ck))) ∧ (((if k = 0 then 101 else 0)) ≤ r2_3 ∧ r2_3 ≤ ((if k = 0 then 300 else if k = 1 then 200 else if k = 2 then 99 else 1000))) := hu_53
          have hw : qw D A s.heap (mW g cI cB cZ th len tl ts2_3 te2_3 tk2_3 nu2_3 er2_3 eo2_3 1 hS dp bf y td sa ad hi sl sv tr) H locs := hw
          have b_2 := ()
          refine q_iast hx hb hK hw 2 0 rfl rfl (by omega) dX7_limitsLine_56 (fun H locs hw => ?_)
          have hw : qw D A s.heap (mW g cI cB cZ th len tl ts2_3 te2_3 tk2_3 nu2_3 er2_3 eo2_3 1 hS dp bf (uI y (4 + k) r2_3) td sa ad hi sl sv tr) H locs := hw
          obtain ⟨f_1, e_f_1⟩ : ∃ z, z = uI y (4 + k) r2_3 := ⟨_, rfl⟩
          have hw : qw D A s.heap (mW g cI cB cZ th len tl ts2_3 te2_3 tk2_3 nu2_3 er2_3 eo2_3 1 hS dp bf f_1 td sa ad hi sl sv tr) H locs := by rw [e_f_1]; exact hw
          have hu_F : rdX bf tl (loK k) (hiK k) Ck 9 3 = 0 → r2_3 = nuV bf Ck := by assumption
          refine lv_iinc (v := iI (k + 1)) (lv' := [(1, .int (iI (k + 1))), (0, .ref (g 0))]) hx hb dX7_limitsLine_57 hl (k := 1) rfl (iI_add _ _) (by decide) rfl (fun ls hl => ?_)
          refine lv_goto (tgt := 32) hx hb dX7_limitsLine_60 (by decide) ?_
          exact ih _ (by omega) (ts2_3) (te2_3) (tk2_3) (nu2_3) (er2_3) (eo2_3) (f_1) (liX bf tl k (loK k) (hiK k) Ck) (k + 1) H locs ls rfl (by exact PR_li hu_3_0) (by rw [e_f_1]; exact DR_li h_D (by omega) hu_F (by assumption) (by (refine ⟨?_, ?_, ?_, ?_⟩) <;> intro q <;> subst q <;> exact ⟨rfl, rfl⟩)) (by rw [← h_c]; exact (limR_s (by omega)).symm) (by first | omega | assumption | rfl) hw (lv_sub hl [1, 0] rfl)
      exact loop_32 _ (ts2_2) (te2_2) (tk2_2) (nu2_2) (er2_1) (eo2_1) (dr) (nxX bf tl (st C 9 (uI (C 9) 5 1))) (0) H locs ls rfl (by exact PR_l5 hu_2_0 q_c) (by exact DR_l5 hD q_c.1) (by exact (limX_y (by omega)).symm) (by first | omega | assumption | rfl) hw (lv_sub hl [1, 0] rfl)
    · have q_c : ¬ C 9 3 = 0 ∨ hL ≠ 0 := (Classical.em (C 9 3 = 0)).elim (fun z => Or.inr (fun y => c_17 ((muX_3 (k := 2) (X := C) (by decide)).mpr ⟨z, by omega⟩))) Or.inl
      exact hret (ts, te, tk, nu, er2_1, eo2_1, dr, hL) H locs 20 ls ⟨(by (rw [show limX bf tl C = faX 2 C from if_neg (by omega)]; exact PR_muf hu_1_0 (by omega))), (by (rw [show limX bf tl C = faX 2 C from if_neg (by omega)]; exact DR_fa hD (by decide)))⟩ hw dX7_limitsLine_20
  · refine q_iconst hx hb dX7_limitsLine_8 ?_
    refine lv_goto (tgt := 13) hx hb dX7_limitsLine_9 (by decide) ?_
    refine q_iconst hx hb dX7_limitsLine_13 ?_
    refine q_callM (As := [.int (iI 1), .int (iI 2)]) (rest := []) (wr := []) hx hb hml hown hts hK (c_X7_must (C := C) (1) (2) (by exact hP) (by first | omega | assumption) (by first | omega | assumption)) yi_X7_must ml_X7_97 (by rw [hR]; decide) hw hA [0, 1, 2, 3, 4, 5, 6, 7, 8, 9] [] rfl rfl (by decide) (by decide) (by decide) 0 rfl rfl rfl rfl hl.1 (lv_room (Nat.le_of_ble_eq_true rfl)) dX7_limitsLine_14 ⟨by rw [hR]; exact Nat.zero_le _, by rw [hR]; exact Nat.zero_le _⟩ (fun u_14 H locs hu_14 hw => ?_)
    obtain ⟨er2_4, eo2_4⟩ := u_14
    have hu_4_0 : PR bf tl ts te tk nu er2_4 eo2_4 (muX 1 2 ((C))) := hu_14
    have hw : qw D A s.heap (mW g cI cB cZ th len tl ts te tk nu er2_4 eo2_4 hL hS dp bf dr td sa ad hi sl sv tr) H locs := hw
    have b_3 := ()
    refine q_ifb_ne (tgt := 21) hx hb dX7_limitsLine_17 (by decide) (fun c_17 => ?_) (fun c_17 => ?_)
    · have q_c := (muX_3 (k := 2) (X := C) (by decide)).mp c_17
      have q_f := (hD.2 q_c.1).2.2
      refine lv_aload_n hx hb dX7_limitsLine_21 rfl (lv_at hl 0 rfl) ?_
      refine q_iconst hx hb dX7_limitsLine_22 ?_
      refine q_put hx hb hts hown hK hw ci_X7 0 rfl 12 (by decide) fl_X7_104 rfl (nar_z (by first | exact Or.inl rfl | exact Or.inr rfl | exact bI_r | omega)) rfl (Nat.le_of_ble_eq_true rfl) dX7_limitsLine_23 (fun H locs hw => ?_)
      have hw : qw D A s.heap (mW g cI cB cZ th len tl ts te tk nu er2_4 eo2_4 1 hS dp bf dr td sa ad hi sl sv tr) H locs := hw
      refine lv_aload_n hx hb dX7_limitsLine_26 rfl (lv_at hl 0 rfl) ?_
      refine q_callM (As := []) (rest := []) (wr := []) hx hb hml hown hts hK (c_X7_goOn (C := (muX (1) (2) C)) (by first | omega | assumption) (by first | omega | assumption) (by exact hu_4_0)) yi_X7_goOn ml_X7_101 (by rw [hR]; decide) hw hA [0, 1, 2, 3, 4, 5, 6, 7, 8, 9] [] rfl rfl (by decide) (by decide) (by decide) 0 rfl rfl rfl rfl hl.1 (lv_room (Nat.le_of_ble_eq_true rfl)) dX7_limitsLine_27 ⟨by rw [hR]; exact Nat.zero_le _, by rw [hR]; exact Nat.zero_le _⟩ (fun u_27 H locs hu_27 hw => ?_)
      obtain ⟨ts2_5, te2_5, tk2_5, nu2_5⟩ := u_27
      have hu_5_0 : PR bf tl ts2_5 te2_5 tk2_5 nu2_5 er2_4 eo2_4 (goX bf tl (((muX (1) (2) C)))) := hu_27
      have hw : qw D A s.heap (mW g cI cB cZ th len tl ts2_5 te2_5 tk2_5 nu2_5 er2_4 eo2_4 1 hS dp bf dr td sa ad hi sl sv tr) H locs := hw
      refine q_iconst hx hb dX7_limitsLine_30 ?_
      refine lv_istore_n (lv' := [(1, .int (iI 0)), (0, .ref (g 0))]) hx hb dX7_limitsLine_31 rfl hl (by decide) rfl (fun ls hl => ?_)
      have loop_32 : ∀ (fu : Nat) (x1 : Int) (x2 : Int) (x3 : Int) (x4 : Int) (x5 : Int) (x6 : Int) (y : Int → Int) (Ck : Nat → Int → Int) (k : Int) (H : Heap) (locs : List Loc) (ls : Array Slot), (4 - k).toNat = fu → (PR bf tl x1 x2 x3 x4 x5 x6 Ck) → (DR y 1 hS Ck) → (limR bf tl (4 - k).toNat k Ck = limX bf tl C) → (0 ≤ k ∧ k ≤ 4) → qw D A s.heap (mW g cI cB cZ th len tl x1 x2 x3 x4 x5 x6 1 hS dp bf y td sa ad hi sl sv tr) H locs → lv_has ls 2 [(0, .ref (g 0)), (1, .int (iI k))] → W p l e R s m args below meth c H locs 0 0 Q (F0 m 32 ls []) := by
        intro fu
        induction fu using Nat.strongRecOn with
        | ind fu ih =>
        intro x1 x2 x3 x4 x5 x6 y Ck k H locs ls hn_32 h_P h_D h_c h_k hw hl
        refine lv_iload_n hx hb dX7_limitsLine_32 rfl (lv_at hl 1 rfl) ?_
        refine q_iconst hx hb dX7_limitsLine_33 ?_
        refine q_icmp_ge (tgt := 63) hx hb dX7_limitsLine_34 (by decide) (by omega) (fun c_34 => ?_) (fun c_34 => ?_)
        · exact hret (x1, x2, x3, x4, x5, x6, y, 1) H locs 63 ls ⟨(by (rw [← h_c, show (4 - k).toNat = 0 by omega]; exact h_P)), (by (rw [← h_c, show (4 - k).toNat = 0 by omega]; exact h_D))⟩ hw dX7_limitsLine_63
        · refine lv_aload_n hx hb dX7_limitsLine_37 rfl (lv_at hl 0 rfl) ?_
          refine q_get hx hb hts hown hK hw.1 ci_X7 0 rfl 10 (by decide) fl_X7_13 rfl dX7_limitsLine_38 ?_
          refine q_iconst hx hb dX7_limitsLine_41 ?_
          refine lv_iload_n hx hb dX7_limitsLine_42 rfl (lv_at hl 1 rfl) ?_
          refine q_iadd hx hb dX7_limitsLine_43 ?_
          refine lv_aload_n hx hb dX7_limitsLine_44 rfl (lv_at hl 0 rfl) ?_
          refine lv_iload_n hx hb dX7_limitsLine_45 rfl (lv_at hl 1 rfl) ?_
          refine q_callPS (As := [.int (iI k)]) (rest := [.ref (g 0), .int (iI (4 + k)), .ref (g 2)]) hx hb hml hown hts hK (c_X7_lowest (k) (by first | omega | assumption)) yt_X7_lowest ml_X7_127 (by rw [hR]; decide) (show va_P D vwCl [] _ from fun k q h => by simp at h)  rfl rfl hl.1 (lv_room (Nat.le_of_ble_eq_true rfl)) dX7_limitsLine_46 ⟨by rw [hR]; exact Nat.zero_le _, by rw [hR]; exact Nat.zero_le _⟩ ?_
          refine lv_iload_n hx hb dX7_limitsLine_49 rfl (lv_at hl 1 rfl) ?_
          refine q_callPS (As := [.int (iI k)]) (rest := [.int (iI (if k = 0 then 101 else 0)), .ref (g 0), .int (iI (4 + k)), .ref (g 2)]) hx hb hml hown hts hK (c_X7_highest (k) (by first | omega | assumption)) yt_X7_highest ml_X7_130 (by rw [hR]; decide) (show va_P D vwCl [] _ from fun k q h => by simp at h)  rfl rfl hl.1 (lv_room (Nat.le_of_ble_eq_true rfl)) dX7_limitsLine_50 ⟨by rw [hR]; exact Nat.zero_le _, by rw [hR]; exact Nat.zero_le _⟩ ?_
          refine q_callM (As := [.int (iI (if k = 0 then 101 else 0)), .int (iI (if k = 0 then 300 else if k = 1 then 200 else if k = 2 then 99 else 1000))]) (rest := [.int (iI (4 + k)), .ref (g 2)]) (wr := []) hx hb hml hown hts hK (c_X7_read (C := Ck) ((if k = 0 then 101 else 0)) ((if k = 0 then 300 else if k = 1 then 200 else if k = 2 then 99 else 1000)) (by first | omega | assumption) (by first | omega | assumption) (by exact h_P) (by (repeat' split) <;> omega)) yi_X7_read ml_X7_111 (by rw [hR]; decide) hw hA [0, 1, 2, 3, 4, 5, 6, 7, 8, 9] [] rfl rfl (by decide) (by decide) (by decide) 0 rfl rfl rfl rfl hl.1 (lv_room (Nat.le_of_ble_eq_true rfl)) dX7_limitsLine_53 ⟨by rw [hR]; exact Nat.zero_le _, by rw [hR]; exact Nat.zero_le _⟩ (fun u_53 H locs hu_53 hw => ?_)
          obtain ⟨ts2_6, te2_6, tk2_6, nu2_6, er2_6, eo2_6, r2_6⟩ := u_53
          obtain ⟨hu_6_0, hu_6_1, hu_6_2⟩ : (PR bf tl ts2_6 te2_6 tk2_6 nu2_6 er2_6 eo2_6 (rdX bf tl ((if k = 0 then 101 else 0)) ((if k = 0 then 300 else if k = 1 then 200 else if k = 2 then 99 else 1000)) ((Ck)))) ∧ (rdX bf tl ((if k = 0 then 101 else 0)) ((if k = 0 then 300 else if k = 1 then 200 else if k = 2 then 99 else 1000)) ((Ck)) 9 3 = 0 → r2_6 = nuV bf ((Ck))) ∧ (((if k = 0 then 101 else 0)) ≤ r2_6 ∧ r2_6 ≤ ((if k = 0 then 300 else if k = 1 then 200 else if k = 2 then 99 else 1000))) := hu_53
          have hw : qw D A s.heap (mW g cI cB cZ th len tl ts2_6 te2_6 tk2_6 nu2_6 er2_6 eo2_6 1 hS dp bf y td sa ad hi sl sv tr) H locs := hw
          have b_4 := ()
          refine q_iast hx hb hK hw 2 0 rfl rfl (by omega) dX7_limitsLine_56 (fun H locs hw => ?_)
          have hw : qw D A s.heap (mW g cI cB cZ th len tl ts2_6 te2_6 tk2_6 nu2_6 er2_6 eo2_6 1 hS dp bf (uI y (4 + k) r2_6) td sa ad hi sl sv tr) H locs := hw
          obtain ⟨f_2, e_f_2⟩ : ∃ z, z = uI y (4 + k) r2_6 := ⟨_, rfl⟩
          have hw : qw D A s.heap (mW g cI cB cZ th len tl ts2_6 te2_6 tk2_6 nu2_6 er2_6 eo2_6 1 hS dp bf f_2 td sa ad hi sl sv tr) H locs := by rw [e_f_2]; exact hw
          have hu_F : rdX bf tl (loK k) (hiK k) Ck 9 3 = 0 → r2_6 = nuV bf Ck := by assumption
          refine lv_iinc (v := iI (k + 1)) (lv' := [(1, .int (iI (k + 1))), (0, .ref (g 0))]) hx hb dX7_limitsLine_57 hl (k := 1) rfl (iI_add _ _) (by decide) rfl (fun ls hl => ?_)
          refine lv_goto (tgt := 32) hx hb dX7_limitsLine_60 (by decide) ?_
          exact ih _ (by omega) (ts2_6) (te2_6) (tk2_6) (nu2_6) (er2_6) (eo2_6) (f_2) (liX bf tl k (loK k) (hiK k) Ck) (k + 1) H locs ls rfl (by exact PR_li hu_6_0) (by rw [e_f_2]; exact DR_li h_D (by omega) hu_F (by assumption) (by (refine ⟨?_, ?_, ?_, ?_⟩) <;> intro q <;> subst q <;> exact ⟨rfl, rfl⟩)) (by rw [← h_c]; exact (limR_s (by omega)).symm) (by first | omega | assumption | rfl) hw (lv_sub hl [1, 0] rfl)
      exact loop_32 _ (ts2_5) (te2_5) (tk2_5) (nu2_5) (er2_4) (eo2_4) (dr) (nxX bf tl (st C 9 (uI (C 9) 5 1))) (0) H locs ls rfl (by exact PR_l5 hu_5_0 q_c) (by exact DR_l5 hD q_c.1) (by exact (limX_y (by omega)).symm) (by first | omega | assumption | rfl) hw (lv_sub hl [1, 0] rfl)
    · have q_c : ¬ C 9 3 = 0 ∨ hL ≠ 0 := (Classical.em (C 9 3 = 0)).elim (fun z => Or.inr (fun y => c_17 ((muX_3 (k := 2) (X := C) (by decide)).mpr ⟨z, by omega⟩))) Or.inl
      exact hret (ts, te, tk, nu, er2_4, eo2_4, dr, hL) H locs 20 ls ⟨(by (rw [show limX bf tl C = faX 2 C from if_neg (by omega)]; exact PR_muf hu_4_0 (by omega))), (by (rw [show limX bf tl C = faX 2 C from if_neg (by omega)]; exact DR_fa hD (by decide)))⟩ hw dX7_limitsLine_20
