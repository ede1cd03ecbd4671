variable {l : Launch} {z : Nat → Nat} {T C : Nat → Int → Int} {J : Int → Int} {D : va_G} {cI cB cZ cS cJ : ClassId} {g : Nat → Nat} {th len tl ts te tk nu er eo hL hS dp : Int} {bf dr td sa ad hi sl sv tr : Int → Int}
theorem c_X7_isWord_c {i : Nat} (hbf : byR bf) (ht : 0 ≤ tl ∧ tl ≤ 700) (hlt : i < 7) (hP : PR bf tl ts te tk nu er eo C) : qPz l (ZZ z) D (tyG cI cB cZ cS cJ) yX7_isWord cX7_isWord 4 (Option.some FieldType.boolean) 4 85 [.ref (g 0), .ref (z (10 + i))] (mW g cI cB cZ th len tl ts te tk nu er eo hL hS dp bf dr td sa ad hi sl sv tr) (some (.int (iI (bI (wdX bf C i))))) := by
  have q := hP.2.2.2.2
  have q2 := hP.2.1
  have w := c_X7_isWord (l := l) (z := z) (D := D) (cI := cI) (cB := cB) (cZ := cZ) (cS := cS) (cJ := cJ) (g := g) (th := th) (len := len) (tl := tl) (ts := ts) (te := te) (tk := tk) (nu := nu) (er := er) (eo := eo) (hL := hL) (hS := hS) (dp := dp) (bf := bf) (dr := dr) (td := td) (sa := sa) (ad := ad) (hi := hi) (sl := sl) (sv := sv) (tr := tr) (i := i) hbf ht hlt (by omega)
  rw [bI_c (wd_PR (L := txL i) hP)] at w
  exact w

set_option maxHeartbeats 4000000 in
set_option maxRecDepth 100000 in
theorem c_X7_readGlue {sh : Int} (at8 : Int) (hbf : byR bf) (ht : 0 ≤ tl ∧ tl ≤ 700) (hP : PR bf tl ts te tk nu er eo C) (hat : at8 = 8 + 7 * sh ∧ 0 ≤ sh ∧ sh < 40) : qMz l (ZZ z) D (tyG cI cB cZ cS cJ) yX7_readGlue cX7_readGlue 2 (Option.none) 5 108 [.ref (g 0), .int (iI at8)] (mW g cI cB cZ th len tl ts te tk nu er eo hL hS dp bf dr td sa ad hi sl sv tr) (fun u : (Int) × (Int) × (Int) × (Int) × (Int) × (Int) × (Int → Int) => (PR bf tl ((u.1)) ((u.2.1)) ((u.2.2.1)) ((u.2.2.2.1)) ((u.2.2.2.2.1)) ((u.2.2.2.2.2.1)) (glX bf tl C)) ∧ (∃ v : Int, ((u.2.2.2.2.2.2)) = uI dr (at8 + 6) v ∧ (glX bf tl C 9 3 = 0 → v = glV bf tl C) ∧ -1 ≤ v ∧ v ≤ 400)) (fun _ => none) (fun u => (mW g cI cB cZ th len tl (u.1) (u.2.1) (u.2.2.1) (u.2.2.2.1) (u.2.2.2.2.1) (u.2.2.2.2.2.1) hL hS dp bf (u.2.2.2.2.2.2) td sa ad hi sl sv tr)) := by
  have q_e := hP.1
  have q_5 := hP.2.2.2.2
  refine qMz_enterV (by decide) (Nat.le_of_ble_eq_true rfl) (fun p e R s m args below meth c Q ls A X hR hA hw hZ hl hret => ?_)
  obtain ⟨hx, hb, hml, hown, hts, hK⟩ := X
  have hl : lv_has ls 2 [(0, .ref (g 0)), (1, .int (iI at8))] := hl
  suffices K : ∀ (H : Heap) (locs : List Loc), qw D A s.heap (mW g cI cB cZ th len tl ts te tk nu er eo hL hS dp bf dr td sa ad hi sl sv tr) H locs → W p l e R s m args below meth c H locs 0 0 Q (F0 m 0 ls []) from K s.heap [] hw
  clear hw
  intro H locs hw
  refine lv_aload_n hx hb dX7_readGlue_0 rfl (lv_at hl 0 rfl) ?_
  refine q_get hx hb hts hown hK hw.1 ci_X7 0 rfl 10 (by decide) fl_X7_13 rfl dX7_readGlue_1 ?_
  refine lv_iload_n hx hb dX7_readGlue_4 rfl (lv_at hl 1 rfl) ?_
  refine q_bipush hx hb dX7_readGlue_5 rfl ?_
  refine q_iadd hx hb dX7_readGlue_7 ?_
  refine q_iconst hx hb dX7_readGlue_8 ?_
  refine q_iast hx hb hK hw 2 0 rfl rfl (by omega) dX7_readGlue_9 (fun H locs hw => ?_)
  have hw : qw D A s.heap (mW g cI cB cZ th len tl ts te tk nu er eo hL hS dp bf (uI dr (at8 + 6) (-1)) td sa ad hi sl sv tr) H locs := hw
  obtain ⟨f_1, e_f_1⟩ : ∃ z, z = uI dr (at8 + 6) (-1) := ⟨_, rfl⟩
  have hw : qw D A s.heap (mW g cI cB cZ th len tl ts te tk nu er eo hL hS dp bf f_1 td sa ad hi sl sv tr) H locs := by rw [e_f_1]; exact hw
  refine lv_aload_n hx hb dX7_readGlue_10 rfl (lv_at hl 0 rfl) ?_
  refine va_ldcS hx hb hown (hZ.2.2.2.1 _ lt_X7_115) dX7_readGlue_11 ?_
  refine q_callPz (As := [.ref (z 16)]) (rest := []) (zz_ok z) hx hb hml hown hts hK (c_X7_isWord_c (C := C) (i := 6) (by first | omega | assumption) (by first | omega | assumption) (by first | omega | assumption) (by exact hP)) yi_X7_isWord ml_X7_117 (by rw [hR]; decide) hw.1 (z_M (zz_ok z) hZ hw hA [0, 1, 2, 3, 4, 5, 6, 7, 8, 9] rfl) 0 rfl rfl rfl rfl hl.1 (lv_room (Nat.le_of_ble_eq_true rfl)) dX7_readGlue_13 ⟨by rw [hR]; exact Nat.zero_le _, by rw [hR]; exact Nat.zero_le _⟩ ?_
  refine q_ifb_ne (tgt := 20) hx hb dX7_readGlue_16 (by decide) (fun c_16 => ?_) (fun c_16 => ?_)
  · refine lv_aload_n hx hb dX7_readGlue_20 rfl (lv_at hl 0 rfl) ?_
    refine q_callM (As := []) (rest := []) (wr := []) hx hb hml hown hts hK (c_X7_goOn (C := C) (by first | omega | assumption) (by first | omega | assumption) (by exact hP)) yi_X7_goOn ml_X7_101 (by rw [hR]; decide) hw hA [0, 1, 2, 3, 4, 5, 6, 7, 8, 9] [] rfl rfl (by decide) (by decide) (by decide) 0 rfl rfl rfl rfl hl.1 (lv_room (Nat.le_of_ble_eq_true rfl)) dX7_readGlue_21 ⟨by rw [hR]; exact Nat.zero_le _, by rw [hR]; exact Nat.zero_le _⟩ (fun u_21 H locs hu_21 hw => ?_)
    obtain ⟨ts2_1, te2_1, tk2_1, nu2_1⟩ := u_21
    have hu_1_0 : PR bf tl ts2_1 te2_1 tk2_1 nu2_1 er eo (goX bf tl ((C))) := hu_21
    have hw : qw D A s.heap (mW g cI cB cZ th len tl ts2_1 te2_1 tk2_1 nu2_1 er eo hL hS dp bf f_1 td sa ad hi sl sv tr) H locs := hw
    have b_1 := ()
    refine lv_aload_n hx hb dX7_readGlue_24 rfl (lv_at hl 0 rfl) ?_
    refine q_get hx hb hts hown hK hw.1 ci_X7 0 rfl 10 (by decide) fl_X7_13 rfl dX7_readGlue_25 ?_
    refine lv_iload_n hx hb dX7_readGlue_28 rfl (lv_at hl 1 rfl) ?_
    refine q_bipush hx hb dX7_readGlue_29 rfl ?_
    refine q_iadd hx hb dX7_readGlue_31 ?_
    refine lv_aload_n hx hb dX7_readGlue_32 rfl (lv_at hl 0 rfl) ?_
    refine q_iconst hx hb dX7_readGlue_33 ?_
    refine q_sipush hx hb dX7_readGlue_34 rfl ?_
    refine q_callM (As := [.int (iI 0), .int (iI 400)]) (rest := [.int (iI (at8 + 6)), .ref (g 2)]) (wr := []) hx hb hml hown hts hK (c_X7_read (C := (goX bf tl C)) (0) (400) (by first | omega | assumption) (by first | omega | assumption) (by exact hu_1_0) (by first | omega | assumption)) yi_X7_read ml_X7_111 (by rw [hR]; decide) hw hA [0, 1, 2, 3, 4, 5, 6, 7, 8, 9] [] rfl rfl (by decide) (by decide) (by decide) 0 rfl rfl rfl rfl hl.1 (lv_room (Nat.le_of_ble_eq_true rfl)) dX7_readGlue_37 ⟨by rw [hR]; exact Nat.zero_le _, by rw [hR]; exact Nat.zero_le _⟩ (fun u_37 H locs hu_37 hw => ?_)
    obtain ⟨ts2_2, te2_2, tk2_2, nu2_2, er2_2, eo2_2, r2_2⟩ := u_37
    obtain ⟨hu_2_0, hu_2_1, hu_2_2⟩ : (PR bf tl ts2_2 te2_2 tk2_2 nu2_2 er2_2 eo2_2 (rdX bf tl 0 400 (((goX bf tl C))))) ∧ (rdX bf tl 0 400 (((goX bf tl C))) 9 3 = 0 → r2_2 = nuV bf (((goX bf tl C)))) ∧ (0 ≤ r2_2 ∧ r2_2 ≤ 400) := hu_37
    have hw : qw D A s.heap (mW g cI cB cZ th len tl ts2_2 te2_2 tk2_2 nu2_2 er2_2 eo2_2 hL hS dp bf f_1 td sa ad hi sl sv tr) H locs := hw
    refine q_iast hx hb hK hw 2 0 rfl rfl (by omega) dX7_readGlue_40 (fun H locs hw => ?_)
    have hw : qw D A s.heap (mW g cI cB cZ th len tl ts2_2 te2_2 tk2_2 nu2_2 er2_2 eo2_2 hL hS dp bf (uI f_1 (at8 + 6) r2_2) td sa ad hi sl sv tr) H locs := hw
    obtain ⟨f_2, e_f_2⟩ : ∃ z, z = uI f_1 (at8 + 6) r2_2 := ⟨_, rfl⟩
    have hw : qw D A s.heap (mW g cI cB cZ th len tl ts2_2 te2_2 tk2_2 nu2_2 er2_2 eo2_2 hL hS dp bf f_2 td sa ad hi sl sv tr) H locs := by rw [e_f_2]; exact hw
    exact hret (ts2_2, te2_2, tk2_2, nu2_2, er2_2, eo2_2, f_2) H locs 41 ls ⟨(by (rw [gl_y c_16]; exact hu_2_0)), (by (rw [e_f_2, e_f_1, uI_uI]; exact ⟨_, rfl, glV_y c_16 hu_2_1, by have a := hu_2_2; omega, by have a := hu_2_2; omega⟩))⟩ hw dX7_readGlue_41
  · exact hret (ts, te, tk, nu, er, eo, f_1) H locs 19 ls ⟨(by (rw [gl_n c_16]; exact hP)), (by (rw [e_f_1]; exact ⟨_, rfl, fun _ => glV_n c_16, by decide, by decide⟩))⟩ hw dX7_readGlue_19
