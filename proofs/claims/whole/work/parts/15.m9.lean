variable {l : Launch} {T C : Nat → Int → Int} {J : Int → Int} {D : va_G} {cI cB cZ cS cJ : ClassId} {g : Nat → Nat} {th len tl ts te tk nu er eo hL hS dp : Int} {bf dr td sa ad hi sl sv tr : Int → Int}
def trA (T C : Nat → Int → Int) (p k : Int) : Int := trV T k (T 8 0).toNat (trB C p)
theorem trB_top {C : Nat → Int → Int} {p : Int} : trB C p 11 0 = C 11 0 := by
  unfold trB; split <;> rfl
theorem trB_y {C : Nat → Int → Int} {p : Int} (h : ¬ 0 < C 11 2) : trB C p = st C 8 (uI (C 8) 0 p) := if_neg h
theorem trB_n {C : Nat → Int → Int} {p : Int} (h : 0 < C 11 2) : trB C p = rmC (st C 8 (uI (C 8) 0 p)) := if_pos h
theorem trB_cl {C : Nat → Int → Int} {p : Int} (h : FR C) (h2 : 0 ≤ C 11 2) : trB C p 11 1 = 0 ∧ trB C p 11 2 = 0 := by
  unfold trB
  split
  · exact ⟨rfl, rfl⟩
  · have q : C 11 2 = 0 := by omega
    exact ⟨h.mp q, q⟩
/-- the best so far of V -/
def bpI (V : Int → Int) (p b v : Int) : Prop := (p = 101 ∧ b = -1) ∨ (101 ≤ b ∧ b < p ∧ v = V b ∧ ∀ q : Int, 101 ≤ q → q < p → V b ≤ V q ∧ (q < b → V b < V q))
theorem bpI_n {V : Int → Int} {p b v w : Int} (h : bpI V p b v) (hp : 101 ≤ p) (hw : w = V p) (hc : b = -1 ∨ w < v) : bpI V (p + 1) p w := by
  refine Or.inr ⟨hp, by omega, hw, fun q a c => ?_⟩
  rcases h with h | ⟨h1, h2, h3, h4⟩
  · rw [show q = p by omega]; omega
  · by_cases e : q = p
    · rw [e]; omega
    · have z := h4 q a (by omega)
      omega
theorem bpI_o {V : Int → Int} {p b v : Int} (h : bpI V p b v) (hb : b ≠ -1) (hc : ¬ V p < v) : bpI V (p + 1) b v := by
  rcases h with h | ⟨h1, h2, h3, h4⟩
  · exact absurd h.2 hb
  · refine Or.inr ⟨h1, by omega, h3, fun q a c => ?_⟩
    by_cases e : q = p
    · rw [e]; omega
    · exact h4 q a (by omega)
theorem bpI_e {V : Int → Int} {b b' v v' : Int} (h : bpI V 301 b v) (h' : bpI V 301 b' v') : b = b' := by
  rcases h with h | ⟨h1, h2, h3, h4⟩
  · exact absurd h.1 (by decide)
  · rcases h' with h' | ⟨g1, g2, g3, g4⟩
    · exact absurd h'.1 (by decide)
    · have z1 := h4 b' g1 g2
      have z2 := g4 b h1 h2
      omega
def bpV (T C : Nat → Int → Int) (p : Int) : Int := trA T C p 1 + trA T C p 2

set_option maxHeartbeats 4000000 in
set_option maxRecDepth 100000 in
theorem c_X7_tries (pq : Int) (hM : WM td sa T C) (hfr : FR C) (hp : 101 ≤ pq ∧ pq ≤ 300) : qM l D (tyG cI cB cZ cS cJ) yX7_tries cX7_tries 4 (Option.none) 4 95 [.ref (g 0), .int (iI pq)] (mW g cI cB cZ th len tl ts te tk nu er eo hL hS dp bf dr td sa ad hi sl sv tr) (fun u : (Int → Int) × (Int → Int) × (Int → Int) => (WM td ((u.1)) T C) ∧ (∀ k : Int, 0 ≤ k → k < 5 → ((u.2.2)) k = trA T C pq k ∧ 0 ≤ ((u.2.2)) k ∧ ((u.2.2)) k ≤ 80)) (fun _ => none) (fun u => (mW g cI cB cZ th len tl ts te tk nu er eo hL hS dp bf dr td (u.1) (u.2.1) hi sl sv (u.2.2))) := by
  have hsc := hM.sc
  have hlm := hM.lm
  have hB : BB T C := hM.2.2.1.hB hM.1
  refine qM_enterV (by decide) (Nat.le_of_ble_eq_true rfl) (fun p e R s m args below meth c Q ls A X hR hA hw hl hret => ?_)
  obtain ⟨hx, hb, hml, hown, hts, hK⟩ := X
  have hl : lv_has ls 4 [(0, .ref (g 0)), (1, .int (iI pq))] := hl
  suffices K : ∀ (H : Heap) (locs : List Loc), qw D A s.heap (mW g cI cB cZ th len tl ts te tk nu er eo hL hS dp bf dr td sa ad hi sl sv tr) H locs → W p l e R s m args below meth c H locs 0 0 Q (F0 m 0 ls []) from K s.heap [] hw
  clear hw
  intro H locs hw
  refine q_iconst hx hb dX7_tries_0 ?_
  refine lv_istore_n (lv' := [(2, .int (iI 0)), (0, .ref (g 0)), (1, .int (iI pq))]) hx hb dX7_tries_1 rfl hl (by decide) rfl (fun ls hl => ?_)
  have loop_2 : ∀ (fu : Nat) (y : Int → Int) (i : Int) (H : Heap) (locs : List Loc) (ls : Array Slot), (5 - i).toNat = fu → (∀ k : Int, 0 ≤ k → k < i → y k = 0) → (0 ≤ i ∧ i ≤ 5) → qw D A s.heap (mW g cI cB cZ th len tl ts te tk nu er eo hL hS dp bf dr td sa ad hi sl sv y) H locs → lv_has ls 4 [(0, .ref (g 0)), (1, .int (iI pq)), (2, .int (iI i))] → W p l e R s m args below meth c H locs 0 0 Q (F0 m 2 ls []) := by
    intro fu
    induction fu using Nat.strongRecOn with
    | ind fu ih =>
    intro y i H locs ls hn_2 h_z h_i hw hl
    refine lv_iload_n hx hb dX7_tries_2 rfl (lv_at hl 2 rfl) ?_
    refine q_iconst hx hb dX7_tries_3 ?_
    refine q_icmp_ge (tgt := 20) hx hb dX7_tries_4 (by decide) (by omega) (fun c_4 => ?_) (fun c_4 => ?_)
    · refine lv_aload_n hx hb dX7_tries_20 rfl (lv_at hl 0 rfl) ?_
      refine q_get hx hb hts hown hK hw.1 ci_X7 0 rfl 14 (by decide) fl_X7_20 rfl dX7_tries_21 ?_
      refine q_iconst hx hb dX7_tries_24 ?_
      refine lv_aload_n hx hb dX7_tries_25 rfl (lv_at hl 0 rfl) ?_
      refine q_get hx hb hts hown hK hw.1 ci_X7 0 rfl 15 (by decide) fl_X7_23 rfl dX7_tries_26 ?_
      refine q_iconst hx hb dX7_tries_29 ?_
      refine q_callMS (As := [.ref (g 4), .int (iI 0), .ref (g 5), .int (iI 0)]) (rest := []) (wr := [((g 0), .inr (7, [.int (iI th), .ref (g 1), .int (iI len), .int (iI tl), .int (iI ts), .int (iI te), .int (iI tk), .int (iI nu), .int (iI er), .int (iI eo), .ref (g 2), .ref (g 3), .int (iI hL), .int (iI hS), .ref (g 4), .ref (g 5), .ref (g 6), .int (iI dp), .ref (g 7), .ref (g 8), .ref (g 9)])), ((g 1), .inl (cB, 700, .inl (ai bf))), ((g 2), .inl (cI, 288, .inl (ai dr))), ((g 3), .inl (cI, 288, .inl (ai td))), ((g 6), .inl (cI, 7060, .inl (ai hi))), ((g 7), .inl (cI, 1412, .inl (ai sl))), ((g 8), .inl (cZ, 2, .inl (ai sv))), ((g 9), .inl (cI, 5, .inl (ai y)))]) hx hb hml hown hts hK (c_X7_copy (0) (0) (by first | omega | assumption) (by first | omega | assumption)) yt_X7_copy ml_X7_176 (by rw [hR]; decide) hw hA [4, 5] [0, 1, 2, 3, 6, 7, 8, 9] rfl rfl (by decide) (by decide) (by decide)  rfl rfl hl.1 (lv_room (Nat.le_of_ble_eq_true rfl)) dX7_tries_30 ⟨by rw [hR]; exact Nat.zero_le _, by rw [hR]; exact Nat.zero_le _⟩ (fun u_30 H locs hu_30 hw => ?_)
      have hw : qw D A s.heap [((g 0), .inr (7, [.int (iI th), .ref (g 1), .int (iI len), .int (iI tl), .int (iI ts), .int (iI te), .int (iI tk), .int (iI nu), .int (iI er), .int (iI eo), .ref (g 2), .ref (g 3), .int (iI hL), .int (iI hS), .ref (g 4), .ref (g 5), .ref (g 6), .int (iI dp), .ref (g 7), .ref (g 8), .ref (g 9)])), ((g 1), .inl (cB, 700, .inl (ai bf))), ((g 2), .inl (cI, 288, .inl (ai dr))), ((g 3), .inl (cI, 288, .inl (ai td))), ((g 6), .inl (cI, 7060, .inl (ai hi))), ((g 7), .inl (cI, 1412, .inl (ai sl))), ((g 8), .inl (cZ, 2, .inl (ai sv))), ((g 9), .inl (cI, 5, .inl (ai y))), ((g 4), .inl (cI, 706, .inl (ai sa))), ((g 5), .inl (cI, 706, .inl (ai (cpk ad 0 sa 0 706))))] H locs := hw
      refine lv_aload_n hx hb dX7_tries_33 rfl (lv_at hl 0 rfl) ?_
      refine q_get hx hb hts hown hK hw.1 ci_X7 0 rfl 14 (by decide) fl_X7_20 rfl dX7_tries_34 ?_
      refine q_iconst hx hb dX7_tries_37 ?_
      refine lv_iload_n hx hb dX7_tries_38 rfl (lv_at hl 1 rfl) ?_
      refine q_iast hx hb hK hw 8 0 rfl rfl (by omega) dX7_tries_39 (fun H locs hw => ?_)
      have hw : qw D A s.heap [((g 0), .inr (7, [.int (iI th), .ref (g 1), .int (iI len), .int (iI tl), .int (iI ts), .int (iI te), .int (iI tk), .int (iI nu), .int (iI er), .int (iI eo), .ref (g 2), .ref (g 3), .int (iI hL), .int (iI hS), .ref (g 4), .ref (g 5), .ref (g 6), .int (iI dp), .ref (g 7), .ref (g 8), .ref (g 9)])), ((g 1), .inl (cB, 700, .inl (ai bf))), ((g 2), .inl (cI, 288, .inl (ai dr))), ((g 3), .inl (cI, 288, .inl (ai td))), ((g 6), .inl (cI, 7060, .inl (ai hi))), ((g 7), .inl (cI, 1412, .inl (ai sl))), ((g 8), .inl (cZ, 2, .inl (ai sv))), ((g 9), .inl (cI, 5, .inl (ai y))), ((g 4), .inl (cI, 706, .inl (ai (uI sa 1 pq)))), ((g 5), .inl (cI, 706, .inl (ai (cpk ad 0 sa 0 706))))] H locs := hw
      obtain ⟨f_1, e_f_1⟩ : ∃ z, z = uI sa 1 pq := ⟨_, rfl⟩
      have hw : qw D A s.heap [((g 0), .inr (7, [.int (iI th), .ref (g 1), .int (iI len), .int (iI tl), .int (iI ts), .int (iI te), .int (iI tk), .int (iI nu), .int (iI er), .int (iI eo), .ref (g 2), .ref (g 3), .int (iI hL), .int (iI hS), .ref (g 4), .ref (g 5), .ref (g 6), .int (iI dp), .ref (g 7), .ref (g 8), .ref (g 9)])), ((g 1), .inl (cB, 700, .inl (ai bf))), ((g 2), .inl (cI, 288, .inl (ai dr))), ((g 3), .inl (cI, 288, .inl (ai td))), ((g 6), .inl (cI, 7060, .inl (ai hi))), ((g 7), .inl (cI, 1412, .inl (ai sl))), ((g 8), .inl (cZ, 2, .inl (ai sv))), ((g 9), .inl (cI, 5, .inl (ai y))), ((g 4), .inl (cI, 706, .inl (ai f_1))), ((g 5), .inl (cI, 706, .inl (ai (cpk ad 0 sa 0 706))))] H locs := by rw [e_f_1]; exact hw
      have r_1 : RJ f_1 T (st C 8 (uI (C 8) 0 pq)) (shJ C) := by rw [e_f_1]; exact RJ_li 0 pq hM.2.2.2 hB (by decide) (by decide)
      refine lv_aload_n hx hb dX7_tries_40 rfl (lv_at hl 0 rfl) ?_
      refine q_get hx hb hts hown hK hw.1 ci_X7 0 rfl 14 (by decide) fl_X7_20 rfl dX7_tries_41 ?_
      refine q_iconst hx hb dX7_tries_44 ?_
      refine q_iald hx hb hK hw.1 8 0 rfl rfl (z := 5) (v := (C 11 2)) (by omega) (by exact r_1.s5) dX7_tries_45 ?_
      refine q_if_le (tgt := 54) hx hb dX7_tries_46 (by decide) (by omega) (fun c_46 => ?_) (fun c_46 => ?_)
      · have loop_54 : ∀ (fu : Nat) (x : Int → Int) (y : Int → Int) (Ck : Nat → Int → Int) (H : Heap) (locs : List Loc) (ls : Array Slot), (T 8 0 - Ck 11 0).toNat = fu → (WM td x T Ck) → (Ck 11 1 = 0 ∧ Ck 11 2 = 0) → (TR T y Ck (trB C pq)) → qw D A s.heap [((g 0), .inr (7, [.int (iI th), .ref (g 1), .int (iI len), .int (iI tl), .int (iI ts), .int (iI te), .int (iI tk), .int (iI nu), .int (iI er), .int (iI eo), .ref (g 2), .ref (g 3), .int (iI hL), .int (iI hS), .ref (g 4), .ref (g 5), .ref (g 6), .int (iI dp), .ref (g 7), .ref (g 8), .ref (g 9)])), ((g 1), .inl (cB, 700, .inl (ai bf))), ((g 2), .inl (cI, 288, .inl (ai dr))), ((g 3), .inl (cI, 288, .inl (ai td))), ((g 6), .inl (cI, 7060, .inl (ai hi))), ((g 7), .inl (cI, 1412, .inl (ai sl))), ((g 8), .inl (cZ, 2, .inl (ai sv))), ((g 9), .inl (cI, 5, .inl (ai y))), ((g 4), .inl (cI, 706, .inl (ai x))), ((g 5), .inl (cI, 706, .inl (ai (cpk ad 0 sa 0 706))))] H locs → lv_has ls 4 [(0, .ref (g 0)), (1, .int (iI pq))] → W p l e R s m args below meth c H locs 0 0 Q (F0 m 54 ls []) := by
          intro fu
          induction fu using Nat.strongRecOn with
          | ind fu ih =>
          intro x y Ck H locs ls hn_54 h_M h_1 h_T hw hl
          have hsk := h_M.sc
          refine lv_aload_n hx hb dX7_tries_54 rfl (lv_at hl 0 rfl) ?_
          refine q_get hx hb hts hown hK hw.1 ci_X7 0 rfl 14 (by decide) fl_X7_20 rfl dX7_tries_55 ?_
          refine q_bipush hx hb dX7_tries_58 rfl ?_
          refine q_iald hx hb hK hw.1 8 0 rfl rfl (z := 6) (v := (T 8 0 - Ck 11 0)) (by omega) (by exact h_M.2.2.2.s6) dX7_tries_60 ?_
          refine q_if_le (tgt := 180) hx hb dX7_tries_61 (by decide) (by omega) (fun c_61 => ?_) (fun c_61 => ?_)
          · refine lv_aload_n hx hb dX7_tries_180 rfl (lv_at hl 0 rfl) ?_
            refine q_get hx hb hts hown hK hw.1 ci_X7 0 rfl 15 (by decide) fl_X7_23 rfl dX7_tries_181 ?_
            refine q_iconst hx hb dX7_tries_184 ?_
            refine lv_aload_n hx hb dX7_tries_185 rfl (lv_at hl 0 rfl) ?_
            refine q_get hx hb hts hown hK hw.1 ci_X7 0 rfl 14 (by decide) fl_X7_20 rfl dX7_tries_186 ?_
            refine q_iconst hx hb dX7_tries_189 ?_
            refine q_callMS (As := [.ref (g 5), .int (iI 0), .ref (g 4), .int (iI 0)]) (rest := []) (wr := [((g 0), .inr (7, [.int (iI th), .ref (g 1), .int (iI len), .int (iI tl), .int (iI ts), .int (iI te), .int (iI tk), .int (iI nu), .int (iI er), .int (iI eo), .ref (g 2), .ref (g 3), .int (iI hL), .int (iI hS), .ref (g 4), .ref (g 5), .ref (g 6), .int (iI dp), .ref (g 7), .ref (g 8), .ref (g 9)])), ((g 1), .inl (cB, 700, .inl (ai bf))), ((g 2), .inl (cI, 288, .inl (ai dr))), ((g 3), .inl (cI, 288, .inl (ai td))), ((g 6), .inl (cI, 7060, .inl (ai hi))), ((g 7), .inl (cI, 1412, .inl (ai sl))), ((g 8), .inl (cZ, 2, .inl (ai sv))), ((g 9), .inl (cI, 5, .inl (ai y)))]) hx hb hml hown hts hK (c_X7_copy (0) (0) (by first | omega | assumption) (by first | omega | assumption)) yt_X7_copy ml_X7_176 (by rw [hR]; decide) hw hA [9, 8] [0, 1, 2, 3, 4, 5, 6, 7] rfl rfl (by decide) (by decide) (by decide)  rfl rfl hl.1 (lv_room (Nat.le_of_ble_eq_true rfl)) dX7_tries_190 ⟨by rw [hR]; exact Nat.zero_le _, by rw [hR]; exact Nat.zero_le _⟩ (fun u_190 H locs hu_190 hw => ?_)
            have hw : qw D A s.heap [((g 0), .inr (7, [.int (iI th), .ref (g 1), .int (iI len), .int (iI tl), .int (iI ts), .int (iI te), .int (iI tk), .int (iI nu), .int (iI er), .int (iI eo), .ref (g 2), .ref (g 3), .int (iI hL), .int (iI hS), .ref (g 4), .ref (g 5), .ref (g 6), .int (iI dp), .ref (g 7), .ref (g 8), .ref (g 9)])), ((g 1), .inl (cB, 700, .inl (ai bf))), ((g 2), .inl (cI, 288, .inl (ai dr))), ((g 3), .inl (cI, 288, .inl (ai td))), ((g 6), .inl (cI, 7060, .inl (ai hi))), ((g 7), .inl (cI, 1412, .inl (ai sl))), ((g 8), .inl (cZ, 2, .inl (ai sv))), ((g 9), .inl (cI, 5, .inl (ai y))), ((g 5), .inl (cI, 706, .inl (ai (cpk ad 0 sa 0 706)))), ((g 4), .inl (cI, 706, .inl (ai (cpk x 0 (cpk ad 0 sa 0 706) 0 706))))] H locs := hw
            exact hret (cpk x 0 (cpk ad 0 sa 0 706) 0 706, cpk ad 0 sa 0 706, y) H locs 193 ls ⟨(by exact WM_bk hM), (by (intro k a b; have z := TR_e h_T (by omega) a b; have z2 := h_T k a b; exact ⟨z, z2.1, Int.le_trans z2.2.1 (show 2 * Ck 11 0 ≤ 80 by omega)⟩))⟩ (hw.sub [0, 1, 2, 3, 9, 8, 4, 5, 6, 7] (by decide) rfl) dX7_tries_193
          · have h_s : Ck 11 0 < T 8 0 := by omega
            have h_k := h_M.pk h_s
            have h_n : 1 ≤ pkn T Ck := h_k.1
            have h_n2 : Ck 11 0 + pkn T Ck ≤ T 8 0 := h_k.2.1
            refine lv_aload_n hx hb dX7_tries_64 rfl (lv_at hl 0 rfl) ?_
            refine q_callP (As := []) (rest := []) hx hb hml hown hts hK (c_X7_pickMany (by exact h_M) (by first | omega | assumption)) yi_X7_pickMany ml_X7_210 (by rw [hR]; decide) (hw.1.sub [0, 1, 2, 3, 8, 9, 4, 5, 6, 7] rfl) 0 rfl rfl rfl rfl hl.1 (lv_room (Nat.le_of_ble_eq_true rfl)) dX7_tries_65 ⟨by rw [hR]; exact Nat.zero_le _, by rw [hR]; exact Nat.zero_le _⟩ ?_
            refine q_top (pkn T Ck) (by rfl) ?_
            refine lv_istore_n (lv' := [(2, .int (iI (pkn T Ck))), (0, .ref (g 0)), (1, .int (iI pq))]) hx hb dX7_tries_68 rfl hl (by decide) rfl (fun ls hl => ?_)
            refine lv_aload_n hx hb dX7_tries_69 rfl (lv_at hl 1 rfl) ?_
            refine q_callM (As := []) (rest := []) (wr := []) hx hb hml hown hts hK (c_X7_pick (C := Ck) (by exact h_M) (by exact h_s) (by exact h_1.1) (by exact h_1.2)) yi_X7_pick ml_X7_225 (by rw [hR]; decide) hw hA [0, 1, 2, 3, 8, 9, 4, 5, 6, 7] [] rfl rfl (by decide) (by decide) (by decide) 0 rfl rfl rfl rfl hl.1 (lv_room (Nat.le_of_ble_eq_true rfl)) dX7_tries_70 ⟨by rw [hR]; exact Nat.zero_le _, by rw [hR]; exact Nat.zero_le _⟩ (fun u_70 H locs hu_70 hw => ?_)
            obtain ⟨s2_3, rfl⟩ : ∃ z, z = u_70 := ⟨_, rfl⟩
            have hu_3_0 : WM td s2_3 T (pickC T ((Ck))) := hu_70
            have hw : qw D A s.heap (mW g cI cB cZ th len tl ts te tk nu er eo hL hS dp bf dr td s2_3 (cpk ad 0 sa 0 706) hi sl sv y) H locs := hw
            refine lv_istore_n (lv' := [(3, .int (iI (pickR T (Ck)))), (2, .int (iI (pkn T Ck))), (0, .ref (g 0)), (1, .int (iI pq))]) hx hb dX7_tries_73 rfl hl (by decide) rfl (fun ls hl => ?_)
            refine lv_iload_n hx hb dX7_tries_74 rfl (lv_at hl 0 rfl) ?_
            refine q_iconst hx hb dX7_tries_75 ?_
            have q_pr0 := pickR_bd T Ck
            refine q_icmp_ne (tgt := 148) hx hb dX7_tries_76 (by decide) (by omega) (fun c_76 => ?_) (fun c_76 => ?_)
            · have h_P : WM td s2_3 T (pickC T Ck) := by assumption
              have q_pr := pickR_bd T Ck
              have q_kr := pkr_bd T Ck
              have q_y0 : 0 ≤ y 0 ∧ y 0 ≤ 2 * Ck 11 0 := ⟨(h_T 0 (by decide) (by decide)).1, (h_T 0 (by decide) (by decide)).2.1⟩
              have q_y1 : 0 ≤ y 1 ∧ y 1 ≤ 2 * Ck 11 0 := ⟨(h_T 1 (by decide) (by decide)).1, (h_T 1 (by decide) (by decide)).2.1⟩
              have q_y2 : 0 ≤ y 2 ∧ y 2 ≤ 2 * Ck 11 0 := ⟨(h_T 2 (by decide) (by decide)).1, (h_T 2 (by decide) (by decide)).2.1⟩
              have q_y3 : 0 ≤ y 3 ∧ y 3 ≤ 2 * Ck 11 0 := ⟨(h_T 3 (by decide) (by decide)).1, (h_T 3 (by decide) (by decide)).2.1⟩
              have q_y4 : 0 ≤ y 4 ∧ y 4 ≤ 2 * Ck 11 0 := ⟨(h_T 4 (by decide) (by decide)).1, (h_T 4 (by decide) (by decide)).2.1⟩
              refine lv_aload_n hx hb dX7_tries_148 rfl (lv_at hl 2 rfl) ?_
              refine q_get hx hb hts hown hK hw.1 ci_X7 0 rfl 20 (by decide) fl_X7_36 rfl dX7_tries_149 ?_
              refine q_iconst hx hb dX7_tries_152 ?_
              refine lv_dup2_11 hx hb dX7_tries_153 rfl rfl ?_
              refine q_iald hx hb hK hw.1 9 0 rfl rfl (z := 2) (v := (y 2)) (by omega) rfl dX7_tries_154 ?_
              refine lv_iload_n hx hb dX7_tries_155 rfl (lv_at hl 1 rfl) ?_
              refine q_iconst hx hb dX7_tries_156 ?_
              refine q_icmp_le (tgt := 164) hx hb dX7_tries_157 (by decide) (by omega) (fun c_157 => ?_) (fun c_157 => ?_)
              · refine q_iconst hx hb dX7_tries_164 ?_
                refine q_iadd hx hb dX7_tries_165 ?_
                refine q_top (y 2) (Int.add_zero _) ?_
                refine q_iast hx hb hK hw 9 0 rfl rfl (by omega) dX7_tries_166 (fun H locs hw => ?_)
                have hw : qw D A s.heap (mW g cI cB cZ th len tl ts te tk nu er eo hL hS dp bf dr td s2_3 (cpk ad 0 sa 0 706) hi sl sv (uI y 2 (y 2))) H locs := hw
                obtain ⟨f_2, e_f_2⟩ : ∃ z, z = uI y 2 (y 2) := ⟨_, rfl⟩
                have hw : qw D A s.heap (mW g cI cB cZ th len tl ts te tk nu er eo hL hS dp bf dr td s2_3 (cpk ad 0 sa 0 706) hi sl sv f_2) H locs := by rw [e_f_2]; exact hw
                refine lv_aload_n hx hb dX7_tries_167 rfl (lv_at hl 2 rfl) ?_
                refine q_get hx hb hts hown hK hw.1 ci_X7 0 rfl 20 (by decide) fl_X7_36 rfl dX7_tries_168 ?_
                refine q_iconst hx hb dX7_tries_171 ?_
                refine lv_dup2_11 hx hb dX7_tries_172 rfl rfl ?_
                refine q_iald hx hb hK hw.1 9 0 rfl rfl (z := 3) (v := (y 3)) (by omega) (by rw [e_f_2, uI_n _ _ _ (by omega)]) dX7_tries_173 ?_
                refine lv_iload_n hx hb dX7_tries_174 rfl (lv_at hl 0 rfl) ?_
                refine q_iadd hx hb dX7_tries_175 ?_
                refine q_iast hx hb hK hw 9 0 rfl rfl (by omega) dX7_tries_176 (fun H locs hw => ?_)
                have hw : qw D A s.heap (mW g cI cB cZ th len tl ts te tk nu er eo hL hS dp bf dr td s2_3 (cpk ad 0 sa 0 706) hi sl sv (uI f_2 3 (y 3 + pickR T (Ck)))) H locs := hw
                obtain ⟨f_3, e_f_3⟩ : ∃ z, z = uI f_2 3 (y 3 + pickR T (Ck)) := ⟨_, rfl⟩
                have hw : qw D A s.heap (mW g cI cB cZ th len tl ts te tk nu er eo hL hS dp bf dr td s2_3 (cpk ad 0 sa 0 706) hi sl sv f_3) H locs := by rw [e_f_3]; exact hw
                refine lv_goto (tgt := 54) hx hb dX7_tries_177 (by decide) ?_
                exact ih _ (by first | (rw [show rmC (pickC T Ck) 11 0 = pickC T Ck 11 0 from rfl, pickC_top]; omega) | (rw [pickC_top]; omega)) (s2_3) (f_3) ((pickC T Ck)) H locs ls rfl (by assumption) (by first | exact ⟨rfl, rfl⟩ | (have z := pickC_go (T := T) (C := Ck) (by omega) h_1.1 h_1.2; exact ⟨z.2, z.1⟩)) (by rw [e_f_3, e_f_2]; first | exact TR_f h_T h_s h_n (by omega) (by unfold bI; (repeat' split) <;> omega) (by unfold bI; (repeat' split) <;> omega) (by omega) | exact TR_g h_T h_s h_n (by omega) (by unfold bI; (repeat' split) <;> omega) (by omega)) (hw.sub [0, 1, 2, 3, 6, 7, 8, 9, 4, 5] (by decide) rfl) (lv_sub hl [2, 3] rfl)
              · refine q_iconst hx hb dX7_tries_160 ?_
                refine lv_goto (tgt := 165) hx hb dX7_tries_161 (by decide) ?_
                refine q_iadd hx hb dX7_tries_165 ?_
                refine q_iast hx hb hK hw 9 0 rfl rfl (by omega) dX7_tries_166 (fun H locs hw => ?_)
                have hw : qw D A s.heap (mW g cI cB cZ th len tl ts te tk nu er eo hL hS dp bf dr td s2_3 (cpk ad 0 sa 0 706) hi sl sv (uI y 2 (y 2 + 1))) H locs := hw
                obtain ⟨f_4, e_f_4⟩ : ∃ z, z = uI y 2 (y 2 + 1) := ⟨_, rfl⟩
                have hw : qw D A s.heap (mW g cI cB cZ th len tl ts te tk nu er eo hL hS dp bf dr td s2_3 (cpk ad 0 sa 0 706) hi sl sv f_4) H locs := by rw [e_f_4]; exact hw
                refine lv_aload_n hx hb dX7_tries_167 rfl (lv_at hl 2 rfl) ?_
                refine q_get hx hb hts hown hK hw.1 ci_X7 0 rfl 20 (by decide) fl_X7_36 rfl dX7_tries_168 ?_
                refine q_iconst hx hb dX7_tries_171 ?_
                refine lv_dup2_11 hx hb dX7_tries_172 rfl rfl ?_
                refine q_iald hx hb hK hw.1 9 0 rfl rfl (z := 3) (v := (y 3)) (by omega) (by rw [e_f_4, uI_n _ _ _ (by omega)]) dX7_tries_173 ?_
                refine lv_iload_n hx hb dX7_tries_174 rfl (lv_at hl 0 rfl) ?_
                refine q_iadd hx hb dX7_tries_175 ?_
                refine q_iast hx hb hK hw 9 0 rfl rfl (by omega) dX7_tries_176 (fun H locs hw => ?_)
                have hw : qw D A s.heap (mW g cI cB cZ th len tl ts te tk nu er eo hL hS dp bf dr td s2_3 (cpk ad 0 sa 0 706) hi sl sv (uI f_4 3 (y 3 + pickR T (Ck)))) H locs := hw
                obtain ⟨f_5, e_f_5⟩ : ∃ z, z = uI f_4 3 (y 3 + pickR T (Ck)) := ⟨_, rfl⟩
                have hw : qw D A s.heap (mW g cI cB cZ th len tl ts te tk nu er eo hL hS dp bf dr td s2_3 (cpk ad 0 sa 0 706) hi sl sv f_5) H locs := by rw [e_f_5]; exact hw
                refine lv_goto (tgt := 54) hx hb dX7_tries_177 (by decide) ?_
                exact ih _ (by first | (rw [show rmC (pickC T Ck) 11 0 = pickC T Ck 11 0 from rfl, pickC_top]; omega) | (rw [pickC_top]; omega)) (s2_3) (f_5) ((pickC T Ck)) H locs ls rfl (by assumption) (by first | exact ⟨rfl, rfl⟩ | (have z := pickC_go (T := T) (C := Ck) (by omega) h_1.1 h_1.2; exact ⟨z.2, z.1⟩)) (by rw [e_f_5, e_f_4]; first | exact TR_f h_T h_s h_n (by omega) (by unfold bI; (repeat' split) <;> omega) (by unfold bI; (repeat' split) <;> omega) (by omega) | exact TR_g h_T h_s h_n (by omega) (by unfold bI; (repeat' split) <;> omega) (by omega)) (hw.sub [0, 1, 2, 3, 6, 7, 8, 9, 4, 5] (by decide) rfl) (lv_sub hl [2, 3] rfl)
            · have h_P : WM td s2_3 T (pickC T Ck) := by assumption
              have q_pr := pickR_bd T Ck
              have q_kr := pkr_bd T Ck
              have q_y0 : 0 ≤ y 0 ∧ y 0 ≤ 2 * Ck 11 0 := ⟨(h_T 0 (by decide) (by decide)).1, (h_T 0 (by decide) (by decide)).2.1⟩
              have q_y1 : 0 ≤ y 1 ∧ y 1 ≤ 2 * Ck 11 0 := ⟨(h_T 1 (by decide) (by decide)).1, (h_T 1 (by decide) (by decide)).2.1⟩
              have q_y2 : 0 ≤ y 2 ∧ y 2 ≤ 2 * Ck 11 0 := ⟨(h_T 2 (by decide) (by decide)).1, (h_T 2 (by decide) (by decide)).2.1⟩
              have q_y3 : 0 ≤ y 3 ∧ y 3 ≤ 2 * Ck 11 0 := ⟨(h_T 3 (by decide) (by decide)).1, (h_T 3 (by decide) (by decide)).2.1⟩
              have q_y4 : 0 ≤ y 4 ∧ y 4 ≤ 2 * Ck 11 0 := ⟨(h_T 4 (by decide) (by decide)).1, (h_T 4 (by decide) (by decide)).2.1⟩
              refine lv_aload_n hx hb dX7_tries_79 rfl (lv_at hl 2 rfl) ?_
              refine q_get hx hb hts hown hK hw.1 ci_X7 0 rfl 20 (by decide) fl_X7_36 rfl dX7_tries_80 ?_
              refine q_iconst hx hb dX7_tries_83 ?_
              refine lv_dup2_11 hx hb dX7_tries_84 rfl rfl ?_
              refine q_iald hx hb hK hw.1 9 0 rfl rfl (z := 0) (v := (y 0)) (by omega) rfl dX7_tries_85 ?_
              refine lv_aload_n hx hb dX7_tries_86 rfl (lv_at hl 2 rfl) ?_
              refine q_get hx hb hts hown hK hw.1 ci_X7 0 rfl 14 (by decide) fl_X7_20 rfl dX7_tries_87 ?_
              refine q_iconst hx hb dX7_tries_90 ?_
              refine q_iald hx hb hK hw.1 4 0 rfl rfl (z := 5) (v := (pkr T Ck)) (by omega) (by exact h_P.2.2.2.s5.trans (pickC_st (by omega)).1) dX7_tries_91 ?_
              refine q_iconst hx hb dX7_tries_92 ?_
              refine q_icmp_ne (tgt := 100) hx hb dX7_tries_93 (by decide) (by omega) (fun c_93 => ?_) (fun c_93 => ?_)
              · refine q_iconst hx hb dX7_tries_100 ?_
                refine q_iadd hx hb dX7_tries_101 ?_
                refine q_top (y 0) (Int.add_zero _) ?_
                refine q_iast hx hb hK hw 9 0 rfl rfl (by omega) dX7_tries_102 (fun H locs hw => ?_)
                have hw : qw D A s.heap (mW g cI cB cZ th len tl ts te tk nu er eo hL hS dp bf dr td s2_3 (cpk ad 0 sa 0 706) hi sl sv (uI y 0 (y 0))) H locs := hw
                obtain ⟨f_6, e_f_6⟩ : ∃ z, z = uI y 0 (y 0) := ⟨_, rfl⟩
                have hw : qw D A s.heap (mW g cI cB cZ th len tl ts te tk nu er eo hL hS dp bf dr td s2_3 (cpk ad 0 sa 0 706) hi sl sv f_6) H locs := by rw [e_f_6]; exact hw
                refine lv_aload_n hx hb dX7_tries_103 rfl (lv_at hl 2 rfl) ?_
                refine q_get hx hb hts hown hK hw.1 ci_X7 0 rfl 20 (by decide) fl_X7_36 rfl dX7_tries_104 ?_
                refine q_iconst hx hb dX7_tries_107 ?_
                refine lv_dup2_11 hx hb dX7_tries_108 rfl rfl ?_
                refine q_iald hx hb hK hw.1 9 0 rfl rfl (z := 1) (v := (y 1)) (by omega) (by rw [e_f_6, uI_n _ _ _ (by omega)]) dX7_tries_109 ?_
                refine lv_aload_n hx hb dX7_tries_110 rfl (lv_at hl 2 rfl) ?_
                refine q_get hx hb hts hown hK hw.1 ci_X7 0 rfl 14 (by decide) fl_X7_20 rfl dX7_tries_111 ?_
                refine q_iconst hx hb dX7_tries_114 ?_
                refine q_iald hx hb hK hw.1 4 0 rfl rfl (z := 5) (v := (pkr T Ck)) (by omega) (by exact h_P.2.2.2.s5.trans (pickC_st (by omega)).1) dX7_tries_115 ?_
                refine q_iconst hx hb dX7_tries_116 ?_
                refine q_icmp_ne (tgt := 129) hx hb dX7_tries_117 (by decide) (by omega) (fun c_117 => ?_) (fun c_117 => ?_)
                · refine q_iconst hx hb dX7_tries_129 ?_
                  refine q_iadd hx hb dX7_tries_130 ?_
                  refine q_top (y 1) (Int.add_zero _) ?_
                  refine q_iast hx hb hK hw 9 0 rfl rfl (by omega) dX7_tries_131 (fun H locs hw => ?_)
                  have hw : qw D A s.heap (mW g cI cB cZ th len tl ts te tk nu er eo hL hS dp bf dr td s2_3 (cpk ad 0 sa 0 706) hi sl sv (uI f_6 1 (y 1))) H locs := hw
                  obtain ⟨f_7, e_f_7⟩ : ∃ z, z = uI f_6 1 (y 1) := ⟨_, rfl⟩
                  have hw : qw D A s.heap (mW g cI cB cZ th len tl ts te tk nu er eo hL hS dp bf dr td s2_3 (cpk ad 0 sa 0 706) hi sl sv f_7) H locs := by rw [e_f_7]; exact hw
                  refine lv_aload_n hx hb dX7_tries_132 rfl (lv_at hl 2 rfl) ?_
                  refine q_get hx hb hts hown hK hw.1 ci_X7 0 rfl 20 (by decide) fl_X7_36 rfl dX7_tries_133 ?_
                  refine q_iconst hx hb dX7_tries_136 ?_
                  refine lv_dup2_11 hx hb dX7_tries_137 rfl rfl ?_
                  refine q_iald hx hb hK hw.1 9 0 rfl rfl (z := 4) (v := (y 4)) (by omega) (by rw [e_f_7, uI_n _ _ _ (by omega), e_f_6, uI_n _ _ _ (by omega)]) dX7_tries_138 ?_
                  refine lv_aload_n hx hb dX7_tries_139 rfl (lv_at hl 2 rfl) ?_
                  refine q_callM (As := []) (rest := [.int (iI (y 4)), .int (iI 4), .ref (g 9)]) (wr := []) hx hb hml hown hts hK (c_X7_removes (C := (pickC T Ck)) (by exact h_P)) yi_X7_removes ml_X7_228 (by rw [hR]; decide) hw hA [0, 1, 2, 3, 4, 5, 6, 7, 8, 9] [] rfl rfl (by decide) (by decide) (by decide) 0 rfl rfl rfl rfl hl.1 (lv_room (Nat.le_of_ble_eq_true rfl)) dX7_tries_140 ⟨by rw [hR]; exact Nat.zero_le _, by rw [hR]; exact Nat.zero_le _⟩ (fun u_140 H locs hu_140 hw => ?_)
                  obtain ⟨s2_4, rfl⟩ : ∃ z, z = u_140 := ⟨_, rfl⟩
                  have hu_4_0 : WM td s2_4 T (rmC (((pickC T Ck)))) := hu_140
                  have hw : qw D A s.heap (mW g cI cB cZ th len tl ts te tk nu er eo hL hS dp bf dr td s2_4 (cpk ad 0 sa 0 706) hi sl sv f_7) H locs := hw
                  refine q_top (pkn T Ck) (by exact (pickC_st (by omega)).2) ?_
                  refine q_iadd hx hb dX7_tries_143 ?_
                  refine q_iast hx hb hK hw 9 0 rfl rfl (by omega) dX7_tries_144 (fun H locs hw => ?_)
                  have hw : qw D A s.heap (mW g cI cB cZ th len tl ts te tk nu er eo hL hS dp bf dr td s2_4 (cpk ad 0 sa 0 706) hi sl sv (uI f_7 4 (y 4 + pkn T Ck))) H locs := hw
                  obtain ⟨f_8, e_f_8⟩ : ∃ z, z = uI f_7 4 (y 4 + pkn T Ck) := ⟨_, rfl⟩
                  have hw : qw D A s.heap (mW g cI cB cZ th len tl ts te tk nu er eo hL hS dp bf dr td s2_4 (cpk ad 0 sa 0 706) hi sl sv f_8) H locs := by rw [e_f_8]; exact hw
                  refine lv_goto (tgt := 177) hx hb dX7_tries_145 (by decide) ?_
                  refine lv_goto (tgt := 54) hx hb dX7_tries_177 (by decide) ?_
                  exact ih _ (by first | (rw [show rmC (pickC T Ck) 11 0 = pickC T Ck 11 0 from rfl, pickC_top]; omega) | (rw [pickC_top]; omega)) (s2_4) (f_8) ((rmC (pickC T Ck))) H locs ls rfl (by assumption) (by first | exact ⟨rfl, rfl⟩ | (have z := pickC_go (T := T) (C := Ck) (by omega) h_1.1 h_1.2; exact ⟨z.2, z.1⟩)) (by rw [e_f_8, e_f_7, e_f_6]; first | exact TR_f h_T h_s h_n (by omega) (by unfold bI; (repeat' split) <;> omega) (by unfold bI; (repeat' split) <;> omega) (by omega) | exact TR_g h_T h_s h_n (by omega) (by unfold bI; (repeat' split) <;> omega) (by omega)) (hw.sub [0, 1, 2, 3, 6, 7, 8, 9, 4, 5] (by decide) rfl) (lv_sub hl [2, 3] rfl)
                · refine lv_iload_n hx hb dX7_tries_120 rfl (lv_at hl 1 rfl) ?_
                  refine q_iconst hx hb dX7_tries_121 ?_
                  refine q_icmp_ne (tgt := 129) hx hb dX7_tries_122 (by decide) (by omega) (fun c_122 => ?_) (fun c_122 => ?_)
                  · refine q_iconst hx hb dX7_tries_129 ?_
                    refine q_iadd hx hb dX7_tries_130 ?_
                    refine q_top (y 1) (Int.add_zero _) ?_
                    refine q_iast hx hb hK hw 9 0 rfl rfl (by omega) dX7_tries_131 (fun H locs hw => ?_)
                    have hw : qw D A s.heap (mW g cI cB cZ th len tl ts te tk nu er eo hL hS dp bf dr td s2_3 (cpk ad 0 sa 0 706) hi sl sv (uI f_6 1 (y 1))) H locs := hw
                    obtain ⟨f_9, e_f_9⟩ : ∃ z, z = uI f_6 1 (y 1) := ⟨_, rfl⟩
                    have hw : qw D A s.heap (mW g cI cB cZ th len tl ts te tk nu er eo hL hS dp bf dr td s2_3 (cpk ad 0 sa 0 706) hi sl sv f_9) H locs := by rw [e_f_9]; exact hw
                    refine lv_aload_n hx hb dX7_tries_132 rfl (lv_at hl 2 rfl) ?_
                    refine q_get hx hb hts hown hK hw.1 ci_X7 0 rfl 20 (by decide) fl_X7_36 rfl dX7_tries_133 ?_
                    refine q_iconst hx hb dX7_tries_136 ?_
                    refine lv_dup2_11 hx hb dX7_tries_137 rfl rfl ?_
                    refine q_iald hx hb hK hw.1 9 0 rfl rfl (z := 4) (v := (y 4)) (by omega) (by rw [e_f_9, uI_n _ _ _ (by omega), e_f_6, uI_n _ _ _ (by omega)]) dX7_tries_138 ?_
                    refine lv_aload_n hx hb dX7_tries_139 rfl (lv_at hl 2 rfl) ?_
                    refine q_callM (As := []) (rest := [.int (iI (y 4)), .int (iI 4), .ref (g 9)]) (wr := []) hx hb hml hown hts hK (c_X7_removes (C := (pickC T Ck)) (by exact h_P)) yi_X7_removes ml_X7_228 (by rw [hR]; decide) hw hA [0, 1, 2, 3, 4, 5, 6, 7, 8, 9] [] rfl rfl (by decide) (by decide) (by decide) 0 rfl rfl rfl rfl hl.1 (lv_room (Nat.le_of_ble_eq_true rfl)) dX7_tries_140 ⟨by rw [hR]; exact Nat.zero_le _, by rw [hR]; exact Nat.zero_le _⟩ (fun u_140 H locs hu_140 hw => ?_)
                    obtain ⟨s2_5, rfl⟩ : ∃ z, z = u_140 := ⟨_, rfl⟩
                    have hu_5_0 : WM td s2_5 T (rmC (((pickC T Ck)))) := hu_140
                    have hw : qw D A s.heap (mW g cI cB cZ th len tl ts te tk nu er eo hL hS dp bf dr td s2_5 (cpk ad 0 sa 0 706) hi sl sv f_9) H locs := hw
                    refine q_top (pkn T Ck) (by exact (pickC_st (by omega)).2) ?_
                    refine q_iadd hx hb dX7_tries_143 ?_
                    refine q_iast hx hb hK hw 9 0 rfl rfl (by omega) dX7_tries_144 (fun H locs hw => ?_)
                    have hw : qw D A s.heap (mW g cI cB cZ th len tl ts te tk nu er eo hL hS dp bf dr td s2_5 (cpk ad 0 sa 0 706) hi sl sv (uI f_9 4 (y 4 + pkn T Ck))) H locs := hw
                    obtain ⟨f_10, e_f_10⟩ : ∃ z, z = uI f_9 4 (y 4 + pkn T Ck) := ⟨_, rfl⟩
                    have hw : qw D A s.heap (mW g cI cB cZ th len tl ts te tk nu er eo hL hS dp bf dr td s2_5 (cpk ad 0 sa 0 706) hi sl sv f_10) H locs := by rw [e_f_10]; exact hw
                    refine lv_goto (tgt := 177) hx hb dX7_tries_145 (by decide) ?_
                    refine lv_goto (tgt := 54) hx hb dX7_tries_177 (by decide) ?_
                    exact ih _ (by first | (rw [show rmC (pickC T Ck) 11 0 = pickC T Ck 11 0 from rfl, pickC_top]; omega) | (rw [pickC_top]; omega)) (s2_5) (f_10) ((rmC (pickC T Ck))) H locs ls rfl (by assumption) (by first | exact ⟨rfl, rfl⟩ | (have z := pickC_go (T := T) (C := Ck) (by omega) h_1.1 h_1.2; exact ⟨z.2, z.1⟩)) (by rw [e_f_10, e_f_9, e_f_6]; first | exact TR_f h_T h_s h_n (by omega) (by unfold bI; (repeat' split) <;> omega) (by unfold bI; (repeat' split) <;> omega) (by omega) | exact TR_g h_T h_s h_n (by omega) (by unfold bI; (repeat' split) <;> omega) (by omega)) (hw.sub [0, 1, 2, 3, 6, 7, 8, 9, 4, 5] (by decide) rfl) (lv_sub hl [2, 3] rfl)
                  · refine q_iconst hx hb dX7_tries_125 ?_
                    refine lv_goto (tgt := 130) hx hb dX7_tries_126 (by decide) ?_
                    refine q_iadd hx hb dX7_tries_130 ?_
                    refine q_iast hx hb hK hw 9 0 rfl rfl (by omega) dX7_tries_131 (fun H locs hw => ?_)
                    have hw : qw D A s.heap (mW g cI cB cZ th len tl ts te tk nu er eo hL hS dp bf dr td s2_3 (cpk ad 0 sa 0 706) hi sl sv (uI f_6 1 (y 1 + 1))) H locs := hw
                    obtain ⟨f_11, e_f_11⟩ : ∃ z, z = uI f_6 1 (y 1 + 1) := ⟨_, rfl⟩
                    have hw : qw D A s.heap (mW g cI cB cZ th len tl ts te tk nu er eo hL hS dp bf dr td s2_3 (cpk ad 0 sa 0 706) hi sl sv f_11) H locs := by rw [e_f_11]; exact hw
                    refine lv_aload_n hx hb dX7_tries_132 rfl (lv_at hl 2 rfl) ?_
                    refine q_get hx hb hts hown hK hw.1 ci_X7 0 rfl 20 (by decide) fl_X7_36 rfl dX7_tries_133 ?_
                    refine q_iconst hx hb dX7_tries_136 ?_
                    refine lv_dup2_11 hx hb dX7_tries_137 rfl rfl ?_
                    refine q_iald hx hb hK hw.1 9 0 rfl rfl (z := 4) (v := (y 4)) (by omega) (by rw [e_f_11, uI_n _ _ _ (by omega), e_f_6, uI_n _ _ _ (by omega)]) dX7_tries_138 ?_
                    refine lv_aload_n hx hb dX7_tries_139 rfl (lv_at hl 2 rfl) ?_
                    refine q_callM (As := []) (rest := [.int (iI (y 4)), .int (iI 4), .ref (g 9)]) (wr := []) hx hb hml hown hts hK (c_X7_removes (C := (pickC T Ck)) (by exact h_P)) yi_X7_removes ml_X7_228 (by rw [hR]; decide) hw hA [0, 1, 2, 3, 4, 5, 6, 7, 8, 9] [] rfl rfl (by decide) (by decide) (by decide) 0 rfl rfl rfl rfl hl.1 (lv_room (Nat.le_of_ble_eq_true rfl)) dX7_tries_140 ⟨by rw [hR]; exact Nat.zero_le _, by rw [hR]; exact Nat.zero_le _⟩ (fun u_140 H locs hu_140 hw => ?_)
                    obtain ⟨s2_6, rfl⟩ : ∃ z, z = u_140 := ⟨_, rfl⟩
                    have hu_6_0 : WM td s2_6 T (rmC (((pickC T Ck)))) := hu_140
                    have hw : qw D A s.heap (mW g cI cB cZ th len tl ts te tk nu er eo hL hS dp bf dr td s2_6 (cpk ad 0 sa 0 706) hi sl sv f_11) H locs := hw
                    refine q_top (pkn T Ck) (by exact (pickC_st (by omega)).2) ?_
                    refine q_iadd hx hb dX7_tries_143 ?_
                    refine q_iast hx hb hK hw 9 0 rfl rfl (by omega) dX7_tries_144 (fun H locs hw => ?_)
                    have hw : qw D A s.heap (mW g cI cB cZ th len tl ts te tk nu er eo hL hS dp bf dr td s2_6 (cpk ad 0 sa 0 706) hi sl sv (uI f_11 4 (y 4 + pkn T Ck))) H locs := hw
                    obtain ⟨f_12, e_f_12⟩ : ∃ z, z = uI f_11 4 (y 4 + pkn T Ck) := ⟨_, rfl⟩
                    have hw : qw D A s.heap (mW g cI cB cZ th len tl ts te tk nu er eo hL hS dp bf dr td s2_6 (cpk ad 0 sa 0 706) hi sl sv f_12) H locs := by rw [e_f_12]; exact hw
                    refine lv_goto (tgt := 177) hx hb dX7_tries_145 (by decide) ?_
                    refine lv_goto (tgt := 54) hx hb dX7_tries_177 (by decide) ?_
                    exact ih _ (by first | (rw [show rmC (pickC T Ck) 11 0 = pickC T Ck 11 0 from rfl, pickC_top]; omega) | (rw [pickC_top]; omega)) (s2_6) (f_12) ((rmC (pickC T Ck))) H locs ls rfl (by assumption) (by first | exact ⟨rfl, rfl⟩ | (have z := pickC_go (T := T) (C := Ck) (by omega) h_1.1 h_1.2; exact ⟨z.2, z.1⟩)) (by rw [e_f_12, e_f_11, e_f_6]; first | exact TR_f h_T h_s h_n (by omega) (by unfold bI; (repeat' split) <;> omega) (by unfold bI; (repeat' split) <;> omega) (by omega) | exact TR_g h_T h_s h_n (by omega) (by unfold bI; (repeat' split) <;> omega) (by omega)) (hw.sub [0, 1, 2, 3, 6, 7, 8, 9, 4, 5] (by decide) rfl) (lv_sub hl [2, 3] rfl)
              · refine q_iconst hx hb dX7_tries_96 ?_
                refine lv_goto (tgt := 101) hx hb dX7_tries_97 (by decide) ?_
                refine q_iadd hx hb dX7_tries_101 ?_
                refine q_iast hx hb hK hw 9 0 rfl rfl (by omega) dX7_tries_102 (fun H locs hw => ?_)
                have hw : qw D A s.heap (mW g cI cB cZ th len tl ts te tk nu er eo hL hS dp bf dr td s2_3 (cpk ad 0 sa 0 706) hi sl sv (uI y 0 (y 0 + 1))) H locs := hw
                obtain ⟨f_13, e_f_13⟩ : ∃ z, z = uI y 0 (y 0 + 1) := ⟨_, rfl⟩
                have hw : qw D A s.heap (mW g cI cB cZ th len tl ts te tk nu er eo hL hS dp bf dr td s2_3 (cpk ad 0 sa 0 706) hi sl sv f_13) H locs := by rw [e_f_13]; exact hw
                refine lv_aload_n hx hb dX7_tries_103 rfl (lv_at hl 2 rfl) ?_
                refine q_get hx hb hts hown hK hw.1 ci_X7 0 rfl 20 (by decide) fl_X7_36 rfl dX7_tries_104 ?_
                refine q_iconst hx hb dX7_tries_107 ?_
                refine lv_dup2_11 hx hb dX7_tries_108 rfl rfl ?_
                refine q_iald hx hb hK hw.1 9 0 rfl rfl (z := 1) (v := (y 1)) (by omega) (by rw [e_f_13, uI_n _ _ _ (by omega)]) dX7_tries_109 ?_
                refine lv_aload_n hx hb dX7_tries_110 rfl (lv_at hl 2 rfl) ?_
                refine q_get hx hb hts hown hK hw.1 ci_X7 0 rfl 14 (by decide) fl_X7_20 rfl dX7_tries_111 ?_
                refine q_iconst hx hb dX7_tries_114 ?_
                refine q_iald hx hb hK hw.1 4 0 rfl rfl (z := 5) (v := (pkr T Ck)) (by omega) (by exact h_P.2.2.2.s5.trans (pickC_st (by omega)).1) dX7_tries_115 ?_
                refine q_iconst hx hb dX7_tries_116 ?_
                refine q_icmp_ne (tgt := 129) hx hb dX7_tries_117 (by decide) (by omega) (fun c_117 => ?_) (fun c_117 => ?_)
                · refine q_iconst hx hb dX7_tries_129 ?_
                  refine q_iadd hx hb dX7_tries_130 ?_
                  refine q_top (y 1) (Int.add_zero _) ?_
                  refine q_iast hx hb hK hw 9 0 rfl rfl (by omega) dX7_tries_131 (fun H locs hw => ?_)
                  have hw : qw D A s.heap (mW g cI cB cZ th len tl ts te tk nu er eo hL hS dp bf dr td s2_3 (cpk ad 0 sa 0 706) hi sl sv (uI f_13 1 (y 1))) H locs := hw
                  obtain ⟨f_14, e_f_14⟩ : ∃ z, z = uI f_13 1 (y 1) := ⟨_, rfl⟩
                  have hw : qw D A s.heap (mW g cI cB cZ th len tl ts te tk nu er eo hL hS dp bf dr td s2_3 (cpk ad 0 sa 0 706) hi sl sv f_14) H locs := by rw [e_f_14]; exact hw
                  refine lv_aload_n hx hb dX7_tries_132 rfl (lv_at hl 2 rfl) ?_
                  refine q_get hx hb hts hown hK hw.1 ci_X7 0 rfl 20 (by decide) fl_X7_36 rfl dX7_tries_133 ?_
                  refine q_iconst hx hb dX7_tries_136 ?_
                  refine lv_dup2_11 hx hb dX7_tries_137 rfl rfl ?_
                  refine q_iald hx hb hK hw.1 9 0 rfl rfl (z := 4) (v := (y 4)) (by omega) (by rw [e_f_14, uI_n _ _ _ (by omega), e_f_13, uI_n _ _ _ (by omega)]) dX7_tries_138 ?_
                  refine lv_aload_n hx hb dX7_tries_139 rfl (lv_at hl 2 rfl) ?_
                  refine q_callM (As := []) (rest := [.int (iI (y 4)), .int (iI 4), .ref (g 9)]) (wr := []) hx hb hml hown hts hK (c_X7_removes (C := (pickC T Ck)) (by exact h_P)) yi_X7_removes ml_X7_228 (by rw [hR]; decide) hw hA [0, 1, 2, 3, 4, 5, 6, 7, 8, 9] [] rfl rfl (by decide) (by decide) (by decide) 0 rfl rfl rfl rfl hl.1 (lv_room (Nat.le_of_ble_eq_true rfl)) dX7_tries_140 ⟨by rw [hR]; exact Nat.zero_le _, by rw [hR]; exact Nat.zero_le _⟩ (fun u_140 H locs hu_140 hw => ?_)
                  obtain ⟨s2_7, rfl⟩ : ∃ z, z = u_140 := ⟨_, rfl⟩
                  have hu_7_0 : WM td s2_7 T (rmC (((pickC T Ck)))) := hu_140
                  have hw : qw D A s.heap (mW g cI cB cZ th len tl ts te tk nu er eo hL hS dp bf dr td s2_7 (cpk ad 0 sa 0 706) hi sl sv f_14) H locs := hw
                  refine q_top (pkn T Ck) (by exact (pickC_st (by omega)).2) ?_
                  refine q_iadd hx hb dX7_tries_143 ?_
                  refine q_iast hx hb hK hw 9 0 rfl rfl (by omega) dX7_tries_144 (fun H locs hw => ?_)
                  have hw : qw D A s.heap (mW g cI cB cZ th len tl ts te tk nu er eo hL hS dp bf dr td s2_7 (cpk ad 0 sa 0 706) hi sl sv (uI f_14 4 (y 4 + pkn T Ck))) H locs := hw
                  obtain ⟨f_15, e_f_15⟩ : ∃ z, z = uI f_14 4 (y 4 + pkn T Ck) := ⟨_, rfl⟩
                  have hw : qw D A s.heap (mW g cI cB cZ th len tl ts te tk nu er eo hL hS dp bf dr td s2_7 (cpk ad 0 sa 0 706) hi sl sv f_15) H locs := by rw [e_f_15]; exact hw
                  refine lv_goto (tgt := 177) hx hb dX7_tries_145 (by decide) ?_
                  refine lv_goto (tgt := 54) hx hb dX7_tries_177 (by decide) ?_
                  exact ih _ (by first | (rw [show rmC (pickC T Ck) 11 0 = pickC T Ck 11 0 from rfl, pickC_top]; omega) | (rw [pickC_top]; omega)) (s2_7) (f_15) ((rmC (pickC T Ck))) H locs ls rfl (by assumption) (by first | exact ⟨rfl, rfl⟩ | (have z := pickC_go (T := T) (C := Ck) (by omega) h_1.1 h_1.2; exact ⟨z.2, z.1⟩)) (by rw [e_f_15, e_f_14, e_f_13]; first | exact TR_f h_T h_s h_n (by omega) (by unfold bI; (repeat' split) <;> omega) (by unfold bI; (repeat' split) <;> omega) (by omega) | exact TR_g h_T h_s h_n (by omega) (by unfold bI; (repeat' split) <;> omega) (by omega)) (hw.sub [0, 1, 2, 3, 6, 7, 8, 9, 4, 5] (by decide) rfl) (lv_sub hl [2, 3] rfl)
                · refine lv_iload_n hx hb dX7_tries_120 rfl (lv_at hl 1 rfl) ?_
                  refine q_iconst hx hb dX7_tries_121 ?_
                  refine q_icmp_ne (tgt := 129) hx hb dX7_tries_122 (by decide) (by omega) (fun c_122 => ?_) (fun c_122 => ?_)
                  · refine q_iconst hx hb dX7_tries_129 ?_
                    refine q_iadd hx hb dX7_tries_130 ?_
                    refine q_top (y 1) (Int.add_zero _) ?_
                    refine q_iast hx hb hK hw 9 0 rfl rfl (by omega) dX7_tries_131 (fun H locs hw => ?_)
                    have hw : qw D A s.heap (mW g cI cB cZ th len tl ts te tk nu er eo hL hS dp bf dr td s2_3 (cpk ad 0 sa 0 706) hi sl sv (uI f_13 1 (y 1))) H locs := hw
                    obtain ⟨f_16, e_f_16⟩ : ∃ z, z = uI f_13 1 (y 1) := ⟨_, rfl⟩
                    have hw : qw D A s.heap (mW g cI cB cZ th len tl ts te tk nu er eo hL hS dp bf dr td s2_3 (cpk ad 0 sa 0 706) hi sl sv f_16) H locs := by rw [e_f_16]; exact hw
                    refine lv_aload_n hx hb dX7_tries_132 rfl (lv_at hl 2 rfl) ?_
                    refine q_get hx hb hts hown hK hw.1 ci_X7 0 rfl 20 (by decide) fl_X7_36 rfl dX7_tries_133 ?_
                    refine q_iconst hx hb dX7_tries_136 ?_
                    refine lv_dup2_11 hx hb dX7_tries_137 rfl rfl ?_
                    refine q_iald hx hb hK hw.1 9 0 rfl rfl (z := 4) (v := (y 4)) (by omega) (by rw [e_f_16, uI_n _ _ _ (by omega), e_f_13, uI_n _ _ _ (by omega)]) dX7_tries_138 ?_
                    refine lv_aload_n hx hb dX7_tries_139 rfl (lv_at hl 2 rfl) ?_
                    refine q_callM (As := []) (rest := [.int (iI (y 4)), .int (iI 4), .ref (g 9)]) (wr := []) hx hb hml hown hts hK (c_X7_removes (C := (pickC T Ck)) (by exact h_P)) yi_X7_removes ml_X7_228 (by rw [hR]; decide) hw hA [0, 1, 2, 3, 4, 5, 6, 7, 8, 9] [] rfl rfl (by decide) (by decide) (by decide) 0 rfl rfl rfl rfl hl.1 (lv_room (Nat.le_of_ble_eq_true rfl)) dX7_tries_140 ⟨by rw [hR]; exact Nat.zero_le _, by rw [hR]; exact Nat.zero_le _⟩ (fun u_140 H locs hu_140 hw => ?_)
                    obtain ⟨s2_8, rfl⟩ : ∃ z, z = u_140 := ⟨_, rfl⟩
                    have hu_8_0 : WM td s2_8 T (rmC (((pickC T Ck)))) := hu_140
                    have hw : qw D A s.heap (mW g cI cB cZ th len tl ts te tk nu er eo hL hS dp bf dr td s2_8 (cpk ad 0 sa 0 706) hi sl sv f_16) H locs := hw
                    refine q_top (pkn T Ck) (by exact (pickC_st (by omega)).2) ?_
                    refine q_iadd hx hb dX7_tries_143 ?_
                    refine q_iast hx hb hK hw 9 0 rfl rfl (by omega) dX7_tries_144 (fun H locs hw => ?_)
                    have hw : qw D A s.heap (mW g cI cB cZ th len tl ts te tk nu er eo hL hS dp bf dr td s2_8 (cpk ad 0 sa 0 706) hi sl sv (uI f_16 4 (y 4 + pkn T Ck))) H locs := hw
                    obtain ⟨f_17, e_f_17⟩ : ∃ z, z = uI f_16 4 (y 4 + pkn T Ck) := ⟨_, rfl⟩
                    have hw : qw D A s.heap (mW g cI cB cZ th len tl ts te tk nu er eo hL hS dp bf dr td s2_8 (cpk ad 0 sa 0 706) hi sl sv f_17) H locs := by rw [e_f_17]; exact hw
                    refine lv_goto (tgt := 177) hx hb dX7_tries_145 (by decide) ?_
                    refine lv_goto (tgt := 54) hx hb dX7_tries_177 (by decide) ?_
                    exact ih _ (by first | (rw [show rmC (pickC T Ck) 11 0 = pickC T Ck 11 0 from rfl, pickC_top]; omega) | (rw [pickC_top]; omega)) (s2_8) (f_17) ((rmC (pickC T Ck))) H locs ls rfl (by assumption) (by first | exact ⟨rfl, rfl⟩ | (have z := pickC_go (T := T) (C := Ck) (by omega) h_1.1 h_1.2; exact ⟨z.2, z.1⟩)) (by rw [e_f_17, e_f_16, e_f_13]; first | exact TR_f h_T h_s h_n (by omega) (by unfold bI; (repeat' split) <;> omega) (by unfold bI; (repeat' split) <;> omega) (by omega) | exact TR_g h_T h_s h_n (by omega) (by unfold bI; (repeat' split) <;> omega) (by omega)) (hw.sub [0, 1, 2, 3, 6, 7, 8, 9, 4, 5] (by decide) rfl) (lv_sub hl [2, 3] rfl)
                  · refine q_iconst hx hb dX7_tries_125 ?_
                    refine lv_goto (tgt := 130) hx hb dX7_tries_126 (by decide) ?_
                    refine q_iadd hx hb dX7_tries_130 ?_
                    refine q_iast hx hb hK hw 9 0 rfl rfl (by omega) dX7_tries_131 (fun H locs hw => ?_)
                    have hw : qw D A s.heap (mW g cI cB cZ th len tl ts te tk nu er eo hL hS dp bf dr td s2_3 (cpk ad 0 sa 0 706) hi sl sv (uI f_13 1 (y 1 + 1))) H locs := hw
                    obtain ⟨f_18, e_f_18⟩ : ∃ z, z = uI f_13 1 (y 1 + 1) := ⟨_, rfl⟩
                    have hw : qw D A s.heap (mW g cI cB cZ th len tl ts te tk nu er eo hL hS dp bf dr td s2_3 (cpk ad 0 sa 0 706) hi sl sv f_18) H locs := by rw [e_f_18]; exact hw
                    refine lv_aload_n hx hb dX7_tries_132 rfl (lv_at hl 2 rfl) ?_
                    refine q_get hx hb hts hown hK hw.1 ci_X7 0 rfl 20 (by decide) fl_X7_36 rfl dX7_tries_133 ?_
                    refine q_iconst hx hb dX7_tries_136 ?_
                    refine lv_dup2_11 hx hb dX7_tries_137 rfl rfl ?_
                    refine q_iald hx hb hK hw.1 9 0 rfl rfl (z := 4) (v := (y 4)) (by omega) (by rw [e_f_18, uI_n _ _ _ (by omega), e_f_13, uI_n _ _ _ (by omega)]) dX7_tries_138 ?_
                    refine lv_aload_n hx hb dX7_tries_139 rfl (lv_at hl 2 rfl) ?_
                    refine q_callM (As := []) (rest := [.int (iI (y 4)), .int (iI 4), .ref (g 9)]) (wr := []) hx hb hml hown hts hK (c_X7_removes (C := (pickC T Ck)) (by exact h_P)) yi_X7_removes ml_X7_228 (by rw [hR]; decide) hw hA [0, 1, 2, 3, 4, 5, 6, 7, 8, 9] [] rfl rfl (by decide) (by decide) (by decide) 0 rfl rfl rfl rfl hl.1 (lv_room (Nat.le_of_ble_eq_true rfl)) dX7_tries_140 ⟨by rw [hR]; exact Nat.zero_le _, by rw [hR]; exact Nat.zero_le _⟩ (fun u_140 H locs hu_140 hw => ?_)
                    obtain ⟨s2_9, rfl⟩ : ∃ z, z = u_140 := ⟨_, rfl⟩
                    have hu_9_0 : WM td s2_9 T (rmC (((pickC T Ck)))) := hu_140
                    have hw : qw D A s.heap (mW g cI cB cZ th len tl ts te tk nu er eo hL hS dp bf dr td s2_9 (cpk ad 0 sa 0 706) hi sl sv f_18) H locs := hw
                    refine q_top (pkn T Ck) (by exact (pickC_st (by omega)).2) ?_
                    refine q_iadd hx hb dX7_tries_143 ?_
                    refine q_iast hx hb hK hw 9 0 rfl rfl (by omega) dX7_tries_144 (fun H locs hw => ?_)
                    have hw : qw D A s.heap (mW g cI cB cZ th len tl ts te tk nu er eo hL hS dp bf dr td s2_9 (cpk ad 0 sa 0 706) hi sl sv (uI f_18 4 (y 4 + pkn T Ck))) H locs := hw
                    obtain ⟨f_19, e_f_19⟩ : ∃ z, z = uI f_18 4 (y 4 + pkn T Ck) := ⟨_, rfl⟩
                    have hw : qw D A s.heap (mW g cI cB cZ th len tl ts te tk nu er eo hL hS dp bf dr td s2_9 (cpk ad 0 sa 0 706) hi sl sv f_19) H locs := by rw [e_f_19]; exact hw
                    refine lv_goto (tgt := 177) hx hb dX7_tries_145 (by decide) ?_
                    refine lv_goto (tgt := 54) hx hb dX7_tries_177 (by decide) ?_
                    exact ih _ (by first | (rw [show rmC (pickC T Ck) 11 0 = pickC T Ck 11 0 from rfl, pickC_top]; omega) | (rw [pickC_top]; omega)) (s2_9) (f_19) ((rmC (pickC T Ck))) H locs ls rfl (by assumption) (by first | exact ⟨rfl, rfl⟩ | (have z := pickC_go (T := T) (C := Ck) (by omega) h_1.1 h_1.2; exact ⟨z.2, z.1⟩)) (by rw [e_f_19, e_f_18, e_f_13]; first | exact TR_f h_T h_s h_n (by omega) (by unfold bI; (repeat' split) <;> omega) (by unfold bI; (repeat' split) <;> omega) (by omega) | exact TR_g h_T h_s h_n (by omega) (by unfold bI; (repeat' split) <;> omega) (by omega)) (hw.sub [0, 1, 2, 3, 6, 7, 8, 9, 4, 5] (by decide) rfl) (lv_sub hl [2, 3] rfl)
        exact loop_54 _ (f_1) (y) (trB C pq) H locs ls rfl (by first | (rw [trB_n (by omega)]; assumption) | (rw [trB_y (by omega), e_f_1]; exact WM_li hM hp)) (by exact trB_cl hfr (by omega)) (by exact TR_0 (fun k a b => h_z k a (by omega)) (by rw [trB_top]; omega) (by omega)) hw (lv_sub hl [0, 1] rfl)
      · refine lv_aload_n hx hb dX7_tries_49 rfl (lv_at hl 0 rfl) ?_
        refine q_callM (As := []) (rest := []) (wr := []) hx hb hml hown hts hK (c_X7_removes (C := (st C 8 (uI (C 8) 0 pq))) (by rw [e_f_1]; exact WM_li hM hp)) yi_X7_removes ml_X7_228 (by rw [hR]; decide) hw hA [0, 1, 2, 3, 8, 9, 4, 5, 6, 7] [] rfl rfl (by decide) (by decide) (by decide) 0 rfl rfl rfl rfl hl.1 (lv_room (Nat.le_of_ble_eq_true rfl)) dX7_tries_50 ⟨by rw [hR]; exact Nat.zero_le _, by rw [hR]; exact Nat.zero_le _⟩ (fun u_50 H locs hu_50 hw => ?_)
        obtain ⟨s2_10, rfl⟩ : ∃ z, z = u_50 := ⟨_, rfl⟩
        have hu_10_0 : WM td s2_10 T (rmC (((st C 8 (uI (C 8) 0 pq))))) := hu_50
        have hw : qw D A s.heap (mW g cI cB cZ th len tl ts te tk nu er eo hL hS dp bf dr td s2_10 (cpk ad 0 sa 0 706) hi sl sv y) H locs := hw
        refine lv_istore_n (lv' := [(2, .int (iI (((st C 8 (uI (C 8) 0 pq))) 11 1))), (0, .ref (g 0)), (1, .int (iI pq))]) hx hb dX7_tries_53 rfl hl (by decide) rfl (fun ls hl => ?_)
        have loop_54 : ∀ (fu : Nat) (x : Int → Int) (y : Int → Int) (Ck : Nat → Int → Int) (H : Heap) (locs : List Loc) (ls : Array Slot), (T 8 0 - Ck 11 0).toNat = fu → (WM td x T Ck) → (Ck 11 1 = 0 ∧ Ck 11 2 = 0) → (TR T y Ck (trB C pq)) → qw D A s.heap (mW g cI cB cZ th len tl ts te tk nu er eo hL hS dp bf dr td x (cpk ad 0 sa 0 706) hi sl sv y) H locs → lv_has ls 4 [(0, .ref (g 0)), (1, .int (iI pq))] → W p l e R s m args below meth c H locs 0 0 Q (F0 m 54 ls []) := by
          intro fu
          induction fu using Nat.strongRecOn with
          | ind fu ih =>
          intro x y Ck H locs ls hn_54 h_M h_1 h_T hw hl
          have hsk := h_M.sc
          refine lv_aload_n hx hb dX7_tries_54 rfl (lv_at hl 0 rfl) ?_
          refine q_get hx hb hts hown hK hw.1 ci_X7 0 rfl 14 (by decide) fl_X7_20 rfl dX7_tries_55 ?_
          refine q_bipush hx hb dX7_tries_58 rfl ?_
          refine q_iald hx hb hK hw.1 4 0 rfl rfl (z := 6) (v := (T 8 0 - Ck 11 0)) (by omega) (by exact h_M.2.2.2.s6) dX7_tries_60 ?_
          refine q_if_le (tgt := 180) hx hb dX7_tries_61 (by decide) (by omega) (fun c_61 => ?_) (fun c_61 => ?_)
          · refine lv_aload_n hx hb dX7_tries_180 rfl (lv_at hl 0 rfl) ?_
            refine q_get hx hb hts hown hK hw.1 ci_X7 0 rfl 15 (by decide) fl_X7_23 rfl dX7_tries_181 ?_
            refine q_iconst hx hb dX7_tries_184 ?_
            refine lv_aload_n hx hb dX7_tries_185 rfl (lv_at hl 0 rfl) ?_
            refine q_get hx hb hts hown hK hw.1 ci_X7 0 rfl 14 (by decide) fl_X7_20 rfl dX7_tries_186 ?_
            refine q_iconst hx hb dX7_tries_189 ?_
            refine q_callMS (As := [.ref (g 5), .int (iI 0), .ref (g 4), .int (iI 0)]) (rest := []) (wr := [((g 0), .inr (7, [.int (iI th), .ref (g 1), .int (iI len), .int (iI tl), .int (iI ts), .int (iI te), .int (iI tk), .int (iI nu), .int (iI er), .int (iI eo), .ref (g 2), .ref (g 3), .int (iI hL), .int (iI hS), .ref (g 4), .ref (g 5), .ref (g 6), .int (iI dp), .ref (g 7), .ref (g 8), .ref (g 9)])), ((g 1), .inl (cB, 700, .inl (ai bf))), ((g 2), .inl (cI, 288, .inl (ai dr))), ((g 3), .inl (cI, 288, .inl (ai td))), ((g 6), .inl (cI, 7060, .inl (ai hi))), ((g 7), .inl (cI, 1412, .inl (ai sl))), ((g 8), .inl (cZ, 2, .inl (ai sv))), ((g 9), .inl (cI, 5, .inl (ai y)))]) hx hb hml hown hts hK (c_X7_copy (0) (0) (by first | omega | assumption) (by first | omega | assumption)) yt_X7_copy ml_X7_176 (by rw [hR]; decide) hw hA [5, 4] [0, 1, 2, 3, 6, 7, 8, 9] rfl rfl (by decide) (by decide) (by decide)  rfl rfl hl.1 (lv_room (Nat.le_of_ble_eq_true rfl)) dX7_tries_190 ⟨by rw [hR]; exact Nat.zero_le _, by rw [hR]; exact Nat.zero_le _⟩ (fun u_190 H locs hu_190 hw => ?_)
            have hw : qw D A s.heap [((g 0), .inr (7, [.int (iI th), .ref (g 1), .int (iI len), .int (iI tl), .int (iI ts), .int (iI te), .int (iI tk), .int (iI nu), .int (iI er), .int (iI eo), .ref (g 2), .ref (g 3), .int (iI hL), .int (iI hS), .ref (g 4), .ref (g 5), .ref (g 6), .int (iI dp), .ref (g 7), .ref (g 8), .ref (g 9)])), ((g 1), .inl (cB, 700, .inl (ai bf))), ((g 2), .inl (cI, 288, .inl (ai dr))), ((g 3), .inl (cI, 288, .inl (ai td))), ((g 6), .inl (cI, 7060, .inl (ai hi))), ((g 7), .inl (cI, 1412, .inl (ai sl))), ((g 8), .inl (cZ, 2, .inl (ai sv))), ((g 9), .inl (cI, 5, .inl (ai y))), ((g 5), .inl (cI, 706, .inl (ai (cpk ad 0 sa 0 706)))), ((g 4), .inl (cI, 706, .inl (ai (cpk x 0 (cpk ad 0 sa 0 706) 0 706))))] H locs := hw
            exact hret (cpk x 0 (cpk ad 0 sa 0 706) 0 706, cpk ad 0 sa 0 706, y) H locs 193 ls ⟨(by exact WM_bk hM), (by (intro k a b; have z := TR_e h_T (by omega) a b; have z2 := h_T k a b; exact ⟨z, z2.1, Int.le_trans z2.2.1 (show 2 * Ck 11 0 ≤ 80 by omega)⟩))⟩ (hw.sub [0, 1, 2, 3, 9, 8, 4, 5, 6, 7] (by decide) rfl) dX7_tries_193
          · have h_s : Ck 11 0 < T 8 0 := by omega
            have h_k := h_M.pk h_s
            have h_n : 1 ≤ pkn T Ck := h_k.1
            have h_n2 : Ck 11 0 + pkn T Ck ≤ T 8 0 := h_k.2.1
            refine lv_aload_n hx hb dX7_tries_64 rfl (lv_at hl 0 rfl) ?_
            refine q_callP (As := []) (rest := []) hx hb hml hown hts hK (c_X7_pickMany (by exact h_M) (by first | omega | assumption)) yi_X7_pickMany ml_X7_210 (by rw [hR]; decide) hw.1 0 rfl rfl rfl rfl hl.1 (lv_room (Nat.le_of_ble_eq_true rfl)) dX7_tries_65 ⟨by rw [hR]; exact Nat.zero_le _, by rw [hR]; exact Nat.zero_le _⟩ ?_
            refine q_top (pkn T Ck) (by rfl) ?_
            refine lv_istore_n (lv' := [(2, .int (iI (pkn T Ck))), (0, .ref (g 0)), (1, .int (iI pq))]) hx hb dX7_tries_68 rfl hl (by decide) rfl (fun ls hl => ?_)
            refine lv_aload_n hx hb dX7_tries_69 rfl (lv_at hl 1 rfl) ?_
            refine q_callM (As := []) (rest := []) (wr := []) hx hb hml hown hts hK (c_X7_pick (C := Ck) (by exact h_M) (by exact h_s) (by exact h_1.1) (by exact h_1.2)) yi_X7_pick ml_X7_225 (by rw [hR]; decide) hw hA [0, 1, 2, 3, 4, 5, 6, 7, 8, 9] [] rfl rfl (by decide) (by decide) (by decide) 0 rfl rfl rfl rfl hl.1 (lv_room (Nat.le_of_ble_eq_true rfl)) dX7_tries_70 ⟨by rw [hR]; exact Nat.zero_le _, by rw [hR]; exact Nat.zero_le _⟩ (fun u_70 H locs hu_70 hw => ?_)
            obtain ⟨s2_12, rfl⟩ : ∃ z, z = u_70 := ⟨_, rfl⟩
            have hu_12_0 : WM td s2_12 T (pickC T ((Ck))) := hu_70
            have hw : qw D A s.heap (mW g cI cB cZ th len tl ts te tk nu er eo hL hS dp bf dr td s2_12 (cpk ad 0 sa 0 706) hi sl sv y) H locs := hw
            refine lv_istore_n (lv' := [(3, .int (iI (pickR T (Ck)))), (2, .int (iI (pkn T Ck))), (0, .ref (g 0)), (1, .int (iI pq))]) hx hb dX7_tries_73 rfl hl (by decide) rfl (fun ls hl => ?_)
            refine lv_iload_n hx hb dX7_tries_74 rfl (lv_at hl 0 rfl) ?_
            refine q_iconst hx hb dX7_tries_75 ?_
            have q_pr0 := pickR_bd T Ck
            refine q_icmp_ne (tgt := 148) hx hb dX7_tries_76 (by decide) (by omega) (fun c_76 => ?_) (fun c_76 => ?_)
            · have h_P : WM td s2_12 T (pickC T Ck) := by assumption
              have q_pr := pickR_bd T Ck
              have q_kr := pkr_bd T Ck
              have q_y0 : 0 ≤ y 0 ∧ y 0 ≤ 2 * Ck 11 0 := ⟨(h_T 0 (by decide) (by decide)).1, (h_T 0 (by decide) (by decide)).2.1⟩
              have q_y1 : 0 ≤ y 1 ∧ y 1 ≤ 2 * Ck 11 0 := ⟨(h_T 1 (by decide) (by decide)).1, (h_T 1 (by decide) (by decide)).2.1⟩
              have q_y2 : 0 ≤ y 2 ∧ y 2 ≤ 2 * Ck 11 0 := ⟨(h_T 2 (by decide) (by decide)).1, (h_T 2 (by decide) (by decide)).2.1⟩
              have q_y3 : 0 ≤ y 3 ∧ y 3 ≤ 2 * Ck 11 0 := ⟨(h_T 3 (by decide) (by decide)).1, (h_T 3 (by decide) (by decide)).2.1⟩
              have q_y4 : 0 ≤ y 4 ∧ y 4 ≤ 2 * Ck 11 0 := ⟨(h_T 4 (by decide) (by decide)).1, (h_T 4 (by decide) (by decide)).2.1⟩
              refine lv_aload_n hx hb dX7_tries_148 rfl (lv_at hl 2 rfl) ?_
              refine q_get hx hb hts hown hK hw.1 ci_X7 0 rfl 20 (by decide) fl_X7_36 rfl dX7_tries_149 ?_
              refine q_iconst hx hb dX7_tries_152 ?_
              refine lv_dup2_11 hx hb dX7_tries_153 rfl rfl ?_
              refine q_iald hx hb hK hw.1 9 0 rfl rfl (z := 2) (v := (y 2)) (by omega) rfl dX7_tries_154 ?_
              refine lv_iload_n hx hb dX7_tries_155 rfl (lv_at hl 1 rfl) ?_
              refine q_iconst hx hb dX7_tries_156 ?_
              refine q_icmp_le (tgt := 164) hx hb dX7_tries_157 (by decide) (by omega) (fun c_157 => ?_) (fun c_157 => ?_)
              · refine q_iconst hx hb dX7_tries_164 ?_
                refine q_iadd hx hb dX7_tries_165 ?_
                refine q_top (y 2) (Int.add_zero _) ?_
                refine q_iast hx hb hK hw 9 0 rfl rfl (by omega) dX7_tries_166 (fun H locs hw => ?_)
                have hw : qw D A s.heap (mW g cI cB cZ th len tl ts te tk nu er eo hL hS dp bf dr td s2_12 (cpk ad 0 sa 0 706) hi sl sv (uI y 2 (y 2))) H locs := hw
                obtain ⟨f_20, e_f_20⟩ : ∃ z, z = uI y 2 (y 2) := ⟨_, rfl⟩
                have hw : qw D A s.heap (mW g cI cB cZ th len tl ts te tk nu er eo hL hS dp bf dr td s2_12 (cpk ad 0 sa 0 706) hi sl sv f_20) H locs := by rw [e_f_20]; exact hw
                refine lv_aload_n hx hb dX7_tries_167 rfl (lv_at hl 2 rfl) ?_
                refine q_get hx hb hts hown hK hw.1 ci_X7 0 rfl 20 (by decide) fl_X7_36 rfl dX7_tries_168 ?_
                refine q_iconst hx hb dX7_tries_171 ?_
                refine lv_dup2_11 hx hb dX7_tries_172 rfl rfl ?_
                refine q_iald hx hb hK hw.1 9 0 rfl rfl (z := 3) (v := (y 3)) (by omega) (by rw [e_f_20, uI_n _ _ _ (by omega)]) dX7_tries_173 ?_
                refine lv_iload_n hx hb dX7_tries_174 rfl (lv_at hl 0 rfl) ?_
                refine q_iadd hx hb dX7_tries_175 ?_
                refine q_iast hx hb hK hw 9 0 rfl rfl (by omega) dX7_tries_176 (fun H locs hw => ?_)
                have hw : qw D A s.heap (mW g cI cB cZ th len tl ts te tk nu er eo hL hS dp bf dr td s2_12 (cpk ad 0 sa 0 706) hi sl sv (uI f_20 3 (y 3 + pickR T (Ck)))) H locs := hw
                obtain ⟨f_21, e_f_21⟩ : ∃ z, z = uI f_20 3 (y 3 + pickR T (Ck)) := ⟨_, rfl⟩
                have hw : qw D A s.heap (mW g cI cB cZ th len tl ts te tk nu er eo hL hS dp bf dr td s2_12 (cpk ad 0 sa 0 706) hi sl sv f_21) H locs := by rw [e_f_21]; exact hw
                refine lv_goto (tgt := 54) hx hb dX7_tries_177 (by decide) ?_
                exact ih _ (by first | (rw [show rmC (pickC T Ck) 11 0 = pickC T Ck 11 0 from rfl, pickC_top]; omega) | (rw [pickC_top]; omega)) (s2_12) (f_21) ((pickC T Ck)) H locs ls rfl (by assumption) (by first | exact ⟨rfl, rfl⟩ | (have z := pickC_go (T := T) (C := Ck) (by omega) h_1.1 h_1.2; exact ⟨z.2, z.1⟩)) (by rw [e_f_21, e_f_20]; first | exact TR_f h_T h_s h_n (by omega) (by unfold bI; (repeat' split) <;> omega) (by unfold bI; (repeat' split) <;> omega) (by omega) | exact TR_g h_T h_s h_n (by omega) (by unfold bI; (repeat' split) <;> omega) (by omega)) hw (lv_sub hl [2, 3] rfl)
              · refine q_iconst hx hb dX7_tries_160 ?_
                refine lv_goto (tgt := 165) hx hb dX7_tries_161 (by decide) ?_
                refine q_iadd hx hb dX7_tries_165 ?_
                refine q_iast hx hb hK hw 9 0 rfl rfl (by omega) dX7_tries_166 (fun H locs hw => ?_)
                have hw : qw D A s.heap (mW g cI cB cZ th len tl ts te tk nu er eo hL hS dp bf dr td s2_12 (cpk ad 0 sa 0 706) hi sl sv (uI y 2 (y 2 + 1))) H locs := hw
                obtain ⟨f_22, e_f_22⟩ : ∃ z, z = uI y 2 (y 2 + 1) := ⟨_, rfl⟩
                have hw : qw D A s.heap (mW g cI cB cZ th len tl ts te tk nu er eo hL hS dp bf dr td s2_12 (cpk ad 0 sa 0 706) hi sl sv f_22) H locs := by rw [e_f_22]; exact hw
                refine lv_aload_n hx hb dX7_tries_167 rfl (lv_at hl 2 rfl) ?_
                refine q_get hx hb hts hown hK hw.1 ci_X7 0 rfl 20 (by decide) fl_X7_36 rfl dX7_tries_168 ?_
                refine q_iconst hx hb dX7_tries_171 ?_
                refine lv_dup2_11 hx hb dX7_tries_172 rfl rfl ?_
                refine q_iald hx hb hK hw.1 9 0 rfl rfl (z := 3) (v := (y 3)) (by omega) (by rw [e_f_22, uI_n _ _ _ (by omega)]) dX7_tries_173 ?_
                refine lv_iload_n hx hb dX7_tries_174 rfl (lv_at hl 0 rfl) ?_
                refine q_iadd hx hb dX7_tries_175 ?_
                refine q_iast hx hb hK hw 9 0 rfl rfl (by omega) dX7_tries_176 (fun H locs hw => ?_)
                have hw : qw D A s.heap (mW g cI cB cZ th len tl ts te tk nu er eo hL hS dp bf dr td s2_12 (cpk ad 0 sa 0 706) hi sl sv (uI f_22 3 (y 3 + pickR T (Ck)))) H locs := hw
                obtain ⟨f_23, e_f_23⟩ : ∃ z, z = uI f_22 3 (y 3 + pickR T (Ck)) := ⟨_, rfl⟩
                have hw : qw D A s.heap (mW g cI cB cZ th len tl ts te tk nu er eo hL hS dp bf dr td s2_12 (cpk ad 0 sa 0 706) hi sl sv f_23) H locs := by rw [e_f_23]; exact hw
                refine lv_goto (tgt := 54) hx hb dX7_tries_177 (by decide) ?_
                exact ih _ (by first | (rw [show rmC (pickC T Ck) 11 0 = pickC T Ck 11 0 from rfl, pickC_top]; omega) | (rw [pickC_top]; omega)) (s2_12) (f_23) ((pickC T Ck)) H locs ls rfl (by assumption) (by first | exact ⟨rfl, rfl⟩ | (have z := pickC_go (T := T) (C := Ck) (by omega) h_1.1 h_1.2; exact ⟨z.2, z.1⟩)) (by rw [e_f_23, e_f_22]; first | exact TR_f h_T h_s h_n (by omega) (by unfold bI; (repeat' split) <;> omega) (by unfold bI; (repeat' split) <;> omega) (by omega) | exact TR_g h_T h_s h_n (by omega) (by unfold bI; (repeat' split) <;> omega) (by omega)) hw (lv_sub hl [2, 3] rfl)
            · have h_P : WM td s2_12 T (pickC T Ck) := by assumption
              have q_pr := pickR_bd T Ck
              have q_kr := pkr_bd T Ck
              have q_y0 : 0 ≤ y 0 ∧ y 0 ≤ 2 * Ck 11 0 := ⟨(h_T 0 (by decide) (by decide)).1, (h_T 0 (by decide) (by decide)).2.1⟩
              have q_y1 : 0 ≤ y 1 ∧ y 1 ≤ 2 * Ck 11 0 := ⟨(h_T 1 (by decide) (by decide)).1, (h_T 1 (by decide) (by decide)).2.1⟩
              have q_y2 : 0 ≤ y 2 ∧ y 2 ≤ 2 * Ck 11 0 := ⟨(h_T 2 (by decide) (by decide)).1, (h_T 2 (by decide) (by decide)).2.1⟩
              have q_y3 : 0 ≤ y 3 ∧ y 3 ≤ 2 * Ck 11 0 := ⟨(h_T 3 (by decide) (by decide)).1, (h_T 3 (by decide) (by decide)).2.1⟩
              have q_y4 : 0 ≤ y 4 ∧ y 4 ≤ 2 * Ck 11 0 := ⟨(h_T 4 (by decide) (by decide)).1, (h_T 4 (by decide) (by decide)).2.1⟩
              refine lv_aload_n hx hb dX7_tries_79 rfl (lv_at hl 2 rfl) ?_
              refine q_get hx hb hts hown hK hw.1 ci_X7 0 rfl 20 (by decide) fl_X7_36 rfl dX7_tries_80 ?_
              refine q_iconst hx hb dX7_tries_83 ?_
              refine lv_dup2_11 hx hb dX7_tries_84 rfl rfl ?_
              refine q_iald hx hb hK hw.1 9 0 rfl rfl (z := 0) (v := (y 0)) (by omega) rfl dX7_tries_85 ?_
              refine lv_aload_n hx hb dX7_tries_86 rfl (lv_at hl 2 rfl) ?_
              refine q_get hx hb hts hown hK hw.1 ci_X7 0 rfl 14 (by decide) fl_X7_20 rfl dX7_tries_87 ?_
              refine q_iconst hx hb dX7_tries_90 ?_
              refine q_iald hx hb hK hw.1 4 0 rfl rfl (z := 5) (v := (pkr T Ck)) (by omega) (by exact h_P.2.2.2.s5.trans (pickC_st (by omega)).1) dX7_tries_91 ?_
              refine q_iconst hx hb dX7_tries_92 ?_
              refine q_icmp_ne (tgt := 100) hx hb dX7_tries_93 (by decide) (by omega) (fun c_93 => ?_) (fun c_93 => ?_)
              · refine q_iconst hx hb dX7_tries_100 ?_
                refine q_iadd hx hb dX7_tries_101 ?_
                refine q_top (y 0) (Int.add_zero _) ?_
                refine q_iast hx hb hK hw 9 0 rfl rfl (by omega) dX7_tries_102 (fun H locs hw => ?_)
                have hw : qw D A s.heap (mW g cI cB cZ th len tl ts te tk nu er eo hL hS dp bf dr td s2_12 (cpk ad 0 sa 0 706) hi sl sv (uI y 0 (y 0))) H locs := hw
                obtain ⟨f_24, e_f_24⟩ : ∃ z, z = uI y 0 (y 0) := ⟨_, rfl⟩
                have hw : qw D A s.heap (mW g cI cB cZ th len tl ts te tk nu er eo hL hS dp bf dr td s2_12 (cpk ad 0 sa 0 706) hi sl sv f_24) H locs := by rw [e_f_24]; exact hw
                refine lv_aload_n hx hb dX7_tries_103 rfl (lv_at hl 2 rfl) ?_
                refine q_get hx hb hts hown hK hw.1 ci_X7 0 rfl 20 (by decide) fl_X7_36 rfl dX7_tries_104 ?_
                refine q_iconst hx hb dX7_tries_107 ?_
                refine lv_dup2_11 hx hb dX7_tries_108 rfl rfl ?_
                refine q_iald hx hb hK hw.1 9 0 rfl rfl (z := 1) (v := (y 1)) (by omega) (by rw [e_f_24, uI_n _ _ _ (by omega)]) dX7_tries_109 ?_
                refine lv_aload_n hx hb dX7_tries_110 rfl (lv_at hl 2 rfl) ?_
                refine q_get hx hb hts hown hK hw.1 ci_X7 0 rfl 14 (by decide) fl_X7_20 rfl dX7_tries_111 ?_
                refine q_iconst hx hb dX7_tries_114 ?_
                refine q_iald hx hb hK hw.1 4 0 rfl rfl (z := 5) (v := (pkr T Ck)) (by omega) (by exact h_P.2.2.2.s5.trans (pickC_st (by omega)).1) dX7_tries_115 ?_
                refine q_iconst hx hb dX7_tries_116 ?_
                refine q_icmp_ne (tgt := 129) hx hb dX7_tries_117 (by decide) (by omega) (fun c_117 => ?_) (fun c_117 => ?_)
                · refine q_iconst hx hb dX7_tries_129 ?_
                  refine q_iadd hx hb dX7_tries_130 ?_
                  refine q_top (y 1) (Int.add_zero _) ?_
                  refine q_iast hx hb hK hw 9 0 rfl rfl (by omega) dX7_tries_131 (fun H locs hw => ?_)
                  have hw : qw D A s.heap (mW g cI cB cZ th len tl ts te tk nu er eo hL hS dp bf dr td s2_12 (cpk ad 0 sa 0 706) hi sl sv (uI f_24 1 (y 1))) H locs := hw
                  obtain ⟨f_25, e_f_25⟩ : ∃ z, z = uI f_24 1 (y 1) := ⟨_, rfl⟩
                  have hw : qw D A s.heap (mW g cI cB cZ th len tl ts te tk nu er eo hL hS dp bf dr td s2_12 (cpk ad 0 sa 0 706) hi sl sv f_25) H locs := by rw [e_f_25]; exact hw
                  refine lv_aload_n hx hb dX7_tries_132 rfl (lv_at hl 2 rfl) ?_
                  refine q_get hx hb hts hown hK hw.1 ci_X7 0 rfl 20 (by decide) fl_X7_36 rfl dX7_tries_133 ?_
                  refine q_iconst hx hb dX7_tries_136 ?_
                  refine lv_dup2_11 hx hb dX7_tries_137 rfl rfl ?_
                  refine q_iald hx hb hK hw.1 9 0 rfl rfl (z := 4) (v := (y 4)) (by omega) (by rw [e_f_25, uI_n _ _ _ (by omega), e_f_24, uI_n _ _ _ (by omega)]) dX7_tries_138 ?_
                  refine lv_aload_n hx hb dX7_tries_139 rfl (lv_at hl 2 rfl) ?_
                  refine q_callM (As := []) (rest := [.int (iI (y 4)), .int (iI 4), .ref (g 9)]) (wr := []) hx hb hml hown hts hK (c_X7_removes (C := (pickC T Ck)) (by exact h_P)) yi_X7_removes ml_X7_228 (by rw [hR]; decide) hw hA [0, 1, 2, 3, 4, 5, 6, 7, 8, 9] [] rfl rfl (by decide) (by decide) (by decide) 0 rfl rfl rfl rfl hl.1 (lv_room (Nat.le_of_ble_eq_true rfl)) dX7_tries_140 ⟨by rw [hR]; exact Nat.zero_le _, by rw [hR]; exact Nat.zero_le _⟩ (fun u_140 H locs hu_140 hw => ?_)
                  obtain ⟨s2_13, rfl⟩ : ∃ z, z = u_140 := ⟨_, rfl⟩
                  have hu_13_0 : WM td s2_13 T (rmC (((pickC T Ck)))) := hu_140
                  have hw : qw D A s.heap (mW g cI cB cZ th len tl ts te tk nu er eo hL hS dp bf dr td s2_13 (cpk ad 0 sa 0 706) hi sl sv f_25) H locs := hw
                  refine q_top (pkn T Ck) (by exact (pickC_st (by omega)).2) ?_
                  refine q_iadd hx hb dX7_tries_143 ?_
                  refine q_iast hx hb hK hw 9 0 rfl rfl (by omega) dX7_tries_144 (fun H locs hw => ?_)
                  have hw : qw D A s.heap (mW g cI cB cZ th len tl ts te tk nu er eo hL hS dp bf dr td s2_13 (cpk ad 0 sa 0 706) hi sl sv (uI f_25 4 (y 4 + pkn T Ck))) H locs := hw
                  obtain ⟨f_26, e_f_26⟩ : ∃ z, z = uI f_25 4 (y 4 + pkn T Ck) := ⟨_, rfl⟩
                  have hw : qw D A s.heap (mW g cI cB cZ th len tl ts te tk nu er eo hL hS dp bf dr td s2_13 (cpk ad 0 sa 0 706) hi sl sv f_26) H locs := by rw [e_f_26]; exact hw
                  refine lv_goto (tgt := 177) hx hb dX7_tries_145 (by decide) ?_
                  refine lv_goto (tgt := 54) hx hb dX7_tries_177 (by decide) ?_
                  exact ih _ (by first | (rw [show rmC (pickC T Ck) 11 0 = pickC T Ck 11 0 from rfl, pickC_top]; omega) | (rw [pickC_top]; omega)) (s2_13) (f_26) ((rmC (pickC T Ck))) H locs ls rfl (by assumption) (by first | exact ⟨rfl, rfl⟩ | (have z := pickC_go (T := T) (C := Ck) (by omega) h_1.1 h_1.2; exact ⟨z.2, z.1⟩)) (by rw [e_f_26, e_f_25, e_f_24]; first | exact TR_f h_T h_s h_n (by omega) (by unfold bI; (repeat' split) <;> omega) (by unfold bI; (repeat' split) <;> omega) (by omega) | exact TR_g h_T h_s h_n (by omega) (by unfold bI; (repeat' split) <;> omega) (by omega)) hw (lv_sub hl [2, 3] rfl)
                · refine lv_iload_n hx hb dX7_tries_120 rfl (lv_at hl 1 rfl) ?_
                  refine q_iconst hx hb dX7_tries_121 ?_
                  refine q_icmp_ne (tgt := 129) hx hb dX7_tries_122 (by decide) (by omega) (fun c_122 => ?_) (fun c_122 => ?_)
                  · refine q_iconst hx hb dX7_tries_129 ?_
                    refine q_iadd hx hb dX7_tries_130 ?_
                    refine q_top (y 1) (Int.add_zero _) ?_
                    refine q_iast hx hb hK hw 9 0 rfl rfl (by omega) dX7_tries_131 (fun H locs hw => ?_)
                    have hw : qw D A s.heap (mW g cI cB cZ th len tl ts te tk nu er eo hL hS dp bf dr td s2_12 (cpk ad 0 sa 0 706) hi sl sv (uI f_24 1 (y 1))) H locs := hw
                    obtain ⟨f_27, e_f_27⟩ : ∃ z, z = uI f_24 1 (y 1) := ⟨_, rfl⟩
                    have hw : qw D A s.heap (mW g cI cB cZ th len tl ts te tk nu er eo hL hS dp bf dr td s2_12 (cpk ad 0 sa 0 706) hi sl sv f_27) H locs := by rw [e_f_27]; exact hw
                    refine lv_aload_n hx hb dX7_tries_132 rfl (lv_at hl 2 rfl) ?_
                    refine q_get hx hb hts hown hK hw.1 ci_X7 0 rfl 20 (by decide) fl_X7_36 rfl dX7_tries_133 ?_
                    refine q_iconst hx hb dX7_tries_136 ?_
                    refine lv_dup2_11 hx hb dX7_tries_137 rfl rfl ?_
                    refine q_iald hx hb hK hw.1 9 0 rfl rfl (z := 4) (v := (y 4)) (by omega) (by rw [e_f_27, uI_n _ _ _ (by omega), e_f_24, uI_n _ _ _ (by omega)]) dX7_tries_138 ?_
                    refine lv_aload_n hx hb dX7_tries_139 rfl (lv_at hl 2 rfl) ?_
                    refine q_callM (As := []) (rest := [.int (iI (y 4)), .int (iI 4), .ref (g 9)]) (wr := []) hx hb hml hown hts hK (c_X7_removes (C := (pickC T Ck)) (by exact h_P)) yi_X7_removes ml_X7_228 (by rw [hR]; decide) hw hA [0, 1, 2, 3, 4, 5, 6, 7, 8, 9] [] rfl rfl (by decide) (by decide) (by decide) 0 rfl rfl rfl rfl hl.1 (lv_room (Nat.le_of_ble_eq_true rfl)) dX7_tries_140 ⟨by rw [hR]; exact Nat.zero_le _, by rw [hR]; exact Nat.zero_le _⟩ (fun u_140 H locs hu_140 hw => ?_)
                    obtain ⟨s2_14, rfl⟩ : ∃ z, z = u_140 := ⟨_, rfl⟩
                    have hu_14_0 : WM td s2_14 T (rmC (((pickC T Ck)))) := hu_140
                    have hw : qw D A s.heap (mW g cI cB cZ th len tl ts te tk nu er eo hL hS dp bf dr td s2_14 (cpk ad 0 sa 0 706) hi sl sv f_27) H locs := hw
                    refine q_top (pkn T Ck) (by exact (pickC_st (by omega)).2) ?_
                    refine q_iadd hx hb dX7_tries_143 ?_
                    refine q_iast hx hb hK hw 9 0 rfl rfl (by omega) dX7_tries_144 (fun H locs hw => ?_)
                    have hw : qw D A s.heap (mW g cI cB cZ th len tl ts te tk nu er eo hL hS dp bf dr td s2_14 (cpk ad 0 sa 0 706) hi sl sv (uI f_27 4 (y 4 + pkn T Ck))) H locs := hw
                    obtain ⟨f_28, e_f_28⟩ : ∃ z, z = uI f_27 4 (y 4 + pkn T Ck) := ⟨_, rfl⟩
                    have hw : qw D A s.heap (mW g cI cB cZ th len tl ts te tk nu er eo hL hS dp bf dr td s2_14 (cpk ad 0 sa 0 706) hi sl sv f_28) H locs := by rw [e_f_28]; exact hw
                    refine lv_goto (tgt := 177) hx hb dX7_tries_145 (by decide) ?_
                    refine lv_goto (tgt := 54) hx hb dX7_tries_177 (by decide) ?_
                    exact ih _ (by first | (rw [show rmC (pickC T Ck) 11 0 = pickC T Ck 11 0 from rfl, pickC_top]; omega) | (rw [pickC_top]; omega)) (s2_14) (f_28) ((rmC (pickC T Ck))) H locs ls rfl (by assumption) (by first | exact ⟨rfl, rfl⟩ | (have z := pickC_go (T := T) (C := Ck) (by omega) h_1.1 h_1.2; exact ⟨z.2, z.1⟩)) (by rw [e_f_28, e_f_27, e_f_24]; first | exact TR_f h_T h_s h_n (by omega) (by unfold bI; (repeat' split) <;> omega) (by unfold bI; (repeat' split) <;> omega) (by omega) | exact TR_g h_T h_s h_n (by omega) (by unfold bI; (repeat' split) <;> omega) (by omega)) hw (lv_sub hl [2, 3] rfl)
                  · refine q_iconst hx hb dX7_tries_125 ?_
                    refine lv_goto (tgt := 130) hx hb dX7_tries_126 (by decide) ?_
                    refine q_iadd hx hb dX7_tries_130 ?_
                    refine q_iast hx hb hK hw 9 0 rfl rfl (by omega) dX7_tries_131 (fun H locs hw => ?_)
                    have hw : qw D A s.heap (mW g cI cB cZ th len tl ts te tk nu er eo hL hS dp bf dr td s2_12 (cpk ad 0 sa 0 706) hi sl sv (uI f_24 1 (y 1 + 1))) H locs := hw
                    obtain ⟨f_29, e_f_29⟩ : ∃ z, z = uI f_24 1 (y 1 + 1) := ⟨_, rfl⟩
                    have hw : qw D A s.heap (mW g cI cB cZ th len tl ts te tk nu er eo hL hS dp bf dr td s2_12 (cpk ad 0 sa 0 706) hi sl sv f_29) H locs := by rw [e_f_29]; exact hw
                    refine lv_aload_n hx hb dX7_tries_132 rfl (lv_at hl 2 rfl) ?_
                    refine q_get hx hb hts hown hK hw.1 ci_X7 0 rfl 20 (by decide) fl_X7_36 rfl dX7_tries_133 ?_
                    refine q_iconst hx hb dX7_tries_136 ?_
                    refine lv_dup2_11 hx hb dX7_tries_137 rfl rfl ?_
                    refine q_iald hx hb hK hw.1 9 0 rfl rfl (z := 4) (v := (y 4)) (by omega) (by rw [e_f_29, uI_n _ _ _ (by omega), e_f_24, uI_n _ _ _ (by omega)]) dX7_tries_138 ?_
                    refine lv_aload_n hx hb dX7_tries_139 rfl (lv_at hl 2 rfl) ?_
                    refine q_callM (As := []) (rest := [.int (iI (y 4)), .int (iI 4), .ref (g 9)]) (wr := []) hx hb hml hown hts hK (c_X7_removes (C := (pickC T Ck)) (by exact h_P)) yi_X7_removes ml_X7_228 (by rw [hR]; decide) hw hA [0, 1, 2, 3, 4, 5, 6, 7, 8, 9] [] rfl rfl (by decide) (by decide) (by decide) 0 rfl rfl rfl rfl hl.1 (lv_room (Nat.le_of_ble_eq_true rfl)) dX7_tries_140 ⟨by rw [hR]; exact Nat.zero_le _, by rw [hR]; exact Nat.zero_le _⟩ (fun u_140 H locs hu_140 hw => ?_)
                    obtain ⟨s2_15, rfl⟩ : ∃ z, z = u_140 := ⟨_, rfl⟩
                    have hu_15_0 : WM td s2_15 T (rmC (((pickC T Ck)))) := hu_140
                    have hw : qw D A s.heap (mW g cI cB cZ th len tl ts te tk nu er eo hL hS dp bf dr td s2_15 (cpk ad 0 sa 0 706) hi sl sv f_29) H locs := hw
                    refine q_top (pkn T Ck) (by exact (pickC_st (by omega)).2) ?_
                    refine q_iadd hx hb dX7_tries_143 ?_
                    refine q_iast hx hb hK hw 9 0 rfl rfl (by omega) dX7_tries_144 (fun H locs hw => ?_)
                    have hw : qw D A s.heap (mW g cI cB cZ th len tl ts te tk nu er eo hL hS dp bf dr td s2_15 (cpk ad 0 sa 0 706) hi sl sv (uI f_29 4 (y 4 + pkn T Ck))) H locs := hw
                    obtain ⟨f_30, e_f_30⟩ : ∃ z, z = uI f_29 4 (y 4 + pkn T Ck) := ⟨_, rfl⟩
                    have hw : qw D A s.heap (mW g cI cB cZ th len tl ts te tk nu er eo hL hS dp bf dr td s2_15 (cpk ad 0 sa 0 706) hi sl sv f_30) H locs := by rw [e_f_30]; exact hw
                    refine lv_goto (tgt := 177) hx hb dX7_tries_145 (by decide) ?_
                    refine lv_goto (tgt := 54) hx hb dX7_tries_177 (by decide) ?_
                    exact ih _ (by first | (rw [show rmC (pickC T Ck) 11 0 = pickC T Ck 11 0 from rfl, pickC_top]; omega) | (rw [pickC_top]; omega)) (s2_15) (f_30) ((rmC (pickC T Ck))) H locs ls rfl (by assumption) (by first | exact ⟨rfl, rfl⟩ | (have z := pickC_go (T := T) (C := Ck) (by omega) h_1.1 h_1.2; exact ⟨z.2, z.1⟩)) (by rw [e_f_30, e_f_29, e_f_24]; first | exact TR_f h_T h_s h_n (by omega) (by unfold bI; (repeat' split) <;> omega) (by unfold bI; (repeat' split) <;> omega) (by omega) | exact TR_g h_T h_s h_n (by omega) (by unfold bI; (repeat' split) <;> omega) (by omega)) hw (lv_sub hl [2, 3] rfl)
              · refine q_iconst hx hb dX7_tries_96 ?_
                refine lv_goto (tgt := 101) hx hb dX7_tries_97 (by decide) ?_
                refine q_iadd hx hb dX7_tries_101 ?_
                refine q_iast hx hb hK hw 9 0 rfl rfl (by omega) dX7_tries_102 (fun H locs hw => ?_)
                have hw : qw D A s.heap (mW g cI cB cZ th len tl ts te tk nu er eo hL hS dp bf dr td s2_12 (cpk ad 0 sa 0 706) hi sl sv (uI y 0 (y 0 + 1))) H locs := hw
                obtain ⟨f_31, e_f_31⟩ : ∃ z, z = uI y 0 (y 0 + 1) := ⟨_, rfl⟩
                have hw : qw D A s.heap (mW g cI cB cZ th len tl ts te tk nu er eo hL hS dp bf dr td s2_12 (cpk ad 0 sa 0 706) hi sl sv f_31) H locs := by rw [e_f_31]; exact hw
                refine lv_aload_n hx hb dX7_tries_103 rfl (lv_at hl 2 rfl) ?_
                refine q_get hx hb hts hown hK hw.1 ci_X7 0 rfl 20 (by decide) fl_X7_36 rfl dX7_tries_104 ?_
                refine q_iconst hx hb dX7_tries_107 ?_
                refine lv_dup2_11 hx hb dX7_tries_108 rfl rfl ?_
                refine q_iald hx hb hK hw.1 9 0 rfl rfl (z := 1) (v := (y 1)) (by omega) (by rw [e_f_31, uI_n _ _ _ (by omega)]) dX7_tries_109 ?_
                refine lv_aload_n hx hb dX7_tries_110 rfl (lv_at hl 2 rfl) ?_
                refine q_get hx hb hts hown hK hw.1 ci_X7 0 rfl 14 (by decide) fl_X7_20 rfl dX7_tries_111 ?_
                refine q_iconst hx hb dX7_tries_114 ?_
                refine q_iald hx hb hK hw.1 4 0 rfl rfl (z := 5) (v := (pkr T Ck)) (by omega) (by exact h_P.2.2.2.s5.trans (pickC_st (by omega)).1) dX7_tries_115 ?_
                refine q_iconst hx hb dX7_tries_116 ?_
                refine q_icmp_ne (tgt := 129) hx hb dX7_tries_117 (by decide) (by omega) (fun c_117 => ?_) (fun c_117 => ?_)
                · refine q_iconst hx hb dX7_tries_129 ?_
                  refine q_iadd hx hb dX7_tries_130 ?_
                  refine q_top (y 1) (Int.add_zero _) ?_
                  refine q_iast hx hb hK hw 9 0 rfl rfl (by omega) dX7_tries_131 (fun H locs hw => ?_)
                  have hw : qw D A s.heap (mW g cI cB cZ th len tl ts te tk nu er eo hL hS dp bf dr td s2_12 (cpk ad 0 sa 0 706) hi sl sv (uI f_31 1 (y 1))) H locs := hw
                  obtain ⟨f_32, e_f_32⟩ : ∃ z, z = uI f_31 1 (y 1) := ⟨_, rfl⟩
                  have hw : qw D A s.heap (mW g cI cB cZ th len tl ts te tk nu er eo hL hS dp bf dr td s2_12 (cpk ad 0 sa 0 706) hi sl sv f_32) H locs := by rw [e_f_32]; exact hw
                  refine lv_aload_n hx hb dX7_tries_132 rfl (lv_at hl 2 rfl) ?_
                  refine q_get hx hb hts hown hK hw.1 ci_X7 0 rfl 20 (by decide) fl_X7_36 rfl dX7_tries_133 ?_
                  refine q_iconst hx hb dX7_tries_136 ?_
                  refine lv_dup2_11 hx hb dX7_tries_137 rfl rfl ?_
                  refine q_iald hx hb hK hw.1 9 0 rfl rfl (z := 4) (v := (y 4)) (by omega) (by rw [e_f_32, uI_n _ _ _ (by omega), e_f_31, uI_n _ _ _ (by omega)]) dX7_tries_138 ?_
                  refine lv_aload_n hx hb dX7_tries_139 rfl (lv_at hl 2 rfl) ?_
                  refine q_callM (As := []) (rest := [.int (iI (y 4)), .int (iI 4), .ref (g 9)]) (wr := []) hx hb hml hown hts hK (c_X7_removes (C := (pickC T Ck)) (by exact h_P)) yi_X7_removes ml_X7_228 (by rw [hR]; decide) hw hA [0, 1, 2, 3, 4, 5, 6, 7, 8, 9] [] rfl rfl (by decide) (by decide) (by decide) 0 rfl rfl rfl rfl hl.1 (lv_room (Nat.le_of_ble_eq_true rfl)) dX7_tries_140 ⟨by rw [hR]; exact Nat.zero_le _, by rw [hR]; exact Nat.zero_le _⟩ (fun u_140 H locs hu_140 hw => ?_)
                  obtain ⟨s2_16, rfl⟩ : ∃ z, z = u_140 := ⟨_, rfl⟩
                  have hu_16_0 : WM td s2_16 T (rmC (((pickC T Ck)))) := hu_140
                  have hw : qw D A s.heap (mW g cI cB cZ th len tl ts te tk nu er eo hL hS dp bf dr td s2_16 (cpk ad 0 sa 0 706) hi sl sv f_32) H locs := hw
                  refine q_top (pkn T Ck) (by exact (pickC_st (by omega)).2) ?_
                  refine q_iadd hx hb dX7_tries_143 ?_
                  refine q_iast hx hb hK hw 9 0 rfl rfl (by omega) dX7_tries_144 (fun H locs hw => ?_)
                  have hw : qw D A s.heap (mW g cI cB cZ th len tl ts te tk nu er eo hL hS dp bf dr td s2_16 (cpk ad 0 sa 0 706) hi sl sv (uI f_32 4 (y 4 + pkn T Ck))) H locs := hw
                  obtain ⟨f_33, e_f_33⟩ : ∃ z, z = uI f_32 4 (y 4 + pkn T Ck) := ⟨_, rfl⟩
                  have hw : qw D A s.heap (mW g cI cB cZ th len tl ts te tk nu er eo hL hS dp bf dr td s2_16 (cpk ad 0 sa 0 706) hi sl sv f_33) H locs := by rw [e_f_33]; exact hw
                  refine lv_goto (tgt := 177) hx hb dX7_tries_145 (by decide) ?_
                  refine lv_goto (tgt := 54) hx hb dX7_tries_177 (by decide) ?_
                  exact ih _ (by first | (rw [show rmC (pickC T Ck) 11 0 = pickC T Ck 11 0 from rfl, pickC_top]; omega) | (rw [pickC_top]; omega)) (s2_16) (f_33) ((rmC (pickC T Ck))) H locs ls rfl (by assumption) (by first | exact ⟨rfl, rfl⟩ | (have z := pickC_go (T := T) (C := Ck) (by omega) h_1.1 h_1.2; exact ⟨z.2, z.1⟩)) (by rw [e_f_33, e_f_32, e_f_31]; first | exact TR_f h_T h_s h_n (by omega) (by unfold bI; (repeat' split) <;> omega) (by unfold bI; (repeat' split) <;> omega) (by omega) | exact TR_g h_T h_s h_n (by omega) (by unfold bI; (repeat' split) <;> omega) (by omega)) hw (lv_sub hl [2, 3] rfl)
                · refine lv_iload_n hx hb dX7_tries_120 rfl (lv_at hl 1 rfl) ?_
                  refine q_iconst hx hb dX7_tries_121 ?_
                  refine q_icmp_ne (tgt := 129) hx hb dX7_tries_122 (by decide) (by omega) (fun c_122 => ?_) (fun c_122 => ?_)
                  · refine q_iconst hx hb dX7_tries_129 ?_
                    refine q_iadd hx hb dX7_tries_130 ?_
                    refine q_top (y 1) (Int.add_zero _) ?_
                    refine q_iast hx hb hK hw 9 0 rfl rfl (by omega) dX7_tries_131 (fun H locs hw => ?_)
                    have hw : qw D A s.heap (mW g cI cB cZ th len tl ts te tk nu er eo hL hS dp bf dr td s2_12 (cpk ad 0 sa 0 706) hi sl sv (uI f_31 1 (y 1))) H locs := hw
                    obtain ⟨f_34, e_f_34⟩ : ∃ z, z = uI f_31 1 (y 1) := ⟨_, rfl⟩
                    have hw : qw D A s.heap (mW g cI cB cZ th len tl ts te tk nu er eo hL hS dp bf dr td s2_12 (cpk ad 0 sa 0 706) hi sl sv f_34) H locs := by rw [e_f_34]; exact hw
                    refine lv_aload_n hx hb dX7_tries_132 rfl (lv_at hl 2 rfl) ?_
                    refine q_get hx hb hts hown hK hw.1 ci_X7 0 rfl 20 (by decide) fl_X7_36 rfl dX7_tries_133 ?_
                    refine q_iconst hx hb dX7_tries_136 ?_
                    refine lv_dup2_11 hx hb dX7_tries_137 rfl rfl ?_
                    refine q_iald hx hb hK hw.1 9 0 rfl rfl (z := 4) (v := (y 4)) (by omega) (by rw [e_f_34, uI_n _ _ _ (by omega), e_f_31, uI_n _ _ _ (by omega)]) dX7_tries_138 ?_
                    refine lv_aload_n hx hb dX7_tries_139 rfl (lv_at hl 2 rfl) ?_
                    refine q_callM (As := []) (rest := [.int (iI (y 4)), .int (iI 4), .ref (g 9)]) (wr := []) hx hb hml hown hts hK (c_X7_removes (C := (pickC T Ck)) (by exact h_P)) yi_X7_removes ml_X7_228 (by rw [hR]; decide) hw hA [0, 1, 2, 3, 4, 5, 6, 7, 8, 9] [] rfl rfl (by decide) (by decide) (by decide) 0 rfl rfl rfl rfl hl.1 (lv_room (Nat.le_of_ble_eq_true rfl)) dX7_tries_140 ⟨by rw [hR]; exact Nat.zero_le _, by rw [hR]; exact Nat.zero_le _⟩ (fun u_140 H locs hu_140 hw => ?_)
                    obtain ⟨s2_17, rfl⟩ : ∃ z, z = u_140 := ⟨_, rfl⟩
                    have hu_17_0 : WM td s2_17 T (rmC (((pickC T Ck)))) := hu_140
                    have hw : qw D A s.heap (mW g cI cB cZ th len tl ts te tk nu er eo hL hS dp bf dr td s2_17 (cpk ad 0 sa 0 706) hi sl sv f_34) H locs := hw
                    refine q_top (pkn T Ck) (by exact (pickC_st (by omega)).2) ?_
                    refine q_iadd hx hb dX7_tries_143 ?_
                    refine q_iast hx hb hK hw 9 0 rfl rfl (by omega) dX7_tries_144 (fun H locs hw => ?_)
                    have hw : qw D A s.heap (mW g cI cB cZ th len tl ts te tk nu er eo hL hS dp bf dr td s2_17 (cpk ad 0 sa 0 706) hi sl sv (uI f_34 4 (y 4 + pkn T Ck))) H locs := hw
                    obtain ⟨f_35, e_f_35⟩ : ∃ z, z = uI f_34 4 (y 4 + pkn T Ck) := ⟨_, rfl⟩
                    have hw : qw D A s.heap (mW g cI cB cZ th len tl ts te tk nu er eo hL hS dp bf dr td s2_17 (cpk ad 0 sa 0 706) hi sl sv f_35) H locs := by rw [e_f_35]; exact hw
                    refine lv_goto (tgt := 177) hx hb dX7_tries_145 (by decide) ?_
                    refine lv_goto (tgt := 54) hx hb dX7_tries_177 (by decide) ?_
                    exact ih _ (by first | (rw [show rmC (pickC T Ck) 11 0 = pickC T Ck 11 0 from rfl, pickC_top]; omega) | (rw [pickC_top]; omega)) (s2_17) (f_35) ((rmC (pickC T Ck))) H locs ls rfl (by assumption) (by first | exact ⟨rfl, rfl⟩ | (have z := pickC_go (T := T) (C := Ck) (by omega) h_1.1 h_1.2; exact ⟨z.2, z.1⟩)) (by rw [e_f_35, e_f_34, e_f_31]; first | exact TR_f h_T h_s h_n (by omega) (by unfold bI; (repeat' split) <;> omega) (by unfold bI; (repeat' split) <;> omega) (by omega) | exact TR_g h_T h_s h_n (by omega) (by unfold bI; (repeat' split) <;> omega) (by omega)) hw (lv_sub hl [2, 3] rfl)
                  · refine q_iconst hx hb dX7_tries_125 ?_
                    refine lv_goto (tgt := 130) hx hb dX7_tries_126 (by decide) ?_
                    refine q_iadd hx hb dX7_tries_130 ?_
                    refine q_iast hx hb hK hw 9 0 rfl rfl (by omega) dX7_tries_131 (fun H locs hw => ?_)
                    have hw : qw D A s.heap (mW g cI cB cZ th len tl ts te tk nu er eo hL hS dp bf dr td s2_12 (cpk ad 0 sa 0 706) hi sl sv (uI f_31 1 (y 1 + 1))) H locs := hw
                    obtain ⟨f_36, e_f_36⟩ : ∃ z, z = uI f_31 1 (y 1 + 1) := ⟨_, rfl⟩
                    have hw : qw D A s.heap (mW g cI cB cZ th len tl ts te tk nu er eo hL hS dp bf dr td s2_12 (cpk ad 0 sa 0 706) hi sl sv f_36) H locs := by rw [e_f_36]; exact hw
                    refine lv_aload_n hx hb dX7_tries_132 rfl (lv_at hl 2 rfl) ?_
                    refine q_get hx hb hts hown hK hw.1 ci_X7 0 rfl 20 (by decide) fl_X7_36 rfl dX7_tries_133 ?_
                    refine q_iconst hx hb dX7_tries_136 ?_
                    refine lv_dup2_11 hx hb dX7_tries_137 rfl rfl ?_
                    refine q_iald hx hb hK hw.1 9 0 rfl rfl (z := 4) (v := (y 4)) (by omega) (by rw [e_f_36, uI_n _ _ _ (by omega), e_f_31, uI_n _ _ _ (by omega)]) dX7_tries_138 ?_
                    refine lv_aload_n hx hb dX7_tries_139 rfl (lv_at hl 2 rfl) ?_
                    refine q_callM (As := []) (rest := [.int (iI (y 4)), .int (iI 4), .ref (g 9)]) (wr := []) hx hb hml hown hts hK (c_X7_removes (C := (pickC T Ck)) (by exact h_P)) yi_X7_removes ml_X7_228 (by rw [hR]; decide) hw hA [0, 1, 2, 3, 4, 5, 6, 7, 8, 9] [] rfl rfl (by decide) (by decide) (by decide) 0 rfl rfl rfl rfl hl.1 (lv_room (Nat.le_of_ble_eq_true rfl)) dX7_tries_140 ⟨by rw [hR]; exact Nat.zero_le _, by rw [hR]; exact Nat.zero_le _⟩ (fun u_140 H locs hu_140 hw => ?_)
                    obtain ⟨s2_18, rfl⟩ : ∃ z, z = u_140 := ⟨_, rfl⟩
                    have hu_18_0 : WM td s2_18 T (rmC (((pickC T Ck)))) := hu_140
                    have hw : qw D A s.heap (mW g cI cB cZ th len tl ts te tk nu er eo hL hS dp bf dr td s2_18 (cpk ad 0 sa 0 706) hi sl sv f_36) H locs := hw
                    refine q_top (pkn T Ck) (by exact (pickC_st (by omega)).2) ?_
                    refine q_iadd hx hb dX7_tries_143 ?_
                    refine q_iast hx hb hK hw 9 0 rfl rfl (by omega) dX7_tries_144 (fun H locs hw => ?_)
                    have hw : qw D A s.heap (mW g cI cB cZ th len tl ts te tk nu er eo hL hS dp bf dr td s2_18 (cpk ad 0 sa 0 706) hi sl sv (uI f_36 4 (y 4 + pkn T Ck))) H locs := hw
                    obtain ⟨f_37, e_f_37⟩ : ∃ z, z = uI f_36 4 (y 4 + pkn T Ck) := ⟨_, rfl⟩
                    have hw : qw D A s.heap (mW g cI cB cZ th len tl ts te tk nu er eo hL hS dp bf dr td s2_18 (cpk ad 0 sa 0 706) hi sl sv f_37) H locs := by rw [e_f_37]; exact hw
                    refine lv_goto (tgt := 177) hx hb dX7_tries_145 (by decide) ?_
                    refine lv_goto (tgt := 54) hx hb dX7_tries_177 (by decide) ?_
                    exact ih _ (by first | (rw [show rmC (pickC T Ck) 11 0 = pickC T Ck 11 0 from rfl, pickC_top]; omega) | (rw [pickC_top]; omega)) (s2_18) (f_37) ((rmC (pickC T Ck))) H locs ls rfl (by assumption) (by first | exact ⟨rfl, rfl⟩ | (have z := pickC_go (T := T) (C := Ck) (by omega) h_1.1 h_1.2; exact ⟨z.2, z.1⟩)) (by rw [e_f_37, e_f_36, e_f_31]; first | exact TR_f h_T h_s h_n (by omega) (by unfold bI; (repeat' split) <;> omega) (by unfold bI; (repeat' split) <;> omega) (by omega) | exact TR_g h_T h_s h_n (by omega) (by unfold bI; (repeat' split) <;> omega) (by omega)) hw (lv_sub hl [2, 3] rfl)
        exact loop_54 _ (s2_10) (y) (trB C pq) H locs ls rfl (by first | (rw [trB_n (by omega)]; assumption) | (rw [trB_y (by omega), ]; exact WM_li hM hp)) (by exact trB_cl hfr (by omega)) (by exact TR_0 (fun k a b => h_z k a (by omega)) (by rw [trB_top]; omega) (by omega)) hw (lv_sub hl [1, 2] rfl)
    · refine lv_aload_n hx hb dX7_tries_7 rfl (lv_at hl 0 rfl) ?_
      refine q_get hx hb hts hown hK hw.1 ci_X7 0 rfl 20 (by decide) fl_X7_36 rfl dX7_tries_8 ?_
      refine lv_iload_n hx hb dX7_tries_11 rfl (lv_at hl 2 rfl) ?_
      refine q_iconst hx hb dX7_tries_12 ?_
      refine q_iast hx hb hK hw 9 0 rfl rfl (by omega) dX7_tries_13 (fun H locs hw => ?_)
      have hw : qw D A s.heap (mW g cI cB cZ th len tl ts te tk nu er eo hL hS dp bf dr td sa ad hi sl sv (uI y i 0)) H locs := hw
      obtain ⟨f_38, e_f_38⟩ : ∃ z, z = uI y i 0 := ⟨_, rfl⟩
      have hw : qw D A s.heap (mW g cI cB cZ th len tl ts te tk nu er eo hL hS dp bf dr td sa ad hi sl sv f_38) H locs := by rw [e_f_38]; exact hw
      refine lv_iinc (v := iI (i + 1)) (lv' := [(2, .int (iI (i + 1))), (0, .ref (g 0)), (1, .int (iI pq))]) hx hb dX7_tries_14 hl (k := 2) rfl (iI_add _ _) (by decide) rfl (fun ls hl => ?_)
      refine lv_goto (tgt := 2) hx hb dX7_tries_17 (by decide) ?_
      exact ih _ (by omega) (f_38) (i + 1) H locs ls rfl (by intro k a b; rw [e_f_38]; unfold uI; split; rfl; exact h_z k a (by omega)) (by first | omega | assumption | rfl) hw (lv_sub hl [1, 2, 0] rfl)
  exact loop_2 _ (tr) (0) H locs ls rfl (by intro k a b; omega) (by first | omega | assumption | rfl) hw (lv_sub hl [1, 2, 0] rfl)

set_option maxHeartbeats 4000000 in
set_option maxRecDepth 100000 in
theorem c_X7_ahead_no (pq : Int) (w : Int) (hk : rg pq) (hw0 : rg w) (h0 : ¬ (101 ≤ pq ∧ pq ≤ 300 ∧ 0 ≤ w ∧ w ≤ 4)) : qM l D (tyG cI cB cZ cS cJ) yX7_ahead cX7_ahead 3 (Option.some FieldType.int) 1 22 [.ref (g 0), .int (iI pq), .int (iI w)] (mW g cI cB cZ th len tl ts te tk nu er eo hL hS dp bf dr td sa ad hi sl sv tr) (fun u : Unit => True) (fun u => some (.int (iI 0))) (fun u => (mW g cI cB cZ 1 len tl ts te tk nu er eo hL hS dp bf dr td sa ad hi sl sv tr)) := by
  refine qM_enterI (val := fun u => iI 0) (by decide) (Nat.le_of_ble_eq_true rfl) (fun u hu => ⟨rfl, nar_i _⟩) (fun p e R s m args below meth c Q ls A X hR hA hw hl hret => ?_)
  obtain ⟨hx, hb, hml, hown, hts, hK⟩ := X
  have hl : lv_has ls 3 [(0, .ref (g 0)), (1, .int (iI pq)), (2, .int (iI w))] := hl
  suffices K : ∀ (H : Heap) (locs : List Loc), qw D A s.heap (mW g cI cB cZ th len tl ts te tk nu er eo hL hS dp bf dr td sa ad hi sl sv tr) H locs → W p l e R s m args below meth c H locs 0 0 Q (F0 m 0 ls []) from K s.heap [] hw
  clear hw
  intro H locs hw
  refine lv_aload_n hx hb dX7_ahead_0 rfl (lv_at hl 0 rfl) ?_
  refine lv_iload_n hx hb dX7_ahead_1 rfl (lv_at hl 1 rfl) ?_
  refine q_bipush hx hb dX7_ahead_2 rfl ?_
  refine q_sipush hx hb dX7_ahead_4 rfl ?_
  refine q_callPS (As := [.int (iI pq), .int (iI 101), .int (iI 300)]) (rest := [.ref (g 0)]) hx hb hml hown hts hK (c_X7_within (pq) (101) (300) (by first | omega | assumption) (by first | omega | assumption) (by first | omega | assumption)) yt_X7_within ml_X7_72 (by rw [hR]; decide) (show va_P D vwCl [] _ from fun k q h => by simp at h)  rfl rfl hl.1 (lv_room (Nat.le_of_ble_eq_true rfl)) dX7_ahead_7 ⟨by rw [hR]; exact Nat.zero_le _, by rw [hR]; exact Nat.zero_le _⟩ ?_
  refine q_ifb_eq (tgt := 26) hx hb dX7_ahead_10 (by decide) (fun c_10 => ?_) (fun c_10 => ?_)
  · refine q_iconst hx hb dX7_ahead_26 ?_
    refine q_put hx hb hts hown hK hw ci_X7 0 rfl 0 (by decide) fl_X7_45 rfl rfl rfl (Nat.le_of_ble_eq_true rfl) dX7_ahead_27 (fun H locs hw => ?_)
    have hw : qw D A s.heap (mW g cI cB cZ 1 len tl ts te tk nu er eo hL hS dp bf dr td sa ad hi sl sv tr) H locs := hw
    refine lv_aload_n hx hb dX7_ahead_30 rfl (lv_at hl 0 rfl) ?_
    refine q_get hx hb hts hown hK hw.1 ci_X7 0 rfl 0 (by decide) fl_X7_45 rfl dX7_ahead_31 ?_
    refine q_if_le (tgt := 39) hx hb dX7_ahead_34 (by decide) (by omega) (fun c_34 => absurd c_34 (by omega)) (fun c_34 => ?_)
    refine q_iconst hx hb dX7_ahead_37 ?_
    exact hret () H locs 38 ls trivial hw dX7_ahead_38
  · refine lv_iload_n hx hb dX7_ahead_13 rfl (lv_at hl 2 rfl) ?_
    refine q_iconst hx hb dX7_ahead_14 ?_
    refine q_iconst hx hb dX7_ahead_15 ?_
    refine q_callPS (As := [.int (iI w), .int (iI 0), .int (iI 4)]) (rest := [.ref (g 0)]) hx hb hml hown hts hK (c_X7_within (w) (0) (4) (by first | omega | assumption) (by first | omega | assumption) (by first | omega | assumption)) yt_X7_within ml_X7_72 (by rw [hR]; decide) (show va_P D vwCl [] _ from fun k q h => by simp at h)  rfl rfl hl.1 (lv_room (Nat.le_of_ble_eq_true rfl)) dX7_ahead_16 ⟨by rw [hR]; exact Nat.zero_le _, by rw [hR]; exact Nat.zero_le _⟩ ?_
    refine q_ifb_eq (tgt := 26) hx hb dX7_ahead_19 (by decide) (fun c_19 => ?_) (fun c_19 => absurd c_19 (by omega))
    refine q_iconst hx hb dX7_ahead_26 ?_
    refine q_put hx hb hts hown hK hw ci_X7 0 rfl 0 (by decide) fl_X7_45 rfl rfl rfl (Nat.le_of_ble_eq_true rfl) dX7_ahead_27 (fun H locs hw => ?_)
    have hw : qw D A s.heap (mW g cI cB cZ 1 len tl ts te tk nu er eo hL hS dp bf dr td sa ad hi sl sv tr) H locs := hw
    refine lv_aload_n hx hb dX7_ahead_30 rfl (lv_at hl 0 rfl) ?_
    refine q_get hx hb hts hown hK hw.1 ci_X7 0 rfl 0 (by decide) fl_X7_45 rfl dX7_ahead_31 ?_
    refine q_if_le (tgt := 39) hx hb dX7_ahead_34 (by decide) (by omega) (fun c_34 => absurd c_34 (by omega)) (fun c_34 => ?_)
    refine q_iconst hx hb dX7_ahead_37 ?_
    exact hret () H locs 38 ls trivial hw dX7_ahead_38

set_option maxHeartbeats 4000000 in
set_option maxRecDepth 100000 in
theorem c_X7_ahead (pq : Int) (w : Int) (hM : WM td sa T C) (hfr : FR C) (hp : 101 ≤ pq ∧ pq ≤ 300) (h0 : 0 ≤ w ∧ w ≤ 4) : qM l D (tyG cI cB cZ cS cJ) yX7_ahead cX7_ahead 3 (Option.some FieldType.int) 5 118 [.ref (g 0), .int (iI pq), .int (iI w)] (mW g cI cB cZ th len tl ts te tk nu er eo hL hS dp bf dr td sa ad hi sl sv tr) (fun u : (Int → Int) × (Int → Int) × (Int → Int) => (WM td ((u.1)) T C)) (fun u => some (.int (iI (trA T C pq w)))) (fun u => (mW g cI cB cZ 0 len tl ts te tk nu er eo hL hS dp bf dr td (u.1) (u.2.1) hi sl sv (u.2.2))) := by
  have hsc := hM.sc
  have hlm := hM.lm
  have hB : BB T C := hM.2.2.1.hB hM.1
  refine qM_enterI (val := fun u => iI (trA T C pq w)) (by decide) (Nat.le_of_ble_eq_true rfl) (fun u hu => ⟨rfl, nar_i _⟩) (fun p e R s m args below meth c Q ls A X hR hA hw hl hret => ?_)
  obtain ⟨hx, hb, hml, hown, hts, hK⟩ := X
  have hl : lv_has ls 3 [(0, .ref (g 0)), (1, .int (iI pq)), (2, .int (iI w))] := hl
  suffices K : ∀ (H : Heap) (locs : List Loc), qw D A s.heap (mW g cI cB cZ th len tl ts te tk nu er eo hL hS dp bf dr td sa ad hi sl sv tr) H locs → W p l e R s m args below meth c H locs 0 0 Q (F0 m 0 ls []) from K s.heap [] hw
  clear hw
  intro H locs hw
  refine lv_aload_n hx hb dX7_ahead_0 rfl (lv_at hl 0 rfl) ?_
  refine lv_iload_n hx hb dX7_ahead_1 rfl (lv_at hl 1 rfl) ?_
  refine q_bipush hx hb dX7_ahead_2 rfl ?_
  refine q_sipush hx hb dX7_ahead_4 rfl ?_
  refine q_callPS (As := [.int (iI pq), .int (iI 101), .int (iI 300)]) (rest := [.ref (g 0)]) hx hb hml hown hts hK (c_X7_within (pq) (101) (300) (by first | omega | assumption) (by first | omega | assumption) (by first | omega | assumption)) yt_X7_within ml_X7_72 (by rw [hR]; decide) (show va_P D vwCl [] _ from fun k q h => by simp at h)  rfl rfl hl.1 (lv_room (Nat.le_of_ble_eq_true rfl)) dX7_ahead_7 ⟨by rw [hR]; exact Nat.zero_le _, by rw [hR]; exact Nat.zero_le _⟩ ?_
  refine q_ifb_eq (tgt := 26) hx hb dX7_ahead_10 (by decide) (fun c_10 => absurd c_10 (by omega)) (fun c_10 => ?_)
  refine lv_iload_n hx hb dX7_ahead_13 rfl (lv_at hl 2 rfl) ?_
  refine q_iconst hx hb dX7_ahead_14 ?_
  refine q_iconst hx hb dX7_ahead_15 ?_
  refine q_callPS (As := [.int (iI w), .int (iI 0), .int (iI 4)]) (rest := [.ref (g 0)]) hx hb hml hown hts hK (c_X7_within (w) (0) (4) (by first | omega | assumption) (by first | omega | assumption) (by first | omega | assumption)) yt_X7_within ml_X7_72 (by rw [hR]; decide) (show va_P D vwCl [] _ from fun k q h => by simp at h)  rfl rfl hl.1 (lv_room (Nat.le_of_ble_eq_true rfl)) dX7_ahead_16 ⟨by rw [hR]; exact Nat.zero_le _, by rw [hR]; exact Nat.zero_le _⟩ ?_
  refine q_ifb_eq (tgt := 26) hx hb dX7_ahead_19 (by decide) (fun c_19 => absurd c_19 (by omega)) (fun c_19 => ?_)
  refine q_iconst hx hb dX7_ahead_22 ?_
  refine lv_goto (tgt := 27) hx hb dX7_ahead_23 (by decide) ?_
  refine q_put hx hb hts hown hK hw ci_X7 0 rfl 0 (by decide) fl_X7_45 rfl rfl rfl (Nat.le_of_ble_eq_true rfl) dX7_ahead_27 (fun H locs hw => ?_)
  have hw : qw D A s.heap (mW g cI cB cZ 0 len tl ts te tk nu er eo hL hS dp bf dr td sa ad hi sl sv tr) H locs := hw
  refine lv_aload_n hx hb dX7_ahead_30 rfl (lv_at hl 0 rfl) ?_
  refine q_get hx hb hts hown hK hw.1 ci_X7 0 rfl 0 (by decide) fl_X7_45 rfl dX7_ahead_31 ?_
  refine q_if_le (tgt := 39) hx hb dX7_ahead_34 (by decide) (by omega) (fun c_34 => ?_) (fun c_34 => absurd c_34 (by omega))
  refine lv_aload_n hx hb dX7_ahead_39 rfl (lv_at hl 0 rfl) ?_
  refine lv_iload_n hx hb dX7_ahead_40 rfl (lv_at hl 1 rfl) ?_
  refine q_callM (As := [.int (iI pq)]) (rest := []) (wr := []) hx hb hml hown hts hK (c_X7_tries (C := C) (pq) (by first | omega | assumption) (by first | omega | assumption) (by first | omega | assumption)) yi_X7_tries ml_X7_246 (by rw [hR]; decide) hw hA [0, 1, 2, 3, 4, 5, 6, 7, 8, 9] [] rfl rfl (by decide) (by decide) (by decide) 0 rfl rfl rfl rfl hl.1 (lv_room (Nat.le_of_ble_eq_true rfl)) dX7_ahead_41 ⟨by rw [hR]; exact Nat.zero_le _, by rw [hR]; exact Nat.zero_le _⟩ (fun u_41 H locs hu_41 hw => ?_)
  obtain ⟨s2_1, a2_1, t2_1⟩ := u_41
  obtain ⟨hu_1_0, hu_1_1⟩ : (WM td s2_1 T ((C))) ∧ (∀ k : Int, 0 ≤ k → k < 5 → t2_1 k = trA T ((C)) pq k ∧ 0 ≤ t2_1 k ∧ t2_1 k ≤ 80) := hu_41
  have hw : qw D A s.heap (mW g cI cB cZ 0 len tl ts te tk nu er eo hL hS dp bf dr td s2_1 a2_1 hi sl sv t2_1) H locs := hw
  have h_t : ∀ k : Int, 0 ≤ k → k < 5 → t2_1 k = trA T C pq k ∧ 0 ≤ t2_1 k ∧ t2_1 k ≤ 80 := by assumption
  refine lv_aload_n hx hb dX7_ahead_44 rfl (lv_at hl 0 rfl) ?_
  refine q_get hx hb hts hown hK hw.1 ci_X7 0 rfl 20 (by decide) fl_X7_36 rfl dX7_ahead_45 ?_
  refine lv_iload_n hx hb dX7_ahead_48 rfl (lv_at hl 2 rfl) ?_
  refine q_iald hx hb hK hw.1 9 0 rfl rfl (z := w) (v := (trA T C pq w)) (by omega) (by exact (h_t w (by omega) (by omega)).1) dX7_ahead_49 ?_
  exact hret (s2_1, a2_1, t2_1) H locs 50 ls (by assumption) hw dX7_ahead_50

set_option maxHeartbeats 4000000 in
set_option maxRecDepth 100000 in
theorem c_X7_bestPercent (hM : WM td sa T C) (hfr : FR C) : qM l D (tyG cI cB cZ cS cJ) yX7_bestPercent cX7_bestPercent 5 (Option.some FieldType.int) 5 118 [.ref (g 0)] (mW g cI cB cZ th len tl ts te tk nu er eo hL hS dp bf dr td sa ad hi sl sv tr) (fun u : (Int → Int) × (Int → Int) × (Int → Int) × (Int) => (WM td ((u.1)) T C) ∧ (∃ v : Int, bpI (bpV T C) 301 ((u.2.2.2)) v) ∧ (0 - 1 ≤ ((u.2.2.2)) ∧ ((u.2.2.2)) ≤ 300)) (fun u => some (.int (iI (u.2.2.2)))) (fun u => (mW g cI cB cZ 0 len tl ts te tk nu er eo hL hS dp bf dr td (u.1) (u.2.1) hi sl sv (u.2.2.1))) := by
  have hsc := hM.sc
  have hlm := hM.lm
  have hB : BB T C := hM.2.2.1.hB hM.1
  refine qM_enterI (val := fun u => iI (u.2.2.2)) (by decide) (Nat.le_of_ble_eq_true rfl) (fun u hu => ⟨rfl, nar_i _⟩) (fun p e R s m args below meth c Q ls A X hR hA hw hl hret => ?_)
  obtain ⟨hx, hb, hml, hown, hts, hK⟩ := X
  have hl : lv_has ls 5 [(0, .ref (g 0))] := hl
  suffices K : ∀ (H : Heap) (locs : List Loc), qw D A s.heap (mW g cI cB cZ th len tl ts te tk nu er eo hL hS dp bf dr td sa ad hi sl sv tr) H locs → W p l e R s m args below meth c H locs 0 0 Q (F0 m 0 ls []) from K s.heap [] hw
  clear hw
  intro H locs hw
  refine lv_aload_n hx hb dX7_bestPercent_0 rfl (lv_at hl 0 rfl) ?_
  refine q_iconst hx hb dX7_bestPercent_1 ?_
  refine q_put hx hb hts hown hK hw ci_X7 0 rfl 0 (by decide) fl_X7_45 rfl rfl rfl (Nat.le_of_ble_eq_true rfl) dX7_bestPercent_2 (fun H locs hw => ?_)
  have hw : qw D A s.heap (mW g cI cB cZ 0 len tl ts te tk nu er eo hL hS dp bf dr td sa ad hi sl sv tr) H locs := hw
  refine q_iconst hx hb dX7_bestPercent_5 ?_
  refine lv_istore_n (lv' := [(1, .int (iI (-1))), (0, .ref (g 0))]) hx hb dX7_bestPercent_6 rfl hl (by decide) rfl (fun ls hl => ?_)
  refine q_iconst hx hb dX7_bestPercent_7 ?_
  refine lv_istore_n (lv' := [(2, .int (iI 0)), (1, .int (iI (-1))), (0, .ref (g 0))]) hx hb dX7_bestPercent_8 rfl hl (by decide) rfl (fun ls hl => ?_)
  refine q_bipush hx hb dX7_bestPercent_9 rfl ?_
  refine lv_istore_n (lv' := [(3, .int (iI 101)), (2, .int (iI 0)), (1, .int (iI (-1))), (0, .ref (g 0))]) hx hb dX7_bestPercent_11 rfl hl (by decide) rfl (fun ls hl => ?_)
  have loop_12 : ∀ (fu : Nat) (x : Int → Int) (a : Int → Int) (y : Int → Int) (b : Int) (v : Int) (i : Int) (H : Heap) (locs : List Loc) (ls : Array Slot), (301 - i).toNat = fu → (WM td x T C) → (101 ≤ i ∧ i ≤ 301) → (bpI (bpV T C) i b v) → (0 - 1 ≤ b ∧ b ≤ 300 ∧ 0 ≤ v ∧ v ≤ 160) → qw D A s.heap (mW g cI cB cZ 0 len tl ts te tk nu er eo hL hS dp bf dr td x a hi sl sv y) H locs → lv_has ls 5 [(0, .ref (g 0)), (1, .int (iI b)), (2, .int (iI v)), (3, .int (iI i))] → W p l e R s m args below meth c H locs 0 0 Q (F0 m 12 ls []) := by
    intro fu
    induction fu using Nat.strongRecOn with
    | ind fu ih =>
    intro x a y b v i H locs ls hn_12 h_M h_i h_b h_v hw hl
    refine lv_iload_n hx hb dX7_bestPercent_12 rfl (lv_at hl 3 rfl) ?_
    refine q_sipush hx hb dX7_bestPercent_13 rfl ?_
    refine q_icmp_gt (tgt := 64) hx hb dX7_bestPercent_16 (by decide) (by omega) (fun c_16 => ?_) (fun c_16 => ?_)
    · refine lv_iload_n hx hb dX7_bestPercent_64 rfl (lv_at hl 1 rfl) ?_
      exact hret (x, a, y, b) H locs 65 ls ⟨(by assumption), (by exact ⟨v, (show i = 301 by omega) ▸ h_b⟩), (by exact ⟨h_v.1, h_v.2.1⟩)⟩ hw dX7_bestPercent_65
    · refine lv_aload_n hx hb dX7_bestPercent_19 rfl (lv_at hl 0 rfl) ?_
      refine lv_iload_n hx hb dX7_bestPercent_20 rfl (lv_at hl 3 rfl) ?_
      refine q_callM (As := [.int (iI i)]) (rest := []) (wr := []) hx hb hml hown hts hK (c_X7_tries (C := C) (i) (by exact h_M) (by first | omega | assumption) (by first | omega | assumption)) yi_X7_tries ml_X7_246 (by rw [hR]; decide) hw hA [0, 1, 2, 3, 4, 5, 6, 7, 8, 9] [] rfl rfl (by decide) (by decide) (by decide) 0 rfl rfl rfl rfl hl.1 (lv_room (Nat.le_of_ble_eq_true rfl)) dX7_bestPercent_21 ⟨by rw [hR]; exact Nat.zero_le _, by rw [hR]; exact Nat.zero_le _⟩ (fun u_21 H locs hu_21 hw => ?_)
      obtain ⟨s2_1, a2_1, t2_1⟩ := u_21
      obtain ⟨hu_1_0, hu_1_1⟩ : (WM td s2_1 T ((C))) ∧ (∀ k : Int, 0 ≤ k → k < 5 → t2_1 k = trA T ((C)) i k ∧ 0 ≤ t2_1 k ∧ t2_1 k ≤ 80) := hu_21
      have hw : qw D A s.heap (mW g cI cB cZ 0 len tl ts te tk nu er eo hL hS dp bf dr td s2_1 a2_1 hi sl sv t2_1) H locs := hw
      have h_t : ∀ k : Int, 0 ≤ k → k < 5 → t2_1 k = trA T C i k ∧ 0 ≤ t2_1 k ∧ t2_1 k ≤ 80 := by assumption
      have q_1 := h_t 1 (by decide) (by decide)
      have q_2 := h_t 2 (by decide) (by decide)
      refine lv_aload_n hx hb dX7_bestPercent_24 rfl (lv_at hl 0 rfl) ?_
      refine q_get hx hb hts hown hK hw.1 ci_X7 0 rfl 20 (by decide) fl_X7_36 rfl dX7_bestPercent_25 ?_
      refine q_iconst hx hb dX7_bestPercent_28 ?_
      refine q_iald hx hb hK hw.1 9 0 rfl rfl (z := 1) (v := (trA T C i 1)) (by omega) (by exact q_1.1) dX7_bestPercent_29 ?_
      refine lv_aload_n hx hb dX7_bestPercent_30 rfl (lv_at hl 0 rfl) ?_
      refine q_get hx hb hts hown hK hw.1 ci_X7 0 rfl 20 (by decide) fl_X7_36 rfl dX7_bestPercent_31 ?_
      refine q_iconst hx hb dX7_bestPercent_34 ?_
      refine q_iald hx hb hK hw.1 9 0 rfl rfl (z := 2) (v := (trA T C i 2)) (by omega) (by exact q_2.1) dX7_bestPercent_35 ?_
      refine q_iadd hx hb dX7_bestPercent_36 ?_
      refine lv_istore (lv' := [(4, .int (iI (trA T C i 1 + trA T C i 2))), (0, .ref (g 0)), (1, .int (iI b)), (2, .int (iI v)), (3, .int (iI i))]) hx hb dX7_bestPercent_37 hl (by decide) rfl (fun ls hl => ?_)
      refine lv_iload_n hx hb dX7_bestPercent_39 rfl (lv_at hl 2 rfl) ?_
      refine q_iconst hx hb dX7_bestPercent_40 ?_
      refine q_icmp_eq (tgt := 53) hx hb dX7_bestPercent_41 (by decide) (by omega) (fun c_41 => ?_) (fun c_41 => ?_)
      · refine lv_iload_n hx hb dX7_bestPercent_53 rfl (lv_at hl 4 rfl) ?_
        refine lv_istore_n (lv' := [(1, .int (iI i)), (4, .int (iI (trA T C i 1 + trA T C i 2))), (0, .ref (g 0)), (2, .int (iI v)), (3, .int (iI i))]) hx hb dX7_bestPercent_54 rfl hl (by decide) rfl (fun ls hl => ?_)
        refine lv_iload hx hb dX7_bestPercent_55 (lv_at hl 1 rfl) ?_
        refine lv_istore_n (lv' := [(2, .int (iI (trA T C i 1 + trA T C i 2))), (1, .int (iI i)), (4, .int (iI (trA T C i 1 + trA T C i 2))), (0, .ref (g 0)), (3, .int (iI i))]) hx hb dX7_bestPercent_57 rfl hl (by decide) rfl (fun ls hl => ?_)
        refine lv_iinc (v := iI (i + 1)) (lv' := [(3, .int (iI (i + 1))), (2, .int (iI (trA T C i 1 + trA T C i 2))), (1, .int (iI i)), (4, .int (iI (trA T C i 1 + trA T C i 2))), (0, .ref (g 0))]) hx hb dX7_bestPercent_58 hl (k := 4) rfl (iI_add _ _) (by decide) rfl (fun ls hl => ?_)
        refine lv_goto (tgt := 12) hx hb dX7_bestPercent_61 (by decide) ?_
        exact ih _ (by omega) (s2_1) (a2_1) (t2_1) (i) (trA T C i 1 + trA T C i 2) (i + 1) H locs ls rfl (by assumption) (by first | omega | assumption | rfl) (by first | exact bpI_n h_b (by omega) rfl (by omega) | exact bpI_o h_b (by omega) (show ¬ trA T C i 1 + trA T C i 2 < v by omega)) (by first | omega | assumption | rfl) hw (lv_sub hl [4, 2, 1, 0] rfl)
      · refine lv_iload hx hb dX7_bestPercent_44 (lv_at hl 0 rfl) ?_
        refine lv_iload_n hx hb dX7_bestPercent_46 rfl (lv_at hl 3 rfl) ?_
        refine q_icmp_lt (tgt := 53) hx hb dX7_bestPercent_47 (by decide) (by omega) (fun c_47 => ?_) (fun c_47 => ?_)
        · refine lv_iload_n hx hb dX7_bestPercent_53 rfl (lv_at hl 4 rfl) ?_
          refine lv_istore_n (lv' := [(1, .int (iI i)), (4, .int (iI (trA T C i 1 + trA T C i 2))), (0, .ref (g 0)), (2, .int (iI v)), (3, .int (iI i))]) hx hb dX7_bestPercent_54 rfl hl (by decide) rfl (fun ls hl => ?_)
          refine lv_iload hx hb dX7_bestPercent_55 (lv_at hl 1 rfl) ?_
          refine lv_istore_n (lv' := [(2, .int (iI (trA T C i 1 + trA T C i 2))), (1, .int (iI i)), (4, .int (iI (trA T C i 1 + trA T C i 2))), (0, .ref (g 0)), (3, .int (iI i))]) hx hb dX7_bestPercent_57 rfl hl (by decide) rfl (fun ls hl => ?_)
          refine lv_iinc (v := iI (i + 1)) (lv' := [(3, .int (iI (i + 1))), (2, .int (iI (trA T C i 1 + trA T C i 2))), (1, .int (iI i)), (4, .int (iI (trA T C i 1 + trA T C i 2))), (0, .ref (g 0))]) hx hb dX7_bestPercent_58 hl (k := 4) rfl (iI_add _ _) (by decide) rfl (fun ls hl => ?_)
          refine lv_goto (tgt := 12) hx hb dX7_bestPercent_61 (by decide) ?_
          exact ih _ (by omega) (s2_1) (a2_1) (t2_1) (i) (trA T C i 1 + trA T C i 2) (i + 1) H locs ls rfl (by assumption) (by first | omega | assumption | rfl) (by first | exact bpI_n h_b (by omega) rfl (by omega) | exact bpI_o h_b (by omega) (show ¬ trA T C i 1 + trA T C i 2 < v by omega)) (by first | omega | assumption | rfl) hw (lv_sub hl [4, 2, 1, 0] rfl)
        · refine lv_goto (tgt := 58) hx hb dX7_bestPercent_50 (by decide) ?_
          refine lv_iinc (v := iI (i + 1)) (lv' := [(3, .int (iI (i + 1))), (4, .int (iI (trA T C i 1 + trA T C i 2))), (0, .ref (g 0)), (1, .int (iI b)), (2, .int (iI v))]) hx hb dX7_bestPercent_58 hl (k := 4) rfl (iI_add _ _) (by decide) rfl (fun ls hl => ?_)
          refine lv_goto (tgt := 12) hx hb dX7_bestPercent_61 (by decide) ?_
          exact ih _ (by omega) (s2_1) (a2_1) (t2_1) (b) (v) (i + 1) H locs ls rfl (by assumption) (by first | omega | assumption | rfl) (by first | exact bpI_n h_b (by omega) rfl (by omega) | exact bpI_o h_b (by omega) (show ¬ trA T C i 1 + trA T C i 2 < v by omega)) (by first | omega | assumption | rfl) hw (lv_sub hl [2, 3, 4, 0] rfl)
  exact loop_12 _ (sa) (ad) (tr) ((-1)) (0) (101) H locs ls rfl (by exact hM) (by first | omega | assumption | rfl) (by exact Or.inl ⟨rfl, rfl⟩) (by first | omega | assumption | rfl) hw (lv_sub hl [3, 2, 1, 0] rfl)
