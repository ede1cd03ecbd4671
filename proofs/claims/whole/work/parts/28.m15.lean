variable {l : Launch} {z : Nat → Nat} {T C : Nat → Int → Int} {J : Int → Int} {D : va_G} {cI cB cZ cS cJ : ClassId} {g : Nat → Nat} {th len tl ts te tk nu er eo hL hS dp : Int} {bf dr td sa ad hi sl sv tr : Int → Int}
theorem iw_e {A : Prop} [Decidable A] {q : Int → Prop} [DecidablePred q] {k n b : Int} (hk : 0 ≤ k ∧ k ≤ n) (hb : b = bI (A ∧ kI q k = 0)) (h : n ≤ k ∨ b = 0) : b = bI (A ∧ kI q n = 0) := by
  rcases h with h | h
  · rw [show n = k by omega]; exact hb
  · rw [h]
    refine (bI_f (fun w => ?_)).symm
    have z1 := kI_le (q := q) hk.1 hk.2
    have z2 := kI_bd q hk.1
    rw [bI_t ⟨w.1, by omega⟩] at hb
    omega
theorem iw_s {A : Prop} [Decidable A] {q : Int → Prop} [DecidablePred q] {k b v : Int} (hk : 0 ≤ k) (hb : b = bI (A ∧ kI q k = 0)) (h : b ≠ 0) (hv : (v = 1 ∧ ¬ q k) ∨ (v = 0 ∧ q k)) : v = bI (A ∧ kI q (k + 1) = 0) := by
  have a : A ∧ kI q k = 0 := Classical.byContradiction (fun w => h (hb.trans (bI_f w)))
  rw [kI_s _ hk]
  rcases hv with ⟨e, w⟩ | ⟨e, w⟩
  · rw [e, bI_t ⟨a.1, by rw [bI_f w]; omega⟩]
  · rw [e, bI_f (fun y => by rw [bI_t w] at y; omega)]
theorem iw_0 {A : Prop} [Decidable A] {q : Int → Prop} [DecidablePred q] {b : Int} (h : b = bI A) : b = bI (A ∧ kI q 0 = 0) := by
  rw [h]
  exact bI_c ⟨fun w => ⟨w, kI_0 q⟩, fun w => w.1⟩

set_option maxHeartbeats 4000000 in
set_option maxRecDepth 100000 in
theorem c_X7_isWord {i : Nat} (hbf : byR bf) (ht : 0 ≤ tl ∧ tl ≤ 700) (hlt : i < 7) (hr : er ≤ 5 ∧ 0 ≤ er ∧ 0 ≤ tk ∧ tk ≤ 5 ∧ 0 ≤ ts ∧ ts ≤ 700 ∧ 0 ≤ te ∧ te ≤ 700) : qPz l (ZZ z) D (tyG cI cB cZ cS cJ) yX7_isWord cX7_isWord 4 (Option.some FieldType.boolean) 4 85 [.ref (g 0), .ref (z (10 + i))] (mW g cI cB cZ th len tl ts te tk nu er eo hL hS dp bf dr td sa ad hi sl sv tr) (some (.int (iI (bI (isWd bf er tk ts te (txL i)))))) := by
  have q_l := (zz_tx i hlt).1
  refine qPz_enter (by decide) (Nat.le_of_ble_eq_true rfl) (nar_z bI_r) (fun p e R s m args below meth c Q ls X hR hP hZ hl hret => ?_)
  obtain ⟨hx, hb, hml, hown, hts, hK⟩ := X
  have hl : lv_has ls 4 [(0, .ref (g 0)), (1, .ref (z (10 + i)))] := hl
  have join_36 : ∀ (b0 : Int) (ls : Array Slot), (b0 = bI (er = 0 ∧ tk = 1 ∧ te - ts = ((txL i).length : Int))) → lv_has ls 4 [(0, .ref (g 0)), (1, .ref (z (10 + i)))] → W p l e R s m args below meth c s.heap [] 0 0 Q (F0 m 36 ls [.int (iI b0)]) := by
    intro b0 ls h_0 hl
    refine lv_istore_n (lv' := [(2, .int (iI b0)), (0, .ref (g 0)), (1, .ref (z (10 + i)))]) hx hb dX7_isWord_36 rfl hl (by decide) rfl (fun ls hl => ?_)
    refine q_iconst hx hb dX7_isWord_37 ?_
    refine lv_istore_n (lv' := [(3, .int (iI 0)), (2, .int (iI b0)), (0, .ref (g 0)), (1, .ref (z (10 + i)))]) hx hb dX7_isWord_38 rfl hl (by decide) rfl (fun ls hl => ?_)
    have loop_39 : ∀ (fu : Nat) (b : Int) (k : Int) (ls : Array Slot), (((txL i).length : Int) - k).toNat = fu → (0 ≤ k ∧ k ≤ ((txL i).length : Int)) → (b = bI ((er = 0 ∧ tk = 1 ∧ te - ts = ((txL i).length : Int)) ∧ kI (fun k => bf (ts + k) ≠ (txL i).getD k.toNat 0) k = 0)) → lv_has ls 4 [(0, .ref (g 0)), (1, .ref (z (10 + i))), (2, .int (iI b)), (3, .int (iI k))] → W p l e R s m args below meth c s.heap [] 0 0 Q (F0 m 39 ls []) := by
      intro fu
      induction fu using Nat.strongRecOn with
      | ind fu ih =>
      intro b k ls hn_39 h_k h_b hl
      refine lv_iload_n hx hb dX7_isWord_39 rfl (lv_at hl 3 rfl) ?_
      refine lv_aload_n hx hb dX7_isWord_40 rfl (lv_at hl 1 rfl) ?_
      refine q_callPzX (As := []) (rest := [.int (iI k)]) (zz_ok z) hx hb hml hown hts hK (c_J0_length (zz_S z i hlt)) yi_J0_length_8abf5 ml_X7_85 (by rw [hR]; decide) P_nil (z_P (zz_ok z) hZ [] rfl) (vk_recv (i := 0) (hZ.2.2.1 i hlt) (by decide) va_S.rf) rfl rfl hl.1 (lv_room (Nat.le_of_ble_eq_true rfl)) dX7_isWord_41 ⟨by rw [hR]; exact Nat.zero_le _, by rw [hR]; exact Nat.zero_le _⟩ ?_
      refine q_icmp_ge (tgt := 82) hx hb dX7_isWord_44 (by decide) (by omega) (fun c_44 => ?_) (fun c_44 => ?_)
      · refine lv_iload_n hx hb dX7_isWord_82 rfl (lv_at hl 2 rfl) ?_
        exact q_ret (hret 83 ls dX7_isWord_83) (by exact iw_e h_k h_b (by omega))
      · refine lv_iload_n hx hb dX7_isWord_47 rfl (lv_at hl 2 rfl) ?_
        have q_b : -128 ≤ bf (ts + k) ∧ bf (ts + k) < 128 := hbf _
        have q_2 : b = 0 ∨ b = 1 := by rw [h_b]; exact bI_r
        refine q_if_eq (tgt := 82) hx hb dX7_isWord_48 (by decide) (by omega) (fun c_48 => ?_) (fun c_48 => ?_)
        · refine lv_iload_n hx hb dX7_isWord_82 rfl (lv_at hl 2 rfl) ?_
          exact q_ret (hret 83 ls dX7_isWord_83) (by exact iw_e h_k h_b (by omega))
        · refine lv_aload_n hx hb dX7_isWord_51 rfl (lv_at hl 0 rfl) ?_
          refine q_get hx hb hts hown hK hP ci_X7 0 rfl 1 (by decide) fl_X7_7 rfl dX7_isWord_52 ?_
          refine lv_aload_n hx hb dX7_isWord_55 rfl (lv_at hl 0 rfl) ?_
          refine q_get hx hb hts hown hK hP ci_X7 0 rfl 4 (by decide) fl_X7_62 rfl dX7_isWord_56 ?_
          refine lv_iload_n hx hb dX7_isWord_59 rfl (lv_at hl 3 rfl) ?_
          refine q_iadd hx hb dX7_isWord_60 ?_
          have q_c := (zz_tx i hlt).2 k.toNat (by omega)
          have q_3 : (er = 0 ∧ tk = 1 ∧ te - ts = ((txL i).length : Int)) ∧ kI (fun k => bf (ts + k) ≠ (txL i).getD k.toNat 0) k = 0 := Classical.byContradiction (fun w => c_48 (h_b.trans (bI_f w)))
          refine q_bald hx hb hK hP 1 1 rfl rfl (z := (ts + k)) (v := (bf (ts + k))) (by omega) rfl dX7_isWord_61 ?_
          refine lv_aload_n hx hb dX7_isWord_62 rfl (lv_at hl 1 rfl) ?_
          refine lv_iload_n hx hb dX7_isWord_63 rfl (lv_at hl 3 rfl) ?_
          refine q_callPzX (As := [.int (iI k)]) (rest := [.int (iI (bf (ts + k)))]) (zz_ok z) hx hb hml hown hts hK (c_J0_charAt (zz_S z i hlt) (by omega)) yi_J0_charAt_5068e ml_X7_90 (by rw [hR]; decide) P_nil (z_P (zz_ok z) hZ [] rfl) (vk_recv (i := 0) (hZ.2.2.1 i hlt) (by decide) va_S.rf) rfl rfl hl.1 (lv_room (Nat.le_of_ble_eq_true rfl)) dX7_isWord_64 ⟨by rw [hR]; exact Nat.zero_le _, by rw [hR]; exact Nat.zero_le _⟩ ?_
          refine q_icmp_ne (tgt := 74) hx hb dX7_isWord_67 (by decide) (by omega) (fun c_67 => ?_) (fun c_67 => ?_)
          · refine q_iconst hx hb dX7_isWord_74 ?_
            refine lv_istore_n (lv' := [(2, .int (iI 0)), (0, .ref (g 0)), (1, .ref (z (10 + i))), (3, .int (iI k))]) hx hb dX7_isWord_75 rfl hl (by decide) rfl (fun ls hl => ?_)
            refine lv_iinc (v := iI (k + 1)) (lv' := [(3, .int (iI (k + 1))), (2, .int (iI 0)), (0, .ref (g 0)), (1, .ref (z (10 + i)))]) hx hb dX7_isWord_76 hl (k := 3) rfl (iI_add _ _) (by decide) rfl (fun ls hl => ?_)
            refine lv_goto (tgt := 39) hx hb dX7_isWord_79 (by decide) ?_
            exact ih _ (by omega) (0) (k + 1) ls rfl (by first | omega | assumption | rfl) (by exact iw_s h_k.1 h_b c_48 (by first | exact Or.inl ⟨rfl, fun w => w (by omega)⟩ | exact Or.inr ⟨rfl, by omega⟩)) (lv_sub hl [2, 3, 1, 0] rfl)
          · refine q_iconst hx hb dX7_isWord_70 ?_
            refine lv_goto (tgt := 75) hx hb dX7_isWord_71 (by decide) ?_
            refine lv_istore_n (lv' := [(2, .int (iI 1)), (0, .ref (g 0)), (1, .ref (z (10 + i))), (3, .int (iI k))]) hx hb dX7_isWord_75 rfl hl (by decide) rfl (fun ls hl => ?_)
            refine lv_iinc (v := iI (k + 1)) (lv' := [(3, .int (iI (k + 1))), (2, .int (iI 1)), (0, .ref (g 0)), (1, .ref (z (10 + i)))]) hx hb dX7_isWord_76 hl (k := 3) rfl (iI_add _ _) (by decide) rfl (fun ls hl => ?_)
            refine lv_goto (tgt := 39) hx hb dX7_isWord_79 (by decide) ?_
            exact ih _ (by omega) (1) (k + 1) ls rfl (by first | omega | assumption | rfl) (by exact iw_s h_k.1 h_b c_48 (by first | exact Or.inl ⟨rfl, fun w => w (by omega)⟩ | exact Or.inr ⟨rfl, by omega⟩)) (lv_sub hl [2, 3, 1, 0] rfl)
    exact loop_39 _ (b0) (0) ls rfl (by first | omega | assumption | rfl) (by exact iw_0 h_0) (lv_sub hl [2, 3, 1, 0] rfl)
  refine lv_aload_n hx hb dX7_isWord_0 rfl (lv_at hl 0 rfl) ?_
  refine q_get hx hb hts hown hK hP ci_X7 0 rfl 8 (by decide) fl_X7_79 rfl dX7_isWord_1 ?_
  refine q_if_ne (tgt := 35) hx hb dX7_isWord_4 (by decide) (by omega) (fun c_4 => ?_) (fun c_4 => ?_)
  · refine q_iconst hx hb dX7_isWord_35 ?_
    exact join_36 (0) ls (by first | exact (bI_t (by omega)).symm | exact (bI_f (by omega)).symm) hl
  · refine lv_aload_n hx hb dX7_isWord_7 rfl (lv_at hl 0 rfl) ?_
    refine q_get hx hb hts hown hK hP ci_X7 0 rfl 6 (by decide) fl_X7_69 rfl dX7_isWord_8 ?_
    refine q_iconst hx hb dX7_isWord_11 ?_
    refine q_icmp_ne (tgt := 35) hx hb dX7_isWord_12 (by decide) (by omega) (fun c_12 => ?_) (fun c_12 => ?_)
    · refine q_iconst hx hb dX7_isWord_35 ?_
      exact join_36 (0) ls (by first | exact (bI_t (by omega)).symm | exact (bI_f (by omega)).symm) hl
    · refine lv_aload_n hx hb dX7_isWord_15 rfl (lv_at hl 0 rfl) ?_
      refine q_get hx hb hts hown hK hP ci_X7 0 rfl 5 (by decide) fl_X7_59 rfl dX7_isWord_16 ?_
      refine lv_aload_n hx hb dX7_isWord_19 rfl (lv_at hl 0 rfl) ?_
      refine q_get hx hb hts hown hK hP ci_X7 0 rfl 4 (by decide) fl_X7_62 rfl dX7_isWord_20 ?_
      refine q_isub hx hb dX7_isWord_23 ?_
      refine lv_aload_n hx hb dX7_isWord_24 rfl (lv_at hl 1 rfl) ?_
      refine q_callPzX (As := []) (rest := [.int (iI (te - ts))]) (zz_ok z) hx hb hml hown hts hK (c_J0_length (zz_S z i hlt)) yi_J0_length_8abf5 ml_X7_85 (by rw [hR]; decide) P_nil (z_P (zz_ok z) hZ [] rfl) (vk_recv (i := 0) (hZ.2.2.1 i hlt) (by decide) va_S.rf) rfl rfl hl.1 (lv_room (Nat.le_of_ble_eq_true rfl)) dX7_isWord_25 ⟨by rw [hR]; exact Nat.zero_le _, by rw [hR]; exact Nat.zero_le _⟩ ?_
      refine q_icmp_ne (tgt := 35) hx hb dX7_isWord_28 (by decide) (by omega) (fun c_28 => ?_) (fun c_28 => ?_)
      · refine q_iconst hx hb dX7_isWord_35 ?_
        exact join_36 (0) ls (by first | exact (bI_t (by omega)).symm | exact (bI_f (by omega)).symm) hl
      · refine q_iconst hx hb dX7_isWord_31 ?_
        refine lv_goto (tgt := 36) hx hb dX7_isWord_32 (by decide) ?_
        exact join_36 (1) ls (by first | exact (bI_t (by omega)).symm | exact (bI_f (by omega)).symm) hl
