variable {l : Launch} {T C : Nat → Int → Int} {J : Int → Int} {D : va_G} {cI cB cZ cS cJ : ClassId} {g : Nat → Nat} {th len tl ts te tk nu er eo hL hS dp : Int} {bf dr td sa ad hi sl sv tr : Int → Int}
set_option maxHeartbeats 4000000 in
set_option maxRecDepth 100000 in
theorem c_X7_copy {a0 b0 na nb : Nat} {fa fb : Int → Int} (i : Int) (j : Int) (h0 : 0 ≤ i ∧ 706 * i + 706 ≤ (na : Int) ∧ i ≤ 9) (h1 : 0 ≤ j ∧ 706 * j + 706 ≤ (nb : Int) ∧ j ≤ 9) : qM l D (tyG cI cB cZ cS cJ) yX7_copy cX7_copy 5 (Option.none) 0 0 [.ref a0, .int (iI i), .ref b0, .int (iI j)] [(a0, .inl (cI, na, .inl (ai fa))), (b0, .inl (cI, nb, .inl (ai fb)))] (fun u : Unit => True) (fun _ => none) (fun u => [(a0, .inl (cI, na, .inl (ai fa))), (b0, .inl (cI, nb, .inl (ai (cpk fb j fa i 706))))]) := by
  refine qM_enterV (by decide) (Nat.le_of_ble_eq_true rfl) (fun p e R s m args below meth c Q ls A X hR hA hw hl hret => ?_)
  obtain ⟨hx, hb, hml, hown, hts, hK⟩ := X
  have hl : lv_has ls 5 [(0, .ref a0), (1, .int (iI i)), (2, .ref b0), (3, .int (iI j))] := hl
  suffices K : ∀ (H : Heap) (locs : List Loc), qw D A s.heap [(a0, .inl (cI, na, .inl (ai fa))), (b0, .inl (cI, nb, .inl (ai fb)))] H locs → W p l e R s m args below meth c H locs 0 0 Q (F0 m 0 ls []) from K s.heap [] hw
  clear hw
  intro H locs hw
  refine q_iconst hx hb dX7_copy_0 ?_
  refine lv_istore (lv' := [(4, .int (iI 0)), (0, .ref a0), (1, .int (iI i)), (2, .ref b0), (3, .int (iI j))]) hx hb dX7_copy_1 hl (by decide) rfl (fun ls hl => ?_)
  have loop_3 : ∀ (fu : Nat) (x : Int → Int) (k : Int) (H : Heap) (locs : List Loc) (ls : Array Slot), (706 - k).toNat = fu → (x = cpk fb j fa i k) → (0 ≤ k ∧ k ≤ 706) → qw D A s.heap [(a0, .inl (cI, na, .inl (ai fa))), (b0, .inl (cI, nb, .inl (ai x)))] H locs → lv_has ls 5 [(0, .ref a0), (1, .int (iI i)), (2, .ref b0), (3, .int (iI j)), (4, .int (iI k))] → W p l e R s m args below meth c H locs 0 0 Q (F0 m 3 ls []) := by
    intro fu
    induction fu using Nat.strongRecOn with
    | ind fu ih =>
    intro x k H locs ls hn_3 h_x h_k hw hl
    refine lv_iload hx hb dX7_copy_3 (lv_at hl 4 rfl) ?_
    refine q_sipush hx hb dX7_copy_5 rfl ?_
    refine q_icmp_ge (tgt := 37) hx hb dX7_copy_8 (by decide) (by omega) (fun c_8 => ?_) (fun c_8 => ?_)
    · have hw : qw D A s.heap [(a0, .inl (cI, na, .inl (ai fa))), (b0, .inl (cI, nb, .inl (ai (cpk fb j fa i 706))))] H locs := by
        have hw2 := hw
        have ee : x = cpk fb j fa i 706 := by rw [h_x, show k = 706 by omega]
        rw [ee] at hw2
        exact hw2
      exact hret () H locs 37 ls trivial hw dX7_copy_37
    · refine lv_aload_n hx hb dX7_copy_11 rfl (lv_at hl 2 rfl) ?_
      refine q_sipush hx hb dX7_copy_12 rfl ?_
      refine lv_iload_n hx hb dX7_copy_15 rfl (lv_at hl 3 rfl) ?_
      refine q_imul hx hb dX7_copy_16 ?_
      refine lv_iload hx hb dX7_copy_17 (lv_at hl 4 rfl) ?_
      refine q_iadd hx hb dX7_copy_19 ?_
      refine lv_aload_n hx hb dX7_copy_20 rfl (lv_at hl 0 rfl) ?_
      refine q_sipush hx hb dX7_copy_21 rfl ?_
      refine lv_iload_n hx hb dX7_copy_24 rfl (lv_at hl 1 rfl) ?_
      refine q_imul hx hb dX7_copy_25 ?_
      refine lv_iload hx hb dX7_copy_26 (lv_at hl 4 rfl) ?_
      refine q_iadd hx hb dX7_copy_28 ?_
      refine q_iald hx hb hK hw.1 0 0 rfl rfl (z := (706 * i + k)) (v := (fa (706 * i + k))) (by omega) rfl dX7_copy_29 ?_
      refine q_iast hx hb hK hw 1 0 rfl rfl (by omega) dX7_copy_30 (fun H locs hw => ?_)
      have hw : qw D A s.heap [(a0, .inl (cI, na, .inl (ai fa))), (b0, .inl (cI, nb, .inl (ai (uI x (706 * j + k) (fa (706 * i + k))))))] H locs := hw
      obtain ⟨f_1, e_f_1⟩ : ∃ z, z = uI x (706 * j + k) (fa (706 * i + k)) := ⟨_, rfl⟩
      have hw : qw D A s.heap [(a0, .inl (cI, na, .inl (ai fa))), (b0, .inl (cI, nb, .inl (ai f_1)))] H locs := by rw [e_f_1]; exact hw
      refine lv_iinc (v := iI (k + 1)) (lv' := [(4, .int (iI (k + 1))), (0, .ref a0), (1, .int (iI i)), (2, .ref b0), (3, .int (iI j))]) hx hb dX7_copy_31 hl (k := 4) rfl (iI_add _ _) (by decide) rfl (fun ls hl => ?_)
      refine lv_goto (tgt := 3) hx hb dX7_copy_34 (by decide) ?_
      exact ih _ (by omega) (f_1) (k + 1) H locs ls rfl (by rw [e_f_1, h_x]; exact cpk_s _ _ _ _ (by omega) (by omega) (by congr 1)) (by first | omega | assumption | rfl) hw (lv_sub hl [1, 2, 3, 4, 0] rfl)
  exact loop_3 _ (fb) (0) H locs ls rfl (by exact (cpk_0 _ _ _ _).symm) (by first | omega | assumption | rfl) hw (lv_sub hl [1, 2, 3, 4, 0] rfl)

set_option maxHeartbeats 4000000 in
set_option maxRecDepth 100000 in
theorem c_X7_copy_s {a0 na : Nat} {fa : Int → Int} (i : Int) (j : Int) (h0 : 0 ≤ j ∧ 706 * i + 706 ≤ (na : Int) ∧ i ≤ 9) (h1 : i = j + 1) : qM l D (tyG cI cB cZ cS cJ) yX7_copy cX7_copy 5 (Option.none) 0 0 [.ref a0, .int (iI i), .ref a0, .int (iI j)] [(a0, .inl (cI, na, .inl (ai fa)))] (fun u : Unit => True) (fun _ => none) (fun u => [(a0, .inl (cI, na, .inl (ai (cpk fa j fa i 706))))]) := by
  refine qM_enterV (by decide) (Nat.le_of_ble_eq_true rfl) (fun p e R s m args below meth c Q ls A X hR hA hw hl hret => ?_)
  obtain ⟨hx, hb, hml, hown, hts, hK⟩ := X
  have hl : lv_has ls 5 [(0, .ref a0), (1, .int (iI i)), (2, .ref a0), (3, .int (iI j))] := hl
  suffices K : ∀ (H : Heap) (locs : List Loc), qw D A s.heap [(a0, .inl (cI, na, .inl (ai fa)))] H locs → W p l e R s m args below meth c H locs 0 0 Q (F0 m 0 ls []) from K s.heap [] hw
  clear hw
  intro H locs hw
  refine q_iconst hx hb dX7_copy_0 ?_
  refine lv_istore (lv' := [(4, .int (iI 0)), (0, .ref a0), (1, .int (iI i)), (2, .ref a0), (3, .int (iI j))]) hx hb dX7_copy_1 hl (by decide) rfl (fun ls hl => ?_)
  have loop_3 : ∀ (fu : Nat) (x : Int → Int) (k : Int) (H : Heap) (locs : List Loc) (ls : Array Slot), (706 - k).toNat = fu → (x = cpk fa j fa i k) → (0 ≤ k ∧ k ≤ 706) → qw D A s.heap [(a0, .inl (cI, na, .inl (ai x)))] H locs → lv_has ls 5 [(0, .ref a0), (1, .int (iI i)), (2, .ref a0), (3, .int (iI j)), (4, .int (iI k))] → W p l e R s m args below meth c H locs 0 0 Q (F0 m 3 ls []) := by
    intro fu
    induction fu using Nat.strongRecOn with
    | ind fu ih =>
    intro x k H locs ls hn_3 h_x h_k hw hl
    refine lv_iload hx hb dX7_copy_3 (lv_at hl 4 rfl) ?_
    refine q_sipush hx hb dX7_copy_5 rfl ?_
    refine q_icmp_ge (tgt := 37) hx hb dX7_copy_8 (by decide) (by omega) (fun c_8 => ?_) (fun c_8 => ?_)
    · have hw : qw D A s.heap [(a0, .inl (cI, na, .inl (ai (cpk fa j fa i 706))))] H locs := by
        have hw2 := hw
        have ee : x = cpk fa j fa i 706 := by rw [h_x, show k = 706 by omega]
        rw [ee] at hw2
        exact hw2
      exact hret () H locs 37 ls trivial hw dX7_copy_37
    · refine lv_aload_n hx hb dX7_copy_11 rfl (lv_at hl 2 rfl) ?_
      refine q_sipush hx hb dX7_copy_12 rfl ?_
      refine lv_iload_n hx hb dX7_copy_15 rfl (lv_at hl 3 rfl) ?_
      refine q_imul hx hb dX7_copy_16 ?_
      refine lv_iload hx hb dX7_copy_17 (lv_at hl 4 rfl) ?_
      refine q_iadd hx hb dX7_copy_19 ?_
      refine lv_aload_n hx hb dX7_copy_20 rfl (lv_at hl 0 rfl) ?_
      refine q_sipush hx hb dX7_copy_21 rfl ?_
      refine lv_iload_n hx hb dX7_copy_24 rfl (lv_at hl 1 rfl) ?_
      refine q_imul hx hb dX7_copy_25 ?_
      refine lv_iload hx hb dX7_copy_26 (lv_at hl 4 rfl) ?_
      refine q_iadd hx hb dX7_copy_28 ?_
      refine q_iald hx hb hK hw.1 0 0 rfl rfl (z := (706 * i + k)) (v := (x (706 * i + k))) (by omega) rfl dX7_copy_29 ?_
      refine q_iast hx hb hK hw 0 0 rfl rfl (by omega) dX7_copy_30 (fun H locs hw => ?_)
      have hw : qw D A s.heap [(a0, .inl (cI, na, .inl (ai (uI x (706 * j + k) (x (706 * i + k))))))] H locs := hw
      obtain ⟨f_1, e_f_1⟩ : ∃ z, z = uI x (706 * j + k) (x (706 * i + k)) := ⟨_, rfl⟩
      have hw : qw D A s.heap [(a0, .inl (cI, na, .inl (ai f_1)))] H locs := by rw [e_f_1]; exact hw
      refine lv_iinc (v := iI (k + 1)) (lv' := [(4, .int (iI (k + 1))), (0, .ref a0), (1, .int (iI i)), (2, .ref a0), (3, .int (iI j))]) hx hb dX7_copy_31 hl (k := 4) rfl (iI_add _ _) (by decide) rfl (fun ls hl => ?_)
      refine lv_goto (tgt := 3) hx hb dX7_copy_34 (by decide) ?_
      exact ih _ (by omega) (f_1) (k + 1) H locs ls rfl (by rw [e_f_1, h_x]; exact cpk_s _ _ _ _ (by omega) (by omega) (by rw [cpk_o _ _ _ _ (by omega)])) (by first | omega | assumption | rfl) hw (lv_sub hl [1, 2, 3, 4, 0] rfl)
  exact loop_3 _ (fa) (0) H locs ls rfl (by exact (cpk_0 _ _ _ _).symm) (by first | omega | assumption | rfl) hw (lv_sub hl [1, 2, 3, 4, 0] rfl)
