variable {l : Launch} {z : Nat → Nat} {D : va_G} {cI cB cZ cS cJ : ClassId} {T C E : Nat → Int → Int} {q0 q1 r0 r1 : Nat} {gn gc hn us : Int} {gt ht y0 y1 y2 y3 y4 y5 y6 y7 e0 e1 e2 e3 e4 e5 e6 e7 e8 e9 e10 d0 d1 d2 d3 d4 d5 d6 d7 d8 d9 d10 : Int → Int} {a b a2 x : Nat → Nat} {pf pm pt pl pw stop sinp srea spag sjob sdup ttop tinp trea tpag tjob tdup f1 f2 f3 f4 f5 f6 : Int}
set_option maxHeartbeats 4000000 in
set_option maxRecDepth 100000 in
theorem c_X4_ink (sh : Int) (sd : Int) (h0 : T 8 0 ≤ 40) (h1 : 0 ≤ sh ∧ sh < T 8 0) (h2 : rg sd) : qP l D (tyG cI cB cZ cS cJ) yX4_ink cX4_ink 3 (Option.some FieldType.int) 0 0 [.ref (b 0), .int (iI sh), .int (iI sd)] [((b 0), .inr (4, [.ref (b 1), .ref (b 2), .ref (b 3), .ref (b 4), .ref (b 5), .ref (b 6), .ref (b 7), .ref (b 8), .int (iI (T 8 0)), .int (iI (T 8 1)), .int (iI (T 8 2)), .int (iI (T 8 3))])), ((b 4), .inl (cI, 40, .inl (ai (T 3)))), ((b 5), .inl (cI, 40, .inl (ai (T 4))))] (some (.int (iI (ink T sh sd)))) := by
  refine qP_enter (by decide) (Nat.le_of_ble_eq_true rfl) (nar_i _) (fun p e R s m args below meth c Q ls X hR hP hl hret => ?_)
  obtain ⟨hx, hb, hml, hown, hts, hK⟩ := X
  have hl : lv_has ls 3 [(0, .ref (b 0)), (1, .int (iI sh)), (2, .int (iI sd))] := hl
  refine lv_iload_n hx hb dX4_ink_0 rfl (lv_at hl 1 rfl) ?_
  refine q_if_lt (tgt := 12) hx hb dX4_ink_1 (by decide) (by omega) (fun c_1 => absurd c_1 (by omega)) (fun c_1 => ?_)
  refine lv_iload_n hx hb dX4_ink_4 rfl (lv_at hl 1 rfl) ?_
  refine lv_aload_n hx hb dX4_ink_5 rfl (lv_at hl 0 rfl) ?_
  refine q_get hx hb hts hown hK hP ci_X4 0 rfl 8 (by decide) fl_X4_36 rfl dX4_ink_6 ?_
  refine q_icmp_lt (tgt := 14) hx hb dX4_ink_9 (by decide) (by omega) (fun c_9 => ?_) (fun c_9 => absurd c_9 (by omega))
  refine lv_iload_n hx hb dX4_ink_14 rfl (lv_at hl 2 rfl) ?_
  refine q_if_ne (tgt := 27) hx hb dX4_ink_15 (by decide) (by omega) (fun c_15 => ?_) (fun c_15 => ?_)
  · refine lv_aload_n hx hb dX4_ink_27 rfl (lv_at hl 0 rfl) ?_
    refine q_get hx hb hts hown hK hP ci_X4 0 rfl 4 (by decide) fl_X4_24 rfl dX4_ink_28 ?_
    refine lv_iload_n hx hb dX4_ink_31 rfl (lv_at hl 1 rfl) ?_
    refine q_iald hx hb hK hP 2 0 rfl rfl (z := sh) (v := ((T 4) sh)) (by omega) rfl dX4_ink_32 ?_
    exact q_ret (hret 33 ls dX4_ink_33) (by unfold ink; first | rw [if_pos (by omega)] | rw [if_neg (by omega)])
  · refine lv_aload_n hx hb dX4_ink_18 rfl (lv_at hl 0 rfl) ?_
    refine q_get hx hb hts hown hK hP ci_X4 0 rfl 3 (by decide) fl_X4_21 rfl dX4_ink_19 ?_
    refine lv_iload_n hx hb dX4_ink_22 rfl (lv_at hl 1 rfl) ?_
    refine q_iald hx hb hK hP 1 0 rfl rfl (z := sh) (v := ((T 3) sh)) (by omega) rfl dX4_ink_23 ?_
    refine lv_goto (tgt := 33) hx hb dX4_ink_24 (by decide) ?_
    exact q_ret (hret 33 ls dX4_ink_33) (by unfold ink; first | rw [if_pos (by omega)] | rw [if_neg (by omega)])


set_option maxHeartbeats 4000000 in
set_option maxRecDepth 100000 in
theorem c_X4_repeatLast (tm : Int) (hu : 0 < us ∧ 0 ≤ tm ∧ us + tm ≤ 40) : qM l D (tyG cI cB cZ cS cJ) yX4_repeatLast cX4_repeatLast 3 (Option.none) 0 0 [.ref (b 0), .int (iI tm)] [((b 0), .inr (4, [.ref (b 1), .ref (b 2), .ref (b 3), .ref (b 4), .ref (b 5), .ref (b 6), .ref (b 7), .ref (b 8), .int (iI us), .int (iI f1), .int (iI f2), .int (iI f3)])), ((b 1), .inl (cI, 40, .inl (ai y0))), ((b 2), .inl (cI, 40, .inl (ai y1))), ((b 3), .inl (cI, 40, .inl (ai y2))), ((b 4), .inl (cI, 40, .inl (ai y3))), ((b 5), .inl (cI, 40, .inl (ai y4))), ((b 6), .inl (cI, 40, .inl (ai y5))), ((b 7), .inl (cI, 40, .inl (ai y6)))] (fun u : Unit => True) (fun _ => none) (fun u => [((b 0), .inr (4, [.ref (b 1), .ref (b 2), .ref (b 3), .ref (b 4), .ref (b 5), .ref (b 6), .ref (b 7), .ref (b 8), .int (iI (us + tm)), .int (iI f1), .int (iI f2), .int (iI f3)])), ((b 1), .inl (cI, 40, .inl (ai (fil y0 us (us + tm) (y0 (us - 1)))))), ((b 2), .inl (cI, 40, .inl (ai (fil y1 us (us + tm) (y1 (us - 1)))))), ((b 3), .inl (cI, 40, .inl (ai (fil y2 us (us + tm) (y2 (us - 1)))))), ((b 4), .inl (cI, 40, .inl (ai (fil y3 us (us + tm) (y3 (us - 1)))))), ((b 5), .inl (cI, 40, .inl (ai (fil y4 us (us + tm) (y4 (us - 1)))))), ((b 6), .inl (cI, 40, .inl (ai (fil y5 us (us + tm) (y5 (us - 1)))))), ((b 7), .inl (cI, 40, .inl (ai (fil y6 us (us + tm) (y6 (us - 1))))))]) := by
  refine qM_enterV (by decide) (Nat.le_of_ble_eq_true rfl) (fun p e R s m args below meth c Q ls A X hR hA hw hl hret => ?_)
  obtain ⟨hx, hb, hml, hown, hts, hK⟩ := X
  have hl : lv_has ls 3 [(0, .ref (b 0)), (1, .int (iI tm))] := hl
  suffices K : ∀ (H : Heap) (locs : List Loc), qw D A s.heap [((b 0), .inr (4, [.ref (b 1), .ref (b 2), .ref (b 3), .ref (b 4), .ref (b 5), .ref (b 6), .ref (b 7), .ref (b 8), .int (iI us), .int (iI f1), .int (iI f2), .int (iI f3)])), ((b 1), .inl (cI, 40, .inl (ai y0))), ((b 2), .inl (cI, 40, .inl (ai y1))), ((b 3), .inl (cI, 40, .inl (ai y2))), ((b 4), .inl (cI, 40, .inl (ai y3))), ((b 5), .inl (cI, 40, .inl (ai y4))), ((b 6), .inl (cI, 40, .inl (ai y5))), ((b 7), .inl (cI, 40, .inl (ai y6)))] H locs → W p l e R s m args below meth c H locs 0 0 Q (F0 m 0 ls []) from K s.heap [] hw
  clear hw
  intro H locs hw
  refine q_iconst hx hb dX4_repeatLast_0 ?_
  refine lv_istore_n (lv' := [(2, .int (iI 0)), (0, .ref (b 0)), (1, .int (iI tm))]) hx hb dX4_repeatLast_1 rfl hl (by decide) rfl (fun ls hl => ?_)
  have loop_2 : ∀ (fu : Nat) (z0 : Int → Int) (z1 : Int → Int) (z2 : Int → Int) (z3 : Int → Int) (z4 : Int → Int) (z5 : Int → Int) (z6 : Int → Int) (m2 : Int) (k : Int) (H : Heap) (locs : List Loc) (ls : Array Slot), (tm - k).toNat = fu → (0 ≤ k ∧ k ≤ tm) → (m2 = us + k) → (z0 = fil y0 us (us + k) (y0 (us - 1))) → (z1 = fil y1 us (us + k) (y1 (us - 1))) → (z2 = fil y2 us (us + k) (y2 (us - 1))) → (z3 = fil y3 us (us + k) (y3 (us - 1))) → (z4 = fil y4 us (us + k) (y4 (us - 1))) → (z5 = fil y5 us (us + k) (y5 (us - 1))) → (z6 = fil y6 us (us + k) (y6 (us - 1))) → qw D A s.heap [((b 0), .inr (4, [.ref (b 1), .ref (b 2), .ref (b 3), .ref (b 4), .ref (b 5), .ref (b 6), .ref (b 7), .ref (b 8), .int (iI m2), .int (iI f1), .int (iI f2), .int (iI f3)])), ((b 1), .inl (cI, 40, .inl (ai z0))), ((b 2), .inl (cI, 40, .inl (ai z1))), ((b 3), .inl (cI, 40, .inl (ai z2))), ((b 4), .inl (cI, 40, .inl (ai z3))), ((b 5), .inl (cI, 40, .inl (ai z4))), ((b 6), .inl (cI, 40, .inl (ai z5))), ((b 7), .inl (cI, 40, .inl (ai z6)))] H locs → lv_has ls 3 [(0, .ref (b 0)), (1, .int (iI tm)), (2, .int (iI k))] → W p l e R s m args below meth c H locs 0 0 Q (F0 m 2 ls []) := by
    intro fu
    induction fu using Nat.strongRecOn with
    | ind fu ih =>
    intro z0 z1 z2 z3 z4 z5 z6 m2 k H locs ls hn_2 h_k h_m h_0 h_1 h_2 h_3 h_4 h_5 h_6 hw hl
    refine lv_iload_n hx hb dX4_repeatLast_2 rfl (lv_at hl 2 rfl) ?_
    refine lv_iload_n hx hb dX4_repeatLast_3 rfl (lv_at hl 1 rfl) ?_
    refine q_icmp_ge (tgt := 179) hx hb dX4_repeatLast_4 (by decide) (by omega) (fun c_4 => ?_) (fun c_4 => ?_)
    · have hw : qw D A s.heap [((b 0), .inr (4, [.ref (b 1), .ref (b 2), .ref (b 3), .ref (b 4), .ref (b 5), .ref (b 6), .ref (b 7), .ref (b 8), .int (iI (us + tm)), .int (iI f1), .int (iI f2), .int (iI f3)])), ((b 1), .inl (cI, 40, .inl (ai (fil y0 us (us + tm) (y0 (us - 1)))))), ((b 2), .inl (cI, 40, .inl (ai (fil y1 us (us + tm) (y1 (us - 1)))))), ((b 3), .inl (cI, 40, .inl (ai (fil y2 us (us + tm) (y2 (us - 1)))))), ((b 4), .inl (cI, 40, .inl (ai (fil y3 us (us + tm) (y3 (us - 1)))))), ((b 5), .inl (cI, 40, .inl (ai (fil y4 us (us + tm) (y4 (us - 1)))))), ((b 6), .inl (cI, 40, .inl (ai (fil y5 us (us + tm) (y5 (us - 1)))))), ((b 7), .inl (cI, 40, .inl (ai (fil y6 us (us + tm) (y6 (us - 1))))))] H locs := by
        have hw2 := hw
        have ee : m2 = us + tm := by first | omega | (rw [h_0, show us + k = us + tm by omega]) | (rw [h_1, show us + k = us + tm by omega]) | (rw [h_2, show us + k = us + tm by omega]) | (rw [h_3, show us + k = us + tm by omega]) | (rw [h_4, show us + k = us + tm by omega]) | (rw [h_5, show us + k = us + tm by omega]) | (rw [h_6, show us + k = us + tm by omega])
        rw [ee] at hw2
        have ee : z0 = fil y0 us (us + tm) (y0 (us - 1)) := by first | omega | (rw [h_0, show us + k = us + tm by omega]) | (rw [h_1, show us + k = us + tm by omega]) | (rw [h_2, show us + k = us + tm by omega]) | (rw [h_3, show us + k = us + tm by omega]) | (rw [h_4, show us + k = us + tm by omega]) | (rw [h_5, show us + k = us + tm by omega]) | (rw [h_6, show us + k = us + tm by omega])
        rw [ee] at hw2
        have ee : z1 = fil y1 us (us + tm) (y1 (us - 1)) := by first | omega | (rw [h_0, show us + k = us + tm by omega]) | (rw [h_1, show us + k = us + tm by omega]) | (rw [h_2, show us + k = us + tm by omega]) | (rw [h_3, show us + k = us + tm by omega]) | (rw [h_4, show us + k = us + tm by omega]) | (rw [h_5, show us + k = us + tm by omega]) | (rw [h_6, show us + k = us + tm by omega])
        rw [ee] at hw2
        have ee : z2 = fil y2 us (us + tm) (y2 (us - 1)) := by first | omega | (rw [h_0, show us + k = us + tm by omega]) | (rw [h_1, show us + k = us + tm by omega]) | (rw [h_2, show us + k = us + tm by omega]) | (rw [h_3, show us + k = us + tm by omega]) | (rw [h_4, show us + k = us + tm by omega]) | (rw [h_5, show us + k = us + tm by omega]) | (rw [h_6, show us + k = us + tm by omega])
        rw [ee] at hw2
        have ee : z3 = fil y3 us (us + tm) (y3 (us - 1)) := by first | omega | (rw [h_0, show us + k = us + tm by omega]) | (rw [h_1, show us + k = us + tm by omega]) | (rw [h_2, show us + k = us + tm by omega]) | (rw [h_3, show us + k = us + tm by omega]) | (rw [h_4, show us + k = us + tm by omega]) | (rw [h_5, show us + k = us + tm by omega]) | (rw [h_6, show us + k = us + tm by omega])
        rw [ee] at hw2
        have ee : z4 = fil y4 us (us + tm) (y4 (us - 1)) := by first | omega | (rw [h_0, show us + k = us + tm by omega]) | (rw [h_1, show us + k = us + tm by omega]) | (rw [h_2, show us + k = us + tm by omega]) | (rw [h_3, show us + k = us + tm by omega]) | (rw [h_4, show us + k = us + tm by omega]) | (rw [h_5, show us + k = us + tm by omega]) | (rw [h_6, show us + k = us + tm by omega])
        rw [ee] at hw2
        have ee : z5 = fil y5 us (us + tm) (y5 (us - 1)) := by first | omega | (rw [h_0, show us + k = us + tm by omega]) | (rw [h_1, show us + k = us + tm by omega]) | (rw [h_2, show us + k = us + tm by omega]) | (rw [h_3, show us + k = us + tm by omega]) | (rw [h_4, show us + k = us + tm by omega]) | (rw [h_5, show us + k = us + tm by omega]) | (rw [h_6, show us + k = us + tm by omega])
        rw [ee] at hw2
        have ee : z6 = fil y6 us (us + tm) (y6 (us - 1)) := by first | omega | (rw [h_0, show us + k = us + tm by omega]) | (rw [h_1, show us + k = us + tm by omega]) | (rw [h_2, show us + k = us + tm by omega]) | (rw [h_3, show us + k = us + tm by omega]) | (rw [h_4, show us + k = us + tm by omega]) | (rw [h_5, show us + k = us + tm by omega]) | (rw [h_6, show us + k = us + tm by omega])
        rw [ee] at hw2
        exact hw2
      exact hret () H locs 179 ls trivial hw dX4_repeatLast_179
    · refine lv_aload_n hx hb dX4_repeatLast_7 rfl (lv_at hl 0 rfl) ?_
      refine q_get hx hb hts hown hK hw.1 ci_X4 0 rfl 8 (by decide) fl_X4_36 rfl dX4_repeatLast_8 ?_
      refine q_if_le (tgt := 179) hx hb dX4_repeatLast_11 (by decide) (by omega) (fun c_11 => ?_) (fun c_11 => ?_)
      · have hw : qw D A s.heap [((b 0), .inr (4, [.ref (b 1), .ref (b 2), .ref (b 3), .ref (b 4), .ref (b 5), .ref (b 6), .ref (b 7), .ref (b 8), .int (iI (us + tm)), .int (iI f1), .int (iI f2), .int (iI f3)])), ((b 1), .inl (cI, 40, .inl (ai (fil y0 us (us + tm) (y0 (us - 1)))))), ((b 2), .inl (cI, 40, .inl (ai (fil y1 us (us + tm) (y1 (us - 1)))))), ((b 3), .inl (cI, 40, .inl (ai (fil y2 us (us + tm) (y2 (us - 1)))))), ((b 4), .inl (cI, 40, .inl (ai (fil y3 us (us + tm) (y3 (us - 1)))))), ((b 5), .inl (cI, 40, .inl (ai (fil y4 us (us + tm) (y4 (us - 1)))))), ((b 6), .inl (cI, 40, .inl (ai (fil y5 us (us + tm) (y5 (us - 1)))))), ((b 7), .inl (cI, 40, .inl (ai (fil y6 us (us + tm) (y6 (us - 1))))))] H locs := by
          have hw2 := hw
          have ee : m2 = us + tm := by first | omega | (rw [h_0, show us + k = us + tm by omega]) | (rw [h_1, show us + k = us + tm by omega]) | (rw [h_2, show us + k = us + tm by omega]) | (rw [h_3, show us + k = us + tm by omega]) | (rw [h_4, show us + k = us + tm by omega]) | (rw [h_5, show us + k = us + tm by omega]) | (rw [h_6, show us + k = us + tm by omega])
          rw [ee] at hw2
          have ee : z0 = fil y0 us (us + tm) (y0 (us - 1)) := by first | omega | (rw [h_0, show us + k = us + tm by omega]) | (rw [h_1, show us + k = us + tm by omega]) | (rw [h_2, show us + k = us + tm by omega]) | (rw [h_3, show us + k = us + tm by omega]) | (rw [h_4, show us + k = us + tm by omega]) | (rw [h_5, show us + k = us + tm by omega]) | (rw [h_6, show us + k = us + tm by omega])
          rw [ee] at hw2
          have ee : z1 = fil y1 us (us + tm) (y1 (us - 1)) := by first | omega | (rw [h_0, show us + k = us + tm by omega]) | (rw [h_1, show us + k = us + tm by omega]) | (rw [h_2, show us + k = us + tm by omega]) | (rw [h_3, show us + k = us + tm by omega]) | (rw [h_4, show us + k = us + tm by omega]) | (rw [h_5, show us + k = us + tm by omega]) | (rw [h_6, show us + k = us + tm by omega])
          rw [ee] at hw2
          have ee : z2 = fil y2 us (us + tm) (y2 (us - 1)) := by first | omega | (rw [h_0, show us + k = us + tm by omega]) | (rw [h_1, show us + k = us + tm by omega]) | (rw [h_2, show us + k = us + tm by omega]) | (rw [h_3, show us + k = us + tm by omega]) | (rw [h_4, show us + k = us + tm by omega]) | (rw [h_5, show us + k = us + tm by omega]) | (rw [h_6, show us + k = us + tm by omega])
          rw [ee] at hw2
          have ee : z3 = fil y3 us (us + tm) (y3 (us - 1)) := by first | omega | (rw [h_0, show us + k = us + tm by omega]) | (rw [h_1, show us + k = us + tm by omega]) | (rw [h_2, show us + k = us + tm by omega]) | (rw [h_3, show us + k = us + tm by omega]) | (rw [h_4, show us + k = us + tm by omega]) | (rw [h_5, show us + k = us + tm by omega]) | (rw [h_6, show us + k = us + tm by omega])
          rw [ee] at hw2
          have ee : z4 = fil y4 us (us + tm) (y4 (us - 1)) := by first | omega | (rw [h_0, show us + k = us + tm by omega]) | (rw [h_1, show us + k = us + tm by omega]) | (rw [h_2, show us + k = us + tm by omega]) | (rw [h_3, show us + k = us + tm by omega]) | (rw [h_4, show us + k = us + tm by omega]) | (rw [h_5, show us + k = us + tm by omega]) | (rw [h_6, show us + k = us + tm by omega])
          rw [ee] at hw2
          have ee : z5 = fil y5 us (us + tm) (y5 (us - 1)) := by first | omega | (rw [h_0, show us + k = us + tm by omega]) | (rw [h_1, show us + k = us + tm by omega]) | (rw [h_2, show us + k = us + tm by omega]) | (rw [h_3, show us + k = us + tm by omega]) | (rw [h_4, show us + k = us + tm by omega]) | (rw [h_5, show us + k = us + tm by omega]) | (rw [h_6, show us + k = us + tm by omega])
          rw [ee] at hw2
          have ee : z6 = fil y6 us (us + tm) (y6 (us - 1)) := by first | omega | (rw [h_0, show us + k = us + tm by omega]) | (rw [h_1, show us + k = us + tm by omega]) | (rw [h_2, show us + k = us + tm by omega]) | (rw [h_3, show us + k = us + tm by omega]) | (rw [h_4, show us + k = us + tm by omega]) | (rw [h_5, show us + k = us + tm by omega]) | (rw [h_6, show us + k = us + tm by omega])
          rw [ee] at hw2
          exact hw2
        exact hret () H locs 179 ls trivial hw dX4_repeatLast_179
      · refine lv_aload_n hx hb dX4_repeatLast_14 rfl (lv_at hl 0 rfl) ?_
        refine q_get hx hb hts hown hK hw.1 ci_X4 0 rfl 8 (by decide) fl_X4_36 rfl dX4_repeatLast_15 ?_
        refine q_bipush hx hb dX4_repeatLast_18 rfl ?_
        refine q_icmp_ge (tgt := 179) hx hb dX4_repeatLast_20 (by decide) (by omega) (fun c_20 => ?_) (fun c_20 => ?_)
        · have hw : qw D A s.heap [((b 0), .inr (4, [.ref (b 1), .ref (b 2), .ref (b 3), .ref (b 4), .ref (b 5), .ref (b 6), .ref (b 7), .ref (b 8), .int (iI (us + tm)), .int (iI f1), .int (iI f2), .int (iI f3)])), ((b 1), .inl (cI, 40, .inl (ai (fil y0 us (us + tm) (y0 (us - 1)))))), ((b 2), .inl (cI, 40, .inl (ai (fil y1 us (us + tm) (y1 (us - 1)))))), ((b 3), .inl (cI, 40, .inl (ai (fil y2 us (us + tm) (y2 (us - 1)))))), ((b 4), .inl (cI, 40, .inl (ai (fil y3 us (us + tm) (y3 (us - 1)))))), ((b 5), .inl (cI, 40, .inl (ai (fil y4 us (us + tm) (y4 (us - 1)))))), ((b 6), .inl (cI, 40, .inl (ai (fil y5 us (us + tm) (y5 (us - 1)))))), ((b 7), .inl (cI, 40, .inl (ai (fil y6 us (us + tm) (y6 (us - 1))))))] H locs := by
            have hw2 := hw
            have ee : m2 = us + tm := by first | omega | (rw [h_0, show us + k = us + tm by omega]) | (rw [h_1, show us + k = us + tm by omega]) | (rw [h_2, show us + k = us + tm by omega]) | (rw [h_3, show us + k = us + tm by omega]) | (rw [h_4, show us + k = us + tm by omega]) | (rw [h_5, show us + k = us + tm by omega]) | (rw [h_6, show us + k = us + tm by omega])
            rw [ee] at hw2
            have ee : z0 = fil y0 us (us + tm) (y0 (us - 1)) := by first | omega | (rw [h_0, show us + k = us + tm by omega]) | (rw [h_1, show us + k = us + tm by omega]) | (rw [h_2, show us + k = us + tm by omega]) | (rw [h_3, show us + k = us + tm by omega]) | (rw [h_4, show us + k = us + tm by omega]) | (rw [h_5, show us + k = us + tm by omega]) | (rw [h_6, show us + k = us + tm by omega])
            rw [ee] at hw2
            have ee : z1 = fil y1 us (us + tm) (y1 (us - 1)) := by first | omega | (rw [h_0, show us + k = us + tm by omega]) | (rw [h_1, show us + k = us + tm by omega]) | (rw [h_2, show us + k = us + tm by omega]) | (rw [h_3, show us + k = us + tm by omega]) | (rw [h_4, show us + k = us + tm by omega]) | (rw [h_5, show us + k = us + tm by omega]) | (rw [h_6, show us + k = us + tm by omega])
            rw [ee] at hw2
            have ee : z2 = fil y2 us (us + tm) (y2 (us - 1)) := by first | omega | (rw [h_0, show us + k = us + tm by omega]) | (rw [h_1, show us + k = us + tm by omega]) | (rw [h_2, show us + k = us + tm by omega]) | (rw [h_3, show us + k = us + tm by omega]) | (rw [h_4, show us + k = us + tm by omega]) | (rw [h_5, show us + k = us + tm by omega]) | (rw [h_6, show us + k = us + tm by omega])
            rw [ee] at hw2
            have ee : z3 = fil y3 us (us + tm) (y3 (us - 1)) := by first | omega | (rw [h_0, show us + k = us + tm by omega]) | (rw [h_1, show us + k = us + tm by omega]) | (rw [h_2, show us + k = us + tm by omega]) | (rw [h_3, show us + k = us + tm by omega]) | (rw [h_4, show us + k = us + tm by omega]) | (rw [h_5, show us + k = us + tm by omega]) | (rw [h_6, show us + k = us + tm by omega])
            rw [ee] at hw2
            have ee : z4 = fil y4 us (us + tm) (y4 (us - 1)) := by first | omega | (rw [h_0, show us + k = us + tm by omega]) | (rw [h_1, show us + k = us + tm by omega]) | (rw [h_2, show us + k = us + tm by omega]) | (rw [h_3, show us + k = us + tm by omega]) | (rw [h_4, show us + k = us + tm by omega]) | (rw [h_5, show us + k = us + tm by omega]) | (rw [h_6, show us + k = us + tm by omega])
            rw [ee] at hw2
            have ee : z5 = fil y5 us (us + tm) (y5 (us - 1)) := by first | omega | (rw [h_0, show us + k = us + tm by omega]) | (rw [h_1, show us + k = us + tm by omega]) | (rw [h_2, show us + k = us + tm by omega]) | (rw [h_3, show us + k = us + tm by omega]) | (rw [h_4, show us + k = us + tm by omega]) | (rw [h_5, show us + k = us + tm by omega]) | (rw [h_6, show us + k = us + tm by omega])
            rw [ee] at hw2
            have ee : z6 = fil y6 us (us + tm) (y6 (us - 1)) := by first | omega | (rw [h_0, show us + k = us + tm by omega]) | (rw [h_1, show us + k = us + tm by omega]) | (rw [h_2, show us + k = us + tm by omega]) | (rw [h_3, show us + k = us + tm by omega]) | (rw [h_4, show us + k = us + tm by omega]) | (rw [h_5, show us + k = us + tm by omega]) | (rw [h_6, show us + k = us + tm by omega])
            rw [ee] at hw2
            exact hw2
          exact hret () H locs 179 ls trivial hw dX4_repeatLast_179
        · refine lv_aload_n hx hb dX4_repeatLast_23 rfl (lv_at hl 0 rfl) ?_
          refine q_get hx hb hts hown hK hw.1 ci_X4 0 rfl 0 (by decide) fl_X4_9 rfl dX4_repeatLast_24 ?_
          refine lv_aload_n hx hb dX4_repeatLast_27 rfl (lv_at hl 0 rfl) ?_
          refine q_get hx hb hts hown hK hw.1 ci_X4 0 rfl 8 (by decide) fl_X4_36 rfl dX4_repeatLast_28 ?_
          refine lv_aload_n hx hb dX4_repeatLast_31 rfl (lv_at hl 0 rfl) ?_
          refine q_get hx hb hts hown hK hw.1 ci_X4 0 rfl 0 (by decide) fl_X4_9 rfl dX4_repeatLast_32 ?_
          refine lv_aload_n hx hb dX4_repeatLast_35 rfl (lv_at hl 0 rfl) ?_
          refine q_get hx hb hts hown hK hw.1 ci_X4 0 rfl 8 (by decide) fl_X4_36 rfl dX4_repeatLast_36 ?_
          refine q_iconst hx hb dX4_repeatLast_39 ?_
          refine q_isub hx hb dX4_repeatLast_40 ?_
          refine q_iald hx hb hK hw.1 1 0 rfl rfl (z := (m2 - 1)) (v := (y0 (us - 1))) (by omega) (by rw [h_0]; exact (Classical.em (k = 0)).elim (fun w => by rw [fil_0 _ _ _ _ (by omega), show m2 - 1 = us - 1 by omega]) (fun w => by rw [fil_in (by omega) (by omega)])) dX4_repeatLast_41 ?_
          refine q_iast hx hb hK hw 1 0 rfl rfl (by omega) dX4_repeatLast_42 (fun H locs hw => ?_)
          have hw : qw D A s.heap [((b 0), .inr (4, [.ref (b 1), .ref (b 2), .ref (b 3), .ref (b 4), .ref (b 5), .ref (b 6), .ref (b 7), .ref (b 8), .int (iI m2), .int (iI f1), .int (iI f2), .int (iI f3)])), ((b 1), .inl (cI, 40, .inl (ai (uI z0 m2 (y0 (us - 1)))))), ((b 2), .inl (cI, 40, .inl (ai z1))), ((b 3), .inl (cI, 40, .inl (ai z2))), ((b 4), .inl (cI, 40, .inl (ai z3))), ((b 5), .inl (cI, 40, .inl (ai z4))), ((b 6), .inl (cI, 40, .inl (ai z5))), ((b 7), .inl (cI, 40, .inl (ai z6)))] H locs := hw
          obtain ⟨f_1, e_f_1⟩ : ∃ z, z = uI z0 m2 (y0 (us - 1)) := ⟨_, rfl⟩
          have hw : qw D A s.heap [((b 0), .inr (4, [.ref (b 1), .ref (b 2), .ref (b 3), .ref (b 4), .ref (b 5), .ref (b 6), .ref (b 7), .ref (b 8), .int (iI m2), .int (iI f1), .int (iI f2), .int (iI f3)])), ((b 1), .inl (cI, 40, .inl (ai f_1))), ((b 2), .inl (cI, 40, .inl (ai z1))), ((b 3), .inl (cI, 40, .inl (ai z2))), ((b 4), .inl (cI, 40, .inl (ai z3))), ((b 5), .inl (cI, 40, .inl (ai z4))), ((b 6), .inl (cI, 40, .inl (ai z5))), ((b 7), .inl (cI, 40, .inl (ai z6)))] H locs := by rw [e_f_1]; exact hw
          refine lv_aload_n hx hb dX4_repeatLast_43 rfl (lv_at hl 0 rfl) ?_
          refine q_get hx hb hts hown hK hw.1 ci_X4 0 rfl 1 (by decide) fl_X4_15 rfl dX4_repeatLast_44 ?_
          refine lv_aload_n hx hb dX4_repeatLast_47 rfl (lv_at hl 0 rfl) ?_
          refine q_get hx hb hts hown hK hw.1 ci_X4 0 rfl 8 (by decide) fl_X4_36 rfl dX4_repeatLast_48 ?_
          refine lv_aload_n hx hb dX4_repeatLast_51 rfl (lv_at hl 0 rfl) ?_
          refine q_get hx hb hts hown hK hw.1 ci_X4 0 rfl 1 (by decide) fl_X4_15 rfl dX4_repeatLast_52 ?_
          refine lv_aload_n hx hb dX4_repeatLast_55 rfl (lv_at hl 0 rfl) ?_
          refine q_get hx hb hts hown hK hw.1 ci_X4 0 rfl 8 (by decide) fl_X4_36 rfl dX4_repeatLast_56 ?_
          refine q_iconst hx hb dX4_repeatLast_59 ?_
          refine q_isub hx hb dX4_repeatLast_60 ?_
          refine q_iald hx hb hK hw.1 2 0 rfl rfl (z := (m2 - 1)) (v := (y1 (us - 1))) (by omega) (by rw [h_1]; exact (Classical.em (k = 0)).elim (fun w => by rw [fil_0 _ _ _ _ (by omega), show m2 - 1 = us - 1 by omega]) (fun w => by rw [fil_in (by omega) (by omega)])) dX4_repeatLast_61 ?_
          refine q_iast hx hb hK hw 2 0 rfl rfl (by omega) dX4_repeatLast_62 (fun H locs hw => ?_)
          have hw : qw D A s.heap [((b 0), .inr (4, [.ref (b 1), .ref (b 2), .ref (b 3), .ref (b 4), .ref (b 5), .ref (b 6), .ref (b 7), .ref (b 8), .int (iI m2), .int (iI f1), .int (iI f2), .int (iI f3)])), ((b 1), .inl (cI, 40, .inl (ai f_1))), ((b 2), .inl (cI, 40, .inl (ai (uI z1 m2 (y1 (us - 1)))))), ((b 3), .inl (cI, 40, .inl (ai z2))), ((b 4), .inl (cI, 40, .inl (ai z3))), ((b 5), .inl (cI, 40, .inl (ai z4))), ((b 6), .inl (cI, 40, .inl (ai z5))), ((b 7), .inl (cI, 40, .inl (ai z6)))] H locs := hw
          obtain ⟨f_2, e_f_2⟩ : ∃ z, z = uI z1 m2 (y1 (us - 1)) := ⟨_, rfl⟩
          have hw : qw D A s.heap [((b 0), .inr (4, [.ref (b 1), .ref (b 2), .ref (b 3), .ref (b 4), .ref (b 5), .ref (b 6), .ref (b 7), .ref (b 8), .int (iI m2), .int (iI f1), .int (iI f2), .int (iI f3)])), ((b 1), .inl (cI, 40, .inl (ai f_1))), ((b 2), .inl (cI, 40, .inl (ai f_2))), ((b 3), .inl (cI, 40, .inl (ai z2))), ((b 4), .inl (cI, 40, .inl (ai z3))), ((b 5), .inl (cI, 40, .inl (ai z4))), ((b 6), .inl (cI, 40, .inl (ai z5))), ((b 7), .inl (cI, 40, .inl (ai z6)))] H locs := by rw [e_f_2]; exact hw
          refine lv_aload_n hx hb dX4_repeatLast_63 rfl (lv_at hl 0 rfl) ?_
          refine q_get hx hb hts hown hK hw.1 ci_X4 0 rfl 2 (by decide) fl_X4_18 rfl dX4_repeatLast_64 ?_
          refine lv_aload_n hx hb dX4_repeatLast_67 rfl (lv_at hl 0 rfl) ?_
          refine q_get hx hb hts hown hK hw.1 ci_X4 0 rfl 8 (by decide) fl_X4_36 rfl dX4_repeatLast_68 ?_
          refine lv_aload_n hx hb dX4_repeatLast_71 rfl (lv_at hl 0 rfl) ?_
          refine q_get hx hb hts hown hK hw.1 ci_X4 0 rfl 2 (by decide) fl_X4_18 rfl dX4_repeatLast_72 ?_
          refine lv_aload_n hx hb dX4_repeatLast_75 rfl (lv_at hl 0 rfl) ?_
          refine q_get hx hb hts hown hK hw.1 ci_X4 0 rfl 8 (by decide) fl_X4_36 rfl dX4_repeatLast_76 ?_
          refine q_iconst hx hb dX4_repeatLast_79 ?_
          refine q_isub hx hb dX4_repeatLast_80 ?_
          refine q_iald hx hb hK hw.1 3 0 rfl rfl (z := (m2 - 1)) (v := (y2 (us - 1))) (by omega) (by rw [h_2]; exact (Classical.em (k = 0)).elim (fun w => by rw [fil_0 _ _ _ _ (by omega), show m2 - 1 = us - 1 by omega]) (fun w => by rw [fil_in (by omega) (by omega)])) dX4_repeatLast_81 ?_
          refine q_iast hx hb hK hw 3 0 rfl rfl (by omega) dX4_repeatLast_82 (fun H locs hw => ?_)
          have hw : qw D A s.heap [((b 0), .inr (4, [.ref (b 1), .ref (b 2), .ref (b 3), .ref (b 4), .ref (b 5), .ref (b 6), .ref (b 7), .ref (b 8), .int (iI m2), .int (iI f1), .int (iI f2), .int (iI f3)])), ((b 1), .inl (cI, 40, .inl (ai f_1))), ((b 2), .inl (cI, 40, .inl (ai f_2))), ((b 3), .inl (cI, 40, .inl (ai (uI z2 m2 (y2 (us - 1)))))), ((b 4), .inl (cI, 40, .inl (ai z3))), ((b 5), .inl (cI, 40, .inl (ai z4))), ((b 6), .inl (cI, 40, .inl (ai z5))), ((b 7), .inl (cI, 40, .inl (ai z6)))] H locs := hw
          obtain ⟨f_3, e_f_3⟩ : ∃ z, z = uI z2 m2 (y2 (us - 1)) := ⟨_, rfl⟩
          have hw : qw D A s.heap [((b 0), .inr (4, [.ref (b 1), .ref (b 2), .ref (b 3), .ref (b 4), .ref (b 5), .ref (b 6), .ref (b 7), .ref (b 8), .int (iI m2), .int (iI f1), .int (iI f2), .int (iI f3)])), ((b 1), .inl (cI, 40, .inl (ai f_1))), ((b 2), .inl (cI, 40, .inl (ai f_2))), ((b 3), .inl (cI, 40, .inl (ai f_3))), ((b 4), .inl (cI, 40, .inl (ai z3))), ((b 5), .inl (cI, 40, .inl (ai z4))), ((b 6), .inl (cI, 40, .inl (ai z5))), ((b 7), .inl (cI, 40, .inl (ai z6)))] H locs := by rw [e_f_3]; exact hw
          refine lv_aload_n hx hb dX4_repeatLast_83 rfl (lv_at hl 0 rfl) ?_
          refine q_get hx hb hts hown hK hw.1 ci_X4 0 rfl 3 (by decide) fl_X4_21 rfl dX4_repeatLast_84 ?_
          refine lv_aload_n hx hb dX4_repeatLast_87 rfl (lv_at hl 0 rfl) ?_
          refine q_get hx hb hts hown hK hw.1 ci_X4 0 rfl 8 (by decide) fl_X4_36 rfl dX4_repeatLast_88 ?_
          refine lv_aload_n hx hb dX4_repeatLast_91 rfl (lv_at hl 0 rfl) ?_
          refine q_get hx hb hts hown hK hw.1 ci_X4 0 rfl 3 (by decide) fl_X4_21 rfl dX4_repeatLast_92 ?_
          refine lv_aload_n hx hb dX4_repeatLast_95 rfl (lv_at hl 0 rfl) ?_
          refine q_get hx hb hts hown hK hw.1 ci_X4 0 rfl 8 (by decide) fl_X4_36 rfl dX4_repeatLast_96 ?_
          refine q_iconst hx hb dX4_repeatLast_99 ?_
          refine q_isub hx hb dX4_repeatLast_100 ?_
          refine q_iald hx hb hK hw.1 4 0 rfl rfl (z := (m2 - 1)) (v := (y3 (us - 1))) (by omega) (by rw [h_3]; exact (Classical.em (k = 0)).elim (fun w => by rw [fil_0 _ _ _ _ (by omega), show m2 - 1 = us - 1 by omega]) (fun w => by rw [fil_in (by omega) (by omega)])) dX4_repeatLast_101 ?_
          refine q_iast hx hb hK hw 4 0 rfl rfl (by omega) dX4_repeatLast_102 (fun H locs hw => ?_)
          have hw : qw D A s.heap [((b 0), .inr (4, [.ref (b 1), .ref (b 2), .ref (b 3), .ref (b 4), .ref (b 5), .ref (b 6), .ref (b 7), .ref (b 8), .int (iI m2), .int (iI f1), .int (iI f2), .int (iI f3)])), ((b 1), .inl (cI, 40, .inl (ai f_1))), ((b 2), .inl (cI, 40, .inl (ai f_2))), ((b 3), .inl (cI, 40, .inl (ai f_3))), ((b 4), .inl (cI, 40, .inl (ai (uI z3 m2 (y3 (us - 1)))))), ((b 5), .inl (cI, 40, .inl (ai z4))), ((b 6), .inl (cI, 40, .inl (ai z5))), ((b 7), .inl (cI, 40, .inl (ai z6)))] H locs := hw
          obtain ⟨f_4, e_f_4⟩ : ∃ z, z = uI z3 m2 (y3 (us - 1)) := ⟨_, rfl⟩
          have hw : qw D A s.heap [((b 0), .inr (4, [.ref (b 1), .ref (b 2), .ref (b 3), .ref (b 4), .ref (b 5), .ref (b 6), .ref (b 7), .ref (b 8), .int (iI m2), .int (iI f1), .int (iI f2), .int (iI f3)])), ((b 1), .inl (cI, 40, .inl (ai f_1))), ((b 2), .inl (cI, 40, .inl (ai f_2))), ((b 3), .inl (cI, 40, .inl (ai f_3))), ((b 4), .inl (cI, 40, .inl (ai f_4))), ((b 5), .inl (cI, 40, .inl (ai z4))), ((b 6), .inl (cI, 40, .inl (ai z5))), ((b 7), .inl (cI, 40, .inl (ai z6)))] H locs := by rw [e_f_4]; exact hw
          refine lv_aload_n hx hb dX4_repeatLast_103 rfl (lv_at hl 0 rfl) ?_
          refine q_get hx hb hts hown hK hw.1 ci_X4 0 rfl 4 (by decide) fl_X4_24 rfl dX4_repeatLast_104 ?_
          refine lv_aload_n hx hb dX4_repeatLast_107 rfl (lv_at hl 0 rfl) ?_
          refine q_get hx hb hts hown hK hw.1 ci_X4 0 rfl 8 (by decide) fl_X4_36 rfl dX4_repeatLast_108 ?_
          refine lv_aload_n hx hb dX4_repeatLast_111 rfl (lv_at hl 0 rfl) ?_
          refine q_get hx hb hts hown hK hw.1 ci_X4 0 rfl 4 (by decide) fl_X4_24 rfl dX4_repeatLast_112 ?_
          refine lv_aload_n hx hb dX4_repeatLast_115 rfl (lv_at hl 0 rfl) ?_
          refine q_get hx hb hts hown hK hw.1 ci_X4 0 rfl 8 (by decide) fl_X4_36 rfl dX4_repeatLast_116 ?_
          refine q_iconst hx hb dX4_repeatLast_119 ?_
          refine q_isub hx hb dX4_repeatLast_120 ?_
          refine q_iald hx hb hK hw.1 5 0 rfl rfl (z := (m2 - 1)) (v := (y4 (us - 1))) (by omega) (by rw [h_4]; exact (Classical.em (k = 0)).elim (fun w => by rw [fil_0 _ _ _ _ (by omega), show m2 - 1 = us - 1 by omega]) (fun w => by rw [fil_in (by omega) (by omega)])) dX4_repeatLast_121 ?_
          refine q_iast hx hb hK hw 5 0 rfl rfl (by omega) dX4_repeatLast_122 (fun H locs hw => ?_)
          have hw : qw D A s.heap [((b 0), .inr (4, [.ref (b 1), .ref (b 2), .ref (b 3), .ref (b 4), .ref (b 5), .ref (b 6), .ref (b 7), .ref (b 8), .int (iI m2), .int (iI f1), .int (iI f2), .int (iI f3)])), ((b 1), .inl (cI, 40, .inl (ai f_1))), ((b 2), .inl (cI, 40, .inl (ai f_2))), ((b 3), .inl (cI, 40, .inl (ai f_3))), ((b 4), .inl (cI, 40, .inl (ai f_4))), ((b 5), .inl (cI, 40, .inl (ai (uI z4 m2 (y4 (us - 1)))))), ((b 6), .inl (cI, 40, .inl (ai z5))), ((b 7), .inl (cI, 40, .inl (ai z6)))] H locs := hw
          obtain ⟨f_5, e_f_5⟩ : ∃ z, z = uI z4 m2 (y4 (us - 1)) := ⟨_, rfl⟩
          have hw : qw D A s.heap [((b 0), .inr (4, [.ref (b 1), .ref (b 2), .ref (b 3), .ref (b 4), .ref (b 5), .ref (b 6), .ref (b 7), .ref (b 8), .int (iI m2), .int (iI f1), .int (iI f2), .int (iI f3)])), ((b 1), .inl (cI, 40, .inl (ai f_1))), ((b 2), .inl (cI, 40, .inl (ai f_2))), ((b 3), .inl (cI, 40, .inl (ai f_3))), ((b 4), .inl (cI, 40, .inl (ai f_4))), ((b 5), .inl (cI, 40, .inl (ai f_5))), ((b 6), .inl (cI, 40, .inl (ai z5))), ((b 7), .inl (cI, 40, .inl (ai z6)))] H locs := by rw [e_f_5]; exact hw
          refine lv_aload_n hx hb dX4_repeatLast_123 rfl (lv_at hl 0 rfl) ?_
          refine q_get hx hb hts hown hK hw.1 ci_X4 0 rfl 5 (by decide) fl_X4_27 rfl dX4_repeatLast_124 ?_
          refine lv_aload_n hx hb dX4_repeatLast_127 rfl (lv_at hl 0 rfl) ?_
          refine q_get hx hb hts hown hK hw.1 ci_X4 0 rfl 8 (by decide) fl_X4_36 rfl dX4_repeatLast_128 ?_
          refine lv_aload_n hx hb dX4_repeatLast_131 rfl (lv_at hl 0 rfl) ?_
          refine q_get hx hb hts hown hK hw.1 ci_X4 0 rfl 5 (by decide) fl_X4_27 rfl dX4_repeatLast_132 ?_
          refine lv_aload_n hx hb dX4_repeatLast_135 rfl (lv_at hl 0 rfl) ?_
          refine q_get hx hb hts hown hK hw.1 ci_X4 0 rfl 8 (by decide) fl_X4_36 rfl dX4_repeatLast_136 ?_
          refine q_iconst hx hb dX4_repeatLast_139 ?_
          refine q_isub hx hb dX4_repeatLast_140 ?_
          refine q_iald hx hb hK hw.1 6 0 rfl rfl (z := (m2 - 1)) (v := (y5 (us - 1))) (by omega) (by rw [h_5]; exact (Classical.em (k = 0)).elim (fun w => by rw [fil_0 _ _ _ _ (by omega), show m2 - 1 = us - 1 by omega]) (fun w => by rw [fil_in (by omega) (by omega)])) dX4_repeatLast_141 ?_
          refine q_iast hx hb hK hw 6 0 rfl rfl (by omega) dX4_repeatLast_142 (fun H locs hw => ?_)
          have hw : qw D A s.heap [((b 0), .inr (4, [.ref (b 1), .ref (b 2), .ref (b 3), .ref (b 4), .ref (b 5), .ref (b 6), .ref (b 7), .ref (b 8), .int (iI m2), .int (iI f1), .int (iI f2), .int (iI f3)])), ((b 1), .inl (cI, 40, .inl (ai f_1))), ((b 2), .inl (cI, 40, .inl (ai f_2))), ((b 3), .inl (cI, 40, .inl (ai f_3))), ((b 4), .inl (cI, 40, .inl (ai f_4))), ((b 5), .inl (cI, 40, .inl (ai f_5))), ((b 6), .inl (cI, 40, .inl (ai (uI z5 m2 (y5 (us - 1)))))), ((b 7), .inl (cI, 40, .inl (ai z6)))] H locs := hw
          obtain ⟨f_6, e_f_6⟩ : ∃ z, z = uI z5 m2 (y5 (us - 1)) := ⟨_, rfl⟩
          have hw : qw D A s.heap [((b 0), .inr (4, [.ref (b 1), .ref (b 2), .ref (b 3), .ref (b 4), .ref (b 5), .ref (b 6), .ref (b 7), .ref (b 8), .int (iI m2), .int (iI f1), .int (iI f2), .int (iI f3)])), ((b 1), .inl (cI, 40, .inl (ai f_1))), ((b 2), .inl (cI, 40, .inl (ai f_2))), ((b 3), .inl (cI, 40, .inl (ai f_3))), ((b 4), .inl (cI, 40, .inl (ai f_4))), ((b 5), .inl (cI, 40, .inl (ai f_5))), ((b 6), .inl (cI, 40, .inl (ai f_6))), ((b 7), .inl (cI, 40, .inl (ai z6)))] H locs := by rw [e_f_6]; exact hw
          refine lv_aload_n hx hb dX4_repeatLast_143 rfl (lv_at hl 0 rfl) ?_
          refine q_get hx hb hts hown hK hw.1 ci_X4 0 rfl 6 (by decide) fl_X4_30 rfl dX4_repeatLast_144 ?_
          refine lv_aload_n hx hb dX4_repeatLast_147 rfl (lv_at hl 0 rfl) ?_
          refine q_get hx hb hts hown hK hw.1 ci_X4 0 rfl 8 (by decide) fl_X4_36 rfl dX4_repeatLast_148 ?_
          refine lv_aload_n hx hb dX4_repeatLast_151 rfl (lv_at hl 0 rfl) ?_
          refine q_get hx hb hts hown hK hw.1 ci_X4 0 rfl 6 (by decide) fl_X4_30 rfl dX4_repeatLast_152 ?_
          refine lv_aload_n hx hb dX4_repeatLast_155 rfl (lv_at hl 0 rfl) ?_
          refine q_get hx hb hts hown hK hw.1 ci_X4 0 rfl 8 (by decide) fl_X4_36 rfl dX4_repeatLast_156 ?_
          refine q_iconst hx hb dX4_repeatLast_159 ?_
          refine q_isub hx hb dX4_repeatLast_160 ?_
          refine q_iald hx hb hK hw.1 7 0 rfl rfl (z := (m2 - 1)) (v := (y6 (us - 1))) (by omega) (by rw [h_6]; exact (Classical.em (k = 0)).elim (fun w => by rw [fil_0 _ _ _ _ (by omega), show m2 - 1 = us - 1 by omega]) (fun w => by rw [fil_in (by omega) (by omega)])) dX4_repeatLast_161 ?_
          refine q_iast hx hb hK hw 7 0 rfl rfl (by omega) dX4_repeatLast_162 (fun H locs hw => ?_)
          have hw : qw D A s.heap [((b 0), .inr (4, [.ref (b 1), .ref (b 2), .ref (b 3), .ref (b 4), .ref (b 5), .ref (b 6), .ref (b 7), .ref (b 8), .int (iI m2), .int (iI f1), .int (iI f2), .int (iI f3)])), ((b 1), .inl (cI, 40, .inl (ai f_1))), ((b 2), .inl (cI, 40, .inl (ai f_2))), ((b 3), .inl (cI, 40, .inl (ai f_3))), ((b 4), .inl (cI, 40, .inl (ai f_4))), ((b 5), .inl (cI, 40, .inl (ai f_5))), ((b 6), .inl (cI, 40, .inl (ai f_6))), ((b 7), .inl (cI, 40, .inl (ai (uI z6 m2 (y6 (us - 1))))))] H locs := hw
          obtain ⟨f_7, e_f_7⟩ : ∃ z, z = uI z6 m2 (y6 (us - 1)) := ⟨_, rfl⟩
          have hw : qw D A s.heap [((b 0), .inr (4, [.ref (b 1), .ref (b 2), .ref (b 3), .ref (b 4), .ref (b 5), .ref (b 6), .ref (b 7), .ref (b 8), .int (iI m2), .int (iI f1), .int (iI f2), .int (iI f3)])), ((b 1), .inl (cI, 40, .inl (ai f_1))), ((b 2), .inl (cI, 40, .inl (ai f_2))), ((b 3), .inl (cI, 40, .inl (ai f_3))), ((b 4), .inl (cI, 40, .inl (ai f_4))), ((b 5), .inl (cI, 40, .inl (ai f_5))), ((b 6), .inl (cI, 40, .inl (ai f_6))), ((b 7), .inl (cI, 40, .inl (ai f_7)))] H locs := by rw [e_f_7]; exact hw
          refine lv_aload_n hx hb dX4_repeatLast_163 rfl (lv_at hl 0 rfl) ?_
          refine lv_dup hx hb dX4_repeatLast_164 rfl ?_
          refine q_get hx hb hts hown hK hw.1 ci_X4 0 rfl 8 (by decide) fl_X4_36 rfl dX4_repeatLast_165 ?_
          refine q_iconst hx hb dX4_repeatLast_168 ?_
          refine q_iadd hx hb dX4_repeatLast_169 ?_
          refine q_put hx hb hts hown hK hw ci_X4 0 rfl 8 (by decide) fl_X4_36 rfl rfl rfl (Nat.le_of_ble_eq_true rfl) dX4_repeatLast_170 (fun H locs hw => ?_)
          have hw : qw D A s.heap [((b 0), .inr (4, [.ref (b 1), .ref (b 2), .ref (b 3), .ref (b 4), .ref (b 5), .ref (b 6), .ref (b 7), .ref (b 8), .int (iI (m2 + 1)), .int (iI f1), .int (iI f2), .int (iI f3)])), ((b 1), .inl (cI, 40, .inl (ai f_1))), ((b 2), .inl (cI, 40, .inl (ai f_2))), ((b 3), .inl (cI, 40, .inl (ai f_3))), ((b 4), .inl (cI, 40, .inl (ai f_4))), ((b 5), .inl (cI, 40, .inl (ai f_5))), ((b 6), .inl (cI, 40, .inl (ai f_6))), ((b 7), .inl (cI, 40, .inl (ai f_7)))] H locs := hw
          refine lv_iinc (v := iI (k + 1)) (lv' := [(2, .int (iI (k + 1))), (0, .ref (b 0)), (1, .int (iI tm))]) hx hb dX4_repeatLast_173 hl (k := 2) rfl (iI_add _ _) (by decide) rfl (fun ls hl => ?_)
          refine lv_goto (tgt := 2) hx hb dX4_repeatLast_176 (by decide) ?_
          exact ih _ (by omega) (f_1) (f_2) (f_3) (f_4) (f_5) (f_6) (f_7) (m2 + 1) (k + 1) H locs ls rfl (by first | omega | assumption | rfl) (by first | omega | assumption | rfl) (by rw [e_f_1, h_0, show us + (k + 1) = us + k + 1 by omega, h_m]; exact fil_s _ _ _ _ (by omega)) (by rw [e_f_2, h_1, show us + (k + 1) = us + k + 1 by omega, h_m]; exact fil_s _ _ _ _ (by omega)) (by rw [e_f_3, h_2, show us + (k + 1) = us + k + 1 by omega, h_m]; exact fil_s _ _ _ _ (by omega)) (by rw [e_f_4, h_3, show us + (k + 1) = us + k + 1 by omega, h_m]; exact fil_s _ _ _ _ (by omega)) (by rw [e_f_5, h_4, show us + (k + 1) = us + k + 1 by omega, h_m]; exact fil_s _ _ _ _ (by omega)) (by rw [e_f_6, h_5, show us + (k + 1) = us + k + 1 by omega, h_m]; exact fil_s _ _ _ _ (by omega)) (by rw [e_f_7, h_6, show us + (k + 1) = us + k + 1 by omega, h_m]; exact fil_s _ _ _ _ (by omega)) hw (lv_sub hl [1, 2, 0] rfl)
  exact loop_2 _ (y0) (y1) (y2) (y3) (y4) (y5) (y6) (us) (0) H locs ls rfl (by first | omega | assumption | rfl) (by first | omega | assumption | rfl) (by exact (fil_0 _ _ _ _ (by omega)).symm) (by exact (fil_0 _ _ _ _ (by omega)).symm) (by exact (fil_0 _ _ _ _ (by omega)).symm) (by exact (fil_0 _ _ _ _ (by omega)).symm) (by exact (fil_0 _ _ _ _ (by omega)).symm) (by exact (fil_0 _ _ _ _ (by omega)).symm) (by exact (fil_0 _ _ _ _ (by omega)).symm) hw (lv_sub hl [1, 2, 0] rfl)

set_option maxHeartbeats 4000000 in
set_option maxRecDepth 100000 in
theorem c_X4_clear : qMz l (ZZ z) D (tyG cI cB cZ cS cJ) yX4_clear cX4_clear 1 (Option.none) 1 60 [.ref (b 0)] [((b 0), .inr (4, [.ref (b 1), .ref (b 2), .ref (b 3), .ref (b 4), .ref (b 5), .ref (b 6), .ref (b 7), .ref (b 8), .int (iI us), .int (iI f1), .int (iI f2), .int (iI f3)])), ((b 8), .inl (cI, 4, .inl (ai y7)))] (fun u : Unit => True) (fun _ => none) (fun u => [((b 0), .inr (4, [.ref (b 1), .ref (b 2), .ref (b 3), .ref (b 4), .ref (b 5), .ref (b 6), .ref (b 7), .ref (b 8), .int (iI 0), .int (iI f1), .int (iI f2), .int (iI 1)])), ((b 8), .inl (cI, 4, .inl (ai usK)))]) := by
  refine qMz_enterV (by decide) (Nat.le_of_ble_eq_true rfl) (fun p e R s m args below meth c Q ls A X hR hA hw hZ hl hret => ?_)
  obtain ⟨hx, hb, hml, hown, hts, hK⟩ := X
  have hl : lv_has ls 1 [(0, .ref (b 0))] := hl
  suffices K : ∀ (H : Heap) (locs : List Loc), qw D A s.heap [((b 0), .inr (4, [.ref (b 1), .ref (b 2), .ref (b 3), .ref (b 4), .ref (b 5), .ref (b 6), .ref (b 7), .ref (b 8), .int (iI us), .int (iI f1), .int (iI f2), .int (iI f3)])), ((b 8), .inl (cI, 4, .inl (ai y7)))] H locs → W p l e R s m args below meth c H locs 0 0 Q (F0 m 0 ls []) from K s.heap [] hw
  clear hw
  intro H locs hw
  refine lv_aload_n hx hb dX4_clear_0 rfl (lv_at hl 0 rfl) ?_
  refine q_iconst hx hb dX4_clear_1 ?_
  refine q_put hx hb hts hown hK hw ci_X4 0 rfl 8 (by decide) fl_X4_36 rfl rfl rfl (Nat.le_of_ble_eq_true rfl) dX4_clear_2 (fun H locs hw => ?_)
  have hw : qw D A s.heap [((b 0), .inr (4, [.ref (b 1), .ref (b 2), .ref (b 3), .ref (b 4), .ref (b 5), .ref (b 6), .ref (b 7), .ref (b 8), .int (iI 0), .int (iI f1), .int (iI f2), .int (iI f3)])), ((b 8), .inl (cI, 4, .inl (ai y7)))] H locs := hw
  refine lv_aload_n hx hb dX4_clear_5 rfl (lv_at hl 0 rfl) ?_
  refine q_iconst hx hb dX4_clear_6 ?_
  refine q_put hx hb hts hown hK hw ci_X4 0 rfl 11 (by decide) fl_X4_40 rfl (nar_z (by first | exact Or.inl rfl | exact Or.inr rfl | exact bI_r | omega)) rfl (Nat.le_of_ble_eq_true rfl) dX4_clear_7 (fun H locs hw => ?_)
  have hw : qw D A s.heap [((b 0), .inr (4, [.ref (b 1), .ref (b 2), .ref (b 3), .ref (b 4), .ref (b 5), .ref (b 6), .ref (b 7), .ref (b 8), .int (iI 0), .int (iI f1), .int (iI f2), .int (iI 1)])), ((b 8), .inl (cI, 4, .inl (ai y7)))] H locs := hw
  refine va_getsN hx hb (hZ.1.2.2.1) hw.2.2 hown ((hZ.2.2.2.2.1 _ fn_X4_44).use rfl) (fun _ h => h) dX4_clear_10 ?_
  refine q_iconst hx hb dX4_clear_13 ?_
  refine lv_aload_n hx hb dX4_clear_14 rfl (lv_at hl 0 rfl) ?_
  refine q_get hx hb hts hown hK hw.1 ci_X4 0 rfl 7 (by decide) fl_X4_33 rfl dX4_clear_15 ?_
  refine q_iconst hx hb dX4_clear_18 ?_
  refine q_iconst hx hb dX4_clear_19 ?_
  refine q_tcopy (f := usK) hx hb hml hl.1 hown hts ml_X4_47 hK hw (hZ.1.2.2.2.2.2) 1 rfl rfl (k := 4) rfl (by rw [hR]; decide) (by rw [hR]; decide) dX4_clear_20 (fun H locs hw => ?_)
  have hw : qw D A s.heap [((b 0), .inr (4, [.ref (b 1), .ref (b 2), .ref (b 3), .ref (b 4), .ref (b 5), .ref (b 6), .ref (b 7), .ref (b 8), .int (iI 0), .int (iI f1), .int (iI f2), .int (iI 1)])), ((b 8), .inl (cI, 4, .inl (ai usK)))] H locs := hw
  exact hret () H locs 23 ls trivial hw dX4_clear_23

set_option maxHeartbeats 4000000 in
set_option maxRecDepth 100000 in
theorem c_X5_count (ac : Int) (nb : Int) (hac : 0 ≤ ac ∧ ac < 9) : qM l D (tyG cI cB cZ cS cJ) yX5_count cX5_count 3 (Option.none) 0 0 [.ref (a 0), .int (iI ac), .int (iI nb)] [((a 0), .inr (5, [.ref (a 1), .ref (a 2), .ref (a 3), .ref (a 4), .ref (a 5), .ref (a 6), .ref (a 7), .ref (a 8), .ref (a 9), .ref (a 10), .ref (a 11), .int (iI stop), .int (iI sinp), .int (iI srea), .int (iI spag), .int (iI sjob), .int (iI sdup)])), ((a 10), .inl (cI, 9, .inl (ai e9)))] (fun u : Unit => True) (fun _ => none) (fun u => [((a 0), .inr (5, [.ref (a 1), .ref (a 2), .ref (a 3), .ref (a 4), .ref (a 5), .ref (a 6), .ref (a 7), .ref (a 8), .ref (a 9), .ref (a 10), .ref (a 11), .int (iI stop), .int (iI sinp), .int (iI srea), .int (iI spag), .int (iI sjob), .int (iI sdup)])), ((a 10), .inl (cI, 9, .inl (ai (uI e9 ac (e9 ac + nb)))))]) := by
  refine qM_enterV (by decide) (Nat.le_of_ble_eq_true rfl) (fun p e R s m args below meth c Q ls A X hR hA hw hl hret => ?_)
  obtain ⟨hx, hb, hml, hown, hts, hK⟩ := X
  have hl : lv_has ls 3 [(0, .ref (a 0)), (1, .int (iI ac)), (2, .int (iI nb))] := hl
  suffices K : ∀ (H : Heap) (locs : List Loc), qw D A s.heap [((a 0), .inr (5, [.ref (a 1), .ref (a 2), .ref (a 3), .ref (a 4), .ref (a 5), .ref (a 6), .ref (a 7), .ref (a 8), .ref (a 9), .ref (a 10), .ref (a 11), .int (iI stop), .int (iI sinp), .int (iI srea), .int (iI spag), .int (iI sjob), .int (iI sdup)])), ((a 10), .inl (cI, 9, .inl (ai e9)))] H locs → W p l e R s m args below meth c H locs 0 0 Q (F0 m 0 ls []) from K s.heap [] hw
  clear hw
  intro H locs hw
  refine lv_iload_n hx hb dX5_count_0 rfl (lv_at hl 1 rfl) ?_
  refine q_if_lt (tgt := 20) hx hb dX5_count_1 (by decide) (by omega) (fun c_1 => absurd c_1 (by omega)) (fun c_1 => ?_)
  refine lv_iload_n hx hb dX5_count_4 rfl (lv_at hl 1 rfl) ?_
  refine q_bipush hx hb dX5_count_5 rfl ?_
  refine q_icmp_ge (tgt := 20) hx hb dX5_count_7 (by decide) (by omega) (fun c_7 => absurd c_7 (by omega)) (fun c_7 => ?_)
  refine lv_aload_n hx hb dX5_count_10 rfl (lv_at hl 0 rfl) ?_
  refine q_get hx hb hts hown hK hw.1 ci_X5 0 rfl 9 (by decide) fl_X5_39 rfl dX5_count_11 ?_
  refine lv_iload_n hx hb dX5_count_14 rfl (lv_at hl 1 rfl) ?_
  refine lv_dup2_11 hx hb dX5_count_15 rfl rfl ?_
  refine q_iald hx hb hK hw.1 1 0 rfl rfl (z := ac) (v := (e9 ac)) (by omega) rfl dX5_count_16 ?_
  refine lv_iload_n hx hb dX5_count_17 rfl (lv_at hl 2 rfl) ?_
  refine q_iadd hx hb dX5_count_18 ?_
  refine q_iast hx hb hK hw 1 0 rfl rfl (by omega) dX5_count_19 (fun H locs hw => ?_)
  have hw : qw D A s.heap [((a 0), .inr (5, [.ref (a 1), .ref (a 2), .ref (a 3), .ref (a 4), .ref (a 5), .ref (a 6), .ref (a 7), .ref (a 8), .ref (a 9), .ref (a 10), .ref (a 11), .int (iI stop), .int (iI sinp), .int (iI srea), .int (iI spag), .int (iI sjob), .int (iI sdup)])), ((a 10), .inl (cI, 9, .inl (ai (uI e9 ac (e9 ac + nb)))))] H locs := hw
  exact hret () H locs 20 ls trivial hw dX5_count_20

set_option maxHeartbeats 4000000 in
set_option maxRecDepth 100000 in
theorem c_X5_beginJob (cd : Int) (hj : 0 ≤ sjob ∧ sjob < 139) : qM l D (tyG cI cB cZ cS cJ) yX5_beginJob cX5_beginJob 2 (Option.none) 0 0 [.ref (a 0), .int (iI cd)] [((a 0), .inr (5, [.ref (a 1), .ref (a 2), .ref (a 3), .ref (a 4), .ref (a 5), .ref (a 6), .ref (a 7), .ref (a 8), .ref (a 9), .ref (a 10), .ref (a 11), .int (iI stop), .int (iI sinp), .int (iI srea), .int (iI spag), .int (iI sjob), .int (iI sdup)])), ((a 8), .inl (cI, 139, .inl (ai e7)))] (fun u : Unit => True) (fun _ => none) (fun u => [((a 0), .inr (5, [.ref (a 1), .ref (a 2), .ref (a 3), .ref (a 4), .ref (a 5), .ref (a 6), .ref (a 7), .ref (a 8), .ref (a 9), .ref (a 10), .ref (a 11), .int (iI stop), .int (iI sinp), .int (iI srea), .int (iI spag), .int (iI (sjob + 1)), .int (iI sdup)])), ((a 8), .inl (cI, 139, .inl (ai (uI e7 sjob cd))))]) := by
  refine qM_enterV (by decide) (Nat.le_of_ble_eq_true rfl) (fun p e R s m args below meth c Q ls A X hR hA hw hl hret => ?_)
  obtain ⟨hx, hb, hml, hown, hts, hK⟩ := X
  have hl : lv_has ls 2 [(0, .ref (a 0)), (1, .int (iI cd))] := hl
  suffices K : ∀ (H : Heap) (locs : List Loc), qw D A s.heap [((a 0), .inr (5, [.ref (a 1), .ref (a 2), .ref (a 3), .ref (a 4), .ref (a 5), .ref (a 6), .ref (a 7), .ref (a 8), .ref (a 9), .ref (a 10), .ref (a 11), .int (iI stop), .int (iI sinp), .int (iI srea), .int (iI spag), .int (iI sjob), .int (iI sdup)])), ((a 8), .inl (cI, 139, .inl (ai e7)))] H locs → W p l e R s m args below meth c H locs 0 0 Q (F0 m 0 ls []) from K s.heap [] hw
  clear hw
  intro H locs hw
  refine lv_aload_n hx hb dX5_beginJob_0 rfl (lv_at hl 0 rfl) ?_
  refine q_get hx hb hts hown hK hw.1 ci_X5 0 rfl 15 (by decide) fl_X5_76 rfl dX5_beginJob_1 ?_
  refine q_sipush hx hb dX5_beginJob_4 rfl ?_
  refine q_icmp_ge (tgt := 30) hx hb dX5_beginJob_7 (by decide) (by omega) (fun c_7 => absurd c_7 (by omega)) (fun c_7 => ?_)
  refine lv_aload_n hx hb dX5_beginJob_10 rfl (lv_at hl 0 rfl) ?_
  refine q_get hx hb hts hown hK hw.1 ci_X5 0 rfl 7 (by decide) fl_X5_33 rfl dX5_beginJob_11 ?_
  refine lv_aload_n hx hb dX5_beginJob_14 rfl (lv_at hl 0 rfl) ?_
  refine q_get hx hb hts hown hK hw.1 ci_X5 0 rfl 15 (by decide) fl_X5_76 rfl dX5_beginJob_15 ?_
  refine lv_iload_n hx hb dX5_beginJob_18 rfl (lv_at hl 1 rfl) ?_
  refine q_iast hx hb hK hw 1 0 rfl rfl (by omega) dX5_beginJob_19 (fun H locs hw => ?_)
  have hw : qw D A s.heap [((a 0), .inr (5, [.ref (a 1), .ref (a 2), .ref (a 3), .ref (a 4), .ref (a 5), .ref (a 6), .ref (a 7), .ref (a 8), .ref (a 9), .ref (a 10), .ref (a 11), .int (iI stop), .int (iI sinp), .int (iI srea), .int (iI spag), .int (iI sjob), .int (iI sdup)])), ((a 8), .inl (cI, 139, .inl (ai (uI e7 sjob cd))))] H locs := hw
  refine lv_aload_n hx hb dX5_beginJob_20 rfl (lv_at hl 0 rfl) ?_
  refine lv_dup hx hb dX5_beginJob_21 rfl ?_
  refine q_get hx hb hts hown hK hw.1 ci_X5 0 rfl 15 (by decide) fl_X5_76 rfl dX5_beginJob_22 ?_
  refine q_iconst hx hb dX5_beginJob_25 ?_
  refine q_iadd hx hb dX5_beginJob_26 ?_
  refine q_put hx hb hts hown hK hw ci_X5 0 rfl 15 (by decide) fl_X5_76 rfl rfl rfl (Nat.le_of_ble_eq_true rfl) dX5_beginJob_27 (fun H locs hw => ?_)
  have hw : qw D A s.heap [((a 0), .inr (5, [.ref (a 1), .ref (a 2), .ref (a 3), .ref (a 4), .ref (a 5), .ref (a 6), .ref (a 7), .ref (a 8), .ref (a 9), .ref (a 10), .ref (a 11), .int (iI stop), .int (iI sinp), .int (iI srea), .int (iI spag), .int (iI (sjob + 1)), .int (iI sdup)])), ((a 8), .inl (cI, 139, .inl (ai (uI e7 sjob cd))))] H locs := hw
  exact hret () H locs 30 ls trivial hw dX5_beginJob_30

set_option maxHeartbeats 4000000 in
set_option maxRecDepth 100000 in
theorem c_X5_addPage (sh : Int) (sd : Int) (hj : 0 ≤ spag ∧ spag < 80) : qM l D (tyG cI cB cZ cS cJ) yX5_addPage cX5_addPage 3 (Option.none) 0 0 [.ref (a 0), .int (iI sh), .int (iI sd)] [((a 0), .inr (5, [.ref (a 1), .ref (a 2), .ref (a 3), .ref (a 4), .ref (a 5), .ref (a 6), .ref (a 7), .ref (a 8), .ref (a 9), .ref (a 10), .ref (a 11), .int (iI stop), .int (iI sinp), .int (iI srea), .int (iI spag), .int (iI sjob), .int (iI sdup)])), ((a 5), .inl (cI, 80, .inl (ai e4))), ((a 6), .inl (cI, 80, .inl (ai e5))), ((a 7), .inl (cI, 80, .inl (ai e6)))] (fun u : Unit => True) (fun _ => none) (fun u => [((a 0), .inr (5, [.ref (a 1), .ref (a 2), .ref (a 3), .ref (a 4), .ref (a 5), .ref (a 6), .ref (a 7), .ref (a 8), .ref (a 9), .ref (a 10), .ref (a 11), .int (iI stop), .int (iI sinp), .int (iI srea), .int (iI (spag + 1)), .int (iI sjob), .int (iI sdup)])), ((a 5), .inl (cI, 80, .inl (ai (uI e4 spag sh)))), ((a 6), .inl (cI, 80, .inl (ai (uI e5 spag sd)))), ((a 7), .inl (cI, 80, .inl (ai (uI e6 spag (sjob - 1)))))]) := by
  refine qM_enterV (by decide) (Nat.le_of_ble_eq_true rfl) (fun p e R s m args below meth c Q ls A X hR hA hw hl hret => ?_)
  obtain ⟨hx, hb, hml, hown, hts, hK⟩ := X
  have hl : lv_has ls 3 [(0, .ref (a 0)), (1, .int (iI sh)), (2, .int (iI sd))] := hl
  suffices K : ∀ (H : Heap) (locs : List Loc), qw D A s.heap [((a 0), .inr (5, [.ref (a 1), .ref (a 2), .ref (a 3), .ref (a 4), .ref (a 5), .ref (a 6), .ref (a 7), .ref (a 8), .ref (a 9), .ref (a 10), .ref (a 11), .int (iI stop), .int (iI sinp), .int (iI srea), .int (iI spag), .int (iI sjob), .int (iI sdup)])), ((a 5), .inl (cI, 80, .inl (ai e4))), ((a 6), .inl (cI, 80, .inl (ai e5))), ((a 7), .inl (cI, 80, .inl (ai e6)))] H locs → W p l e R s m args below meth c H locs 0 0 Q (F0 m 0 ls []) from K s.heap [] hw
  clear hw
  intro H locs hw
  refine lv_aload_n hx hb dX5_addPage_0 rfl (lv_at hl 0 rfl) ?_
  refine q_get hx hb hts hown hK hw.1 ci_X5 0 rfl 14 (by decide) fl_X5_73 rfl dX5_addPage_1 ?_
  refine q_bipush hx hb dX5_addPage_4 rfl ?_
  refine q_icmp_ge (tgt := 54) hx hb dX5_addPage_6 (by decide) (by omega) (fun c_6 => absurd c_6 (by omega)) (fun c_6 => ?_)
  refine lv_aload_n hx hb dX5_addPage_9 rfl (lv_at hl 0 rfl) ?_
  refine q_get hx hb hts hown hK hw.1 ci_X5 0 rfl 4 (by decide) fl_X5_24 rfl dX5_addPage_10 ?_
  refine lv_aload_n hx hb dX5_addPage_13 rfl (lv_at hl 0 rfl) ?_
  refine q_get hx hb hts hown hK hw.1 ci_X5 0 rfl 14 (by decide) fl_X5_73 rfl dX5_addPage_14 ?_
  refine lv_iload_n hx hb dX5_addPage_17 rfl (lv_at hl 1 rfl) ?_
  refine q_iast hx hb hK hw 1 0 rfl rfl (by omega) dX5_addPage_18 (fun H locs hw => ?_)
  have hw : qw D A s.heap [((a 0), .inr (5, [.ref (a 1), .ref (a 2), .ref (a 3), .ref (a 4), .ref (a 5), .ref (a 6), .ref (a 7), .ref (a 8), .ref (a 9), .ref (a 10), .ref (a 11), .int (iI stop), .int (iI sinp), .int (iI srea), .int (iI spag), .int (iI sjob), .int (iI sdup)])), ((a 5), .inl (cI, 80, .inl (ai (uI e4 spag sh)))), ((a 6), .inl (cI, 80, .inl (ai e5))), ((a 7), .inl (cI, 80, .inl (ai e6)))] H locs := hw
  refine lv_aload_n hx hb dX5_addPage_19 rfl (lv_at hl 0 rfl) ?_
  refine q_get hx hb hts hown hK hw.1 ci_X5 0 rfl 5 (by decide) fl_X5_27 rfl dX5_addPage_20 ?_
  refine lv_aload_n hx hb dX5_addPage_23 rfl (lv_at hl 0 rfl) ?_
  refine q_get hx hb hts hown hK hw.1 ci_X5 0 rfl 14 (by decide) fl_X5_73 rfl dX5_addPage_24 ?_
  refine lv_iload_n hx hb dX5_addPage_27 rfl (lv_at hl 2 rfl) ?_
  refine q_iast hx hb hK hw 2 0 rfl rfl (by omega) dX5_addPage_28 (fun H locs hw => ?_)
  have hw : qw D A s.heap [((a 0), .inr (5, [.ref (a 1), .ref (a 2), .ref (a 3), .ref (a 4), .ref (a 5), .ref (a 6), .ref (a 7), .ref (a 8), .ref (a 9), .ref (a 10), .ref (a 11), .int (iI stop), .int (iI sinp), .int (iI srea), .int (iI spag), .int (iI sjob), .int (iI sdup)])), ((a 5), .inl (cI, 80, .inl (ai (uI e4 spag sh)))), ((a 6), .inl (cI, 80, .inl (ai (uI e5 spag sd)))), ((a 7), .inl (cI, 80, .inl (ai e6)))] H locs := hw
  refine lv_aload_n hx hb dX5_addPage_29 rfl (lv_at hl 0 rfl) ?_
  refine q_get hx hb hts hown hK hw.1 ci_X5 0 rfl 6 (by decide) fl_X5_30 rfl dX5_addPage_30 ?_
  refine lv_aload_n hx hb dX5_addPage_33 rfl (lv_at hl 0 rfl) ?_
  refine q_get hx hb hts hown hK hw.1 ci_X5 0 rfl 14 (by decide) fl_X5_73 rfl dX5_addPage_34 ?_
  refine lv_aload_n hx hb dX5_addPage_37 rfl (lv_at hl 0 rfl) ?_
  refine q_get hx hb hts hown hK hw.1 ci_X5 0 rfl 15 (by decide) fl_X5_76 rfl dX5_addPage_38 ?_
  refine q_iconst hx hb dX5_addPage_41 ?_
  refine q_isub hx hb dX5_addPage_42 ?_
  refine q_iast hx hb hK hw 3 0 rfl rfl (by omega) dX5_addPage_43 (fun H locs hw => ?_)
  have hw : qw D A s.heap [((a 0), .inr (5, [.ref (a 1), .ref (a 2), .ref (a 3), .ref (a 4), .ref (a 5), .ref (a 6), .ref (a 7), .ref (a 8), .ref (a 9), .ref (a 10), .ref (a 11), .int (iI stop), .int (iI sinp), .int (iI srea), .int (iI spag), .int (iI sjob), .int (iI sdup)])), ((a 5), .inl (cI, 80, .inl (ai (uI e4 spag sh)))), ((a 6), .inl (cI, 80, .inl (ai (uI e5 spag sd)))), ((a 7), .inl (cI, 80, .inl (ai (uI e6 spag (sjob - 1)))))] H locs := hw
  refine lv_aload_n hx hb dX5_addPage_44 rfl (lv_at hl 0 rfl) ?_
  refine lv_dup hx hb dX5_addPage_45 rfl ?_
  refine q_get hx hb hts hown hK hw.1 ci_X5 0 rfl 14 (by decide) fl_X5_73 rfl dX5_addPage_46 ?_
  refine q_iconst hx hb dX5_addPage_49 ?_
  refine q_iadd hx hb dX5_addPage_50 ?_
  refine q_put hx hb hts hown hK hw ci_X5 0 rfl 14 (by decide) fl_X5_73 rfl rfl rfl (Nat.le_of_ble_eq_true rfl) dX5_addPage_51 (fun H locs hw => ?_)
  have hw : qw D A s.heap [((a 0), .inr (5, [.ref (a 1), .ref (a 2), .ref (a 3), .ref (a 4), .ref (a 5), .ref (a 6), .ref (a 7), .ref (a 8), .ref (a 9), .ref (a 10), .ref (a 11), .int (iI stop), .int (iI sinp), .int (iI srea), .int (iI (spag + 1)), .int (iI sjob), .int (iI sdup)])), ((a 5), .inl (cI, 80, .inl (ai (uI e4 spag sh)))), ((a 6), .inl (cI, 80, .inl (ai (uI e5 spag sd)))), ((a 7), .inl (cI, 80, .inl (ai (uI e6 spag (sjob - 1)))))] H locs := hw
  exact hret () H locs 54 ls trivial hw dX5_addPage_54

set_option maxHeartbeats 4000000 in
set_option maxRecDepth 100000 in
theorem c_X5_pagesOfJob (jb : Int) (hp : 0 ≤ spag ∧ spag ≤ 80) (hjb : rg jb) (h6 : ∀ p : Int, 0 ≤ p → p < spag → rg (e6 p)) : qP l D (tyG cI cB cZ cS cJ) yX5_pagesOfJob cX5_pagesOfJob 4 (Option.some FieldType.int) 0 0 [.ref (a 0), .int (iI jb)] [((a 0), .inr (5, [.ref (a 1), .ref (a 2), .ref (a 3), .ref (a 4), .ref (a 5), .ref (a 6), .ref (a 7), .ref (a 8), .ref (a 9), .ref (a 10), .ref (a 11), .int (iI stop), .int (iI sinp), .int (iI srea), .int (iI spag), .int (iI sjob), .int (iI sdup)])), ((a 7), .inl (cI, 80, .inl (ai e6)))] (some (.int (iI (kI (fun p => e6 p = jb) spag)))) := by
  refine qP_enter (by decide) (Nat.le_of_ble_eq_true rfl) (nar_i _) (fun p e R s m args below meth c Q ls X hR hP hl hret => ?_)
  obtain ⟨hx, hb, hml, hown, hts, hK⟩ := X
  have hl : lv_has ls 4 [(0, .ref (a 0)), (1, .int (iI jb))] := hl
  refine q_iconst hx hb dX5_pagesOfJob_0 ?_
  refine lv_istore_n (lv' := [(2, .int (iI 0)), (0, .ref (a 0)), (1, .int (iI jb))]) hx hb dX5_pagesOfJob_1 rfl hl (by decide) rfl (fun ls hl => ?_)
  refine q_iconst hx hb dX5_pagesOfJob_2 ?_
  refine lv_istore_n (lv' := [(3, .int (iI 0)), (2, .int (iI 0)), (0, .ref (a 0)), (1, .int (iI jb))]) hx hb dX5_pagesOfJob_3 rfl hl (by decide) rfl (fun ls hl => ?_)
  have loop_4 : ∀ (fu : Nat) (c1 : Int) (k : Int) (ls : Array Slot), (spag - k).toNat = fu → (c1 = kI (fun p => e6 p = jb) k) → (0 ≤ k ∧ k ≤ spag) → lv_has ls 4 [(0, .ref (a 0)), (1, .int (iI jb)), (2, .int (iI c1)), (3, .int (iI k))] → W p l e R s m args below meth c s.heap [] 0 0 Q (F0 m 4 ls []) := by
    intro fu
    induction fu using Nat.strongRecOn with
    | ind fu ih =>
    intro c1 k ls hn_4 h_c h_k hl
    refine lv_iload_n hx hb dX5_pagesOfJob_4 rfl (lv_at hl 3 rfl) ?_
    refine lv_aload_n hx hb dX5_pagesOfJob_5 rfl (lv_at hl 0 rfl) ?_
    refine q_get hx hb hts hown hK hP ci_X5 0 rfl 14 (by decide) fl_X5_73 rfl dX5_pagesOfJob_6 ?_
    refine q_icmp_ge (tgt := 31) hx hb dX5_pagesOfJob_9 (by decide) (by omega) (fun c_9 => ?_) (fun c_9 => ?_)
    · refine lv_iload_n hx hb dX5_pagesOfJob_31 rfl (lv_at hl 2 rfl) ?_
      exact q_ret (hret 32 ls dX5_pagesOfJob_32) (by rw [h_c, show k = spag by omega])
    · refine lv_aload_n hx hb dX5_pagesOfJob_12 rfl (lv_at hl 0 rfl) ?_
      refine q_get hx hb hts hown hK hP ci_X5 0 rfl 6 (by decide) fl_X5_30 rfl dX5_pagesOfJob_13 ?_
      refine lv_iload_n hx hb dX5_pagesOfJob_16 rfl (lv_at hl 3 rfl) ?_
      have q_6 := h6 k (by omega) (by omega)
      refine q_iald hx hb hK hP 1 0 rfl rfl (z := k) (v := (e6 k)) (by omega) rfl dX5_pagesOfJob_17 ?_
      refine lv_iload_n hx hb dX5_pagesOfJob_18 rfl (lv_at hl 1 rfl) ?_
      refine q_icmp_ne (tgt := 25) hx hb dX5_pagesOfJob_19 (by decide) (by omega) (fun c_19 => ?_) (fun c_19 => ?_)
      · refine lv_iinc (v := iI (k + 1)) (lv' := [(3, .int (iI (k + 1))), (0, .ref (a 0)), (1, .int (iI jb)), (2, .int (iI c1))]) hx hb dX5_pagesOfJob_25 hl (k := 3) rfl (iI_add _ _) (by decide) rfl (fun ls hl => ?_)
        refine lv_goto (tgt := 4) hx hb dX5_pagesOfJob_28 (by decide) ?_
        exact ih _ (by omega) (c1) (k + 1) ls rfl (by rw [kI_s _ (by omega), ← h_c]; first | rw [bI_t (by omega)] | (rw [bI_f (by omega)]; omega)) (by first | omega | assumption | rfl) (lv_sub hl [1, 2, 3, 0] rfl)
      · refine lv_iinc (v := iI (c1 + 1)) (lv' := [(2, .int (iI (c1 + 1))), (0, .ref (a 0)), (1, .int (iI jb)), (3, .int (iI k))]) hx hb dX5_pagesOfJob_22 hl (k := 2) rfl (iI_add _ _) (by decide) rfl (fun ls hl => ?_)
        refine lv_iinc (v := iI (k + 1)) (lv' := [(3, .int (iI (k + 1))), (2, .int (iI (c1 + 1))), (0, .ref (a 0)), (1, .int (iI jb))]) hx hb dX5_pagesOfJob_25 hl (k := 3) rfl (iI_add _ _) (by decide) rfl (fun ls hl => ?_)
        refine lv_goto (tgt := 4) hx hb dX5_pagesOfJob_28 (by decide) ?_
        exact ih _ (by omega) (c1 + 1) (k + 1) ls rfl (by rw [kI_s _ (by omega), ← h_c]; first | rw [bI_t (by omega)] | (rw [bI_f (by omega)]; omega)) (by first | omega | assumption | rfl) (lv_sub hl [2, 3, 1, 0] rfl)
  exact loop_4 _ (0) (0) ls rfl (by rfl) (by first | omega | assumption | rfl) (lv_sub hl [2, 3, 1, 0] rfl)

set_option maxHeartbeats 4000000 in
set_option maxRecDepth 100000 in
theorem c_X5_firstPageOfJob (jb : Int) (hp : 0 ≤ spag ∧ spag ≤ 80) (hjb : rg jb) (h6 : ∀ p : Int, 0 ≤ p → p < spag → rg (e6 p)) : qP l D (tyG cI cB cZ cS cJ) yX5_firstPageOfJob cX5_firstPageOfJob 3 (Option.some FieldType.int) 0 0 [.ref (a 0), .int (iI jb)] [((a 0), .inr (5, [.ref (a 1), .ref (a 2), .ref (a 3), .ref (a 4), .ref (a 5), .ref (a 6), .ref (a 7), .ref (a 8), .ref (a 9), .ref (a 10), .ref (a 11), .int (iI stop), .int (iI sinp), .int (iI srea), .int (iI spag), .int (iI sjob), .int (iI sdup)])), ((a 7), .inl (cI, 80, .inl (ai e6)))] (some (.int (iI (fsN (fun p => e6 p = jb) spag.toNat 0)))) := by
  refine qP_enter (by decide) (Nat.le_of_ble_eq_true rfl) (nar_i _) (fun p e R s m args below meth c Q ls X hR hP hl hret => ?_)
  obtain ⟨hx, hb, hml, hown, hts, hK⟩ := X
  have hl : lv_has ls 3 [(0, .ref (a 0)), (1, .int (iI jb))] := hl
  refine q_iconst hx hb dX5_firstPageOfJob_0 ?_
  refine lv_istore_n (lv' := [(2, .int (iI 0)), (0, .ref (a 0)), (1, .int (iI jb))]) hx hb dX5_firstPageOfJob_1 rfl hl (by decide) rfl (fun ls hl => ?_)
  have loop_2 : ∀ (fu : Nat) (k : Int) (ls : Array Slot), (spag - k).toNat = fu → (fsN (fun p => e6 p = jb) (spag - k).toNat k = fsN (fun p => e6 p = jb) spag.toNat 0) → (0 ≤ k ∧ k ≤ spag) → lv_has ls 3 [(0, .ref (a 0)), (1, .int (iI jb)), (2, .int (iI k))] → W p l e R s m args below meth c s.heap [] 0 0 Q (F0 m 2 ls []) := by
    intro fu
    induction fu using Nat.strongRecOn with
    | ind fu ih =>
    intro k ls hn_2 h_f h_k hl
    refine lv_iload_n hx hb dX5_firstPageOfJob_2 rfl (lv_at hl 2 rfl) ?_
    refine lv_aload_n hx hb dX5_firstPageOfJob_3 rfl (lv_at hl 0 rfl) ?_
    refine q_get hx hb hts hown hK hP ci_X5 0 rfl 14 (by decide) fl_X5_73 rfl dX5_firstPageOfJob_4 ?_
    refine q_icmp_ge (tgt := 28) hx hb dX5_firstPageOfJob_7 (by decide) (by omega) (fun c_7 => ?_) (fun c_7 => ?_)
    · refine q_iconst hx hb dX5_firstPageOfJob_28 ?_
      exact q_ret (hret 29 ls dX5_firstPageOfJob_29) (by rw [← h_f]; exact (fsN_e (by omega)).symm)
    · refine lv_aload_n hx hb dX5_firstPageOfJob_10 rfl (lv_at hl 0 rfl) ?_
      refine q_get hx hb hts hown hK hP ci_X5 0 rfl 6 (by decide) fl_X5_30 rfl dX5_firstPageOfJob_11 ?_
      refine lv_iload_n hx hb dX5_firstPageOfJob_14 rfl (lv_at hl 2 rfl) ?_
      have q_6 := h6 k (by omega) (by omega)
      refine q_iald hx hb hK hP 1 0 rfl rfl (z := k) (v := (e6 k)) (by omega) rfl dX5_firstPageOfJob_15 ?_
      refine lv_iload_n hx hb dX5_firstPageOfJob_16 rfl (lv_at hl 1 rfl) ?_
      refine q_icmp_ne (tgt := 22) hx hb dX5_firstPageOfJob_17 (by decide) (by omega) (fun c_17 => ?_) (fun c_17 => ?_)
      · refine lv_iinc (v := iI (k + 1)) (lv' := [(2, .int (iI (k + 1))), (0, .ref (a 0)), (1, .int (iI jb))]) hx hb dX5_firstPageOfJob_22 hl (k := 2) rfl (iI_add _ _) (by decide) rfl (fun ls hl => ?_)
        refine lv_goto (tgt := 2) hx hb dX5_firstPageOfJob_25 (by decide) ?_
        exact ih _ (by omega) (k + 1) ls rfl (by rw [← h_f]; exact (fsN_n (by omega) (by omega) (by omega)).symm) (by first | omega | assumption | rfl) (lv_sub hl [1, 2, 0] rfl)
      · refine lv_iload_n hx hb dX5_firstPageOfJob_20 rfl (lv_at hl 2 rfl) ?_
        exact q_ret (hret 21 ls dX5_firstPageOfJob_21) (by rw [← h_f]; exact (fsN_y (by omega) (by omega)).symm)
  exact loop_2 _ (0) ls rfl (by rw [Int.sub_zero]) (by first | omega | assumption | rfl) (lv_sub hl [1, 2, 0] rfl)

set_option maxHeartbeats 4000000 in
set_option maxRecDepth 100000 in
theorem c_X5_sheetsOfJob (jb : Int) (hp : 0 ≤ spag ∧ spag ≤ 80) (hjb : rg jb) (h6 : ∀ p : Int, 0 ≤ p → p < spag → rg (e6 p)) (h4 : ∀ p : Int, 0 ≤ p → p < spag → rg (e4 p)) : qP l D (tyG cI cB cZ cS cJ) yX5_sheetsOfJob cX5_sheetsOfJob 4 (Option.some FieldType.int) 0 0 [.ref (a 0), .int (iI jb)] [((a 0), .inr (5, [.ref (a 1), .ref (a 2), .ref (a 3), .ref (a 4), .ref (a 5), .ref (a 6), .ref (a 7), .ref (a 8), .ref (a 9), .ref (a 10), .ref (a 11), .int (iI stop), .int (iI sinp), .int (iI srea), .int (iI spag), .int (iI sjob), .int (iI sdup)])), ((a 5), .inl (cI, 80, .inl (ai e4))), ((a 7), .inl (cI, 80, .inl (ai e6)))] (some (.int (iI (kI (fun p => e6 p = jb ∧ (p = 0 ∨ e4 p ≠ e4 (p - 1))) spag)))) := by
  refine qP_enter (by decide) (Nat.le_of_ble_eq_true rfl) (nar_i _) (fun p e R s m args below meth c Q ls X hR hP hl hret => ?_)
  obtain ⟨hx, hb, hml, hown, hts, hK⟩ := X
  have hl : lv_has ls 4 [(0, .ref (a 0)), (1, .int (iI jb))] := hl
  refine q_iconst hx hb dX5_sheetsOfJob_0 ?_
  refine lv_istore_n (lv' := [(2, .int (iI 0)), (0, .ref (a 0)), (1, .int (iI jb))]) hx hb dX5_sheetsOfJob_1 rfl hl (by decide) rfl (fun ls hl => ?_)
  refine q_iconst hx hb dX5_sheetsOfJob_2 ?_
  refine lv_istore_n (lv' := [(3, .int (iI 0)), (2, .int (iI 0)), (0, .ref (a 0)), (1, .int (iI jb))]) hx hb dX5_sheetsOfJob_3 rfl hl (by decide) rfl (fun ls hl => ?_)
  have loop_4 : ∀ (fu : Nat) (c1 : Int) (k : Int) (ls : Array Slot), (spag - k).toNat = fu → (c1 = kI (fun p => e6 p = jb ∧ (p = 0 ∨ e4 p ≠ e4 (p - 1))) k) → (0 ≤ k ∧ k ≤ spag) → lv_has ls 4 [(0, .ref (a 0)), (1, .int (iI jb)), (2, .int (iI c1)), (3, .int (iI k))] → W p l e R s m args below meth c s.heap [] 0 0 Q (F0 m 4 ls []) := by
    intro fu
    induction fu using Nat.strongRecOn with
    | ind fu ih =>
    intro c1 k ls hn_4 h_c h_k hl
    refine lv_iload_n hx hb dX5_sheetsOfJob_4 rfl (lv_at hl 3 rfl) ?_
    refine lv_aload_n hx hb dX5_sheetsOfJob_5 rfl (lv_at hl 0 rfl) ?_
    refine q_get hx hb hts hown hK hP ci_X5 0 rfl 14 (by decide) fl_X5_73 rfl dX5_sheetsOfJob_6 ?_
    refine q_icmp_ge (tgt := 52) hx hb dX5_sheetsOfJob_9 (by decide) (by omega) (fun c_9 => ?_) (fun c_9 => ?_)
    · refine lv_iload_n hx hb dX5_sheetsOfJob_52 rfl (lv_at hl 2 rfl) ?_
      exact q_ret (hret 53 ls dX5_sheetsOfJob_53) (by rw [h_c, show k = spag by omega])
    · refine lv_aload_n hx hb dX5_sheetsOfJob_12 rfl (lv_at hl 0 rfl) ?_
      refine q_get hx hb hts hown hK hP ci_X5 0 rfl 6 (by decide) fl_X5_30 rfl dX5_sheetsOfJob_13 ?_
      refine lv_iload_n hx hb dX5_sheetsOfJob_16 rfl (lv_at hl 3 rfl) ?_
      have q_6 := h6 k (by omega) (by omega)
      refine q_iald hx hb hK hP 2 0 rfl rfl (z := k) (v := (e6 k)) (by omega) rfl dX5_sheetsOfJob_17 ?_
      refine lv_iload_n hx hb dX5_sheetsOfJob_18 rfl (lv_at hl 1 rfl) ?_
      refine q_icmp_ne (tgt := 46) hx hb dX5_sheetsOfJob_19 (by decide) (by omega) (fun c_19 => ?_) (fun c_19 => ?_)
      · refine lv_iinc (v := iI (k + 1)) (lv' := [(3, .int (iI (k + 1))), (0, .ref (a 0)), (1, .int (iI jb)), (2, .int (iI c1))]) hx hb dX5_sheetsOfJob_46 hl (k := 3) rfl (iI_add _ _) (by decide) rfl (fun ls hl => ?_)
        refine lv_goto (tgt := 4) hx hb dX5_sheetsOfJob_49 (by decide) ?_
        exact ih _ (by omega) (c1) (k + 1) ls rfl (by rw [kI_s _ (by omega), ← h_c]; first | rw [bI_t (by omega)] | (rw [bI_f (by omega)]; omega)) (by first | omega | assumption | rfl) (lv_sub hl [1, 2, 3, 0] rfl)
      · refine lv_iload_n hx hb dX5_sheetsOfJob_22 rfl (lv_at hl 3 rfl) ?_
        refine q_if_eq (tgt := 43) hx hb dX5_sheetsOfJob_23 (by decide) (by omega) (fun c_23 => ?_) (fun c_23 => ?_)
        · refine lv_iinc (v := iI (c1 + 1)) (lv' := [(2, .int (iI (c1 + 1))), (0, .ref (a 0)), (1, .int (iI jb)), (3, .int (iI k))]) hx hb dX5_sheetsOfJob_43 hl (k := 2) rfl (iI_add _ _) (by decide) rfl (fun ls hl => ?_)
          refine lv_iinc (v := iI (k + 1)) (lv' := [(3, .int (iI (k + 1))), (2, .int (iI (c1 + 1))), (0, .ref (a 0)), (1, .int (iI jb))]) hx hb dX5_sheetsOfJob_46 hl (k := 3) rfl (iI_add _ _) (by decide) rfl (fun ls hl => ?_)
          refine lv_goto (tgt := 4) hx hb dX5_sheetsOfJob_49 (by decide) ?_
          exact ih _ (by omega) (c1 + 1) (k + 1) ls rfl (by rw [kI_s _ (by omega), ← h_c]; first | rw [bI_t (by omega)] | (rw [bI_f (by omega)]; omega)) (by first | omega | assumption | rfl) (lv_sub hl [2, 3, 1, 0] rfl)
        · refine lv_aload_n hx hb dX5_sheetsOfJob_26 rfl (lv_at hl 0 rfl) ?_
          refine q_get hx hb hts hown hK hP ci_X5 0 rfl 4 (by decide) fl_X5_24 rfl dX5_sheetsOfJob_27 ?_
          refine lv_iload_n hx hb dX5_sheetsOfJob_30 rfl (lv_at hl 3 rfl) ?_
          have q_4 := h4 k (by omega) (by omega)
          have q_5 := h4 (k - 1) (by omega) (by omega)
          refine q_iald hx hb hK hP 1 0 rfl rfl (z := k) (v := (e4 k)) (by omega) rfl dX5_sheetsOfJob_31 ?_
          refine lv_aload_n hx hb dX5_sheetsOfJob_32 rfl (lv_at hl 0 rfl) ?_
          refine q_get hx hb hts hown hK hP ci_X5 0 rfl 4 (by decide) fl_X5_24 rfl dX5_sheetsOfJob_33 ?_
          refine lv_iload_n hx hb dX5_sheetsOfJob_36 rfl (lv_at hl 3 rfl) ?_
          refine q_iconst hx hb dX5_sheetsOfJob_37 ?_
          refine q_isub hx hb dX5_sheetsOfJob_38 ?_
          refine q_iald hx hb hK hP 1 0 rfl rfl (z := (k - 1)) (v := (e4 (k - 1))) (by omega) rfl dX5_sheetsOfJob_39 ?_
          refine q_icmp_eq (tgt := 46) hx hb dX5_sheetsOfJob_40 (by decide) (by omega) (fun c_40 => ?_) (fun c_40 => ?_)
          · refine lv_iinc (v := iI (k + 1)) (lv' := [(3, .int (iI (k + 1))), (0, .ref (a 0)), (1, .int (iI jb)), (2, .int (iI c1))]) hx hb dX5_sheetsOfJob_46 hl (k := 3) rfl (iI_add _ _) (by decide) rfl (fun ls hl => ?_)
            refine lv_goto (tgt := 4) hx hb dX5_sheetsOfJob_49 (by decide) ?_
            exact ih _ (by omega) (c1) (k + 1) ls rfl (by rw [kI_s _ (by omega), ← h_c]; first | rw [bI_t (by omega)] | (rw [bI_f (by omega)]; omega)) (by first | omega | assumption | rfl) (lv_sub hl [1, 2, 3, 0] rfl)
          · refine lv_iinc (v := iI (c1 + 1)) (lv' := [(2, .int (iI (c1 + 1))), (0, .ref (a 0)), (1, .int (iI jb)), (3, .int (iI k))]) hx hb dX5_sheetsOfJob_43 hl (k := 2) rfl (iI_add _ _) (by decide) rfl (fun ls hl => ?_)
            refine lv_iinc (v := iI (k + 1)) (lv' := [(3, .int (iI (k + 1))), (2, .int (iI (c1 + 1))), (0, .ref (a 0)), (1, .int (iI jb))]) hx hb dX5_sheetsOfJob_46 hl (k := 3) rfl (iI_add _ _) (by decide) rfl (fun ls hl => ?_)
            refine lv_goto (tgt := 4) hx hb dX5_sheetsOfJob_49 (by decide) ?_
            exact ih _ (by omega) (c1 + 1) (k + 1) ls rfl (by rw [kI_s _ (by omega), ← h_c]; first | rw [bI_t (by omega)] | (rw [bI_f (by omega)]; omega)) (by first | omega | assumption | rfl) (lv_sub hl [2, 3, 1, 0] rfl)
  exact loop_4 _ (0) (0) ls rfl (by rfl) (by first | omega | assumption | rfl) (lv_sub hl [2, 3, 1, 0] rfl)
