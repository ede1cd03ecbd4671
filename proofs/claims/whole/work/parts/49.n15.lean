variable {l : Launch} {z : Nat → Nat} {D : va_G} {cI cB cZ cS cJ : ClassId} {T C E : Nat → Int → Int} {x a b ap b2 : Nat → Nat} {lat und pf pm pt pl pw f1 f2 f3 f4 f5 f6 hn gc stop sinp srea spag sjob sdup : Int} {aH aV : Nat → Nat → Nat} {cH cV : Nat → Nat → Int → Int} {svd ht e0 e1 e2 e3 e4 e5 e6 e7 e8 e9 : Int → Int}
set_option maxHeartbeats 4000000 in
set_option maxRecDepth 100000 in
theorem c_X6_foresee (pct : Int) (hT : WT T) (hC : WC T C) (hfr : FR C) (hp : 101 ≤ pct ∧ pct ≤ 300) : qM l D (tyG cI cB cZ cS cJ) yX6_foresee cX6_foresee 6 (Option.none) 3 102 [.ref (x 0), .int (iI pct)] ([o6C x a b ap lat und] ++ suW b cI T ++ stW a cI C ++ [((x 4), .inr (3, [.int (iI pf), .int (iI pm), .int (iI pt), .int (iI pl), .int (iI pw)])), ((x 6), .inr (0, [.ref (x 7), .int (iI f1), .int (iI f2), .int (iI f3), .int (iI f4), .int (iI f5), .int (iI f6)])), ((x 7), .inr (1, [.ref (x 8), .int (iI hn)])), ((x 8), .inl (cI, 6, .inl (ai ht)))]) (fun u : (Int) × (Int) × (Int) × (Int) × (Int) × (Int) × (Int) × (Int) × (Int) × (Int) × (Int) × (Int) × (Int → Int) => (∀ q : Int, pct ≤ q → q < ((u.2.2.2.2.2.2.2.2.2.2.1)) → ∀ k : Int, 0 ≤ k → k < 5 → fkV ((u.2.2.2.2.2.1)) ((u.2.2.2.2.2.2.1)) ((u.2.2.2.2.2.2.2.1)) ((u.2.2.2.2.2.2.2.2.1)) ((u.2.2.2.2.2.2.2.2.2.1)) k = trA T C q k) ∧ (pct < ((u.2.2.2.2.2.2.2.2.2.2.1)) ∧ ((u.2.2.2.2.2.2.2.2.2.2.1)) ≤ 1000000) ∧ (0 ≤ ((u.2.2.2.2.2.1)) ∧ ((u.2.2.2.2.2.1)) ≤ 80 ∧ 0 ≤ ((u.2.2.2.2.2.2.1)) ∧ ((u.2.2.2.2.2.2.1)) ≤ 80 ∧ 0 ≤ ((u.2.2.2.2.2.2.2.1)) ∧ ((u.2.2.2.2.2.2.2.1)) ≤ 80 ∧ 0 ≤ ((u.2.2.2.2.2.2.2.2.1)) ∧ ((u.2.2.2.2.2.2.2.2.1)) ≤ 80 ∧ 0 ≤ ((u.2.2.2.2.2.2.2.2.2.1)) ∧ ((u.2.2.2.2.2.2.2.2.2.1)) ≤ 80)) (fun _ => none) (fun u => ([o6C x a b ap lat und] ++ suW b cI T ++ stW a cI C ++ [((x 4), .inr (3, [.int (iI (u.1)), .int (iI (u.2.1)), .int (iI (u.2.2.1)), .int (iI (u.2.2.2.1)), .int (iI (u.2.2.2.2.1))])), ((x 6), .inr (0, [.ref (x 7), .int (iI (u.2.2.2.2.2.1)), .int (iI (u.2.2.2.2.2.2.1)), .int (iI (u.2.2.2.2.2.2.2.1)), .int (iI (u.2.2.2.2.2.2.2.2.1)), .int (iI (u.2.2.2.2.2.2.2.2.2.1)), .int (iI (u.2.2.2.2.2.2.2.2.2.2.1))])), ((x 7), .inr (1, [.ref (x 8), .int (iI (u.2.2.2.2.2.2.2.2.2.2.2.1))])), ((x 8), .inl (cI, 6, .inl (ai (u.2.2.2.2.2.2.2.2.2.2.2.2))))])) := by
  have q_w := hT.1
  have q_c := hC.1
  have q_l := hC.2.1
  refine qM_enterV (by decide) (Nat.le_of_ble_eq_true rfl) (fun p e R s m args below meth c Q ls A X hR hA hw hl hret => ?_)
  obtain ⟨hx, hb, hml, hown, hts, hK⟩ := X
  have hl : lv_has ls 6 [(0, .ref (x 0)), (1, .int (iI pct))] := hl
  suffices K : ∀ (H : Heap) (locs : List Loc), qw D A s.heap ([o6C x a b ap lat und] ++ suW b cI T ++ stW a cI C ++ [((x 4), .inr (3, [.int (iI pf), .int (iI pm), .int (iI pt), .int (iI pl), .int (iI pw)])), ((x 6), .inr (0, [.ref (x 7), .int (iI f1), .int (iI f2), .int (iI f3), .int (iI f4), .int (iI f5), .int (iI f6)])), ((x 7), .inr (1, [.ref (x 8), .int (iI hn)])), ((x 8), .inl (cI, 6, .inl (ai ht)))]) H locs → W p l e R s m args below meth c H locs 0 0 Q (F0 m 0 ls []) from K s.heap [] hw
  clear hw
  intro H locs hw
  refine lv_aload_n hx hb dX6_foresee_0 rfl (lv_at hl 0 rfl) ?_
  refine q_get hx hb hts hown hK hw.1 ci_X6 0 rfl 9 (by decide) fl_X6_51 rfl dX6_foresee_1 ?_
  refine lv_aload_n hx hb dX6_foresee_4 rfl (lv_at hl 0 rfl) ?_
  refine q_get hx hb hts hown hK hw.1 ci_X6 0 rfl 2 (by decide) fl_X6_26 rfl dX6_foresee_5 ?_
  refine q_get hx hb hts hown hK hw.1 ci_X5 10 rfl 10 (by decide) fl_X6_113 rfl dX6_foresee_8 ?_
  refine q_callM (As := [.ref (a 11)]) (rest := []) (wr := [((x 0), .inr (6, [.ref (ap 0), .ref (b 0), .ref (a 0), .ref (x 1), .int (iI lat), .int (iI und), .ref (x 2), .ref (x 3), .ref (x 4), .ref (x 6)])), ((b 0), .inr (4, [.ref (b 1), .ref (b 2), .ref (b 3), .ref (b 4), .ref (b 5), .ref (b 6), .ref (b 7), .ref (b 8), .int (iI (T 8 0)), .int (iI (T 8 1)), .int (iI (T 8 2)), .int (iI (T 8 3))])), ((b 1), .inl (cI, 40, .inl (ai (T 0)))), ((b 2), .inl (cI, 40, .inl (ai (T 1)))), ((b 3), .inl (cI, 40, .inl (ai (T 2)))), ((b 4), .inl (cI, 40, .inl (ai (T 3)))), ((b 5), .inl (cI, 40, .inl (ai (T 4)))), ((b 6), .inl (cI, 40, .inl (ai (T 5)))), ((b 7), .inl (cI, 40, .inl (ai (T 6)))), ((b 8), .inl (cI, 4, .inl (ai (T 7)))), ((a 0), .inr (5, [.ref (a 1), .ref (a 2), .ref (a 3), .ref (a 4), .ref (a 5), .ref (a 6), .ref (a 7), .ref (a 8), .ref (a 9), .ref (a 10), .ref (a 11), .int (iI (C 11 0)), .int (iI (C 11 1)), .int (iI (C 11 2)), .int (iI (C 11 3)), .int (iI (C 11 4)), .int (iI (C 11 5))])), ((a 1), .inl (cI, 40, .inl (ai (C 0)))), ((a 2), .inl (cI, 40, .inl (ai (C 1)))), ((a 3), .inl (cI, 40, .inl (ai (C 2)))), ((a 4), .inl (cI, 40, .inl (ai (C 3)))), ((a 5), .inl (cI, 80, .inl (ai (C 4)))), ((a 6), .inl (cI, 80, .inl (ai (C 5)))), ((a 7), .inl (cI, 80, .inl (ai (C 6)))), ((a 8), .inl (cI, 139, .inl (ai (C 7)))), ((a 9), .inl (cI, 4, .inl (ai (C 8)))), ((a 10), .inl (cI, 9, .inl (ai (C 9)))), ((x 4), .inr (3, [.int (iI pf), .int (iI pm), .int (iI pt), .int (iI pl), .int (iI pw)]))]) hx hb hml hown hts hK c_X0_begin yi_X0_begin ml_X6_339 (by rw [hR]; decide) hw hA [24, 25, 26, 21, 22] [0, 1, 2, 3, 4, 5, 6, 7, 8, 9, 10, 11, 12, 13, 14, 15, 16, 17, 18, 19, 20, 23] rfl rfl (by decide) (by decide) (by decide) 0 rfl rfl rfl rfl hl.1 (lv_room (Nat.le_of_ble_eq_true rfl)) dX6_foresee_11 ⟨by rw [hR]; exact Nat.zero_le _, by rw [hR]; exact Nat.zero_le _⟩ (fun u_11 H locs hu_11 hw => ?_)
  have hw : qw D A s.heap ([o6C x a b ap lat und] ++ suW b cI T ++ [((a 0), .inr (5, [.ref (a 1), .ref (a 2), .ref (a 3), .ref (a 4), .ref (a 5), .ref (a 6), .ref (a 7), .ref (a 8), .ref (a 9), .ref (a 10), .ref (a 11), .int (iI (C 11 0)), .int (iI (C 11 1)), .int (iI (C 11 2)), .int (iI (C 11 3)), .int (iI (C 11 4)), .int (iI (C 11 5))])), ((a 1), .inl (cI, 40, .inl (ai (C 0)))), ((a 2), .inl (cI, 40, .inl (ai (C 1)))), ((a 3), .inl (cI, 40, .inl (ai (C 2)))), ((a 4), .inl (cI, 40, .inl (ai (C 3)))), ((a 5), .inl (cI, 80, .inl (ai (C 4)))), ((a 6), .inl (cI, 80, .inl (ai (C 5)))), ((a 7), .inl (cI, 80, .inl (ai (C 6)))), ((a 8), .inl (cI, 139, .inl (ai (C 7)))), ((a 9), .inl (cI, 4, .inl (ai (C 8)))), ((a 10), .inl (cI, 9, .inl (ai (C 9)))), ((x 4), .inr (3, [.int (iI pf), .int (iI pm), .int (iI pt), .int (iI pl), .int (iI pw)])), ((x 6), .inr (0, [.ref (x 7), .int (iI 0), .int (iI 0), .int (iI 0), .int (iI 0), .int (iI 0), .int (iI 1000000)])), ((x 7), .inr (1, [.ref (x 8), .int (iI (C 11 7))])), ((x 8), .inl (cI, 6, .inl (ai (C 10)))), ((a 11), .inr (1, [.ref (a 12), .int (iI (C 11 7))])), ((a 12), .inl (cI, 6, .inl (ai (C 10))))]) H locs := hw
  refine lv_aload_n hx hb dX6_foresee_14 rfl (lv_at hl 0 rfl) ?_
  refine q_get hx hb hts hown hK hw.1 ci_X6 0 rfl 2 (by decide) fl_X6_26 rfl dX6_foresee_15 ?_
  refine q_get hx hb hts hown hK hw.1 ci_X5 10 rfl 11 (by decide) fl_X6_167 rfl dX6_foresee_18 ?_
  refine lv_istore_n (lv' := [(2, .int (iI (C 11 0))), (0, .ref (x 0)), (1, .int (iI pct))]) hx hb dX6_foresee_21 rfl hl (by decide) rfl (fun ls hl => ?_)
  refine q_iconst hx hb dX6_foresee_22 ?_
  refine lv_istore_n (lv' := [(3, .int (iI 0)), (2, .int (iI (C 11 0))), (0, .ref (x 0)), (1, .int (iI pct))]) hx hb dX6_foresee_23 rfl hl (by decide) rfl (fun ls hl => ?_)
  have loop_24 : ∀ (fu : Nat) (q1 : Int) (q2 : Int) (q3 : Int) (q4 : Int) (q5 : Int) (g1 : Int) (g2 : Int) (g3 : Int) (g4 : Int) (g5 : Int) (g6 : Int) (a9 : Int) (t9 : Int → Int) (t : Int) (k : Int) (H : Heap) (locs : List Loc) (ls : Array Slot), (40 - k).toNat = fu → (C 11 0 ≤ t ∧ t ≤ T 8 0) → (0 ≤ k ∧ k ≤ 40 ∧ k ≤ t - C 11 0) → (0 ≤ a9 ∧ a9 ≤ t) → (∀ i : Int, 0 ≤ i → i < minZ a9 6 → 30 ≤ t9 i ∧ t9 i ≤ 500) → (pct < g6 ∧ g6 ≤ 1000000) → (0 ≤ g1 ∧ g1 ≤ t ∧ 0 ≤ g2 ∧ g2 ≤ t ∧ 0 ≤ g3 ∧ g3 ≤ t ∧ 0 ≤ g4 ∧ g4 ≤ 2 * t ∧ 0 ≤ g5 ∧ g5 ≤ t) → (simI T C t9 t (minZ a9 6) a9 pct g6 (fkV g1 g2 g3 g4 g5)) → qw D A s.heap ([o6C x a b ap lat und] ++ suW b cI T ++ [((a 0), .inr (5, [.ref (a 1), .ref (a 2), .ref (a 3), .ref (a 4), .ref (a 5), .ref (a 6), .ref (a 7), .ref (a 8), .ref (a 9), .ref (a 10), .ref (a 11), .int (iI (C 11 0)), .int (iI (C 11 1)), .int (iI (C 11 2)), .int (iI (C 11 3)), .int (iI (C 11 4)), .int (iI (C 11 5))])), ((a 1), .inl (cI, 40, .inl (ai (C 0)))), ((a 2), .inl (cI, 40, .inl (ai (C 1)))), ((a 3), .inl (cI, 40, .inl (ai (C 2)))), ((a 4), .inl (cI, 40, .inl (ai (C 3)))), ((a 5), .inl (cI, 80, .inl (ai (C 4)))), ((a 6), .inl (cI, 80, .inl (ai (C 5)))), ((a 7), .inl (cI, 80, .inl (ai (C 6)))), ((a 8), .inl (cI, 139, .inl (ai (C 7)))), ((a 9), .inl (cI, 4, .inl (ai (C 8)))), ((a 10), .inl (cI, 9, .inl (ai (C 9)))), ((x 4), .inr (3, [.int (iI q1), .int (iI q2), .int (iI q3), .int (iI q4), .int (iI q5)])), ((x 6), .inr (0, [.ref (x 7), .int (iI g1), .int (iI g2), .int (iI g3), .int (iI g4), .int (iI g5), .int (iI g6)])), ((x 7), .inr (1, [.ref (x 8), .int (iI a9)])), ((x 8), .inl (cI, 6, .inl (ai t9))), ((a 11), .inr (1, [.ref (a 12), .int (iI (C 11 7))])), ((a 12), .inl (cI, 6, .inl (ai (C 10))))]) H locs → lv_has ls 6 [(0, .ref (x 0)), (1, .int (iI pct)), (2, .int (iI t)), (3, .int (iI k))] → W p l e R s m args below meth c H locs 0 0 Q (F0 m 24 ls []) := by
    intro fu
    induction fu using Nat.strongRecOn with
    | ind fu ih =>
    intro q1 q2 q3 q4 q5 g1 g2 g3 g4 g5 g6 a9 t9 t k H locs ls hn_24 h_t h_k h_g h_r h_6 h_b h_I hw hl
    refine lv_iload_n hx hb dX6_foresee_24 rfl (lv_at hl 3 rfl) ?_
    refine q_bipush hx hb dX6_foresee_25 rfl ?_
    refine q_icmp_ge (tgt := 146) hx hb dX6_foresee_27 (by decide) (by omega) (fun c_27 => ?_) (fun c_27 => ?_)
    · have q_E := simI_e h_I (by omega)
      exact hret (q1, q2, q3, q4, q5, g1, g2, g3, g4, g5, g6, a9, t9) H locs 146 ls ⟨(by exact q_E), (by dsimp only; omega), (by dsimp only; omega)⟩ (hw.sub [0, 1, 2, 3, 4, 5, 6, 7, 8, 9, 10, 11, 12, 13, 14, 15, 16, 17, 18, 19, 20, 25, 26, 21, 22, 23, 24] (by decide) rfl) dX6_foresee_146
    · refine lv_iload_n hx hb dX6_foresee_30 rfl (lv_at hl 2 rfl) ?_
      refine lv_aload_n hx hb dX6_foresee_31 rfl (lv_at hl 0 rfl) ?_
      refine q_get hx hb hts hown hK hw.1 ci_X6 0 rfl 1 (by decide) fl_X6_19 rfl dX6_foresee_32 ?_
      refine q_get hx hb hts hown hK hw.1 ci_X4 1 rfl 8 (by decide) fl_X6_90 rfl dX6_foresee_35 ?_
      refine q_icmp_ge (tgt := 146) hx hb dX6_foresee_38 (by decide) (by omega) (fun c_38 => ?_) (fun c_38 => ?_)
      · have q_E := simI_e h_I (by omega)
        exact hret (q1, q2, q3, q4, q5, g1, g2, g3, g4, g5, g6, a9, t9) H locs 146 ls ⟨(by exact q_E), (by dsimp only; omega), (by dsimp only; omega)⟩ (hw.sub [0, 1, 2, 3, 4, 5, 6, 7, 8, 9, 10, 11, 12, 13, 14, 15, 16, 17, 18, 19, 20, 25, 26, 21, 22, 23, 24] (by decide) rfl) dX6_foresee_146
      · refine lv_aload_n hx hb dX6_foresee_41 rfl (lv_at hl 0 rfl) ?_
        refine q_get hx hb hts hown hK hw.1 ci_X6 0 rfl 8 (by decide) fl_X6_44 rfl dX6_foresee_42 ?_
        refine lv_aload_n hx hb dX6_foresee_45 rfl (lv_at hl 0 rfl) ?_
        refine q_get hx hb hts hown hK hw.1 ci_X6 0 rfl 1 (by decide) fl_X6_19 rfl dX6_foresee_46 ?_
        refine lv_aload_n hx hb dX6_foresee_49 rfl (lv_at hl 0 rfl) ?_
        refine q_get hx hb hts hown hK hw.1 ci_X6 0 rfl 2 (by decide) fl_X6_26 rfl dX6_foresee_50 ?_
        refine lv_iload_n hx hb dX6_foresee_53 rfl (lv_at hl 2 rfl) ?_
        refine q_callM (As := [.ref (b 0), .ref (a 0), .int (iI t)]) (rest := []) (wr := [((x 0), .inr (6, [.ref (ap 0), .ref (b 0), .ref (a 0), .ref (x 1), .int (iI lat), .int (iI und), .ref (x 2), .ref (x 3), .ref (x 4), .ref (x 6)])), ((b 3), .inl (cI, 40, .inl (ai (T 2)))), ((b 4), .inl (cI, 40, .inl (ai (T 3)))), ((b 5), .inl (cI, 40, .inl (ai (T 4)))), ((b 6), .inl (cI, 40, .inl (ai (T 5)))), ((b 7), .inl (cI, 40, .inl (ai (T 6)))), ((b 8), .inl (cI, 4, .inl (ai (T 7)))), ((a 1), .inl (cI, 40, .inl (ai (C 0)))), ((a 4), .inl (cI, 40, .inl (ai (C 3)))), ((a 5), .inl (cI, 80, .inl (ai (C 4)))), ((a 6), .inl (cI, 80, .inl (ai (C 5)))), ((a 7), .inl (cI, 80, .inl (ai (C 6)))), ((a 8), .inl (cI, 139, .inl (ai (C 7)))), ((a 9), .inl (cI, 4, .inl (ai (C 8)))), ((a 10), .inl (cI, 9, .inl (ai (C 9)))), ((x 6), .inr (0, [.ref (x 7), .int (iI g1), .int (iI g2), .int (iI g3), .int (iI g4), .int (iI g5), .int (iI g6)])), ((x 7), .inr (1, [.ref (x 8), .int (iI a9)])), ((x 8), .inl (cI, 6, .inl (ai t9))), ((a 11), .inr (1, [.ref (a 12), .int (iI (C 11 7))])), ((a 12), .inl (cI, 6, .inl (ai (C 10))))]) hx hb hml hown hts hK (c_X3_measure (t) (by exact WT_shOk hT hC) (by omega) (by omega)) yi_X3_measure ml_X6_201 (by rw [hR]; decide) hw hA [21, 1, 2, 3, 10, 12, 13] [0, 4, 5, 6, 7, 8, 9, 11, 14, 15, 16, 17, 18, 19, 20, 22, 23, 24, 25, 26] rfl rfl (by decide) (by decide) (by decide) 0 rfl rfl rfl rfl hl.1 (lv_room (Nat.le_of_ble_eq_true rfl)) dX6_foresee_54 ⟨by rw [hR]; exact Nat.zero_le _, by rw [hR]; exact Nat.zero_le _⟩ (fun u_54 H locs hu_54 hw => ?_)
        have hw : qw D A s.heap ([o6C x a b ap lat und] ++ [((b 3), .inl (cI, 40, .inl (ai (T 2)))), ((b 4), .inl (cI, 40, .inl (ai (T 3)))), ((b 5), .inl (cI, 40, .inl (ai (T 4)))), ((b 6), .inl (cI, 40, .inl (ai (T 5)))), ((b 7), .inl (cI, 40, .inl (ai (T 6)))), ((b 8), .inl (cI, 4, .inl (ai (T 7)))), ((a 1), .inl (cI, 40, .inl (ai (C 0)))), ((a 4), .inl (cI, 40, .inl (ai (C 3)))), ((a 5), .inl (cI, 80, .inl (ai (C 4)))), ((a 6), .inl (cI, 80, .inl (ai (C 5)))), ((a 7), .inl (cI, 80, .inl (ai (C 6)))), ((a 8), .inl (cI, 139, .inl (ai (C 7)))), ((a 9), .inl (cI, 4, .inl (ai (C 8)))), ((a 10), .inl (cI, 9, .inl (ai (C 9)))), ((x 6), .inr (0, [.ref (x 7), .int (iI g1), .int (iI g2), .int (iI g3), .int (iI g4), .int (iI g5), .int (iI g6)])), ((x 7), .inr (1, [.ref (x 8), .int (iI a9)])), ((x 8), .inl (cI, 6, .inl (ai t9))), ((a 11), .inr (1, [.ref (a 12), .int (iI (C 11 7))])), ((a 12), .inl (cI, 6, .inl (ai (C 10)))), ((x 4), .inr (3, [.int (iI t), .int (iI (pk (C 2) (T 8 0) t)), .int (iI (thk T t (pk (C 2) (T 8 0) t))), .int (iI (lng T (C 2) t (pk (C 2) (T 8 0) t))), .int (iI ((C 1) t))])), ((b 0), .inr (4, [.ref (b 1), .ref (b 2), .ref (b 3), .ref (b 4), .ref (b 5), .ref (b 6), .ref (b 7), .ref (b 8), .int (iI (T 8 0)), .int (iI (T 8 1)), .int (iI (T 8 2)), .int (iI (T 8 3))])), ((b 1), .inl (cI, 40, .inl (ai (T 0)))), ((b 2), .inl (cI, 40, .inl (ai (T 1)))), ((a 0), .inr (5, [.ref (a 1), .ref (a 2), .ref (a 3), .ref (a 4), .ref (a 5), .ref (a 6), .ref (a 7), .ref (a 8), .ref (a 9), .ref (a 10), .ref (a 11), .int (iI (C 11 0)), .int (iI (C 11 1)), .int (iI (C 11 2)), .int (iI (C 11 3)), .int (iI (C 11 4)), .int (iI (C 11 5))])), ((a 2), .inl (cI, 40, .inl (ai (C 1)))), ((a 3), .inl (cI, 40, .inl (ai (C 2))))]) H locs := hw
        have q_k : 1 ≤ (pk (C 2) (T 8 0) t) ∧ t + (pk (C 2) (T 8 0) t) ≤ T 8 0 := pk_bd (by omega)
        have q_t := (WT_shOk hT hC).thk (t := t) (k := (pk (C 2) (T 8 0) t)) (by omega) (by omega) (by omega)
        have q_g := (WT_shOk hT hC).lng (by omega) (t := t) (k := (pk (C 2) (T 8 0) t)) (by omega) (by omega) (by omega)
        have q_h := WT_shOk hT hC t (by omega) (by omega)
        have q_u := usG_bd (gt := t9) (gc := minZ a9 6) (wo := T 8 2) (by omega) h_r
        have q_5 := hT.2.2 t (by omega) (by omega)
        have q_p := pgs_bd T C t
        refine lv_aload_n hx hb dX6_foresee_57 rfl (lv_at hl 0 rfl) ?_
        refine q_get hx hb hts hown hK hw.1 ci_X6 0 rfl 9 (by decide) fl_X6_51 rfl dX6_foresee_58 ?_
        refine q_get hx hb hts hown hK hw.1 ci_X0 15 rfl 0 (by decide) fl_X6_342 rfl dX6_foresee_61 ?_
        refine lv_aload_n hx hb dX6_foresee_64 rfl (lv_at hl 0 rfl) ?_
        refine q_get hx hb hts hown hK hw.1 ci_X6 0 rfl 1 (by decide) fl_X6_19 rfl dX6_foresee_65 ?_
        refine q_get hx hb hts hown hK hw.1 ci_X4 21 rfl 10 (by decide) fl_X6_62 rfl dX6_foresee_68 ?_
        refine q_callP (As := [.int (iI (T 8 2))]) (rest := []) hx hb hml hown hts hK (c_X1_usual (gc := minZ a9 6) (T 8 2) (by omega) (by rfl) (by omega) (by exact h_r)) yi_X1_usual ml_X6_117 (by rw [hR]; decide) (hw.1.sub [16, 17] rfl) 0 rfl rfl rfl rfl hl.1 (lv_room (Nat.le_of_ble_eq_true rfl)) dX6_foresee_71 ⟨by rw [hR]; exact Nat.zero_le _, by rw [hR]; exact Nat.zero_le _⟩ ?_
        refine lv_istore (lv' := [(4, .int (iI (usG t9 (minZ a9 6) (T 8 2)))), (0, .ref (x 0)), (1, .int (iI pct)), (2, .int (iI t)), (3, .int (iI k))]) hx hb dX6_foresee_74 hl (by decide) rfl (fun ls hl => ?_)
        refine lv_aload_n hx hb dX6_foresee_76 rfl (lv_at hl 1 rfl) ?_
        refine lv_iload_n hx hb dX6_foresee_77 rfl (lv_at hl 2 rfl) ?_
        refine lv_iload hx hb dX6_foresee_78 (lv_at hl 0 rfl) ?_
        refine q_callP (As := [.int (iI pct), .int (iI (usG t9 (minZ a9 6) (T 8 2)))]) (rest := []) hx hb hml hown hts hK (c_X6_reasonToStop (pct) (usG t9 (minZ a9 6) (T 8 2)) (by omega) (by omega) (by omega) (by omega) (by omega)) yi_X6_reasonToStop ml_X6_211 (by rw [hR]; decide) (hw.1.sub [0, 21, 24, 13, 20] rfl) 0 rfl rfl rfl rfl hl.1 (lv_room (Nat.le_of_ble_eq_true rfl)) dX6_foresee_80 ⟨by rw [hR]; exact Nat.zero_le _, by rw [hR]; exact Nat.zero_le _⟩ ?_
        refine q_top (reQ T C t9 t (minZ a9 6) pct) (by rfl) ?_
        have q_re : 0 ≤ reQ T C t9 t (minZ a9 6) pct ∧ reQ T C t9 t (minZ a9 6) pct ≤ 3 := rsn_bd _ _ _ _ _ _ _
        refine lv_istore (lv' := [(5, .int (iI (reQ T C t9 t (minZ a9 6) pct))), (4, .int (iI (usG t9 (minZ a9 6) (T 8 2)))), (0, .ref (x 0)), (1, .int (iI pct)), (2, .int (iI t)), (3, .int (iI k))]) hx hb dX6_foresee_83 hl (by decide) rfl (fun ls hl => ?_)
        refine lv_iload hx hb dX6_foresee_85 (lv_at hl 0 rfl) ?_
        refine q_if_ne (tgt := 115) hx hb dX6_foresee_87 (by decide) (by omega) (fun c_87 => ?_) (fun c_87 => ?_)
        · refine lv_aload_n hx hb dX6_foresee_115 rfl (lv_at hl 2 rfl) ?_
          refine q_get hx hb hts hown hK hw.1 ci_X6 0 rfl 9 (by decide) fl_X6_51 rfl dX6_foresee_116 ?_
          refine lv_aload_n hx hb dX6_foresee_119 rfl (lv_at hl 2 rfl) ?_
          refine q_get hx hb hts hown hK hw.1 ci_X6 0 rfl 8 (by decide) fl_X6_44 rfl dX6_foresee_120 ?_
          refine lv_iload hx hb dX6_foresee_123 (lv_at hl 0 rfl) ?_
          refine lv_iload hx hb dX6_foresee_125 (lv_at hl 1 rfl) ?_
          refine q_callM (As := [.ref (x 4), .int (iI (reQ T C t9 t (minZ a9 6) pct)), .int (iI (usG t9 (minZ a9 6) (T 8 2)))]) (rest := []) (wr := [((x 0), .inr (6, [.ref (ap 0), .ref (b 0), .ref (a 0), .ref (x 1), .int (iI lat), .int (iI und), .ref (x 2), .ref (x 3), .ref (x 4), .ref (x 6)])), ((b 3), .inl (cI, 40, .inl (ai (T 2)))), ((b 4), .inl (cI, 40, .inl (ai (T 3)))), ((b 5), .inl (cI, 40, .inl (ai (T 4)))), ((b 6), .inl (cI, 40, .inl (ai (T 5)))), ((b 7), .inl (cI, 40, .inl (ai (T 6)))), ((b 8), .inl (cI, 4, .inl (ai (T 7)))), ((a 1), .inl (cI, 40, .inl (ai (C 0)))), ((a 4), .inl (cI, 40, .inl (ai (C 3)))), ((a 5), .inl (cI, 80, .inl (ai (C 4)))), ((a 6), .inl (cI, 80, .inl (ai (C 5)))), ((a 7), .inl (cI, 80, .inl (ai (C 6)))), ((a 8), .inl (cI, 139, .inl (ai (C 7)))), ((a 9), .inl (cI, 4, .inl (ai (C 8)))), ((a 10), .inl (cI, 9, .inl (ai (C 9)))), ((a 11), .inr (1, [.ref (a 12), .int (iI (C 11 7))])), ((a 12), .inl (cI, 6, .inl (ai (C 10)))), ((b 0), .inr (4, [.ref (b 1), .ref (b 2), .ref (b 3), .ref (b 4), .ref (b 5), .ref (b 6), .ref (b 7), .ref (b 8), .int (iI (T 8 0)), .int (iI (T 8 1)), .int (iI (T 8 2)), .int (iI (T 8 3))])), ((b 1), .inl (cI, 40, .inl (ai (T 0)))), ((b 2), .inl (cI, 40, .inl (ai (T 1)))), ((a 0), .inr (5, [.ref (a 1), .ref (a 2), .ref (a 3), .ref (a 4), .ref (a 5), .ref (a 6), .ref (a 7), .ref (a 8), .ref (a 9), .ref (a 10), .ref (a 11), .int (iI (C 11 0)), .int (iI (C 11 1)), .int (iI (C 11 2)), .int (iI (C 11 3)), .int (iI (C 11 4)), .int (iI (C 11 5))])), ((a 2), .inl (cI, 40, .inl (ai (C 1)))), ((a 3), .inl (cI, 40, .inl (ai (C 2))))]) hx hb hml hown hts hK (c_X0_addStop (reQ T C t9 t (minZ a9 6) pct) (usG t9 (minZ a9 6) (T 8 2)) (by omega)) yi_X0_addStop ml_X6_347 (by rw [hR]; decide) hw hA [15, 16, 17, 20] [0, 1, 2, 3, 4, 5, 6, 7, 8, 9, 10, 11, 12, 13, 14, 18, 19, 21, 22, 23, 24, 25, 26] rfl rfl (by decide) (by decide) (by decide) 0 rfl rfl rfl rfl hl.1 (lv_room (Nat.le_of_ble_eq_true rfl)) dX6_foresee_127 ⟨by rw [hR]; exact Nat.zero_le _, by rw [hR]; exact Nat.zero_le _⟩ (fun u_127 H locs hu_127 hw => ?_)
          obtain ⟨f1n_3, f2n_3, f6n_3⟩ := u_127
          obtain ⟨hu_3_0, hu_3_1, hu_3_2⟩ : (f1n_3 = if (reQ T C t9 t (minZ a9 6) pct) = 1 then g1 + 1 else g1) ∧ (f2n_3 = if (reQ T C t9 t (minZ a9 6) pct) = 1 ∧ (pk (C 2) (T 8 0) t) = 1 then g2 + 1 else g2) ∧ (f6n_3 = if (reQ T C t9 t (minZ a9 6) pct) = 1 then minZ g6 (((thk T t (pk (C 2) (T 8 0) t)) * 100 + (usG t9 (minZ a9 6) (T 8 2)) - 1).tdiv (usG t9 (minZ a9 6) (T 8 2))) else g6) := hu_127
          have hw : qw D A s.heap ([o6C x a b ap lat und] ++ [((b 3), .inl (cI, 40, .inl (ai (T 2)))), ((b 4), .inl (cI, 40, .inl (ai (T 3)))), ((b 5), .inl (cI, 40, .inl (ai (T 4)))), ((b 6), .inl (cI, 40, .inl (ai (T 5)))), ((b 7), .inl (cI, 40, .inl (ai (T 6)))), ((b 8), .inl (cI, 4, .inl (ai (T 7)))), ((a 1), .inl (cI, 40, .inl (ai (C 0)))), ((a 4), .inl (cI, 40, .inl (ai (C 3)))), ((a 5), .inl (cI, 80, .inl (ai (C 4)))), ((a 6), .inl (cI, 80, .inl (ai (C 5)))), ((a 7), .inl (cI, 80, .inl (ai (C 6)))), ((a 8), .inl (cI, 139, .inl (ai (C 7)))), ((a 9), .inl (cI, 4, .inl (ai (C 8)))), ((a 10), .inl (cI, 9, .inl (ai (C 9)))), ((a 11), .inr (1, [.ref (a 12), .int (iI (C 11 7))])), ((a 12), .inl (cI, 6, .inl (ai (C 10)))), ((b 0), .inr (4, [.ref (b 1), .ref (b 2), .ref (b 3), .ref (b 4), .ref (b 5), .ref (b 6), .ref (b 7), .ref (b 8), .int (iI (T 8 0)), .int (iI (T 8 1)), .int (iI (T 8 2)), .int (iI (T 8 3))])), ((b 1), .inl (cI, 40, .inl (ai (T 0)))), ((b 2), .inl (cI, 40, .inl (ai (T 1)))), ((a 0), .inr (5, [.ref (a 1), .ref (a 2), .ref (a 3), .ref (a 4), .ref (a 5), .ref (a 6), .ref (a 7), .ref (a 8), .ref (a 9), .ref (a 10), .ref (a 11), .int (iI (C 11 0)), .int (iI (C 11 1)), .int (iI (C 11 2)), .int (iI (C 11 3)), .int (iI (C 11 4)), .int (iI (C 11 5))])), ((a 2), .inl (cI, 40, .inl (ai (C 1)))), ((a 3), .inl (cI, 40, .inl (ai (C 2)))), ((x 6), .inr (0, [.ref (x 7), .int (iI f1n_3), .int (iI f2n_3), .int (iI g3), .int (iI g4), .int (iI (g5 + pk (C 2) (T 8 0) t)), .int (iI f6n_3)])), ((x 7), .inr (1, [.ref (x 8), .int (iI a9)])), ((x 8), .inl (cI, 6, .inl (ai t9))), ((x 4), .inr (3, [.int (iI t), .int (iI (pk (C 2) (T 8 0) t)), .int (iI (thk T t (pk (C 2) (T 8 0) t))), .int (iI (lng T (C 2) t (pk (C 2) (T 8 0) t))), .int (iI ((C 1) t))]))]) H locs := hw
          refine lv_iload_n hx hb dX6_foresee_130 rfl (lv_at hl 4 rfl) ?_
          refine lv_aload_n hx hb dX6_foresee_131 rfl (lv_at hl 2 rfl) ?_
          refine q_get hx hb hts hown hK hw.1 ci_X6 0 rfl 8 (by decide) fl_X6_44 rfl dX6_foresee_132 ?_
          refine q_get hx hb hts hown hK hw.1 ci_X3 26 rfl 1 (by decide) fl_X6_205 rfl dX6_foresee_135 ?_
          refine q_iadd hx hb dX6_foresee_138 ?_
          refine lv_istore_n (lv' := [(2, .int (iI (t + pk (C 2) (T 8 0) t))), (5, .int (iI (reQ T C t9 t (minZ a9 6) pct))), (4, .int (iI (usG t9 (minZ a9 6) (T 8 2)))), (0, .ref (x 0)), (1, .int (iI pct)), (3, .int (iI k))]) hx hb dX6_foresee_139 rfl hl (by decide) rfl (fun ls hl => ?_)
          refine lv_iinc (v := iI (k + 1)) (lv' := [(3, .int (iI (k + 1))), (2, .int (iI (t + pk (C 2) (T 8 0) t))), (5, .int (iI (reQ T C t9 t (minZ a9 6) pct))), (4, .int (iI (usG t9 (minZ a9 6) (T 8 2)))), (0, .ref (x 0)), (1, .int (iI pct))]) hx hb dX6_foresee_140 hl (k := 5) rfl (iI_add _ _) (by decide) rfl (fun ls hl => ?_)
          refine lv_goto (tgt := 24) hx hb dX6_foresee_143 (by decide) ?_
          exact ih _ (by omega) (t) (pk (C 2) (T 8 0) t) (thk T t (pk (C 2) (T 8 0) t)) (lng T (C 2) t (pk (C 2) (T 8 0) t)) ((C 1) t) (f1n_3) (f2n_3) (g3) (g4) (g5 + pk (C 2) (T 8 0) t) (f6n_3) (a9) (t9) (t + pk (C 2) (T 8 0) t) (k + 1) H locs ls rfl (by first | omega | assumption | rfl) (by first | omega | assumption | rfl) (by first | omega | (have y1 := zz_none; split at y1 <;> omega)) (by first | exact h_r | exact gd_s h_r (by have z := mz_bd h_g.1 rfl; omega) (fun w => mz_l w) (fun e => by rw [e] at q_t ⊢; omega) zz_none (mz_s h_g.1 zz_none)) (by first | omega | (have y := simI_f (T := T) (C := C) (g := t9) (t := t) (cn := minZ a9 6) (ol := a9) (p := pct) (f6 := g6) (g1 := g1) (g2v := g2) (g3 := g3) (g4 := g4) (g5 := g5) h_I (by omega) c_87 (by omega) (by omega) hu_3_0 hu_3_1 hu_3_2; have y2 := y.2.2 h_6.1; have y3 := y.2.1; omega)) (by first | (have y1 := zz_none; split at y1 <;> omega) | (have y1 := hu_3_0; have y2 := hu_3_1; (repeat' split at y1) <;> (repeat' split at y2) <;> omega)) (by first | exact simI_g (T := T) (C := C) (g := t9) (t := t) (cn := minZ a9 6) (ol := a9) (p := pct) (f6 := g6) (g1 := g1) (g2v := g2) (g3 := g3) (g4 := g4) (g5 := g5) h_I (by omega) c_87 (by omega) (mz_s h_g.1 zz_none) zz_none zz_none zz_none | exact (simI_f (T := T) (C := C) (g := t9) (t := t) (cn := minZ a9 6) (ol := a9) (p := pct) (f6 := g6) (g1 := g1) (g2v := g2) (g3 := g3) (g4 := g4) (g5 := g5) h_I (by omega) c_87 (by omega) (by omega) hu_3_0 hu_3_1 hu_3_2).1) (hw.sub [0, 17, 18, 19, 1, 2, 3, 4, 5, 6, 20, 7, 21, 22, 8, 9, 10, 11, 12, 13, 14, 26, 23, 24, 25, 15, 16] (by decide) rfl) (lv_sub hl [4, 5, 1, 0] rfl)
        · refine lv_aload_n hx hb dX6_foresee_90 rfl (lv_at hl 2 rfl) ?_
          refine q_get hx hb hts hown hK hw.1 ci_X6 0 rfl 9 (by decide) fl_X6_51 rfl dX6_foresee_91 ?_
          refine lv_aload_n hx hb dX6_foresee_94 rfl (lv_at hl 2 rfl) ?_
          refine q_get hx hb hts hown hK hw.1 ci_X6 0 rfl 8 (by decide) fl_X6_44 rfl dX6_foresee_95 ?_
          refine lv_aload_n hx hb dX6_foresee_98 rfl (lv_at hl 2 rfl) ?_
          refine lv_aload_n hx hb dX6_foresee_99 rfl (lv_at hl 2 rfl) ?_
          refine q_get hx hb hts hown hK hw.1 ci_X6 0 rfl 8 (by decide) fl_X6_44 rfl dX6_foresee_100 ?_
          refine q_get hx hb hts hown hK hw.1 ci_X3 20 rfl 0 (by decide) fl_X6_215 rfl dX6_foresee_103 ?_
          refine q_callP (As := [.int (iI t)]) (rest := [.ref (x 4), .ref (x 6)]) hx hb hml hown hts hK (c_X6_pagesOfSheet (t) (by omega) (by omega) (by omega)) yi_X6_pagesOfSheet ml_X6_218 (by rw [hR]; decide) (hw.1.sub [0, 21, 2, 3, 4, 24, 13] rfl) 0 rfl rfl rfl rfl hl.1 (lv_room (Nat.le_of_ble_eq_true rfl)) dX6_foresee_106 ⟨by rw [hR]; exact Nat.zero_le _, by rw [hR]; exact Nat.zero_le _⟩ ?_
          refine q_top (pgs T C t) (by exact pg_all) ?_
          refine q_callM (As := [.ref (x 4), .int (iI (pgs T C t))]) (rest := []) (wr := [((x 0), .inr (6, [.ref (ap 0), .ref (b 0), .ref (a 0), .ref (x 1), .int (iI lat), .int (iI und), .ref (x 2), .ref (x 3), .ref (x 4), .ref (x 6)])), ((b 3), .inl (cI, 40, .inl (ai (T 2)))), ((b 4), .inl (cI, 40, .inl (ai (T 3)))), ((b 5), .inl (cI, 40, .inl (ai (T 4)))), ((b 6), .inl (cI, 40, .inl (ai (T 5)))), ((b 7), .inl (cI, 40, .inl (ai (T 6)))), ((b 8), .inl (cI, 4, .inl (ai (T 7)))), ((a 1), .inl (cI, 40, .inl (ai (C 0)))), ((a 4), .inl (cI, 40, .inl (ai (C 3)))), ((a 5), .inl (cI, 80, .inl (ai (C 4)))), ((a 6), .inl (cI, 80, .inl (ai (C 5)))), ((a 7), .inl (cI, 80, .inl (ai (C 6)))), ((a 8), .inl (cI, 139, .inl (ai (C 7)))), ((a 9), .inl (cI, 4, .inl (ai (C 8)))), ((a 10), .inl (cI, 9, .inl (ai (C 9)))), ((a 11), .inr (1, [.ref (a 12), .int (iI (C 11 7))])), ((a 12), .inl (cI, 6, .inl (ai (C 10)))), ((b 0), .inr (4, [.ref (b 1), .ref (b 2), .ref (b 3), .ref (b 4), .ref (b 5), .ref (b 6), .ref (b 7), .ref (b 8), .int (iI (T 8 0)), .int (iI (T 8 1)), .int (iI (T 8 2)), .int (iI (T 8 3))])), ((b 1), .inl (cI, 40, .inl (ai (T 0)))), ((b 2), .inl (cI, 40, .inl (ai (T 1)))), ((a 0), .inr (5, [.ref (a 1), .ref (a 2), .ref (a 3), .ref (a 4), .ref (a 5), .ref (a 6), .ref (a 7), .ref (a 8), .ref (a 9), .ref (a 10), .ref (a 11), .int (iI (C 11 0)), .int (iI (C 11 1)), .int (iI (C 11 2)), .int (iI (C 11 3)), .int (iI (C 11 4)), .int (iI (C 11 5))])), ((a 2), .inl (cI, 40, .inl (ai (C 1)))), ((a 3), .inl (cI, 40, .inl (ai (C 2))))]) hx hb hml hown hts hK (c_X0_addThrough (pgs T C t) (by omega) (by omega)) yi_X0_addThrough ml_X6_343 (by rw [hR]; decide) hw hA [15, 16, 17, 20] [0, 1, 2, 3, 4, 5, 6, 7, 8, 9, 10, 11, 12, 13, 14, 18, 19, 21, 22, 23, 24, 25, 26] rfl rfl (by decide) (by decide) (by decide) 0 rfl rfl rfl rfl hl.1 (lv_room (Nat.le_of_ble_eq_true rfl)) dX6_foresee_109 ⟨by rw [hR]; exact Nat.zero_le _, by rw [hR]; exact Nat.zero_le _⟩ (fun u_109 H locs hu_109 hw => ?_)
          obtain ⟨c2_4, g2_4, f3n_4⟩ := u_109
          obtain ⟨hu_4_0, hu_4_1, hu_4_2⟩ : (c2_4 = if (pk (C 2) (T 8 0) t) = 1 then a9 + 1 else a9) ∧ (g2_4 = if (pk (C 2) (T 8 0) t) = 1 then uI t9 (a9 % 6) (thk T t (pk (C 2) (T 8 0) t)) else t9) ∧ (f3n_4 = if (pk (C 2) (T 8 0) t) = 1 then g3 else g3 + 1) := hu_109
          have hw : qw D A s.heap ([o6C x a b ap lat und] ++ [((b 3), .inl (cI, 40, .inl (ai (T 2)))), ((b 4), .inl (cI, 40, .inl (ai (T 3)))), ((b 5), .inl (cI, 40, .inl (ai (T 4)))), ((b 6), .inl (cI, 40, .inl (ai (T 5)))), ((b 7), .inl (cI, 40, .inl (ai (T 6)))), ((b 8), .inl (cI, 4, .inl (ai (T 7)))), ((a 1), .inl (cI, 40, .inl (ai (C 0)))), ((a 4), .inl (cI, 40, .inl (ai (C 3)))), ((a 5), .inl (cI, 80, .inl (ai (C 4)))), ((a 6), .inl (cI, 80, .inl (ai (C 5)))), ((a 7), .inl (cI, 80, .inl (ai (C 6)))), ((a 8), .inl (cI, 139, .inl (ai (C 7)))), ((a 9), .inl (cI, 4, .inl (ai (C 8)))), ((a 10), .inl (cI, 9, .inl (ai (C 9)))), ((a 11), .inr (1, [.ref (a 12), .int (iI (C 11 7))])), ((a 12), .inl (cI, 6, .inl (ai (C 10)))), ((b 0), .inr (4, [.ref (b 1), .ref (b 2), .ref (b 3), .ref (b 4), .ref (b 5), .ref (b 6), .ref (b 7), .ref (b 8), .int (iI (T 8 0)), .int (iI (T 8 1)), .int (iI (T 8 2)), .int (iI (T 8 3))])), ((b 1), .inl (cI, 40, .inl (ai (T 0)))), ((b 2), .inl (cI, 40, .inl (ai (T 1)))), ((a 0), .inr (5, [.ref (a 1), .ref (a 2), .ref (a 3), .ref (a 4), .ref (a 5), .ref (a 6), .ref (a 7), .ref (a 8), .ref (a 9), .ref (a 10), .ref (a 11), .int (iI (C 11 0)), .int (iI (C 11 1)), .int (iI (C 11 2)), .int (iI (C 11 3)), .int (iI (C 11 4)), .int (iI (C 11 5))])), ((a 2), .inl (cI, 40, .inl (ai (C 1)))), ((a 3), .inl (cI, 40, .inl (ai (C 2)))), ((x 6), .inr (0, [.ref (x 7), .int (iI g1), .int (iI g2), .int (iI f3n_4), .int (iI (g4 + pgs T C t)), .int (iI g5), .int (iI g6)])), ((x 7), .inr (1, [.ref (x 8), .int (iI c2_4)])), ((x 8), .inl (cI, 6, .inl (ai g2_4))), ((x 4), .inr (3, [.int (iI t), .int (iI (pk (C 2) (T 8 0) t)), .int (iI (thk T t (pk (C 2) (T 8 0) t))), .int (iI (lng T (C 2) t (pk (C 2) (T 8 0) t))), .int (iI ((C 1) t))]))]) H locs := hw
          refine lv_goto (tgt := 130) hx hb dX6_foresee_112 (by decide) ?_
          refine lv_iload_n hx hb dX6_foresee_130 rfl (lv_at hl 4 rfl) ?_
          refine lv_aload_n hx hb dX6_foresee_131 rfl (lv_at hl 2 rfl) ?_
          refine q_get hx hb hts hown hK hw.1 ci_X6 0 rfl 8 (by decide) fl_X6_44 rfl dX6_foresee_132 ?_
          refine q_get hx hb hts hown hK hw.1 ci_X3 26 rfl 1 (by decide) fl_X6_205 rfl dX6_foresee_135 ?_
          refine q_iadd hx hb dX6_foresee_138 ?_
          refine lv_istore_n (lv' := [(2, .int (iI (t + pk (C 2) (T 8 0) t))), (5, .int (iI (reQ T C t9 t (minZ a9 6) pct))), (4, .int (iI (usG t9 (minZ a9 6) (T 8 2)))), (0, .ref (x 0)), (1, .int (iI pct)), (3, .int (iI k))]) hx hb dX6_foresee_139 rfl hl (by decide) rfl (fun ls hl => ?_)
          refine lv_iinc (v := iI (k + 1)) (lv' := [(3, .int (iI (k + 1))), (2, .int (iI (t + pk (C 2) (T 8 0) t))), (5, .int (iI (reQ T C t9 t (minZ a9 6) pct))), (4, .int (iI (usG t9 (minZ a9 6) (T 8 2)))), (0, .ref (x 0)), (1, .int (iI pct))]) hx hb dX6_foresee_140 hl (k := 5) rfl (iI_add _ _) (by decide) rfl (fun ls hl => ?_)
          refine lv_goto (tgt := 24) hx hb dX6_foresee_143 (by decide) ?_
          exact ih _ (by omega) (t) (pk (C 2) (T 8 0) t) (thk T t (pk (C 2) (T 8 0) t)) (lng T (C 2) t (pk (C 2) (T 8 0) t)) ((C 1) t) (g1) (g2) (f3n_4) (g4 + pgs T C t) (g5) (g6) (c2_4) (g2_4) (t + pk (C 2) (T 8 0) t) (k + 1) H locs ls rfl (by first | omega | assumption | rfl) (by first | omega | assumption | rfl) (by first | omega | (have y1 := hu_4_0; split at y1 <;> omega)) (by first | exact h_r | exact gd_s h_r (by have z := mz_bd h_g.1 rfl; omega) (fun w => mz_l w) (fun e => by rw [e] at q_t ⊢; omega) hu_4_1 (mz_s h_g.1 hu_4_0)) (by first | omega | (have y := simI_f (T := T) (C := C) (g := t9) (t := t) (cn := minZ a9 6) (ol := a9) (p := pct) (f6 := g6) (g1 := g1) (g2v := g2) (g3 := g3) (g4 := g4) (g5 := g5) h_I (by omega) c_87 (by omega) (by omega) zz_none zz_none zz_none; have y2 := y.2.2 h_6.1; have y3 := y.2.1; omega)) (by first | (have y1 := hu_4_2; split at y1 <;> omega) | (have y1 := zz_none; have y2 := zz_none; (repeat' split at y1) <;> (repeat' split at y2) <;> omega)) (by first | exact simI_g (T := T) (C := C) (g := t9) (t := t) (cn := minZ a9 6) (ol := a9) (p := pct) (f6 := g6) (g1 := g1) (g2v := g2) (g3 := g3) (g4 := g4) (g5 := g5) h_I (by omega) c_87 (by omega) (mz_s h_g.1 hu_4_0) hu_4_0 hu_4_1 hu_4_2 | exact (simI_f (T := T) (C := C) (g := t9) (t := t) (cn := minZ a9 6) (ol := a9) (p := pct) (f6 := g6) (g1 := g1) (g2v := g2) (g3 := g3) (g4 := g4) (g5 := g5) h_I (by omega) c_87 (by omega) (by omega) zz_none zz_none zz_none).1) (hw.sub [0, 17, 18, 19, 1, 2, 3, 4, 5, 6, 20, 7, 21, 22, 8, 9, 10, 11, 12, 13, 14, 26, 23, 24, 25, 15, 16] (by decide) rfl) (lv_sub hl [4, 5, 1, 0] rfl)
  exact loop_24 _ (pf) (pm) (pt) (pl) (pw) (0) (0) (0) (0) (0) (1000000) (C 11 7) (C 10) (C 11 0) (0) H locs ls rfl (by first | omega | assumption | rfl) (by first | omega | assumption | rfl) (by omega) (by exact (mz_C hC).symm ▸ hC.2.2.2.1) (by omega) (by omega) (by exact (mz_C hC).symm ▸ simI_0 hfr (by omega) (by omega) (by omega)) hw (lv_sub hl [2, 3, 1, 0] rfl)

set_option maxHeartbeats 4000000 in
set_option maxRecDepth 100000 in
theorem c_X6_ahead (pct : Int) (w : Int) (hT : WT T) (hC : WC T C) (hfr : FR C) (hp : 101 ≤ pct ∧ pct ≤ 300) (hwq : 0 ≤ w ∧ w ≤ 4) : qMz l (ZZ z) D (tyG cI cB cZ cS cJ) yX6_ahead cX6_ahead 3 (Option.some FieldType.int) 4 127 [.ref (x 0), .int (iI pct), .int (iI w)] ([o6C x a b ap lat und] ++ suW b cI T ++ stW a cI C ++ [((x 4), .inr (3, [.int (iI pf), .int (iI pm), .int (iI pt), .int (iI pl), .int (iI pw)])), ((x 6), .inr (0, [.ref (x 7), .int (iI f1), .int (iI f2), .int (iI f3), .int (iI f4), .int (iI f5), .int (iI f6)])), ((x 7), .inr (1, [.ref (x 8), .int (iI hn)])), ((x 8), .inl (cI, 6, .inl (ai ht)))]) (fun u : (Int) × (Int) × (Int) × (Int) × (Int) × (Int) × (Int) × (Int) × (Int) × (Int) × (Int) × (Int) × (Int → Int) => True) (fun u => some (.int (iI (trA T C pct w)))) (fun u => ([o6C x a b ap lat und] ++ suW b cI T ++ stW a cI C ++ [((x 4), .inr (3, [.int (iI (u.1)), .int (iI (u.2.1)), .int (iI (u.2.2.1)), .int (iI (u.2.2.2.1)), .int (iI (u.2.2.2.2.1))])), ((x 6), .inr (0, [.ref (x 7), .int (iI (u.2.2.2.2.2.1)), .int (iI (u.2.2.2.2.2.2.1)), .int (iI (u.2.2.2.2.2.2.2.1)), .int (iI (u.2.2.2.2.2.2.2.2.1)), .int (iI (u.2.2.2.2.2.2.2.2.2.1)), .int (iI (u.2.2.2.2.2.2.2.2.2.2.1))])), ((x 7), .inr (1, [.ref (x 8), .int (iI (u.2.2.2.2.2.2.2.2.2.2.2.1))])), ((x 8), .inl (cI, 6, .inl (ai (u.2.2.2.2.2.2.2.2.2.2.2.2))))])) := by
  have q_w := hT.1
  have q_c := hC.1
  have q_l := hC.2.1
  refine qMz_enterI (val := fun u => iI (trA T C pct w)) (by decide) (Nat.le_of_ble_eq_true rfl) (fun u hu => ⟨rfl, nar_i _⟩) (fun p e R s m args below meth c Q ls A X hR hA hw hZ hl hret => ?_)
  obtain ⟨hx, hb, hml, hown, hts, hK⟩ := X
  have hl : lv_has ls 3 [(0, .ref (x 0)), (1, .int (iI pct)), (2, .int (iI w))] := hl
  suffices K : ∀ (H : Heap) (locs : List Loc), qw D A s.heap ([o6C x a b ap lat und] ++ suW b cI T ++ stW a cI C ++ [((x 4), .inr (3, [.int (iI pf), .int (iI pm), .int (iI pt), .int (iI pl), .int (iI pw)])), ((x 6), .inr (0, [.ref (x 7), .int (iI f1), .int (iI f2), .int (iI f3), .int (iI f4), .int (iI f5), .int (iI f6)])), ((x 7), .inr (1, [.ref (x 8), .int (iI hn)])), ((x 8), .inl (cI, 6, .inl (ai ht)))]) H locs → W p l e R s m args below meth c H locs 0 0 Q (F0 m 0 ls []) from K s.heap [] hw
  clear hw
  intro H locs hw
  refine lv_iload_n hx hb dX6_ahead_0 rfl (lv_at hl 1 rfl) ?_
  refine va_gets hx hb (hZ.1.1) hw.2.2 hown (hts _ fl_X6_221) (fun _ h => h) dX6_ahead_1 ?_
  refine q_iconst hx hb dX6_ahead_4 ?_
  refine q_tald hx hb hZ.1.2.2.2.1 hw.2.2 (i := 0) (z := 101) (by omega) (by decide) dX6_ahead_5 ?_
  refine q_icmp_lt (tgt := 18) hx hb dX6_ahead_6 (by decide) (by omega) (fun c_6 => absurd c_6 (by omega)) (fun c_6 => ?_)
  refine lv_iload_n hx hb dX6_ahead_9 rfl (lv_at hl 1 rfl) ?_
  refine va_gets hx hb (hZ.1.2.1) hw.2.2 hown (hts _ fl_X6_224) (fun _ h => h) dX6_ahead_10 ?_
  refine q_iconst hx hb dX6_ahead_13 ?_
  refine q_tald hx hb hZ.1.2.2.2.2.1 hw.2.2 (i := 0) (z := 300) (by omega) (by decide) dX6_ahead_14 ?_
  refine q_icmp_le (tgt := 28) hx hb dX6_ahead_15 (by decide) (by omega) (fun c_15 => ?_) (fun c_15 => absurd c_15 (by omega))
  refine lv_iload_n hx hb dX6_ahead_28 rfl (lv_at hl 2 rfl) ?_
  refine q_if_lt (tgt := 37) hx hb dX6_ahead_29 (by decide) (by omega) (fun c_29 => absurd c_29 (by omega)) (fun c_29 => ?_)
  refine lv_iload_n hx hb dX6_ahead_32 rfl (lv_at hl 2 rfl) ?_
  refine q_iconst hx hb dX6_ahead_33 ?_
  refine q_icmp_le (tgt := 47) hx hb dX6_ahead_34 (by decide) (by omega) (fun c_34 => ?_) (fun c_34 => absurd c_34 (by omega))
  refine lv_aload_n hx hb dX6_ahead_47 rfl (lv_at hl 0 rfl) ?_
  refine lv_iload_n hx hb dX6_ahead_48 rfl (lv_at hl 1 rfl) ?_
  refine q_callM (As := [.int (iI pct)]) (rest := []) (wr := []) hx hb hml hown hts hK (c_X6_foresee (pct) (by exact hT) (by exact hC) (by exact hfr) (by exact hp)) yi_X6_foresee ml_X6_229 (by rw [hR]; decide) hw hA [0, 1, 2, 3, 4, 5, 6, 7, 8, 9, 10, 11, 12, 13, 14, 15, 16, 17, 18, 19, 20, 21, 22, 23, 24, 25, 26] [] rfl rfl (by decide) (by decide) (by decide) 0 rfl rfl rfl rfl hl.1 (lv_room (Nat.le_of_ble_eq_true rfl)) dX6_ahead_49 ⟨by rw [hR]; exact Nat.zero_le _, by rw [hR]; exact Nat.zero_le _⟩ (fun u_49 H locs hu_49 hw => ?_)
  obtain ⟨pf2_1, pm2_1, pt2_1, pl2_1, pw2_1, f1n_1, f2n_1, f3n_1, f4n_1, f5n_1, f6n_1, hn2_1, ht2_1⟩ := u_49
  obtain ⟨hu_1_0, hu_1_1, hu_1_2⟩ : (∀ q : Int, pct ≤ q → q < f6n_1 → ∀ k : Int, 0 ≤ k → k < 5 → fkV f1n_1 f2n_1 f3n_1 f4n_1 f5n_1 k = trA T C q k) ∧ (pct < f6n_1 ∧ f6n_1 ≤ 1000000) ∧ (0 ≤ f1n_1 ∧ f1n_1 ≤ 80 ∧ 0 ≤ f2n_1 ∧ f2n_1 ≤ 80 ∧ 0 ≤ f3n_1 ∧ f3n_1 ≤ 80 ∧ 0 ≤ f4n_1 ∧ f4n_1 ≤ 80 ∧ 0 ≤ f5n_1 ∧ f5n_1 ≤ 80) := hu_49
  have hw : qw D A s.heap ([o6C x a b ap lat und] ++ suW b cI T ++ stW a cI C ++ [((x 4), .inr (3, [.int (iI pf2_1), .int (iI pm2_1), .int (iI pt2_1), .int (iI pl2_1), .int (iI pw2_1)])), ((x 6), .inr (0, [.ref (x 7), .int (iI f1n_1), .int (iI f2n_1), .int (iI f3n_1), .int (iI f4n_1), .int (iI f5n_1), .int (iI f6n_1)])), ((x 7), .inr (1, [.ref (x 8), .int (iI hn2_1)])), ((x 8), .inl (cI, 6, .inl (ai ht2_1)))]) H locs := hw
  have q_E := hu_1_0 pct (Int.le_refl _) hu_1_1.1
  have q_B := hu_1_2
  refine lv_iload_n hx hb dX6_ahead_52 rfl (lv_at hl 2 rfl) ?_
  have rg_53 : rg w := by omega
  by_cases k_53_0 : w = 0
  · refine q_tabIn (tgt := 84) hx hb dX6_ahead_53 rg_53 (by omega) (by omega) (by rw [k_53_0] <;> rfl) (by decide) ?_
    subst k_53_0
    refine lv_aload_n hx hb dX6_ahead_84 rfl (lv_at hl 0 rfl) ?_
    refine q_get hx hb hts hown hK hw.1 ci_X6 0 rfl 9 (by decide) fl_X6_51 rfl dX6_ahead_85 ?_
    refine q_get hx hb hts hown hK hw.1 ci_X0 24 rfl 1 (by decide) fl_X6_232 rfl dX6_ahead_88 ?_
    refine q_top (trA T C pct 0) (by first | exact q_E 0 (by decide) (by decide) | exact q_E 1 (by decide) (by decide) | exact q_E 2 (by decide) (by decide) | exact q_E 3 (by decide) (by decide) | exact ((show w = 4 by omega) ▸ q_E 4 (by decide) (by decide))) ?_
    exact hret (pf2_1, pm2_1, pt2_1, pl2_1, pw2_1, f1n_1, f2n_1, f3n_1, f4n_1, f5n_1, f6n_1, hn2_1, ht2_1) H locs 91 ls trivial hw dX6_ahead_91
  by_cases k_53_1 : w = 1
  · refine q_tabIn (tgt := 92) hx hb dX6_ahead_53 rg_53 (by omega) (by omega) (by rw [k_53_1] <;> rfl) (by decide) ?_
    subst k_53_1
    refine lv_aload_n hx hb dX6_ahead_92 rfl (lv_at hl 0 rfl) ?_
    refine q_get hx hb hts hown hK hw.1 ci_X6 0 rfl 9 (by decide) fl_X6_51 rfl dX6_ahead_93 ?_
    refine q_get hx hb hts hown hK hw.1 ci_X0 24 rfl 2 (by decide) fl_X6_235 rfl dX6_ahead_96 ?_
    refine q_top (trA T C pct 1) (by first | exact q_E 0 (by decide) (by decide) | exact q_E 1 (by decide) (by decide) | exact q_E 2 (by decide) (by decide) | exact q_E 3 (by decide) (by decide) | exact ((show w = 4 by omega) ▸ q_E 4 (by decide) (by decide))) ?_
    exact hret (pf2_1, pm2_1, pt2_1, pl2_1, pw2_1, f1n_1, f2n_1, f3n_1, f4n_1, f5n_1, f6n_1, hn2_1, ht2_1) H locs 99 ls trivial hw dX6_ahead_99
  by_cases k_53_2 : w = 2
  · refine q_tabIn (tgt := 100) hx hb dX6_ahead_53 rg_53 (by omega) (by omega) (by rw [k_53_2] <;> rfl) (by decide) ?_
    subst k_53_2
    refine lv_aload_n hx hb dX6_ahead_100 rfl (lv_at hl 0 rfl) ?_
    refine q_get hx hb hts hown hK hw.1 ci_X6 0 rfl 9 (by decide) fl_X6_51 rfl dX6_ahead_101 ?_
    refine q_get hx hb hts hown hK hw.1 ci_X0 24 rfl 3 (by decide) fl_X6_238 rfl dX6_ahead_104 ?_
    refine q_top (trA T C pct 2) (by first | exact q_E 0 (by decide) (by decide) | exact q_E 1 (by decide) (by decide) | exact q_E 2 (by decide) (by decide) | exact q_E 3 (by decide) (by decide) | exact ((show w = 4 by omega) ▸ q_E 4 (by decide) (by decide))) ?_
    exact hret (pf2_1, pm2_1, pt2_1, pl2_1, pw2_1, f1n_1, f2n_1, f3n_1, f4n_1, f5n_1, f6n_1, hn2_1, ht2_1) H locs 107 ls trivial hw dX6_ahead_107
  by_cases k_53_3 : w = 3
  · refine q_tabIn (tgt := 108) hx hb dX6_ahead_53 rg_53 (by omega) (by omega) (by rw [k_53_3] <;> rfl) (by decide) ?_
    subst k_53_3
    refine lv_aload_n hx hb dX6_ahead_108 rfl (lv_at hl 0 rfl) ?_
    refine q_get hx hb hts hown hK hw.1 ci_X6 0 rfl 9 (by decide) fl_X6_51 rfl dX6_ahead_109 ?_
    refine q_get hx hb hts hown hK hw.1 ci_X0 24 rfl 4 (by decide) fl_X6_241 rfl dX6_ahead_112 ?_
    refine q_top (trA T C pct 3) (by first | exact q_E 0 (by decide) (by decide) | exact q_E 1 (by decide) (by decide) | exact q_E 2 (by decide) (by decide) | exact q_E 3 (by decide) (by decide) | exact ((show w = 4 by omega) ▸ q_E 4 (by decide) (by decide))) ?_
    exact hret (pf2_1, pm2_1, pt2_1, pl2_1, pw2_1, f1n_1, f2n_1, f3n_1, f4n_1, f5n_1, f6n_1, hn2_1, ht2_1) H locs 115 ls trivial hw dX6_ahead_115
  refine q_tabOut (tgt := 116) hx hb dX6_ahead_53 rg_53 (by omega) (by decide) ?_
  refine lv_aload_n hx hb dX6_ahead_116 rfl (lv_at hl 0 rfl) ?_
  refine q_get hx hb hts hown hK hw.1 ci_X6 0 rfl 9 (by decide) fl_X6_51 rfl dX6_ahead_117 ?_
  refine q_get hx hb hts hown hK hw.1 ci_X0 24 rfl 5 (by decide) fl_X6_242 rfl dX6_ahead_120 ?_
  refine q_top (trA T C pct w) (by first | exact q_E 0 (by decide) (by decide) | exact q_E 1 (by decide) (by decide) | exact q_E 2 (by decide) (by decide) | exact q_E 3 (by decide) (by decide) | exact ((show w = 4 by omega) ▸ q_E 4 (by decide) (by decide))) ?_
  exact hret (pf2_1, pm2_1, pt2_1, pl2_1, pw2_1, f1n_1, f2n_1, f3n_1, f4n_1, f5n_1, f6n_1, hn2_1, ht2_1) H locs 123 ls trivial hw dX6_ahead_123

/-- the best so far, as the class keeps it: sb is the percent up to which nothing new can come -/
def bpC (V : Int → Int) (i b v sb : Int) : Prop := ((i = 101 ∧ b = 101 ∧ v = 1000000 ∧ sb = 101) ∨ (101 ≤ b ∧ b < i ∧ v = V b ∧ ∀ q : Int, 101 ≤ q → q < i → V b ≤ V q ∧ (q < b → V b < V q))) ∧ ∀ q : Int, i ≤ q → q < sb → ∃ r : Int, 101 ≤ r ∧ r < i ∧ V q = V r
theorem bpC_k {V : Int → Int} {i b v sb : Int} (h : bpC V i b v sb) (hi : 101 ≤ i) (hs : i < sb) : bpC V (i + 1) b v sb := by
  obtain ⟨h1, h2⟩ := h
  obtain ⟨r, r1, r2, r3⟩ := h2 i (Int.le_refl _) hs
  rcases h1 with h1 | ⟨a1, a2, a3, a4⟩
  · omega
  · refine ⟨Or.inr ⟨a1, by omega, a3, fun q x y => ?_⟩, fun q x y => ?_⟩
    · by_cases e : q = i
      · rw [e, r3]
        exact ⟨(a4 r r1 r2).1, fun w => by omega⟩
      · exact a4 q x (by omega)
    · obtain ⟨r, r1, r2, r3⟩ := h2 q (by omega) y
      exact ⟨r, r1, by omega, r3⟩
theorem bpC_s {V : Int → Int} {i b v sb s2 w : Int} (h : bpC V i b v sb) (hi : 101 ≤ i) (hw : w = V i) (hV : w < 1000000) (hs : ∀ q : Int, i ≤ q → q < s2 → V q = V i) : (w < v → bpC V (i + 1) i w s2) ∧ (¬ w < v → bpC V (i + 1) b v s2) := by
  have tl : ∀ q : Int, i + 1 ≤ q → q < s2 → ∃ r : Int, 101 ≤ r ∧ r < i + 1 ∧ V q = V r := fun q x y => ⟨i, hi, by omega, hs q (by omega) y⟩
  obtain ⟨h1, h2⟩ := h
  refine ⟨fun c => ⟨Or.inr ⟨hi, by omega, hw, fun q x y => ?_⟩, tl⟩, fun c => ⟨?_, tl⟩⟩
  · rcases h1 with ⟨a1, a2, a3, a4⟩ | ⟨a1, a2, a3, a4⟩
    · rw [show q = i by omega]; exact ⟨Int.le_refl _, fun z => by omega⟩
    · by_cases e : q = i
      · rw [e]; exact ⟨Int.le_refl _, fun z => by omega⟩
      · have z := a4 q x (by omega)
        omega
  · rcases h1 with ⟨a1, a2, a3, a4⟩ | ⟨a1, a2, a3, a4⟩
    · omega
    · refine Or.inr ⟨a1, by omega, a3, fun q x y => ?_⟩
      by_cases e : q = i
      · rw [e]; exact ⟨by omega, fun z => by omega⟩
      · exact a4 q x (by omega)
theorem bpC_e {V : Int → Int} {b v sb : Int} (h : bpC V 301 b v sb) : ∃ v : Int, bpI V 301 b v := by
  rcases h.1 with h1 | ⟨a1, a2, a3, a4⟩
  · omega
  · exact ⟨v, Or.inr ⟨a1, a2, a3, a4⟩⟩

set_option maxHeartbeats 4000000 in
set_option maxRecDepth 100000 in
theorem c_X6_bestPercent (hT : WT T) (hC : WC T C) (hfr : FR C) : qMz l (ZZ z) D (tyG cI cB cZ cS cJ) yX6_bestPercent cX6_bestPercent 6 (Option.some FieldType.int) 4 127 [.ref (x 0)] ([o6C x a b ap lat und] ++ suW b cI T ++ stW a cI C ++ [((x 4), .inr (3, [.int (iI pf), .int (iI pm), .int (iI pt), .int (iI pl), .int (iI pw)])), ((x 6), .inr (0, [.ref (x 7), .int (iI f1), .int (iI f2), .int (iI f3), .int (iI f4), .int (iI f5), .int (iI f6)])), ((x 7), .inr (1, [.ref (x 8), .int (iI hn)])), ((x 8), .inl (cI, 6, .inl (ai ht)))]) (fun u : (Int) × (Int) × (Int) × (Int) × (Int) × (Int) × (Int) × (Int) × (Int) × (Int) × (Int) × (Int) × (Int → Int) × (Int) => (∃ v : Int, bpI (bpV T C) 301 ((u.2.2.2.2.2.2.2.2.2.2.2.2.2)) v)) (fun u => some (.int (iI (u.2.2.2.2.2.2.2.2.2.2.2.2.2)))) (fun u => ([o6C x a b ap lat und] ++ suW b cI T ++ stW a cI C ++ [((x 4), .inr (3, [.int (iI (u.1)), .int (iI (u.2.1)), .int (iI (u.2.2.1)), .int (iI (u.2.2.2.1)), .int (iI (u.2.2.2.2.1))])), ((x 6), .inr (0, [.ref (x 7), .int (iI (u.2.2.2.2.2.1)), .int (iI (u.2.2.2.2.2.2.1)), .int (iI (u.2.2.2.2.2.2.2.1)), .int (iI (u.2.2.2.2.2.2.2.2.1)), .int (iI (u.2.2.2.2.2.2.2.2.2.1)), .int (iI (u.2.2.2.2.2.2.2.2.2.2.1))])), ((x 7), .inr (1, [.ref (x 8), .int (iI (u.2.2.2.2.2.2.2.2.2.2.2.1))])), ((x 8), .inl (cI, 6, .inl (ai (u.2.2.2.2.2.2.2.2.2.2.2.2.1))))])) := by
  have q_w := hT.1
  have q_c := hC.1
  have q_l := hC.2.1
  refine qMz_enterI (val := fun u => iI (u.2.2.2.2.2.2.2.2.2.2.2.2.2)) (by decide) (Nat.le_of_ble_eq_true rfl) (fun u hu => ⟨rfl, nar_i _⟩) (fun p e R s m args below meth c Q ls A X hR hA hw hZ hl hret => ?_)
  obtain ⟨hx, hb, hml, hown, hts, hK⟩ := X
  have hl : lv_has ls 6 [(0, .ref (x 0))] := hl
  suffices K : ∀ (H : Heap) (locs : List Loc), qw D A s.heap ([o6C x a b ap lat und] ++ suW b cI T ++ stW a cI C ++ [((x 4), .inr (3, [.int (iI pf), .int (iI pm), .int (iI pt), .int (iI pl), .int (iI pw)])), ((x 6), .inr (0, [.ref (x 7), .int (iI f1), .int (iI f2), .int (iI f3), .int (iI f4), .int (iI f5), .int (iI f6)])), ((x 7), .inr (1, [.ref (x 8), .int (iI hn)])), ((x 8), .inl (cI, 6, .inl (ai ht)))]) H locs → W p l e R s m args below meth c H locs 0 0 Q (F0 m 0 ls []) from K s.heap [] hw
  clear hw
  intro H locs hw
  refine va_gets hx hb (hZ.1.1) hw.2.2 hown (hts _ fl_X6_221) (fun _ h => h) dX6_bestPercent_0 ?_
  refine q_iconst hx hb dX6_bestPercent_3 ?_
  refine q_tald hx hb hZ.1.2.2.2.1 hw.2.2 (i := 0) (z := 101) (by omega) (by decide) dX6_bestPercent_4 ?_
  refine lv_istore_n (lv' := [(1, .int (iI 101)), (0, .ref (x 0))]) hx hb dX6_bestPercent_5 rfl hl (by decide) rfl (fun ls hl => ?_)
  refine q_ldc (z := 1000000) hx hb hown hts kc_X6_245 (by decide) dX6_bestPercent_6 ?_
  refine lv_istore_n (lv' := [(2, .int (iI 1000000)), (1, .int (iI 101)), (0, .ref (x 0))]) hx hb dX6_bestPercent_8 rfl hl (by decide) rfl (fun ls hl => ?_)
  refine va_gets hx hb (hZ.1.1) hw.2.2 hown (hts _ fl_X6_221) (fun _ h => h) dX6_bestPercent_9 ?_
  refine q_iconst hx hb dX6_bestPercent_12 ?_
  refine q_tald hx hb hZ.1.2.2.2.1 hw.2.2 (i := 0) (z := 101) (by omega) (by decide) dX6_bestPercent_13 ?_
  refine lv_istore_n (lv' := [(3, .int (iI 101)), (2, .int (iI 1000000)), (1, .int (iI 101)), (0, .ref (x 0))]) hx hb dX6_bestPercent_14 rfl hl (by decide) rfl (fun ls hl => ?_)
  refine va_gets hx hb (hZ.1.1) hw.2.2 hown (hts _ fl_X6_221) (fun _ h => h) dX6_bestPercent_15 ?_
  refine q_iconst hx hb dX6_bestPercent_18 ?_
  refine q_tald hx hb hZ.1.2.2.2.1 hw.2.2 (i := 0) (z := 101) (by omega) (by decide) dX6_bestPercent_19 ?_
  refine lv_istore (lv' := [(4, .int (iI 101)), (3, .int (iI 101)), (2, .int (iI 1000000)), (1, .int (iI 101)), (0, .ref (x 0))]) hx hb dX6_bestPercent_20 hl (by decide) rfl (fun ls hl => ?_)
  have loop_22 : ∀ (fu : Nat) (q1 : Int) (q2 : Int) (q3 : Int) (q4 : Int) (q5 : Int) (g1 : Int) (g2 : Int) (g3 : Int) (g4 : Int) (g5 : Int) (g6 : Int) (a9 : Int) (t9 : Int → Int) (bb : Int) (vv : Int) (sb : Int) (i : Int) (H : Heap) (locs : List Loc) (ls : Array Slot), (301 - i).toNat = fu → (101 ≤ i ∧ i ≤ 301) → (0 ≤ vv ∧ vv ≤ 1000000 ∧ 101 ≤ bb ∧ bb ≤ 300 ∧ rg sb) → (bpC (bpV T C) i bb vv sb) → qw D A s.heap ([o6C x a b ap lat und] ++ suW b cI T ++ stW a cI C ++ [((x 4), .inr (3, [.int (iI q1), .int (iI q2), .int (iI q3), .int (iI q4), .int (iI q5)])), ((x 6), .inr (0, [.ref (x 7), .int (iI g1), .int (iI g2), .int (iI g3), .int (iI g4), .int (iI g5), .int (iI g6)])), ((x 7), .inr (1, [.ref (x 8), .int (iI a9)])), ((x 8), .inl (cI, 6, .inl (ai t9)))]) H locs → lv_has ls 6 [(0, .ref (x 0)), (1, .int (iI bb)), (2, .int (iI vv)), (3, .int (iI sb)), (4, .int (iI i))] → W p l e R s m args below meth c H locs 0 0 Q (F0 m 22 ls []) := by
    intro fu
    induction fu using Nat.strongRecOn with
    | ind fu ih =>
    intro q1 q2 q3 q4 q5 g1 g2 g3 g4 g5 g6 a9 t9 bb vv sb i H locs ls hn_22 h_i h_v h_B hw hl
    refine lv_iload hx hb dX6_bestPercent_22 (lv_at hl 4 rfl) ?_
    refine va_gets hx hb (hZ.1.2.1) hw.2.2 hown (hts _ fl_X6_224) (fun _ h => h) dX6_bestPercent_24 ?_
    refine q_iconst hx hb dX6_bestPercent_27 ?_
    refine q_tald hx hb hZ.1.2.2.2.2.1 hw.2.2 (i := 0) (z := 300) (by omega) (by decide) dX6_bestPercent_28 ?_
    refine q_icmp_gt (tgt := 90) hx hb dX6_bestPercent_29 (by decide) (by omega) (fun c_29 => ?_) (fun c_29 => ?_)
    · refine lv_iload_n hx hb dX6_bestPercent_90 rfl (lv_at hl 1 rfl) ?_
      exact hret (q1, q2, q3, q4, q5, g1, g2, g3, g4, g5, g6, a9, t9, bb) H locs 91 ls (by exact bpC_e ((show i = 301 by omega) ▸ h_B)) hw dX6_bestPercent_91
    · refine lv_iload hx hb dX6_bestPercent_32 (lv_at hl 4 rfl) ?_
      refine lv_iload_n hx hb dX6_bestPercent_34 rfl (lv_at hl 3 rfl) ?_
      refine q_icmp_ge (tgt := 41) hx hb dX6_bestPercent_35 (by decide) (by omega) (fun c_35 => ?_) (fun c_35 => ?_)
      · refine lv_aload_n hx hb dX6_bestPercent_41 rfl (lv_at hl 0 rfl) ?_
        refine lv_iload hx hb dX6_bestPercent_42 (lv_at hl 4 rfl) ?_
        refine q_callM (As := [.int (iI i)]) (rest := []) (wr := []) hx hb hml hown hts hK (c_X6_foresee (i) (by exact hT) (by exact hC) (by exact hfr) (by omega)) yi_X6_foresee ml_X6_229 (by rw [hR]; decide) hw hA [0, 1, 2, 3, 4, 5, 6, 7, 8, 9, 10, 11, 12, 13, 14, 15, 16, 17, 18, 19, 20, 21, 22, 23, 24, 25, 26] [] rfl rfl (by decide) (by decide) (by decide) 0 rfl rfl rfl rfl hl.1 (lv_room (Nat.le_of_ble_eq_true rfl)) dX6_bestPercent_44 ⟨by rw [hR]; exact Nat.zero_le _, by rw [hR]; exact Nat.zero_le _⟩ (fun u_44 H locs hu_44 hw => ?_)
        obtain ⟨pf2_1, pm2_1, pt2_1, pl2_1, pw2_1, f1n_1, f2n_1, f3n_1, f4n_1, f5n_1, f6n_1, hn2_1, ht2_1⟩ := u_44
        obtain ⟨hu_1_0, hu_1_1, hu_1_2⟩ : (∀ q : Int, i ≤ q → q < f6n_1 → ∀ k : Int, 0 ≤ k → k < 5 → fkV f1n_1 f2n_1 f3n_1 f4n_1 f5n_1 k = trA T C q k) ∧ (i < f6n_1 ∧ f6n_1 ≤ 1000000) ∧ (0 ≤ f1n_1 ∧ f1n_1 ≤ 80 ∧ 0 ≤ f2n_1 ∧ f2n_1 ≤ 80 ∧ 0 ≤ f3n_1 ∧ f3n_1 ≤ 80 ∧ 0 ≤ f4n_1 ∧ f4n_1 ≤ 80 ∧ 0 ≤ f5n_1 ∧ f5n_1 ≤ 80) := hu_44
        have hw : qw D A s.heap ([o6C x a b ap lat und] ++ suW b cI T ++ stW a cI C ++ [((x 4), .inr (3, [.int (iI pf2_1), .int (iI pm2_1), .int (iI pt2_1), .int (iI pl2_1), .int (iI pw2_1)])), ((x 6), .inr (0, [.ref (x 7), .int (iI f1n_1), .int (iI f2n_1), .int (iI f3n_1), .int (iI f4n_1), .int (iI f5n_1), .int (iI f6n_1)])), ((x 7), .inr (1, [.ref (x 8), .int (iI hn2_1)])), ((x 8), .inl (cI, 6, .inl (ai ht2_1)))]) H locs := hw
        have q_E := hu_1_0
        have q_6 := hu_1_1
        have q_B := hu_1_2
        have q_1 := q_E i (Int.le_refl _) q_6.1 1 (by decide) (by decide)
        have q_2 := q_E i (Int.le_refl _) q_6.1 2 (by decide) (by decide)
        have q_S := bpC_s (s2 := f6n_1) (w := f2n_1 + f3n_1) h_B h_i.1 (show f2n_1 + f3n_1 = trA T C i 1 + trA T C i 2 by rw [← q_1, ← q_2]; rfl) (by omega) (fun q a b => by have e1 := q_E q a b 1 (by decide) (by decide); have e2 := q_E q a b 2 (by decide) (by decide); show trA T C q 1 + trA T C q 2 = trA T C i 1 + trA T C i 2; rw [← e1, ← e2, ← q_1, ← q_2])
        refine lv_aload_n hx hb dX6_bestPercent_47 rfl (lv_at hl 0 rfl) ?_
        refine q_get hx hb hts hown hK hw.1 ci_X6 0 rfl 9 (by decide) fl_X6_51 rfl dX6_bestPercent_48 ?_
        refine q_get hx hb hts hown hK hw.1 ci_X0 24 rfl 6 (by decide) fl_X6_246 rfl dX6_bestPercent_51 ?_
        refine lv_istore_n (lv' := [(3, .int (iI f6n_1)), (0, .ref (x 0)), (1, .int (iI bb)), (2, .int (iI vv)), (4, .int (iI i))]) hx hb dX6_bestPercent_54 rfl hl (by decide) rfl (fun ls hl => ?_)
        refine lv_aload_n hx hb dX6_bestPercent_55 rfl (lv_at hl 1 rfl) ?_
        refine q_get hx hb hts hown hK hw.1 ci_X6 0 rfl 9 (by decide) fl_X6_51 rfl dX6_bestPercent_56 ?_
        refine q_get hx hb hts hown hK hw.1 ci_X0 24 rfl 2 (by decide) fl_X6_235 rfl dX6_bestPercent_59 ?_
        refine lv_aload_n hx hb dX6_bestPercent_62 rfl (lv_at hl 1 rfl) ?_
        refine q_get hx hb hts hown hK hw.1 ci_X6 0 rfl 9 (by decide) fl_X6_51 rfl dX6_bestPercent_63 ?_
        refine q_get hx hb hts hown hK hw.1 ci_X0 24 rfl 3 (by decide) fl_X6_238 rfl dX6_bestPercent_66 ?_
        refine q_iadd hx hb dX6_bestPercent_69 ?_
        refine lv_istore (lv' := [(5, .int (iI (f2n_1 + f3n_1))), (3, .int (iI f6n_1)), (0, .ref (x 0)), (1, .int (iI bb)), (2, .int (iI vv)), (4, .int (iI i))]) hx hb dX6_bestPercent_70 hl (by decide) rfl (fun ls hl => ?_)
        refine lv_iload hx hb dX6_bestPercent_72 (lv_at hl 0 rfl) ?_
        refine lv_iload_n hx hb dX6_bestPercent_74 rfl (lv_at hl 4 rfl) ?_
        refine q_icmp_ge (tgt := 84) hx hb dX6_bestPercent_75 (by decide) (by omega) (fun c_75 => ?_) (fun c_75 => ?_)
        · refine lv_iinc (v := iI (i + 1)) (lv' := [(4, .int (iI (i + 1))), (5, .int (iI (f2n_1 + f3n_1))), (3, .int (iI f6n_1)), (0, .ref (x 0)), (1, .int (iI bb)), (2, .int (iI vv))]) hx hb dX6_bestPercent_84 hl (k := 5) rfl (iI_add _ _) (by decide) rfl (fun ls hl => ?_)
          refine lv_goto (tgt := 22) hx hb dX6_bestPercent_87 (by decide) ?_
          exact ih _ (by omega) (pf2_1) (pm2_1) (pt2_1) (pl2_1) (pw2_1) (f1n_1) (f2n_1) (f3n_1) (f4n_1) (f5n_1) (f6n_1) (hn2_1) (ht2_1) (bb) (vv) (f6n_1) (i + 1) H locs ls rfl (by first | omega | assumption | rfl) (by first | omega | assumption | rfl) (by first | exact bpC_k h_B h_i.1 (by omega) | exact q_S.1 (by omega) | exact q_S.2 (by omega)) hw (lv_sub hl [3, 4, 5, 2, 0] rfl)
        · refine lv_iload hx hb dX6_bestPercent_78 (lv_at hl 0 rfl) ?_
          refine lv_istore_n (lv' := [(2, .int (iI (f2n_1 + f3n_1))), (5, .int (iI (f2n_1 + f3n_1))), (3, .int (iI f6n_1)), (0, .ref (x 0)), (1, .int (iI bb)), (4, .int (iI i))]) hx hb dX6_bestPercent_80 rfl hl (by decide) rfl (fun ls hl => ?_)
          refine lv_iload hx hb dX6_bestPercent_81 (lv_at hl 5 rfl) ?_
          refine lv_istore_n (lv' := [(1, .int (iI i)), (2, .int (iI (f2n_1 + f3n_1))), (5, .int (iI (f2n_1 + f3n_1))), (3, .int (iI f6n_1)), (0, .ref (x 0)), (4, .int (iI i))]) hx hb dX6_bestPercent_83 rfl hl (by decide) rfl (fun ls hl => ?_)
          refine lv_iinc (v := iI (i + 1)) (lv' := [(4, .int (iI (i + 1))), (1, .int (iI i)), (2, .int (iI (f2n_1 + f3n_1))), (5, .int (iI (f2n_1 + f3n_1))), (3, .int (iI f6n_1)), (0, .ref (x 0))]) hx hb dX6_bestPercent_84 hl (k := 5) rfl (iI_add _ _) (by decide) rfl (fun ls hl => ?_)
          refine lv_goto (tgt := 22) hx hb dX6_bestPercent_87 (by decide) ?_
          exact ih _ (by omega) (pf2_1) (pm2_1) (pt2_1) (pl2_1) (pw2_1) (f1n_1) (f2n_1) (f3n_1) (f4n_1) (f5n_1) (f6n_1) (hn2_1) (ht2_1) (i) (f2n_1 + f3n_1) (f6n_1) (i + 1) H locs ls rfl (by first | omega | assumption | rfl) (by first | omega | assumption | rfl) (by first | exact bpC_k h_B h_i.1 (by omega) | exact q_S.1 (by omega) | exact q_S.2 (by omega)) hw (lv_sub hl [5, 1, 2, 4, 0] rfl)
      · refine lv_goto (tgt := 84) hx hb dX6_bestPercent_38 (by decide) ?_
        refine lv_iinc (v := iI (i + 1)) (lv' := [(4, .int (iI (i + 1))), (0, .ref (x 0)), (1, .int (iI bb)), (2, .int (iI vv)), (3, .int (iI sb))]) hx hb dX6_bestPercent_84 hl (k := 4) rfl (iI_add _ _) (by decide) rfl (fun ls hl => ?_)
        refine lv_goto (tgt := 22) hx hb dX6_bestPercent_87 (by decide) ?_
        exact ih _ (by omega) (q1) (q2) (q3) (q4) (q5) (g1) (g2) (g3) (g4) (g5) (g6) (a9) (t9) (bb) (vv) (sb) (i + 1) H locs ls rfl (by first | omega | assumption | rfl) (by first | omega | assumption | rfl) (by first | exact bpC_k h_B h_i.1 (by omega) | exact q_S.1 (by omega) | exact q_S.2 (by omega)) hw (lv_sub hl [1, 2, 3, 4, 0] rfl)
  exact loop_22 _ (pf) (pm) (pt) (pl) (pw) (f1) (f2) (f3) (f4) (f5) (f6) (hn) (ht) (101) (1000000) (101) (101) H locs ls rfl (by first | omega | assumption | rfl) (by first | omega | assumption | rfl) (by exact ⟨Or.inl ⟨rfl, rfl, rfl, rfl⟩, fun q a b => by omega⟩) hw (lv_sub hl [4, 3, 2, 1, 0] rfl)
