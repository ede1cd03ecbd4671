variable {l : Launch} {z : Nat → Nat} {D : va_G} {cI cB cZ cS cJ : ClassId} {T C E : Nat → Int → Int} {ff gg : Int} {x a b ap b2 : Nat → Nat} {lat und pf pm pt pl pw f1 f2 f3 f4 f5 f6 hn hq stop sinp srea spag sjob sdup : Int} {ht e0 e1 e2 e3 e4 e5 e6 e7 e8 e9 : Int → Int}
theorem st_s (C : Nat → Int → Int) (i : Nat) (F : Int → Int) : st C i F i = F := if_pos rfl
theorem st_n (C : Nat → Int → Int) (i : Nat) (F : Int → Int) {j : Nat} (h : j ≠ i) : st C i F j = C j := if_neg h
theorem ext12 {X Y : Nat → Int → Int} (h0 : X 0 = Y 0) (h1 : X 1 = Y 1) (h2 : X 2 = Y 2) (h3 : X 3 = Y 3) (h4 : X 4 = Y 4) (h5 : X 5 = Y 5) (h6 : X 6 = Y 6) (h7 : X 7 = Y 7) (h8 : X 8 = Y 8) (h9 : X 9 = Y 9) (h10 : X 10 = Y 10) (h11 : X 11 = Y 11) (h : ∀ p, 12 ≤ p → X p = Y p) : X = Y := by
  funext p
  by_cases c : 12 ≤ p
  · exact h p c
  · have d : p = 0 ∨ p = 1 ∨ p = 2 ∨ p = 3 ∨ p = 4 ∨ p = 5 ∨ p = 6 ∨ p = 7 ∨ p = 8 ∨ p = 9 ∨ p = 10 ∨ p = 11 := by omega
    rcases d with rfl | rfl | rfl | rfl | rfl | rfl | rfl | rfl | rfl | rfl | rfl | rfl <;> assumption

set_option maxHeartbeats 4000000 in
set_option maxRecDepth 100000 in
theorem c_X6_clearPath : qM l D (tyG cI cB cZ cS cJ) yX6_clearPath cX6_clearPath 1 (Option.none) 0 0 [.ref (x 0)] [((x 0), .inr (6, [.ref (ap 0), .ref (b 0), .ref (a 0), .ref (x 1), .int (iI lat), .int (iI und), .ref (x 2), .ref (x 3), .ref (x 4), .ref (x 6)])), ((a 0), .inr (5, [.ref (a 1), .ref (a 2), .ref (a 3), .ref (a 4), .ref (a 5), .ref (a 6), .ref (a 7), .ref (a 8), .ref (a 9), .ref (a 10), .ref (a 11), .int (iI stop), .int (iI sinp), .int (iI srea), .int (iI spag), .int (iI sjob), .int (iI sdup)]))] (fun u : Unit => True) (fun _ => none) (fun u => [((x 0), .inr (6, [.ref (ap 0), .ref (b 0), .ref (a 0), .ref (x 1), .int (iI lat), .int (iI und), .ref (x 2), .ref (x 3), .ref (x 4), .ref (x 6)])), ((a 0), .inr (5, [.ref (a 1), .ref (a 2), .ref (a 3), .ref (a 4), .ref (a 5), .ref (a 6), .ref (a 7), .ref (a 8), .ref (a 9), .ref (a 10), .ref (a 11), .int (iI stop), .int (iI 0), .int (iI 0), .int (iI spag), .int (iI sjob), .int (iI sdup)]))]) := by
  refine qM_enterV (by decide) (Nat.le_of_ble_eq_true rfl) (fun p e R s m args below meth c Q ls A X hR hA hw hl hret => ?_)
  obtain ⟨hx, hb, hml, hown, hts, hK⟩ := X
  have hl : lv_has ls 1 [(0, .ref (x 0))] := hl
  suffices K : ∀ (H : Heap) (locs : List Loc), qw D A s.heap [((x 0), .inr (6, [.ref (ap 0), .ref (b 0), .ref (a 0), .ref (x 1), .int (iI lat), .int (iI und), .ref (x 2), .ref (x 3), .ref (x 4), .ref (x 6)])), ((a 0), .inr (5, [.ref (a 1), .ref (a 2), .ref (a 3), .ref (a 4), .ref (a 5), .ref (a 6), .ref (a 7), .ref (a 8), .ref (a 9), .ref (a 10), .ref (a 11), .int (iI stop), .int (iI sinp), .int (iI srea), .int (iI spag), .int (iI sjob), .int (iI sdup)]))] H locs → W p l e R s m args below meth c H locs 0 0 Q (F0 m 0 ls []) from K s.heap [] hw
  clear hw
  intro H locs hw
  refine lv_aload_n hx hb dX6_clearPath_0 rfl (lv_at hl 0 rfl) ?_
  refine q_get hx hb hts hown hK hw.1 ci_X6 0 rfl 2 (by decide) fl_X6_26 rfl dX6_clearPath_1 ?_
  refine q_iconst hx hb dX6_clearPath_4 ?_
  refine q_put hx hb hts hown hK hw ci_X5 1 rfl 12 (by decide) fl_X6_97 rfl rfl rfl (Nat.le_of_ble_eq_true rfl) dX6_clearPath_5 (fun H locs hw => ?_)
  have hw : qw D A s.heap [((x 0), .inr (6, [.ref (ap 0), .ref (b 0), .ref (a 0), .ref (x 1), .int (iI lat), .int (iI und), .ref (x 2), .ref (x 3), .ref (x 4), .ref (x 6)])), ((a 0), .inr (5, [.ref (a 1), .ref (a 2), .ref (a 3), .ref (a 4), .ref (a 5), .ref (a 6), .ref (a 7), .ref (a 8), .ref (a 9), .ref (a 10), .ref (a 11), .int (iI stop), .int (iI 0), .int (iI srea), .int (iI spag), .int (iI sjob), .int (iI sdup)]))] H locs := hw
  refine lv_aload_n hx hb dX6_clearPath_8 rfl (lv_at hl 0 rfl) ?_
  refine q_get hx hb hts hown hK hw.1 ci_X6 0 rfl 2 (by decide) fl_X6_26 rfl dX6_clearPath_9 ?_
  refine q_iconst hx hb dX6_clearPath_12 ?_
  refine q_put hx hb hts hown hK hw ci_X5 1 rfl 13 (by decide) fl_X6_100 rfl rfl rfl (Nat.le_of_ble_eq_true rfl) dX6_clearPath_13 (fun H locs hw => ?_)
  have hw : qw D A s.heap [((x 0), .inr (6, [.ref (ap 0), .ref (b 0), .ref (a 0), .ref (x 1), .int (iI lat), .int (iI und), .ref (x 2), .ref (x 3), .ref (x 4), .ref (x 6)])), ((a 0), .inr (5, [.ref (a 1), .ref (a 2), .ref (a 3), .ref (a 4), .ref (a 5), .ref (a 6), .ref (a 7), .ref (a 8), .ref (a 9), .ref (a 10), .ref (a 11), .int (iI stop), .int (iI 0), .int (iI 0), .int (iI spag), .int (iI sjob), .int (iI sdup)]))] H locs := hw
  exact hret () H locs 16 ls trivial hw dX6_clearPath_16

set_option maxHeartbeats 4000000 in
set_option maxRecDepth 100000 in
theorem c_X6_stop (re : Int) (hn : 0 ≤ T 8 0 ∧ T 8 0 ≤ 40) (h1 : 1 ≤ re ∧ re ≤ 3) (h2 : 0 ≤ pf ∧ pf < T 8 0 ∧ 1 ≤ pm ∧ stop = pf + pm ∧ stop ≤ T 8 0) (h5 : rg (T 5 pf)) : qM l D (tyG cI cB cZ cS cJ) yX6_stop cX6_stop 3 (Option.none) 1 21 [.ref (x 0), .int (iI re)] [((x 0), .inr (6, [.ref (ap 0), .ref (b 0), .ref (a 0), .ref (x 1), .int (iI lat), .int (iI und), .ref (x 2), .ref (x 3), .ref (x 4), .ref (x 6)])), ((b 0), .inr (4, [.ref (b 1), .ref (b 2), .ref (b 3), .ref (b 4), .ref (b 5), .ref (b 6), .ref (b 7), .ref (b 8), .int (iI (T 8 0)), .int (iI (T 8 1)), .int (iI (T 8 2)), .int (iI (T 8 3))])), ((b 6), .inl (cI, 40, .inl (ai (T 5)))), ((a 0), .inr (5, [.ref (a 1), .ref (a 2), .ref (a 3), .ref (a 4), .ref (a 5), .ref (a 6), .ref (a 7), .ref (a 8), .ref (a 9), .ref (a 10), .ref (a 11), .int (iI stop), .int (iI sinp), .int (iI srea), .int (iI spag), .int (iI sjob), .int (iI sdup)])), ((a 1), .inl (cI, 40, .inl (ai e0))), ((a 4), .inl (cI, 40, .inl (ai e3))), ((a 10), .inl (cI, 9, .inl (ai e9))), ((x 4), .inr (3, [.int (iI pf), .int (iI pm), .int (iI pt), .int (iI pl), .int (iI pw)]))] (fun u : (Int → Int) => (u = if re = 3 ∧ T 5 pf = -1 then uI e3 pf 1 else e3)) (fun _ => none) (fun u => [((x 0), .inr (6, [.ref (ap 0), .ref (b 0), .ref (a 0), .ref (x 1), .int (iI lat), .int (iI und), .ref (x 2), .ref (x 3), .ref (x 4), .ref (x 6)])), ((b 0), .inr (4, [.ref (b 1), .ref (b 2), .ref (b 3), .ref (b 4), .ref (b 5), .ref (b 6), .ref (b 7), .ref (b 8), .int (iI (T 8 0)), .int (iI (T 8 1)), .int (iI (T 8 2)), .int (iI (T 8 3))])), ((b 6), .inl (cI, 40, .inl (ai (T 5)))), ((a 0), .inr (5, [.ref (a 1), .ref (a 2), .ref (a 3), .ref (a 4), .ref (a 5), .ref (a 6), .ref (a 7), .ref (a 8), .ref (a 9), .ref (a 10), .ref (a 11), .int (iI stop), .int (iI pm), .int (iI re), .int (iI spag), .int (iI sjob), .int (iI sdup)])), ((a 1), .inl (cI, 40, .inl (ai (fil e0 pf stop 1)))), ((a 4), .inl (cI, 40, .inl (ai u))), ((a 10), .inl (cI, 9, .inl (ai (uI e9 re (e9 re + 1))))), ((x 4), .inr (3, [.int (iI pf), .int (iI pm), .int (iI pt), .int (iI pl), .int (iI pw)]))]) := by
  refine qM_enterV (by decide) (Nat.le_of_ble_eq_true rfl) (fun p e R s m args below meth c Q ls A X hR hA hw hl hret => ?_)
  obtain ⟨hx, hb, hml, hown, hts, hK⟩ := X
  have hl : lv_has ls 3 [(0, .ref (x 0)), (1, .int (iI re))] := hl
  suffices K : ∀ (H : Heap) (locs : List Loc), qw D A s.heap [((x 0), .inr (6, [.ref (ap 0), .ref (b 0), .ref (a 0), .ref (x 1), .int (iI lat), .int (iI und), .ref (x 2), .ref (x 3), .ref (x 4), .ref (x 6)])), ((b 0), .inr (4, [.ref (b 1), .ref (b 2), .ref (b 3), .ref (b 4), .ref (b 5), .ref (b 6), .ref (b 7), .ref (b 8), .int (iI (T 8 0)), .int (iI (T 8 1)), .int (iI (T 8 2)), .int (iI (T 8 3))])), ((b 6), .inl (cI, 40, .inl (ai (T 5)))), ((a 0), .inr (5, [.ref (a 1), .ref (a 2), .ref (a 3), .ref (a 4), .ref (a 5), .ref (a 6), .ref (a 7), .ref (a 8), .ref (a 9), .ref (a 10), .ref (a 11), .int (iI stop), .int (iI sinp), .int (iI srea), .int (iI spag), .int (iI sjob), .int (iI sdup)])), ((a 1), .inl (cI, 40, .inl (ai e0))), ((a 4), .inl (cI, 40, .inl (ai e3))), ((a 10), .inl (cI, 9, .inl (ai e9))), ((x 4), .inr (3, [.int (iI pf), .int (iI pm), .int (iI pt), .int (iI pl), .int (iI pw)]))] H locs → W p l e R s m args below meth c H locs 0 0 Q (F0 m 0 ls []) from K s.heap [] hw
  clear hw
  intro H locs hw
  refine lv_aload_n hx hb dX6_stop_0 rfl (lv_at hl 0 rfl) ?_
  refine q_get hx hb hts hown hK hw.1 ci_X6 0 rfl 2 (by decide) fl_X6_26 rfl dX6_stop_1 ?_
  refine lv_iload_n hx hb dX6_stop_4 rfl (lv_at hl 1 rfl) ?_
  refine q_put hx hb hts hown hK hw ci_X5 3 rfl 13 (by decide) fl_X6_100 rfl rfl rfl (Nat.le_of_ble_eq_true rfl) dX6_stop_5 (fun H locs hw => ?_)
  have hw : qw D A s.heap [((x 0), .inr (6, [.ref (ap 0), .ref (b 0), .ref (a 0), .ref (x 1), .int (iI lat), .int (iI und), .ref (x 2), .ref (x 3), .ref (x 4), .ref (x 6)])), ((b 0), .inr (4, [.ref (b 1), .ref (b 2), .ref (b 3), .ref (b 4), .ref (b 5), .ref (b 6), .ref (b 7), .ref (b 8), .int (iI (T 8 0)), .int (iI (T 8 1)), .int (iI (T 8 2)), .int (iI (T 8 3))])), ((b 6), .inl (cI, 40, .inl (ai (T 5)))), ((a 0), .inr (5, [.ref (a 1), .ref (a 2), .ref (a 3), .ref (a 4), .ref (a 5), .ref (a 6), .ref (a 7), .ref (a 8), .ref (a 9), .ref (a 10), .ref (a 11), .int (iI stop), .int (iI sinp), .int (iI re), .int (iI spag), .int (iI sjob), .int (iI sdup)])), ((a 1), .inl (cI, 40, .inl (ai e0))), ((a 4), .inl (cI, 40, .inl (ai e3))), ((a 10), .inl (cI, 9, .inl (ai e9))), ((x 4), .inr (3, [.int (iI pf), .int (iI pm), .int (iI pt), .int (iI pl), .int (iI pw)]))] H locs := hw
  refine lv_aload_n hx hb dX6_stop_8 rfl (lv_at hl 0 rfl) ?_
  refine q_get hx hb hts hown hK hw.1 ci_X6 0 rfl 2 (by decide) fl_X6_26 rfl dX6_stop_9 ?_
  refine lv_aload_n hx hb dX6_stop_12 rfl (lv_at hl 0 rfl) ?_
  refine q_get hx hb hts hown hK hw.1 ci_X6 0 rfl 8 (by decide) fl_X6_44 rfl dX6_stop_13 ?_
  refine q_get hx hb hts hown hK hw.1 ci_X3 7 rfl 1 (by decide) fl_X6_205 rfl dX6_stop_16 ?_
  refine q_put hx hb hts hown hK hw ci_X5 3 rfl 12 (by decide) fl_X6_97 rfl rfl rfl (Nat.le_of_ble_eq_true rfl) dX6_stop_19 (fun H locs hw => ?_)
  have hw : qw D A s.heap [((x 0), .inr (6, [.ref (ap 0), .ref (b 0), .ref (a 0), .ref (x 1), .int (iI lat), .int (iI und), .ref (x 2), .ref (x 3), .ref (x 4), .ref (x 6)])), ((b 0), .inr (4, [.ref (b 1), .ref (b 2), .ref (b 3), .ref (b 4), .ref (b 5), .ref (b 6), .ref (b 7), .ref (b 8), .int (iI (T 8 0)), .int (iI (T 8 1)), .int (iI (T 8 2)), .int (iI (T 8 3))])), ((b 6), .inl (cI, 40, .inl (ai (T 5)))), ((a 0), .inr (5, [.ref (a 1), .ref (a 2), .ref (a 3), .ref (a 4), .ref (a 5), .ref (a 6), .ref (a 7), .ref (a 8), .ref (a 9), .ref (a 10), .ref (a 11), .int (iI stop), .int (iI pm), .int (iI re), .int (iI spag), .int (iI sjob), .int (iI sdup)])), ((a 1), .inl (cI, 40, .inl (ai e0))), ((a 4), .inl (cI, 40, .inl (ai e3))), ((a 10), .inl (cI, 9, .inl (ai e9))), ((x 4), .inr (3, [.int (iI pf), .int (iI pm), .int (iI pt), .int (iI pl), .int (iI pw)]))] H locs := hw
  refine lv_aload_n hx hb dX6_stop_22 rfl (lv_at hl 0 rfl) ?_
  refine q_get hx hb hts hown hK hw.1 ci_X6 0 rfl 2 (by decide) fl_X6_26 rfl dX6_stop_23 ?_
  refine q_get hx hb hts hown hK hw.1 ci_X5 3 rfl 9 (by decide) fl_X6_254 rfl dX6_stop_26 ?_
  refine lv_iload_n hx hb dX6_stop_29 rfl (lv_at hl 1 rfl) ?_
  refine lv_dup2_11 hx hb dX6_stop_30 rfl rfl ?_
  refine q_iald hx hb hK hw.1 6 0 rfl rfl (z := re) (v := (e9 re)) (by omega) rfl dX6_stop_31 ?_
  refine q_iconst hx hb dX6_stop_32 ?_
  refine q_iadd hx hb dX6_stop_33 ?_
  refine q_iast hx hb hK hw 6 0 rfl rfl (by omega) dX6_stop_34 (fun H locs hw => ?_)
  have hw : qw D A s.heap [((x 0), .inr (6, [.ref (ap 0), .ref (b 0), .ref (a 0), .ref (x 1), .int (iI lat), .int (iI und), .ref (x 2), .ref (x 3), .ref (x 4), .ref (x 6)])), ((b 0), .inr (4, [.ref (b 1), .ref (b 2), .ref (b 3), .ref (b 4), .ref (b 5), .ref (b 6), .ref (b 7), .ref (b 8), .int (iI (T 8 0)), .int (iI (T 8 1)), .int (iI (T 8 2)), .int (iI (T 8 3))])), ((b 6), .inl (cI, 40, .inl (ai (T 5)))), ((a 0), .inr (5, [.ref (a 1), .ref (a 2), .ref (a 3), .ref (a 4), .ref (a 5), .ref (a 6), .ref (a 7), .ref (a 8), .ref (a 9), .ref (a 10), .ref (a 11), .int (iI stop), .int (iI pm), .int (iI re), .int (iI spag), .int (iI sjob), .int (iI sdup)])), ((a 1), .inl (cI, 40, .inl (ai e0))), ((a 4), .inl (cI, 40, .inl (ai e3))), ((a 10), .inl (cI, 9, .inl (ai (uI e9 re (e9 re + 1))))), ((x 4), .inr (3, [.int (iI pf), .int (iI pm), .int (iI pt), .int (iI pl), .int (iI pw)]))] H locs := hw
  obtain ⟨f_1, e_f_1⟩ : ∃ z, z = uI e9 re (e9 re + 1) := ⟨_, rfl⟩
  have hw : qw D A s.heap [((x 0), .inr (6, [.ref (ap 0), .ref (b 0), .ref (a 0), .ref (x 1), .int (iI lat), .int (iI und), .ref (x 2), .ref (x 3), .ref (x 4), .ref (x 6)])), ((b 0), .inr (4, [.ref (b 1), .ref (b 2), .ref (b 3), .ref (b 4), .ref (b 5), .ref (b 6), .ref (b 7), .ref (b 8), .int (iI (T 8 0)), .int (iI (T 8 1)), .int (iI (T 8 2)), .int (iI (T 8 3))])), ((b 6), .inl (cI, 40, .inl (ai (T 5)))), ((a 0), .inr (5, [.ref (a 1), .ref (a 2), .ref (a 3), .ref (a 4), .ref (a 5), .ref (a 6), .ref (a 7), .ref (a 8), .ref (a 9), .ref (a 10), .ref (a 11), .int (iI stop), .int (iI pm), .int (iI re), .int (iI spag), .int (iI sjob), .int (iI sdup)])), ((a 1), .inl (cI, 40, .inl (ai e0))), ((a 4), .inl (cI, 40, .inl (ai e3))), ((a 10), .inl (cI, 9, .inl (ai f_1))), ((x 4), .inr (3, [.int (iI pf), .int (iI pm), .int (iI pt), .int (iI pl), .int (iI pw)]))] H locs := by rw [e_f_1]; exact hw
  refine lv_aload_n hx hb dX6_stop_35 rfl (lv_at hl 0 rfl) ?_
  refine q_get hx hb hts hown hK hw.1 ci_X6 0 rfl 8 (by decide) fl_X6_44 rfl dX6_stop_36 ?_
  refine q_get hx hb hts hown hK hw.1 ci_X3 7 rfl 0 (by decide) fl_X6_215 rfl dX6_stop_39 ?_
  refine lv_istore_n (lv' := [(2, .int (iI pf)), (0, .ref (x 0)), (1, .int (iI re))]) hx hb dX6_stop_42 rfl hl (by decide) rfl (fun ls hl => ?_)
  have loop_43 : ∀ (fu : Nat) (z0 : Int → Int) (k : Int) (H : Heap) (locs : List Loc) (ls : Array Slot), (stop - k).toNat = fu → (pf ≤ k ∧ k ≤ stop) → (z0 = fil e0 pf k 1) → qw D A s.heap [((x 0), .inr (6, [.ref (ap 0), .ref (b 0), .ref (a 0), .ref (x 1), .int (iI lat), .int (iI und), .ref (x 2), .ref (x 3), .ref (x 4), .ref (x 6)])), ((b 0), .inr (4, [.ref (b 1), .ref (b 2), .ref (b 3), .ref (b 4), .ref (b 5), .ref (b 6), .ref (b 7), .ref (b 8), .int (iI (T 8 0)), .int (iI (T 8 1)), .int (iI (T 8 2)), .int (iI (T 8 3))])), ((b 6), .inl (cI, 40, .inl (ai (T 5)))), ((a 0), .inr (5, [.ref (a 1), .ref (a 2), .ref (a 3), .ref (a 4), .ref (a 5), .ref (a 6), .ref (a 7), .ref (a 8), .ref (a 9), .ref (a 10), .ref (a 11), .int (iI stop), .int (iI pm), .int (iI re), .int (iI spag), .int (iI sjob), .int (iI sdup)])), ((a 1), .inl (cI, 40, .inl (ai z0))), ((a 4), .inl (cI, 40, .inl (ai e3))), ((a 10), .inl (cI, 9, .inl (ai f_1))), ((x 4), .inr (3, [.int (iI pf), .int (iI pm), .int (iI pt), .int (iI pl), .int (iI pw)]))] H locs → lv_has ls 3 [(0, .ref (x 0)), (1, .int (iI re)), (2, .int (iI k))] → W p l e R s m args below meth c H locs 0 0 Q (F0 m 43 ls []) := by
    intro fu
    induction fu using Nat.strongRecOn with
    | ind fu ih =>
    intro z0 k H locs ls hn_43 h_k h_0 hw hl
    refine lv_aload_n hx hb dX6_stop_43 rfl (lv_at hl 0 rfl) ?_
    refine lv_iload_n hx hb dX6_stop_44 rfl (lv_at hl 2 rfl) ?_
    refine q_callP (As := [.int (iI k)]) (rest := []) hx hb hml hown hts hK (c_X6_isSheet (k) (by first | omega | assumption) (by first | omega | assumption)) yi_X6_isSheet ml_X6_134 (by rw [hR]; decide) (hw.1.sub [0, 1] rfl) 0 rfl rfl rfl rfl hl.1 (lv_room (Nat.le_of_ble_eq_true rfl)) dX6_stop_45 ⟨by rw [hR]; exact Nat.zero_le _, by rw [hR]; exact Nat.zero_le _⟩ ?_
    refine q_ifb_eq (tgt := 78) hx hb dX6_stop_48 (by decide) (fun c_48 => ?_) (fun c_48 => ?_)
    · refine lv_iload_n hx hb dX6_stop_78 rfl (lv_at hl 1 rfl) ?_
      refine q_iconst hx hb dX6_stop_79 ?_
      refine q_icmp_ne (tgt := 132) hx hb dX6_stop_80 (by decide) (by omega) (fun c_80 => ?_) (fun c_80 => ?_)
      · have hw : qw D A s.heap [((x 0), .inr (6, [.ref (ap 0), .ref (b 0), .ref (a 0), .ref (x 1), .int (iI lat), .int (iI und), .ref (x 2), .ref (x 3), .ref (x 4), .ref (x 6)])), ((b 0), .inr (4, [.ref (b 1), .ref (b 2), .ref (b 3), .ref (b 4), .ref (b 5), .ref (b 6), .ref (b 7), .ref (b 8), .int (iI (T 8 0)), .int (iI (T 8 1)), .int (iI (T 8 2)), .int (iI (T 8 3))])), ((b 6), .inl (cI, 40, .inl (ai (T 5)))), ((a 0), .inr (5, [.ref (a 1), .ref (a 2), .ref (a 3), .ref (a 4), .ref (a 5), .ref (a 6), .ref (a 7), .ref (a 8), .ref (a 9), .ref (a 10), .ref (a 11), .int (iI stop), .int (iI pm), .int (iI re), .int (iI spag), .int (iI sjob), .int (iI sdup)])), ((a 1), .inl (cI, 40, .inl (ai (fil e0 pf stop 1)))), ((a 4), .inl (cI, 40, .inl (ai e3))), ((a 10), .inl (cI, 9, .inl (ai (uI e9 re (e9 re + 1))))), ((x 4), .inr (3, [.int (iI pf), .int (iI pm), .int (iI pt), .int (iI pl), .int (iI pw)]))] H locs := by
          have hw2 := hw
          have ee : z0 = fil e0 pf stop 1 := by first | assumption | rfl | omega | (rw [h_0, show k = stop by omega])
          rw [ee] at hw2
          have ee : f_1 = uI e9 re (e9 re + 1) := by first | assumption | rfl | omega | (rw [h_0, show k = stop by omega])
          rw [ee] at hw2
          exact hw2
        exact hret (e3) H locs 132 ls (by first | (rw [if_pos (by omega), ]; done) | (rw [if_neg (by omega)]; done)) hw dX6_stop_132
      · refine lv_aload_n hx hb dX6_stop_83 rfl (lv_at hl 0 rfl) ?_
        refine lv_aload_n hx hb dX6_stop_84 rfl (lv_at hl 0 rfl) ?_
        refine q_get hx hb hts hown hK hw.1 ci_X6 0 rfl 8 (by decide) fl_X6_44 rfl dX6_stop_85 ?_
        refine q_get hx hb hts hown hK hw.1 ci_X3 7 rfl 0 (by decide) fl_X6_215 rfl dX6_stop_88 ?_
        refine q_callP (As := [.int (iI pf)]) (rest := []) hx hb hml hown hts hK (c_X6_isSheet (pf) (by first | omega | assumption) (by first | omega | assumption)) yi_X6_isSheet ml_X6_134 (by rw [hR]; decide) (hw.1.sub [0, 1] rfl) 0 rfl rfl rfl rfl hl.1 (lv_room (Nat.le_of_ble_eq_true rfl)) dX6_stop_91 ⟨by rw [hR]; exact Nat.zero_le _, by rw [hR]; exact Nat.zero_le _⟩ ?_
        refine q_ifb_eq (tgt := 132) hx hb dX6_stop_94 (by decide) (fun c_94 => absurd c_94 (by omega)) (fun c_94 => ?_)
        refine lv_aload_n hx hb dX6_stop_97 rfl (lv_at hl 0 rfl) ?_
        refine q_get hx hb hts hown hK hw.1 ci_X6 0 rfl 1 (by decide) fl_X6_19 rfl dX6_stop_98 ?_
        refine q_get hx hb hts hown hK hw.1 ci_X4 1 rfl 5 (by decide) fl_X6_158 rfl dX6_stop_101 ?_
        refine lv_aload_n hx hb dX6_stop_104 rfl (lv_at hl 0 rfl) ?_
        refine q_get hx hb hts hown hK hw.1 ci_X6 0 rfl 8 (by decide) fl_X6_44 rfl dX6_stop_105 ?_
        refine q_get hx hb hts hown hK hw.1 ci_X3 7 rfl 0 (by decide) fl_X6_215 rfl dX6_stop_108 ?_
        refine q_iald hx hb hK hw.1 2 0 rfl rfl (z := pf) (v := ((T 5) pf)) (by omega) rfl dX6_stop_111 ?_
        refine q_iconst hx hb dX6_stop_112 ?_
        refine q_icmp_ne (tgt := 132) hx hb dX6_stop_113 (by decide) (by omega) (fun c_113 => ?_) (fun c_113 => ?_)
        · have hw : qw D A s.heap [((x 0), .inr (6, [.ref (ap 0), .ref (b 0), .ref (a 0), .ref (x 1), .int (iI lat), .int (iI und), .ref (x 2), .ref (x 3), .ref (x 4), .ref (x 6)])), ((b 0), .inr (4, [.ref (b 1), .ref (b 2), .ref (b 3), .ref (b 4), .ref (b 5), .ref (b 6), .ref (b 7), .ref (b 8), .int (iI (T 8 0)), .int (iI (T 8 1)), .int (iI (T 8 2)), .int (iI (T 8 3))])), ((b 6), .inl (cI, 40, .inl (ai (T 5)))), ((a 0), .inr (5, [.ref (a 1), .ref (a 2), .ref (a 3), .ref (a 4), .ref (a 5), .ref (a 6), .ref (a 7), .ref (a 8), .ref (a 9), .ref (a 10), .ref (a 11), .int (iI stop), .int (iI pm), .int (iI re), .int (iI spag), .int (iI sjob), .int (iI sdup)])), ((a 1), .inl (cI, 40, .inl (ai (fil e0 pf stop 1)))), ((a 4), .inl (cI, 40, .inl (ai e3))), ((a 10), .inl (cI, 9, .inl (ai (uI e9 re (e9 re + 1))))), ((x 4), .inr (3, [.int (iI pf), .int (iI pm), .int (iI pt), .int (iI pl), .int (iI pw)]))] H locs := by
            have hw2 := hw
            have ee : z0 = fil e0 pf stop 1 := by first | assumption | rfl | omega | (rw [h_0, show k = stop by omega])
            rw [ee] at hw2
            have ee : f_1 = uI e9 re (e9 re + 1) := by first | assumption | rfl | omega | (rw [h_0, show k = stop by omega])
            rw [ee] at hw2
            exact hw2
          exact hret (e3) H locs 132 ls (by first | (rw [if_pos (by omega), ]; done) | (rw [if_neg (by omega)]; done)) hw dX6_stop_132
        · refine lv_aload_n hx hb dX6_stop_116 rfl (lv_at hl 0 rfl) ?_
          refine q_get hx hb hts hown hK hw.1 ci_X6 0 rfl 2 (by decide) fl_X6_26 rfl dX6_stop_117 ?_
          refine q_get hx hb hts hown hK hw.1 ci_X5 3 rfl 3 (by decide) fl_X6_198 rfl dX6_stop_120 ?_
          refine lv_aload_n hx hb dX6_stop_123 rfl (lv_at hl 0 rfl) ?_
          refine q_get hx hb hts hown hK hw.1 ci_X6 0 rfl 8 (by decide) fl_X6_44 rfl dX6_stop_124 ?_
          refine q_get hx hb hts hown hK hw.1 ci_X3 7 rfl 0 (by decide) fl_X6_215 rfl dX6_stop_127 ?_
          refine q_iconst hx hb dX6_stop_130 ?_
          refine q_iast hx hb hK hw 5 0 rfl rfl (by omega) dX6_stop_131 (fun H locs hw => ?_)
          have hw : qw D A s.heap [((x 0), .inr (6, [.ref (ap 0), .ref (b 0), .ref (a 0), .ref (x 1), .int (iI lat), .int (iI und), .ref (x 2), .ref (x 3), .ref (x 4), .ref (x 6)])), ((b 0), .inr (4, [.ref (b 1), .ref (b 2), .ref (b 3), .ref (b 4), .ref (b 5), .ref (b 6), .ref (b 7), .ref (b 8), .int (iI (T 8 0)), .int (iI (T 8 1)), .int (iI (T 8 2)), .int (iI (T 8 3))])), ((b 6), .inl (cI, 40, .inl (ai (T 5)))), ((a 0), .inr (5, [.ref (a 1), .ref (a 2), .ref (a 3), .ref (a 4), .ref (a 5), .ref (a 6), .ref (a 7), .ref (a 8), .ref (a 9), .ref (a 10), .ref (a 11), .int (iI stop), .int (iI pm), .int (iI re), .int (iI spag), .int (iI sjob), .int (iI sdup)])), ((a 1), .inl (cI, 40, .inl (ai z0))), ((a 4), .inl (cI, 40, .inl (ai (uI e3 pf 1)))), ((a 10), .inl (cI, 9, .inl (ai f_1))), ((x 4), .inr (3, [.int (iI pf), .int (iI pm), .int (iI pt), .int (iI pl), .int (iI pw)]))] H locs := hw
          obtain ⟨f_2, e_f_2⟩ : ∃ z, z = uI e3 pf 1 := ⟨_, rfl⟩
          have hw : qw D A s.heap [((x 0), .inr (6, [.ref (ap 0), .ref (b 0), .ref (a 0), .ref (x 1), .int (iI lat), .int (iI und), .ref (x 2), .ref (x 3), .ref (x 4), .ref (x 6)])), ((b 0), .inr (4, [.ref (b 1), .ref (b 2), .ref (b 3), .ref (b 4), .ref (b 5), .ref (b 6), .ref (b 7), .ref (b 8), .int (iI (T 8 0)), .int (iI (T 8 1)), .int (iI (T 8 2)), .int (iI (T 8 3))])), ((b 6), .inl (cI, 40, .inl (ai (T 5)))), ((a 0), .inr (5, [.ref (a 1), .ref (a 2), .ref (a 3), .ref (a 4), .ref (a 5), .ref (a 6), .ref (a 7), .ref (a 8), .ref (a 9), .ref (a 10), .ref (a 11), .int (iI stop), .int (iI pm), .int (iI re), .int (iI spag), .int (iI sjob), .int (iI sdup)])), ((a 1), .inl (cI, 40, .inl (ai z0))), ((a 4), .inl (cI, 40, .inl (ai f_2))), ((a 10), .inl (cI, 9, .inl (ai f_1))), ((x 4), .inr (3, [.int (iI pf), .int (iI pm), .int (iI pt), .int (iI pl), .int (iI pw)]))] H locs := by rw [e_f_2]; exact hw
          have hw : qw D A s.heap [((x 0), .inr (6, [.ref (ap 0), .ref (b 0), .ref (a 0), .ref (x 1), .int (iI lat), .int (iI und), .ref (x 2), .ref (x 3), .ref (x 4), .ref (x 6)])), ((b 0), .inr (4, [.ref (b 1), .ref (b 2), .ref (b 3), .ref (b 4), .ref (b 5), .ref (b 6), .ref (b 7), .ref (b 8), .int (iI (T 8 0)), .int (iI (T 8 1)), .int (iI (T 8 2)), .int (iI (T 8 3))])), ((b 6), .inl (cI, 40, .inl (ai (T 5)))), ((a 0), .inr (5, [.ref (a 1), .ref (a 2), .ref (a 3), .ref (a 4), .ref (a 5), .ref (a 6), .ref (a 7), .ref (a 8), .ref (a 9), .ref (a 10), .ref (a 11), .int (iI stop), .int (iI pm), .int (iI re), .int (iI spag), .int (iI sjob), .int (iI sdup)])), ((a 1), .inl (cI, 40, .inl (ai (fil e0 pf stop 1)))), ((a 4), .inl (cI, 40, .inl (ai f_2))), ((a 10), .inl (cI, 9, .inl (ai (uI e9 re (e9 re + 1))))), ((x 4), .inr (3, [.int (iI pf), .int (iI pm), .int (iI pt), .int (iI pl), .int (iI pw)]))] H locs := by
            have hw2 := hw
            have ee : z0 = fil e0 pf stop 1 := by first | assumption | rfl | omega | (rw [h_0, show k = stop by omega])
            rw [ee] at hw2
            have ee : f_1 = uI e9 re (e9 re + 1) := by first | assumption | rfl | omega | (rw [h_0, show k = stop by omega])
            rw [ee] at hw2
            exact hw2
          exact hret (f_2) H locs 132 ls (by first | (rw [if_pos (by omega), e_f_2]; done) | (rw [if_neg (by omega)]; done)) hw dX6_stop_132
    · refine lv_iload_n hx hb dX6_stop_51 rfl (lv_at hl 2 rfl) ?_
      refine lv_aload_n hx hb dX6_stop_52 rfl (lv_at hl 0 rfl) ?_
      refine q_get hx hb hts hown hK hw.1 ci_X6 0 rfl 2 (by decide) fl_X6_26 rfl dX6_stop_53 ?_
      refine q_get hx hb hts hown hK hw.1 ci_X5 3 rfl 11 (by decide) fl_X6_167 rfl dX6_stop_56 ?_
      refine q_icmp_ge (tgt := 78) hx hb dX6_stop_59 (by decide) (by omega) (fun c_59 => ?_) (fun c_59 => ?_)
      · refine lv_iload_n hx hb dX6_stop_78 rfl (lv_at hl 1 rfl) ?_
        refine q_iconst hx hb dX6_stop_79 ?_
        refine q_icmp_ne (tgt := 132) hx hb dX6_stop_80 (by decide) (by omega) (fun c_80 => ?_) (fun c_80 => ?_)
        · have hw : qw D A s.heap [((x 0), .inr (6, [.ref (ap 0), .ref (b 0), .ref (a 0), .ref (x 1), .int (iI lat), .int (iI und), .ref (x 2), .ref (x 3), .ref (x 4), .ref (x 6)])), ((b 0), .inr (4, [.ref (b 1), .ref (b 2), .ref (b 3), .ref (b 4), .ref (b 5), .ref (b 6), .ref (b 7), .ref (b 8), .int (iI (T 8 0)), .int (iI (T 8 1)), .int (iI (T 8 2)), .int (iI (T 8 3))])), ((b 6), .inl (cI, 40, .inl (ai (T 5)))), ((a 0), .inr (5, [.ref (a 1), .ref (a 2), .ref (a 3), .ref (a 4), .ref (a 5), .ref (a 6), .ref (a 7), .ref (a 8), .ref (a 9), .ref (a 10), .ref (a 11), .int (iI stop), .int (iI pm), .int (iI re), .int (iI spag), .int (iI sjob), .int (iI sdup)])), ((a 1), .inl (cI, 40, .inl (ai (fil e0 pf stop 1)))), ((a 4), .inl (cI, 40, .inl (ai e3))), ((a 10), .inl (cI, 9, .inl (ai (uI e9 re (e9 re + 1))))), ((x 4), .inr (3, [.int (iI pf), .int (iI pm), .int (iI pt), .int (iI pl), .int (iI pw)]))] H locs := by
            have hw2 := hw
            have ee : z0 = fil e0 pf stop 1 := by first | assumption | rfl | omega | (rw [h_0, show k = stop by omega])
            rw [ee] at hw2
            have ee : f_1 = uI e9 re (e9 re + 1) := by first | assumption | rfl | omega | (rw [h_0, show k = stop by omega])
            rw [ee] at hw2
            exact hw2
          exact hret (e3) H locs 132 ls (by first | (rw [if_pos (by omega), ]; done) | (rw [if_neg (by omega)]; done)) hw dX6_stop_132
        · refine lv_aload_n hx hb dX6_stop_83 rfl (lv_at hl 0 rfl) ?_
          refine lv_aload_n hx hb dX6_stop_84 rfl (lv_at hl 0 rfl) ?_
          refine q_get hx hb hts hown hK hw.1 ci_X6 0 rfl 8 (by decide) fl_X6_44 rfl dX6_stop_85 ?_
          refine q_get hx hb hts hown hK hw.1 ci_X3 7 rfl 0 (by decide) fl_X6_215 rfl dX6_stop_88 ?_
          refine q_callP (As := [.int (iI pf)]) (rest := []) hx hb hml hown hts hK (c_X6_isSheet (pf) (by first | omega | assumption) (by first | omega | assumption)) yi_X6_isSheet ml_X6_134 (by rw [hR]; decide) (hw.1.sub [0, 1] rfl) 0 rfl rfl rfl rfl hl.1 (lv_room (Nat.le_of_ble_eq_true rfl)) dX6_stop_91 ⟨by rw [hR]; exact Nat.zero_le _, by rw [hR]; exact Nat.zero_le _⟩ ?_
          refine q_ifb_eq (tgt := 132) hx hb dX6_stop_94 (by decide) (fun c_94 => absurd c_94 (by omega)) (fun c_94 => ?_)
          refine lv_aload_n hx hb dX6_stop_97 rfl (lv_at hl 0 rfl) ?_
          refine q_get hx hb hts hown hK hw.1 ci_X6 0 rfl 1 (by decide) fl_X6_19 rfl dX6_stop_98 ?_
          refine q_get hx hb hts hown hK hw.1 ci_X4 1 rfl 5 (by decide) fl_X6_158 rfl dX6_stop_101 ?_
          refine lv_aload_n hx hb dX6_stop_104 rfl (lv_at hl 0 rfl) ?_
          refine q_get hx hb hts hown hK hw.1 ci_X6 0 rfl 8 (by decide) fl_X6_44 rfl dX6_stop_105 ?_
          refine q_get hx hb hts hown hK hw.1 ci_X3 7 rfl 0 (by decide) fl_X6_215 rfl dX6_stop_108 ?_
          refine q_iald hx hb hK hw.1 2 0 rfl rfl (z := pf) (v := ((T 5) pf)) (by omega) rfl dX6_stop_111 ?_
          refine q_iconst hx hb dX6_stop_112 ?_
          refine q_icmp_ne (tgt := 132) hx hb dX6_stop_113 (by decide) (by omega) (fun c_113 => ?_) (fun c_113 => ?_)
          · have hw : qw D A s.heap [((x 0), .inr (6, [.ref (ap 0), .ref (b 0), .ref (a 0), .ref (x 1), .int (iI lat), .int (iI und), .ref (x 2), .ref (x 3), .ref (x 4), .ref (x 6)])), ((b 0), .inr (4, [.ref (b 1), .ref (b 2), .ref (b 3), .ref (b 4), .ref (b 5), .ref (b 6), .ref (b 7), .ref (b 8), .int (iI (T 8 0)), .int (iI (T 8 1)), .int (iI (T 8 2)), .int (iI (T 8 3))])), ((b 6), .inl (cI, 40, .inl (ai (T 5)))), ((a 0), .inr (5, [.ref (a 1), .ref (a 2), .ref (a 3), .ref (a 4), .ref (a 5), .ref (a 6), .ref (a 7), .ref (a 8), .ref (a 9), .ref (a 10), .ref (a 11), .int (iI stop), .int (iI pm), .int (iI re), .int (iI spag), .int (iI sjob), .int (iI sdup)])), ((a 1), .inl (cI, 40, .inl (ai (fil e0 pf stop 1)))), ((a 4), .inl (cI, 40, .inl (ai e3))), ((a 10), .inl (cI, 9, .inl (ai (uI e9 re (e9 re + 1))))), ((x 4), .inr (3, [.int (iI pf), .int (iI pm), .int (iI pt), .int (iI pl), .int (iI pw)]))] H locs := by
              have hw2 := hw
              have ee : z0 = fil e0 pf stop 1 := by first | assumption | rfl | omega | (rw [h_0, show k = stop by omega])
              rw [ee] at hw2
              have ee : f_1 = uI e9 re (e9 re + 1) := by first | assumption | rfl | omega | (rw [h_0, show k = stop by omega])
              rw [ee] at hw2
              exact hw2
            exact hret (e3) H locs 132 ls (by first | (rw [if_pos (by omega), ]; done) | (rw [if_neg (by omega)]; done)) hw dX6_stop_132
          · refine lv_aload_n hx hb dX6_stop_116 rfl (lv_at hl 0 rfl) ?_
            refine q_get hx hb hts hown hK hw.1 ci_X6 0 rfl 2 (by decide) fl_X6_26 rfl dX6_stop_117 ?_
            refine q_get hx hb hts hown hK hw.1 ci_X5 3 rfl 3 (by decide) fl_X6_198 rfl dX6_stop_120 ?_
            refine lv_aload_n hx hb dX6_stop_123 rfl (lv_at hl 0 rfl) ?_
            refine q_get hx hb hts hown hK hw.1 ci_X6 0 rfl 8 (by decide) fl_X6_44 rfl dX6_stop_124 ?_
            refine q_get hx hb hts hown hK hw.1 ci_X3 7 rfl 0 (by decide) fl_X6_215 rfl dX6_stop_127 ?_
            refine q_iconst hx hb dX6_stop_130 ?_
            refine q_iast hx hb hK hw 5 0 rfl rfl (by omega) dX6_stop_131 (fun H locs hw => ?_)
            have hw : qw D A s.heap [((x 0), .inr (6, [.ref (ap 0), .ref (b 0), .ref (a 0), .ref (x 1), .int (iI lat), .int (iI und), .ref (x 2), .ref (x 3), .ref (x 4), .ref (x 6)])), ((b 0), .inr (4, [.ref (b 1), .ref (b 2), .ref (b 3), .ref (b 4), .ref (b 5), .ref (b 6), .ref (b 7), .ref (b 8), .int (iI (T 8 0)), .int (iI (T 8 1)), .int (iI (T 8 2)), .int (iI (T 8 3))])), ((b 6), .inl (cI, 40, .inl (ai (T 5)))), ((a 0), .inr (5, [.ref (a 1), .ref (a 2), .ref (a 3), .ref (a 4), .ref (a 5), .ref (a 6), .ref (a 7), .ref (a 8), .ref (a 9), .ref (a 10), .ref (a 11), .int (iI stop), .int (iI pm), .int (iI re), .int (iI spag), .int (iI sjob), .int (iI sdup)])), ((a 1), .inl (cI, 40, .inl (ai z0))), ((a 4), .inl (cI, 40, .inl (ai (uI e3 pf 1)))), ((a 10), .inl (cI, 9, .inl (ai f_1))), ((x 4), .inr (3, [.int (iI pf), .int (iI pm), .int (iI pt), .int (iI pl), .int (iI pw)]))] H locs := hw
            obtain ⟨f_3, e_f_3⟩ : ∃ z, z = uI e3 pf 1 := ⟨_, rfl⟩
            have hw : qw D A s.heap [((x 0), .inr (6, [.ref (ap 0), .ref (b 0), .ref (a 0), .ref (x 1), .int (iI lat), .int (iI und), .ref (x 2), .ref (x 3), .ref (x 4), .ref (x 6)])), ((b 0), .inr (4, [.ref (b 1), .ref (b 2), .ref (b 3), .ref (b 4), .ref (b 5), .ref (b 6), .ref (b 7), .ref (b 8), .int (iI (T 8 0)), .int (iI (T 8 1)), .int (iI (T 8 2)), .int (iI (T 8 3))])), ((b 6), .inl (cI, 40, .inl (ai (T 5)))), ((a 0), .inr (5, [.ref (a 1), .ref (a 2), .ref (a 3), .ref (a 4), .ref (a 5), .ref (a 6), .ref (a 7), .ref (a 8), .ref (a 9), .ref (a 10), .ref (a 11), .int (iI stop), .int (iI pm), .int (iI re), .int (iI spag), .int (iI sjob), .int (iI sdup)])), ((a 1), .inl (cI, 40, .inl (ai z0))), ((a 4), .inl (cI, 40, .inl (ai f_3))), ((a 10), .inl (cI, 9, .inl (ai f_1))), ((x 4), .inr (3, [.int (iI pf), .int (iI pm), .int (iI pt), .int (iI pl), .int (iI pw)]))] H locs := by rw [e_f_3]; exact hw
            have hw : qw D A s.heap [((x 0), .inr (6, [.ref (ap 0), .ref (b 0), .ref (a 0), .ref (x 1), .int (iI lat), .int (iI und), .ref (x 2), .ref (x 3), .ref (x 4), .ref (x 6)])), ((b 0), .inr (4, [.ref (b 1), .ref (b 2), .ref (b 3), .ref (b 4), .ref (b 5), .ref (b 6), .ref (b 7), .ref (b 8), .int (iI (T 8 0)), .int (iI (T 8 1)), .int (iI (T 8 2)), .int (iI (T 8 3))])), ((b 6), .inl (cI, 40, .inl (ai (T 5)))), ((a 0), .inr (5, [.ref (a 1), .ref (a 2), .ref (a 3), .ref (a 4), .ref (a 5), .ref (a 6), .ref (a 7), .ref (a 8), .ref (a 9), .ref (a 10), .ref (a 11), .int (iI stop), .int (iI pm), .int (iI re), .int (iI spag), .int (iI sjob), .int (iI sdup)])), ((a 1), .inl (cI, 40, .inl (ai (fil e0 pf stop 1)))), ((a 4), .inl (cI, 40, .inl (ai f_3))), ((a 10), .inl (cI, 9, .inl (ai (uI e9 re (e9 re + 1))))), ((x 4), .inr (3, [.int (iI pf), .int (iI pm), .int (iI pt), .int (iI pl), .int (iI pw)]))] H locs := by
              have hw2 := hw
              have ee : z0 = fil e0 pf stop 1 := by first | assumption | rfl | omega | (rw [h_0, show k = stop by omega])
              rw [ee] at hw2
              have ee : f_1 = uI e9 re (e9 re + 1) := by first | assumption | rfl | omega | (rw [h_0, show k = stop by omega])
              rw [ee] at hw2
              exact hw2
            exact hret (f_3) H locs 132 ls (by first | (rw [if_pos (by omega), e_f_3]; done) | (rw [if_neg (by omega)]; done)) hw dX6_stop_132
      · refine lv_aload_n hx hb dX6_stop_62 rfl (lv_at hl 0 rfl) ?_
        refine q_get hx hb hts hown hK hw.1 ci_X6 0 rfl 2 (by decide) fl_X6_26 rfl dX6_stop_63 ?_
        refine q_get hx hb hts hown hK hw.1 ci_X5 3 rfl 0 (by decide) fl_X6_164 rfl dX6_stop_66 ?_
        refine lv_iload_n hx hb dX6_stop_69 rfl (lv_at hl 2 rfl) ?_
        refine q_iconst hx hb dX6_stop_70 ?_
        refine q_iast hx hb hK hw 4 0 rfl rfl (by omega) dX6_stop_71 (fun H locs hw => ?_)
        have hw : qw D A s.heap [((x 0), .inr (6, [.ref (ap 0), .ref (b 0), .ref (a 0), .ref (x 1), .int (iI lat), .int (iI und), .ref (x 2), .ref (x 3), .ref (x 4), .ref (x 6)])), ((b 0), .inr (4, [.ref (b 1), .ref (b 2), .ref (b 3), .ref (b 4), .ref (b 5), .ref (b 6), .ref (b 7), .ref (b 8), .int (iI (T 8 0)), .int (iI (T 8 1)), .int (iI (T 8 2)), .int (iI (T 8 3))])), ((b 6), .inl (cI, 40, .inl (ai (T 5)))), ((a 0), .inr (5, [.ref (a 1), .ref (a 2), .ref (a 3), .ref (a 4), .ref (a 5), .ref (a 6), .ref (a 7), .ref (a 8), .ref (a 9), .ref (a 10), .ref (a 11), .int (iI stop), .int (iI pm), .int (iI re), .int (iI spag), .int (iI sjob), .int (iI sdup)])), ((a 1), .inl (cI, 40, .inl (ai (uI z0 k 1)))), ((a 4), .inl (cI, 40, .inl (ai e3))), ((a 10), .inl (cI, 9, .inl (ai f_1))), ((x 4), .inr (3, [.int (iI pf), .int (iI pm), .int (iI pt), .int (iI pl), .int (iI pw)]))] H locs := hw
        obtain ⟨f_4, e_f_4⟩ : ∃ z, z = uI z0 k 1 := ⟨_, rfl⟩
        have hw : qw D A s.heap [((x 0), .inr (6, [.ref (ap 0), .ref (b 0), .ref (a 0), .ref (x 1), .int (iI lat), .int (iI und), .ref (x 2), .ref (x 3), .ref (x 4), .ref (x 6)])), ((b 0), .inr (4, [.ref (b 1), .ref (b 2), .ref (b 3), .ref (b 4), .ref (b 5), .ref (b 6), .ref (b 7), .ref (b 8), .int (iI (T 8 0)), .int (iI (T 8 1)), .int (iI (T 8 2)), .int (iI (T 8 3))])), ((b 6), .inl (cI, 40, .inl (ai (T 5)))), ((a 0), .inr (5, [.ref (a 1), .ref (a 2), .ref (a 3), .ref (a 4), .ref (a 5), .ref (a 6), .ref (a 7), .ref (a 8), .ref (a 9), .ref (a 10), .ref (a 11), .int (iI stop), .int (iI pm), .int (iI re), .int (iI spag), .int (iI sjob), .int (iI sdup)])), ((a 1), .inl (cI, 40, .inl (ai f_4))), ((a 4), .inl (cI, 40, .inl (ai e3))), ((a 10), .inl (cI, 9, .inl (ai f_1))), ((x 4), .inr (3, [.int (iI pf), .int (iI pm), .int (iI pt), .int (iI pl), .int (iI pw)]))] H locs := by rw [e_f_4]; exact hw
        refine lv_iinc (v := iI (k + 1)) (lv' := [(2, .int (iI (k + 1))), (0, .ref (x 0)), (1, .int (iI re))]) hx hb dX6_stop_72 hl (k := 2) rfl (iI_add _ _) (by decide) rfl (fun ls hl => ?_)
        refine lv_goto (tgt := 43) hx hb dX6_stop_75 (by decide) ?_
        exact ih _ (by omega) (f_4) (k + 1) H locs ls rfl (by first | omega | assumption | rfl) (by rw [e_f_4, h_0]; exact fil_s _ _ _ _ (by omega)) hw (lv_sub hl [1, 2, 0] rfl)
  exact loop_43 _ (e0) (pf) H locs ls rfl (by first | omega | assumption | rfl) (by exact (fil_0 _ _ _ _ (by omega)).symm) hw (lv_sub hl [1, 2, 0] rfl)
