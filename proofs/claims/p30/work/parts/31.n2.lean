variable {l : Launch} {z : Nat → Nat} {D : va_G} {cI cB cZ cS cJ : ClassId} {T C E : Nat → Int → Int} {q0 q1 r0 r1 : Nat} {gn gc hn : Int} {gt ht : Int → Int} {a b a2 x : Nat → Nat} {pf pm pt pl pw stop sinp srea spag sjob sdup f1 f2 f3 f4 f5 f6 : Int}
theorem pk_bd {off : Int → Int} {n t : Int} (h : t < n) : 1 ≤ pk off n t ∧ t + pk off n t ≤ n := ⟨(pk_is off h).1, (pk_is off h).2.1⟩
theorem maxZ_c (a b : Int) : maxZ a b = if a < b then b else a := rfl
/-- what the sheets of a stack may be -/
def shOk (T : Nat → Int → Int) (off skw : Int → Int) : Prop := ∀ s : Int, 0 ≤ s → s < T 8 0 → 50 ≤ T 0 s ∧ T 0 s ≤ 500 ∧ 30 ≤ T 1 s ∧ T 1 s ≤ 500 ∧ -1 ≤ off s ∧ off s ≤ 400 ∧ -99 ≤ skw s ∧ skw s ≤ 99
theorem shOk.sta {T : Nat → Int → Int} {off skw : Int → Int} (h : shOk T off skw) {t k : Int} (h0 : 0 ≤ t) (h1 : 0 ≤ k) (h2 : t + k ≤ T 8 0) : -1 * k ≤ sta off t k ∧ sta off t k ≤ 400 * k := sI_bd h1 (fun i a b => by have q := h (t + i) (by omega) (by omega); omega)
theorem shOk.thk {T : Nat → Int → Int} {off skw : Int → Int} (h : shOk T off skw) {t k : Int} (h0 : 0 ≤ t) (h1 : 0 ≤ k) (h2 : t + k ≤ T 8 0) : 30 * k ≤ thk T t k ∧ thk T t k ≤ 500 * k := sI_bd h1 (fun i a b => by have q := h (t + i) (by omega) (by omega); omega)
theorem shOk.lng {T : Nat → Int → Int} {off skw : Int → Int} (h : shOk T off skw) (hn : T 8 0 ≤ 40) {t k : Int} (h0 : 0 ≤ t) (h1 : 0 ≤ k) (h2 : t + k ≤ T 8 0) : 0 ≤ lng T off t k ∧ lng T off t k ≤ 16500 := mI_bd (by decide) (fun i a b => by
  by_cases e : 0 ≤ i
  · have q := h (t + i) (by omega) (by omega)
    have q2 := h.sta (t := t) (k := i) h0 e (by omega)
    omega
  · omega)
theorem lng_s {T : Nat → Int → Int} {off : Int → Int} {t k : Int} (h : 0 ≤ k) : lng T off t (k + 1) = maxZ (lng T off t k) (sta off t k + T 0 (t + k)) := mI_s _ h
theorem thk_s {T : Nat → Int → Int} {t k : Int} (h : 0 ≤ k) : thk T t (k + 1) = thk T t k + T 1 (t + k) := sI_s _ h
theorem sta_s {off : Int → Int} {t k : Int} (h : 0 ≤ k) : sta off t (k + 1) = sta off t k + off (t + k) := sI_s _ h
theorem pk_e {off : Int → Int} {n t k : Int} (h1 : 1 ≤ k) (h2 : t + k ≤ n) (h3 : ∀ i : Int, t ≤ i → i < t + k - 1 → off i ≠ -1) (h4 : t + k = n ∨ off (t + k - 1) = -1) : pk off n t = k := pk_one (pk_is off (by omega)) ⟨h1, h2, h3, h4⟩

set_option maxHeartbeats 4000000 in
set_option maxRecDepth 100000 in
theorem c_X3_measure (tp : Int) (hs : shOk T ht gt) (hn : T 8 0 ≤ 40) (htp : 0 ≤ tp ∧ tp < T 8 0) : qM l D (tyG cI cB cZ cS cJ) yX3_measure cX3_measure 6 (Option.none) 1 21 [.ref q0, .ref (b 0), .ref (a 0), .int (iI tp)] [(q0, .inr (3, [.int (iI pf), .int (iI pm), .int (iI pt), .int (iI pl), .int (iI pw)])), ((b 0), .inr (4, [.ref (b 1), .ref (b 2), .ref (b 3), .ref (b 4), .ref (b 5), .ref (b 6), .ref (b 7), .ref (b 8), .int (iI (T 8 0)), .int (iI (T 8 1)), .int (iI (T 8 2)), .int (iI (T 8 3))])), ((b 1), .inl (cI, 40, .inl (ai (T 0)))), ((b 2), .inl (cI, 40, .inl (ai (T 1)))), ((a 0), .inr (5, [.ref (a 1), .ref (a 2), .ref (a 3), .ref (a 4), .ref (a 5), .ref (a 6), .ref (a 7), .ref (a 8), .ref (a 9), .ref (a 10), .ref (a 11), .int (iI stop), .int (iI sinp), .int (iI srea), .int (iI spag), .int (iI sjob), .int (iI sdup)])), ((a 2), .inl (cI, 40, .inl (ai gt))), ((a 3), .inl (cI, 40, .inl (ai ht)))] (fun u : Unit => True) (fun _ => none) (fun u => [(q0, .inr (3, [.int (iI tp), .int (iI (pk ht (T 8 0) tp)), .int (iI (thk T tp (pk ht (T 8 0) tp))), .int (iI (lng T ht tp (pk ht (T 8 0) tp))), .int (iI (gt tp))])), ((b 0), .inr (4, [.ref (b 1), .ref (b 2), .ref (b 3), .ref (b 4), .ref (b 5), .ref (b 6), .ref (b 7), .ref (b 8), .int (iI (T 8 0)), .int (iI (T 8 1)), .int (iI (T 8 2)), .int (iI (T 8 3))])), ((b 1), .inl (cI, 40, .inl (ai (T 0)))), ((b 2), .inl (cI, 40, .inl (ai (T 1)))), ((a 0), .inr (5, [.ref (a 1), .ref (a 2), .ref (a 3), .ref (a 4), .ref (a 5), .ref (a 6), .ref (a 7), .ref (a 8), .ref (a 9), .ref (a 10), .ref (a 11), .int (iI stop), .int (iI sinp), .int (iI srea), .int (iI spag), .int (iI sjob), .int (iI sdup)])), ((a 2), .inl (cI, 40, .inl (ai gt))), ((a 3), .inl (cI, 40, .inl (ai ht)))]) := by
  refine qM_enterV (by decide) (Nat.le_of_ble_eq_true rfl) (fun p e R s m args below meth c Q ls A X hR hA hw hl hret => ?_)
  obtain ⟨hx, hb, hml, hown, hts, hK⟩ := X
  have hl : lv_has ls 6 [(0, .ref q0), (1, .ref (b 0)), (2, .ref (a 0)), (3, .int (iI tp))] := hl
  suffices K : ∀ (H : Heap) (locs : List Loc), qw D A s.heap [(q0, .inr (3, [.int (iI pf), .int (iI pm), .int (iI pt), .int (iI pl), .int (iI pw)])), ((b 0), .inr (4, [.ref (b 1), .ref (b 2), .ref (b 3), .ref (b 4), .ref (b 5), .ref (b 6), .ref (b 7), .ref (b 8), .int (iI (T 8 0)), .int (iI (T 8 1)), .int (iI (T 8 2)), .int (iI (T 8 3))])), ((b 1), .inl (cI, 40, .inl (ai (T 0)))), ((b 2), .inl (cI, 40, .inl (ai (T 1)))), ((a 0), .inr (5, [.ref (a 1), .ref (a 2), .ref (a 3), .ref (a 4), .ref (a 5), .ref (a 6), .ref (a 7), .ref (a 8), .ref (a 9), .ref (a 10), .ref (a 11), .int (iI stop), .int (iI sinp), .int (iI srea), .int (iI spag), .int (iI sjob), .int (iI sdup)])), ((a 2), .inl (cI, 40, .inl (ai gt))), ((a 3), .inl (cI, 40, .inl (ai ht)))] H locs → W p l e R s m args below meth c H locs 0 0 Q (F0 m 0 ls []) from K s.heap [] hw
  clear hw
  intro H locs hw
  refine lv_aload_n hx hb dX3_measure_0 rfl (lv_at hl 0 rfl) ?_
  refine lv_iload_n hx hb dX3_measure_1 rfl (lv_at hl 3 rfl) ?_
  refine q_put hx hb hts hown hK hw ci_X3 0 rfl 0 (by decide) fl_X3_9 rfl rfl rfl (Nat.le_of_ble_eq_true rfl) dX3_measure_2 (fun H locs hw => ?_)
  have hw : qw D A s.heap [(q0, .inr (3, [.int (iI tp), .int (iI pm), .int (iI pt), .int (iI pl), .int (iI pw)])), ((b 0), .inr (4, [.ref (b 1), .ref (b 2), .ref (b 3), .ref (b 4), .ref (b 5), .ref (b 6), .ref (b 7), .ref (b 8), .int (iI (T 8 0)), .int (iI (T 8 1)), .int (iI (T 8 2)), .int (iI (T 8 3))])), ((b 1), .inl (cI, 40, .inl (ai (T 0)))), ((b 2), .inl (cI, 40, .inl (ai (T 1)))), ((a 0), .inr (5, [.ref (a 1), .ref (a 2), .ref (a 3), .ref (a 4), .ref (a 5), .ref (a 6), .ref (a 7), .ref (a 8), .ref (a 9), .ref (a 10), .ref (a 11), .int (iI stop), .int (iI sinp), .int (iI srea), .int (iI spag), .int (iI sjob), .int (iI sdup)])), ((a 2), .inl (cI, 40, .inl (ai gt))), ((a 3), .inl (cI, 40, .inl (ai ht)))] H locs := hw
  refine lv_aload_n hx hb dX3_measure_5 rfl (lv_at hl 0 rfl) ?_
  refine q_iconst hx hb dX3_measure_6 ?_
  refine q_put hx hb hts hown hK hw ci_X3 0 rfl 1 (by decide) fl_X3_15 rfl rfl rfl (Nat.le_of_ble_eq_true rfl) dX3_measure_7 (fun H locs hw => ?_)
  have hw : qw D A s.heap [(q0, .inr (3, [.int (iI tp), .int (iI 0), .int (iI pt), .int (iI pl), .int (iI pw)])), ((b 0), .inr (4, [.ref (b 1), .ref (b 2), .ref (b 3), .ref (b 4), .ref (b 5), .ref (b 6), .ref (b 7), .ref (b 8), .int (iI (T 8 0)), .int (iI (T 8 1)), .int (iI (T 8 2)), .int (iI (T 8 3))])), ((b 1), .inl (cI, 40, .inl (ai (T 0)))), ((b 2), .inl (cI, 40, .inl (ai (T 1)))), ((a 0), .inr (5, [.ref (a 1), .ref (a 2), .ref (a 3), .ref (a 4), .ref (a 5), .ref (a 6), .ref (a 7), .ref (a 8), .ref (a 9), .ref (a 10), .ref (a 11), .int (iI stop), .int (iI sinp), .int (iI srea), .int (iI spag), .int (iI sjob), .int (iI sdup)])), ((a 2), .inl (cI, 40, .inl (ai gt))), ((a 3), .inl (cI, 40, .inl (ai ht)))] H locs := hw
  refine lv_aload_n hx hb dX3_measure_10 rfl (lv_at hl 0 rfl) ?_
  refine q_iconst hx hb dX3_measure_11 ?_
  refine q_put hx hb hts hown hK hw ci_X3 0 rfl 2 (by decide) fl_X3_18 rfl rfl rfl (Nat.le_of_ble_eq_true rfl) dX3_measure_12 (fun H locs hw => ?_)
  have hw : qw D A s.heap [(q0, .inr (3, [.int (iI tp), .int (iI 0), .int (iI 0), .int (iI pl), .int (iI pw)])), ((b 0), .inr (4, [.ref (b 1), .ref (b 2), .ref (b 3), .ref (b 4), .ref (b 5), .ref (b 6), .ref (b 7), .ref (b 8), .int (iI (T 8 0)), .int (iI (T 8 1)), .int (iI (T 8 2)), .int (iI (T 8 3))])), ((b 1), .inl (cI, 40, .inl (ai (T 0)))), ((b 2), .inl (cI, 40, .inl (ai (T 1)))), ((a 0), .inr (5, [.ref (a 1), .ref (a 2), .ref (a 3), .ref (a 4), .ref (a 5), .ref (a 6), .ref (a 7), .ref (a 8), .ref (a 9), .ref (a 10), .ref (a 11), .int (iI stop), .int (iI sinp), .int (iI srea), .int (iI spag), .int (iI sjob), .int (iI sdup)])), ((a 2), .inl (cI, 40, .inl (ai gt))), ((a 3), .inl (cI, 40, .inl (ai ht)))] H locs := hw
  refine lv_aload_n hx hb dX3_measure_15 rfl (lv_at hl 0 rfl) ?_
  refine q_iconst hx hb dX3_measure_16 ?_
  refine q_put hx hb hts hown hK hw ci_X3 0 rfl 3 (by decide) fl_X3_21 rfl rfl rfl (Nat.le_of_ble_eq_true rfl) dX3_measure_17 (fun H locs hw => ?_)
  have hw : qw D A s.heap [(q0, .inr (3, [.int (iI tp), .int (iI 0), .int (iI 0), .int (iI 0), .int (iI pw)])), ((b 0), .inr (4, [.ref (b 1), .ref (b 2), .ref (b 3), .ref (b 4), .ref (b 5), .ref (b 6), .ref (b 7), .ref (b 8), .int (iI (T 8 0)), .int (iI (T 8 1)), .int (iI (T 8 2)), .int (iI (T 8 3))])), ((b 1), .inl (cI, 40, .inl (ai (T 0)))), ((b 2), .inl (cI, 40, .inl (ai (T 1)))), ((a 0), .inr (5, [.ref (a 1), .ref (a 2), .ref (a 3), .ref (a 4), .ref (a 5), .ref (a 6), .ref (a 7), .ref (a 8), .ref (a 9), .ref (a 10), .ref (a 11), .int (iI stop), .int (iI sinp), .int (iI srea), .int (iI spag), .int (iI sjob), .int (iI sdup)])), ((a 2), .inl (cI, 40, .inl (ai gt))), ((a 3), .inl (cI, 40, .inl (ai ht)))] H locs := hw
  refine lv_aload_n hx hb dX3_measure_20 rfl (lv_at hl 0 rfl) ?_
  refine lv_iload_n hx hb dX3_measure_21 rfl (lv_at hl 3 rfl) ?_
  refine q_if_lt (tgt := 42) hx hb dX3_measure_22 (by decide) (by omega) (fun c_22 => absurd c_22 (by omega)) (fun c_22 => ?_)
  refine lv_iload_n hx hb dX3_measure_25 rfl (lv_at hl 3 rfl) ?_
  refine lv_aload_n hx hb dX3_measure_26 rfl (lv_at hl 1 rfl) ?_
  refine q_get hx hb hts hown hK hw.1 ci_X4 1 rfl 8 (by decide) fl_X3_24 rfl dX3_measure_27 ?_
  refine q_icmp_ge (tgt := 42) hx hb dX3_measure_30 (by decide) (by omega) (fun c_30 => absurd c_30 (by omega)) (fun c_30 => ?_)
  refine lv_aload_n hx hb dX3_measure_33 rfl (lv_at hl 2 rfl) ?_
  refine q_get hx hb hts hown hK hw.1 ci_X5 4 rfl 1 (by decide) fl_X3_27 rfl dX3_measure_34 ?_
  refine lv_iload_n hx hb dX3_measure_37 rfl (lv_at hl 3 rfl) ?_
  refine q_iald hx hb hK hw.1 5 0 rfl rfl (z := tp) (v := (gt tp)) (by omega) rfl dX3_measure_38 ?_
  refine lv_goto (tgt := 43) hx hb dX3_measure_39 (by decide) ?_
  refine q_put hx hb hts hown hK hw ci_X3 0 rfl 4 (by decide) fl_X3_33 rfl rfl rfl (Nat.le_of_ble_eq_true rfl) dX3_measure_43 (fun H locs hw => ?_)
  have hw : qw D A s.heap [(q0, .inr (3, [.int (iI tp), .int (iI 0), .int (iI 0), .int (iI 0), .int (iI (gt tp))])), ((b 0), .inr (4, [.ref (b 1), .ref (b 2), .ref (b 3), .ref (b 4), .ref (b 5), .ref (b 6), .ref (b 7), .ref (b 8), .int (iI (T 8 0)), .int (iI (T 8 1)), .int (iI (T 8 2)), .int (iI (T 8 3))])), ((b 1), .inl (cI, 40, .inl (ai (T 0)))), ((b 2), .inl (cI, 40, .inl (ai (T 1)))), ((a 0), .inr (5, [.ref (a 1), .ref (a 2), .ref (a 3), .ref (a 4), .ref (a 5), .ref (a 6), .ref (a 7), .ref (a 8), .ref (a 9), .ref (a 10), .ref (a 11), .int (iI stop), .int (iI sinp), .int (iI srea), .int (iI spag), .int (iI sjob), .int (iI sdup)])), ((a 2), .inl (cI, 40, .inl (ai gt))), ((a 3), .inl (cI, 40, .inl (ai ht)))] H locs := hw
  refine q_iconst hx hb dX3_measure_46 ?_
  refine lv_istore (lv' := [(4, .int (iI 0)), (0, .ref q0), (1, .ref (b 0)), (2, .ref (a 0)), (3, .int (iI tp))]) hx hb dX3_measure_47 hl (by decide) rfl (fun ls hl => ?_)
  refine lv_iload_n hx hb dX3_measure_49 rfl (lv_at hl 4 rfl) ?_
  refine lv_istore (lv' := [(5, .int (iI tp)), (4, .int (iI 0)), (0, .ref q0), (1, .ref (b 0)), (2, .ref (a 0)), (3, .int (iI tp))]) hx hb dX3_measure_50 hl (by decide) rfl (fun ls hl => ?_)
  have loop_52 : ∀ (fu : Nat) (m1 : Int) (t1 : Int) (l1 : Int) (c1 : Int) (s2 : Int) (H : Heap) (locs : List Loc) (ls : Array Slot), (T 8 0 - s2).toNat = fu → (m1 = s2 - tp) → (t1 = thk T tp m1) → (l1 = lng T ht tp m1) → (c1 = sta ht tp m1) → (tp ≤ s2 ∧ s2 ≤ T 8 0) → (∀ i : Int, tp ≤ i → i < s2 → ht i ≠ -1) → qw D A s.heap [(q0, .inr (3, [.int (iI tp), .int (iI m1), .int (iI t1), .int (iI l1), .int (iI (gt tp))])), ((b 0), .inr (4, [.ref (b 1), .ref (b 2), .ref (b 3), .ref (b 4), .ref (b 5), .ref (b 6), .ref (b 7), .ref (b 8), .int (iI (T 8 0)), .int (iI (T 8 1)), .int (iI (T 8 2)), .int (iI (T 8 3))])), ((b 1), .inl (cI, 40, .inl (ai (T 0)))), ((b 2), .inl (cI, 40, .inl (ai (T 1)))), ((a 0), .inr (5, [.ref (a 1), .ref (a 2), .ref (a 3), .ref (a 4), .ref (a 5), .ref (a 6), .ref (a 7), .ref (a 8), .ref (a 9), .ref (a 10), .ref (a 11), .int (iI stop), .int (iI sinp), .int (iI srea), .int (iI spag), .int (iI sjob), .int (iI sdup)])), ((a 2), .inl (cI, 40, .inl (ai gt))), ((a 3), .inl (cI, 40, .inl (ai ht)))] H locs → lv_has ls 6 [(0, .ref q0), (1, .ref (b 0)), (2, .ref (a 0)), (3, .int (iI tp)), (4, .int (iI c1)), (5, .int (iI s2))] → W p l e R s m args below meth c H locs 0 0 Q (F0 m 52 ls []) := by
    intro fu
    induction fu using Nat.strongRecOn with
    | ind fu ih =>
    intro m1 t1 l1 c1 s2 H locs ls hn_52 h_m h_t h_l h_c h_s h_o hw hl
    have q_t := hs.thk (t := tp) (k := m1) (by omega) (by omega) (by omega)
    have q_l := hs.lng hn (t := tp) (k := m1) (by omega) (by omega) (by omega)
    have q_c := hs.sta (t := tp) (k := m1) (by omega) (by omega) (by omega)
    refine lv_iload hx hb dX3_measure_52 (lv_at hl 5 rfl) ?_
    refine q_if_lt (tgt := 145) hx hb dX3_measure_54 (by decide) (by omega) (fun c_54 => ?_) (fun c_54 => ?_)
    · have h_pk : pk ht (T 8 0) tp = m1 := pk_e (by omega) (by omega) (fun i a b => h_o i a (by omega)) (by first | omega | exact Or.inr (by rw [show tp + m1 - 1 = s2 by omega]; omega))
      have hw : qw D A s.heap [(q0, .inr (3, [.int (iI tp), .int (iI (pk ht (T 8 0) tp)), .int (iI (thk T tp (pk ht (T 8 0) tp))), .int (iI (lng T ht tp (pk ht (T 8 0) tp))), .int (iI (gt tp))])), ((b 0), .inr (4, [.ref (b 1), .ref (b 2), .ref (b 3), .ref (b 4), .ref (b 5), .ref (b 6), .ref (b 7), .ref (b 8), .int (iI (T 8 0)), .int (iI (T 8 1)), .int (iI (T 8 2)), .int (iI (T 8 3))])), ((b 1), .inl (cI, 40, .inl (ai (T 0)))), ((b 2), .inl (cI, 40, .inl (ai (T 1)))), ((a 0), .inr (5, [.ref (a 1), .ref (a 2), .ref (a 3), .ref (a 4), .ref (a 5), .ref (a 6), .ref (a 7), .ref (a 8), .ref (a 9), .ref (a 10), .ref (a 11), .int (iI stop), .int (iI sinp), .int (iI srea), .int (iI spag), .int (iI sjob), .int (iI sdup)])), ((a 2), .inl (cI, 40, .inl (ai gt))), ((a 3), .inl (cI, 40, .inl (ai ht)))] H locs := by
        have hw2 := hw
        have ee : m1 = pk ht (T 8 0) tp := by first | exact h_pk.symm | (rw [h_pk]; first | exact h_t | exact h_l | (rw [thk_s (by omega), ← h_t, show tp + m1 = s2 by omega]) | (rw [lng_s (by omega), ← h_l, ← h_c, show tp + m1 = s2 by omega]))
        rw [ee] at hw2
        have ee : t1 = thk T tp (pk ht (T 8 0) tp) := by first | exact h_pk.symm | (rw [h_pk]; first | exact h_t | exact h_l | (rw [thk_s (by omega), ← h_t, show tp + m1 = s2 by omega]) | (rw [lng_s (by omega), ← h_l, ← h_c, show tp + m1 = s2 by omega]))
        rw [ee] at hw2
        have ee : l1 = lng T ht tp (pk ht (T 8 0) tp) := by first | exact h_pk.symm | (rw [h_pk]; first | exact h_t | exact h_l | (rw [thk_s (by omega), ← h_t, show tp + m1 = s2 by omega]) | (rw [lng_s (by omega), ← h_l, ← h_c, show tp + m1 = s2 by omega]))
        rw [ee] at hw2
        exact hw2
      exact hret () H locs 145 ls trivial hw dX3_measure_145
    · refine lv_iload hx hb dX3_measure_57 (lv_at hl 5 rfl) ?_
      refine lv_aload_n hx hb dX3_measure_59 rfl (lv_at hl 1 rfl) ?_
      refine q_get hx hb hts hown hK hw.1 ci_X4 1 rfl 8 (by decide) fl_X3_24 rfl dX3_measure_60 ?_
      refine q_icmp_ge (tgt := 145) hx hb dX3_measure_63 (by decide) (by omega) (fun c_63 => ?_) (fun c_63 => ?_)
      · have h_pk : pk ht (T 8 0) tp = m1 := pk_e (by omega) (by omega) (fun i a b => h_o i a (by omega)) (by first | omega | exact Or.inr (by rw [show tp + m1 - 1 = s2 by omega]; omega))
        have hw : qw D A s.heap [(q0, .inr (3, [.int (iI tp), .int (iI (pk ht (T 8 0) tp)), .int (iI (thk T tp (pk ht (T 8 0) tp))), .int (iI (lng T ht tp (pk ht (T 8 0) tp))), .int (iI (gt tp))])), ((b 0), .inr (4, [.ref (b 1), .ref (b 2), .ref (b 3), .ref (b 4), .ref (b 5), .ref (b 6), .ref (b 7), .ref (b 8), .int (iI (T 8 0)), .int (iI (T 8 1)), .int (iI (T 8 2)), .int (iI (T 8 3))])), ((b 1), .inl (cI, 40, .inl (ai (T 0)))), ((b 2), .inl (cI, 40, .inl (ai (T 1)))), ((a 0), .inr (5, [.ref (a 1), .ref (a 2), .ref (a 3), .ref (a 4), .ref (a 5), .ref (a 6), .ref (a 7), .ref (a 8), .ref (a 9), .ref (a 10), .ref (a 11), .int (iI stop), .int (iI sinp), .int (iI srea), .int (iI spag), .int (iI sjob), .int (iI sdup)])), ((a 2), .inl (cI, 40, .inl (ai gt))), ((a 3), .inl (cI, 40, .inl (ai ht)))] H locs := by
          have hw2 := hw
          have ee : m1 = pk ht (T 8 0) tp := by first | exact h_pk.symm | (rw [h_pk]; first | exact h_t | exact h_l | (rw [thk_s (by omega), ← h_t, show tp + m1 = s2 by omega]) | (rw [lng_s (by omega), ← h_l, ← h_c, show tp + m1 = s2 by omega]))
          rw [ee] at hw2
          have ee : t1 = thk T tp (pk ht (T 8 0) tp) := by first | exact h_pk.symm | (rw [h_pk]; first | exact h_t | exact h_l | (rw [thk_s (by omega), ← h_t, show tp + m1 = s2 by omega]) | (rw [lng_s (by omega), ← h_l, ← h_c, show tp + m1 = s2 by omega]))
          rw [ee] at hw2
          have ee : l1 = lng T ht tp (pk ht (T 8 0) tp) := by first | exact h_pk.symm | (rw [h_pk]; first | exact h_t | exact h_l | (rw [thk_s (by omega), ← h_t, show tp + m1 = s2 by omega]) | (rw [lng_s (by omega), ← h_l, ← h_c, show tp + m1 = s2 by omega]))
          rw [ee] at hw2
          exact hw2
        exact hret () H locs 145 ls trivial hw dX3_measure_145
      · refine lv_aload_n hx hb dX3_measure_66 rfl (lv_at hl 0 rfl) ?_
        refine lv_dup hx hb dX3_measure_67 rfl ?_
        refine q_get hx hb hts hown hK hw.1 ci_X3 0 rfl 1 (by decide) fl_X3_15 rfl dX3_measure_68 ?_
        refine q_iconst hx hb dX3_measure_71 ?_
        refine q_iadd hx hb dX3_measure_72 ?_
        refine q_put hx hb hts hown hK hw ci_X3 0 rfl 1 (by decide) fl_X3_15 rfl rfl rfl (Nat.le_of_ble_eq_true rfl) dX3_measure_73 (fun H locs hw => ?_)
        have hw : qw D A s.heap [(q0, .inr (3, [.int (iI tp), .int (iI (m1 + 1)), .int (iI t1), .int (iI l1), .int (iI (gt tp))])), ((b 0), .inr (4, [.ref (b 1), .ref (b 2), .ref (b 3), .ref (b 4), .ref (b 5), .ref (b 6), .ref (b 7), .ref (b 8), .int (iI (T 8 0)), .int (iI (T 8 1)), .int (iI (T 8 2)), .int (iI (T 8 3))])), ((b 1), .inl (cI, 40, .inl (ai (T 0)))), ((b 2), .inl (cI, 40, .inl (ai (T 1)))), ((a 0), .inr (5, [.ref (a 1), .ref (a 2), .ref (a 3), .ref (a 4), .ref (a 5), .ref (a 6), .ref (a 7), .ref (a 8), .ref (a 9), .ref (a 10), .ref (a 11), .int (iI stop), .int (iI sinp), .int (iI srea), .int (iI spag), .int (iI sjob), .int (iI sdup)])), ((a 2), .inl (cI, 40, .inl (ai gt))), ((a 3), .inl (cI, 40, .inl (ai ht)))] H locs := hw
        refine lv_aload_n hx hb dX3_measure_76 rfl (lv_at hl 0 rfl) ?_
        refine lv_dup hx hb dX3_measure_77 rfl ?_
        refine q_get hx hb hts hown hK hw.1 ci_X3 0 rfl 2 (by decide) fl_X3_18 rfl dX3_measure_78 ?_
        refine lv_aload_n hx hb dX3_measure_81 rfl (lv_at hl 1 rfl) ?_
        refine q_get hx hb hts hown hK hw.1 ci_X4 1 rfl 1 (by decide) fl_X3_35 rfl dX3_measure_82 ?_
        refine lv_iload hx hb dX3_measure_85 (lv_at hl 5 rfl) ?_
        have q_s := hs s2 (by omega) (by omega)
        refine q_iald hx hb hK hw.1 3 0 rfl rfl (z := s2) (v := ((T 1) s2)) (by omega) rfl dX3_measure_87 ?_
        refine q_iadd hx hb dX3_measure_88 ?_
        refine q_put hx hb hts hown hK hw ci_X3 0 rfl 2 (by decide) fl_X3_18 rfl rfl rfl (Nat.le_of_ble_eq_true rfl) dX3_measure_89 (fun H locs hw => ?_)
        have hw : qw D A s.heap [(q0, .inr (3, [.int (iI tp), .int (iI (m1 + 1)), .int (iI (t1 + (T 1) s2)), .int (iI l1), .int (iI (gt tp))])), ((b 0), .inr (4, [.ref (b 1), .ref (b 2), .ref (b 3), .ref (b 4), .ref (b 5), .ref (b 6), .ref (b 7), .ref (b 8), .int (iI (T 8 0)), .int (iI (T 8 1)), .int (iI (T 8 2)), .int (iI (T 8 3))])), ((b 1), .inl (cI, 40, .inl (ai (T 0)))), ((b 2), .inl (cI, 40, .inl (ai (T 1)))), ((a 0), .inr (5, [.ref (a 1), .ref (a 2), .ref (a 3), .ref (a 4), .ref (a 5), .ref (a 6), .ref (a 7), .ref (a 8), .ref (a 9), .ref (a 10), .ref (a 11), .int (iI stop), .int (iI sinp), .int (iI srea), .int (iI spag), .int (iI sjob), .int (iI sdup)])), ((a 2), .inl (cI, 40, .inl (ai gt))), ((a 3), .inl (cI, 40, .inl (ai ht)))] H locs := hw
        refine lv_aload_n hx hb dX3_measure_92 rfl (lv_at hl 0 rfl) ?_
        refine lv_aload_n hx hb dX3_measure_93 rfl (lv_at hl 0 rfl) ?_
        refine q_get hx hb hts hown hK hw.1 ci_X3 0 rfl 3 (by decide) fl_X3_21 rfl dX3_measure_94 ?_
        refine lv_iload hx hb dX3_measure_97 (lv_at hl 4 rfl) ?_
        refine lv_aload_n hx hb dX3_measure_99 rfl (lv_at hl 1 rfl) ?_
        refine q_get hx hb hts hown hK hw.1 ci_X4 1 rfl 0 (by decide) fl_X3_38 rfl dX3_measure_100 ?_
        refine lv_iload hx hb dX3_measure_103 (lv_at hl 5 rfl) ?_
        refine q_iald hx hb hK hw.1 2 0 rfl rfl (z := s2) (v := ((T 0) s2)) (by omega) rfl dX3_measure_105 ?_
        refine q_iadd hx hb dX3_measure_106 ?_
        refine q_max hx hb hml hl.1 hown hts ml_X3_40 ⟨by rw [hR]; decide, by rw [hR]; exact Nat.le_of_ble_eq_true rfl⟩ ⟨by rw [hR]; exact Nat.zero_le _, by rw [hR]; exact Nat.zero_le _⟩ (by omega) dX3_measure_107 ?_
        refine q_put hx hb hts hown hK hw ci_X3 0 rfl 3 (by decide) fl_X3_21 rfl rfl rfl (Nat.le_of_ble_eq_true rfl) dX3_measure_110 (fun H locs hw => ?_)
        have hw : qw D A s.heap [(q0, .inr (3, [.int (iI tp), .int (iI (m1 + 1)), .int (iI (t1 + (T 1) s2)), .int (iI (maxZ l1 (c1 + (T 0) s2))), .int (iI (gt tp))])), ((b 0), .inr (4, [.ref (b 1), .ref (b 2), .ref (b 3), .ref (b 4), .ref (b 5), .ref (b 6), .ref (b 7), .ref (b 8), .int (iI (T 8 0)), .int (iI (T 8 1)), .int (iI (T 8 2)), .int (iI (T 8 3))])), ((b 1), .inl (cI, 40, .inl (ai (T 0)))), ((b 2), .inl (cI, 40, .inl (ai (T 1)))), ((a 0), .inr (5, [.ref (a 1), .ref (a 2), .ref (a 3), .ref (a 4), .ref (a 5), .ref (a 6), .ref (a 7), .ref (a 8), .ref (a 9), .ref (a 10), .ref (a 11), .int (iI stop), .int (iI sinp), .int (iI srea), .int (iI spag), .int (iI sjob), .int (iI sdup)])), ((a 2), .inl (cI, 40, .inl (ai gt))), ((a 3), .inl (cI, 40, .inl (ai ht)))] H locs := hw
        refine lv_aload_n hx hb dX3_measure_113 rfl (lv_at hl 2 rfl) ?_
        refine q_get hx hb hts hown hK hw.1 ci_X5 4 rfl 2 (by decide) fl_X3_46 rfl dX3_measure_114 ?_
        refine lv_iload hx hb dX3_measure_117 (lv_at hl 5 rfl) ?_
        refine q_iald hx hb hK hw.1 6 0 rfl rfl (z := s2) (v := (ht s2)) (by omega) rfl dX3_measure_119 ?_
        refine q_iconst hx hb dX3_measure_120 ?_
        refine q_icmp_ne (tgt := 127) hx hb dX3_measure_121 (by decide) (by omega) (fun c_121 => ?_) (fun c_121 => ?_)
        · refine lv_iload hx hb dX3_measure_127 (lv_at hl 4 rfl) ?_
          refine lv_aload_n hx hb dX3_measure_129 rfl (lv_at hl 2 rfl) ?_
          refine q_get hx hb hts hown hK hw.1 ci_X5 4 rfl 2 (by decide) fl_X3_46 rfl dX3_measure_130 ?_
          refine lv_iload hx hb dX3_measure_133 (lv_at hl 5 rfl) ?_
          refine q_iald hx hb hK hw.1 6 0 rfl rfl (z := s2) (v := (ht s2)) (by omega) rfl dX3_measure_135 ?_
          refine q_iadd hx hb dX3_measure_136 ?_
          refine lv_istore (lv' := [(4, .int (iI (c1 + ht s2))), (0, .ref q0), (1, .ref (b 0)), (2, .ref (a 0)), (3, .int (iI tp)), (5, .int (iI s2))]) hx hb dX3_measure_137 hl (by decide) rfl (fun ls hl => ?_)
          refine lv_iinc (v := iI (s2 + 1)) (lv' := [(5, .int (iI (s2 + 1))), (4, .int (iI (c1 + ht s2))), (0, .ref q0), (1, .ref (b 0)), (2, .ref (a 0)), (3, .int (iI tp))]) hx hb dX3_measure_139 hl (k := 5) rfl (iI_add _ _) (by decide) rfl (fun ls hl => ?_)
          refine lv_goto (tgt := 52) hx hb dX3_measure_142 (by decide) ?_
          exact ih _ (by omega) (m1 + 1) (t1 + (T 1) s2) (maxZ l1 (c1 + (T 0) s2)) (c1 + ht s2) (s2 + 1) H locs ls rfl (by omega) (by rw [thk_s (by omega), ← h_t, show tp + m1 = s2 by omega]) (by rw [lng_s (by omega), ← h_l, ← h_c, show tp + m1 = s2 by omega]) (by rw [sta_s (by omega), ← h_c, show tp + m1 = s2 by omega]) (by first | omega | assumption | rfl) (by exact all_s h_o (by omega) rfl) hw (lv_sub hl [2, 3, 4, 5, 1, 0] rfl)
        · refine lv_goto (tgt := 145) hx hb dX3_measure_124 (by decide) ?_
          have h_pk : pk ht (T 8 0) tp = (m1 + 1) := pk_e (by omega) (by omega) (fun i a b => h_o i a (by omega)) (by first | omega | exact Or.inr (by rw [show tp + (m1 + 1) - 1 = s2 by omega]; omega))
          have hw : qw D A s.heap [(q0, .inr (3, [.int (iI tp), .int (iI (pk ht (T 8 0) tp)), .int (iI (thk T tp (pk ht (T 8 0) tp))), .int (iI (lng T ht tp (pk ht (T 8 0) tp))), .int (iI (gt tp))])), ((b 0), .inr (4, [.ref (b 1), .ref (b 2), .ref (b 3), .ref (b 4), .ref (b 5), .ref (b 6), .ref (b 7), .ref (b 8), .int (iI (T 8 0)), .int (iI (T 8 1)), .int (iI (T 8 2)), .int (iI (T 8 3))])), ((b 1), .inl (cI, 40, .inl (ai (T 0)))), ((b 2), .inl (cI, 40, .inl (ai (T 1)))), ((a 0), .inr (5, [.ref (a 1), .ref (a 2), .ref (a 3), .ref (a 4), .ref (a 5), .ref (a 6), .ref (a 7), .ref (a 8), .ref (a 9), .ref (a 10), .ref (a 11), .int (iI stop), .int (iI sinp), .int (iI srea), .int (iI spag), .int (iI sjob), .int (iI sdup)])), ((a 2), .inl (cI, 40, .inl (ai gt))), ((a 3), .inl (cI, 40, .inl (ai ht)))] H locs := by
            have hw2 := hw
            have ee : m1 + 1 = pk ht (T 8 0) tp := by first | exact h_pk.symm | (rw [h_pk]; first | exact h_t | exact h_l | (rw [thk_s (by omega), ← h_t, show tp + m1 = s2 by omega]) | (rw [lng_s (by omega), ← h_l, ← h_c, show tp + m1 = s2 by omega]))
            rw [ee] at hw2
            have ee : t1 + (T 1) s2 = thk T tp (pk ht (T 8 0) tp) := by first | exact h_pk.symm | (rw [h_pk]; first | exact h_t | exact h_l | (rw [thk_s (by omega), ← h_t, show tp + m1 = s2 by omega]) | (rw [lng_s (by omega), ← h_l, ← h_c, show tp + m1 = s2 by omega]))
            rw [ee] at hw2
            have ee : maxZ l1 (c1 + (T 0) s2) = lng T ht tp (pk ht (T 8 0) tp) := by first | exact h_pk.symm | (rw [h_pk]; first | exact h_t | exact h_l | (rw [thk_s (by omega), ← h_t, show tp + m1 = s2 by omega]) | (rw [lng_s (by omega), ← h_l, ← h_c, show tp + m1 = s2 by omega]))
            rw [ee] at hw2
            exact hw2
          exact hret () H locs 145 ls trivial hw dX3_measure_145
  exact loop_52 _ (0) (0) (0) (0) (tp) H locs ls rfl (by exact (Int.sub_self tp).symm) (by rfl) (by rfl) (by rfl) (by first | omega | assumption | rfl) (by intro i a b; omega) hw (lv_sub hl [2, 3, 4, 5, 1, 0] rfl)
