/-! THE BUILDER: its methods. Written by wip/p30/n40.py -/
theorem ci_X7 : qC RJ4 TJ4 4 7 tyJ4 := ci_J4
def by8 (f : Int → Int) : Prop := ∀ j : Int, -128 ≤ f j ∧ f j < 128
theorem by8_0 : by8 (fun _ => 0) := fun _ => ⟨by show (-128 : Int) ≤ 0; decide, by show (0 : Int) < 128; decide⟩
theorem by8_cp {f g : Int → Int} {n : Int} (hf : by8 f) (hg : by8 g) : by8 (cpF f g n) := fun j => by
  unfold cpF
  split
  · exact hf j
  · exact hg j
theorem by8_lay {L : List Int} {f : Int → Int} {n : Int} (hf : by8 f) (hL : ∀ k : Nat, k < L.length → 0 ≤ L.getD k 0 ∧ L.getD k 0 < 128) : by8 (lay L f n) := fun j => by
  unfold lay
  split
  · next h =>
    have z := hL (j - n).toNat (by omega)
    exact ⟨by omega, z.2⟩
  · exact hf j
theorem by8_u {f : Int → Int} {i v : Int} (hf : by8 f) (hv : -128 ≤ v ∧ v < 128) : by8 (uI f i v) := fun j => by
  unfold uI
  split
  · exact hv
  · exact hf j
/-- the next capacity -/
def grw (cap : Nat) (mn : Int) : Nat := if mn ≤ (cap : Int) + (cap : Int) + 2 then cap + cap + 2 else mn.toNat
/-- room was made -/
def rmF (n mn : Int) (cap : Nat) (f : Int → Int) (cap1 : Nat) (f1 : Int → Int) : Prop := mn ≤ (cap1 : Int) ∧ cap1 ≤ 1402 ∧ cap ≤ cap1 ∧ (∀ j : Int, 0 ≤ j → j < (cap : Int) → f1 j = f j) ∧ by8 f1
/-- a text was put behind the first n bytes -/
def grF (n : Int) (f : Int → Int) (cap1 : Nat) (f1 : Int → Int) (L : List Int) : Prop := n + (L.length : Int) ≤ (cap1 : Int) ∧ cap1 ≤ 1402 ∧ (∀ j : Int, 0 ≤ j → j < n → f1 j = f j) ∧ (∀ k : Nat, k < L.length → f1 (n + (k : Int)) = L.getD k 0) ∧ by8 f1
/-- a number's digits -/
def dgS (i : Int) : List Int := if i < 10 then [48 + i] else if i < 100 then [48 + i / 10, 48 + i % 10] else [48 + i / 100, 48 + i / 10 % 10, 48 + i % 10]
def nD (i : Int) : Int := if i < 10 then 1 else if i < 100 then 2 else 3
theorem nD_len {i : Int} : ((dgS i).length : Int) = nD i := by
  unfold dgS nD
  split
  · rfl
  · split <;> rfl
theorem c_J0_coder1 {l : Launch} {Z : ZT} {D : va_G} {ty : List (ClassId × FieldType)} {q v : Nat} {L : List Int} (hz : zS Z q v L) : qPz l Z D ty yJ0_coder_7d493 cJ0_coder_7d493 1 (Option.some FieldType.byte) 0 0 [.ref q] [] (some (.int (iI 0))) := c_J0_coder hz
section QB4
variable {p : Program} {l : Launch} {e : Env} {R : Room} {s : State} {m : MethodId} {args : Array Value} {below : List Frame} {meth : Method} {c : Code} {H : Heap} {locs : List Loc} {cells slots : Nat} {Q : State → Prop}
variable {cc : ByteArray} {pc : Nat} {ls : Array Slot} {rest : List Value} {A : Nat → Prop} {t0 : Nat}
theorem q_compact (hx : p.tables.exec = Jvm.exec) (hb : c.code = cc) {own : String} {index : Nat} (hZ : va_Z "java/lang/String" "COMPACT_STRINGS" "Z" (.int 1) A s s.heap) (hS : va_S A s.heap H locs) (hown : s.vm.findClass own = some m.cls) (hl : (Cond.fieldLink own index "java/lang/String" "COMPACT_STRINGS" "Z").before args s = true) (hdg : decode cc pc = .ok (.getstatic index, 3))
    (kk : W p l e R s m args below meth c H locs cells slots Q (F0 m (pc + 3) ls (.int (iI 1) :: rest))) : W p l e R s m args below meth c H locs cells slots Q (F0 m pc ls rest) := by
  have e : iI 1 = (1 : Int32) := by decide
  rw [e] at kk
  exact va_gets hx hb hZ hS hown hl (fun _ h => h) hdg kk
theorem q_ones (hx : p.tables.exec = Jvm.exec) (hb : c.code = cc) (hT : va_T .byte t0 100 (fun j => .int (iI (48 + (j : Int) % 10))) A s s.heap) (hS : va_S A s.heap H locs) {i : Int} (hi : 0 ≤ i ∧ i < 100) (hdg : decode cc pc = .ok (.baload, 1))
    (kk : W p l e R s m args below meth c H locs cells slots Q (F0 m (pc + 1) ls (.int (iI (48 + i % 10)) :: rest))) : W p l e R s m args below meth c H locs cells slots Q (F0 m pc ls (.int (iI i) :: .ref t0 :: rest)) :=
  va_tb hx hb hT hS (iI_in hi.1 (by omega) (by omega)) (v := .int (iI (48 + i % 10))) (by rw [iI_cl hi.1 (by omega)]; show Value.int (iI (48 + ((i.toNat : Nat) : Int) % 10)) = _; rw [Int.toNat_of_nonneg hi.1]) hdg kk
theorem q_tens (hx : p.tables.exec = Jvm.exec) (hb : c.code = cc) (hT : va_T .byte t0 100 (fun j => .int (iI (48 + (j : Int) / 10))) A s s.heap) (hS : va_S A s.heap H locs) {i : Int} (hi : 0 ≤ i ∧ i < 100) (hdg : decode cc pc = .ok (.baload, 1))
    (kk : W p l e R s m args below meth c H locs cells slots Q (F0 m (pc + 1) ls (.int (iI (48 + i / 10)) :: rest))) : W p l e R s m args below meth c H locs cells slots Q (F0 m pc ls (.int (iI i) :: .ref t0 :: rest)) :=
  va_tb hx hb hT hS (iI_in hi.1 (by omega) (by omega)) (v := .int (iI (48 + i / 10))) (by rw [iI_cl hi.1 (by omega)]; show Value.int (iI (48 + ((i.toNat : Nat) : Int) / 10)) = _; rw [Int.toNat_of_nonneg hi.1]) hdg kk
end QB4
section BLD
variable {l : Launch} {z : Nat → Nat} {D : va_G} {cI cB cZ cS cJ : ClassId} {b v cap i : Nat} {f : Int → Int} {n mn off x : Int}

set_option maxHeartbeats 4000000 in
set_option maxRecDepth 100000 in
theorem c_J5_length : qH l (ZB z) D (tyG cI cB cZ cS cJ) yJ5_length_8abf5 (.code yJ5_length_8abf5 cJ5_length_8abf5 1 (Option.some FieldType.int) :: gW) 0 0 0 0 [.ref b] [(b, .inr (7, [.ref v, .int (iI 0), .int (iI 0), .int (iI n)]))] (fun u : Unit => True) (fun u => some (.int (iI (n)))) (fun u => [(b, .inr (7, [.ref v, .int (iI 0), .int (iI 0), .int (iI n)]))]) := by
  refine qH_enterI (val := fun u => iI (n)) (by decide) (Nat.le_of_ble_eq_true rfl) (fun u hu => ⟨rfl, nar_i _⟩) (fun p e R s m args below meth c Q ls A X hR hA hw hB hl hret => ?_)
  obtain ⟨hx, hb, hml, hown, hts, hK⟩ := X
  have hl : lv_has ls 1 [(0, .ref b)] := hl
  have hZ := hB.1.1.1
  suffices K : ∀ (H : Heap) (locs : List Loc), qw D A s.heap [(b, .inr (7, [.ref v, .int (iI 0), .int (iI 0), .int (iI n)]))] H locs → W p l e R s m args below meth c H locs 0 0 Q (F0 m 0 ls []) from K s.heap [] hw
  clear hw
  intro H locs hw
  refine lv_aload_n hx hb dJ5_length_8abf5_0 rfl (lv_at hl 0 rfl) ?_
  refine q_get hx hb hts hown hK hw.1 ci_X7 0 rfl 3 (by decide) fl_J5_79 rfl dJ5_length_8abf5_1 ?_
  refine W_wide (k := 0) (n := 0) (by omega) (by omega) ?_
  exact hret () H locs 4 ls trivial hw dJ5_length_8abf5_4

set_option maxHeartbeats 4000000 in
set_option maxRecDepth 100000 in
theorem c_J4_length : qH l (ZB z) D (tyG cI cB cZ cS cJ) yJ4_length_8abf5 (.code yJ4_length_8abf5 cJ4_length_8abf5 1 (Option.some FieldType.int) :: gW) 1 20 0 0 [.ref b] [(b, .inr (7, [.ref v, .int (iI 0), .int (iI 0), .int (iI n)]))] (fun u : Unit => True) (fun u => some (.int (iI (n)))) (fun u => [(b, .inr (7, [.ref v, .int (iI 0), .int (iI 0), .int (iI n)]))]) := by
  refine qH_enterI (val := fun u => iI (n)) (by decide) (Nat.le_of_ble_eq_true rfl) (fun u hu => ⟨rfl, nar_i _⟩) (fun p e R s m args below meth c Q ls A X hR hA hw hB hl hret => ?_)
  obtain ⟨hx, hb, hml, hown, hts, hK⟩ := X
  have hl : lv_has ls 1 [(0, .ref b)] := hl
  have hZ := hB.1.1.1
  suffices K : ∀ (H : Heap) (locs : List Loc), qw D A s.heap [(b, .inr (7, [.ref v, .int (iI 0), .int (iI 0), .int (iI n)]))] H locs → W p l e R s m args below meth c H locs 0 0 Q (F0 m 0 ls []) from K s.heap [] hw
  clear hw
  intro H locs hw
  refine lv_aload_n hx hb dJ4_length_8abf5_0 rfl (lv_at hl 0 rfl) ?_
  have hw : qw D A s.heap ([(b, .inr (7, [.ref v, .int (iI 0), .int (iI 0), .int (iI n)]))] ++ []) H locs := hw
  refine q_callX (As := []) (rest := []) (zb_ok z) hx hb hml hown hts hK c_J5_length yv_J5_length_8abf5 sm_J5_length_8abf5 sp_J4 im_J5_length_8abf5 (by decide) ml_J4_343 (by rw [hR]; decide) hw hA hB 0 rfl rfl rfl hl.1 (lv_room (Nat.le_of_ble_eq_true rfl)) dJ4_length_8abf5_1 (by rw [hR]; exact ⟨by show _ ≤ (0 : Nat); omega, by show _ ≤ (0 : Nat); omega⟩) (fun u_1 H locs hu_1 hw => ?_)
  have hw : qw D A s.heap [(b, .inr (7, [.ref v, .int (iI 0), .int (iI 0), .int (iI n)]))] H locs := hw
  refine W_wide (k := 0) (n := 0) (by omega) (by omega) ?_
  exact hret () H locs 4 ls trivial hw dJ4_length_8abf5_4

set_option maxHeartbeats 4000000 in
set_option maxRecDepth 100000 in
theorem c_J5_isLatin1 : qH l (ZB z) D (tyG cI cB cZ cS cJ) yJ5_isLatin1_aae02 (.code yJ5_isLatin1_aae02 cJ5_isLatin1_aae02 1 (Option.some FieldType.boolean) :: gW) 0 0 0 0 [.ref b] [(b, .inr (7, [.ref v, .int (iI 0), .int (iI 0), .int (iI n)]))] (fun u : Unit => True) (fun u => some (.int (iI (1)))) (fun u => [(b, .inr (7, [.ref v, .int (iI 0), .int (iI 0), .int (iI n)]))]) := by
  refine qH_enterI (val := fun u => iI (1)) (by decide) (Nat.le_of_ble_eq_true rfl) (fun u hu => ⟨rfl, (nar_z (Or.inr rfl))⟩) (fun p e R s m args below meth c Q ls A X hR hA hw hB hl hret => ?_)
  obtain ⟨hx, hb, hml, hown, hts, hK⟩ := X
  have hl : lv_has ls 1 [(0, .ref b)] := hl
  have hZ := hB.1.1.1
  suffices K : ∀ (H : Heap) (locs : List Loc), qw D A s.heap [(b, .inr (7, [.ref v, .int (iI 0), .int (iI 0), .int (iI n)]))] H locs → W p l e R s m args below meth c H locs 0 0 Q (F0 m 0 ls []) from K s.heap [] hw
  clear hw
  intro H locs hw
  refine q_compact hx hb hZ.2.1.1 hw.2.2 hown (hts _ fl_J5_18) dJ5_isLatin1_aae02_0 ?_
  refine q_if_eq (tgt := 17) hx hb dJ5_isLatin1_aae02_3 (by decide) (by omega) (fun c_3 => absurd c_3 (by omega)) (fun c_3 => ?_)
  refine lv_aload_n hx hb dJ5_isLatin1_aae02_6 rfl (lv_at hl 0 rfl) ?_
  refine q_get hx hb hts hown hK hw.1 ci_X7 0 rfl 1 (by decide) fl_J5_22 rfl dJ5_isLatin1_aae02_7 ?_
  refine q_if_ne (tgt := 17) hx hb dJ5_isLatin1_aae02_10 (by decide) (by omega) (fun c_10 => absurd c_10 (by omega)) (fun c_10 => ?_)
  refine q_iconst hx hb dJ5_isLatin1_aae02_13 ?_
  refine lv_goto (tgt := 18) hx hb dJ5_isLatin1_aae02_14 (by decide) ?_
  refine W_wide (k := 0) (n := 0) (by omega) (by omega) ?_
  exact hret () H locs 18 ls trivial hw dJ5_isLatin1_aae02_18

set_option maxHeartbeats 4000000 in
set_option maxRecDepth 100000 in
theorem c_J8_newLength (h1 : 0 ≤ n ∧ n ≤ 1402) (h2 : 0 < mn ∧ mn ≤ 1402) (h3 : 0 < x ∧ x ≤ 1404) : qH l (ZB z) D (tyG cI cB cZ cS cJ) yJ8_newLength_cabcc (.code yJ8_newLength_cabcc cJ8_newLength_cabcc 4 (Option.some FieldType.int) :: gW) 1 21 0 0 [.int (iI n), .int (iI mn), .int (iI x)] [] (fun u : Unit => True) (fun u => some (.int (iI (n + maxZ mn x)))) (fun u => []) := by
  have hmx : 0 < maxZ mn x ∧ maxZ mn x ≤ 1404 := by unfold maxZ; split <;> omega
  refine qH_enterI (val := fun u => iI (n + maxZ mn x)) (by decide) (Nat.le_of_ble_eq_true rfl) (fun u hu => ⟨rfl, nar_i _⟩) (fun p e R s m args below meth c Q ls A X hR hA hw hB hl hret => ?_)
  obtain ⟨hx, hb, hml, hown, hts, hK⟩ := X
  have hl : lv_has ls 4 [(0, .int (iI n)), (1, .int (iI mn)), (2, .int (iI x))] := hl
  have hZ := hB.1.1.1
  suffices K : ∀ (H : Heap) (locs : List Loc), qw D A s.heap [] H locs → W p l e R s m args below meth c H locs 0 0 Q (F0 m 0 ls []) from K s.heap [] hw
  clear hw
  intro H locs hw
  refine lv_iload_n hx hb dJ8_newLength_cabcc_0 rfl (lv_at hl 0 rfl) ?_
  refine lv_iload_n hx hb dJ8_newLength_cabcc_1 rfl (lv_at hl 1 rfl) ?_
  refine lv_iload_n hx hb dJ8_newLength_cabcc_2 rfl (lv_at hl 2 rfl) ?_
  refine q_max hx hb hml hl.1 hown hts ml_J8_194 ⟨by rw [hR]; decide, by rw [hR]; exact Nat.le_of_ble_eq_true rfl⟩ (by rw [hR]; exact ⟨by show _ ≤ (0 : Nat); omega, by show _ ≤ (0 : Nat); omega⟩) (by omega) dJ8_newLength_cabcc_3 ?_
  refine q_iadd hx hb dJ8_newLength_cabcc_6 ?_
  refine lv_istore_n (lv' := [(3, .int (iI (n + maxZ mn x))), (0, .int (iI n)), (1, .int (iI mn)), (2, .int (iI x))]) hx hb dJ8_newLength_cabcc_7 rfl hl (by decide) rfl (fun ls hl => ?_)
  refine q_iconst hx hb dJ8_newLength_cabcc_8 ?_
  refine lv_iload_n hx hb dJ8_newLength_cabcc_9 rfl (lv_at hl 0 rfl) ?_
  refine q_icmp_ge (tgt := 21) hx hb dJ8_newLength_cabcc_10 (by decide) (by omega) (fun c_10 => absurd c_10 (by omega)) (fun c_10 => ?_)
  refine lv_iload_n hx hb dJ8_newLength_cabcc_13 rfl (lv_at hl 0 rfl) ?_
  refine q_ldc (z := 2147483639) hx hb hown hts kc_J8_200 (by decide) dJ8_newLength_cabcc_14 ?_
  refine q_icmp_gt (tgt := 21) hx hb dJ8_newLength_cabcc_16 (by decide) (by omega) (fun c_16 => absurd c_16 (by omega)) (fun c_16 => ?_)
  refine lv_iload_n hx hb dJ8_newLength_cabcc_19 rfl (lv_at hl 0 rfl) ?_
  refine W_wide (k := 0) (n := 0) (by omega) (by omega) ?_
  exact hret () H locs 20 ls trivial hw dJ8_newLength_cabcc_20

set_option maxHeartbeats 4000000 in
set_option maxRecDepth 100000 in
theorem c_J5_newCapacity (hcap : cap ≤ 1402) (h1 : (cap : Int) < mn ∧ mn ≤ 700) : qH l (ZB z) D (tyG cI cB cZ cS cJ) yJ5_newCapacity_0f7a4 (.code yJ5_newCapacity_0f7a4 cJ5_newCapacity_0f7a4 6 (Option.some FieldType.int) :: gW) 2 44 0 0 [.ref b, .int (iI mn)] [(b, .inr (7, [.ref v, .int (iI 0), .int (iI 0), .int (iI n)])), (v, .inl (cB, cap, .inl (ai f)))] (fun u : Unit => True) (fun u => some (.int (iI ((grw cap mn : Int))))) (fun u => [(b, .inr (7, [.ref v, .int (iI 0), .int (iI 0), .int (iI n)])), (v, .inl (cB, cap, .inl (ai f)))]) := by
  have hg : (cap : Int) < (grw cap mn : Int) ∧ mn ≤ (grw cap mn : Int) ∧ grw cap mn ≤ 1402 := by unfold grw; split <;> omega
  refine qH_enterI (val := fun u => iI ((grw cap mn : Int))) (by decide) (Nat.le_of_ble_eq_true rfl) (fun u hu => ⟨rfl, nar_i _⟩) (fun p e R s m args below meth c Q ls A X hR hA hw hB hl hret => ?_)
  obtain ⟨hx, hb, hml, hown, hts, hK⟩ := X
  have hl : lv_has ls 6 [(0, .ref b), (1, .int (iI mn))] := hl
  have hZ := hB.1.1.1
  suffices K : ∀ (H : Heap) (locs : List Loc), qw D A s.heap [(b, .inr (7, [.ref v, .int (iI 0), .int (iI 0), .int (iI n)])), (v, .inl (cB, cap, .inl (ai f)))] H locs → W p l e R s m args below meth c H locs 0 0 Q (F0 m 0 ls []) from K s.heap [] hw
  clear hw
  intro H locs hw
  refine lv_aload_n hx hb dJ5_newCapacity_0f7a4_0 rfl (lv_at hl 0 rfl) ?_
  refine q_get hx hb hts hown hK hw.1 ci_X7 0 rfl 0 (by decide) fl_J5_15 rfl dJ5_newCapacity_0f7a4_1 ?_
  refine va_alen hx hb hK hw.1 1 1 rfl rfl (v := iI (cap : Int)) rfl dJ5_newCapacity_0f7a4_4 ?_
  refine lv_istore_n (lv' := [(2, .int (iI (cap : Int))), (0, .ref b), (1, .int (iI mn))]) hx hb dJ5_newCapacity_0f7a4_5 rfl hl (by decide) rfl (fun ls hl => ?_)
  refine lv_iload_n hx hb dJ5_newCapacity_0f7a4_6 rfl (lv_at hl 2 rfl) ?_
  refine lv_aload_n hx hb dJ5_newCapacity_0f7a4_7 rfl (lv_at hl 1 rfl) ?_
  refine q_get hx hb hts hown hK hw.1 ci_X7 0 rfl 1 (by decide) fl_J5_22 rfl dJ5_newCapacity_0f7a4_8 ?_
  refine q_ishl0 hx hb dJ5_newCapacity_0f7a4_11 ?_
  refine lv_istore_n (lv' := [(3, .int (iI mn)), (2, .int (iI (cap : Int))), (0, .ref b), (1, .int (iI mn))]) hx hb dJ5_newCapacity_0f7a4_12 rfl hl (by decide) rfl (fun ls hl => ?_)
  refine lv_iload_n hx hb dJ5_newCapacity_0f7a4_13 rfl (lv_at hl 0 rfl) ?_
  refine lv_iload_n hx hb dJ5_newCapacity_0f7a4_14 rfl (lv_at hl 1 rfl) ?_
  refine q_isub hx hb dJ5_newCapacity_0f7a4_15 ?_
  refine lv_istore (lv' := [(4, .int (iI (mn - (cap : Int)))), (3, .int (iI mn)), (2, .int (iI (cap : Int))), (0, .ref b), (1, .int (iI mn))]) hx hb dJ5_newCapacity_0f7a4_16 hl (by decide) rfl (fun ls hl => ?_)
  refine lv_iload_n hx hb dJ5_newCapacity_0f7a4_18 rfl (lv_at hl 2 rfl) ?_
  refine lv_iload hx hb dJ5_newCapacity_0f7a4_19 (lv_at hl 0 rfl) ?_
  refine lv_iload_n hx hb dJ5_newCapacity_0f7a4_21 rfl (lv_at hl 2 rfl) ?_
  refine q_iconst hx hb dJ5_newCapacity_0f7a4_22 ?_
  refine lv_aload_n hx hb dJ5_newCapacity_0f7a4_23 rfl (lv_at hl 3 rfl) ?_
  refine q_get hx hb hts hown hK hw.1 ci_X7 0 rfl 1 (by decide) fl_J5_22 rfl dJ5_newCapacity_0f7a4_24 ?_
  refine q_ishl0 hx hb dJ5_newCapacity_0f7a4_27 ?_
  refine q_iadd hx hb dJ5_newCapacity_0f7a4_28 ?_
  have hw : qw D A s.heap ([] ++ [(b, .inr (7, [.ref v, .int (iI 0), .int (iI 0), .int (iI n)])), (v, .inl (cB, cap, .inl (ai f)))]) H locs := hw
  refine q_callHS (As := [.int (iI (cap : Int)), .int (iI (mn - (cap : Int))), .int (iI ((cap : Int) + 2))]) (rest := []) (zb_ok z) hx hb hml hown hts hK (c_J8_newLength (by omega) (by omega) (by omega)) yt_J8_newLength_cabcc ml_J5_114 (by rw [hR]; decide) hw hA hB rfl rfl hl.1 (lv_room (Nat.le_of_ble_eq_true rfl)) dJ5_newCapacity_0f7a4_29 (by rw [hR]; exact ⟨by show _ ≤ (0 : Nat); omega, by show _ ≤ (0 : Nat); omega⟩) (fun u_29 H locs hu_29 hw => ?_)
  have hw : qw D A s.heap [(b, .inr (7, [.ref v, .int (iI 0), .int (iI 0), .int (iI n)])), (v, .inl (cB, cap, .inl (ai f)))] H locs := hw
  refine q_top ((grw cap mn : Int)) (by unfold grw maxZ; split <;> split <;> omega) ?_
  refine lv_istore (lv' := [(5, .int (iI ((grw cap mn : Int)))), (4, .int (iI (mn - (cap : Int)))), (3, .int (iI mn)), (2, .int (iI (cap : Int))), (0, .ref b), (1, .int (iI mn))]) hx hb dJ5_newCapacity_0f7a4_32 hl (by decide) rfl (fun ls hl => ?_)
  refine lv_iload hx hb dJ5_newCapacity_0f7a4_34 (lv_at hl 0 rfl) ?_
  refine q_ldc (z := 2147483647) hx hb hown hts kc_J5_39 (by decide) dJ5_newCapacity_0f7a4_36 ?_
  refine q_icmp_ne (tgt := 51) hx hb dJ5_newCapacity_0f7a4_38 (by decide) (by omega) (fun c_38 => ?_) (fun c_38 => absurd c_38 (by omega))
  refine lv_iload hx hb dJ5_newCapacity_0f7a4_51 (lv_at hl 0 rfl) ?_
  refine lv_aload_n hx hb dJ5_newCapacity_0f7a4_53 rfl (lv_at hl 4 rfl) ?_
  refine q_get hx hb hts hown hK hw.1 ci_X7 0 rfl 1 (by decide) fl_J5_22 rfl dJ5_newCapacity_0f7a4_54 ?_
  refine q_ishr0 hx hb dJ5_newCapacity_0f7a4_57 ?_
  refine W_wide (k := 0) (n := 0) (by omega) (by omega) ?_
  exact hret () H locs 58 ls trivial hw dJ5_newCapacity_0f7a4_58

set_option maxHeartbeats 4000000 in
set_option maxRecDepth 100000 in
theorem c_J7_copyOf (h1 : cap < i ∧ i ≤ 1402) (hf : by8 f) : qH l (ZB z) D (tyG cI cB cZ cS cJ) yJ7_copyOf_9075b (.code yJ7_copyOf_9075b cJ7_copyOf_9075b 3 (Option.some (FieldType.array FieldType.byte)) :: gW) 1 60 1 1402 [.ref v, .int (iI (i : Int))] [(v, .inl (cB, cap, .inl (ai f)))] (fun u : Nat => True) (fun u => some (.ref (u))) (fun u => [(v, .inl (cB, cap, .inl (ai f))), (u, .inl (cB, i, .inl (ai (cpF f (fun _ => 0) (cap : Int)))))]) := by
  refine qH_enterR (ad := fun u => u) (by decide) (Nat.le_of_ble_eq_true rfl) (Or.inr ⟨_, rfl⟩) (fun u hu => rfl) (fun p e R s m args below meth c Q ls A X hR hA hw hB hl hret => ?_)
  obtain ⟨hx, hb, hml, hown, hts, hK⟩ := X
  have hl : lv_has ls 3 [(0, .ref v), (1, .int (iI (i : Int)))] := hl
  have hZ := hB.1.1.1
  suffices K : ∀ (H : Heap) (locs : List Loc), qw D A s.heap [(v, .inl (cB, cap, .inl (ai f)))] H locs → W p l e R s m args below meth c H locs 0 0 Q (F0 m 0 ls []) from K s.heap [] hw
  clear hw
  intro H locs hw
  refine lv_iload_n hx hb dJ7_copyOf_9075b_0 rfl (lv_at hl 1 rfl) ?_
  refine lv_aload_n hx hb dJ7_copyOf_9075b_1 rfl (lv_at hl 0 rfl) ?_
  refine va_alen hx hb hK hw.1 0 1 rfl rfl (v := iI (cap : Int)) rfl dJ7_copyOf_9075b_2 ?_
  refine q_icmp_ne (tgt := 14) hx hb dJ7_copyOf_9075b_3 (by decide) (by omega) (fun c_3 => ?_) (fun c_3 => absurd c_3 (by omega))
  refine lv_iload_n hx hb dJ7_copyOf_9075b_14 rfl (lv_at hl 1 rfl) ?_
  refine q_newA (at0 := .byte) (ft := .byte) (t0 := 1) (N := i) (cA0 := cB) (a0 := (i, .inl (ai (fun _ => 0)))) hx hb hts hK hw hA ac_byte rfl rfl rfl (by omega) (by show i * 1 ≤ _; omega) (by rw [hR]; exact ⟨by show _ ≤ (1 : Nat); omega, by show _ ≤ (1402 : Nat); omega⟩) dJ7_copyOf_9075b_15 (fun q H hw => ?_)
  have hw : qw D A s.heap [(v, .inl (cB, cap, .inl (ai f))), (q, .inl (cB, i, .inl (ai (fun _ => 0))))] H locs := hw
  refine lv_astore_n (lv' := [(2, .ref q), (0, .ref v), (1, .int (iI (i : Int)))]) hx hb dJ7_copyOf_9075b_17 rfl hl (by decide) rfl (fun ls hl => ?_)
  refine lv_aload_n hx hb dJ7_copyOf_9075b_18 rfl (lv_at hl 1 rfl) ?_
  refine q_iconst hx hb dJ7_copyOf_9075b_19 ?_
  refine lv_aload_n hx hb dJ7_copyOf_9075b_20 rfl (lv_at hl 0 rfl) ?_
  refine q_iconst hx hb dJ7_copyOf_9075b_21 ?_
  refine lv_aload_n hx hb dJ7_copyOf_9075b_22 rfl (lv_at hl 1 rfl) ?_
  refine va_alen hx hb hK hw.1 0 1 rfl rfl (v := iI (cap : Int)) rfl dJ7_copyOf_9075b_23 ?_
  refine lv_iload_n hx hb dJ7_copyOf_9075b_24 rfl (lv_at hl 2 rfl) ?_
  refine q_min hx hb hml hl.1 hown hts ml_J7_304 ⟨by rw [hR]; decide, by rw [hR]; exact Nat.le_of_ble_eq_true rfl⟩ (by rw [hR]; exact ⟨by show _ ≤ (1 : Nat); omega, by show _ ≤ (1402 : Nat); omega⟩) (by omega) dJ7_copyOf_9075b_25 ?_
  refine q_top ((cap : Int)) (by unfold minZ; split <;> omega) ?_
  refine q_bcopy hx hb hml hl.1 hown hts ml_J7_150 hK hw 0 1 rfl rfl rfl (by omega) (fun j _ _ => hf j) (k := (cap : Int)) rfl (by rw [hR]; decide) (by rw [hR]; decide) dJ7_copyOf_9075b_28 (fun H locs hw => ?_)
  have hw : qw D A s.heap [(v, .inl (cB, cap, .inl (ai f))), (q, .inl (cB, i, .inl (ai (cpF f (fun _ => 0) (cap : Int)))))] H locs := hw
  refine lv_aload_n hx hb dJ7_copyOf_9075b_31 rfl (lv_at hl 0 rfl) ?_
  refine W_wide (k := 1) (n := 1402) (by omega) (by omega) ?_
  exact hret q H locs 32 ls trivial hw dJ7_copyOf_9075b_32

set_option maxHeartbeats 4000000 in
set_option maxRecDepth 100000 in
theorem c_J5_ensureCap (hcap : cap ≤ 1402) (h1 : 0 ≤ mn ∧ mn ≤ 700) (hf : by8 f) : qH l (ZB z) D (tyG cI cB cZ cS cJ) yJ5_ensureCapacityInternal_d00df (.code yJ5_ensureCapacityInternal_d00df cJ5_ensureCapacityInternal_d00df 3 (Option.none) :: gW) 3 82 1 1402 [.ref b, .int (iI mn)] [(b, .inr (7, [.ref v, .int (iI 0), .int (iI 0), .int (iI n)])), (v, .inl (cB, cap, .inl (ai f)))] (fun u : Nat × Nat × (Int → Int) => rmF n mn cap f u.2.1 u.2.2) (fun _ => none) (fun u => [(b, .inr (7, [.ref u.1, .int (iI 0), .int (iI 0), .int (iI n)])), (u.1, .inl (cB, u.2.1, .inl (ai u.2.2)))]) := by
  refine qH_enterC (by decide) (Nat.le_of_ble_eq_true rfl) (fun p e R s m args below meth c Q ls A X hR hA hw hB hl _ hret => ?_)
  obtain ⟨hx, hb, hml, hown, hts, hK⟩ := X
  have hl : lv_has ls 3 [(0, .ref b), (1, .int (iI mn))] := hl
  have hZ := hB.1.1.1
  suffices K : ∀ (H : Heap) (locs : List Loc), qw D A s.heap [(b, .inr (7, [.ref v, .int (iI 0), .int (iI 0), .int (iI n)])), (v, .inl (cB, cap, .inl (ai f)))] H locs → W p l e R s m args below meth c H locs 0 0 Q (F0 m 0 ls []) from K s.heap [] hw
  clear hw
  intro H locs hw
  refine lv_aload_n hx hb dJ5_ensureCapacityInternal_d00df_0 rfl (lv_at hl 0 rfl) ?_
  refine q_get hx hb hts hown hK hw.1 ci_X7 0 rfl 0 (by decide) fl_J5_15 rfl dJ5_ensureCapacityInternal_d00df_1 ?_
  refine va_alen hx hb hK hw.1 1 1 rfl rfl (v := iI (cap : Int)) rfl dJ5_ensureCapacityInternal_d00df_4 ?_
  refine lv_aload_n hx hb dJ5_ensureCapacityInternal_d00df_5 rfl (lv_at hl 0 rfl) ?_
  refine q_get hx hb hts hown hK hw.1 ci_X7 0 rfl 1 (by decide) fl_J5_22 rfl dJ5_ensureCapacityInternal_d00df_6 ?_
  refine q_ishr0 hx hb dJ5_ensureCapacityInternal_d00df_9 ?_
  refine lv_istore_n (lv' := [(2, .int (iI (cap : Int))), (0, .ref b), (1, .int (iI mn))]) hx hb dJ5_ensureCapacityInternal_d00df_10 rfl hl (by decide) rfl (fun ls hl => ?_)
  refine lv_iload_n hx hb dJ5_ensureCapacityInternal_d00df_11 rfl (lv_at hl 2 rfl) ?_
  refine lv_iload_n hx hb dJ5_ensureCapacityInternal_d00df_12 rfl (lv_at hl 0 rfl) ?_
  refine q_isub hx hb dJ5_ensureCapacityInternal_d00df_13 ?_
  refine q_if_le (tgt := 38) hx hb dJ5_ensureCapacityInternal_d00df_14 (by decide) (by omega) (fun c_14 => ?_) (fun c_14 => ?_)
  · refine W_wide (k := 1) (n := 1402) (by omega) (by omega) ?_
    exact hret (v, cap, f) H locs 38 ls (show rmF n mn cap f cap f from ⟨by omega, by omega, by omega, fun j _ _ => rfl, hf⟩) hw dJ5_ensureCapacityInternal_d00df_38
  · refine lv_aload_n hx hb dJ5_ensureCapacityInternal_d00df_17 rfl (lv_at hl 1 rfl) ?_
    refine lv_aload_n hx hb dJ5_ensureCapacityInternal_d00df_18 rfl (lv_at hl 1 rfl) ?_
    refine q_get hx hb hts hown hK hw.1 ci_X7 0 rfl 0 (by decide) fl_J5_15 rfl dJ5_ensureCapacityInternal_d00df_19 ?_
    refine lv_aload_n hx hb dJ5_ensureCapacityInternal_d00df_22 rfl (lv_at hl 1 rfl) ?_
    refine lv_iload_n hx hb dJ5_ensureCapacityInternal_d00df_23 rfl (lv_at hl 2 rfl) ?_
    have hw : qw D A s.heap ([(b, .inr (7, [.ref v, .int (iI 0), .int (iI 0), .int (iI n)])), (v, .inl (cB, cap, .inl (ai f)))] ++ []) H locs := hw
    refine q_callU (As := [.int (iI mn)]) (rest := [.ref v, .ref b]) (zb_ok z) hx hb hml hown hts hK (c_J5_newCapacity hcap (by omega)) yv_J5_newCapacity_0f7a4 yv_J5_newCapacity_0f7a4.1 im_J5_newCapacity_0f7a4 yv_J5_newCapacity_0f7a4.2.2 sm_J5_newCapacity_0f7a4 sv_1 im_J5_newCapacity_0f7a4 ml_J5_104 (by rw [hR]; decide) hw hA hB 0 rfl rfl rfl hl.1 (lv_room (Nat.le_of_ble_eq_true rfl)) dJ5_ensureCapacityInternal_d00df_24 (by rw [hR]; exact ⟨by show _ ≤ (1 : Nat); omega, by show _ ≤ (1402 : Nat); omega⟩) (fun u_24 H locs hu_24 hw => ?_)
    have hw : qw D A s.heap [(b, .inr (7, [.ref v, .int (iI 0), .int (iI 0), .int (iI n)])), (v, .inl (cB, cap, .inl (ai f)))] H locs := hw
    have hg : (cap : Int) < (grw cap mn : Int) ∧ mn ≤ (grw cap mn : Int) ∧ grw cap mn ≤ 1402 := by unfold grw; split <;> omega
    refine lv_aload_n hx hb dJ5_ensureCapacityInternal_d00df_27 rfl (lv_at hl 1 rfl) ?_
    refine q_get hx hb hts hown hK hw.1 ci_X7 0 rfl 1 (by decide) fl_J5_22 rfl dJ5_ensureCapacityInternal_d00df_28 ?_
    refine q_ishl0 hx hb dJ5_ensureCapacityInternal_d00df_31 ?_
    have hw : qw D A s.heap ([(v, .inl (cB, cap, .inl (ai f)))] ++ [(b, .inr (7, [.ref v, .int (iI 0), .int (iI 0), .int (iI n)]))]) H locs := (hw.sub [1, 0] (by decide) rfl)
    refine q_callHS (As := [.ref v, .int (iI ((grw cap mn : Int)))]) (rest := [.ref b]) (zb_ok z) hx hb hml hown hts hK (c_J7_copyOf (i := grw cap mn) (by omega) hf) yt_J7_copyOf_9075b ml_J5_108 (by rw [hR]; decide) hw hA hB rfl rfl hl.1 (lv_room (Nat.le_of_ble_eq_true rfl)) dJ5_ensureCapacityInternal_d00df_32 (by rw [hR]; exact ⟨by show _ ≤ (1 : Nat); omega, by show _ ≤ (1402 : Nat); omega⟩) (fun u_32 H locs hu_32 hw => ?_)
    obtain ⟨q, rfl⟩ : ∃ z, z = u_32 := ⟨_, rfl⟩
    have hw : qw D A s.heap [(v, .inl (cB, cap, .inl (ai f))), (q, .inl (cB, (grw cap mn), .inl (ai (cpF f (fun _ => 0) (cap : Int))))), (b, .inr (7, [.ref v, .int (iI 0), .int (iI 0), .int (iI n)]))] H locs := hw
    refine q_put hx hb hts hown hK hw ci_X7 2 rfl 0 (by decide) fl_J5_15 rfl rfl rfl (Nat.le_of_ble_eq_true rfl) dJ5_ensureCapacityInternal_d00df_35 (fun H locs hw => ?_)
    have hw : qw D A s.heap [(v, .inl (cB, cap, .inl (ai f))), (q, .inl (cB, (grw cap mn), .inl (ai (cpF f (fun _ => 0) (cap : Int))))), (b, .inr (7, [.ref q, .int (iI 0), .int (iI 0), .int (iI n)]))] H locs := hw
    have hw : qw D A s.heap [(b, .inr (7, [.ref q, .int (iI 0), .int (iI 0), .int (iI n)])), (q, .inl (cB, (grw cap mn), .inl (ai (cpF f (fun _ => 0) (cap : Int)))))] H locs := hw.sub [2, 1] (by decide) rfl
    refine W_wide (k := 1) (n := 1402) (by omega) (by omega) ?_
    exact hret (q, grw cap mn, cpF f (fun _ => 0) (cap : Int)) H locs 38 ls (show rmF n mn cap f (grw cap mn) (cpF f (fun _ => 0) (cap : Int)) from ⟨by omega, by omega, by omega, fun j _ hj => cpF_b hj, by8_cp hf by8_0⟩) hw dJ5_ensureCapacityInternal_d00df_38

set_option maxHeartbeats 4000000 in
set_option maxRecDepth 100000 in
theorem c_J5_inflateIf (hi : i < 16) : qH l (ZB z) D (tyG cI cB cZ cS cJ) yJ5_inflateIfNeededFor_a7421 (.code yJ5_inflateIfNeededFor_a7421 cJ5_inflateIfNeededFor_a7421 2 (Option.none) :: gW) 1 20 0 0 [.ref b, .ref (z (10 + i))] [(b, .inr (7, [.ref v, .int (iI 0), .int (iI 0), .int (iI n)]))] (fun u : Unit => True) (fun _ => none) (fun u => [(b, .inr (7, [.ref v, .int (iI 0), .int (iI 0), .int (iI n)]))]) := by
  have htl := (zz_tx i hi).1
  refine qH_enterC (by decide) (Nat.le_of_ble_eq_true rfl) (fun p e R s m args below meth c Q ls A X hR hA hw hB hl _ hret => ?_)
  obtain ⟨hx, hb, hml, hown, hts, hK⟩ := X
  have hl : lv_has ls 2 [(0, .ref b), (1, .ref (z (10 + i)))] := hl
  have hZ := hB.1.1.1
  suffices K : ∀ (H : Heap) (locs : List Loc), qw D A s.heap [(b, .inr (7, [.ref v, .int (iI 0), .int (iI 0), .int (iI n)]))] H locs → W p l e R s m args below meth c H locs 0 0 Q (F0 m 0 ls []) from K s.heap [] hw
  clear hw
  intro H locs hw
  refine q_compact hx hb hZ.2.1.1 hw.2.2 hown (hts _ fl_J5_18) dJ5_inflateIfNeededFor_a7421_0 ?_
  refine q_if_eq (tgt := 21) hx hb dJ5_inflateIfNeededFor_a7421_3 (by decide) (by omega) (fun c_3 => absurd c_3 (by omega)) (fun c_3 => ?_)
  refine lv_aload_n hx hb dJ5_inflateIfNeededFor_a7421_6 rfl (lv_at hl 0 rfl) ?_
  refine q_get hx hb hts hown hK hw.1 ci_X7 0 rfl 1 (by decide) fl_J5_22 rfl dJ5_inflateIfNeededFor_a7421_7 ?_
  refine lv_aload_n hx hb dJ5_inflateIfNeededFor_a7421_10 rfl (lv_at hl 1 rfl) ?_
  refine q_callPzX (As := []) (rest := [.int (iI 0)]) (zz_ok z) hx hb hml hown hts hK (c_J0_coder1 (zz_S z i hi)) yi_J0_coder_7d493 ml_J5_40 (by rw [hR]; decide) P_nil (z_M (zz_ok z) hZ hw hA [] rfl) (vk_recv (i := 0) (hZ.2.2.1 i hi) (by decide) hw.2.2) rfl rfl hl.1 (lv_room (Nat.le_of_ble_eq_true rfl)) dJ5_inflateIfNeededFor_a7421_11 (by rw [hR]; exact ⟨by show _ ≤ (0 : Nat); omega, by show _ ≤ (0 : Nat); omega⟩) ?_
  refine q_icmp_eq (tgt := 21) hx hb dJ5_inflateIfNeededFor_a7421_14 (by decide) (by omega) (fun c_14 => ?_) (fun c_14 => absurd c_14 (by omega))
  refine W_wide (k := 0) (n := 0) (by omega) (by omega) ?_
  exact hret () H locs 21 ls trivial hw dJ5_inflateIfNeededFor_a7421_21

set_option maxHeartbeats 4000000 in
set_option maxRecDepth 100000 in
theorem c_J0_getBytes (hi : i < 16) (hcap : cap ≤ 1402) (h1 : 0 ≤ off ∧ off + ((txL i).length : Int) ≤ (cap : Int)) : qH l (ZB z) D (tyG cI cB cZ cS cJ) yJ0_getBytes_840e7 (.code yJ0_getBytes_840e7 cJ0_getBytes_840e7 4 (Option.none) :: gW) 1 60 0 0 [.ref (z (10 + i)), .ref v, .int (iI off), .int (iI 0)] [(v, .inl (cB, cap, .inl (ai f)))] (fun u : Unit => True) (fun _ => none) (fun u => [(v, .inl (cB, cap, .inl (ai (lay (txL i) f off))))]) := by
  have htl := (zz_tx i hi).1
  refine qH_enterC (by decide) (Nat.le_of_ble_eq_true rfl) (fun p e R s m args below meth c Q ls A X hR hA hw hB hl _ hret => ?_)
  obtain ⟨hx, hb, hml, hown, hts, hK⟩ := X
  have hl : lv_has ls 4 [(0, .ref (z (10 + i))), (1, .ref v), (2, .int (iI off)), (3, .int (iI 0))] := hl
  have hZ := hB.1.1.1
  suffices K : ∀ (H : Heap) (locs : List Loc), qw D A s.heap [(v, .inl (cB, cap, .inl (ai f)))] H locs → W p l e R s m args below meth c H locs 0 0 Q (F0 m 0 ls []) from K s.heap [] hw
  clear hw
  intro H locs hw
  refine lv_aload_n hx hb dJ0_getBytes_840e7_0 rfl (lv_at hl 0 rfl) ?_
  refine q_callPzX (As := []) (rest := []) (zz_ok z) hx hb hml hown hts hK (c_J0_coder1 (zz_S z i hi)) yi_J0_coder_7d493 ml_J0_335 (by rw [hR]; decide) P_nil (z_M (zz_ok z) hZ hw hA [] rfl) (vk_recv (i := 0) (hZ.2.2.1 i hi) (by decide) hw.2.2) rfl rfl hl.1 (lv_room (Nat.le_of_ble_eq_true rfl)) dJ0_getBytes_840e7_1 (by rw [hR]; exact ⟨by show _ ≤ (0 : Nat); omega, by show _ ≤ (0 : Nat); omega⟩) ?_
  refine lv_iload_n hx hb dJ0_getBytes_840e7_4 rfl (lv_at hl 3 rfl) ?_
  refine q_icmp_ne (tgt := 28) hx hb dJ0_getBytes_840e7_5 (by decide) (by omega) (fun c_5 => absurd c_5 (by omega)) (fun c_5 => ?_)
  refine lv_aload_n hx hb dJ0_getBytes_840e7_8 rfl (lv_at hl 0 rfl) ?_
  refine vk_getf hx hb ((hZ.2.2.1 i hi).1 0 (by decide)).2.2.1 hw.2.2 hown (hts _ fl_J0_9) (fun _ h => h) dJ0_getBytes_840e7_9 ?_
  refine q_iconst hx hb dJ0_getBytes_840e7_12 ?_
  refine lv_aload_n hx hb dJ0_getBytes_840e7_13 rfl (lv_at hl 1 rfl) ?_
  refine lv_iload_n hx hb dJ0_getBytes_840e7_14 rfl (lv_at hl 2 rfl) ?_
  refine lv_iload_n hx hb dJ0_getBytes_840e7_15 rfl (lv_at hl 3 rfl) ?_
  refine q_ishl0 hx hb dJ0_getBytes_840e7_16 ?_
  refine lv_aload_n hx hb dJ0_getBytes_840e7_17 rfl (lv_at hl 0 rfl) ?_
  refine vk_getf hx hb ((hZ.2.2.1 i hi).1 0 (by decide)).2.2.1 hw.2.2 hown (hts _ fl_J0_9) (fun _ h => h) dJ0_getBytes_840e7_18 ?_
  refine va_tlen hx hb ((hZ.2.2.1 i hi).1 0 (by decide)).2.2.2 hw.2.2 (v := iI ((txL i).length : Int)) rfl dJ0_getBytes_840e7_21 ?_
  refine q_lcopy (L := txL i) hx hb hml hl.1 hown hts ml_J0_212 hK hw ((hZ.2.2.1 i hi).1 0 (by decide)).2.2.2 (zz_tx i hi).2 0 rfl rfl rfl (by omega) (by rw [hR]; decide) (by rw [hR]; decide) dJ0_getBytes_840e7_22 (fun H locs hw => ?_)
  have hw : qw D A s.heap [(v, .inl (cB, cap, .inl (ai (lay (txL i) f off))))] H locs := hw
  refine lv_goto (tgt := 43) hx hb dJ0_getBytes_840e7_25 (by decide) ?_
  refine W_wide (k := 0) (n := 0) (by omega) (by omega) ?_
  exact hret () H locs 43 ls trivial hw dJ0_getBytes_840e7_43

set_option maxHeartbeats 4000000 in
set_option maxRecDepth 100000 in
theorem c_J5_putString (hi : i < 16) (hcap : cap ≤ 1402) (h1 : 0 ≤ off ∧ off + ((txL i).length : Int) ≤ (cap : Int)) : qH l (ZB z) D (tyG cI cB cZ cS cJ) yJ5_putStringAt_47b60 (.code yJ5_putStringAt_47b60 cJ5_putStringAt_47b60 3 (Option.none) :: gW) 2 83 0 0 [.ref b, .int (iI off), .ref (z (10 + i))] [(b, .inr (7, [.ref v, .int (iI 0), .int (iI 0), .int (iI n)])), (v, .inl (cB, cap, .inl (ai f)))] (fun u : Unit => True) (fun _ => none) (fun u => [(b, .inr (7, [.ref v, .int (iI 0), .int (iI 0), .int (iI n)])), (v, .inl (cB, cap, .inl (ai (lay (txL i) f off))))]) := by
  have htl := (zz_tx i hi).1
  refine qH_enterC (by decide) (Nat.le_of_ble_eq_true rfl) (fun p e R s m args below meth c Q ls A X hR hA hw hB hl _ hret => ?_)
  obtain ⟨hx, hb, hml, hown, hts, hK⟩ := X
  have hl : lv_has ls 3 [(0, .ref b), (1, .int (iI off)), (2, .ref (z (10 + i)))] := hl
  have hZ := hB.1.1.1
  suffices K : ∀ (H : Heap) (locs : List Loc), qw D A s.heap [(b, .inr (7, [.ref v, .int (iI 0), .int (iI 0), .int (iI n)])), (v, .inl (cB, cap, .inl (ai f)))] H locs → W p l e R s m args below meth c H locs 0 0 Q (F0 m 0 ls []) from K s.heap [] hw
  clear hw
  intro H locs hw
  refine lv_aload_n hx hb dJ5_putStringAt_47b60_0 rfl (lv_at hl 0 rfl) ?_
  refine lv_aload_n hx hb dJ5_putStringAt_47b60_1 rfl (lv_at hl 2 rfl) ?_
  have hw : qw D A s.heap ([(b, .inr (7, [.ref v, .int (iI 0), .int (iI 0), .int (iI n)]))] ++ [(v, .inl (cB, cap, .inl (ai f)))]) H locs := hw
  refine q_callU (As := [.ref (z (10 + i))]) (rest := []) (zb_ok z) hx hb hml hown hts hK (c_J5_inflateIf hi) yv_J5_inflateIfNeededFor_a7421 yv_J5_inflateIfNeededFor_a7421.1 im_J5_inflateIfNeededFor_a7421 yv_J5_inflateIfNeededFor_a7421.2.2 sm_J5_inflateIfNeededFor_a7421 sv_3 im_J5_inflateIfNeededFor_a7421 ml_J5_397 (by rw [hR]; decide) hw hA hB 0 rfl rfl rfl hl.1 (lv_room (Nat.le_of_ble_eq_true rfl)) dJ5_putStringAt_47b60_2 (by rw [hR]; exact ⟨by show _ ≤ (0 : Nat); omega, by show _ ≤ (0 : Nat); omega⟩) (fun u_2 H locs hu_2 hw => ?_)
  have hw : qw D A s.heap [(b, .inr (7, [.ref v, .int (iI 0), .int (iI 0), .int (iI n)])), (v, .inl (cB, cap, .inl (ai f)))] H locs := hw
  refine lv_aload_n hx hb dJ5_putStringAt_47b60_5 rfl (lv_at hl 2 rfl) ?_
  refine lv_aload_n hx hb dJ5_putStringAt_47b60_6 rfl (lv_at hl 0 rfl) ?_
  refine q_get hx hb hts hown hK hw.1 ci_X7 0 rfl 0 (by decide) fl_J5_15 rfl dJ5_putStringAt_47b60_7 ?_
  refine lv_iload_n hx hb dJ5_putStringAt_47b60_10 rfl (lv_at hl 1 rfl) ?_
  refine lv_aload_n hx hb dJ5_putStringAt_47b60_11 rfl (lv_at hl 0 rfl) ?_
  refine q_get hx hb hts hown hK hw.1 ci_X7 0 rfl 1 (by decide) fl_J5_22 rfl dJ5_putStringAt_47b60_12 ?_
  have hw : qw D A s.heap ([(v, .inl (cB, cap, .inl (ai f)))] ++ [(b, .inr (7, [.ref v, .int (iI 0), .int (iI 0), .int (iI n)]))]) H locs := (hw.sub [1, 0] (by decide) rfl)
  refine q_callHX (As := [.ref v, .int (iI off), .int (iI 0)]) (rest := []) (zb_ok z) hx hb hml hown hts hK (c_J0_getBytes hi hcap h1) yi_J0_getBytes_840e7 ml_J5_399 (by rw [hR]; decide) hw hA hB (vk_recv (i := 0) (hZ.2.2.1 i hi) (by decide) hw.2.2) rfl rfl hl.1 (lv_room (Nat.le_of_ble_eq_true rfl)) dJ5_putStringAt_47b60_15 (by rw [hR]; exact ⟨by show _ ≤ (0 : Nat); omega, by show _ ≤ (0 : Nat); omega⟩) (fun u_15 H locs hu_15 hw => ?_)
  have hw : qw D A s.heap [(v, .inl (cB, cap, .inl (ai (lay (txL i) f off)))), (b, .inr (7, [.ref v, .int (iI 0), .int (iI 0), .int (iI n)]))] H locs := hw
  have hw : qw D A s.heap [(b, .inr (7, [.ref v, .int (iI 0), .int (iI 0), .int (iI n)])), (v, .inl (cB, cap, .inl (ai (lay (txL i) f off))))] H locs := hw.sub [1, 0] (by decide) rfl
  refine W_wide (k := 0) (n := 0) (by omega) (by omega) ?_
  exact hret () H locs 18 ls trivial hw dJ5_putStringAt_47b60_18

set_option maxHeartbeats 4000000 in
set_option maxRecDepth 100000 in
theorem c_J5_appS (hi : i < 16) (hcap : cap ≤ 1402) (hn : 0 ≤ n ∧ n ≤ (cap : Int)) (hr : n + ((txL i).length : Int) ≤ 700) (hf : by8 f) : qH l (ZB z) D (tyG cI cB cZ cS cJ) yJ5_append_cf1ce (.code yJ5_append_cf1ce cJ5_append_cf1ce 3 (Option.some (FieldType.object "java/lang/AbstractStringBuilder")) :: gW) 4 105 1 1402 [.ref b, .ref (z (10 + i))] [(b, .inr (7, [.ref v, .int (iI 0), .int (iI 0), .int (iI n)])), (v, .inl (cB, cap, .inl (ai f)))] (fun u : Nat × Nat × (Int → Int) => grF n f u.2.1 u.2.2 (txL i)) (fun u => some (.ref (b))) (fun u => [(b, .inr (7, [.ref u.1, .int (iI 0), .int (iI 0), .int (iI (n + ((txL i).length : Int)))])), (u.1, .inl (cB, u.2.1, .inl (ai u.2.2)))]) := by
  have htl := (zz_tx i hi).1
  refine qH_enterR (ad := fun u => b) (by decide) (Nat.le_of_ble_eq_true rfl) (Or.inl ⟨_, rfl⟩) (fun u hu => rfl) (fun p e R s m args below meth c Q ls A X hR hA hw hB hl hret => ?_)
  obtain ⟨hx, hb, hml, hown, hts, hK⟩ := X
  have hl : lv_has ls 3 [(0, .ref b), (1, .ref (z (10 + i)))] := hl
  have hZ := hB.1.1.1
  suffices K : ∀ (H : Heap) (locs : List Loc), qw D A s.heap [(b, .inr (7, [.ref v, .int (iI 0), .int (iI 0), .int (iI n)])), (v, .inl (cB, cap, .inl (ai f)))] H locs → W p l e R s m args below meth c H locs 0 0 Q (F0 m 0 ls []) from K s.heap [] hw
  clear hw
  intro H locs hw
  refine lv_aload_n hx hb dJ5_append_cf1ce_0 rfl (lv_at hl 1 rfl) ?_
  refine lv_ifnonnull (tgt := 9) hx hb dJ5_append_cf1ce_1 (by decide) ?_
  refine lv_aload_n hx hb dJ5_append_cf1ce_9 rfl (lv_at hl 1 rfl) ?_
  refine q_callPzX (As := []) (rest := []) (zz_ok z) hx hb hml hown hts hK (c_J0_length (zz_S z i hi)) yi_J0_length_8abf5 ml_J5_32 (by rw [hR]; decide) P_nil (z_M (zz_ok z) hZ hw hA [] rfl) (vk_recv (i := 0) (hZ.2.2.1 i hi) (by decide) hw.2.2) rfl rfl hl.1 (lv_room (Nat.le_of_ble_eq_true rfl)) dJ5_append_cf1ce_10 (by rw [hR]; exact ⟨by show _ ≤ (1 : Nat); omega, by show _ ≤ (1402 : Nat); omega⟩) ?_
  refine lv_istore_n (lv' := [(2, .int (iI ((txL i).length : Int))), (0, .ref b), (1, .ref (z (10 + i)))]) hx hb dJ5_append_cf1ce_13 rfl hl (by decide) rfl (fun ls hl => ?_)
  refine lv_aload_n hx hb dJ5_append_cf1ce_14 rfl (lv_at hl 1 rfl) ?_
  refine lv_aload_n hx hb dJ5_append_cf1ce_15 rfl (lv_at hl 1 rfl) ?_
  refine q_get hx hb hts hown hK hw.1 ci_X7 0 rfl 3 (by decide) fl_J5_79 rfl dJ5_append_cf1ce_16 ?_
  refine lv_iload_n hx hb dJ5_append_cf1ce_19 rfl (lv_at hl 0 rfl) ?_
  refine q_iadd hx hb dJ5_append_cf1ce_20 ?_
  have hw : qw D A s.heap ([(b, .inr (7, [.ref v, .int (iI 0), .int (iI 0), .int (iI n)])), (v, .inl (cB, cap, .inl (ai f)))] ++ []) H locs := hw
  refine q_callU (As := [.int (iI (n + ((txL i).length : Int)))]) (rest := []) (zb_ok z) hx hb hml hown hts hK (c_J5_ensureCap (n := n) hcap (by omega) hf) yv_J5_ensureCapacityInternal_d00df yv_J5_ensureCapacityInternal_d00df.1 im_J5_ensureCapacityInternal_d00df yv_J5_ensureCapacityInternal_d00df.2.2 sm_J5_ensureCapacityInternal_d00df sv_0 im_J5_ensureCapacityInternal_d00df ml_J5_100 (by rw [hR]; decide) hw hA hB 0 rfl rfl rfl hl.1 (lv_room (Nat.le_of_ble_eq_true rfl)) dJ5_append_cf1ce_21 (by rw [hR]; exact ⟨by show _ ≤ (1 : Nat); omega, by show _ ≤ (1402 : Nat); omega⟩) (fun u_21 H locs hu_21 hw => ?_)
  obtain ⟨v1, cap1, f1⟩ := u_21
  obtain ⟨k1, k2, k3, k4, k5⟩ := hu_21
  have hw : qw D A s.heap [(b, .inr (7, [.ref v1, .int (iI 0), .int (iI 0), .int (iI n)])), (v1, .inl (cB, cap1, .inl (ai f1)))] H locs := hw
  refine lv_aload_n hx hb dJ5_append_cf1ce_24 rfl (lv_at hl 1 rfl) ?_
  refine lv_aload_n hx hb dJ5_append_cf1ce_25 rfl (lv_at hl 1 rfl) ?_
  refine q_get hx hb hts hown hK hw.1 ci_X7 0 rfl 3 (by decide) fl_J5_79 rfl dJ5_append_cf1ce_26 ?_
  refine lv_aload_n hx hb dJ5_append_cf1ce_29 rfl (lv_at hl 2 rfl) ?_
  have hw : qw D A s.heap ([(b, .inr (7, [.ref v1, .int (iI 0), .int (iI 0), .int (iI n)])), (v1, .inl (cB, cap1, .inl (ai f1)))] ++ []) H locs := hw
  refine q_callU (As := [.int (iI n), .ref (z (10 + i))]) (rest := []) (zb_ok z) hx hb hml hown hts hK (c_J5_putString (n := n) hi k2 ⟨hn.1, k1⟩) yv_J5_putStringAt_47b60 yv_J5_putStringAt_47b60.1 im_J5_putStringAt_47b60 yv_J5_putStringAt_47b60.2.2 sm_J5_putStringAt_47b60 sv_2 im_J5_putStringAt_47b60 ml_J5_208 (by rw [hR]; decide) hw hA hB 0 rfl rfl rfl hl.1 (lv_room (Nat.le_of_ble_eq_true rfl)) dJ5_append_cf1ce_30 (by rw [hR]; exact ⟨by show _ ≤ (1 : Nat); omega, by show _ ≤ (1402 : Nat); omega⟩) (fun u_30 H locs hu_30 hw => ?_)
  have hw : qw D A s.heap [(b, .inr (7, [.ref v1, .int (iI 0), .int (iI 0), .int (iI n)])), (v1, .inl (cB, cap1, .inl (ai (lay (txL i) f1 n))))] H locs := hw
  refine lv_aload_n hx hb dJ5_append_cf1ce_33 rfl (lv_at hl 1 rfl) ?_
  refine lv_dup hx hb dJ5_append_cf1ce_34 rfl ?_
  refine q_get hx hb hts hown hK hw.1 ci_X7 0 rfl 3 (by decide) fl_J5_79 rfl dJ5_append_cf1ce_35 ?_
  refine lv_iload_n hx hb dJ5_append_cf1ce_38 rfl (lv_at hl 0 rfl) ?_
  refine q_iadd hx hb dJ5_append_cf1ce_39 ?_
  refine q_put hx hb hts hown hK hw ci_X7 0 rfl 3 (by decide) fl_J5_79 rfl rfl rfl (Nat.le_of_ble_eq_true rfl) dJ5_append_cf1ce_40 (fun H locs hw => ?_)
  have hw : qw D A s.heap [(b, .inr (7, [.ref v1, .int (iI 0), .int (iI 0), .int (iI (n + ((txL i).length : Int)))])), (v1, .inl (cB, cap1, .inl (ai (lay (txL i) f1 n))))] H locs := hw
  refine lv_aload_n hx hb dJ5_append_cf1ce_43 rfl (lv_at hl 1 rfl) ?_
  refine W_wide (k := 1) (n := 1402) (by omega) (by omega) ?_
  exact hret (v1, cap1, lay (txL i) f1 n) H locs 44 ls (show grF n f cap1 (lay (txL i) f1 n) (txL i) from ⟨k1, k2, fun j h0 hj => (lay_b hj).trans (k4 j h0 (by omega)), fun k hk => lay_i hk, by8_lay k5 (zz_tx i hi).2⟩) hw dJ5_append_cf1ce_44

set_option maxHeartbeats 4000000 in
set_option maxRecDepth 100000 in
theorem c_J4_appS (hi : i < 16) (hcap : cap ≤ 1402) (hn : 0 ≤ n ∧ n ≤ (cap : Int)) (hr : n + ((txL i).length : Int) ≤ 700) (hf : by8 f) : qH l (ZB z) D (tyG cI cB cZ cS cJ) yJ4_append_15ec4 (.code yJ4_append_15ec4 cJ4_append_15ec4 2 (Option.some (FieldType.object "java/lang/StringBuilder")) :: gW) 5 127 1 1402 [.ref b, .ref (z (10 + i))] [(b, .inr (7, [.ref v, .int (iI 0), .int (iI 0), .int (iI n)])), (v, .inl (cB, cap, .inl (ai f)))] (fun u : Nat × Nat × (Int → Int) => grF n f u.2.1 u.2.2 (txL i)) (fun u => some (.ref (b))) (fun u => [(b, .inr (7, [.ref u.1, .int (iI 0), .int (iI 0), .int (iI (n + ((txL i).length : Int)))])), (u.1, .inl (cB, u.2.1, .inl (ai u.2.2)))]) := by
  have htl := (zz_tx i hi).1
  refine qH_enterR (ad := fun u => b) (by decide) (Nat.le_of_ble_eq_true rfl) (Or.inl ⟨_, rfl⟩) (fun u hu => rfl) (fun p e R s m args below meth c Q ls A X hR hA hw hB hl hret => ?_)
  obtain ⟨hx, hb, hml, hown, hts, hK⟩ := X
  have hl : lv_has ls 2 [(0, .ref b), (1, .ref (z (10 + i)))] := hl
  have hZ := hB.1.1.1
  suffices K : ∀ (H : Heap) (locs : List Loc), qw D A s.heap [(b, .inr (7, [.ref v, .int (iI 0), .int (iI 0), .int (iI n)])), (v, .inl (cB, cap, .inl (ai f)))] H locs → W p l e R s m args below meth c H locs 0 0 Q (F0 m 0 ls []) from K s.heap [] hw
  clear hw
  intro H locs hw
  refine lv_aload_n hx hb dJ4_append_15ec4_0 rfl (lv_at hl 0 rfl) ?_
  refine lv_aload_n hx hb dJ4_append_15ec4_1 rfl (lv_at hl 1 rfl) ?_
  have hw : qw D A s.heap ([(b, .inr (7, [.ref v, .int (iI 0), .int (iI 0), .int (iI n)])), (v, .inl (cB, cap, .inl (ai f)))] ++ []) H locs := hw
  refine q_callX (As := [.ref (z (10 + i))]) (rest := []) (zb_ok z) hx hb hml hown hts hK (c_J5_appS hi hcap hn hr hf) yv_J5_append_cf1ce sm_J5_append_cf1ce sp_J4 im_J5_append_cf1ce (by decide) ml_J4_29 (by rw [hR]; decide) hw hA hB 0 rfl rfl rfl hl.1 (lv_room (Nat.le_of_ble_eq_true rfl)) dJ4_append_15ec4_2 (by rw [hR]; exact ⟨by show _ ≤ (1 : Nat); omega, by show _ ≤ (1402 : Nat); omega⟩) (fun u_2 H locs hu_2 hw => ?_)
  obtain ⟨v1, cap1, f1⟩ := u_2
  have hw : qw D A s.heap [(b, .inr (7, [.ref v1, .int (iI 0), .int (iI 0), .int (iI (n + ((txL i).length : Int)))])), (v1, .inl (cB, cap1, .inl (ai f1)))] H locs := hw
  refine lv_pop hx hb dJ4_append_15ec4_5 rfl ?_
  refine lv_aload_n hx hb dJ4_append_15ec4_6 rfl (lv_at hl 0 rfl) ?_
  refine W_wide (k := 1) (n := 1402) (by omega) (by omega) ?_
  exact hret (v1, cap1, f1) H locs 7 ls hu_2 hw dJ4_append_15ec4_7

set_option maxHeartbeats 4000000 in
set_option maxRecDepth 100000 in
theorem c_J4_appB (hi : i < 16) (hcap : cap ≤ 1402) (hn : 0 ≤ n ∧ n ≤ (cap : Int)) (hr : n + ((txL i).length : Int) ≤ 700) (hf : by8 f) : qH l (ZB z) D (tyG cI cB cZ cS cJ) yJ4_append_cf1ce (.code yJ4_append_cf1ce cJ4_append_cf1ce 2 (Option.some (FieldType.object "java/lang/AbstractStringBuilder")) :: gW) 6 148 1 1402 [.ref b, .ref (z (10 + i))] [(b, .inr (7, [.ref v, .int (iI 0), .int (iI 0), .int (iI n)])), (v, .inl (cB, cap, .inl (ai f)))] (fun u : Nat × Nat × (Int → Int) => grF n f u.2.1 u.2.2 (txL i)) (fun u => some (.ref (b))) (fun u => [(b, .inr (7, [.ref u.1, .int (iI 0), .int (iI 0), .int (iI (n + ((txL i).length : Int)))])), (u.1, .inl (cB, u.2.1, .inl (ai u.2.2)))]) := by
  have htl := (zz_tx i hi).1
  refine qH_enterR (ad := fun u => b) (by decide) (Nat.le_of_ble_eq_true rfl) (Or.inl ⟨_, rfl⟩) (fun u hu => rfl) (fun p e R s m args below meth c Q ls A X hR hA hw hB hl hret => ?_)
  obtain ⟨hx, hb, hml, hown, hts, hK⟩ := X
  have hl : lv_has ls 2 [(0, .ref b), (1, .ref (z (10 + i)))] := hl
  have hZ := hB.1.1.1
  suffices K : ∀ (H : Heap) (locs : List Loc), qw D A s.heap [(b, .inr (7, [.ref v, .int (iI 0), .int (iI 0), .int (iI n)])), (v, .inl (cB, cap, .inl (ai f)))] H locs → W p l e R s m args below meth c H locs 0 0 Q (F0 m 0 ls []) from K s.heap [] hw
  clear hw
  intro H locs hw
  refine lv_aload_n hx hb dJ4_append_cf1ce_0 rfl (lv_at hl 0 rfl) ?_
  refine lv_aload_n hx hb dJ4_append_cf1ce_1 rfl (lv_at hl 1 rfl) ?_
  have hw : qw D A s.heap ([(b, .inr (7, [.ref v, .int (iI 0), .int (iI 0), .int (iI n)])), (v, .inl (cB, cap, .inl (ai f)))] ++ []) H locs := hw
  refine q_callH (As := [.ref (z (10 + i))]) (rest := []) (zb_ok z) hx hb hml hown hts hK (c_J4_appS hi hcap hn hr hf) yi_J4_append_15ec4 ml_J4_23 (by rw [hR]; decide) hw hA hB 0 (ci := 7) (T := TJ4) (N := 4) rfl rfl rfl rfl hl.1 (lv_room (Nat.le_of_ble_eq_true rfl)) dJ4_append_cf1ce_2 (by rw [hR]; exact ⟨by show _ ≤ (1 : Nat); omega, by show _ ≤ (1402 : Nat); omega⟩) (fun u_2 H locs hu_2 hw => ?_)
  obtain ⟨v1, cap1, f1⟩ := u_2
  have hw : qw D A s.heap [(b, .inr (7, [.ref v1, .int (iI 0), .int (iI 0), .int (iI (n + ((txL i).length : Int)))])), (v1, .inl (cB, cap1, .inl (ai f1)))] H locs := hw
  refine W_wide (k := 1) (n := 1402) (by omega) (by omega) ?_
  exact hret (v1, cap1, f1) H locs 5 ls hu_2 hw dJ4_append_cf1ce_5

set_option maxHeartbeats 4000000 in
set_option maxRecDepth 100000 in
theorem c_J5_init (hi : i < 16) : qH l (ZB z) D (tyG cI cB cZ cS cJ) yJ5_init_a7421 (.code yJ5_init_a7421 cJ5_init_a7421 5 (Option.none) :: gW) 7 169 2 1600 [.ref b, .ref (z (10 + i))] [(b, .inr (7, [.null, .int (iI 0), .int (iI 0), .int (iI 0)]))] (fun u : Nat × Nat × (Int → Int) => grF 0 (fun _ => 0) u.2.1 u.2.2 (txL i)) (fun _ => none) (fun u => [(b, .inr (7, [.ref u.1, .int (iI 0), .int (iI 0), .int (iI (0 + ((txL i).length : Int)))])), (u.1, .inl (cB, u.2.1, .inl (ai u.2.2)))]) := by
  have htl := (zz_tx i hi).1
  refine qH_enterC (by decide) (Nat.le_of_ble_eq_true rfl) (fun p e R s m args below meth c Q ls A X hR hA hw hB hl _ hret => ?_)
  obtain ⟨hx, hb, hml, hown, hts, hK⟩ := X
  have hl : lv_has ls 5 [(0, .ref b), (1, .ref (z (10 + i)))] := hl
  have hZ := hB.1.1.1
  suffices K : ∀ (H : Heap) (locs : List Loc), qw D A s.heap [(b, .inr (7, [.null, .int (iI 0), .int (iI 0), .int (iI 0)]))] H locs → W p l e R s m args below meth c H locs 0 0 Q (F0 m 0 ls []) from K s.heap [] hw
  clear hw
  intro H locs hw
  refine lv_aload_n hx hb dJ5_init_a7421_0 rfl (lv_at hl 0 rfl) ?_
  refine q_objI hx hb hml hown hts ml_J5_3 hl.1 (lv_room (Nat.le_of_ble_eq_true rfl)) dJ5_init_a7421_1 (by rw [hR]; exact ⟨Nat.le_of_ble_eq_true rfl, Nat.le_of_ble_eq_true rfl⟩) ?_
  refine lv_aload_n hx hb dJ5_init_a7421_4 rfl (lv_at hl 1 rfl) ?_
  refine q_callPzX (As := []) (rest := []) (zz_ok z) hx hb hml hown hts hK (c_J0_length (zz_S z i hi)) yi_J0_length_8abf5 ml_J5_32 (by rw [hR]; decide) P_nil (z_M (zz_ok z) hZ hw hA [] rfl) (vk_recv (i := 0) (hZ.2.2.1 i hi) (by decide) hw.2.2) rfl rfl hl.1 (lv_room (Nat.le_of_ble_eq_true rfl)) dJ5_init_a7421_5 (by rw [hR]; exact ⟨by show _ ≤ (2 : Nat); omega, by show _ ≤ (1600 : Nat); omega⟩) ?_
  refine lv_istore_n (lv' := [(2, .int (iI ((txL i).length : Int))), (0, .ref b), (1, .ref (z (10 + i)))]) hx hb dJ5_init_a7421_8 rfl hl (by decide) rfl (fun ls hl => ?_)
  refine lv_iload_n hx hb dJ5_init_a7421_9 rfl (lv_at hl 0 rfl) ?_
  refine q_ldc (z := 2147483631) hx hb hown hts kc_J5_38 (by decide) dJ5_init_a7421_10 ?_
  refine q_icmp_ge (tgt := 22) hx hb dJ5_init_a7421_12 (by decide) (by omega) (fun c_12 => absurd c_12 (by omega)) (fun c_12 => ?_)
  refine lv_iload_n hx hb dJ5_init_a7421_15 rfl (lv_at hl 0 rfl) ?_
  refine q_bipush hx hb dJ5_init_a7421_16 rfl ?_
  refine q_iadd hx hb dJ5_init_a7421_18 ?_
  refine lv_goto (tgt := 24) hx hb dJ5_init_a7421_19 (by decide) ?_
  refine lv_istore_n (lv' := [(3, .int (iI (((txL i).length : Int) + 16))), (2, .int (iI ((txL i).length : Int))), (0, .ref b), (1, .ref (z (10 + i)))]) hx hb dJ5_init_a7421_24 rfl hl (by decide) rfl (fun ls hl => ?_)
  refine lv_aload_n hx hb dJ5_init_a7421_25 rfl (lv_at hl 3 rfl) ?_
  refine q_callPzX (As := []) (rest := []) (zz_ok z) hx hb hml hown hts hK (c_J0_coder1 (zz_S z i hi)) yi_J0_coder_7d493 ml_J5_40 (by rw [hR]; decide) P_nil (z_M (zz_ok z) hZ hw hA [] rfl) (vk_recv (i := 0) (hZ.2.2.1 i hi) (by decide) hw.2.2) rfl rfl hl.1 (lv_room (Nat.le_of_ble_eq_true rfl)) dJ5_init_a7421_26 (by rw [hR]; exact ⟨by show _ ≤ (2 : Nat); omega, by show _ ≤ (1600 : Nat); omega⟩) ?_
  refine lv_istore (lv' := [(4, .int (iI 0)), (3, .int (iI (((txL i).length : Int) + 16))), (2, .int (iI ((txL i).length : Int))), (0, .ref b), (1, .ref (z (10 + i)))]) hx hb dJ5_init_a7421_29 hl (by decide) rfl (fun ls hl => ?_)
  refine lv_aload_n hx hb dJ5_init_a7421_31 rfl (lv_at hl 3 rfl) ?_
  refine lv_iload hx hb dJ5_init_a7421_32 (lv_at hl 0 rfl) ?_
  refine q_put hx hb hts hown hK hw ci_X7 0 rfl 1 (by decide) fl_J5_22 rfl rfl rfl (Nat.le_of_ble_eq_true rfl) dJ5_init_a7421_34 (fun H locs hw => ?_)
  have hw : qw D A s.heap [(b, .inr (7, [.null, .int (iI 0), .int (iI 0), .int (iI 0)]))] H locs := hw
  refine lv_aload_n hx hb dJ5_init_a7421_37 rfl (lv_at hl 3 rfl) ?_
  refine lv_iload hx hb dJ5_init_a7421_38 (lv_at hl 0 rfl) ?_
  refine q_if_ne (tgt := 49) hx hb dJ5_init_a7421_40 (by decide) (by omega) (fun c_40 => absurd c_40 (by omega)) (fun c_40 => ?_)
  refine lv_iload_n hx hb dJ5_init_a7421_43 rfl (lv_at hl 1 rfl) ?_
  refine q_newA (at0 := .byte) (ft := .byte) (t0 := 1) (N := (txL i).length + 16) (cA0 := cB) (a0 := ((txL i).length + 16, .inl (ai (fun _ => 0)))) hx hb hts hK hw hA ac_byte rfl rfl rfl (by omega) (by show _ * 1 ≤ _; omega) (by rw [hR]; exact ⟨by show _ ≤ (2 : Nat); omega, by show _ ≤ (1600 : Nat); omega⟩) dJ5_init_a7421_44 (fun v H hw => ?_)
  have hw : qw D A s.heap [(b, .inr (7, [.null, .int (iI 0), .int (iI 0), .int (iI 0)])), (v, .inl (cB, ((txL i).length + 16), .inl (ai (fun _ => 0))))] H locs := hw
  refine lv_goto (tgt := 53) hx hb dJ5_init_a7421_46 (by decide) ?_
  refine q_put hx hb hts hown hK hw ci_X7 0 rfl 0 (by decide) fl_J5_15 rfl rfl rfl (Nat.le_of_ble_eq_true rfl) dJ5_init_a7421_53 (fun H locs hw => ?_)
  have hw : qw D A s.heap [(b, .inr (7, [.ref v, .int (iI 0), .int (iI 0), .int (iI 0)])), (v, .inl (cB, ((txL i).length + 16), .inl (ai (fun _ => 0))))] H locs := hw
  refine lv_aload_n hx hb dJ5_init_a7421_56 rfl (lv_at hl 3 rfl) ?_
  refine lv_aload_n hx hb dJ5_init_a7421_57 rfl (lv_at hl 4 rfl) ?_
  have hw : qw D A s.heap ([(b, .inr (7, [.ref v, .int (iI 0), .int (iI 0), .int (iI 0)])), (v, .inl (cB, ((txL i).length + 16), .inl (ai (fun _ => 0))))] ++ []) H locs := hw
  refine q_callU (As := [.ref (z (10 + i))]) (rest := []) (zb_ok z) hx hb hml hown hts hK (c_J4_appB (n := 0) hi (by omega) (by omega) (by omega) by8_0) yv_J4_append_cf1ce yv_J5_append_cf1ce.1 im_J5_append_cf1ce yv_J5_append_cf1ce.2.2 sm_J5_append_cf1ce su_J5_append_cf1ce im_J4_append_cf1ce ml_J5_43 (by rw [hR]; decide) hw hA hB 0 rfl rfl rfl hl.1 (lv_room (Nat.le_of_ble_eq_true rfl)) dJ5_init_a7421_58 (by rw [hR]; exact ⟨by show _ ≤ (2 : Nat); omega, by show _ ≤ (1600 : Nat); omega⟩) (fun u_58 H locs hu_58 hw => ?_)
  obtain ⟨v1, cap1, f1⟩ := u_58
  have hw : qw D A s.heap [(b, .inr (7, [.ref v1, .int (iI 0), .int (iI 0), .int (iI (0 + ((txL i).length : Int)))])), (v1, .inl (cB, cap1, .inl (ai f1)))] H locs := hw
  refine lv_pop hx hb dJ5_init_a7421_61 rfl ?_
  refine W_wide (k := 2) (n := 1600) (by omega) (by omega) ?_
  exact hret (v1, cap1, f1) H locs 62 ls hu_58 hw dJ5_init_a7421_62

set_option maxHeartbeats 4000000 in
set_option maxRecDepth 100000 in
theorem c_J4_init (hi : i < 16) : qH l (ZB z) D (tyG cI cB cZ cS cJ) yJ4_init_a7421 (.code yJ4_init_a7421 cJ4_init_a7421 2 (Option.none) :: gW) 8 193 2 1600 [.ref b, .ref (z (10 + i))] [(b, .inr (7, [.null, .int (iI 0), .int (iI 0), .int (iI 0)]))] (fun u : Nat × Nat × (Int → Int) => grF 0 (fun _ => 0) u.2.1 u.2.2 (txL i)) (fun _ => none) (fun u => [(b, .inr (7, [.ref u.1, .int (iI 0), .int (iI 0), .int (iI (0 + ((txL i).length : Int)))])), (u.1, .inl (cB, u.2.1, .inl (ai u.2.2)))]) := by
  have htl := (zz_tx i hi).1
  refine qH_enterC (by decide) (Nat.le_of_ble_eq_true rfl) (fun p e R s m args below meth c Q ls A X hR hA hw hB hl _ hret => ?_)
  obtain ⟨hx, hb, hml, hown, hts, hK⟩ := X
  have hl : lv_has ls 2 [(0, .ref b), (1, .ref (z (10 + i)))] := hl
  have hZ := hB.1.1.1
  suffices K : ∀ (H : Heap) (locs : List Loc), qw D A s.heap [(b, .inr (7, [.null, .int (iI 0), .int (iI 0), .int (iI 0)]))] H locs → W p l e R s m args below meth c H locs 0 0 Q (F0 m 0 ls []) from K s.heap [] hw
  clear hw
  intro H locs hw
  refine lv_aload_n hx hb dJ4_init_a7421_0 rfl (lv_at hl 0 rfl) ?_
  refine lv_aload_n hx hb dJ4_init_a7421_1 rfl (lv_at hl 1 rfl) ?_
  have hw : qw D A s.heap ([(b, .inr (7, [.null, .int (iI 0), .int (iI 0), .int (iI 0)]))] ++ []) H locs := hw
  refine q_callSN (As := [.ref (z (10 + i))]) (rest := []) (zb_ok z) hx hb hml hown hts hK (c_J5_init hi) yn_J5_init_a7421 ml_J4_7 (by rw [hR]; decide) hw hA hB rfl rfl hl.1 (lv_room (Nat.le_of_ble_eq_true rfl)) dJ4_init_a7421_2 (by rw [hR]; exact ⟨by show _ ≤ (2 : Nat); omega, by show _ ≤ (1600 : Nat); omega⟩) (fun u_2 H locs hu_2 hw => ?_)
  obtain ⟨v1, cap1, f1⟩ := u_2
  have hw : qw D A s.heap [(b, .inr (7, [.ref v1, .int (iI 0), .int (iI 0), .int (iI (0 + ((txL i).length : Int)))])), (v1, .inl (cB, cap1, .inl (ai f1)))] H locs := hw
  refine W_wide (k := 2) (n := 1600) (by omega) (by omega) ?_
  exact hret (v1, cap1, f1) H locs 5 ls hu_2 hw dJ4_init_a7421_5
end BLD
