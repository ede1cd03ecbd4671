/-! LITERALS: length and charAt of a word that nobody writes -/
def strO (q v : Nat) (L : List Int) (A : Nat → Prop) (U : State) (H : Heap) : Prop := vk_S 1 [L.length] [L.map iI] (fun _ => q) (fun _ => v) A U H
/-- what the methods of a literal want of Z -/
def zS (Z : ZT) (q v : Nat) (L : List Int) : Prop := zOk Z ∧ (∀ (A : Nat → Prop) (U : State) (H : Heap), Z A U H → strO q v L A U H) ∧ (∀ (A : Nat → Prop) (U : State) (H : Heap), Z A U H → va_Z "java/lang/String" "COMPACT_STRINGS" "Z" (.int 1) A U H) ∧ (∀ (A : Nat → Prop) (U : State) (H : Heap), Z A U H → va_Zq "jdk/internal/util/Preconditions" "SIOOBE_FORMATTER" "Ljava/util/function/BiFunction;" A U H) ∧ L.length ≤ 100 ∧ ∀ k : Nat, k < L.length → 0 ≤ L.getD k 0 ∧ L.getD k 0 < 128
theorem qPz_enterV {l : Launch} {Z : ZT} {D : va_G} {ty : List (ClassId × FieldType)} {y : MethodName} {b : ByteArray} {n fr lo : Nat} {av : List Value} {W0 : va_W} (hy : plainName y.cls = true) (hn : (lg_sl av).length ≤ n)
    (body : ∀ (p : Program) (e : Env) (R : Room) (s : State) (m : MethodId) (args : Array Value) (below : List Frame) (meth : Method) (c : Code) (Q : State → Prop) (ls : Array Slot), qX p s m args c b n y.cls D ty → R = ({ frames := fr, cells := 0, slots := 0, locals := lo } : Room) → va_P D vwCl W0 s.heap → Z (va_A W0 s.heap.size) s s.heap → lv_has ls n (lv_args 0 av) →
      (∀ (pc : Nat) (ls : Array Slot), decode b pc = .ok (.return_, 1) → W p l e R s m args below meth c s.heap [] 0 0 Q (F0 m pc ls [])) → W p l e R s m args below meth c s.heap [] 0 0 Q (F0 m 0 ls [])) :
    qPz l Z D ty y b n none fr lo av W0 none := by
  refine Met.ofW (cc := b) (maxL := n) (ret := none) hy rfl ?_
  intro p e s m args below meth c s₁ B hml hv
  obtain ⟨rfl, hP, hK, hZ⟩ := hv
  have hts := atoms_spec (ws := (.code y b n none :: gW)) B.pre
  rw [lg_entry_eq]
  have hlocks := B.notSynchronized
  have hr := B.returns
  exact body p e _ s m _ below meth c _ _ ⟨B.exec, B.bytes, hml, findClass_of_methodNamed B.named, fun w h => hts w (List.mem_cons_of_mem _ h), hK⟩ rfl hP hZ (lv_entry av hn) (fun pc ls hdg => W.vret B.exec B.bytes hr (fun t ht hW => ⟨rfl, ht⟩) (fun q hq => by cases hq) hdg)
theorem P_nil {D : va_G} {H : Heap} : va_P D vwCl [] H := fun k q h => by simp at h
theorem ch_32 : ∀ z : Int, 0 ≤ z → z < 128 → ((iI z &&& 255).toUInt32 % 65536).toInt32 = iI z := by
  intro z h1 h2
  rw [sc_c2, ub_32 z (by omega) h2]
  unfold ub
  rw [if_neg (by omega)]
theorem nar_c {z : Int} (h1 : 0 ≤ z) (h2 : z < 128) : narrow .char (.int (iI z)) = .int (iI z) := by
  have h : ∀ k : Nat, k < 128 → narrow .char (.int (iI (k : Int))) = .int (iI (k : Int)) := by decide +kernel
  have h3 := h z.toNat (by omega)
  rw [show ((z.toNat : Nat) : Int) = z by omega] at h3
  exact h3
theorem getD_iI {L : List Int} {k : Nat} (h : k < L.length) : (L.map iI).getD k 0 = iI (L.getD k 0) := by
  rw [List.getD_eq_getElem?_getD, List.getD_eq_getElem?_getD, List.getElem?_map, List.getElem?_eq_getElem h]
  rfl
section STRS
variable {l : Launch} {Z : ZT} {D : va_G} {ty : List (ClassId × FieldType)} {q v : Nat} {L : List Int}
set_option maxHeartbeats 4000000 in
theorem c_J0_coder (hz : zS Z q v L) : qPz l Z D ty yJ0_coder_7d493 cJ0_coder_7d493 1 (Option.some FieldType.byte) 0 0 [.ref q] [] (some (.int 0)) := by
  refine qPz_enter (by decide) (Nat.le_of_ble_eq_true rfl) rfl (fun p e R s m args below meth c Q ls X hR hP hZ hl hret => ?_)
  obtain ⟨hx, hb, hml, hown, hts, hK⟩ := X
  have hl : lv_has ls 1 [(0, .ref q)] := hl
  refine va_gets hx hb (hz.2.2.1 _ _ _ hZ) va_S.rf hown (hts _ fl_J0_38) (fun _ h => h) dJ0_coder_7d493_0 ?_
  refine lv_if_eq (tgt := 13) hx hb dJ0_coder_7d493_3 (by decide) (fun z => absurd z (by decide)) (fun _ => ?_)
  refine lv_aload_n hx hb dJ0_coder_7d493_6 rfl (lv_at hl 0 rfl) ?_
  refine vk_getf hx hb ((hz.2.1 _ _ _ hZ).1 0 (by decide)).2.1 va_S.rf hown (hts _ fl_J0_15) (fun _ h => h) dJ0_coder_7d493_7 ?_
  refine lv_goto (tgt := 14) hx hb dJ0_coder_7d493_10 (by decide) ?_
  exact hret 14 ls dJ0_coder_7d493_14
set_option maxHeartbeats 4000000 in
theorem c_J0_length (hz : zS Z q v L) : qPz l Z D ty yJ0_length_8abf5 cJ0_length_8abf5 1 (Option.some FieldType.int) 1 20 [.ref q] [] (some (.int (iI (L.length : Int)))) := by
  refine qPz_enter (by decide) (Nat.le_of_ble_eq_true rfl) rfl (fun p e R s m args below meth c Q ls X hR hP hZ hl hret => ?_)
  obtain ⟨hx, hb, hml, hown, hts, hK⟩ := X
  have hl : lv_has ls 1 [(0, .ref q)] := hl
  have hS := hz.2.1 _ _ _ hZ
  refine lv_aload_n hx hb dJ0_length_8abf5_0 rfl (lv_at hl 0 rfl) ?_
  refine vk_getf hx hb (hS.1 0 (by decide)).2.2.1 va_S.rf hown (hts _ fl_J0_9) (fun _ h => h) dJ0_length_8abf5_1 ?_
  refine va_tlen hx hb (hS.1 0 (by decide)).2.2.2 va_S.rf (v := nI L.length) rfl dJ0_length_8abf5_4 ?_
  refine lv_aload_n hx hb dJ0_length_8abf5_5 rfl (lv_at hl 0 rfl) ?_
  refine q_callPzX (As := []) (rest := [.int (nI L.length)]) hz.1 hx hb hml hown hts hK (c_J0_coder hz) yi_J0_coder_7d493 ml_J0_335 (by rw [hR]; decide) P_nil hZ (vk_recv (i := 0) hS (by decide) va_S.rf) rfl rfl hl.1 (lv_room (Nat.le_of_ble_eq_true rfl)) dJ0_length_8abf5_6 ⟨by rw [hR]; exact Nat.zero_le _, by rw [hR]; exact Nat.zero_le _⟩ ?_
  refine lv_ishr hx hb dJ0_length_8abf5_9 ?_
  rw [sc_shr0 (by have := hz.2.2.2.2.1; omega)]
  exact hret 10 ls dJ0_length_8abf5_10
set_option maxHeartbeats 4000000 in
theorem c_J0_isLatin1 (hz : zS Z q v L) : qPz l Z D ty yJ0_isLatin1_aae02 cJ0_isLatin1_aae02 1 (Option.some FieldType.boolean) 0 0 [.ref q] [] (some (.int 1)) := by
  refine qPz_enter (by decide) (Nat.le_of_ble_eq_true rfl) rfl (fun p e R s m args below meth c Q ls X hR hP hZ hl hret => ?_)
  obtain ⟨hx, hb, hml, hown, hts, hK⟩ := X
  have hl : lv_has ls 1 [(0, .ref q)] := hl
  refine va_gets hx hb (hz.2.2.1 _ _ _ hZ) va_S.rf hown (hts _ fl_J0_38) (fun _ h => h) dJ0_isLatin1_aae02_0 ?_
  refine lv_if_eq (tgt := 17) hx hb dJ0_isLatin1_aae02_3 (by decide) (fun z => absurd z (by decide)) (fun _ => ?_)
  refine lv_aload_n hx hb dJ0_isLatin1_aae02_6 rfl (lv_at hl 0 rfl) ?_
  refine vk_getf hx hb ((hz.2.1 _ _ _ hZ).1 0 (by decide)).2.1 va_S.rf hown (hts _ fl_J0_15) (fun _ h => h) dJ0_isLatin1_aae02_7 ?_
  refine lv_if_ne (tgt := 17) hx hb dJ0_isLatin1_aae02_10 (by decide) (fun z => absurd rfl z) (fun _ => ?_)
  refine q_iconst hx hb dJ0_isLatin1_aae02_13 ?_
  refine lv_goto (tgt := 18) hx hb dJ0_isLatin1_aae02_14 (by decide) ?_
  exact hret 18 ls dJ0_isLatin1_aae02_18
set_option maxHeartbeats 4000000 in
theorem c_J3_checkIndex {a b : Int} {w : Value} (hw : w = .null ∨ ∃ t, w = .ref t) (h : 0 ≤ a ∧ a < b ∧ b < 1000) : qPz l Z D ty yJ3_checkIndex_8e157 cJ3_checkIndex_8e157 3 (Option.some FieldType.int) 0 0 [.int (iI a), .int (iI b), w] [] (some (.int (iI a))) := by
  rcases hw with rfl | ⟨t, rfl⟩
  · refine qPz_enter (by decide) (Nat.le_of_ble_eq_true rfl) rfl (fun p e R s m args below meth c Q ls X hR hP hZ hl hret => ?_)
    obtain ⟨hx, hb, hml, hown, hts, hK⟩ := X
    have hl : lv_has ls 3 [(0, .int (iI a)), (1, .int (iI b))] := lv_sub hl [0, 1] rfl
    refine lv_iload_n hx hb dJ3_checkIndex_8e157_0 rfl (lv_at hl 0 rfl) ?_
    refine q_if_lt (tgt := 9) hx hb dJ3_checkIndex_8e157_1 (by decide) (by omega) (fun z => absurd z (by omega)) (fun _ => ?_)
    refine lv_iload_n hx hb dJ3_checkIndex_8e157_4 rfl (lv_at hl 0 rfl) ?_
    refine lv_iload_n hx hb dJ3_checkIndex_8e157_5 rfl (lv_at hl 1 rfl) ?_
    refine q_icmp_lt (tgt := 16) hx hb dJ3_checkIndex_8e157_6 (by decide) (by omega) (fun _ => ?_) (fun z => absurd h.2.1 (by omega))
    refine lv_iload_n hx hb dJ3_checkIndex_8e157_16 rfl (lv_at hl 0 rfl) ?_
    exact hret 17 ls dJ3_checkIndex_8e157_17
  · refine qPz_enter (by decide) (Nat.le_of_ble_eq_true rfl) rfl (fun p e R s m args below meth c Q ls X hR hP hZ hl hret => ?_)
    obtain ⟨hx, hb, hml, hown, hts, hK⟩ := X
    have hl : lv_has ls 3 [(0, .int (iI a)), (1, .int (iI b))] := lv_sub hl [0, 1] rfl
    refine lv_iload_n hx hb dJ3_checkIndex_8e157_0 rfl (lv_at hl 0 rfl) ?_
    refine q_if_lt (tgt := 9) hx hb dJ3_checkIndex_8e157_1 (by decide) (by omega) (fun z => absurd z (by omega)) (fun _ => ?_)
    refine lv_iload_n hx hb dJ3_checkIndex_8e157_4 rfl (lv_at hl 0 rfl) ?_
    refine lv_iload_n hx hb dJ3_checkIndex_8e157_5 rfl (lv_at hl 1 rfl) ?_
    refine q_icmp_lt (tgt := 16) hx hb dJ3_checkIndex_8e157_6 (by decide) (by omega) (fun _ => ?_) (fun z => absurd h.2.1 (by omega))
    refine lv_iload_n hx hb dJ3_checkIndex_8e157_16 rfl (lv_at hl 0 rfl) ?_
    exact hret 17 ls dJ3_checkIndex_8e157_17
set_option maxHeartbeats 4000000 in
theorem c_J0_checkIndex (hz : zS Z q v L) {a b : Int} (h : 0 ≤ a ∧ a < b ∧ b < 1000) : qPz l Z D ty yJ0_checkIndex_df160 cJ0_checkIndex_df160 2 (Option.none) 1 22 [.int (iI a), .int (iI b)] [] none := by
  refine qPz_enterV (by decide) (Nat.le_of_ble_eq_true rfl) (fun p e R s m args below meth c Q ls X hR hP hZ hl hret => ?_)
  obtain ⟨hx, hb, hml, hown, hts, hK⟩ := X
  have hl : lv_has ls 2 [(0, .int (iI a)), (1, .int (iI b))] := hl
  refine lv_iload_n hx hb dJ0_checkIndex_df160_0 rfl (lv_at hl 0 rfl) ?_
  refine lv_iload_n hx hb dJ0_checkIndex_df160_1 rfl (lv_at hl 1 rfl) ?_
  rcases hz.2.2.2.1 _ _ _ hZ with hq | ⟨t, hq⟩
  · refine va_gets hx hb hq va_S.rf hown (hts _ fl_J0_1053) (fun _ h => h) dJ0_checkIndex_df160_2 ?_
    refine q_callPSz (As := [.int (iI a), .int (iI b), .null]) (rest := []) hz.1 hx hb hml hown hts hK (c_J3_checkIndex (Or.inl rfl) h) yt_J3_checkIndex_8e157 ml_J0_1059 (by rw [hR]; decide) P_nil hZ rfl rfl hl.1 (lv_room (Nat.le_of_ble_eq_true rfl)) dJ0_checkIndex_df160_5 ⟨by rw [hR]; exact Nat.zero_le _, by rw [hR]; exact Nat.zero_le _⟩ ?_
    refine lv_pop hx hb dJ0_checkIndex_df160_8 rfl ?_
    exact hret 9 ls dJ0_checkIndex_df160_9
  · refine va_gets hx hb hq va_S.rf hown (hts _ fl_J0_1053) (fun _ h => h) dJ0_checkIndex_df160_2 ?_
    refine q_callPSz (As := [.int (iI a), .int (iI b), .ref t]) (rest := []) hz.1 hx hb hml hown hts hK (c_J3_checkIndex (Or.inr ⟨_, rfl⟩) h) yt_J3_checkIndex_8e157 ml_J0_1059 (by rw [hR]; decide) P_nil hZ rfl rfl hl.1 (lv_room (Nat.le_of_ble_eq_true rfl)) dJ0_checkIndex_df160_5 ⟨by rw [hR]; exact Nat.zero_le _, by rw [hR]; exact Nat.zero_le _⟩ ?_
    refine lv_pop hx hb dJ0_checkIndex_df160_8 rfl ?_
    exact hret 9 ls dJ0_checkIndex_df160_9
set_option maxHeartbeats 4000000 in
theorem c_J1_charAt (hz : zS Z q v L) {k : Int} (h : 0 ≤ k ∧ k < L.length) : qPz l Z D ty yJ1_charAt_3b067 cJ1_charAt_3b067 2 (Option.some FieldType.char) 2 43 [.ref v, .int (iI k)] [] (some (.int (iI (L.getD k.toNat 0)))) := by
  have hc := hz.2.2.2.2.2 k.toNat (by omega)
  have hL := hz.2.2.2.2.1
  refine qPz_enter (by decide) (Nat.le_of_ble_eq_true rfl) (nar_c hc.1 hc.2) (fun p e R s m args below meth c Q ls X hR hP hZ hl hret => ?_)
  obtain ⟨hx, hb, hml, hown, hts, hK⟩ := X
  have hl : lv_has ls 2 [(0, .ref v), (1, .int (iI k))] := hl
  have hS := hz.2.1 _ _ _ hZ
  refine lv_iload_n hx hb dJ1_charAt_3b067_0 rfl (lv_at hl 1 rfl) ?_
  refine lv_aload_n hx hb dJ1_charAt_3b067_1 rfl (lv_at hl 0 rfl) ?_
  refine va_tlen hx hb (hS.1 0 (by decide)).2.2.2 va_S.rf (v := iI (L.length : Int)) rfl dJ1_charAt_3b067_2 ?_
  refine q_callPSz (As := [.int (iI k), .int (iI (L.length : Int))]) (rest := []) hz.1 hx hb hml hown hts hK (c_J0_checkIndex hz (by omega)) yt_J0_checkIndex_df160 ml_J1_9 (by rw [hR]; decide) P_nil hZ rfl rfl hl.1 (lv_room (Nat.le_of_ble_eq_true rfl)) dJ1_charAt_3b067_3 ⟨by rw [hR]; exact Nat.zero_le _, by rw [hR]; exact Nat.zero_le _⟩ ?_
  refine lv_aload_n hx hb dJ1_charAt_3b067_6 rfl (lv_at hl 0 rfl) ?_
  refine lv_iload_n hx hb dJ1_charAt_3b067_7 rfl (lv_at hl 1 rfl) ?_
  refine va_tb hx hb (hS.1 0 (by decide)).2.2.2 va_S.rf (iI_in h.1 (by simp; exact h.2) (by omega)) (v := .int (iI (L.getD k.toNat 0))) (by rw [iI_cl h.1 (by omega)]; exact congrArg Value.int (getD_iI (by omega))) dJ1_charAt_3b067_8 ?_
  refine lv_sipush hx hb dJ1_charAt_3b067_9 (v := 255) rfl ?_
  refine lv_iand hx hb dJ1_charAt_3b067_12 ?_
  refine lv_i2c hx hb dJ1_charAt_3b067_13 (ch_32 _ hc.1 hc.2) ?_
  exact hret 14 ls dJ1_charAt_3b067_14
set_option maxHeartbeats 4000000 in
theorem c_J0_charAt (hz : zS Z q v L) {k : Int} (h : 0 ≤ k ∧ k < L.length) : qPz l Z D ty yJ0_charAt_5068e cJ0_charAt_5068e 2 (Option.some FieldType.char) 3 64 [.ref q, .int (iI k)] [] (some (.int (iI (L.getD k.toNat 0)))) := by
  have hc := hz.2.2.2.2.2 k.toNat (by omega)
  refine qPz_enter (by decide) (Nat.le_of_ble_eq_true rfl) (nar_c hc.1 hc.2) (fun p e R s m args below meth c Q ls X hR hP hZ hl hret => ?_)
  obtain ⟨hx, hb, hml, hown, hts, hK⟩ := X
  have hl : lv_has ls 2 [(0, .ref q), (1, .int (iI k))] := hl
  have hS := hz.2.1 _ _ _ hZ
  refine lv_aload_n hx hb dJ0_charAt_5068e_0 rfl (lv_at hl 0 rfl) ?_
  refine q_callPzX (As := []) (rest := []) hz.1 hx hb hml hown hts hK (c_J0_isLatin1 hz) yi_J0_isLatin1_aae02 ml_J0_492 (by rw [hR]; decide) P_nil hZ (vk_recv (i := 0) hS (by decide) va_S.rf) rfl rfl hl.1 (lv_room (Nat.le_of_ble_eq_true rfl)) dJ0_charAt_5068e_1 ⟨by rw [hR]; exact Nat.zero_le _, by rw [hR]; exact Nat.zero_le _⟩ ?_
  refine lv_if_eq (tgt := 16) hx hb dJ0_charAt_5068e_4 (by decide) (fun z => absurd z (by decide)) (fun _ => ?_)
  refine lv_aload_n hx hb dJ0_charAt_5068e_7 rfl (lv_at hl 0 rfl) ?_
  refine vk_getf hx hb (hS.1 0 (by decide)).2.2.1 va_S.rf hown (hts _ fl_J0_9) (fun _ h => h) dJ0_charAt_5068e_8 ?_
  refine lv_iload_n hx hb dJ0_charAt_5068e_11 rfl (lv_at hl 1 rfl) ?_
  refine q_callPSz (As := [.ref v, .int (iI k)]) (rest := []) hz.1 hx hb hml hown hts hK (c_J1_charAt hz h) yt_J1_charAt_3b067 ml_J0_495 (by rw [hR]; decide) P_nil hZ rfl rfl hl.1 (lv_room (Nat.le_of_ble_eq_true rfl)) dJ0_charAt_5068e_12 ⟨by rw [hR]; exact Nat.zero_le _, by rw [hR]; exact Nat.zero_le _⟩ ?_
  exact hret 15 ls dJ0_charAt_5068e_15
end STRS
