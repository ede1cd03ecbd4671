/-! THE LAW'S HELPERS over the feeder. Written by wip/p30/n43.py -/
section KPU
variable {T C : Nat → Int → Int} {f : Int}
theorem goR_p : goR T C f = pgs T C f := by
  unfold goR pgs
  split <;> rfl
theorem pgs_rg : 0 ≤ pgs T C f ∧ pgs T C f ≤ 2 := by
  unfold pgs
  split
  · decide
  · rcases bI_r (c := C 8 3 ≤ T 3 f) with a | a <;> rcases bI_r (c := C 11 5 = 1 ∧ C 8 3 ≤ T 4 f) with b | b <;> rw [a, b] <;> decide
theorem feed_1 (h : C 11 0 < T 8 0 ∧ C 11 2 = 0) : feedC T (1 : Int).toNat C = pickC T C ∧ feedN T (1 : Int).toNat C = if pkr T C = 0 then 1 else 0 := by
  have e : (1 : Int).toNat = 0 + 1 := rfl
  rw [e]
  unfold feedC feedN
  rw [if_pos h, if_pos h]
  refine ⟨rfl, ?_⟩
  show (if pickR T C = -1 then 0 else 1) + 0 = _
  unfold pickR
  by_cases r : pkr T C = 0
  · rw [if_pos r, if_pos r, if_neg]
    · rfl
    · have := goR_p (T := T) (C := C) (f := C 11 0)
      have := pgs_rg (T := T) (C := C) (f := C 11 0)
      omega
  · rw [if_neg r, if_neg r, if_pos rfl]
    rfl
theorem feedN_le : ∀ (m : Nat) {C : Nat → Int → Int}, feedN T m C ≤ (m : Int)
  | 0, _ => Int.le_refl _
  | m + 1, C => by
    unfold feedN
    by_cases c : C 11 0 < T 8 0 ∧ C 11 2 = 0
    · rw [if_pos c]
      have z := feedN_le m (C := pickC T C)
      have e : (if pickR T C = -1 then 0 else 1 : Int) ≤ 1 := by split <;> decide
      omega
    · rw [if_neg c]
      omega
theorem pick_3 (r : pkr T C ≠ 0) : pickC T C 11 3 = C 11 3 := by
  unfold pickC
  rw [if_neg r]
  split <;> rfl
theorem ink_s {w : Int} (h : 0 ≤ w ∧ w ≤ 1) : shtV T C f (3 + w) = ink T f w := by
  rcases (show w = 0 ∨ w = 1 by omega) with rfl | rfl <;> rfl
end KPU
section QKC
variable {p : Program} {l : Launch} {e : Env} {R : Room} {s : State} {m : MethodId} {args : Array Value} {below : List Frame} {meth : Method} {c : Code} {H : Heap} {locs : List Loc} {cells slots : Nat} {Q : State → Prop}
variable {cc : ByteArray} {pc : Nat} {ls : Array Slot} {rest : List Value} {D : va_G} {A : Nat → Prop} {Z : ZT} {cI cB cZ cS cJ : ClassId}
/-- a method of the feeder's, called in the feeder's world -/
theorem q_callK {g : Wd} {S : Type} {P : S → Prop} {rv : S → Option Value} {W1 : S → va_W} {own : String} {index k fr lo mc ms nL nY : Nat} {y : MethodName} {bytes : ByteArray} {ret : Option FieldType} {As : List Value} {st : List Value} (hz : zOk Z) (hx : p.tables.exec = Jvm.exec) (hb : c.code = cc) (hml : c.maxLocals = nL) (hown : s.vm.findClass own = some m.cls) (hts : ∀ w ∈ gW, w.before args s = true) (hK : va_K D vwCl (tyG cI cB cZ cS cJ) s)
    (hM : qH l Z D (tyG cI cB cZ cS cJ) y (.code y bytes nY ret :: gW) fr lo mc ms (.ref (g.1 0 0) :: As) (wW g cI cB cZ cS) P rv W1) (hy : qYi y bytes nY ret k) (hcl : y.cls = RX6) (hl : Cond.methodLink own index y ∈ gW) (hR : fr + 1 ≤ R.frames ∧ 8 + (nY + 11) + lo ≤ R.locals) (hw : qw D A s.heap (wW g cI cB cZ cS) H locs) (hA : ∀ q : Nat, s.heap.size ≤ q → A q) (hZ : Z A s s.heap) (hn : As.length = k) (hst : st = As.reverse ++ .ref (g.1 0 0) :: rest) (hls : ls.size = nL) (hW : 2 * (F0 m pc ls st).monitorRoom + (rest.map fun v => v.category).sum ≤ 8) (hdg : decode cc pc = .ok (.invokevirtual index, 3)) (hcs : cells + mc ≤ R.cells ∧ slots + ms ≤ R.slots)
    (kk : ∀ (u : S) (H1 : Heap) (locs1 : List Loc), P u → qw D A s.heap (W1 u) H1 locs1 → W p l e R s m args below meth c H1 locs1 (cells + mc) (slots + ms) Q (F0 m (pc + 3) ls ((rv u).toList ++ rest))) : W p l e R s m args below meth c H locs cells slots Q (F0 m pc ls st) :=
  q_callH (wr := []) (ci := 6) (T := TX6) (N := 10) hz hx hb hml hown hts hK hM hy hl hR (by rw [List.append_nil]; exact hw) hA hZ 0 wW_0 (by rw [hcl]; rfl) hn hst hls hW hdg hcs (fun u H1 locs1 h1 h2 => kk u H1 locs1 h1 (by rw [List.append_nil] at h2; exact h2))
end QKC
section KHE
variable {l : Launch} {z : Nat → Nat} {D : va_G} {cI cB cZ cS cJ : ClassId} {g : Wd} {N : Int} {bb L : Nat} {xs : Nat → Int32}
theorem kd_f {g : Wd} {N : Int} (h : gd g N) : (gC g 11 2 = 0 ↔ gC g 11 1 = 0) ∧ 0 ≤ gC g 11 1 ∧ gC g 11 1 ≤ gC g 11 0 ∧ gC g 11 0 ≤ gT g 8 0 ∧ 0 ≤ gC g 11 2 ∧ gC g 11 2 ≤ 3 ∧ 0 ≤ gT g 8 0 ∧ gT g 8 0 ≤ 40 ∧ 0 ≤ gC g 11 3 ∧ gC g 11 3 ≤ 80 ∧ 1 ≤ gC g 11 4 ∧ gC g 11 4 ≤ 139 := by
  have q := h.2.1.1
  have q2 := h.1.1
  refine ⟨h.2.2.1.2.2.2, ?_⟩
  omega
theorem kd_p {g : Wd} {N : Int} (h : gd g N) {p : Int} (a : 0 ≤ p) (b : p < gC g 11 3) : 0 ≤ gC g 4 p ∧ gC g 4 p < gT g 8 0 ∧ gC g 0 (gC g 4 p) = 2 ∧ gC g 8 3 ≤ ink (gT g) (gC g 4 p) (gC g 5 p) ∧ 0 ≤ gC g 5 p ∧ gC g 5 p ≤ 1 ∧ 0 ≤ ink (gT g) (gC g 4 p) (gC g 5 p) ∧ ink (gT g) (gC g 4 p) (gC g 5 p) ≤ 1000 ∧ 0 ≤ gC g 6 p ∧ gC g 6 p < gC g 11 4 ∧ 0 ≤ gC g 8 3 ∧ gC g 8 3 ≤ 1000 := by
  have q := h.2.1.1
  have q2 := h.2.1.2.2.2.2.1 p a b
  have q3 := h.2.2.1.1.2.1 p a b
  have q4 := h.1.2.2 (gC g 4 p) q2.1 (by omega)
  have q5 := h.2.1.2.1
  have q6 : 0 ≤ ink (gT g) (gC g 4 p) (gC g 5 p) ∧ ink (gT g) (gC g 4 p) (gC g 5 p) ≤ 1000 := by
    unfold ink
    split <;> omega
  exact ⟨q2.1, by omega, q3.2.2.1, q3.2.2.2, q2.2.2.1, q2.2.2.2.1, q6.1, q6.2, q2.2.2.2.2.1, q2.2.2.2.2.2, by omega, by omega⟩
theorem wat_bd {T C : Nat → Int → Int} {w : Int} (h : 0 ≤ T 8 0) : 0 ≤ watV T C w ∧ watV T C w ≤ T 8 0 := kI_bd _ h

set_option maxHeartbeats 4000000 in
set_option maxRecDepth 100000 in
theorem c_L_isWhole (hg : gd g N) : qH l (ZL z bb L xs) D (tyG cI cB cZ cS cJ) yL_isWhole (.code yL_isWhole cL_isWhole 6 (Option.some FieldType.boolean) :: gW) 3 66 0 0 [.ref (g.1 0 0)] (wW g cI cB cZ cS) (fun u : Unit => True) (fun u => some (.int (iI (1)))) (fun u => wW g cI cB cZ cS) := by
  refine qH_enterI (val := fun u => iI (1)) (by decide) (Nat.le_of_ble_eq_true rfl) (fun u hu => ⟨rfl, nar_z (Or.inr rfl)⟩) (fun p e R s m args below meth c Q ls A X hR hA hw hB hl hret => ?_)
  obtain ⟨hx, hb, hml, hown, hts, hK⟩ := X
  have hl : lv_has ls 6 [(0, .ref (g.1 0 0))] := hl
  have hZ := hB.1.1.1.1
  have hkf := kd_f hg
  have hwb := wat_bd (T := gT g) (C := gC g) (w := 2) (by omega)
  suffices K : ∀ (H : Heap) (locs : List Loc), qw D A s.heap (wW g cI cB cZ cS) H locs → W p l e R s m args below meth c H locs 0 0 Q (F0 m 0 ls []) from K s.heap [] hw
  clear hw
  intro H locs hw
  refine q_iconst hx hb dL_isWhole_0 ?_
  refine lv_istore_n (lv' := [(1, .int (iI 0)), (0, .ref (g.1 0 0))]) hx hb dL_isWhole_1 rfl hl (by decide) rfl (fun ls hl => ?_)
  refine q_iconst hx hb dL_isWhole_2 ?_
  refine lv_istore_n (lv' := [(2, .int (iI 0)), (1, .int (iI 0)), (0, .ref (g.1 0 0))]) hx hb dL_isWhole_3 rfl hl (by decide) rfl (fun ls hl => ?_)
  have loop_4 : ∀ (fu : Nat) (w : Int) (H : Heap) (locs : List Loc) (ls : Array Slot), (7 - w).toNat = fu → (0 ≤ w ∧ w ≤ 7) → qw D A s.heap (wW g cI cB cZ cS) H locs → lv_has ls 6 [(0, .ref (g.1 0 0)), (1, .int (iI ((sI (fun w => watV (gT g) (gC g) w)) w))), (2, .int (iI w))] → W p l e R s m args below meth c H locs 0 0 Q (F0 m 4 ls []) := by
    intro fu
    induction fu using Nat.strongRecOn with
    | ind fu ih =>
    intro w H locs ls hn_4 hw7 hw hl
    refine lv_iload_n hx hb dL_isWhole_4 rfl (lv_at hl 2 rfl) ?_
    refine q_bipush hx hb dL_isWhole_5 rfl ?_
    refine q_icmp_ge (tgt := 24) hx hb dL_isWhole_7 (by decide) (by omega) (fun c_7 => ?_) (fun c_7 => ?_)
    · have hloc : (sI (fun w => watV (gT g) (gC g) w)) w = gT g 8 0 := by rw [show w = 7 by omega]; exact wat_sum hg.2.1 hkf.2.2.2.2.2.2.1
      rw [hloc] at hl
      clear hloc
      have hl : lv_has ls 6 [(0, .ref (g.1 0 0)), (1, .int (iI (gT g 8 0))), (2, .int (iI w))] := hl
      refine lv_iload_n hx hb dL_isWhole_24 rfl (lv_at hl 1 rfl) ?_
      refine lv_aload_n hx hb dL_isWhole_25 rfl (lv_at hl 0 rfl) ?_
      refine q_iconst hx hb dL_isWhole_26 ?_
      refine q_callK (As := [.int (iI 0)]) (rest := [.int (iI (gT g 8 0))]) (zl_ok z bb L xs) hx hb hml hown hts hK (qH_z (k_size hg 0 (by decide)) zl_w) yi_X6_size rfl ml_L_66 (by rw [hR]; decide) hw hA hB rfl rfl hl.1 (lv_room (Nat.le_of_ble_eq_true rfl)) dL_isWhole_27 (by rw [hR]; exact ⟨by show _ ≤ (0 : Nat); omega, by show _ ≤ (0 : Nat); omega⟩) (fun _ H locs hu_27 hw => ?_)
      refine q_top (gT g 8 0) rfl ?_
      refine q_icmp_ne (tgt := 88) hx hb dL_isWhole_30 (by decide) (by omega) (fun c_30 => absurd c_30 (by omega)) (fun c_30 => ?_)
      refine lv_aload_n hx hb dL_isWhole_33 rfl (lv_at hl 0 rfl) ?_
      refine q_iconst hx hb dL_isWhole_34 ?_
      refine q_callK (As := [.int (iI 0)]) (rest := []) (zl_ok z bb L xs) hx hb hml hown hts hK (qH_z (k_sheetsAt hg 0 (by omega)) zl_w) yi_X6_sheetsAt rfl ml_L_110 (by rw [hR]; decide) hw hA hB rfl rfl hl.1 (lv_room (Nat.le_of_ble_eq_true rfl)) dL_isWhole_35 (by rw [hR]; exact ⟨by show _ ≤ (0 : Nat); omega, by show _ ≤ (0 : Nat); omega⟩) (fun _ H locs hu_35 hw => ?_)
      refine q_top (watV (gT g) (gC g) 0) rfl ?_
      refine q_top (gT g 8 0 - gC g 11 0) (by exact wat_0 hg.2.1 hg.2.2.1) ?_
      refine lv_aload_n hx hb dL_isWhole_38 rfl (lv_at hl 0 rfl) ?_
      refine q_iconst hx hb dL_isWhole_39 ?_
      refine q_callK (As := [.int (iI 1)]) (rest := [.int (iI (gT g 8 0 - gC g 11 0))]) (zl_ok z bb L xs) hx hb hml hown hts hK (qH_z (k_size hg 1 (by decide)) zl_w) yi_X6_size rfl ml_L_66 (by rw [hR]; decide) hw hA hB rfl rfl hl.1 (lv_room (Nat.le_of_ble_eq_true rfl)) dL_isWhole_40 (by rw [hR]; exact ⟨by show _ ≤ (0 : Nat); omega, by show _ ≤ (0 : Nat); omega⟩) (fun _ H locs hu_40 hw => ?_)
      refine q_top (gT g 8 0 - gC g 11 0) rfl ?_
      refine q_icmp_ne (tgt := 88) hx hb dL_isWhole_43 (by decide) (by omega) (fun c_43 => absurd c_43 (by omega)) (fun c_43 => ?_)
      refine lv_aload_n hx hb dL_isWhole_46 rfl (lv_at hl 0 rfl) ?_
      refine q_iconst hx hb dL_isWhole_47 ?_
      refine q_callK (As := [.int (iI 1)]) (rest := []) (zl_ok z bb L xs) hx hb hml hown hts hK (qH_z (k_sheetsAt hg 1 (by omega)) zl_w) yi_X6_sheetsAt rfl ml_L_110 (by rw [hR]; decide) hw hA hB rfl rfl hl.1 (lv_room (Nat.le_of_ble_eq_true rfl)) dL_isWhole_48 (by rw [hR]; exact ⟨by show _ ≤ (0 : Nat); omega, by show _ ≤ (0 : Nat); omega⟩) (fun _ H locs hu_48 hw => ?_)
      refine q_top (watV (gT g) (gC g) 1) rfl ?_
      refine q_top (gC g 11 1) (by exact wat_1 hg.2.1 hg.2.2.1) ?_
      refine lv_aload_n hx hb dL_isWhole_51 rfl (lv_at hl 0 rfl) ?_
      refine q_iconst hx hb dL_isWhole_52 ?_
      refine q_callK (As := [.int (iI 2)]) (rest := [.int (iI (gC g 11 1))]) (zl_ok z bb L xs) hx hb hml hown hts hK (qH_z (k_size hg 2 (by decide)) zl_w) yi_X6_size rfl ml_L_66 (by rw [hR]; decide) hw hA hB rfl rfl hl.1 (lv_room (Nat.le_of_ble_eq_true rfl)) dL_isWhole_53 (by rw [hR]; exact ⟨by show _ ≤ (0 : Nat); omega, by show _ ≤ (0 : Nat); omega⟩) (fun _ H locs hu_53 hw => ?_)
      refine q_top (gC g 11 1) rfl ?_
      refine q_icmp_ne (tgt := 88) hx hb dL_isWhole_56 (by decide) (by omega) (fun c_56 => absurd c_56 (by omega)) (fun c_56 => ?_)
      refine lv_aload_n hx hb dL_isWhole_59 rfl (lv_at hl 0 rfl) ?_
      refine q_iconst hx hb dL_isWhole_60 ?_
      have join_90 : ∀ (H : Heap) (locs : List Loc) (ls : Array Slot), qw D A s.heap (wW g cI cB cZ cS) H locs → lv_has ls 6 [(0, .ref (g.1 0 0)), (1, .int (iI (gT g 8 0))), (2, .int (iI w))] → W p l e R s m args below meth c H locs 0 0 Q (F0 m 90 ls []) := by
        intro  H locs ls  hw hl
        refine q_iconst hx hb dL_isWhole_90 ?_
        refine lv_istore_n (lv' := [(2, .int (iI 0)), (0, .ref (g.1 0 0)), (1, .int (iI (gT g 8 0)))]) hx hb dL_isWhole_91 rfl hl (by decide) rfl (fun ls hl => ?_)
        refine q_iconst hx hb dL_isWhole_92 ?_
        refine lv_istore_n (lv' := [(3, .int (iI 0)), (2, .int (iI 0)), (0, .ref (g.1 0 0)), (1, .int (iI (gT g 8 0)))]) hx hb dL_isWhole_93 rfl hl (by decide) rfl (fun ls hl => ?_)
        refine q_iconst hx hb dL_isWhole_94 ?_
        refine lv_istore (lv' := [(4, .int (iI 0)), (3, .int (iI 0)), (2, .int (iI 0)), (0, .ref (g.1 0 0)), (1, .int (iI (gT g 8 0)))]) hx hb dL_isWhole_95 hl (by decide) rfl (fun ls hl => ?_)
        have loop_97 : ∀ (fu : Nat) (j : Int) (H : Heap) (locs : List Loc) (ls : Array Slot), (gC g 11 4 - j).toNat = fu → (0 ≤ j ∧ j ≤ gC g 11 4) → qw D A s.heap (wW g cI cB cZ cS) H locs → lv_has ls 6 [(0, .ref (g.1 0 0)), (2, .int (iI ((sI (fun j => jobV (gC g) j 1)) j))), (3, .int (iI ((sI (fun j => jobV (gC g) j 3)) j))), (4, .int (iI j))] → W p l e R s m args below meth c H locs 0 0 Q (F0 m 97 ls []) := by
          intro fu
          induction fu using Nat.strongRecOn with
          | ind fu ih =>
          intro j H locs ls hn_97 hj7 hw hl
          refine lv_iload hx hb dL_isWhole_97 (lv_at hl 3 rfl) ?_
          refine lv_aload_n hx hb dL_isWhole_99 rfl (lv_at hl 0 rfl) ?_
          refine q_iconst hx hb dL_isWhole_100 ?_
          refine q_callK (As := [.int (iI 5)]) (rest := [.int (iI j)]) (zl_ok z bb L xs) hx hb hml hown hts hK (qH_z (k_size hg 5 (by decide)) zl_w) yi_X6_size rfl ml_L_66 (by rw [hR]; decide) hw hA hB rfl rfl hl.1 (lv_room (Nat.le_of_ble_eq_true rfl)) dL_isWhole_101 (by rw [hR]; exact ⟨by show _ ≤ (0 : Nat); omega, by show _ ≤ (0 : Nat); omega⟩) (fun _ H locs hu_101 hw => ?_)
          refine q_top (gC g 11 4) rfl ?_
          refine q_icmp_ge (tgt := 133) hx hb dL_isWhole_104 (by decide) (by omega) (fun c_104 => ?_) (fun c_104 => ?_)
          · have hloc : (sI (fun j => jobV (gC g) j 1)) j = gC g 11 3 := by rw [show j = gC g 11 4 by omega]; exact job_1 hg.2.1
            rw [hloc] at hl
            clear hloc
            have hl : lv_has ls 6 [(0, .ref (g.1 0 0)), (2, .int (iI (gC g 11 3))), (3, .int (iI ((sI (fun j => jobV (gC g) j 3)) j))), (4, .int (iI j))] := hl
            have hloc : (sI (fun j => jobV (gC g) j 3)) j = watV (gT g) (gC g) 2 := by rw [show j = gC g 11 4 by omega]; exact job_3 hg.2.1 hg.2.2.1
            rw [hloc] at hl
            clear hloc
            have hl : lv_has ls 6 [(0, .ref (g.1 0 0)), (2, .int (iI (gC g 11 3))), (3, .int (iI (watV (gT g) (gC g) 2))), (4, .int (iI j))] := hl
            refine lv_iload_n hx hb dL_isWhole_133 rfl (lv_at hl 1 rfl) ?_
            refine lv_aload_n hx hb dL_isWhole_134 rfl (lv_at hl 0 rfl) ?_
            refine q_iconst hx hb dL_isWhole_135 ?_
            refine q_callK (As := [.int (iI 4)]) (rest := [.int (iI (gC g 11 3))]) (zl_ok z bb L xs) hx hb hml hown hts hK (qH_z (k_size hg 4 (by decide)) zl_w) yi_X6_size rfl ml_L_66 (by rw [hR]; decide) hw hA hB rfl rfl hl.1 (lv_room (Nat.le_of_ble_eq_true rfl)) dL_isWhole_136 (by rw [hR]; exact ⟨by show _ ≤ (0 : Nat); omega, by show _ ≤ (0 : Nat); omega⟩) (fun _ H locs hu_136 hw => ?_)
            refine q_top (gC g 11 3) rfl ?_
            refine q_icmp_ne (tgt := 151) hx hb dL_isWhole_139 (by decide) (by omega) (fun c_139 => absurd c_139 (by omega)) (fun c_139 => ?_)
            refine lv_iload_n hx hb dL_isWhole_142 rfl (lv_at hl 2 rfl) ?_
            refine lv_aload_n hx hb dL_isWhole_143 rfl (lv_at hl 0 rfl) ?_
            refine q_iconst hx hb dL_isWhole_144 ?_
            refine q_callK (As := [.int (iI 2)]) (rest := [.int (iI (watV (gT g) (gC g) 2))]) (zl_ok z bb L xs) hx hb hml hown hts hK (qH_z (k_sheetsAt hg 2 (by omega)) zl_w) yi_X6_sheetsAt rfl ml_L_110 (by rw [hR]; decide) hw hA hB rfl rfl hl.1 (lv_room (Nat.le_of_ble_eq_true rfl)) dL_isWhole_145 (by rw [hR]; exact ⟨by show _ ≤ (0 : Nat); omega, by show _ ≤ (0 : Nat); omega⟩) (fun _ H locs hu_145 hw => ?_)
            refine q_top (watV (gT g) (gC g) 2) rfl ?_
            refine q_icmp_eq (tgt := 153) hx hb dL_isWhole_148 (by decide) (by omega) (fun c_148 => ?_) (fun c_148 => absurd c_148 (by omega))
            refine q_iconst hx hb dL_isWhole_153 ?_
            refine lv_istore (lv' := [(4, .int (iI 0)), (0, .ref (g.1 0 0)), (2, .int (iI (gC g 11 3))), (3, .int (iI (watV (gT g) (gC g) 2)))]) hx hb dL_isWhole_154 hl (by decide) rfl (fun ls hl => ?_)
            have loop_156 : ∀ (fu : Nat) (q : Int) (H : Heap) (locs : List Loc) (ls : Array Slot), (gC g 11 3 - q).toNat = fu → (0 ≤ q ∧ q ≤ gC g 11 3) → qw D A s.heap (wW g cI cB cZ cS) H locs → lv_has ls 6 [(0, .ref (g.1 0 0)), (2, .int (iI (gC g 11 3))), (4, .int (iI q))] → W p l e R s m args below meth c H locs 0 0 Q (F0 m 156 ls []) := by
              intro fu
              induction fu using Nat.strongRecOn with
              | ind fu ih =>
              intro q H locs ls hn_156 hq7 hw hl
              refine lv_iload hx hb dL_isWhole_156 (lv_at hl 2 rfl) ?_
              refine lv_iload_n hx hb dL_isWhole_158 rfl (lv_at hl 1 rfl) ?_
              refine q_icmp_ge (tgt := 277) hx hb dL_isWhole_159 (by decide) (by omega) (fun c_159 => ?_) (fun c_159 => ?_)
              · refine q_iconst hx hb dL_isWhole_277 ?_
                refine q_top (1) (by rfl) ?_
                refine W_wide (k := 0) (n := 0) (by omega) (by omega) ?_
                exact hret () H locs 278 ls trivial hw dL_isWhole_278
              · refine lv_aload_n hx hb dL_isWhole_162 rfl (lv_at hl 0 rfl) ?_
                refine lv_iload hx hb dL_isWhole_163 (lv_at hl 2 rfl) ?_
                refine q_iconst hx hb dL_isWhole_165 ?_
                have hq_q := kd_p hg (p := q) (by omega) (by omega)
                refine q_callK (As := [.int (iI q), .int (iI 0)]) (rest := []) (zl_ok z bb L xs) hx hb hml hown hts hK (qH_z (k_page hg q 0 (by decide) (by omega)) zl_w) yi_X6_page rfl ml_L_117 (by rw [hR]; decide) hw hA hB rfl rfl hl.1 (lv_room (Nat.le_of_ble_eq_true rfl)) dL_isWhole_166 (by rw [hR]; exact ⟨by show _ ≤ (0 : Nat); omega, by show _ ≤ (0 : Nat); omega⟩) (fun _ H locs hu_166 hw => ?_)
                refine q_top (gC g 4 q) rfl ?_
                refine lv_istore (lv' := [(5, .int (iI (gC g 4 q))), (0, .ref (g.1 0 0)), (2, .int (iI (gC g 11 3))), (4, .int (iI q))]) hx hb dL_isWhole_169 hl (by decide) rfl (fun ls hl => ?_)
                refine lv_aload_n hx hb dL_isWhole_171 rfl (lv_at hl 1 rfl) ?_
                refine lv_iload hx hb dL_isWhole_172 (lv_at hl 0 rfl) ?_
                refine q_bipush hx hb dL_isWhole_174 rfl ?_
                refine q_callK (As := [.int (iI (gC g 4 q)), .int (iI 7)]) (rest := []) (zl_ok z bb L xs) hx hb hml hown hts hK (qH_z (k_sheet hg (gC g 4 q) 7 (by omega) (by omega)) zl_w) yi_X6_sheet rfl ml_L_120 (by rw [hR]; decide) hw hA hB rfl rfl hl.1 (lv_room (Nat.le_of_ble_eq_true rfl)) dL_isWhole_176 (by rw [hR]; exact ⟨by show _ ≤ (0 : Nat); omega, by show _ ≤ (0 : Nat); omega⟩) (fun _ H locs hu_176 hw => ?_)
                refine q_top (shtV (gT g) (gC g) (gC g 4 q) 7) rfl ?_
                refine q_top (2) (by exact hq_q.2.2.1) ?_
                refine q_iconst hx hb dL_isWhole_179 ?_
                refine q_icmp_ne (tgt := 206) hx hb dL_isWhole_180 (by decide) (by omega) (fun c_180 => absurd c_180 (by omega)) (fun c_180 => ?_)
                refine lv_aload_n hx hb dL_isWhole_183 rfl (lv_at hl 1 rfl) ?_
                refine lv_iload hx hb dL_isWhole_184 (lv_at hl 0 rfl) ?_
                refine q_iconst hx hb dL_isWhole_186 ?_
                refine lv_aload_n hx hb dL_isWhole_187 rfl (lv_at hl 1 rfl) ?_
                refine lv_iload hx hb dL_isWhole_188 (lv_at hl 3 rfl) ?_
                refine q_iconst hx hb dL_isWhole_190 ?_
                refine q_callK (As := [.int (iI q), .int (iI 1)]) (rest := [.int (iI 3), .int (iI (gC g 4 q)), .ref (g.1 0 0)]) (zl_ok z bb L xs) hx hb hml hown hts hK (qH_z (k_page hg q 1 (by decide) (by omega)) zl_w) yi_X6_page rfl ml_L_117 (by rw [hR]; decide) hw hA hB rfl rfl hl.1 (lv_room (Nat.le_of_ble_eq_true rfl)) dL_isWhole_191 (by rw [hR]; exact ⟨by show _ ≤ (0 : Nat); omega, by show _ ≤ (0 : Nat); omega⟩) (fun _ H locs hu_191 hw => ?_)
                refine q_top (gC g 5 q) rfl ?_
                refine q_iadd hx hb dL_isWhole_194 ?_
                refine q_callK (As := [.int (iI (gC g 4 q)), .int (iI (3 + (gC g 5 q)))]) (rest := []) (zl_ok z bb L xs) hx hb hml hown hts hK (qH_z (k_sheet hg (gC g 4 q) (3 + (gC g 5 q)) (by omega) (by omega)) zl_w) yi_X6_sheet rfl ml_L_120 (by rw [hR]; decide) hw hA hB rfl rfl hl.1 (lv_room (Nat.le_of_ble_eq_true rfl)) dL_isWhole_195 (by rw [hR]; exact ⟨by show _ ≤ (0 : Nat); omega, by show _ ≤ (0 : Nat); omega⟩) (fun _ H locs hu_195 hw => ?_)
                refine q_top (shtV (gT g) (gC g) (gC g 4 q) (3 + (gC g 5 q))) rfl ?_
                refine q_top (ink (gT g) (gC g 4 q) (gC g 5 q)) (by exact ink_s ⟨hq_q.2.2.2.2.1, hq_q.2.2.2.2.2.1⟩) ?_
                refine lv_aload_n hx hb dL_isWhole_198 rfl (lv_at hl 1 rfl) ?_
                refine q_iconst hx hb dL_isWhole_199 ?_
                refine q_callK (As := [.int (iI 3)]) (rest := [.int (iI (ink (gT g) (gC g 4 q) (gC g 5 q)))]) (zl_ok z bb L xs) hx hb hml hown hts hK (qH_z (k_limit hg 3 (by decide)) zl_w) yi_X6_limit rfl ml_L_123 (by rw [hR]; decide) hw hA hB rfl rfl hl.1 (lv_room (Nat.le_of_ble_eq_true rfl)) dL_isWhole_200 (by rw [hR]; exact ⟨by show _ ≤ (0 : Nat); omega, by show _ ≤ (0 : Nat); omega⟩) (fun _ H locs hu_200 hw => ?_)
                refine q_top (gC g 8 3) rfl ?_
                refine q_icmp_ge (tgt := 208) hx hb dL_isWhole_203 (by decide) (by omega) (fun c_203 => ?_) (fun c_203 => absurd c_203 (by have z := hq_q.2.2.2.1; omega))
                refine lv_iload hx hb dL_isWhole_208 (lv_at hl 3 rfl) ?_
                refine q_if_le (tgt := 271) hx hb dL_isWhole_210 (by decide) (by omega) (fun c_210 => ?_) (fun c_210 => ?_)
                · refine lv_iinc (v := iI (q + 1)) (lv' := [(4, .int (iI (q + 1))), (5, .int (iI (gC g 4 q))), (0, .ref (g.1 0 0)), (2, .int (iI (gC g 11 3)))]) hx hb dL_isWhole_271 hl (k := 3) rfl (iI_add _ _) (by decide) rfl (fun ls hl => ?_)
                  refine lv_goto (tgt := 156) hx hb dL_isWhole_274 (by decide) ?_
                  exact ih _ (by omega) (q + 1) H locs ls rfl (by omega) hw (lv_sub hl [2, 3, 0] rfl)
                · refine lv_aload_n hx hb dL_isWhole_213 rfl (lv_at hl 1 rfl) ?_
                  refine lv_iload hx hb dL_isWhole_214 (lv_at hl 3 rfl) ?_
                  refine q_iconst hx hb dL_isWhole_216 ?_
                  refine q_isub hx hb dL_isWhole_217 ?_
                  refine q_iconst hx hb dL_isWhole_218 ?_
                  have hqp := hg.2.2.1.1.2.2 q (by omega) (by omega)
                  have hq_m := kd_p hg (p := (q - 1)) (by omega) (by omega)
                  refine q_callK (As := [.int (iI (q - 1)), .int (iI 0)]) (rest := []) (zl_ok z bb L xs) hx hb hml hown hts hK (qH_z (k_page hg (q - 1) 0 (by decide) (by omega)) zl_w) yi_X6_page rfl ml_L_117 (by rw [hR]; decide) hw hA hB rfl rfl hl.1 (lv_room (Nat.le_of_ble_eq_true rfl)) dL_isWhole_219 (by rw [hR]; exact ⟨by show _ ≤ (0 : Nat); omega, by show _ ≤ (0 : Nat); omega⟩) (fun _ H locs hu_219 hw => ?_)
                  refine q_top (gC g 4 (q - 1)) rfl ?_
                  refine lv_iload hx hb dL_isWhole_222 (lv_at hl 0 rfl) ?_
                  refine q_icmp_ne (tgt := 271) hx hb dL_isWhole_224 (by decide) (by omega) (fun c_224 => ?_) (fun c_224 => ?_)
                  · refine lv_iinc (v := iI (q + 1)) (lv' := [(4, .int (iI (q + 1))), (5, .int (iI (gC g 4 q))), (0, .ref (g.1 0 0)), (2, .int (iI (gC g 11 3)))]) hx hb dL_isWhole_271 hl (k := 3) rfl (iI_add _ _) (by decide) rfl (fun ls hl => ?_)
                    refine lv_goto (tgt := 156) hx hb dL_isWhole_274 (by decide) ?_
                    exact ih _ (by omega) (q + 1) H locs ls rfl (by omega) hw (lv_sub hl [2, 3, 0] rfl)
                  · refine lv_aload_n hx hb dL_isWhole_227 rfl (lv_at hl 1 rfl) ?_
                    refine lv_iload hx hb dL_isWhole_228 (lv_at hl 3 rfl) ?_
                    refine q_iconst hx hb dL_isWhole_230 ?_
                    refine q_isub hx hb dL_isWhole_231 ?_
                    refine q_iconst hx hb dL_isWhole_232 ?_
                    refine q_callK (As := [.int (iI (q - 1)), .int (iI 1)]) (rest := []) (zl_ok z bb L xs) hx hb hml hown hts hK (qH_z (k_page hg (q - 1) 1 (by decide) (by omega)) zl_w) yi_X6_page rfl ml_L_117 (by rw [hR]; decide) hw hA hB rfl rfl hl.1 (lv_room (Nat.le_of_ble_eq_true rfl)) dL_isWhole_233 (by rw [hR]; exact ⟨by show _ ≤ (0 : Nat); omega, by show _ ≤ (0 : Nat); omega⟩) (fun _ H locs hu_233 hw => ?_)
                    refine q_top (gC g 5 (q - 1)) rfl ?_
                    refine q_if_ne (tgt := 269) hx hb dL_isWhole_236 (by decide) (by omega) (fun c_236 => absurd c_236 (by have z := (hqp.2 (by omega)).1; omega)) (fun c_236 => ?_)
                    refine lv_aload_n hx hb dL_isWhole_239 rfl (lv_at hl 1 rfl) ?_
                    refine lv_iload hx hb dL_isWhole_240 (lv_at hl 3 rfl) ?_
                    refine q_iconst hx hb dL_isWhole_242 ?_
                    refine q_callK (As := [.int (iI q), .int (iI 1)]) (rest := []) (zl_ok z bb L xs) hx hb hml hown hts hK (qH_z (k_page hg q 1 (by decide) (by omega)) zl_w) yi_X6_page rfl ml_L_117 (by rw [hR]; decide) hw hA hB rfl rfl hl.1 (lv_room (Nat.le_of_ble_eq_true rfl)) dL_isWhole_243 (by rw [hR]; exact ⟨by show _ ≤ (0 : Nat); omega, by show _ ≤ (0 : Nat); omega⟩) (fun _ H locs hu_243 hw => ?_)
                    refine q_top (gC g 5 q) rfl ?_
                    refine q_iconst hx hb dL_isWhole_246 ?_
                    refine q_icmp_ne (tgt := 269) hx hb dL_isWhole_247 (by decide) (by omega) (fun c_247 => absurd c_247 (by have z := (hqp.2 (by omega)).2.1; omega)) (fun c_247 => ?_)
                    refine lv_aload_n hx hb dL_isWhole_250 rfl (lv_at hl 1 rfl) ?_
                    refine lv_iload hx hb dL_isWhole_251 (lv_at hl 3 rfl) ?_
                    refine q_iconst hx hb dL_isWhole_253 ?_
                    refine q_callK (As := [.int (iI q), .int (iI 2)]) (rest := []) (zl_ok z bb L xs) hx hb hml hown hts hK (qH_z (k_page hg q 2 (by decide) (by omega)) zl_w) yi_X6_page rfl ml_L_117 (by rw [hR]; decide) hw hA hB rfl rfl hl.1 (lv_room (Nat.le_of_ble_eq_true rfl)) dL_isWhole_254 (by rw [hR]; exact ⟨by show _ ≤ (0 : Nat); omega, by show _ ≤ (0 : Nat); omega⟩) (fun _ H locs hu_254 hw => ?_)
                    refine q_top (gC g 6 q) rfl ?_
                    refine lv_aload_n hx hb dL_isWhole_257 rfl (lv_at hl 1 rfl) ?_
                    refine lv_iload hx hb dL_isWhole_258 (lv_at hl 3 rfl) ?_
                    refine q_iconst hx hb dL_isWhole_260 ?_
                    refine q_isub hx hb dL_isWhole_261 ?_
                    refine q_iconst hx hb dL_isWhole_262 ?_
                    refine q_callK (As := [.int (iI (q - 1)), .int (iI 2)]) (rest := [.int (iI (gC g 6 q))]) (zl_ok z bb L xs) hx hb hml hown hts hK (qH_z (k_page hg (q - 1) 2 (by decide) (by omega)) zl_w) yi_X6_page rfl ml_L_117 (by rw [hR]; decide) hw hA hB rfl rfl hl.1 (lv_room (Nat.le_of_ble_eq_true rfl)) dL_isWhole_263 (by rw [hR]; exact ⟨by show _ ≤ (0 : Nat); omega, by show _ ≤ (0 : Nat); omega⟩) (fun _ H locs hu_263 hw => ?_)
                    refine q_top (gC g 6 (q - 1)) rfl ?_
                    refine q_icmp_eq (tgt := 271) hx hb dL_isWhole_266 (by decide) (by omega) (fun c_266 => ?_) (fun c_266 => absurd c_266 (by have z := (hqp.2 (by omega)).2.2; omega))
                    refine lv_iinc (v := iI (q + 1)) (lv' := [(4, .int (iI (q + 1))), (5, .int (iI (gC g 4 q))), (0, .ref (g.1 0 0)), (2, .int (iI (gC g 11 3)))]) hx hb dL_isWhole_271 hl (k := 3) rfl (iI_add _ _) (by decide) rfl (fun ls hl => ?_)
                    refine lv_goto (tgt := 156) hx hb dL_isWhole_274 (by decide) ?_
                    exact ih _ (by omega) (q + 1) H locs ls rfl (by omega) hw (lv_sub hl [2, 3, 0] rfl)
            exact loop_156 _ (0) H locs ls rfl (by omega) hw (lv_sub hl [1, 2, 0] rfl)
          · refine lv_iload_n hx hb dL_isWhole_107 rfl (lv_at hl 1 rfl) ?_
            refine lv_aload_n hx hb dL_isWhole_108 rfl (lv_at hl 0 rfl) ?_
            refine lv_iload hx hb dL_isWhole_109 (lv_at hl 3 rfl) ?_
            refine q_iconst hx hb dL_isWhole_111 ?_
            refine q_callK (As := [.int (iI j), .int (iI 1)]) (rest := [.int (iI ((sI (fun j => jobV (gC g) j 1)) j))]) (zl_ok z bb L xs) hx hb hml hown hts hK (qH_z (k_job hg j 1 (by decide) (by omega)) zl_w) yi_X6_job rfl ml_L_113 (by rw [hR]; decide) hw hA hB rfl rfl hl.1 (lv_room (Nat.le_of_ble_eq_true rfl)) dL_isWhole_112 (by rw [hR]; exact ⟨by show _ ≤ (0 : Nat); omega, by show _ ≤ (0 : Nat); omega⟩) (fun _ H locs hu_112 hw => ?_)
            refine q_top (jobV (gC g) j 1) rfl ?_
            refine q_iadd hx hb dL_isWhole_115 ?_
            refine q_top ((sI (fun j => jobV (gC g) j 1)) (j + 1)) (by exact (sI_s _ hj7.1).symm) ?_
            refine lv_istore_n (lv' := [(2, .int (iI ((sI (fun j => jobV (gC g) j 1)) (j + 1)))), (0, .ref (g.1 0 0)), (3, .int (iI ((sI (fun j => jobV (gC g) j 3)) j))), (4, .int (iI j))]) hx hb dL_isWhole_116 rfl hl (by decide) rfl (fun ls hl => ?_)
            refine lv_iload_n hx hb dL_isWhole_117 rfl (lv_at hl 2 rfl) ?_
            refine lv_aload_n hx hb dL_isWhole_118 rfl (lv_at hl 1 rfl) ?_
            refine lv_iload hx hb dL_isWhole_119 (lv_at hl 3 rfl) ?_
            refine q_iconst hx hb dL_isWhole_121 ?_
            refine q_callK (As := [.int (iI j), .int (iI 3)]) (rest := [.int (iI ((sI (fun j => jobV (gC g) j 3)) j))]) (zl_ok z bb L xs) hx hb hml hown hts hK (qH_z (k_job hg j 3 (by decide) (by omega)) zl_w) yi_X6_job rfl ml_L_113 (by rw [hR]; decide) hw hA hB rfl rfl hl.1 (lv_room (Nat.le_of_ble_eq_true rfl)) dL_isWhole_122 (by rw [hR]; exact ⟨by show _ ≤ (0 : Nat); omega, by show _ ≤ (0 : Nat); omega⟩) (fun _ H locs hu_122 hw => ?_)
            refine q_top (jobV (gC g) j 3) rfl ?_
            refine q_iadd hx hb dL_isWhole_125 ?_
            refine q_top ((sI (fun j => jobV (gC g) j 3)) (j + 1)) (by exact (sI_s _ hj7.1).symm) ?_
            refine lv_istore_n (lv' := [(3, .int (iI ((sI (fun j => jobV (gC g) j 3)) (j + 1)))), (2, .int (iI ((sI (fun j => jobV (gC g) j 1)) (j + 1)))), (0, .ref (g.1 0 0)), (4, .int (iI j))]) hx hb dL_isWhole_126 rfl hl (by decide) rfl (fun ls hl => ?_)
            refine lv_iinc (v := iI (j + 1)) (lv' := [(4, .int (iI (j + 1))), (3, .int (iI ((sI (fun j => jobV (gC g) j 3)) (j + 1)))), (2, .int (iI ((sI (fun j => jobV (gC g) j 1)) (j + 1)))), (0, .ref (g.1 0 0))]) hx hb dL_isWhole_127 hl (k := 3) rfl (iI_add _ _) (by decide) rfl (fun ls hl => ?_)
            refine lv_goto (tgt := 97) hx hb dL_isWhole_130 (by decide) ?_
            exact ih _ (by omega) (j + 1) H locs ls rfl (by omega) hw (lv_sub hl [3, 2, 1, 0] rfl)
        exact loop_97 _ (0) H locs ls rfl (by omega) hw (lv_sub hl [3, 2, 1, 0] rfl)
      refine q_callK (As := [.int (iI 2)]) (rest := []) (zl_ok z bb L xs) hx hb hml hown hts hK (qH_z (k_size hg 2 (by decide)) zl_w) yi_X6_size rfl ml_L_66 (by rw [hR]; decide) hw hA hB rfl rfl hl.1 (lv_room (Nat.le_of_ble_eq_true rfl)) dL_isWhole_61 (by rw [hR]; exact ⟨by show _ ≤ (0 : Nat); omega, by show _ ≤ (0 : Nat); omega⟩) (fun _ H locs hu_61 hw => ?_)
      refine q_top (gC g 11 1) rfl ?_
      refine q_if_le (tgt := 71) hx hb dL_isWhole_64 (by decide) (by omega) (fun c_64 => ?_) (fun c_64 => ?_)
      · refine q_iconst hx hb dL_isWhole_71 ?_
        refine lv_aload_n hx hb dL_isWhole_72 rfl (lv_at hl 0 rfl) ?_
        refine q_iconst hx hb dL_isWhole_73 ?_
        refine q_callK (As := [.int (iI 3)]) (rest := [.int (iI 0)]) (zl_ok z bb L xs) hx hb hml hown hts hK (qH_z (k_size hg 3 (by decide)) zl_w) yi_X6_size rfl ml_L_66 (by rw [hR]; decide) hw hA hB rfl rfl hl.1 (lv_room (Nat.le_of_ble_eq_true rfl)) dL_isWhole_74 (by rw [hR]; exact ⟨by show _ ≤ (0 : Nat); omega, by show _ ≤ (0 : Nat); omega⟩) (fun _ H locs hu_74 hw => ?_)
        refine q_top (gC g 11 2) rfl ?_
        refine q_if_le (tgt := 84) hx hb dL_isWhole_77 (by decide) (by omega) (fun c_77 => ?_) (fun c_77 => absurd c_77 (by omega))
        refine q_iconst hx hb dL_isWhole_84 ?_
        refine q_icmp_eq (tgt := 90) hx hb dL_isWhole_85 (by decide) (by omega) (fun c_85 => ?_) (fun c_85 => absurd c_85 (by omega))
        exact join_90  H locs ls  hw hl
      · refine q_iconst hx hb dL_isWhole_67 ?_
        refine lv_goto (tgt := 72) hx hb dL_isWhole_68 (by decide) ?_
        refine lv_aload_n hx hb dL_isWhole_72 rfl (lv_at hl 0 rfl) ?_
        refine q_iconst hx hb dL_isWhole_73 ?_
        refine q_callK (As := [.int (iI 3)]) (rest := [.int (iI 1)]) (zl_ok z bb L xs) hx hb hml hown hts hK (qH_z (k_size hg 3 (by decide)) zl_w) yi_X6_size rfl ml_L_66 (by rw [hR]; decide) hw hA hB rfl rfl hl.1 (lv_room (Nat.le_of_ble_eq_true rfl)) dL_isWhole_74 (by rw [hR]; exact ⟨by show _ ≤ (0 : Nat); omega, by show _ ≤ (0 : Nat); omega⟩) (fun _ H locs hu_74 hw => ?_)
        refine q_top (gC g 11 2) rfl ?_
        refine q_if_le (tgt := 84) hx hb dL_isWhole_77 (by decide) (by omega) (fun c_77 => absurd c_77 (by omega)) (fun c_77 => ?_)
        refine q_iconst hx hb dL_isWhole_80 ?_
        refine lv_goto (tgt := 85) hx hb dL_isWhole_81 (by decide) ?_
        refine q_icmp_eq (tgt := 90) hx hb dL_isWhole_85 (by decide) (by omega) (fun c_85 => ?_) (fun c_85 => absurd c_85 (by omega))
        exact join_90  H locs ls  hw hl
    · refine lv_iload_n hx hb dL_isWhole_10 rfl (lv_at hl 1 rfl) ?_
      refine lv_aload_n hx hb dL_isWhole_11 rfl (lv_at hl 0 rfl) ?_
      refine lv_iload_n hx hb dL_isWhole_12 rfl (lv_at hl 2 rfl) ?_
      refine q_callK (As := [.int (iI w)]) (rest := [.int (iI ((sI (fun w => watV (gT g) (gC g) w)) w))]) (zl_ok z bb L xs) hx hb hml hown hts hK (qH_z (k_sheetsAt hg w (by omega)) zl_w) yi_X6_sheetsAt rfl ml_L_110 (by rw [hR]; decide) hw hA hB rfl rfl hl.1 (lv_room (Nat.le_of_ble_eq_true rfl)) dL_isWhole_13 (by rw [hR]; exact ⟨by show _ ≤ (0 : Nat); omega, by show _ ≤ (0 : Nat); omega⟩) (fun _ H locs hu_13 hw => ?_)
      refine q_top (watV (gT g) (gC g) w) rfl ?_
      refine q_iadd hx hb dL_isWhole_16 ?_
      refine q_top ((sI (fun w => watV (gT g) (gC g) w)) (w + 1)) (by exact (sI_s _ hw7.1).symm) ?_
      refine lv_istore_n (lv' := [(1, .int (iI ((sI (fun w => watV (gT g) (gC g) w)) (w + 1)))), (0, .ref (g.1 0 0)), (2, .int (iI w))]) hx hb dL_isWhole_17 rfl hl (by decide) rfl (fun ls hl => ?_)
      refine lv_iinc (v := iI (w + 1)) (lv' := [(2, .int (iI (w + 1))), (1, .int (iI ((sI (fun w => watV (gT g) (gC g) w)) (w + 1)))), (0, .ref (g.1 0 0))]) hx hb dL_isWhole_18 hl (k := 2) rfl (iI_add _ _) (by decide) rfl (fun ls hl => ?_)
      refine lv_goto (tgt := 4) hx hb dL_isWhole_21 (by decide) ?_
      exact ih _ (by omega) (w + 1) H locs ls rfl (by omega) hw (lv_sub hl [2, 1, 0] rfl)
  exact loop_4 _ (0) H locs ls rfl (by omega) hw (lv_sub hl [2, 1, 0] rfl)

theorem kd_l {g : Wd} {N : Int} (h : gd g N) (hN : N < 1000 := by omega) : 0 ≤ g.2.2.2.1 0 + 1 ∧ g.2.2.2.1 0 + 1 ≤ N + 1 ∧ N + 1 ≤ 1000000 ∧ 0 ≤ nxU (g.2.2.2.1 1) ∧ nxU (g.2.2.2.1 1) ≤ 10 := by
  have q := h.2.2.2.2.2.1
  unfold nxU
  split <;> omega

set_option maxHeartbeats 4000000 in
set_option maxRecDepth 100000 in
theorem c_L_acts (hg : gd g N) (hN : N < 1000) (hL : L ≤ 3072) (k : Int) (hk : 0 ≤ k ∧ k ≤ 500) : qH l (ZL z bb L xs) D (tyG cI cB cZ cS cJ) yL_acts (.code yL_acts cL_acts 4 (Option.some FieldType.boolean) :: gW) 6 145 0 0 [.ref (g.1 0 0), .ref bb, .int (iI k)] (wW g cI cB cZ cS) (fun u : Wd => gd u (N + 1) ∧ u.1 0 = g.1 0 ∧ gT u = gT g) (fun u => some (.int (iI (1)))) (fun u => wW u cI cB cZ cS) := by
  refine qH_enterI (val := fun u => iI (1)) (by decide) (Nat.le_of_ble_eq_true rfl) (fun u hu => ⟨rfl, nar_z (Or.inr rfl)⟩) (fun p e R s m args below meth c Q ls A X hR hA hw hB hl hret => ?_)
  obtain ⟨hx, hb, hml, hown, hts, hK⟩ := X
  have hl : lv_has ls 4 [(0, .ref (g.1 0 0)), (1, .ref bb), (2, .int (iI k))] := hl
  have hZ := hB.1.1.1.1
  have hkf := kd_f hg
  suffices K : ∀ (H : Heap) (locs : List Loc), qw D A s.heap (wW g cI cB cZ cS) H locs → W p l e R s m args below meth c H locs 0 0 Q (F0 m 0 ls []) from K s.heap [] hw
  clear hw
  intro H locs hw
  refine lv_aload_n hx hb dL_acts_0 rfl (lv_at hl 0 rfl) ?_
  refine q_iconst hx hb dL_acts_1 ?_
  refine q_callK (As := [.int (iI 3)]) (rest := []) (zl_ok z bb L xs) hx hb hml hown hts hK (qH_z (k_size hg 3 (by decide)) zl_w) yi_X6_size rfl ml_L_66 (by rw [hR]; decide) hw hA hB rfl rfl hl.1 (lv_room (Nat.le_of_ble_eq_true rfl)) dL_acts_2 (by rw [hR]; exact ⟨by show _ ≤ (0 : Nat); omega, by show _ ≤ (0 : Nat); omega⟩) (fun _ H locs hu_2 hw => ?_)
  refine q_top (gC g 11 2) rfl ?_
  refine q_if_ne (tgt := 29) hx hb dL_acts_5 (by decide) (by omega) (fun c_5 => ?_) (fun c_5 => ?_)
  · refine lv_aload_n hx hb dL_acts_29 rfl (lv_at hl 1 rfl) ?_
    refine lv_iload_n hx hb dL_acts_30 rfl (lv_at hl 2 rfl) ?_
    refine q_iconst hx hb dL_acts_31 ?_
    refine q_iadd hx hb dL_acts_32 ?_
    refine q_iconst hx hb dL_acts_33 ?_
    refine q_callPSz (As := [.ref bb, .int (iI (k + 1)), .int (iI 4)]) (rest := []) (zl_ok z bb L xs) hx hb hml hown hts hK (c_L_pick (k + 1) (4) hL (by omega) (by omega)) yt_L_pick ml_L_15 (by rw [hR]; decide) P_nil (z_M (zl_ok z bb L xs) hB hw hA [] rfl) rfl rfl hl.1 (lv_room (Nat.le_of_ble_eq_true rfl)) dL_acts_34 (by rw [hR]; exact ⟨by show _ ≤ (0 : Nat); omega, by show _ ≤ (0 : Nat); omega⟩) ?_
    have pk_34 := pkV_rg (xs := xs) (L := L) (k := (k + 1)) (n := 4) (by omega)
    refine lv_istore_n (lv' := [(3, .int (iI (pkV xs L (k + 1) 4))), (0, .ref (g.1 0 0)), (1, .ref bb), (2, .int (iI k))]) hx hb dL_acts_37 rfl hl (by decide) rfl (fun ls hl => ?_)
    refine lv_iload_n hx hb dL_acts_38 rfl (lv_at hl 0 rfl) ?_
    refine q_if_ne (tgt := 55) hx hb dL_acts_39 (by decide) (by omega) (fun c_39 => ?_) (fun c_39 => ?_)
    · refine lv_iload_n hx hb dL_acts_55 rfl (lv_at hl 0 rfl) ?_
      refine q_iconst hx hb dL_acts_56 ?_
      refine q_icmp_ne (tgt := 82) hx hb dL_acts_57 (by decide) (by omega) (fun c_57 => ?_) (fun c_57 => ?_)
      · refine lv_aload_n hx hb dL_acts_82 rfl (lv_at hl 1 rfl) ?_
        refine q_callK (As := []) (rest := []) (zl_ok z bb L xs) hx hb hml hown hts hK (qH_z (k_remove hg (by omega) (by omega)) zl_w) yi_X6_remove rfl ml_L_78 (by rw [hR]; decide) hw hA hB rfl rfl hl.1 (lv_room (Nat.le_of_ble_eq_true rfl)) dL_acts_83 (by rw [hR]; exact ⟨by show _ ≤ (0 : Nat); omega, by show _ ≤ (0 : Nat); omega⟩) (fun v_83 H locs hu_83 hw => ?_)
        refine q_top (gC g 11 1) rfl ?_
        obtain ⟨g83, rfl⟩ : ∃ q, q = v_83 := ⟨_, rfl⟩
        have hw : qw D A s.heap (wW g83 cI cB cZ cS) H locs := hw
        have hg83 : gd g83 (N + 1) := kd_u hu_83 hg.1 (WC_rmC hg.2.1) ((PV_rm hg.2.1 hg.2.2.1)) hg.2.2.2.1 hg.2.2.2.2.1 (kd_l hg) hg.2.2.2.2.2.2
        have ex83 : g83.1 0 = g.1 0 := hu_83.1
        have el83 : g83.1 0 0 = g.1 0 0 := by rw [ex83]
        rw [← el83] at hl
        refine q_if_le (tgt := 93) hx hb dL_acts_86 (by decide) (by omega) (fun c_86 => absurd c_86 (by omega)) (fun c_86 => ?_)
        refine q_iconst hx hb dL_acts_89 ?_
        refine lv_goto (tgt := 94) hx hb dL_acts_90 (by decide) ?_
        refine q_top (1) (by rfl) ?_
        refine W_wide (k := 0) (n := 0) (by omega) (by omega) ?_
        exact hret g83 H locs 94 ls (show gd g83 (N + 1) ∧ g83.1 0 = g.1 0 ∧ gT g83 = gT g from ⟨hg83, hu_83.1, hu_83.2.1⟩) hw dL_acts_94
      · refine lv_aload_n hx hb dL_acts_60 rfl (lv_at hl 1 rfl) ?_
        refine q_iconst hx hb dL_acts_61 ?_
        refine q_callK (As := [.int (iI 3)]) (rest := []) (zl_ok z bb L xs) hx hb hml hown hts hK (qH_z (k_size hg 3 (by decide)) zl_w) yi_X6_size rfl ml_L_66 (by rw [hR]; decide) hw hA hB rfl rfl hl.1 (lv_room (Nat.le_of_ble_eq_true rfl)) dL_acts_62 (by rw [hR]; exact ⟨by show _ ≤ (0 : Nat); omega, by show _ ≤ (0 : Nat); omega⟩) (fun _ H locs hu_62 hw => ?_)
        refine q_top (gC g 11 2) rfl ?_
        refine q_iconst hx hb dL_acts_65 ?_
        refine q_icmp_ge (tgt := 82) hx hb dL_acts_66 (by decide) (by omega) (fun c_66 => ?_) (fun c_66 => ?_)
        · refine lv_aload_n hx hb dL_acts_82 rfl (lv_at hl 1 rfl) ?_
          refine q_callK (As := []) (rest := []) (zl_ok z bb L xs) hx hb hml hown hts hK (qH_z (k_remove hg (by omega) (by omega)) zl_w) yi_X6_remove rfl ml_L_78 (by rw [hR]; decide) hw hA hB rfl rfl hl.1 (lv_room (Nat.le_of_ble_eq_true rfl)) dL_acts_83 (by rw [hR]; exact ⟨by show _ ≤ (0 : Nat); omega, by show _ ≤ (0 : Nat); omega⟩) (fun v_83 H locs hu_83 hw => ?_)
          refine q_top (gC g 11 1) rfl ?_
          obtain ⟨g83, rfl⟩ : ∃ q, q = v_83 := ⟨_, rfl⟩
          have hw : qw D A s.heap (wW g83 cI cB cZ cS) H locs := hw
          have hg83 : gd g83 (N + 1) := kd_u hu_83 hg.1 (WC_rmC hg.2.1) ((PV_rm hg.2.1 hg.2.2.1)) hg.2.2.2.1 hg.2.2.2.2.1 (kd_l hg) hg.2.2.2.2.2.2
          have ex83 : g83.1 0 = g.1 0 := hu_83.1
          have el83 : g83.1 0 0 = g.1 0 0 := by rw [ex83]
          rw [← el83] at hl
          refine q_if_le (tgt := 93) hx hb dL_acts_86 (by decide) (by omega) (fun c_86 => absurd c_86 (by omega)) (fun c_86 => ?_)
          refine q_iconst hx hb dL_acts_89 ?_
          refine lv_goto (tgt := 94) hx hb dL_acts_90 (by decide) ?_
          refine q_top (1) (by rfl) ?_
          refine W_wide (k := 0) (n := 0) (by omega) (by omega) ?_
          exact hret g83 H locs 94 ls (show gd g83 (N + 1) ∧ g83.1 0 = g.1 0 ∧ gT g83 = gT g from ⟨hg83, hu_83.1, hu_83.2.1⟩) hw dL_acts_94
        · refine lv_aload_n hx hb dL_acts_69 rfl (lv_at hl 1 rfl) ?_
          refine q_callK (As := []) (rest := []) (zl_ok z bb L xs) hx hb hml hown hts hK (qH_z (k_accept hg (by omega) (by omega)) zl_w) yi_X6_accept rfl ml_L_75 (by rw [hR]; decide) hw hA hB rfl rfl hl.1 (lv_room (Nat.le_of_ble_eq_true rfl)) dL_acts_70 (by rw [hR]; exact ⟨by show _ ≤ (0 : Nat); omega, by show _ ≤ (0 : Nat); omega⟩) (fun v_70 H locs hu_70 hw => ?_)
          refine q_top (goR (gT g) (gC g) (gC g 11 0 - gC g 11 1)) rfl ?_
          obtain ⟨g70, rfl⟩ : ∃ q, q = v_70 := ⟨_, rfl⟩
          have hw : qw D A s.heap (wW g70 cI cB cZ cS) H locs := hw
          have hg70 : gd g70 (N + 1) := kd_u hu_70 hg.1 (WC_goC hg.1 (WC_9 hg.2.1) (by show 1 ≤ gC g 11 1; omega)) ((PV_go hg.2.1 hg.2.2.1 (by show 1 ≤ gC g 11 1; omega))) hg.2.2.2.1 hg.2.2.2.2.1 (kd_l hg) hg.2.2.2.2.2.2
          have ex70 : g70.1 0 = g.1 0 := hu_70.1
          have hgp := goR_p (T := gT g) (C := gC g) (f := gC g 11 0 - gC g 11 1)
          have hgq := pgs_rg (T := gT g) (C := gC g) (f := gC g 11 0 - gC g 11 1)
          have el70 : g70.1 0 0 = g.1 0 0 := by rw [ex70]
          rw [← el70] at hl
          refine q_if_lt (tgt := 80) hx hb dL_acts_73 (by decide) (by omega) (fun c_73 => absurd c_73 (by omega)) (fun c_73 => ?_)
          refine q_iconst hx hb dL_acts_76 ?_
          refine lv_goto (tgt := 81) hx hb dL_acts_77 (by decide) ?_
          refine q_top (1) (by rfl) ?_
          refine W_wide (k := 0) (n := 0) (by omega) (by omega) ?_
          exact hret g70 H locs 81 ls (show gd g70 (N + 1) ∧ g70.1 0 = g.1 0 ∧ gT g70 = gT g from ⟨hg70, hu_70.1, hu_70.2.1⟩) hw dL_acts_81
    · refine lv_aload_n hx hb dL_acts_42 rfl (lv_at hl 1 rfl) ?_
      refine q_callK (As := []) (rest := []) (zl_ok z bb L xs) hx hb hml hown hts hK (qH_z (k_putBack hg (by omega) (by omega)) zl_w) yi_X6_putBack rfl ml_L_72 (by rw [hR]; decide) hw hA hB rfl rfl hl.1 (lv_room (Nat.le_of_ble_eq_true rfl)) dL_acts_43 (by rw [hR]; exact ⟨by show _ ≤ (0 : Nat); omega, by show _ ≤ (0 : Nat); omega⟩) (fun v_43 H locs hu_43 hw => ?_)
      refine q_top (gT g 8 0 - (gC g 11 0 - gC g 11 1)) rfl ?_
      obtain ⟨g43, rfl⟩ : ∃ q, q = v_43 := ⟨_, rfl⟩
      have hw : qw D A s.heap (wW g43 cI cB cZ cS) H locs := hw
      have hg43 : gd g43 (N + 1) := kd_u hu_43 hg.1 (WC_pbC hg.2.1 (by show 0 < gC g 11 2 ∨ gC g 11 1 = 0; omega)) ((PV_pb hg.2.1 hg.2.2.1)) hg.2.2.2.1 hg.2.2.2.2.1 (kd_l hg) hg.2.2.2.2.2.2
      have ex43 : g43.1 0 = g.1 0 := hu_43.1
      have el43 : g43.1 0 0 = g.1 0 0 := by rw [ex43]
      rw [← el43] at hl
      refine q_if_le (tgt := 53) hx hb dL_acts_46 (by decide) (by omega) (fun c_46 => absurd c_46 (by omega)) (fun c_46 => ?_)
      refine q_iconst hx hb dL_acts_49 ?_
      refine lv_goto (tgt := 54) hx hb dL_acts_50 (by decide) ?_
      refine q_top (1) (by rfl) ?_
      refine W_wide (k := 0) (n := 0) (by omega) (by omega) ?_
      exact hret g43 H locs 54 ls (show gd g43 (N + 1) ∧ g43.1 0 = g.1 0 ∧ gT g43 = gT g from ⟨hg43, hu_43.1, hu_43.2.1⟩) hw dL_acts_54
  · refine lv_aload_n hx hb dL_acts_8 rfl (lv_at hl 0 rfl) ?_
    refine q_iconst hx hb dL_acts_9 ?_
    refine lv_aload_n hx hb dL_acts_10 rfl (lv_at hl 1 rfl) ?_
    refine lv_iload_n hx hb dL_acts_11 rfl (lv_at hl 2 rfl) ?_
    refine q_iconst hx hb dL_acts_12 ?_
    refine q_callPSz (As := [.ref bb, .int (iI k), .int (iI 2)]) (rest := [.int (iI 1), .ref (g.1 0 0)]) (zl_ok z bb L xs) hx hb hml hown hts hK (c_L_pick (k) (2) hL (by omega) (by omega)) yt_L_pick ml_L_15 (by rw [hR]; decide) P_nil (z_M (zl_ok z bb L xs) hB hw hA [] rfl) rfl rfl hl.1 (lv_room (Nat.le_of_ble_eq_true rfl)) dL_acts_13 (by rw [hR]; exact ⟨by show _ ≤ (0 : Nat); omega, by show _ ≤ (0 : Nat); omega⟩) ?_
    have pk_13 := pkV_rg (xs := xs) (L := L) (k := k) (n := 2) (by omega)
    refine q_iadd hx hb dL_acts_16 ?_
    refine q_callK (As := [.int (iI (1 + pkV xs L k 2))]) (rest := []) (zl_ok z bb L xs) hx hb hml hown hts hK (qH_z (k_feed hg (1 + pkV xs L k 2) (by omega) (by omega)) zl_w) yi_X6_feed rfl ml_L_69 (by rw [hR]; decide) hw hA hB rfl rfl hl.1 (lv_room (Nat.le_of_ble_eq_true rfl)) dL_acts_17 (by rw [hR]; exact ⟨by show _ ≤ (0 : Nat); omega, by show _ ≤ (0 : Nat); omega⟩) (fun v_17 H locs hu_17 hw => ?_)
    refine q_top (feedN (gT g) (1 + pkV xs L k 2 : Int).toNat (gC g)) rfl ?_
    obtain ⟨g17, rfl⟩ : ∃ q, q = v_17 := ⟨_, rfl⟩
    have hw : qw D A s.heap (wW g17 cI cB cZ cS) H locs := hw
    have hg17 : gd g17 (N + 1) := kd_u hu_17 hg.1 (PV_feed hg.1 _ hg.2.1 hg.2.2.1).2.1 ((PV_feed hg.1 _ hg.2.1 hg.2.2.1).1) hg.2.2.2.1 hg.2.2.2.2.1 (kd_l hg) hg.2.2.2.2.2.2
    have ex17 : g17.1 0 = g.1 0 := hu_17.1
    have hfn := (PV_feed hg.1 (1 + pkV xs L k 2).toNat hg.2.1 hg.2.2.1).2.2
    have hfm := feedN_le (T := gT g) (1 + pkV xs L k 2).toNat (C := gC g)
    have el17 : g17.1 0 0 = g.1 0 0 := by rw [ex17]
    rw [← el17] at hl
    refine q_if_lt (tgt := 27) hx hb dL_acts_20 (by decide) (by omega) (fun c_20 => absurd c_20 (by omega)) (fun c_20 => ?_)
    refine q_iconst hx hb dL_acts_23 ?_
    refine lv_goto (tgt := 28) hx hb dL_acts_24 (by decide) ?_
    refine q_top (1) (by rfl) ?_
    refine W_wide (k := 0) (n := 0) (by omega) (by omega) ?_
    exact hret g17 H locs 28 ls (show gd g17 (N + 1) ∧ g17.1 0 = g.1 0 ∧ gT g17 = gT g from ⟨hg17, hu_17.1, hu_17.2.1⟩) hw dL_acts_28

theorem nx_0 {T C : Nat → Int → Int} (h : C 11 0 < T 8 0) : nxtV T C 0 = pkn T C := by
  unfold nxtV pkn
  rw [if_neg (by omega)]
  rfl
theorem nx_3 {T C : Nat → Int → Int} (h : C 11 0 < T 8 0) : nxtV T C 3 = pkr T C := by
  unfold nxtV pkr pkn
  rw [if_neg (by omega)]
  rfl
theorem nx_4 {T C : Nat → Int → Int} (h : C 11 0 < T 8 0) : nxtV T C 4 = pgs T C (C 11 0) := by
  unfold nxtV
  rw [if_neg (by omega)]
  rfl

set_option maxHeartbeats 4000000 in
set_option maxRecDepth 100000 in
theorem c_L_isTold (hg : gd g N) (hN : N < 1000) (h0 : gC g 11 0 < gT g 8 0) (h2 : gC g 11 2 = 0) : qH l (ZL z bb L xs) D (tyG cI cB cZ cS cJ) yL_isTold (.code yL_isTold cL_isTold 9 (Option.some FieldType.boolean) :: gW) 6 145 0 0 [.ref (g.1 0 0)] (wW g cI cB cZ cS) (fun u : Wd => gd u (N + 1) ∧ u.1 0 = g.1 0 ∧ gT u = gT g) (fun u => some (.int (iI (1)))) (fun u => wW u cI cB cZ cS) := by
  refine qH_enterI (val := fun u => iI (1)) (by decide) (Nat.le_of_ble_eq_true rfl) (fun u hu => ⟨rfl, nar_z (Or.inr rfl)⟩) (fun p e R s m args below meth c Q ls A X hR hA hw hB hl hret => ?_)
  obtain ⟨hx, hb, hml, hown, hts, hK⟩ := X
  have hl : lv_has ls 9 [(0, .ref (g.1 0 0))] := hl
  have hZ := hB.1.1.1.1
  have hkf := kd_f hg
  have h1 : gC g 11 1 = 0 := hkf.1.mp h2
  have hn := pkn_is (T := gT g) (C := gC g) h0
  have hpr : 0 ≤ pkr (gT g) (gC g) ∧ pkr (gT g) (gC g) ≤ 3 := rsn_bd _ _ _ _ _ _ _
  have hpg := pgs_rg (T := gT g) (C := gC g) (f := gC g 11 0)
  suffices K : ∀ (H : Heap) (locs : List Loc), qw D A s.heap (wW g cI cB cZ cS) H locs → W p l e R s m args below meth c H locs 0 0 Q (F0 m 0 ls []) from K s.heap [] hw
  clear hw
  intro H locs hw
  by_cases r : pkr (gT g) (gC g) = 0
  · have hgo := pickC_go r h1 h2
    have htg := told_go h0 r (fun _ _ _ => by omega) hg.2.1 hg.2.2.1 h2
    refine lv_aload_n hx hb dL_isTold_0 rfl (lv_at hl 0 rfl) ?_
    refine q_iconst hx hb dL_isTold_1 ?_
    refine q_callK (As := [.int (iI 0)]) (rest := []) (zl_ok z bb L xs) hx hb hml hown hts hK (qH_z (k_next hg 0 (by decide)) zl_w) yi_X6_next rfl ml_L_82 (by rw [hR]; decide) hw hA hB rfl rfl hl.1 (lv_room (Nat.le_of_ble_eq_true rfl)) dL_isTold_2 (by rw [hR]; exact ⟨by show _ ≤ (0 : Nat); omega, by show _ ≤ (0 : Nat); omega⟩) (fun v_2 H locs hu_2 hw => ?_)
    refine q_top (nxtV (gT g) (gC g) 0) rfl ?_
    obtain ⟨g2, rfl⟩ : ∃ q, q = v_2 := ⟨_, rfl⟩
    have hw : qw D A s.heap (wW g2 cI cB cZ cS) H locs := hw
    have hg2 : gd g2 N := kd_u hu_2 hg.1 hg.2.1 hg.2.2.1 hg.2.2.2.1 hg.2.2.2.2.1 hg.2.2.2.2.2.1 hg.2.2.2.2.2.2
    have eT2 : gT g2 = gT g := hu_2.2.1
    have eC2 : gC g2 = gC g := hu_2.2.2.1
    have ex2 : g2.1 0 = g.1 0 := hu_2.1
    refine q_top (pkn (gT g) (gC g)) (by exact nx_0 h0) ?_
    have el2 : g2.1 0 0 = g.1 0 0 := by rw [ex2]
    rw [← el2] at hl
    refine lv_istore_n (lv' := [(1, .int (iI (pkn (gT g) (gC g)))), (0, .ref (g2.1 0 0))]) hx hb dL_isTold_5 rfl hl (by decide) rfl (fun ls hl => ?_)
    refine lv_aload_n hx hb dL_isTold_6 rfl (lv_at hl 1 rfl) ?_
    refine q_iconst hx hb dL_isTold_7 ?_
    refine q_callK (As := [.int (iI 3)]) (rest := []) (zl_ok z bb L xs) hx hb hml hown hts hK (qH_z (k_next hg2 3 (by decide)) zl_w) yi_X6_next rfl ml_L_82 (by rw [hR]; decide) hw hA hB rfl rfl hl.1 (lv_room (Nat.le_of_ble_eq_true rfl)) dL_isTold_8 (by rw [hR]; exact ⟨by show _ ≤ (0 : Nat); omega, by show _ ≤ (0 : Nat); omega⟩) (fun v_8 H locs hu_8 hw => ?_)
    refine q_top (nxtV (gT g2) (gC g2) 3) rfl ?_
    obtain ⟨g8, rfl⟩ : ∃ q, q = v_8 := ⟨_, rfl⟩
    have hw : qw D A s.heap (wW g8 cI cB cZ cS) H locs := hw
    have hg8 : gd g8 N := kd_u hu_8 hg2.1 hg2.2.1 hg2.2.2.1 hg2.2.2.2.1 hg2.2.2.2.2.1 hg2.2.2.2.2.2.1 hg2.2.2.2.2.2.2
    have eT8 : gT g8 = gT g := hu_8.2.1.trans eT2
    have eC8 : gC g8 = gC g := hu_8.2.2.1.trans eC2
    have ex8 : g8.1 0 = g2.1 0 := hu_8.1
    refine q_top (0) (by rw [eT2, eC2]; exact (nx_3 h0).trans r) ?_
    have el8 : g8.1 0 0 = g2.1 0 0 := by rw [ex8]
    rw [← el8] at hl
    refine lv_istore_n (lv' := [(2, .int (iI 0)), (1, .int (iI (pkn (gT g) (gC g)))), (0, .ref (g8.1 0 0))]) hx hb dL_isTold_11 rfl hl (by decide) rfl (fun ls hl => ?_)
    refine lv_aload_n hx hb dL_isTold_12 rfl (lv_at hl 2 rfl) ?_
    refine q_iconst hx hb dL_isTold_13 ?_
    refine q_callK (As := [.int (iI 4)]) (rest := []) (zl_ok z bb L xs) hx hb hml hown hts hK (qH_z (k_next hg8 4 (by decide)) zl_w) yi_X6_next rfl ml_L_82 (by rw [hR]; decide) hw hA hB rfl rfl hl.1 (lv_room (Nat.le_of_ble_eq_true rfl)) dL_isTold_14 (by rw [hR]; exact ⟨by show _ ≤ (0 : Nat); omega, by show _ ≤ (0 : Nat); omega⟩) (fun v_14 H locs hu_14 hw => ?_)
    refine q_top (nxtV (gT g8) (gC g8) 4) rfl ?_
    obtain ⟨g14, rfl⟩ : ∃ q, q = v_14 := ⟨_, rfl⟩
    have hw : qw D A s.heap (wW g14 cI cB cZ cS) H locs := hw
    have hg14 : gd g14 N := kd_u hu_14 hg8.1 hg8.2.1 hg8.2.2.1 hg8.2.2.2.1 hg8.2.2.2.2.1 hg8.2.2.2.2.2.1 hg8.2.2.2.2.2.2
    have eT14 : gT g14 = gT g := hu_14.2.1.trans eT8
    have eC14 : gC g14 = gC g := hu_14.2.2.1.trans eC8
    have ex14 : g14.1 0 = g8.1 0 := hu_14.1
    refine q_top (pgs (gT g) (gC g) (gC g 11 0)) (by rw [eT8, eC8]; exact nx_4 h0) ?_
    have el14 : g14.1 0 0 = g8.1 0 0 := by rw [ex14]
    rw [← el14] at hl
    refine lv_istore_n (lv' := [(3, .int (iI (pgs (gT g) (gC g) (gC g 11 0)))), (2, .int (iI 0)), (1, .int (iI (pkn (gT g) (gC g)))), (0, .ref (g14.1 0 0))]) hx hb dL_isTold_17 rfl hl (by decide) rfl (fun ls hl => ?_)
    refine lv_aload_n hx hb dL_isTold_18 rfl (lv_at hl 3 rfl) ?_
    refine q_iconst hx hb dL_isTold_19 ?_
    refine q_callK (As := [.int (iI 0)]) (rest := []) (zl_ok z bb L xs) hx hb hml hown hts hK (qH_z (k_stack hg14 0 (by omega)) zl_w) yi_X6_stack rfl ml_L_126 (by rw [hR]; decide) hw hA hB rfl rfl hl.1 (lv_room (Nat.le_of_ble_eq_true rfl)) dL_isTold_20 (by rw [hR]; exact ⟨by show _ ≤ (0 : Nat); omega, by show _ ≤ (0 : Nat); omega⟩) (fun _ H locs hu_20 hw => ?_)
    refine q_top (if 0 ≤ 0 ∧ 0 < gT g14 8 0 - gC g14 11 0 then gC g14 11 0 + 0 else -1) rfl ?_
    refine q_top (gC g 11 0) (by rw [if_pos (by rw [eT14, eC14]; omega), eC14]; omega) ?_
    refine lv_istore (lv' := [(4, .int (iI (gC g 11 0))), (3, .int (iI (pgs (gT g) (gC g) (gC g 11 0)))), (2, .int (iI 0)), (1, .int (iI (pkn (gT g) (gC g)))), (0, .ref (g14.1 0 0))]) hx hb dL_isTold_23 hl (by decide) rfl (fun ls hl => ?_)
    refine lv_aload_n hx hb dL_isTold_25 rfl (lv_at hl 4 rfl) ?_
    refine q_iconst hx hb dL_isTold_26 ?_
    refine q_callK (As := [.int (iI 4)]) (rest := []) (zl_ok z bb L xs) hx hb hml hown hts hK (qH_z (k_size hg14 4 (by decide)) zl_w) yi_X6_size rfl ml_L_66 (by rw [hR]; decide) hw hA hB rfl rfl hl.1 (lv_room (Nat.le_of_ble_eq_true rfl)) dL_isTold_27 (by rw [hR]; exact ⟨by show _ ≤ (0 : Nat); omega, by show _ ≤ (0 : Nat); omega⟩) (fun _ H locs hu_27 hw => ?_)
    refine q_top (gC g14 11 3) rfl ?_
    refine q_top (gC g 11 3) (by rw [eC14]) ?_
    refine lv_istore (lv' := [(5, .int (iI (gC g 11 3))), (4, .int (iI (gC g 11 0))), (3, .int (iI (pgs (gT g) (gC g) (gC g 11 0)))), (2, .int (iI 0)), (1, .int (iI (pkn (gT g) (gC g)))), (0, .ref (g14.1 0 0))]) hx hb dL_isTold_30 hl (by decide) rfl (fun ls hl => ?_)
    refine lv_aload_n hx hb dL_isTold_32 rfl (lv_at hl 5 rfl) ?_
    refine q_iconst hx hb dL_isTold_33 ?_
    refine q_callK (As := [.int (iI 1)]) (rest := []) (zl_ok z bb L xs) hx hb hml hown hts hK (qH_z (k_size hg14 1 (by decide)) zl_w) yi_X6_size rfl ml_L_66 (by rw [hR]; decide) hw hA hB rfl rfl hl.1 (lv_room (Nat.le_of_ble_eq_true rfl)) dL_isTold_34 (by rw [hR]; exact ⟨by show _ ≤ (0 : Nat); omega, by show _ ≤ (0 : Nat); omega⟩) (fun _ H locs hu_34 hw => ?_)
    refine q_top (gT g14 8 0 - gC g14 11 0) rfl ?_
    refine q_top (gT g 8 0 - gC g 11 0) (by rw [eT14, eC14]) ?_
    refine lv_istore (lv' := [(6, .int (iI (gT g 8 0 - gC g 11 0))), (5, .int (iI (gC g 11 3))), (4, .int (iI (gC g 11 0))), (3, .int (iI (pgs (gT g) (gC g) (gC g 11 0)))), (2, .int (iI 0)), (1, .int (iI (pkn (gT g) (gC g)))), (0, .ref (g14.1 0 0))]) hx hb dL_isTold_37 hl (by decide) rfl (fun ls hl => ?_)
    refine lv_aload_n hx hb dL_isTold_39 rfl (lv_at hl 6 rfl) ?_
    refine q_iconst hx hb dL_isTold_40 ?_
    refine q_callK (As := [.int (iI 0)]) (rest := []) (zl_ok z bb L xs) hx hb hml hown hts hK (qH_z (k_saveSnapshot hg14 ) zl_w) yi_X6_saveSnapshot rfl ml_L_129 (by rw [hR]; decide) hw hA hB rfl rfl hl.1 (lv_room (Nat.le_of_ble_eq_true rfl)) dL_isTold_41 (by rw [hR]; exact ⟨by show _ ≤ (0 : Nat); omega, by show _ ≤ (0 : Nat); omega⟩) (fun v_41 H locs hu_41 hw => ?_)
    refine q_top (1) rfl ?_
    obtain ⟨g41, rfl⟩ : ∃ q, q = v_41 := ⟨_, rfl⟩
    have hw : qw D A s.heap (wW g41 cI cB cZ cS) H locs := hw
    have hg41 : gd g41 N := kd_u hu_41 hg14.1 hg14.2.1 hg14.2.2.1 hg14.2.2.2.1 hg14.2.2.2.2.1 hg14.2.2.2.2.2.1 (fun i => by unfold uI; split; exact Or.inr rfl; exact hg14.2.2.2.2.2.2 i)
    have eT41 : gT g41 = gT g := hu_41.2.1.trans eT14
    have eC41 : gC g41 = gC g := hu_41.2.2.1.trans eC14
    have h2_41 : gC g41 11 2 = 0 := by rw [eC41]; exact h2
    have ex41 : g41.1 0 = g14.1 0 := hu_41.1
    have el41 : g41.1 0 0 = g14.1 0 0 := by rw [ex41]
    rw [← el41] at hl
    refine lv_pop hx hb dL_isTold_44 rfl ?_
    refine lv_aload_n hx hb dL_isTold_45 rfl (lv_at hl 6 rfl) ?_
    refine q_iconst hx hb dL_isTold_46 ?_
    refine q_callK (As := [.int (iI 1)]) (rest := []) (zl_ok z bb L xs) hx hb hml hown hts hK (qH_z (k_feed hg41 1 (by omega) (by omega)) zl_w) yi_X6_feed rfl ml_L_69 (by rw [hR]; decide) hw hA hB rfl rfl hl.1 (lv_room (Nat.le_of_ble_eq_true rfl)) dL_isTold_47 (by rw [hR]; exact ⟨by show _ ≤ (0 : Nat); omega, by show _ ≤ (0 : Nat); omega⟩) (fun v_47 H locs hu_47 hw => ?_)
    refine q_top (feedN (gT g41) (1 : Int).toNat (gC g41)) rfl ?_
    obtain ⟨g47, rfl⟩ : ∃ q, q = v_47 := ⟨_, rfl⟩
    have hw : qw D A s.heap (wW g47 cI cB cZ cS) H locs := hw
    have hg47 : gd g47 (N + 1) := kd_u hu_47 hg41.1 (PV_feed hg41.1 _ hg41.2.1 hg41.2.2.1).2.1 ((PV_feed hg41.1 _ hg41.2.1 hg41.2.2.1).1) hg41.2.2.2.1 hg41.2.2.2.2.1 (kd_l hg41) hg41.2.2.2.2.2.2
    have eT47 : gT g47 = gT g := hu_47.2.1.trans eT41
    have eC47 : gC g47 = pickC (gT g) (gC g) := hu_47.2.2.1.trans (by show feedC (gT g41) (1 : Int).toNat (gC g41) = _; rw [eT41, eC41]; exact (feed_1 ⟨h0, h2⟩).1)
    have es47 : g47.2.2.2.2.1 0 = uI (g14.2.2.2.2.1 0) 0 1 := hu_47.2.2.2.2.2.2.1.trans hu_41.2.2.2.2.2.2.1
    have ev47 : g47.2.2.2.2.2 1 (0 : Int).toNat = gC g := by rw [hu_47.2.2.2.2.2.2.2.2, hu_41.2.2.2.2.2.2.2.2]; exact (if_pos rfl).trans eC14
    have hT47 : gT g47 8 0 = gT g 8 0 := by rw [eT47]
    have hw6 : 0 ≤ pickC (gT g) (gC g) 0 (gC g 11 0) ∧ pickC (gT g) (gC g) 0 (gC g 11 0) ≤ 6 := by rw [← eC47]; have q := hg47.2.1.2.2.1 (gC g 11 0) (by omega) (by omega); exact ⟨q.1, q.2.1⟩
    have ex47 : g47.1 0 = g41.1 0 := hu_47.1
    refine q_top (1) (by rw [eT41, eC41]; exact (feed_1 ⟨h0, h2⟩).2.trans (if_pos r)) ?_
    have el47 : g47.1 0 0 = g41.1 0 0 := by rw [ex47]
    rw [← el47] at hl
    refine lv_istore (lv' := [(7, .int (iI 1)), (6, .int (iI (gT g 8 0 - gC g 11 0))), (5, .int (iI (gC g 11 3))), (4, .int (iI (gC g 11 0))), (3, .int (iI (pgs (gT g) (gC g) (gC g 11 0)))), (2, .int (iI 0)), (1, .int (iI (pkn (gT g) (gC g)))), (0, .ref (g47.1 0 0))]) hx hb dL_isTold_50 hl (by decide) rfl (fun ls hl => ?_)
    refine lv_iload hx hb dL_isTold_52 (lv_at hl 0 rfl) ?_
    refine lv_iload_n hx hb dL_isTold_54 rfl (lv_at hl 5 rfl) ?_
    refine q_if_ne (tgt := 62) hx hb dL_isTold_55 (by decide) (by omega) (fun c_55 => absurd c_55 (by omega)) (fun c_55 => ?_)
    refine q_iconst hx hb dL_isTold_58 ?_
    refine lv_goto (tgt := 63) hx hb dL_isTold_59 (by decide) ?_
    refine q_icmp_ne (tgt := 108) hx hb dL_isTold_63 (by decide) (by omega) (fun c_63 => absurd c_63 (by omega)) (fun c_63 => ?_)
    refine lv_aload_n hx hb dL_isTold_66 rfl (lv_at hl 7 rfl) ?_
    refine q_iconst hx hb dL_isTold_67 ?_
    refine q_callK (As := [.int (iI 3)]) (rest := []) (zl_ok z bb L xs) hx hb hml hown hts hK (qH_z (k_size hg47 3 (by decide)) zl_w) yi_X6_size rfl ml_L_66 (by rw [hR]; decide) hw hA hB rfl rfl hl.1 (lv_room (Nat.le_of_ble_eq_true rfl)) dL_isTold_68 (by rw [hR]; exact ⟨by show _ ≤ (0 : Nat); omega, by show _ ≤ (0 : Nat); omega⟩) (fun _ H locs hu_68 hw => ?_)
    refine q_top (gC g47 11 2) rfl ?_
    refine q_top (0) (by rw [eC47]; exact hgo.1) ?_
    refine lv_iload_n hx hb dL_isTold_71 rfl (lv_at hl 5 rfl) ?_
    refine q_icmp_ne (tgt := 108) hx hb dL_isTold_72 (by decide) (by omega) (fun c_72 => absurd c_72 (by omega)) (fun c_72 => ?_)
    refine lv_aload_n hx hb dL_isTold_75 rfl (lv_at hl 7 rfl) ?_
    refine q_iconst hx hb dL_isTold_76 ?_
    refine q_callK (As := [.int (iI 1)]) (rest := []) (zl_ok z bb L xs) hx hb hml hown hts hK (qH_z (k_size hg47 1 (by decide)) zl_w) yi_X6_size rfl ml_L_66 (by rw [hR]; decide) hw hA hB rfl rfl hl.1 (lv_room (Nat.le_of_ble_eq_true rfl)) dL_isTold_77 (by rw [hR]; exact ⟨by show _ ≤ (0 : Nat); omega, by show _ ≤ (0 : Nat); omega⟩) (fun _ H locs hu_77 hw => ?_)
    refine q_top (gT g47 8 0 - gC g47 11 0) rfl ?_
    refine q_top (gT g 8 0 - (gC g 11 0 + pkn (gT g) (gC g))) (by rw [eT47, eC47, pickC_top]) ?_
    refine lv_iload hx hb dL_isTold_80 (lv_at hl 1 rfl) ?_
    refine lv_iload_n hx hb dL_isTold_82 rfl (lv_at hl 6 rfl) ?_
    refine q_isub hx hb dL_isTold_83 ?_
    refine q_icmp_ne (tgt := 108) hx hb dL_isTold_84 (by decide) (by omega) (fun c_84 => absurd c_84 (by omega)) (fun c_84 => ?_)
    refine lv_aload_n hx hb dL_isTold_87 rfl (lv_at hl 7 rfl) ?_
    refine q_iconst hx hb dL_isTold_88 ?_
    refine q_callK (As := [.int (iI 2)]) (rest := []) (zl_ok z bb L xs) hx hb hml hown hts hK (qH_z (k_size hg47 2 (by decide)) zl_w) yi_X6_size rfl ml_L_66 (by rw [hR]; decide) hw hA hB rfl rfl hl.1 (lv_room (Nat.le_of_ble_eq_true rfl)) dL_isTold_89 (by rw [hR]; exact ⟨by show _ ≤ (0 : Nat); omega, by show _ ≤ (0 : Nat); omega⟩) (fun _ H locs hu_89 hw => ?_)
    refine q_top (gC g47 11 1) rfl ?_
    refine q_top (0) (by rw [eC47]; exact hgo.2) ?_
    refine lv_iload_n hx hb dL_isTold_92 rfl (lv_at hl 5 rfl) ?_
    refine q_if_ne (tgt := 100) hx hb dL_isTold_93 (by decide) (by omega) (fun c_93 => absurd c_93 (by omega)) (fun c_93 => ?_)
    refine q_iconst hx hb dL_isTold_96 ?_
    refine lv_goto (tgt := 101) hx hb dL_isTold_97 (by decide) ?_
    refine q_icmp_ne (tgt := 108) hx hb dL_isTold_101 (by decide) (by omega) (fun c_101 => absurd c_101 (by omega)) (fun c_101 => ?_)
    refine q_iconst hx hb dL_isTold_104 ?_
    refine lv_goto (tgt := 109) hx hb dL_isTold_105 (by decide) ?_
    refine lv_istore (lv' := [(8, .int (iI 1)), (7, .int (iI 1)), (6, .int (iI (gT g 8 0 - gC g 11 0))), (5, .int (iI (gC g 11 3))), (4, .int (iI (gC g 11 0))), (3, .int (iI (pgs (gT g) (gC g) (gC g 11 0)))), (2, .int (iI 0)), (1, .int (iI (pkn (gT g) (gC g)))), (0, .ref (g47.1 0 0))]) hx hb dL_isTold_109 hl (by decide) rfl (fun ls hl => ?_)
    refine lv_iload hx hb dL_isTold_111 (lv_at hl 0 rfl) ?_
    refine lv_aload_n hx hb dL_isTold_113 rfl (lv_at hl 8 rfl) ?_
    refine q_iconst hx hb dL_isTold_114 ?_
    refine q_callK (As := [.int (iI 4)]) (rest := [.int (iI 1)]) (zl_ok z bb L xs) hx hb hml hown hts hK (qH_z (k_size hg47 4 (by decide)) zl_w) yi_X6_size rfl ml_L_66 (by rw [hR]; decide) hw hA hB rfl rfl hl.1 (lv_room (Nat.le_of_ble_eq_true rfl)) dL_isTold_115 (by rw [hR]; exact ⟨by show _ ≤ (0 : Nat); omega, by show _ ≤ (0 : Nat); omega⟩) (fun _ H locs hu_115 hw => ?_)
    refine q_top (gC g47 11 3) rfl ?_
    refine q_top (gC g 11 3 + pgs (gT g) (gC g) (gC g 11 0)) (by rw [eC47]; exact htg.1.trans (by rw [goR_p])) ?_
    refine lv_iload hx hb dL_isTold_118 (lv_at hl 3 rfl) ?_
    refine lv_iload_n hx hb dL_isTold_120 rfl (lv_at hl 6 rfl) ?_
    refine q_if_ne (tgt := 128) hx hb dL_isTold_121 (by decide) (by omega) (fun c_121 => absurd c_121 (by omega)) (fun c_121 => ?_)
    refine lv_iload_n hx hb dL_isTold_124 rfl (lv_at hl 5 rfl) ?_
    refine lv_goto (tgt := 129) hx hb dL_isTold_125 (by decide) ?_
    refine q_iadd hx hb dL_isTold_129 ?_
    refine q_icmp_ne (tgt := 166) hx hb dL_isTold_130 (by decide) (by omega) (fun c_130 => absurd c_130 (by omega)) (fun c_130 => ?_)
    refine lv_iload_n hx hb dL_isTold_133 rfl (lv_at hl 6 rfl) ?_
    refine q_if_ne (tgt := 152) hx hb dL_isTold_134 (by decide) (by omega) (fun c_134 => absurd c_134 (by omega)) (fun c_134 => ?_)
    refine lv_aload_n hx hb dL_isTold_137 rfl (lv_at hl 8 rfl) ?_
    refine lv_iload hx hb dL_isTold_138 (lv_at hl 4 rfl) ?_
    refine q_bipush hx hb dL_isTold_140 rfl ?_
    refine q_callK (As := [.int (iI (gC g 11 0)), .int (iI 7)]) (rest := [.int (iI 1)]) (zl_ok z bb L xs) hx hb hml hown hts hK (qH_z (k_sheet hg47 (gC g 11 0) 7 (by omega) (by omega)) zl_w) yi_X6_sheet rfl ml_L_120 (by rw [hR]; decide) hw hA hB rfl rfl hl.1 (lv_room (Nat.le_of_ble_eq_true rfl)) dL_isTold_142 (by rw [hR]; exact ⟨by show _ ≤ (0 : Nat); omega, by show _ ≤ (0 : Nat); omega⟩) (fun _ H locs hu_142 hw => ?_)
    refine q_top (shtV (gT g47) (gC g47) (gC g 11 0) 7) rfl ?_
    refine q_top (pickC (gT g) (gC g) 0 (gC g 11 0)) (by rw [eC47]; rfl) ?_
    refine q_iconst hx hb dL_isTold_145 ?_
    refine q_icmp_le (tgt := 166) hx hb dL_isTold_146 (by decide) (by omega) (fun c_146 => absurd c_146 (by omega)) (fun c_146 => ?_)
    refine lv_goto (tgt := 162) hx hb dL_isTold_149 (by decide) ?_
    refine q_iconst hx hb dL_isTold_162 ?_
    refine lv_goto (tgt := 167) hx hb dL_isTold_163 (by decide) ?_
    refine lv_iand hx hb dL_isTold_167 ?_
    rw [show (iI 1 &&& iI 1 : Int32) = iI 1 by decide]
    refine lv_istore (lv' := [(8, .int (iI 1)), (7, .int (iI 1)), (6, .int (iI (gT g 8 0 - gC g 11 0))), (5, .int (iI (gC g 11 3))), (4, .int (iI (gC g 11 0))), (3, .int (iI (pgs (gT g) (gC g) (gC g 11 0)))), (2, .int (iI 0)), (1, .int (iI (pkn (gT g) (gC g)))), (0, .ref (g47.1 0 0))]) hx hb dL_isTold_168 hl (by decide) rfl (fun ls hl => ?_)
    refine lv_iload hx hb dL_isTold_170 (lv_at hl 0 rfl) ?_
    refine q_if_eq (tgt := 197) hx hb dL_isTold_172 (by decide) (by omega) (fun c_172 => absurd c_172 (by omega)) (fun c_172 => ?_)
    refine lv_aload_n hx hb dL_isTold_175 rfl (lv_at hl 8 rfl) ?_
    refine q_iconst hx hb dL_isTold_176 ?_
    refine q_callK (As := [.int (iI 0)]) (rest := []) (zl_ok z bb L xs) hx hb hml hown hts hK (qH_z (k_restoreSnapshot hg47 (by rw [es47, uI_s]; decide) (by rw [ev47]; exact kd_3 hg)) zl_w) yi_X6_restoreSnapshot rfl ml_L_136 (by rw [hR]; decide) hw hA hB rfl rfl hl.1 (lv_room (Nat.le_of_ble_eq_true rfl)) dL_isTold_177 (by rw [hR]; exact ⟨by show _ ≤ (0 : Nat); omega, by show _ ≤ (0 : Nat); omega⟩) (fun v_177 H locs hu_177 hw => ?_)
    refine q_top (1) rfl ?_
    obtain ⟨g177, rfl⟩ : ∃ q, q = v_177 := ⟨_, rfl⟩
    have hw : qw D A s.heap (wW g177 cI cB cZ cS) H locs := hw
    have hl9 := hg47.2.2.2.2.2.1
    have hg177 : gd g177 (N + 1) := kd_u hu_177 hg47.1 (by show WC (gT g47) _; rw [eT47, ev47]; exact hg.2.1) (by show PV (gT g47) _; rw [eT47, ev47]; exact hg.2.2.1) hg47.2.2.2.1 hg47.2.2.2.2.1 ⟨hl9.1, hl9.2.1, hl9.2.2.1, by decide, by decide⟩ hg47.2.2.2.2.2.2
    have eT177 : gT g177 = gT g := hu_177.2.1.trans eT47
    have eC177 : gC g177 = gC g := hu_177.2.2.1.trans ev47
    have ex177 : g177.1 0 = g47.1 0 := hu_177.1
    have el177 : g177.1 0 0 = g47.1 0 0 := by rw [ex177]
    rw [← el177] at hl
    refine q_if_eq (tgt := 197) hx hb dL_isTold_180 (by decide) (by omega) (fun c_180 => absurd c_180 (by omega)) (fun c_180 => ?_)
    refine lv_aload_n hx hb dL_isTold_183 rfl (lv_at hl 8 rfl) ?_
    refine q_iconst hx hb dL_isTold_184 ?_
    refine q_callK (As := [.int (iI 1)]) (rest := []) (zl_ok z bb L xs) hx hb hml hown hts hK (qH_z (k_size hg177 1 (by decide)) zl_w) yi_X6_size rfl ml_L_66 (by rw [hR]; decide) hw hA hB rfl rfl hl.1 (lv_room (Nat.le_of_ble_eq_true rfl)) dL_isTold_185 (by rw [hR]; exact ⟨by show _ ≤ (0 : Nat); omega, by show _ ≤ (0 : Nat); omega⟩) (fun _ H locs hu_185 hw => ?_)
    refine q_top (gT g177 8 0 - gC g177 11 0) rfl ?_
    refine q_top (gT g 8 0 - gC g 11 0) (by rw [eT177, eC177]) ?_
    refine lv_iload hx hb dL_isTold_188 (lv_at hl 2 rfl) ?_
    refine q_icmp_ne (tgt := 197) hx hb dL_isTold_190 (by decide) (by omega) (fun c_190 => absurd c_190 (by omega)) (fun c_190 => ?_)
    refine q_iconst hx hb dL_isTold_193 ?_
    refine lv_goto (tgt := 198) hx hb dL_isTold_194 (by decide) ?_
    refine q_top (1) (by rfl) ?_
    refine W_wide (k := 0) (n := 0) (by omega) (by omega) ?_
    exact hret g177 H locs 198 ls (show gd g177 (N + 1) ∧ g177.1 0 = g.1 0 ∧ gT g177 = gT g from ⟨hg177, ex177.trans (ex47.trans (ex41.trans (ex14.trans (ex8.trans ex2)))), eT177⟩) hw dL_isTold_198
  · have hst := pickC_st r
    have hp3 := pick_3 r
    refine lv_aload_n hx hb dL_isTold_0 rfl (lv_at hl 0 rfl) ?_
    refine q_iconst hx hb dL_isTold_1 ?_
    refine q_callK (As := [.int (iI 0)]) (rest := []) (zl_ok z bb L xs) hx hb hml hown hts hK (qH_z (k_next hg 0 (by decide)) zl_w) yi_X6_next rfl ml_L_82 (by rw [hR]; decide) hw hA hB rfl rfl hl.1 (lv_room (Nat.le_of_ble_eq_true rfl)) dL_isTold_2 (by rw [hR]; exact ⟨by show _ ≤ (0 : Nat); omega, by show _ ≤ (0 : Nat); omega⟩) (fun v_2 H locs hu_2 hw => ?_)
    refine q_top (nxtV (gT g) (gC g) 0) rfl ?_
    obtain ⟨g2, rfl⟩ : ∃ q, q = v_2 := ⟨_, rfl⟩
    have hw : qw D A s.heap (wW g2 cI cB cZ cS) H locs := hw
    have hg2 : gd g2 N := kd_u hu_2 hg.1 hg.2.1 hg.2.2.1 hg.2.2.2.1 hg.2.2.2.2.1 hg.2.2.2.2.2.1 hg.2.2.2.2.2.2
    have eT2 : gT g2 = gT g := hu_2.2.1
    have eC2 : gC g2 = gC g := hu_2.2.2.1
    have ex2 : g2.1 0 = g.1 0 := hu_2.1
    refine q_top (pkn (gT g) (gC g)) (by exact nx_0 h0) ?_
    have el2 : g2.1 0 0 = g.1 0 0 := by rw [ex2]
    rw [← el2] at hl
    refine lv_istore_n (lv' := [(1, .int (iI (pkn (gT g) (gC g)))), (0, .ref (g2.1 0 0))]) hx hb dL_isTold_5 rfl hl (by decide) rfl (fun ls hl => ?_)
    refine lv_aload_n hx hb dL_isTold_6 rfl (lv_at hl 1 rfl) ?_
    refine q_iconst hx hb dL_isTold_7 ?_
    refine q_callK (As := [.int (iI 3)]) (rest := []) (zl_ok z bb L xs) hx hb hml hown hts hK (qH_z (k_next hg2 3 (by decide)) zl_w) yi_X6_next rfl ml_L_82 (by rw [hR]; decide) hw hA hB rfl rfl hl.1 (lv_room (Nat.le_of_ble_eq_true rfl)) dL_isTold_8 (by rw [hR]; exact ⟨by show _ ≤ (0 : Nat); omega, by show _ ≤ (0 : Nat); omega⟩) (fun v_8 H locs hu_8 hw => ?_)
    refine q_top (nxtV (gT g2) (gC g2) 3) rfl ?_
    obtain ⟨g8, rfl⟩ : ∃ q, q = v_8 := ⟨_, rfl⟩
    have hw : qw D A s.heap (wW g8 cI cB cZ cS) H locs := hw
    have hg8 : gd g8 N := kd_u hu_8 hg2.1 hg2.2.1 hg2.2.2.1 hg2.2.2.2.1 hg2.2.2.2.2.1 hg2.2.2.2.2.2.1 hg2.2.2.2.2.2.2
    have eT8 : gT g8 = gT g := hu_8.2.1.trans eT2
    have eC8 : gC g8 = gC g := hu_8.2.2.1.trans eC2
    have ex8 : g8.1 0 = g2.1 0 := hu_8.1
    refine q_top (pkr (gT g) (gC g)) (by rw [eT2, eC2]; exact nx_3 h0) ?_
    have el8 : g8.1 0 0 = g2.1 0 0 := by rw [ex8]
    rw [← el8] at hl
    refine lv_istore_n (lv' := [(2, .int (iI (pkr (gT g) (gC g)))), (1, .int (iI (pkn (gT g) (gC g)))), (0, .ref (g8.1 0 0))]) hx hb dL_isTold_11 rfl hl (by decide) rfl (fun ls hl => ?_)
    refine lv_aload_n hx hb dL_isTold_12 rfl (lv_at hl 2 rfl) ?_
    refine q_iconst hx hb dL_isTold_13 ?_
    refine q_callK (As := [.int (iI 4)]) (rest := []) (zl_ok z bb L xs) hx hb hml hown hts hK (qH_z (k_next hg8 4 (by decide)) zl_w) yi_X6_next rfl ml_L_82 (by rw [hR]; decide) hw hA hB rfl rfl hl.1 (lv_room (Nat.le_of_ble_eq_true rfl)) dL_isTold_14 (by rw [hR]; exact ⟨by show _ ≤ (0 : Nat); omega, by show _ ≤ (0 : Nat); omega⟩) (fun v_14 H locs hu_14 hw => ?_)
    refine q_top (nxtV (gT g8) (gC g8) 4) rfl ?_
    obtain ⟨g14, rfl⟩ : ∃ q, q = v_14 := ⟨_, rfl⟩
    have hw : qw D A s.heap (wW g14 cI cB cZ cS) H locs := hw
    have hg14 : gd g14 N := kd_u hu_14 hg8.1 hg8.2.1 hg8.2.2.1 hg8.2.2.2.1 hg8.2.2.2.2.1 hg8.2.2.2.2.2.1 hg8.2.2.2.2.2.2
    have eT14 : gT g14 = gT g := hu_14.2.1.trans eT8
    have eC14 : gC g14 = gC g := hu_14.2.2.1.trans eC8
    have ex14 : g14.1 0 = g8.1 0 := hu_14.1
    refine q_top (pgs (gT g) (gC g) (gC g 11 0)) (by rw [eT8, eC8]; exact nx_4 h0) ?_
    have el14 : g14.1 0 0 = g8.1 0 0 := by rw [ex14]
    rw [← el14] at hl
    refine lv_istore_n (lv' := [(3, .int (iI (pgs (gT g) (gC g) (gC g 11 0)))), (2, .int (iI (pkr (gT g) (gC g)))), (1, .int (iI (pkn (gT g) (gC g)))), (0, .ref (g14.1 0 0))]) hx hb dL_isTold_17 rfl hl (by decide) rfl (fun ls hl => ?_)
    refine lv_aload_n hx hb dL_isTold_18 rfl (lv_at hl 3 rfl) ?_
    refine q_iconst hx hb dL_isTold_19 ?_
    refine q_callK (As := [.int (iI 0)]) (rest := []) (zl_ok z bb L xs) hx hb hml hown hts hK (qH_z (k_stack hg14 0 (by omega)) zl_w) yi_X6_stack rfl ml_L_126 (by rw [hR]; decide) hw hA hB rfl rfl hl.1 (lv_room (Nat.le_of_ble_eq_true rfl)) dL_isTold_20 (by rw [hR]; exact ⟨by show _ ≤ (0 : Nat); omega, by show _ ≤ (0 : Nat); omega⟩) (fun _ H locs hu_20 hw => ?_)
    refine q_top (if 0 ≤ 0 ∧ 0 < gT g14 8 0 - gC g14 11 0 then gC g14 11 0 + 0 else -1) rfl ?_
    refine q_top (gC g 11 0) (by rw [if_pos (by rw [eT14, eC14]; omega), eC14]; omega) ?_
    refine lv_istore (lv' := [(4, .int (iI (gC g 11 0))), (3, .int (iI (pgs (gT g) (gC g) (gC g 11 0)))), (2, .int (iI (pkr (gT g) (gC g)))), (1, .int (iI (pkn (gT g) (gC g)))), (0, .ref (g14.1 0 0))]) hx hb dL_isTold_23 hl (by decide) rfl (fun ls hl => ?_)
    refine lv_aload_n hx hb dL_isTold_25 rfl (lv_at hl 4 rfl) ?_
    refine q_iconst hx hb dL_isTold_26 ?_
    refine q_callK (As := [.int (iI 4)]) (rest := []) (zl_ok z bb L xs) hx hb hml hown hts hK (qH_z (k_size hg14 4 (by decide)) zl_w) yi_X6_size rfl ml_L_66 (by rw [hR]; decide) hw hA hB rfl rfl hl.1 (lv_room (Nat.le_of_ble_eq_true rfl)) dL_isTold_27 (by rw [hR]; exact ⟨by show _ ≤ (0 : Nat); omega, by show _ ≤ (0 : Nat); omega⟩) (fun _ H locs hu_27 hw => ?_)
    refine q_top (gC g14 11 3) rfl ?_
    refine q_top (gC g 11 3) (by rw [eC14]) ?_
    refine lv_istore (lv' := [(5, .int (iI (gC g 11 3))), (4, .int (iI (gC g 11 0))), (3, .int (iI (pgs (gT g) (gC g) (gC g 11 0)))), (2, .int (iI (pkr (gT g) (gC g)))), (1, .int (iI (pkn (gT g) (gC g)))), (0, .ref (g14.1 0 0))]) hx hb dL_isTold_30 hl (by decide) rfl (fun ls hl => ?_)
    refine lv_aload_n hx hb dL_isTold_32 rfl (lv_at hl 5 rfl) ?_
    refine q_iconst hx hb dL_isTold_33 ?_
    refine q_callK (As := [.int (iI 1)]) (rest := []) (zl_ok z bb L xs) hx hb hml hown hts hK (qH_z (k_size hg14 1 (by decide)) zl_w) yi_X6_size rfl ml_L_66 (by rw [hR]; decide) hw hA hB rfl rfl hl.1 (lv_room (Nat.le_of_ble_eq_true rfl)) dL_isTold_34 (by rw [hR]; exact ⟨by show _ ≤ (0 : Nat); omega, by show _ ≤ (0 : Nat); omega⟩) (fun _ H locs hu_34 hw => ?_)
    refine q_top (gT g14 8 0 - gC g14 11 0) rfl ?_
    refine q_top (gT g 8 0 - gC g 11 0) (by rw [eT14, eC14]) ?_
    refine lv_istore (lv' := [(6, .int (iI (gT g 8 0 - gC g 11 0))), (5, .int (iI (gC g 11 3))), (4, .int (iI (gC g 11 0))), (3, .int (iI (pgs (gT g) (gC g) (gC g 11 0)))), (2, .int (iI (pkr (gT g) (gC g)))), (1, .int (iI (pkn (gT g) (gC g)))), (0, .ref (g14.1 0 0))]) hx hb dL_isTold_37 hl (by decide) rfl (fun ls hl => ?_)
    refine lv_aload_n hx hb dL_isTold_39 rfl (lv_at hl 6 rfl) ?_
    refine q_iconst hx hb dL_isTold_40 ?_
    refine q_callK (As := [.int (iI 0)]) (rest := []) (zl_ok z bb L xs) hx hb hml hown hts hK (qH_z (k_saveSnapshot hg14 ) zl_w) yi_X6_saveSnapshot rfl ml_L_129 (by rw [hR]; decide) hw hA hB rfl rfl hl.1 (lv_room (Nat.le_of_ble_eq_true rfl)) dL_isTold_41 (by rw [hR]; exact ⟨by show _ ≤ (0 : Nat); omega, by show _ ≤ (0 : Nat); omega⟩) (fun v_41 H locs hu_41 hw => ?_)
    refine q_top (1) rfl ?_
    obtain ⟨g41, rfl⟩ : ∃ q, q = v_41 := ⟨_, rfl⟩
    have hw : qw D A s.heap (wW g41 cI cB cZ cS) H locs := hw
    have hg41 : gd g41 N := kd_u hu_41 hg14.1 hg14.2.1 hg14.2.2.1 hg14.2.2.2.1 hg14.2.2.2.2.1 hg14.2.2.2.2.2.1 (fun i => by unfold uI; split; exact Or.inr rfl; exact hg14.2.2.2.2.2.2 i)
    have eT41 : gT g41 = gT g := hu_41.2.1.trans eT14
    have eC41 : gC g41 = gC g := hu_41.2.2.1.trans eC14
    have h2_41 : gC g41 11 2 = 0 := by rw [eC41]; exact h2
    have ex41 : g41.1 0 = g14.1 0 := hu_41.1
    have el41 : g41.1 0 0 = g14.1 0 0 := by rw [ex41]
    rw [← el41] at hl
    refine lv_pop hx hb dL_isTold_44 rfl ?_
    refine lv_aload_n hx hb dL_isTold_45 rfl (lv_at hl 6 rfl) ?_
    refine q_iconst hx hb dL_isTold_46 ?_
    refine q_callK (As := [.int (iI 1)]) (rest := []) (zl_ok z bb L xs) hx hb hml hown hts hK (qH_z (k_feed hg41 1 (by omega) (by omega)) zl_w) yi_X6_feed rfl ml_L_69 (by rw [hR]; decide) hw hA hB rfl rfl hl.1 (lv_room (Nat.le_of_ble_eq_true rfl)) dL_isTold_47 (by rw [hR]; exact ⟨by show _ ≤ (0 : Nat); omega, by show _ ≤ (0 : Nat); omega⟩) (fun v_47 H locs hu_47 hw => ?_)
    refine q_top (feedN (gT g41) (1 : Int).toNat (gC g41)) rfl ?_
    obtain ⟨g47, rfl⟩ : ∃ q, q = v_47 := ⟨_, rfl⟩
    have hw : qw D A s.heap (wW g47 cI cB cZ cS) H locs := hw
    have hg47 : gd g47 (N + 1) := kd_u hu_47 hg41.1 (PV_feed hg41.1 _ hg41.2.1 hg41.2.2.1).2.1 ((PV_feed hg41.1 _ hg41.2.1 hg41.2.2.1).1) hg41.2.2.2.1 hg41.2.2.2.2.1 (kd_l hg41) hg41.2.2.2.2.2.2
    have eT47 : gT g47 = gT g := hu_47.2.1.trans eT41
    have eC47 : gC g47 = pickC (gT g) (gC g) := hu_47.2.2.1.trans (by show feedC (gT g41) (1 : Int).toNat (gC g41) = _; rw [eT41, eC41]; exact (feed_1 ⟨h0, h2⟩).1)
    have es47 : g47.2.2.2.2.1 0 = uI (g14.2.2.2.2.1 0) 0 1 := hu_47.2.2.2.2.2.2.1.trans hu_41.2.2.2.2.2.2.1
    have ev47 : g47.2.2.2.2.2 1 (0 : Int).toNat = gC g := by rw [hu_47.2.2.2.2.2.2.2.2, hu_41.2.2.2.2.2.2.2.2]; exact (if_pos rfl).trans eC14
    have hT47 : gT g47 8 0 = gT g 8 0 := by rw [eT47]
    have hw6 : 0 ≤ pickC (gT g) (gC g) 0 (gC g 11 0) ∧ pickC (gT g) (gC g) 0 (gC g 11 0) ≤ 6 := by rw [← eC47]; have q := hg47.2.1.2.2.1 (gC g 11 0) (by omega) (by omega); exact ⟨q.1, q.2.1⟩
    have ex47 : g47.1 0 = g41.1 0 := hu_47.1
    refine q_top (0) (by rw [eT41, eC41]; exact (feed_1 ⟨h0, h2⟩).2.trans (if_neg r)) ?_
    have el47 : g47.1 0 0 = g41.1 0 0 := by rw [ex47]
    rw [← el47] at hl
    refine lv_istore (lv' := [(7, .int (iI 0)), (6, .int (iI (gT g 8 0 - gC g 11 0))), (5, .int (iI (gC g 11 3))), (4, .int (iI (gC g 11 0))), (3, .int (iI (pgs (gT g) (gC g) (gC g 11 0)))), (2, .int (iI (pkr (gT g) (gC g)))), (1, .int (iI (pkn (gT g) (gC g)))), (0, .ref (g47.1 0 0))]) hx hb dL_isTold_50 hl (by decide) rfl (fun ls hl => ?_)
    refine lv_iload hx hb dL_isTold_52 (lv_at hl 0 rfl) ?_
    refine lv_iload_n hx hb dL_isTold_54 rfl (lv_at hl 5 rfl) ?_
    refine q_if_ne (tgt := 62) hx hb dL_isTold_55 (by decide) (by omega) (fun c_55 => ?_) (fun c_55 => absurd c_55 (by omega))
    refine q_iconst hx hb dL_isTold_62 ?_
    refine q_icmp_ne (tgt := 108) hx hb dL_isTold_63 (by decide) (by omega) (fun c_63 => absurd c_63 (by omega)) (fun c_63 => ?_)
    refine lv_aload_n hx hb dL_isTold_66 rfl (lv_at hl 7 rfl) ?_
    refine q_iconst hx hb dL_isTold_67 ?_
    refine q_callK (As := [.int (iI 3)]) (rest := []) (zl_ok z bb L xs) hx hb hml hown hts hK (qH_z (k_size hg47 3 (by decide)) zl_w) yi_X6_size rfl ml_L_66 (by rw [hR]; decide) hw hA hB rfl rfl hl.1 (lv_room (Nat.le_of_ble_eq_true rfl)) dL_isTold_68 (by rw [hR]; exact ⟨by show _ ≤ (0 : Nat); omega, by show _ ≤ (0 : Nat); omega⟩) (fun _ H locs hu_68 hw => ?_)
    refine q_top (gC g47 11 2) rfl ?_
    refine q_top (pkr (gT g) (gC g)) (by rw [eC47]; exact hst.1) ?_
    refine lv_iload_n hx hb dL_isTold_71 rfl (lv_at hl 5 rfl) ?_
    refine q_icmp_ne (tgt := 108) hx hb dL_isTold_72 (by decide) (by omega) (fun c_72 => absurd c_72 (by omega)) (fun c_72 => ?_)
    refine lv_aload_n hx hb dL_isTold_75 rfl (lv_at hl 7 rfl) ?_
    refine q_iconst hx hb dL_isTold_76 ?_
    refine q_callK (As := [.int (iI 1)]) (rest := []) (zl_ok z bb L xs) hx hb hml hown hts hK (qH_z (k_size hg47 1 (by decide)) zl_w) yi_X6_size rfl ml_L_66 (by rw [hR]; decide) hw hA hB rfl rfl hl.1 (lv_room (Nat.le_of_ble_eq_true rfl)) dL_isTold_77 (by rw [hR]; exact ⟨by show _ ≤ (0 : Nat); omega, by show _ ≤ (0 : Nat); omega⟩) (fun _ H locs hu_77 hw => ?_)
    refine q_top (gT g47 8 0 - gC g47 11 0) rfl ?_
    refine q_top (gT g 8 0 - (gC g 11 0 + pkn (gT g) (gC g))) (by rw [eT47, eC47, pickC_top]) ?_
    refine lv_iload hx hb dL_isTold_80 (lv_at hl 1 rfl) ?_
    refine lv_iload_n hx hb dL_isTold_82 rfl (lv_at hl 6 rfl) ?_
    refine q_isub hx hb dL_isTold_83 ?_
    refine q_icmp_ne (tgt := 108) hx hb dL_isTold_84 (by decide) (by omega) (fun c_84 => absurd c_84 (by omega)) (fun c_84 => ?_)
    refine lv_aload_n hx hb dL_isTold_87 rfl (lv_at hl 7 rfl) ?_
    refine q_iconst hx hb dL_isTold_88 ?_
    refine q_callK (As := [.int (iI 2)]) (rest := []) (zl_ok z bb L xs) hx hb hml hown hts hK (qH_z (k_size hg47 2 (by decide)) zl_w) yi_X6_size rfl ml_L_66 (by rw [hR]; decide) hw hA hB rfl rfl hl.1 (lv_room (Nat.le_of_ble_eq_true rfl)) dL_isTold_89 (by rw [hR]; exact ⟨by show _ ≤ (0 : Nat); omega, by show _ ≤ (0 : Nat); omega⟩) (fun _ H locs hu_89 hw => ?_)
    refine q_top (gC g47 11 1) rfl ?_
    refine q_top (pkn (gT g) (gC g)) (by rw [eC47]; exact hst.2) ?_
    refine lv_iload_n hx hb dL_isTold_92 rfl (lv_at hl 5 rfl) ?_
    refine q_if_ne (tgt := 100) hx hb dL_isTold_93 (by decide) (by omega) (fun c_93 => ?_) (fun c_93 => absurd c_93 (by omega))
    refine lv_iload_n hx hb dL_isTold_100 rfl (lv_at hl 6 rfl) ?_
    refine q_icmp_ne (tgt := 108) hx hb dL_isTold_101 (by decide) (by omega) (fun c_101 => absurd c_101 (by omega)) (fun c_101 => ?_)
    refine q_iconst hx hb dL_isTold_104 ?_
    refine lv_goto (tgt := 109) hx hb dL_isTold_105 (by decide) ?_
    refine lv_istore (lv' := [(8, .int (iI 1)), (7, .int (iI 0)), (6, .int (iI (gT g 8 0 - gC g 11 0))), (5, .int (iI (gC g 11 3))), (4, .int (iI (gC g 11 0))), (3, .int (iI (pgs (gT g) (gC g) (gC g 11 0)))), (2, .int (iI (pkr (gT g) (gC g)))), (1, .int (iI (pkn (gT g) (gC g)))), (0, .ref (g47.1 0 0))]) hx hb dL_isTold_109 hl (by decide) rfl (fun ls hl => ?_)
    refine lv_iload hx hb dL_isTold_111 (lv_at hl 0 rfl) ?_
    refine lv_aload_n hx hb dL_isTold_113 rfl (lv_at hl 8 rfl) ?_
    refine q_iconst hx hb dL_isTold_114 ?_
    refine q_callK (As := [.int (iI 4)]) (rest := [.int (iI 1)]) (zl_ok z bb L xs) hx hb hml hown hts hK (qH_z (k_size hg47 4 (by decide)) zl_w) yi_X6_size rfl ml_L_66 (by rw [hR]; decide) hw hA hB rfl rfl hl.1 (lv_room (Nat.le_of_ble_eq_true rfl)) dL_isTold_115 (by rw [hR]; exact ⟨by show _ ≤ (0 : Nat); omega, by show _ ≤ (0 : Nat); omega⟩) (fun _ H locs hu_115 hw => ?_)
    refine q_top (gC g47 11 3) rfl ?_
    refine q_top (gC g 11 3) (by rw [eC47]; exact hp3) ?_
    refine lv_iload hx hb dL_isTold_118 (lv_at hl 3 rfl) ?_
    refine lv_iload_n hx hb dL_isTold_120 rfl (lv_at hl 6 rfl) ?_
    refine q_if_ne (tgt := 128) hx hb dL_isTold_121 (by decide) (by omega) (fun c_121 => ?_) (fun c_121 => absurd c_121 (by omega))
    refine q_iconst hx hb dL_isTold_128 ?_
    refine q_iadd hx hb dL_isTold_129 ?_
    refine q_top (gC g 11 3) (Int.add_zero _) ?_
    refine q_icmp_ne (tgt := 166) hx hb dL_isTold_130 (by decide) (by omega) (fun c_130 => absurd c_130 (by omega)) (fun c_130 => ?_)
    refine lv_iload_n hx hb dL_isTold_133 rfl (lv_at hl 6 rfl) ?_
    refine q_if_ne (tgt := 152) hx hb dL_isTold_134 (by decide) (by omega) (fun c_134 => ?_) (fun c_134 => absurd c_134 (by omega))
    refine lv_aload_n hx hb dL_isTold_152 rfl (lv_at hl 8 rfl) ?_
    refine q_iconst hx hb dL_isTold_153 ?_
    refine q_callK (As := [.int (iI 0)]) (rest := [.int (iI 1)]) (zl_ok z bb L xs) hx hb hml hown hts hK (qH_z (k_path hg47 0 (by omega)) zl_w) yi_X6_path rfl ml_L_133 (by rw [hR]; decide) hw hA hB rfl rfl hl.1 (lv_room (Nat.le_of_ble_eq_true rfl)) dL_isTold_154 (by rw [hR]; exact ⟨by show _ ≤ (0 : Nat); omega, by show _ ≤ (0 : Nat); omega⟩) (fun _ H locs hu_154 hw => ?_)
    refine q_top (if 0 ≤ 0 ∧ 0 < gC g47 11 1 then gC g47 11 0 - gC g47 11 1 + 0 else -1) rfl ?_
    refine q_top (gC g 11 0) (by rw [if_pos (by rw [eC47, hst.2]; omega), eC47, hst.2, pickC_top]; omega) ?_
    refine lv_iload hx hb dL_isTold_157 (lv_at hl 4 rfl) ?_
    refine q_icmp_ne (tgt := 166) hx hb dL_isTold_159 (by decide) (by omega) (fun c_159 => absurd c_159 (by omega)) (fun c_159 => ?_)
    refine q_iconst hx hb dL_isTold_162 ?_
    refine lv_goto (tgt := 167) hx hb dL_isTold_163 (by decide) ?_
    refine lv_iand hx hb dL_isTold_167 ?_
    rw [show (iI 1 &&& iI 1 : Int32) = iI 1 by decide]
    refine lv_istore (lv' := [(8, .int (iI 1)), (7, .int (iI 0)), (6, .int (iI (gT g 8 0 - gC g 11 0))), (5, .int (iI (gC g 11 3))), (4, .int (iI (gC g 11 0))), (3, .int (iI (pgs (gT g) (gC g) (gC g 11 0)))), (2, .int (iI (pkr (gT g) (gC g)))), (1, .int (iI (pkn (gT g) (gC g)))), (0, .ref (g47.1 0 0))]) hx hb dL_isTold_168 hl (by decide) rfl (fun ls hl => ?_)
    refine lv_iload hx hb dL_isTold_170 (lv_at hl 0 rfl) ?_
    refine q_if_eq (tgt := 197) hx hb dL_isTold_172 (by decide) (by omega) (fun c_172 => absurd c_172 (by omega)) (fun c_172 => ?_)
    refine lv_aload_n hx hb dL_isTold_175 rfl (lv_at hl 8 rfl) ?_
    refine q_iconst hx hb dL_isTold_176 ?_
    refine q_callK (As := [.int (iI 0)]) (rest := []) (zl_ok z bb L xs) hx hb hml hown hts hK (qH_z (k_restoreSnapshot hg47 (by rw [es47, uI_s]; decide) (by rw [ev47]; exact kd_3 hg)) zl_w) yi_X6_restoreSnapshot rfl ml_L_136 (by rw [hR]; decide) hw hA hB rfl rfl hl.1 (lv_room (Nat.le_of_ble_eq_true rfl)) dL_isTold_177 (by rw [hR]; exact ⟨by show _ ≤ (0 : Nat); omega, by show _ ≤ (0 : Nat); omega⟩) (fun v_177 H locs hu_177 hw => ?_)
    refine q_top (1) rfl ?_
    obtain ⟨g177, rfl⟩ : ∃ q, q = v_177 := ⟨_, rfl⟩
    have hw : qw D A s.heap (wW g177 cI cB cZ cS) H locs := hw
    have hl9 := hg47.2.2.2.2.2.1
    have hg177 : gd g177 (N + 1) := kd_u hu_177 hg47.1 (by show WC (gT g47) _; rw [eT47, ev47]; exact hg.2.1) (by show PV (gT g47) _; rw [eT47, ev47]; exact hg.2.2.1) hg47.2.2.2.1 hg47.2.2.2.2.1 ⟨hl9.1, hl9.2.1, hl9.2.2.1, by decide, by decide⟩ hg47.2.2.2.2.2.2
    have eT177 : gT g177 = gT g := hu_177.2.1.trans eT47
    have eC177 : gC g177 = gC g := hu_177.2.2.1.trans ev47
    have ex177 : g177.1 0 = g47.1 0 := hu_177.1
    have el177 : g177.1 0 0 = g47.1 0 0 := by rw [ex177]
    rw [← el177] at hl
    refine q_if_eq (tgt := 197) hx hb dL_isTold_180 (by decide) (by omega) (fun c_180 => absurd c_180 (by omega)) (fun c_180 => ?_)
    refine lv_aload_n hx hb dL_isTold_183 rfl (lv_at hl 8 rfl) ?_
    refine q_iconst hx hb dL_isTold_184 ?_
    refine q_callK (As := [.int (iI 1)]) (rest := []) (zl_ok z bb L xs) hx hb hml hown hts hK (qH_z (k_size hg177 1 (by decide)) zl_w) yi_X6_size rfl ml_L_66 (by rw [hR]; decide) hw hA hB rfl rfl hl.1 (lv_room (Nat.le_of_ble_eq_true rfl)) dL_isTold_185 (by rw [hR]; exact ⟨by show _ ≤ (0 : Nat); omega, by show _ ≤ (0 : Nat); omega⟩) (fun _ H locs hu_185 hw => ?_)
    refine q_top (gT g177 8 0 - gC g177 11 0) rfl ?_
    refine q_top (gT g 8 0 - gC g 11 0) (by rw [eT177, eC177]) ?_
    refine lv_iload hx hb dL_isTold_188 (lv_at hl 2 rfl) ?_
    refine q_icmp_ne (tgt := 197) hx hb dL_isTold_190 (by decide) (by omega) (fun c_190 => absurd c_190 (by omega)) (fun c_190 => ?_)
    refine q_iconst hx hb dL_isTold_193 ?_
    refine lv_goto (tgt := 198) hx hb dL_isTold_194 (by decide) ?_
    refine q_top (1) (by rfl) ?_
    refine W_wide (k := 0) (n := 0) (by omega) (by omega) ?_
    exact hret g177 H locs 198 ls (show gd g177 (N + 1) ∧ g177.1 0 = g.1 0 ∧ gT g177 = gT g from ⟨hg177, ex177.trans (ex47.trans (ex41.trans (ex14.trans (ex8.trans ex2)))), eT177⟩) hw dL_isTold_198
end KHE
