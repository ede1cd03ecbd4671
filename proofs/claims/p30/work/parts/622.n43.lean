/-! THE LAW'S HELPERS over the feeder. Written by wip/p30/n43.py -/
section KPU
variable {T C : Nat → Int → Int} {f : Int}
theorem goR_p : goR T C f = pgs T C f := by
  unfold goR pgs
  split <;> rfl
theorem pgs_rg : 0 ≤ pgs T C f ∧ pgs T C f ≤ 2 := by
  unfold pgs
  split
  · decide
  · rcases bI_r (c := C 8 3 ≤ T 3 f) with a | a <;> rcases bI_r (c := C 11 5 = 1 ∧ C 8 3 ≤ T 4 f) with b | b <;> rw [a, b] <;> decide
theorem feed_1 (h : C 11 0 < T 8 0 ∧ C 11 2 = 0) : feedC T (1 : Int).toNat C = pickC T C ∧ feedN T (1 : Int).toNat C = if pkr T C = 0 then 1 else 0 := by
  have e : (1 : Int).toNat = 0 + 1 := rfl
  rw [e]
  unfold feedC feedN
  rw [if_pos h, if_pos h]
  refine ⟨rfl, ?_⟩
  show (if pickR T C = -1 then 0 else 1) + 0 = _
  unfold pickR
  by_cases r : pkr T C = 0
  · rw [if_pos r, if_pos r, if_neg]
    · rfl
    · have := goR_p (T := T) (C := C) (f := C 11 0)
      have := pgs_rg (T := T) (C := C) (f := C 11 0)
      omega
  · rw [if_neg r, if_neg r, if_pos rfl]
    rfl
theorem pick_3 (r : pkr T C ≠ 0) : pickC T C 11 3 = C 11 3 := by
  unfold pickC
  rw [if_neg r]
  split <;> rfl
theorem ink_s {w : Int} (h : 0 ≤ w ∧ w ≤ 1) : shtV T C f (3 + w) = ink T f w := by
  rcases (show w = 0 ∨ w = 1 by omega) with rfl | rfl <;> rfl
end KPU
section QKC
variable {p : Program} {l : Launch} {e : Env} {R : Room} {s : State} {m : MethodId} {args : Array Value} {below : List Frame} {meth : Method} {c : Code} {H : Heap} {locs : List Loc} {cells slots : Nat} {Q : State → Prop}
variable {cc : ByteArray} {pc : Nat} {ls : Array Slot} {rest : List Value} {D : va_G} {A : Nat → Prop} {Z : ZT} {cI cB cZ cS cJ : ClassId}
/-- a method of the feeder's, called in the feeder's world -/
theorem q_callK {g : Wd} {S : Type} {P : S → Prop} {rv : S → Option Value} {W1 : S → va_W} {own : String} {index k fr lo mc ms nL nY : Nat} {y : MethodName} {bytes : ByteArray} {ret : Option FieldType} {As : List Value} {st : List Value} (hz : zOk Z) (hx : p.tables.exec = Jvm.exec) (hb : c.code = cc) (hml : c.maxLocals = nL) (hown : s.vm.findClass own = some m.cls) (hts : ∀ w ∈ gW, w.before args s = true) (hK : va_K D vwCl (tyG cI cB cZ cS cJ) s)
    (hM : qH l Z D (tyG cI cB cZ cS cJ) y (.code y bytes nY ret :: gW) fr lo mc ms (.ref (g.1 0 0) :: As) (wW g cI cB cZ cS) P rv W1) (hy : qYi y bytes nY ret k) (hcl : y.cls = RX6) (hl : Cond.methodLink own index y ∈ gW) (hR : fr + 1 ≤ R.frames ∧ 8 + (nY + 11) + lo ≤ R.locals) (hw : qw D A s.heap (wW g cI cB cZ cS) H locs) (hA : ∀ q : Nat, s.heap.size ≤ q → A q) (hZ : Z A s s.heap) (hn : As.length = k) (hst : st = As.reverse ++ .ref (g.1 0 0) :: rest) (hls : ls.size = nL) (hW : 2 * (F0 m pc ls st).monitorRoom + (rest.map fun v => v.category).sum ≤ 8) (hdg : decode cc pc = .ok (.invokevirtual index, 3)) (hcs : cells + mc ≤ R.cells ∧ slots + ms ≤ R.slots)
    (kk : ∀ (u : S) (H1 : Heap) (locs1 : List Loc), P u → qw D A s.heap (W1 u) H1 locs1 → W p l e R s m args below meth c H1 locs1 (cells + mc) (slots + ms) Q (F0 m (pc + 3) ls ((rv u).toList ++ rest))) : W p l e R s m args below meth c H locs cells slots Q (F0 m pc ls st) :=
  q_callH (wr := []) (ci := 6) (T := TX6) (N := 10) hz hx hb hml hown hts hK hM hy hl hR (by rw [List.append_nil]; exact hw) hA hZ 0 wW_0 (by rw [hcl]; rfl) hn hst hls hW hdg hcs (fun u H1 locs1 h1 h2 => kk u H1 locs1 h1 (by rw [List.append_nil] at h2; exact h2))
end QKC
section KHE
variable {l : Launch} {z : Nat → Nat} {D : va_G} {cI cB cZ cS cJ : ClassId} {g : Wd} {N : Int} {bb L : Nat} {xs : Nat → Int32}
theorem kd_f {g : Wd} {N : Int} (h : gd g N) : (gC g 11 2 = 0 ↔ gC g 11 1 = 0) ∧ 0 ≤ gC g 11 1 ∧ gC g 11 1 ≤ gC g 11 0 ∧ gC g 11 0 ≤ gT g 8 0 ∧ 0 ≤ gC g 11 2 ∧ gC g 11 2 ≤ 3 ∧ 0 ≤ gT g 8 0 ∧ gT g 8 0 ≤ 40 ∧ 0 ≤ gC g 11 3 ∧ gC g 11 3 ≤ 80 ∧ 1 ≤ gC g 11 4 ∧ gC g 11 4 ≤ 139 := by
  have q := h.2.1.1
  have q2 := h.1.1
  refine ⟨h.2.2.1.2.2.2, ?_⟩
  omega
theorem kd_p {g : Wd} {N : Int} (h : gd g N) {p : Int} (a : 0 ≤ p) (b : p < gC g 11 3) : 0 ≤ gC g 4 p ∧ gC g 4 p < gT g 8 0 ∧ gC g 0 (gC g 4 p) = 2 ∧ gC g 8 3 ≤ ink (gT g) (gC g 4 p) (gC g 5 p) ∧ 0 ≤ gC g 5 p ∧ gC g 5 p ≤ 1 ∧ 0 ≤ ink (gT g) (gC g 4 p) (gC g 5 p) ∧ ink (gT g) (gC g 4 p) (gC g 5 p) ≤ 1000 ∧ 0 ≤ gC g 6 p ∧ gC g 6 p < gC g 11 4 ∧ 0 ≤ gC g 8 3 ∧ gC g 8 3 ≤ 1000 := by
  have q := h.2.1.1
  have q2 := h.2.1.2.2.2.2.1 p a b
  have q3 := h.2.2.1.1.2.1 p a b
  have q4 := h.1.2.2 (gC g 4 p) q2.1 (by omega)
  have q5 := h.2.1.2.1
  have q6 : 0 ≤ ink (gT g) (gC g 4 p) (gC g 5 p) ∧ ink (gT g) (gC g 4 p) (gC g 5 p) ≤ 1000 := by
    unfold ink
    split <;> omega
  exact ⟨q2.1, by omega, q3.2.2.1, q3.2.2.2, q2.2.2.1, q2.2.2.2.1, q6.1, q6.2, q2.2.2.2.2.1, q2.2.2.2.2.2, by omega, by omega⟩
theorem wat_bd {T C : Nat → Int → Int} {w : Int} (h : 0 ≤ T 8 0) : 0 ≤ watV T C w ∧ watV T C w ≤ T 8 0 := kI_bd _ h

set_option maxHeartbeats 4000000 in
set_option maxRecDepth 100000 in
theorem c_L_isWhole (hg : gd g N) : qH l (ZL z bb L xs) D (tyG cI cB cZ cS cJ) yL_isWhole (.code yL_isWhole cL_isWhole 6 (Option.some FieldType.boolean) :: gW) 3 66 0 0 [.ref (g.1 0 0)] (wW g cI cB cZ cS) (fun u : Unit => True) (fun u => some (.int (iI (1)))) (fun u => wW g cI cB cZ cS) := by
  refine qH_enterI (val := fun u => iI (1)) (by decide) (Nat.le_of_ble_eq_true rfl) (fun u hu => ⟨rfl, nar_z (Or.inr rfl)⟩) (fun p e R s m args below meth c Q ls A X hR hA hw hB hl hret => ?_)
  obtain ⟨hx, hb, hml, hown, hts, hK⟩ := X
  have hl : lv_has ls 6 [(0, .ref (g.1 0 0))] := hl
  have hZ := hB.1.1.1.1
  have hkf := kd_f hg
  have hwb := wat_bd (T := gT g) (C := gC g) (w := 2) (by omega)
  suffices K : ∀ (H : Heap) (locs : List Loc), qw D A s.heap (wW g cI cB cZ cS) H locs → W p l e R s m args below meth c H locs 0 0 Q (F0 m 0 ls []) from K s.heap [] hw
  clear hw
  intro H locs hw
  refine q_iconst hx hb dL_isWhole_0 ?_
  refine lv_istore_n (lv' := [(1, .int (iI 0)), (0, .ref (g.1 0 0))]) hx hb dL_isWhole_1 rfl hl (by decide) rfl (fun ls hl => ?_)
  refine q_iconst hx hb dL_isWhole_2 ?_
  refine lv_istore_n (lv' := [(2, .int (iI 0)), (1, .int (iI 0)), (0, .ref (g.1 0 0))]) hx hb dL_isWhole_3 rfl hl (by decide) rfl (fun ls hl => ?_)
  have loop_4 : ∀ (fu : Nat) (w : Int) (H : Heap) (locs : List Loc) (ls : Array Slot), (7 - w).toNat = fu → (0 ≤ w ∧ w ≤ 7) → qw D A s.heap (wW g cI cB cZ cS) H locs → lv_has ls 6 [(0, .ref (g.1 0 0)), (1, .int (iI ((sI (fun w => watV (gT g) (gC g) w)) w))), (2, .int (iI w))] → W p l e R s m args below meth c H locs 0 0 Q (F0 m 4 ls []) := by
    intro fu
    induction fu using Nat.strongRecOn with
    | ind fu ih =>
    intro w H locs ls hn_4 hw7 hw hl
    refine lv_iload_n hx hb dL_isWhole_4 rfl (lv_at hl 2 rfl) ?_
    refine q_bipush hx hb dL_isWhole_5 rfl ?_
    refine q_icmp_ge (tgt := 24) hx hb dL_isWhole_7 (by decide) (by omega) (fun c_7 => ?_) (fun c_7 => ?_)
    · have hloc : (sI (fun w => watV (gT g) (gC g) w)) w = gT g 8 0 := by rw [show w = 7 by omega]; exact wat_sum hg.2.1 hkf.2.2.2.2.2.2.1
      rw [hloc] at hl
      clear hloc
      have hl : lv_has ls 6 [(0, .ref (g.1 0 0)), (1, .int (iI (gT g 8 0))), (2, .int (iI w))] := hl
      refine lv_iload_n hx hb dL_isWhole_24 rfl (lv_at hl 1 rfl) ?_
      refine lv_aload_n hx hb dL_isWhole_25 rfl (lv_at hl 0 rfl) ?_
      refine q_iconst hx hb dL_isWhole_26 ?_
      refine q_callK (As := [.int (iI 0)]) (rest := [.int (iI (gT g 8 0))]) (zl_ok z bb L xs) hx hb hml hown hts hK (qH_z (k_size hg 0 (by decide)) zl_w) yi_X6_size rfl ml_L_66 (by rw [hR]; decide) hw hA hB rfl rfl hl.1 (lv_room (Nat.le_of_ble_eq_true rfl)) dL_isWhole_27 (by rw [hR]; exact ⟨by show _ ≤ (0 : Nat); omega, by show _ ≤ (0 : Nat); omega⟩) (fun _ H locs hu_27 hw => ?_)
      refine q_top (gT g 8 0) rfl ?_
      refine q_icmp_ne (tgt := 88) hx hb dL_isWhole_30 (by decide) (by omega) (fun c_30 => absurd c_30 (by omega)) (fun c_30 => ?_)
      refine lv_aload_n hx hb dL_isWhole_33 rfl (lv_at hl 0 rfl) ?_
      refine q_iconst hx hb dL_isWhole_34 ?_
      refine q_callK (As := [.int (iI 0)]) (rest := []) (zl_ok z bb L xs) hx hb hml hown hts hK (qH_z (k_sheetsAt hg 0 (by omega)) zl_w) yi_X6_sheetsAt rfl ml_L_110 (by rw [hR]; decide) hw hA hB rfl rfl hl.1 (lv_room (Nat.le_of_ble_eq_true rfl)) dL_isWhole_35 (by rw [hR]; exact ⟨by show _ ≤ (0 : Nat); omega, by show _ ≤ (0 : Nat); omega⟩) (fun _ H locs hu_35 hw => ?_)
      refine q_top (watV (gT g) (gC g) 0) rfl ?_
      refine q_top (gT g 8 0 - gC g 11 0) (by exact wat_0 hg.2.1 hg.2.2.1) ?_
      refine lv_aload_n hx hb dL_isWhole_38 rfl (lv_at hl 0 rfl) ?_
      refine q_iconst hx hb dL_isWhole_39 ?_
      refine q_callK (As := [.int (iI 1)]) (rest := [.int (iI (gT g 8 0 - gC g 11 0))]) (zl_ok z bb L xs) hx hb hml hown hts hK (qH_z (k_size hg 1 (by decide)) zl_w) yi_X6_size rfl ml_L_66 (by rw [hR]; decide) hw hA hB rfl rfl hl.1 (lv_room (Nat.le_of_ble_eq_true rfl)) dL_isWhole_40 (by rw [hR]; exact ⟨by show _ ≤ (0 : Nat); omega, by show _ ≤ (0 : Nat); omega⟩) (fun _ H locs hu_40 hw => ?_)
      refine q_top (gT g 8 0 - gC g 11 0) rfl ?_
      refine q_icmp_ne (tgt := 88) hx hb dL_isWhole_43 (by decide) (by omega) (fun c_43 => absurd c_43 (by omega)) (fun c_43 => ?_)
      refine lv_aload_n hx hb dL_isWhole_46 rfl (lv_at hl 0 rfl) ?_
      refine q_iconst hx hb dL_isWhole_47 ?_
      refine q_callK (As := [.int (iI 1)]) (rest := []) (zl_ok z bb L xs) hx hb hml hown hts hK (qH_z (k_sheetsAt hg 1 (by omega)) zl_w) yi_X6_sheetsAt rfl ml_L_110 (by rw [hR]; decide) hw hA hB rfl rfl hl.1 (lv_room (Nat.le_of_ble_eq_true rfl)) dL_isWhole_48 (by rw [hR]; exact ⟨by show _ ≤ (0 : Nat); omega, by show _ ≤ (0 : Nat); omega⟩) (fun _ H locs hu_48 hw => ?_)
      refine q_top (watV (gT g) (gC g) 1) rfl ?_
      refine q_top (gC g 11 1) (by exact wat_1 hg.2.1 hg.2.2.1) ?_
      refine lv_aload_n hx hb dL_isWhole_51 rfl (lv_at hl 0 rfl) ?_
      refine q_iconst hx hb dL_isWhole_52 ?_
      refine q_callK (As := [.int (iI 2)]) (rest := [.int (iI (gC g 11 1))]) (zl_ok z bb L xs) hx hb hml hown hts hK (qH_z (k_size hg 2 (by decide)) zl_w) yi_X6_size rfl ml_L_66 (by rw [hR]; decide) hw hA hB rfl rfl hl.1 (lv_room (Nat.le_of_ble_eq_true rfl)) dL_isWhole_53 (by rw [hR]; exact ⟨by show _ ≤ (0 : Nat); omega, by show _ ≤ (0 : Nat); omega⟩) (fun _ H locs hu_53 hw => ?_)
      refine q_top (gC g 11 1) rfl ?_
      refine q_icmp_ne (tgt := 88) hx hb dL_isWhole_56 (by decide) (by omega) (fun c_56 => absurd c_56 (by omega)) (fun c_56 => ?_)
      refine lv_aload_n hx hb dL_isWhole_59 rfl (lv_at hl 0 rfl) ?_
      refine q_iconst hx hb dL_isWhole_60 ?_
      have join_90 : ∀ (H : Heap) (locs : List Loc) (ls : Array Slot), qw D A s.heap (wW g cI cB cZ cS) H locs → lv_has ls 6 [(0, .ref (g.1 0 0)), (1, .int (iI (gT g 8 0))), (2, .int (iI w))] → W p l e R s m args below meth c H locs 0 0 Q (F0 m 90 ls []) := by
        intro  H locs ls  hw hl
        refine q_iconst hx hb dL_isWhole_90 ?_
        refine lv_istore_n (lv' := [(2, .int (iI 0)), (0, .ref (g.1 0 0)), (1, .int (iI (gT g 8 0)))]) hx hb dL_isWhole_91 rfl hl (by decide) rfl (fun ls hl => ?_)
        refine q_iconst hx hb dL_isWhole_92 ?_
        refine lv_istore_n (lv' := [(3, .int (iI 0)), (2, .int (iI 0)), (0, .ref (g.1 0 0)), (1, .int (iI (gT g 8 0)))]) hx hb dL_isWhole_93 rfl hl (by decide) rfl (fun ls hl => ?_)
        refine q_iconst hx hb dL_isWhole_94 ?_
        refine lv_istore (lv' := [(4, .int (iI 0)), (3, .int (iI 0)), (2, .int (iI 0)), (0, .ref (g.1 0 0)), (1, .int (iI (gT g 8 0)))]) hx hb dL_isWhole_95 hl (by decide) rfl (fun ls hl => ?_)
        have loop_97 : ∀ (fu : Nat) (j : Int) (H : Heap) (locs : List Loc) (ls : Array Slot), (gC g 11 4 - j).toNat = fu → (0 ≤ j ∧ j ≤ gC g 11 4) → qw D A s.heap (wW g cI cB cZ cS) H locs → lv_has ls 6 [(0, .ref (g.1 0 0)), (2, .int (iI ((sI (fun j => jobV (gC g) j 1)) j))), (3, .int (iI ((sI (fun j => jobV (gC g) j 3)) j))), (4, .int (iI j))] → W p l e R s m args below meth c H locs 0 0 Q (F0 m 97 ls []) := by
          intro fu
          induction fu using Nat.strongRecOn with
          | ind fu ih =>
          intro j H locs ls hn_97 hj7 hw hl
          refine lv_iload hx hb dL_isWhole_97 (lv_at hl 3 rfl) ?_
          refine lv_aload_n hx hb dL_isWhole_99 rfl (lv_at hl 0 rfl) ?_
          refine q_iconst hx hb dL_isWhole_100 ?_
          refine q_callK (As := [.int (iI 5)]) (rest := [.int (iI j)]) (zl_ok z bb L xs) hx hb hml hown hts hK (qH_z (k_size hg 5 (by decide)) zl_w) yi_X6_size rfl ml_L_66 (by rw [hR]; decide) hw hA hB rfl rfl hl.1 (lv_room (Nat.le_of_ble_eq_true rfl)) dL_isWhole_101 (by rw [hR]; exact ⟨by show _ ≤ (0 : Nat); omega, by show _ ≤ (0 : Nat); omega⟩) (fun _ H locs hu_101 hw => ?_)
          refine q_top (gC g 11 4) rfl ?_
          refine q_icmp_ge (tgt := 133) hx hb dL_isWhole_104 (by decide) (by omega) (fun c_104 => ?_) (fun c_104 => ?_)
          · have hloc : (sI (fun j => jobV (gC g) j 1)) j = gC g 11 3 := by rw [show j = gC g 11 4 by omega]; exact job_1 hg.2.1
            rw [hloc] at hl
            clear hloc
            have hl : lv_has ls 6 [(0, .ref (g.1 0 0)), (2, .int (iI (gC g 11 3))), (3, .int (iI ((sI (fun j => jobV (gC g) j 3)) j))), (4, .int (iI j))] := hl
            have hloc : (sI (fun j => jobV (gC g) j 3)) j = watV (gT g) (gC g) 2 := by rw [show j = gC g 11 4 by omega]; exact job_3 hg.2.1 hg.2.2.1
            rw [hloc] at hl
            clear hloc
            have hl : lv_has ls 6 [(0, .ref (g.1 0 0)), (2, .int (iI (gC g 11 3))), (3, .int (iI (watV (gT g) (gC g) 2))), (4, .int (iI j))] := hl
            refine lv_iload_n hx hb dL_isWhole_133 rfl (lv_at hl 1 rfl) ?_
            refine lv_aload_n hx hb dL_isWhole_134 rfl (lv_at hl 0 rfl) ?_
            refine q_iconst hx hb dL_isWhole_135 ?_
            refine q_callK (As := [.int (iI 4)]) (rest := [.int (iI (gC g 11 3))]) (zl_ok z bb L xs) hx hb hml hown hts hK (qH_z (k_size hg 4 (by decide)) zl_w) yi_X6_size rfl ml_L_66 (by rw [hR]; decide) hw hA hB rfl rfl hl.1 (lv_room (Nat.le_of_ble_eq_true rfl)) dL_isWhole_136 (by rw [hR]; exact ⟨by show _ ≤ (0 : Nat); omega, by show _ ≤ (0 : Nat); omega⟩) (fun _ H locs hu_136 hw => ?_)
            refine q_top (gC g 11 3) rfl ?_
            refine q_icmp_ne (tgt := 151) hx hb dL_isWhole_139 (by decide) (by omega) (fun c_139 => absurd c_139 (by omega)) (fun c_139 => ?_)
            refine lv_iload_n hx hb dL_isWhole_142 rfl (lv_at hl 2 rfl) ?_
            refine lv_aload_n hx hb dL_isWhole_143 rfl (lv_at hl 0 rfl) ?_
            refine q_iconst hx hb dL_isWhole_144 ?_
            refine q_callK (As := [.int (iI 2)]) (rest := [.int (iI (watV (gT g) (gC g) 2))]) (zl_ok z bb L xs) hx hb hml hown hts hK (qH_z (k_sheetsAt hg 2 (by omega)) zl_w) yi_X6_sheetsAt rfl ml_L_110 (by rw [hR]; decide) hw hA hB rfl rfl hl.1 (lv_room (Nat.le_of_ble_eq_true rfl)) dL_isWhole_145 (by rw [hR]; exact ⟨by show _ ≤ (0 : Nat); omega, by show _ ≤ (0 : Nat); omega⟩) (fun _ H locs hu_145 hw => ?_)
            refine q_top (watV (gT g) (gC g) 2) rfl ?_
            refine q_icmp_eq (tgt := 153) hx hb dL_isWhole_148 (by decide) (by omega) (fun c_148 => ?_) (fun c_148 => absurd c_148 (by omega))
            refine q_iconst hx hb dL_isWhole_153 ?_
            refine lv_istore (lv' := [(4, .int (iI 0)), (0, .ref (g.1 0 0)), (2, .int (iI (gC g 11 3))), (3, .int (iI (watV (gT g) (gC g) 2)))]) hx hb dL_isWhole_154 hl (by decide) rfl (fun ls hl => ?_)
            have loop_156 : ∀ (fu : Nat) (q : Int) (H : Heap) (locs : List Loc) (ls : Array Slot), (gC g 11 3 - q).toNat = fu → (0 ≤ q ∧ q ≤ gC g 11 3) → qw D A s.heap (wW g cI cB cZ cS) H locs → lv_has ls 6 [(0, .ref (g.1 0 0)), (2, .int (iI (gC g 11 3))), (4, .int (iI q))] → W p l e R s m args below meth c H locs 0 0 Q (F0 m 156 ls []) := by
              intro fu
              induction fu using Nat.strongRecOn with
              | ind fu ih =>
              intro q H locs ls hn_156 hq7 hw hl
              refine lv_iload hx hb dL_isWhole_156 (lv_at hl 2 rfl) ?_
              refine lv_iload_n hx hb dL_isWhole_158 rfl (lv_at hl 1 rfl) ?_
              refine q_icmp_ge (tgt := 277) hx hb dL_isWhole_159 (by decide) (by omega) (fun c_159 => ?_) (fun c_159 => ?_)
              · refine q_iconst hx hb dL_isWhole_277 ?_
                refine q_top (1) (by rfl) ?_
                refine W_wide (k := 0) (n := 0) (by omega) (by omega) ?_
                exact hret () H locs 278 ls trivial hw dL_isWhole_278
              · refine lv_aload_n hx hb dL_isWhole_162 rfl (lv_at hl 0 rfl) ?_
                refine lv_iload hx hb dL_isWhole_163 (lv_at hl 2 rfl) ?_
                refine q_iconst hx hb dL_isWhole_165 ?_
                have hq_q := kd_p hg (p := q) (by omega) (by omega)
                refine q_callK (As := [.int (iI q), .int (iI 0)]) (rest := []) (zl_ok z bb L xs) hx hb hml hown hts hK (qH_z (k_page hg q 0 (by decide) (by omega)) zl_w) yi_X6_page rfl ml_L_117 (by rw [hR]; decide) hw hA hB rfl rfl hl.1 (lv_room (Nat.le_of_ble_eq_true rfl)) dL_isWhole_166 (by rw [hR]; exact ⟨by show _ ≤ (0 : Nat); omega, by show _ ≤ (0 : Nat); omega⟩) (fun _ H locs hu_166 hw => ?_)
                refine q_top (gC g 4 q) rfl ?_
                refine lv_istore (lv' := [(5, .int (iI (gC g 4 q))), (0, .ref (g.1 0 0)), (2, .int (iI (gC g 11 3))), (4, .int (iI q))]) hx hb dL_isWhole_169 hl (by decide) rfl (fun ls hl => ?_)
                refine lv_aload_n hx hb dL_isWhole_171 rfl (lv_at hl 1 rfl) ?_
                refine lv_iload hx hb dL_isWhole_172 (lv_at hl 0 rfl) ?_
                refine q_bipush hx hb dL_isWhole_174 rfl ?_
                refine q_callK (As := [.int (iI (gC g 4 q)), .int (iI 7)]) (rest := []) (zl_ok z bb L xs) hx hb hml hown hts hK (qH_z (k_sheet hg (gC g 4 q) 7 (by omega) (by omega)) zl_w) yi_X6_sheet rfl ml_L_120 (by rw [hR]; decide) hw hA hB rfl rfl hl.1 (lv_room (Nat.le_of_ble_eq_true rfl)) dL_isWhole_176 (by rw [hR]; exact ⟨by show _ ≤ (0 : Nat); omega, by show _ ≤ (0 : Nat); omega⟩) (fun _ H locs hu_176 hw => ?_)
                refine q_top (shtV (gT g) (gC g) (gC g 4 q) 7) rfl ?_
                refine q_top (2) (by exact hq_q.2.2.1) ?_
                refine q_iconst hx hb dL_isWhole_179 ?_
                refine q_icmp_ne (tgt := 206) hx hb dL_isWhole_180 (by decide) (by omega) (fun c_180 => absurd c_180 (by omega)) (fun c_180 => ?_)
                refine lv_aload_n hx hb dL_isWhole_183 rfl (lv_at hl 1 rfl) ?_
                refine lv_iload hx hb dL_isWhole_184 (lv_at hl 0 rfl) ?_
                refine q_iconst hx hb dL_isWhole_186 ?_
                refine lv_aload_n hx hb dL_isWhole_187 rfl (lv_at hl 1 rfl) ?_
                refine lv_iload hx hb dL_isWhole_188 (lv_at hl 3 rfl) ?_
                refine q_iconst hx hb dL_isWhole_190 ?_
                refine q_callK (As := [.int (iI q), .int (iI 1)]) (rest := [.int (iI 3), .int (iI (gC g 4 q)), .ref (g.1 0 0)]) (zl_ok z bb L xs) hx hb hml hown hts hK (qH_z (k_page hg q 1 (by decide) (by omega)) zl_w) yi_X6_page rfl ml_L_117 (by rw [hR]; decide) hw hA hB rfl rfl hl.1 (lv_room (Nat.le_of_ble_eq_true rfl)) dL_isWhole_191 (by rw [hR]; exact ⟨by show _ ≤ (0 : Nat); omega, by show _ ≤ (0 : Nat); omega⟩) (fun _ H locs hu_191 hw => ?_)
                refine q_top (gC g 5 q) rfl ?_
                refine q_iadd hx hb dL_isWhole_194 ?_
                refine q_callK (As := [.int (iI (gC g 4 q)), .int (iI (3 + (gC g 5 q)))]) (rest := []) (zl_ok z bb L xs) hx hb hml hown hts hK (qH_z (k_sheet hg (gC g 4 q) (3 + (gC g 5 q)) (by omega) (by omega)) zl_w) yi_X6_sheet rfl ml_L_120 (by rw [hR]; decide) hw hA hB rfl rfl hl.1 (lv_room (Nat.le_of_ble_eq_true rfl)) dL_isWhole_195 (by rw [hR]; exact ⟨by show _ ≤ (0 : Nat); omega, by show _ ≤ (0 : Nat); omega⟩) (fun _ H locs hu_195 hw => ?_)
                refine q_top (shtV (gT g) (gC g) (gC g 4 q) (3 + (gC g 5 q))) rfl ?_
                refine q_top (ink (gT g) (gC g 4 q) (gC g 5 q)) (by exact ink_s ⟨hq_q.2.2.2.2.1, hq_q.2.2.2.2.2.1⟩) ?_
                refine lv_aload_n hx hb dL_isWhole_198 rfl (lv_at hl 1 rfl) ?_
                refine q_iconst hx hb dL_isWhole_199 ?_
                refine q_callK (As := [.int (iI 3)]) (rest := [.int (iI (ink (gT g) (gC g 4 q) (gC g 5 q)))]) (zl_ok z bb L xs) hx hb hml hown hts hK (qH_z (k_limit hg 3 (by decide)) zl_w) yi_X6_limit rfl ml_L_123 (by rw [hR]; decide) hw hA hB rfl rfl hl.1 (lv_room (Nat.le_of_ble_eq_true rfl)) dL_isWhole_200 (by rw [hR]; exact ⟨by show _ ≤ (0 : Nat); omega, by show _ ≤ (0 : Nat); omega⟩) (fun _ H locs hu_200 hw => ?_)
                refine q_top (gC g 8 3) rfl ?_
                refine q_icmp_ge (tgt := 208) hx hb dL_isWhole_203 (by decide) (by omega) (fun c_203 => ?_) (fun c_203 => absurd c_203 (by have z := hq_q.2.2.2.1; omega))
                refine lv_iload hx hb dL_isWhole_208 (lv_at hl 3 rfl) ?_
                refine q_if_le (tgt := 271) hx hb dL_isWhole_210 (by decide) (by omega) (fun c_210 => ?_) (fun c_210 => ?_)
                · refine lv_iinc (v := iI (q + 1)) (lv' := [(4, .int (iI (q + 1))), (5, .int (iI (gC g 4 q))), (0, .ref (g.1 0 0)), (2, .int (iI (gC g 11 3)))]) hx hb dL_isWhole_271 hl (k := 3) rfl (iI_add _ _) (by decide) rfl (fun ls hl => ?_)
                  refine lv_goto (tgt := 156) hx hb dL_isWhole_274 (by decide) ?_
                  exact ih _ (by omega) (q + 1) H locs ls rfl (by omega) hw (lv_sub hl [2, 3, 0] rfl)
                · refine lv_aload_n hx hb dL_isWhole_213 rfl (lv_at hl 1 rfl) ?_
                  refine lv_iload hx hb dL_isWhole_214 (lv_at hl 3 rfl) ?_
                  refine q_iconst hx hb dL_isWhole_216 ?_
                  refine q_isub hx hb dL_isWhole_217 ?_
                  refine q_iconst hx hb dL_isWhole_218 ?_
                  have hqp := hg.2.2.1.1.2.2 q (by omega) (by omega)
                  have hq_m := kd_p hg (p := (q - 1)) (by omega) (by omega)
                  refine q_callK (As := [.int (iI (q - 1)), .int (iI 0)]) (rest := []) (zl_ok z bb L xs) hx hb hml hown hts hK (qH_z (k_page hg (q - 1) 0 (by decide) (by omega)) zl_w) yi_X6_page rfl ml_L_117 (by rw [hR]; decide) hw hA hB rfl rfl hl.1 (lv_room (Nat.le_of_ble_eq_true rfl)) dL_isWhole_219 (by rw [hR]; exact ⟨by show _ ≤ (0 : Nat); omega, by show _ ≤ (0 : Nat); omega⟩) (fun _ H locs hu_219 hw => ?_)
                  refine q_top (gC g 4 (q - 1)) rfl ?_
                  refine lv_iload hx hb dL_isWhole_222 (lv_at hl 0 rfl) ?_
                  refine q_icmp_ne (tgt := 271) hx hb dL_isWhole_224 (by decide) (by omega) (fun c_224 => ?_) (fun c_224 => ?_)
                  · refine lv_iinc (v := iI (q + 1)) (lv' := [(4, .int (iI (q + 1))), (5, .int (iI (gC g 4 q))), (0, .ref (g.1 0 0)), (2, .int (iI (gC g 11 3)))]) hx hb dL_isWhole_271 hl (k := 3) rfl (iI_add _ _) (by decide) rfl (fun ls hl => ?_)
                    refine lv_goto (tgt := 156) hx hb dL_isWhole_274 (by decide) ?_
                    exact ih _ (by omega) (q + 1) H locs ls rfl (by omega) hw (lv_sub hl [2, 3, 0] rfl)
                  · refine lv_aload_n hx hb dL_isWhole_227 rfl (lv_at hl 1 rfl) ?_
                    refine lv_iload hx hb dL_isWhole_228 (lv_at hl 3 rfl) ?_
                    refine q_iconst hx hb dL_isWhole_230 ?_
                    refine q_isub hx hb dL_isWhole_231 ?_
                    refine q_iconst hx hb dL_isWhole_232 ?_
                    refine q_callK (As := [.int (iI (q - 1)), .int (iI 1)]) (rest := []) (zl_ok z bb L xs) hx hb hml hown hts hK (qH_z (k_page hg (q - 1) 1 (by decide) (by omega)) zl_w) yi_X6_page rfl ml_L_117 (by rw [hR]; decide) hw hA hB rfl rfl hl.1 (lv_room (Nat.le_of_ble_eq_true rfl)) dL_isWhole_233 (by rw [hR]; exact ⟨by show _ ≤ (0 : Nat); omega, by show _ ≤ (0 : Nat); omega⟩) (fun _ H locs hu_233 hw => ?_)
                    refine q_top (gC g 5 (q - 1)) rfl ?_
                    refine q_if_ne (tgt := 269) hx hb dL_isWhole_236 (by decide) (by omega) (fun c_236 => absurd c_236 (by have z := (hqp.2 (by omega)).1; omega)) (fun c_236 => ?_)
                    refine lv_aload_n hx hb dL_isWhole_239 rfl (lv_at hl 1 rfl) ?_
                    refine lv_iload hx hb dL_isWhole_240 (lv_at hl 3 rfl) ?_
                    refine q_iconst hx hb dL_isWhole_242 ?_
                    refine q_callK (As := [.int (iI q), .int (iI 1)]) (rest := []) (zl_ok z bb L xs) hx hb hml hown hts hK (qH_z (k_page hg q 1 (by decide) (by omega)) zl_w) yi_X6_page rfl ml_L_117 (by rw [hR]; decide) hw hA hB rfl rfl hl.1 (lv_room (Nat.le_of_ble_eq_true rfl)) dL_isWhole_243 (by rw [hR]; exact ⟨by show _ ≤ (0 : Nat); omega, by show _ ≤ (0 : Nat); omega⟩) (fun _ H locs hu_243 hw => ?_)
                    refine q_top (gC g 5 q) rfl ?_
                    refine q_iconst hx hb dL_isWhole_246 ?_
                    refine q_icmp_ne (tgt := 269) hx hb dL_isWhole_247 (by decide) (by omega) (fun c_247 => absurd c_247 (by have z := (hqp.2 (by omega)).2.1; omega)) (fun c_247 => ?_)
                    refine lv_aload_n hx hb dL_isWhole_250 rfl (lv_at hl 1 rfl) ?_
                    refine lv_iload hx hb dL_isWhole_251 (lv_at hl 3 rfl) ?_
                    refine q_iconst hx hb dL_isWhole_253 ?_
                    refine q_callK (As := [.int (iI q), .int (iI 2)]) (rest := []) (zl_ok z bb L xs) hx hb hml hown hts hK (qH_z (k_page hg q 2 (by decide) (by omega)) zl_w) yi_X6_page rfl ml_L_117 (by rw [hR]; decide) hw hA hB rfl rfl hl.1 (lv_room (Nat.le_of_ble_eq_true rfl)) dL_isWhole_254 (by rw [hR]; exact ⟨by show _ ≤ (0 : Nat); omega, by show _ ≤ (0 : Nat); omega⟩) (fun _ H locs hu_254 hw => ?_)
                    refine q_top (gC g 6 q) rfl ?_
                    refine lv_aload_n hx hb dL_isWhole_257 rfl (lv_at hl 1 rfl) ?_
                    refine lv_iload hx hb dL_isWhole_258 (lv_at hl 3 rfl) ?_
                    refine q_iconst hx hb dL_isWhole_260 ?_
                    refine q_isub hx hb dL_isWhole_261 ?_
                    refine q_iconst hx hb dL_isWhole_262 ?_
                    refine q_callK (As := [.int (iI (q - 1)), .int (iI 2)]) (rest := [.int (iI (gC g 6 q))]) (zl_ok z bb L xs) hx hb hml hown hts hK (qH_z (k_page hg (q - 1) 2 (by decide) (by omega)) zl_w) yi_X6_page rfl ml_L_117 (by rw [hR]; decide) hw hA hB rfl rfl hl.1 (lv_room (Nat.le_of_ble_eq_true rfl)) dL_isWhole_263 (by rw [hR]; exact ⟨by show _ ≤ (0 : Nat); omega, by show _ ≤ (0 : Nat); omega⟩) (fun _ H locs hu_263 hw => ?_)
                    refine q_top (gC g 6 (q - 1)) rfl ?_
                    refine q_icmp_eq (tgt := 271) hx hb dL_isWhole_266 (by decide) (by omega) (fun c_266 => ?_) (fun c_266 => absurd c_266 (by have z := (hqp.2 (by omega)).2.2; omega))
                    refine lv_iinc (v := iI (q + 1)) (lv' := [(4, .int (iI (q + 1))), (5, .int (iI (gC g 4 q))), (0, .ref (g.1 0 0)), (2, .int (iI (gC g 11 3)))]) hx hb dL_isWhole_271 hl (k := 3) rfl (iI_add _ _) (by decide) rfl (fun ls hl => ?_)
                    refine lv_goto (tgt := 156) hx hb dL_isWhole_274 (by decide) ?_
                    exact ih _ (by omega) (q + 1) H locs ls rfl (by omega) hw (lv_sub hl [2, 3, 0] rfl)
            exact loop_156 _ (0) H locs ls rfl (by omega) hw (lv_sub hl [1, 2, 0] rfl)
          · refine lv_iload_n hx hb dL_isWhole_107 rfl (lv_at hl 1 rfl) ?_
            refine lv_aload_n hx hb dL_isWhole_108 rfl (lv_at hl 0 rfl) ?_
            refine lv_iload hx hb dL_isWhole_109 (lv_at hl 3 rfl) ?_
            refine q_iconst hx hb dL_isWhole_111 ?_
            refine q_callK (As := [.int (iI j), .int (iI 1)]) (rest := [.int (iI ((sI (fun j => jobV (gC g) j 1)) j))]) (zl_ok z bb L xs) hx hb hml hown hts hK (qH_z (k_job hg j 1 (by decide) (by omega)) zl_w) yi_X6_job rfl ml_L_113 (by rw [hR]; decide) hw hA hB rfl rfl hl.1 (lv_room (Nat.le_of_ble_eq_true rfl)) dL_isWhole_112 (by rw [hR]; exact ⟨by show _ ≤ (0 : Nat); omega, by show _ ≤ (0 : Nat); omega⟩) (fun _ H locs hu_112 hw => ?_)
            refine q_top (jobV (gC g) j 1) rfl ?_
            refine q_iadd hx hb dL_isWhole_115 ?_
            refine q_top ((sI (fun j => jobV (gC g) j 1)) (j + 1)) (by exact (sI_s _ hj7.1).symm) ?_
            refine lv_istore_n (lv' := [(2, .int (iI ((sI (fun j => jobV (gC g) j 1)) (j + 1)))), (0, .ref (g.1 0 0)), (3, .int (iI ((sI (fun j => jobV (gC g) j 3)) j))), (4, .int (iI j))]) hx hb dL_isWhole_116 rfl hl (by decide) rfl (fun ls hl => ?_)
            refine lv_iload_n hx hb dL_isWhole_117 rfl (lv_at hl 2 rfl) ?_
            refine lv_aload_n hx hb dL_isWhole_118 rfl (lv_at hl 1 rfl) ?_
            refine lv_iload hx hb dL_isWhole_119 (lv_at hl 3 rfl) ?_
            refine q_iconst hx hb dL_isWhole_121 ?_
            refine q_callK (As := [.int (iI j), .int (iI 3)]) (rest := [.int (iI ((sI (fun j => jobV (gC g) j 3)) j))]) (zl_ok z bb L xs) hx hb hml hown hts hK (qH_z (k_job hg j 3 (by decide) (by omega)) zl_w) yi_X6_job rfl ml_L_113 (by rw [hR]; decide) hw hA hB rfl rfl hl.1 (lv_room (Nat.le_of_ble_eq_true rfl)) dL_isWhole_122 (by rw [hR]; exact ⟨by show _ ≤ (0 : Nat); omega, by show _ ≤ (0 : Nat); omega⟩) (fun _ H locs hu_122 hw => ?_)
            refine q_top (jobV (gC g) j 3) rfl ?_
            refine q_iadd hx hb dL_isWhole_125 ?_
            refine q_top ((sI (fun j => jobV (gC g) j 3)) (j + 1)) (by exact (sI_s _ hj7.1).symm) ?_
            refine lv_istore_n (lv' := [(3, .int (iI ((sI (fun j => jobV (gC g) j 3)) (j + 1)))), (2, .int (iI ((sI (fun j => jobV (gC g) j 1)) (j + 1)))), (0, .ref (g.1 0 0)), (4, .int (iI j))]) hx hb dL_isWhole_126 rfl hl (by decide) rfl (fun ls hl => ?_)
            refine lv_iinc (v := iI (j + 1)) (lv' := [(4, .int (iI (j + 1))), (3, .int (iI ((sI (fun j => jobV (gC g) j 3)) (j + 1)))), (2, .int (iI ((sI (fun j => jobV (gC g) j 1)) (j + 1)))), (0, .ref (g.1 0 0))]) hx hb dL_isWhole_127 hl (k := 3) rfl (iI_add _ _) (by decide) rfl (fun ls hl => ?_)
            refine lv_goto (tgt := 97) hx hb dL_isWhole_130 (by decide) ?_
            exact ih _ (by omega) (j + 1) H locs ls rfl (by omega) hw (lv_sub hl [3, 2, 1, 0] rfl)
        exact loop_97 _ (0) H locs ls rfl (by omega) hw (lv_sub hl [3, 2, 1, 0] rfl)
      refine q_callK (As := [.int (iI 2)]) (rest := []) (zl_ok z bb L xs) hx hb hml hown hts hK (qH_z (k_size hg 2 (by decide)) zl_w) yi_X6_size rfl ml_L_66 (by rw [hR]; decide) hw hA hB rfl rfl hl.1 (lv_room (Nat.le_of_ble_eq_true rfl)) dL_isWhole_61 (by rw [hR]; exact ⟨by show _ ≤ (0 : Nat); omega, by show _ ≤ (0 : Nat); omega⟩) (fun _ H locs hu_61 hw => ?_)
      refine q_top (gC g 11 1) rfl ?_
      refine q_if_le (tgt := 71) hx hb dL_isWhole_64 (by decide) (by omega) (fun c_64 => ?_) (fun c_64 => ?_)
      · refine q_iconst hx hb dL_isWhole_71 ?_
        refine lv_aload_n hx hb dL_isWhole_72 rfl (lv_at hl 0 rfl) ?_
        refine q_iconst hx hb dL_isWhole_73 ?_
        refine q_callK (As := [.int (iI 3)]) (rest := [.int (iI 0)]) (zl_ok z bb L xs) hx hb hml hown hts hK (qH_z (k_size hg 3 (by decide)) zl_w) yi_X6_size rfl ml_L_66 (by rw [hR]; decide) hw hA hB rfl rfl hl.1 (lv_room (Nat.le_of_ble_eq_true rfl)) dL_isWhole_74 (by rw [hR]; exact ⟨by show _ ≤ (0 : Nat); omega, by show _ ≤ (0 : Nat); omega⟩) (fun _ H locs hu_74 hw => ?_)
        refine q_top (gC g 11 2) rfl ?_
        refine q_if_le (tgt := 84) hx hb dL_isWhole_77 (by decide) (by omega) (fun c_77 => ?_) (fun c_77 => absurd c_77 (by omega))
        refine q_iconst hx hb dL_isWhole_84 ?_
        refine q_icmp_eq (tgt := 90) hx hb dL_isWhole_85 (by decide) (by omega) (fun c_85 => ?_) (fun c_85 => absurd c_85 (by omega))
        exact join_90  H locs ls  hw hl
      · refine q_iconst hx hb dL_isWhole_67 ?_
        refine lv_goto (tgt := 72) hx hb dL_isWhole_68 (by decide) ?_
        refine lv_aload_n hx hb dL_isWhole_72 rfl (lv_at hl 0 rfl) ?_
        refine q_iconst hx hb dL_isWhole_73 ?_
        refine q_callK (As := [.int (iI 3)]) (rest := [.int (iI 1)]) (zl_ok z bb L xs) hx hb hml hown hts hK (qH_z (k_size hg 3 (by decide)) zl_w) yi_X6_size rfl ml_L_66 (by rw [hR]; decide) hw hA hB rfl rfl hl.1 (lv_room (Nat.le_of_ble_eq_true rfl)) dL_isWhole_74 (by rw [hR]; exact ⟨by show _ ≤ (0 : Nat); omega, by show _ ≤ (0 : Nat); omega⟩) (fun _ H locs hu_74 hw => ?_)
        refine q_top (gC g 11 2) rfl ?_
        refine q_if_le (tgt := 84) hx hb dL_isWhole_77 (by decide) (by omega) (fun c_77 => absurd c_77 (by omega)) (fun c_77 => ?_)
        refine q_iconst hx hb dL_isWhole_80 ?_
        refine lv_goto (tgt := 85) hx hb dL_isWhole_81 (by decide) ?_
        refine q_icmp_eq (tgt := 90) hx hb dL_isWhole_85 (by decide) (by omega) (fun c_85 => ?_) (fun c_85 => absurd c_85 (by omega))
        exact join_90  H locs ls  hw hl
    · refine lv_iload_n hx hb dL_isWhole_10 rfl (lv_at hl 1 rfl) ?_
      refine lv_aload_n hx hb dL_isWhole_11 rfl (lv_at hl 0 rfl) ?_
      refine lv_iload_n hx hb dL_isWhole_12 rfl (lv_at hl 2 rfl) ?_
      refine q_callK (As := [.int (iI w)]) (rest := [.int (iI ((sI (fun w => watV (gT g) (gC g) w)) w))]) (zl_ok z bb L xs) hx hb hml hown hts hK (qH_z (k_sheetsAt hg w (by omega)) zl_w) yi_X6_sheetsAt rfl ml_L_110 (by rw [hR]; decide) hw hA hB rfl rfl hl.1 (lv_room (Nat.le_of_ble_eq_true rfl)) dL_isWhole_13 (by rw [hR]; exact ⟨by show _ ≤ (0 : Nat); omega, by show _ ≤ (0 : Nat); omega⟩) (fun _ H locs hu_13 hw => ?_)
      refine q_top (watV (gT g) (gC g) w) rfl ?_
      refine q_iadd hx hb dL_isWhole_16 ?_
      refine q_top ((sI (fun w => watV (gT g) (gC g) w)) (w + 1)) (by exact (sI_s _ hw7.1).symm) ?_
      refine lv_istore_n (lv' := [(1, .int (iI ((sI (fun w => watV (gT g) (gC g) w)) (w + 1)))), (0, .ref (g.1 0 0)), (2, .int (iI w))]) hx hb dL_isWhole_17 rfl hl (by decide) rfl (fun ls hl => ?_)
      refine lv_iinc (v := iI (w + 1)) (lv' := [(2, .int (iI (w + 1))), (1, .int (iI ((sI (fun w => watV (gT g) (gC g) w)) (w + 1)))), (0, .ref (g.1 0 0))]) hx hb dL_isWhole_18 hl (k := 2) rfl (iI_add _ _) (by decide) rfl (fun ls hl => ?_)
      refine lv_goto (tgt := 4) hx hb dL_isWhole_21 (by decide) ?_
      exact ih _ (by omega) (w + 1) H locs ls rfl (by omega) hw (lv_sub hl [2, 1, 0] rfl)
  exact loop_4 _ (0) H locs ls rfl (by omega) hw (lv_sub hl [2, 1, 0] rfl)
end KHE
