/-! REFUSES; THE LAW'S WALK. Written by wip/p30/n45.py -/
abbrev AL (s : State) : Nat → Prop := fun q => s.heap.size ≤ q
theorem cw_L_refuses : Cond.codeWith yL_refuses cL_refuses 2 (some .boolean) [(0, 7, 8, 139)] ∈ gW := gW_mem 997 (by decide +kernel) (by decide +kernel)
theorem yw_L_refuses : (yL_refuses.cls ≠ "java/lang/invoke/MethodHandle" ∧ yL_refuses.cls ≠ "java/lang/invoke/VarHandle") ∧ (parseMethodDescriptor yL_refuses.desc).map (fun d => d.parameters.length) = some 1 := ⟨⟨by decide, by decide⟩, by decide +kernel⟩
theorem kd_m {g : Wd} {N M : Int} (h : gd g N) (hM : N ≤ M ∧ M ≤ 1000000) : gd g M := ⟨h.1, h.2.1, h.2.2.1, h.2.2.2.1, h.2.2.2.2.1, ⟨h.2.2.2.2.2.1.1, by have := h.2.2.2.2.2.1.2.1; omega, hM.2, h.2.2.2.2.2.1.2.2.2⟩, h.2.2.2.2.2.2⟩
section REF
variable {l : Launch} {z : Nat → Nat} {D : va_G} {cI cB cZ cS cJ : ClassId} {g : Wd} {N : Int} {bb L : Nat} {xs : Nat → Int32}
set_option maxHeartbeats 4000000 in
theorem c_L_refuses (hg : gd g N) (hst : l.stackTraces = false) : qH l (ZY z) D (tyG cI cB cZ cS cJ) yL_refuses (.codeWith yL_refuses cL_refuses 2 (some .boolean) [(0, 7, 8, 139)] :: gW) 7 105 1 6 [.ref (g.1 0 0)] (wW g cI cB cZ cS) (fun _ : Unit => True) (fun _ => some (.int (iI 1))) (fun _ => wW g cI cB cZ cS) := by
  refine qH_enterW (val := fun _ => iI 1) (by decide) (Nat.le_of_ble_eq_true rfl) (fun u hu => ⟨rfl, nar_z (Or.inr rfl)⟩) (fun p e R s m args below meth c Q ls A X hR hA hw hZ hl htab hret => ?_)
  obtain ⟨hx, hb, hml, hown, hts, hK⟩ := X
  have hl : lv_has ls 2 [(0, .ref (g.1 0 0))] := hl
  refine lv_aload_n hx hb dL_refuses_0 rfl (lv_at hl 0 rfl) ?_
  refine q_iconst hx hb dL_refuses_1 ?_
  have hT : qT l (ZY z) D (tyG cI cB cZ cS cJ) yX6_feed cX6_feed 4 (Option.some FieldType.int) 6 82 (.ref (g.1 0 0) :: [.int (iI 0)]) (wW g cI cB cZ cS) EIA := qT_up (l := l) (D := D) (Z := ZY z) (ty := tyG cI cB cZ cS cJ) (W9 := fl (BS (g.1 0) (g.1 1) (g.1 2) (g.1 3) (g.1 4) (g.2.1 0) (g.2.1 1) cI cB cZ cS (g.2.2.1 0) (g.2.2.1 1) (g.2.2.2.1 0) (g.2.2.2.1 1) (g.2.2.2.1 2) (g.2.2.2.1 3) (g.2.2.2.1 4) (g.2.2.2.1 5) (g.2.2.2.1 6) (g.2.2.2.1 7) (g.2.2.2.1 8) (g.2.2.2.1 9) (g.2.2.2.1 10) (g.2.2.2.1 11) (g.2.2.2.1 12) (g.2.2.2.1 13) (g.2.2.2.1 14) (g.2.2.2.1 15) (g.2.2.2.1 16) (g.2.2.2.1 17) (g.2.2.2.1 18) (g.2.2.2.1 19) (g.2.2.2.1 20) (g.2.2.2.1 21) (g.2.2.2.1 22) (g.2.2.2.1 23) (g.2.2.2.1 24) (g.2.2.2.1 25) (g.2.2.2.2.1 0) (g.2.2.2.2.1 1) (g.2.2.2.2.1 2) (g.2.2.2.2.1 3) (g.2.2.2.2.1 4) (g.2.2.2.2.1 5) (g.2.2.2.2.1 6) (g.2.2.2.2.1 7) (g.2.2.2.2.1 8) (g.2.2.2.2.1 9) (g.2.2.2.2.1 10) (g.2.2.2.2.2 0) (g.2.2.2.2.2 1))) (zy_ok z) (c_X6_feed_x1 0 hg.1 hg.2.1 hst (by omega) (by decide)) _ (cs_U (cI := cI) (cB := cB) (cZ := cZ) (cS := cS) (x := (g.1 0)) (a := (g.1 1)) (b := (g.1 2)) (ap := (g.1 3)) (b2 := (g.1 4)) (aH := (g.2.1 0)) (aV := (g.2.1 1)) (T := (g.2.2.1 0)) (C := (g.2.2.1 1)) (lat := (g.2.2.2.1 0)) (und := (g.2.2.2.1 1)) (pfl := (g.2.2.2.1 2)) (pln := (g.2.2.2.1 3)) (pkd := (g.2.2.2.1 4)) (pst := (g.2.2.2.1 5)) (pen := (g.2.2.2.1 6)) (per := (g.2.2.2.1 7)) (pls := (g.2.2.2.1 8)) (pss := (g.2.2.2.1 9)) (us := (g.2.2.2.1 10)) (f1 := (g.2.2.2.1 11)) (f2 := (g.2.2.2.1 12)) (f3 := (g.2.2.2.1 13)) (pf := (g.2.2.2.1 14)) (pm := (g.2.2.2.1 15)) (pt := (g.2.2.2.1 16)) (pl := (g.2.2.2.1 17)) (pw := (g.2.2.2.1 18)) (w1 := (g.2.2.2.1 19)) (w2 := (g.2.2.2.1 20)) (w3 := (g.2.2.2.1 21)) (w4 := (g.2.2.2.1 22)) (w5 := (g.2.2.2.1 23)) (w6 := (g.2.2.2.1 24)) (hn := (g.2.2.2.1 25)) (svd := (g.2.2.2.2.1 0)) (bf := (g.2.2.2.2.1 1)) (y0 := (g.2.2.2.2.1 2)) (y1 := (g.2.2.2.2.1 3)) (y2 := (g.2.2.2.2.1 4)) (y3 := (g.2.2.2.2.1 5)) (y4 := (g.2.2.2.2.1 6)) (y5 := (g.2.2.2.2.1 7)) (y6 := (g.2.2.2.2.1 8)) (y7 := (g.2.2.2.2.1 9)) (ht := (g.2.2.2.2.1 10)) (cH := (g.2.2.2.2.2 0)) (cV := (g.2.2.2.2.2 1)))
  have hw : qw D A s.heap (wW g cI cB cZ cS ++ []) s.heap [] := by rw [List.append_nil]; exact hw
  refine q_callT (wr := []) (ci := 6) (T := TX6) (N := 10) (As := [.int (iI 0)]) (rest := []) (zy_ok z) hx hb hml hown hts hK hT yi_X6_feed ml_L_69 (by rw [hR]; exact ⟨Nat.le_of_ble_eq_true rfl, Nat.le_of_ble_eq_true rfl⟩) hw hA hZ 0 wW_0 rfl rfl rfl hl.1 (lv_room (Nat.le_of_ble_eq_true rfl)) dL_refuses_2 ⟨by rw [hR]; exact Nat.le_of_ble_eq_true rfl, by rw [hR]; exact Nat.le_of_ble_eq_true rfl⟩ [] ⟨0, 7, 8, 139⟩ [] (by rw [htab]; rfl) (fun q hq => absurd hq List.not_mem_nil) (by decide) (by decide) cl_L_139 (hZ.2.1 _ (List.mem_of_getElem? (i := 3) rfl)) (fun q9 H locs hw => ?_)
  rw [List.append_nil] at hw
  refine lv_astore_n (lv' := [(1, .ref q9), (0, .ref (g.1 0 0))]) hx hb dL_refuses_8 rfl hl (by decide) rfl (fun ls hl => ?_)
  refine q_iconst hx hb dL_refuses_9 ?_
  exact hret () H locs 10 ls trivial hw dL_refuses_10
end REF
section LWK
variable {p : Program} {l : Launch} {e : Env} {R : Room} {s : State} {m : MethodId} {args : Array Value} {below : List Frame} {meth : Method} {c : Code} {H : Heap} {locs : List Loc} {cells slots : Nat} {Q : State → Prop} {D : va_G} {cI cB cZ cS cJ : ClassId} {z : Nat → Nat} {bb L : Nat} {xs : Nat → Int32} {ls : Array Slot}
theorem kd_l3 {g : Wd} {k : Nat} (h : gd g (3 * (k : Int) + 1 + 1)) (hk : k ≤ 20) : 0 ≤ g.2.2.2.1 0 + 1 ∧ g.2.2.2.1 0 + 1 ≤ 3 * ((k + 1 : Nat) : Int) ∧ 3 * ((k + 1 : Nat) : Int) ≤ 1000000 ∧ 0 ≤ nxU (g.2.2.2.1 1) ∧ nxU (g.2.2.2.1 1) ≤ 10 := by
  have q := h.2.2.2.2.2.1
  unfold nxU
  split <;> omega
/-- a static method of the law's, on the feeder -/
theorem q_callSK {g : Wd} {A : Nat → Prop} {Z : ZT} {cc : ByteArray} {pc : Nat} {rest : List Value} {S : Type} {P : S → Prop} {rv : S → Option Value} {W1 : S → va_W} {own : String} {index k fr lo mc ms nL nY : Nat} {y : MethodName} {bytes : ByteArray} {ret : Option FieldType} {As : List Value} {st : List Value} (hz : zOk Z) (hx : p.tables.exec = Jvm.exec) (hb : c.code = cc) (hml : c.maxLocals = nL) (hown : s.vm.findClass own = some m.cls) (hts : ∀ w ∈ gW, w.before args s = true) (hK : va_K D vwCl (tyG cI cB cZ cS cJ) s)
    (hM : qH l Z D (tyG cI cB cZ cS cJ) y (.code y bytes nY ret :: gW) fr lo mc ms As (wW g cI cB cZ cS) P rv W1) (hy : qYt y bytes nY ret k) (hl : Cond.methodLink own index y ∈ gW) (hR : fr + 1 ≤ R.frames ∧ 8 + (nY + 11) + lo ≤ R.locals) (hw : qw D A s.heap (wW g cI cB cZ cS) H locs) (hA : ∀ q : Nat, s.heap.size ≤ q → A q) (hZ : Z A s s.heap) (hn : As.length = k) (hst : st = As.reverse ++ rest) (hls : ls.size = nL) (hW : 2 * (F0 m pc ls st).monitorRoom + (rest.map fun v => v.category).sum ≤ 8) (hdg : decode cc pc = .ok (.invokestatic index, 3)) (hcs : cells + mc ≤ R.cells ∧ slots + ms ≤ R.slots)
    (kk : ∀ (u : S) (H1 : Heap) (locs1 : List Loc), P u → qw D A s.heap (W1 u) H1 locs1 → W p l e R s m args below meth c H1 locs1 (cells + mc) (slots + ms) Q (F0 m (pc + 3) ls ((rv u).toList ++ rest))) : W p l e R s m args below meth c H locs cells slots Q (F0 m pc ls st) :=
  q_callHS (wr := []) hz hx hb hml hown hts hK hM hy hl hR (by rw [List.append_nil]; exact hw) hA hZ hn hst hls hW hdg hcs (fun u H1 locs1 h1 h2 => kk u H1 locs1 h1 (by rw [List.append_nil] at h2; exact h2))

set_option maxHeartbeats 4000000 in
set_option maxRecDepth 100000 in
theorem law_loop (hx : p.tables.exec = Jvm.exec) (hb : c.code = code) (hml : c.maxLocals = 4) (hown : s.vm.findClass RL = some m.cls) (hts : ∀ w ∈ gW, w.before args s = true) (hK : va_K D vwCl (tyG cI cB cZ cS cJ) s) (hR : R = room_1) (hB : ZL z bb L xs (AL s) s s.heap) (hst : l.stackTraces = false) (hL : L ≤ 260) (kend : ∀ (ws1 : va_W) (H1 : Heap) (locs1 : List Loc) (ls1 : Array Slot) (c1 s1 : Nat), c1 ≤ room_1.cells → s1 ≤ room_1.slots → qw D (AL s) s.heap ws1 H1 locs1 → W p l e R s m args below meth c H1 locs1 c1 s1 Q (F0 m 157 ls1 [.int (iI 1)])) : ∀ (fu : Nat) (k : Nat) (g : Wd) (H : Heap) (locs : List Loc) (ls : Array Slot), 14 - k = fu → k ≤ 14 → gd g (3 * (k : Int)) → qw D (AL s) s.heap (wW g cI cB cZ cS) H locs → lv_has ls 4 [(2, .int (iI (k : Int))), (0, .ref bb), (1, .ref (g.1 0 0))] → W p l e R s m args below meth c H locs (0 + 1 + 196 + 460) (0 + 10 + 8837 + 700000) Q (F0 m 54 ls []) := by
  have hA : ∀ q : Nat, s.heap.size ≤ q → (AL s) q := fun q h => h
  intro fu
  induction fu using Nat.strongRecOn with
  | ind fu ih =>
    intro k g H locs ls hfu hk hg hw hl
    have hkf := kd_f hg
    refine lv_iload_n hx hb dL_law_54 rfl (lv_at hl 0 rfl) ?_
    refine q_bipush hx hb dL_law_55 rfl ?_
    refine q_icmp_ge (tgt := 153) hx hb dL_law_57 (by decide) (by omega) (fun c_57 => ?_) (fun c_57 => ?_)
    · refine lv_aload_n hx hb dL_law_153 rfl (lv_at hl 2 rfl) ?_
      have hw : qw D (AL s) s.heap (wW g cI cB cZ cS ++ []) H locs := by rw [List.append_nil]; exact hw
      refine q_callW (wr := []) (As := [.ref (g.1 0 0)]) (rest := []) (zy_ok z) hx hb hml hown hts hK (c_L_refuses hg hst) cw_L_refuses ini_L st_L_refuses yw_L_refuses.1 yw_L_refuses.2 ml_L_107 (by rw [hR]; exact ⟨Nat.le_of_ble_eq_true rfl, Nat.le_of_ble_eq_true rfl⟩) hw hA (zl_y _ _ _ hB) rfl rfl hl.1 (lv_room (Nat.le_of_ble_eq_true rfl)) dL_law_154 (by rw [hR]; exact ⟨by show _ ≤ (600086 : Nat); omega, by show _ ≤ (7301442 : Nat); omega⟩) (fun _ H locs _ hw => ?_)
      exact kend _ H locs ls _ _ (by show _ ≤ (600086 : Nat); omega) (by show _ ≤ (7301442 : Nat); omega) hw
    · have j85 : ∀ (g : Wd) (H : Heap) (locs : List Loc) (ls : Array Slot), gd g (3 * (k : Int) + 1) → qw D (AL s) s.heap (wW g cI cB cZ cS) H locs → lv_has ls 4 [(2, .int (iI (k : Int))), (0, .ref bb), (1, .ref (g.1 0 0))] → W p l e R s m args below meth c H locs (0 + 1 + 196 + 460) (0 + 10 + 8837 + 700000) Q (F0 m 85 ls []) := by
        intro g H locs ls hg hw hl
        have hkf := kd_f hg
        refine lv_aload_n hx hb dL_law_85 rfl (lv_at hl 2 rfl) ?_
        refine lv_aload_n hx hb dL_law_86 rfl (lv_at hl 1 rfl) ?_
        refine q_bipush hx hb dL_law_87 rfl ?_
        refine q_iconst hx hb dL_law_89 ?_
        refine lv_iload_n hx hb dL_law_90 rfl (lv_at hl 0 rfl) ?_
        refine q_imul hx hb dL_law_91 ?_
        refine q_iadd hx hb dL_law_92 ?_
        refine q_callSK (As := [.ref (g.1 0 0), .ref bb, .int (iI (100 + 2 * ((k : Int))))]) (rest := []) (zl_ok z bb L xs) hx hb hml hown hts hK (c_L_acts hg (by omega) (by omega) (100 + 2 * ((k : Int))) (by omega)) yt_L_acts ml_L_96 (by rw [hR]; exact ⟨Nat.le_of_ble_eq_true rfl, Nat.le_of_ble_eq_true rfl⟩) hw hA hB rfl rfl hl.1 (lv_room (Nat.le_of_ble_eq_true rfl)) dL_law_93 (by rw [hR]; exact ⟨by show _ ≤ (600086 : Nat); omega, by show _ ≤ (7301442 : Nat); omega⟩) (fun v_93 H locs hu_93 hw => ?_)
        obtain ⟨g93, rfl⟩ : ∃ q, q = v_93 := ⟨_, rfl⟩
        have hw : qw D (AL s) s.heap (wW g93 cI cB cZ cS) H locs := hw
        have hg93 := hu_93.1
        have el93 : g93.1 0 0 = g.1 0 0 := by rw [hu_93.2.1]
        rw [← el93] at hl
        refine lv_istore_n (lv' := [(3, .int (iI 1)), (2, .int (iI ((k : Int)))), (0, .ref bb), (1, .ref (g93.1 0 0))]) hx hb dL_law_96 rfl hl (by decide) rfl (fun ls hl => ?_)
        refine lv_iload_n hx hb dL_law_97 rfl (lv_at hl 0 rfl) ?_
        refine q_if_eq (tgt := 108) hx hb dL_law_98 (by decide) (by omega) (fun c_98 => absurd c_98 (by omega)) (fun c_98 => ?_)
        refine lv_aload_n hx hb dL_law_101 rfl (lv_at hl 3 rfl) ?_
        refine q_callSK (As := [.ref (g93.1 0 0)]) (rest := []) (zl_ok z bb L xs) hx hb hml hown hts hK (c_L_isWhole hg93) yt_L_isWhole ml_L_100 (by rw [hR]; exact ⟨Nat.le_of_ble_eq_true rfl, Nat.le_of_ble_eq_true rfl⟩) hw hA hB rfl rfl hl.1 (lv_room (Nat.le_of_ble_eq_true rfl)) dL_law_102 (by rw [hR]; exact ⟨by show _ ≤ (600086 : Nat); omega, by show _ ≤ (7301442 : Nat); omega⟩) (fun _ H locs hu_102 hw => ?_)
        refine q_if_ne (tgt := 110) hx hb dL_law_105 (by decide) (by omega) (fun c_105 => ?_) (fun c_105 => absurd c_105 (by omega))
        refine lv_aload_n hx hb dL_law_110 rfl (lv_at hl 2 rfl) ?_
        refine q_sipush hx hb dL_law_111 rfl ?_
        refine lv_iload_n hx hb dL_law_114 rfl (lv_at hl 1 rfl) ?_
        refine q_iadd hx hb dL_law_115 ?_
        refine q_bipush hx hb dL_law_116 rfl ?_
        refine q_callPSz (As := [.ref bb, .int (iI (130 + ((k : Int)))), .int (iI 9)]) (rest := []) (zl_ok z bb L xs) hx hb hml hown hts hK (c_L_pick (130 + ((k : Int))) (9) (by omega) (by omega) (by omega)) yt_L_pick ml_L_15 (by rw [hR]; exact ⟨Nat.le_of_ble_eq_true rfl, Nat.le_of_ble_eq_true rfl⟩) P_nil (z_M (zl_ok z bb L xs) hB hw hA [] rfl) rfl rfl hl.1 (lv_room (Nat.le_of_ble_eq_true rfl)) dL_law_118 (by rw [hR]; exact ⟨by show _ ≤ (600086 : Nat); omega, by show _ ≤ (7301442 : Nat); omega⟩) ?_
        have pk_118 := pkV_rg (xs := xs) (L := L) (k := (130 + ((k : Int)))) (n := 9) (by omega)
        refine q_if_ne (tgt := 147) hx hb dL_law_121 (by decide) (by omega) (fun c_121 => ?_) (fun c_121 => ?_)
        · refine lv_iinc (v := iI ((k + 1 : Nat) : Int)) (lv' := [(2, .int (iI ((k + 1 : Nat) : Int))), (3, .int (iI 1)), (0, .ref bb), (1, .ref (g93.1 0 0))]) hx hb dL_law_147 hl (k := 1) rfl ((iI_add _ _).trans (by congr 1)) (by decide) rfl (fun ls hl => ?_)
          refine lv_goto (tgt := 54) hx hb dL_law_150 (by decide) ?_
          exact ih _ (by omega) (k + 1) g93 H locs ls rfl (by omega) (kd_m hg93 (by omega)) hw (lv_sub hl [0, 2, 3] rfl)
        · refine lv_aload_n hx hb dL_law_124 rfl (lv_at hl 3 rfl) ?_
          refine lv_aload_n hx hb dL_law_125 rfl (lv_at hl 2 rfl) ?_
          refine q_sipush hx hb dL_law_126 rfl ?_
          refine lv_iload_n hx hb dL_law_129 rfl (lv_at hl 1 rfl) ?_
          refine q_iadd hx hb dL_law_130 ?_
          refine q_iconst hx hb dL_law_131 ?_
          refine q_callPSz (As := [.ref bb, .int (iI (140 + ((k : Int)))), .int (iI 2)]) (rest := [.ref (g93.1 0 0)]) (zl_ok z bb L xs) hx hb hml hown hts hK (c_L_pick (140 + ((k : Int))) (2) (by omega) (by omega) (by omega)) yt_L_pick ml_L_15 (by rw [hR]; exact ⟨Nat.le_of_ble_eq_true rfl, Nat.le_of_ble_eq_true rfl⟩) P_nil (z_M (zl_ok z bb L xs) hB hw hA [] rfl) rfl rfl hl.1 (lv_room (Nat.le_of_ble_eq_true rfl)) dL_law_132 (by rw [hR]; exact ⟨by show _ ≤ (600086 : Nat); omega, by show _ ≤ (7301442 : Nat); omega⟩) ?_
          have pk_132 := pkV_rg (xs := xs) (L := L) (k := (140 + ((k : Int)))) (n := 2) (by omega)
          refine q_if_ne (tgt := 142) hx hb dL_law_135 (by decide) (by omega) (fun c_135 => ?_) (fun c_135 => ?_)
          · refine q_iconst hx hb dL_law_142 ?_
            refine q_callK (As := [.int (iI 0)]) (rest := []) (zl_ok z bb L xs) hx hb hml hown hts hK (qH_z (k_setDuplex hg93 0 (by decide)) zl_w) yi_X6_setDuplex rfl ml_L_103 (by rw [hR]; exact ⟨Nat.le_of_ble_eq_true rfl, Nat.le_of_ble_eq_true rfl⟩) hw hA hB rfl rfl hl.1 (lv_room (Nat.le_of_ble_eq_true rfl)) dL_law_143 (by rw [hR]; exact ⟨by show _ ≤ (600086 : Nat); omega, by show _ ≤ (7301442 : Nat); omega⟩) (fun v_143 H locs hu_143 hw => ?_)
            refine q_top (gC g93 11 5) rfl ?_
            obtain ⟨g143, rfl⟩ : ∃ q, q = v_143 := ⟨_, rfl⟩
            have hw : qw D (AL s) s.heap (wW g143 cI cB cZ cS) H locs := hw
            have hg143 : gd g143 (3 * ((k + 1 : Nat) : Int)) := kd_u hu_143 hg93.1 (WC_dx hg93.2.1 (by omega)) (PV_dx hg93.2.2.1) hg93.2.2.2.1 hg93.2.2.2.2.1 (kd_l3 hg93 (by omega)) hg93.2.2.2.2.2.2
            have ex143 : g143.1 0 = g93.1 0 := hu_143.1
            have el143 : g143.1 0 0 = g93.1 0 0 := by rw [ex143]
            rw [← el143] at hl
            refine lv_pop hx hb dL_law_146 rfl ?_
            refine lv_iinc (v := iI ((k + 1 : Nat) : Int)) (lv' := [(2, .int (iI ((k + 1 : Nat) : Int))), (3, .int (iI 1)), (0, .ref bb), (1, .ref (g143.1 0 0))]) hx hb dL_law_147 hl (k := 1) rfl ((iI_add _ _).trans (by congr 1)) (by decide) rfl (fun ls hl => ?_)
            refine lv_goto (tgt := 54) hx hb dL_law_150 (by decide) ?_
            exact ih _ (by omega) (k + 1) g143 H locs ls rfl (by omega) hg143 hw (lv_sub hl [0, 2, 3] rfl)
          · refine q_iconst hx hb dL_law_138 ?_
            refine lv_goto (tgt := 143) hx hb dL_law_139 (by decide) ?_
            refine q_callK (As := [.int (iI 1)]) (rest := []) (zl_ok z bb L xs) hx hb hml hown hts hK (qH_z (k_setDuplex hg93 1 (by decide)) zl_w) yi_X6_setDuplex rfl ml_L_103 (by rw [hR]; exact ⟨Nat.le_of_ble_eq_true rfl, Nat.le_of_ble_eq_true rfl⟩) hw hA hB rfl rfl hl.1 (lv_room (Nat.le_of_ble_eq_true rfl)) dL_law_143 (by rw [hR]; exact ⟨by show _ ≤ (600086 : Nat); omega, by show _ ≤ (7301442 : Nat); omega⟩) (fun v_143 H locs hu_143 hw => ?_)
            refine q_top (gC g93 11 5) rfl ?_
            obtain ⟨g143, rfl⟩ : ∃ q, q = v_143 := ⟨_, rfl⟩
            have hw : qw D (AL s) s.heap (wW g143 cI cB cZ cS) H locs := hw
            have hg143 : gd g143 (3 * ((k + 1 : Nat) : Int)) := kd_u hu_143 hg93.1 (WC_dx hg93.2.1 (by omega)) (PV_dx hg93.2.2.1) hg93.2.2.2.1 hg93.2.2.2.2.1 (kd_l3 hg93 (by omega)) hg93.2.2.2.2.2.2
            have ex143 : g143.1 0 = g93.1 0 := hu_143.1
            have el143 : g143.1 0 0 = g93.1 0 0 := by rw [ex143]
            rw [← el143] at hl
            refine lv_pop hx hb dL_law_146 rfl ?_
            refine lv_iinc (v := iI ((k + 1 : Nat) : Int)) (lv' := [(2, .int (iI ((k + 1 : Nat) : Int))), (3, .int (iI 1)), (0, .ref bb), (1, .ref (g143.1 0 0))]) hx hb dL_law_147 hl (k := 1) rfl ((iI_add _ _).trans (by congr 1)) (by decide) rfl (fun ls hl => ?_)
            refine lv_goto (tgt := 54) hx hb dL_law_150 (by decide) ?_
            exact ih _ (by omega) (k + 1) g143 H locs ls rfl (by omega) hg143 hw (lv_sub hl [0, 2, 3] rfl)
      refine lv_aload_n hx hb dL_law_60 rfl (lv_at hl 2 rfl) ?_
      refine q_iconst hx hb dL_law_61 ?_
      refine q_callK (As := [.int (iI 3)]) (rest := []) (zl_ok z bb L xs) hx hb hml hown hts hK (qH_z (k_size hg 3 (by decide)) zl_w) yi_X6_size rfl ml_L_66 (by rw [hR]; exact ⟨Nat.le_of_ble_eq_true rfl, Nat.le_of_ble_eq_true rfl⟩) hw hA hB rfl rfl hl.1 (lv_room (Nat.le_of_ble_eq_true rfl)) dL_law_62 (by rw [hR]; exact ⟨by show _ ≤ (600086 : Nat); omega, by show _ ≤ (7301442 : Nat); omega⟩) (fun _ H locs hu_62 hw => ?_)
      refine q_top (gC g 11 2) rfl ?_
      refine q_if_ne (tgt := 85) hx hb dL_law_65 (by decide) (by omega) (fun c_65 => ?_) (fun c_65 => ?_)
      · exact j85 g H locs ls (kd_m hg (by omega)) hw hl
      · refine lv_aload_n hx hb dL_law_68 rfl (lv_at hl 2 rfl) ?_
        refine q_iconst hx hb dL_law_69 ?_
        refine q_callK (As := [.int (iI 1)]) (rest := []) (zl_ok z bb L xs) hx hb hml hown hts hK (qH_z (k_size hg 1 (by decide)) zl_w) yi_X6_size rfl ml_L_66 (by rw [hR]; exact ⟨Nat.le_of_ble_eq_true rfl, Nat.le_of_ble_eq_true rfl⟩) hw hA hB rfl rfl hl.1 (lv_room (Nat.le_of_ble_eq_true rfl)) dL_law_70 (by rw [hR]; exact ⟨by show _ ≤ (600086 : Nat); omega, by show _ ≤ (7301442 : Nat); omega⟩) (fun _ H locs hu_70 hw => ?_)
        refine q_top (gT g 8 0 - gC g 11 0) rfl ?_
        refine q_if_le (tgt := 85) hx hb dL_law_73 (by decide) (by omega) (fun c_73 => ?_) (fun c_73 => ?_)
        · exact j85 g H locs ls (kd_m hg (by omega)) hw hl
        · refine lv_aload_n hx hb dL_law_76 rfl (lv_at hl 2 rfl) ?_
          refine q_callSK (As := [.ref (g.1 0 0)]) (rest := []) (zl_ok z bb L xs) hx hb hml hown hts hK (c_L_isTold hg (by omega) (by omega) (by omega)) yt_L_isTold ml_L_92 (by rw [hR]; exact ⟨Nat.le_of_ble_eq_true rfl, Nat.le_of_ble_eq_true rfl⟩) hw hA hB rfl rfl hl.1 (lv_room (Nat.le_of_ble_eq_true rfl)) dL_law_77 (by rw [hR]; exact ⟨by show _ ≤ (600086 : Nat); omega, by show _ ≤ (7301442 : Nat); omega⟩) (fun v_77 H locs hu_77 hw => ?_)
          obtain ⟨g77, rfl⟩ : ∃ q, q = v_77 := ⟨_, rfl⟩
          have hw : qw D (AL s) s.heap (wW g77 cI cB cZ cS) H locs := hw
          have hg77 := hu_77.1
          have el77 : g77.1 0 0 = g.1 0 0 := by rw [hu_77.2.1]
          rw [← el77] at hl
          refine q_if_ne (tgt := 85) hx hb dL_law_80 (by decide) (by omega) (fun c_80 => ?_) (fun c_80 => absurd c_80 (by omega))
          exact j85 g77 H locs ls hg77 hw hl
set_option maxHeartbeats 4000000 in
set_option maxRecDepth 100000 in
theorem law_all (hx : p.tables.exec = Jvm.exec) (hb : c.code = code) (hml : c.maxLocals = 4) (hown : s.vm.findClass RL = some m.cls) (hts : ∀ w ∈ gW, w.before args s = true) (hK : va_K D vwCl (tyG cI cB cZ cS cJ) s) (hR : R = room_1) (hB : ZL z bb L xs (AL s) s s.heap) (hst : l.stackTraces = false) (hL : L ≤ 260) (hl : lv_has ls 4 [(0, .ref bb)]) (kend : ∀ (ws1 : va_W) (H1 : Heap) (locs1 : List Loc) (ls1 : Array Slot) (c1 s1 : Nat), c1 ≤ room_1.cells → s1 ≤ room_1.slots → qw D (AL s) s.heap ws1 H1 locs1 → W p l e R s m args below meth c H1 locs1 c1 s1 Q (F0 m 157 ls1 [.int (iI 1)])) : W p l e R s m args below meth c s.heap [] 0 0 Q (F0 m 0 ls []) := by
  have hA : ∀ q : Nat, s.heap.size ≤ q → (AL s) q := fun q h => h
  have hw : qw D (AL s) s.heap [] s.heap [] := ⟨fun k q h => by simp at h, ⟨fun i j p q h => by simp at h, fun k q h => by simp at h⟩, va_S.rf⟩
  refine q_newO (fs := [.null, .null, .null, .null, .int (iI 0), .int (iI 0), .null, .null, .null, .null]) hx hb hts hown hK hw hA ci_X6 cl_L_58 ins_X6 ini_X6 (fun j hj => by rcases (show j = 0 ∨ j = 1 ∨ j = 2 ∨ j = 3 ∨ j = 4 ∨ j = 5 ∨ j = 6 ∨ j = 7 ∨ j = 8 ∨ j = 9 by omega) with rfl | rfl | rfl | rfl | rfl | rfl | rfl | rfl | rfl | rfl <;> rfl) (by rw [hR]; exact ⟨Nat.le_of_ble_eq_true rfl, Nat.le_of_ble_eq_true rfl⟩) dL_law_0 (fun q6 H hw => ?_)
  replace hw : qw D (AL s) s.heap ([(q6, .inr (6, [.null, .null, .null, .null, .int (iI 0), .int (iI 0), .null, .null, .null, .null]))] ++ []) H [] := hw
  refine lv_dup hx hb dL_law_3 rfl ?_
  refine q_callI (rest := [.ref q6]) (zw_ok z) hx hb hml hown hts hK (c_X6_init (q0 := q6)) yn_X6_init ml_L_81 (by rw [hR]; exact ⟨Nat.le_of_ble_eq_true rfl, Nat.le_of_ble_eq_true rfl⟩) hw hA (zl_w _ _ _ hB) rfl hl.1 (lv_room (Nat.le_of_ble_eq_true rfl)) dL_law_4 (by rw [hR]; exact ⟨Nat.le_of_ble_eq_true rfl, Nat.le_of_ble_eq_true rfl⟩) (fun u H locs hu hw1 => ?_)
  clear hw
  obtain ⟨x, a, b, ap, b2, aH, aV, C2⟩ := u
  obtain ⟨e6, hC⟩ := hu
  have e6 : x 0 = q6 := e6
  have hC : frC tI C2 := hC
  subst e6
  have hw : qw D (AL s) s.heap ((fl (BS x a b ap b2 aH aV cI cB cZ cS tI C2 0 0 0 0 0 0 0 0 0 0 0 0 0 0 0 0 0 0 0 0 0 0 0 0 0 0 (uI (uI (fun _ => 0) 0 0) 1 0) (fun _ => 0) (fun _ => 0) (fun _ => 0) (fun _ => 0) (fun _ => 0) (fun _ => 0) (fun _ => 0) (fun _ => 0) (fun _ => 0) (fun _ => 0) zH zH)) ++ []) H locs := hw1
  clear hw1
  rw [List.append_nil] at hw
  obtain ⟨g, eg⟩ : ∃ g : Wd, g = mkW x a b ap b2 aH aV tI C2 0 0 0 0 0 0 0 0 0 0 0 0 0 0 0 0 0 0 0 0 0 0 0 0 0 0 (uI (uI (fun _ => 0) 0 0) 1 0) (fun _ => 0) (fun _ => 0) (fun _ => 0) (fun _ => 0) (fun _ => 0) (fun _ => 0) (fun _ => 0) (fun _ => 0) (fun _ => 0) (fun _ => 0) zH zH := ⟨_, rfl⟩
  have hw : qw D (AL s) s.heap (wW g cI cB cZ cS) H locs := by rw [eg]; exact hw
  have hx0 : x 0 = g.1 0 0 := by rw [eg]; rfl
  rw [hx0]
  have hg : gd g 0 := by
    rw [eg]
    refine ⟨WT_I, WC_fr WT_I hC, PV_fr WT_I hC, fun i => ⟨(by decide : (-128 : Int) ≤ 0), (by decide : (0 : Int) < 128)⟩, ⟨(by decide : (0 : Int) ≤ 0), (by decide : (0 : Int) ≤ 700)⟩, ⟨(by decide : (0 : Int) ≤ 0), (by decide : (0 : Int) ≤ 0), by decide, (by decide : (0 : Int) ≤ 0), (by decide : (0 : Int) ≤ 10)⟩, fun i => Or.inl ?_⟩
    show uI (uI (fun _ => 0) 0 0) 1 0 i = 0
    unfold uI
    split
    · rfl
    · split <;> rfl
  have z1 : gT g 8 0 = 0 := by rw [eg]; rfl
  have z2 : gC g 11 4 = 1 := by rw [eg]; exact hC.1.2.2.2.2.1
  have z3 : gC g 11 0 = 0 := by rw [eg]; exact hC.1.1
  have z4 : g.2.2.2.1 1 = 0 := by rw [eg]; rfl
  have z5 : g.2.2.2.1 2 = 0 := by rw [eg]; rfl
  refine lv_astore_n (lv' := [(1, .ref (g.1 0 0)), (0, .ref bb)]) hx hb dL_law_7 rfl hl (by decide) rfl (fun ls hl => ?_)
  refine lv_aload_n hx hb dL_law_8 rfl (lv_at hl 0 rfl) ?_
  refine q_iconst hx hb dL_law_9 ?_
  refine q_callK (As := [.int (iI 0)]) (rest := []) (zl_ok z bb L xs) hx hb hml hown hts hK (qH_z (k_size hg 0 (by decide)) zl_w) yi_X6_size rfl ml_L_66 (by rw [hR]; exact ⟨Nat.le_of_ble_eq_true rfl, Nat.le_of_ble_eq_true rfl⟩) hw hA hB rfl rfl hl.1 (lv_room (Nat.le_of_ble_eq_true rfl)) dL_law_10 (by rw [hR]; exact ⟨by show _ ≤ (600086 : Nat); omega, by show _ ≤ (7301442 : Nat); omega⟩) (fun _ H locs hu_10 hw => ?_)
  refine q_top (gT g 8 0) rfl ?_
  refine q_top (0) (by exact z1) ?_
  refine q_if_ne (tgt := 50) hx hb dL_law_13 (by decide) (by omega) (fun c_13 => absurd c_13 (by omega)) (fun c_13 => ?_)
  refine lv_aload_n hx hb dL_law_16 rfl (lv_at hl 0 rfl) ?_
  refine q_iconst hx hb dL_law_17 ?_
  refine q_callK (As := [.int (iI 5)]) (rest := []) (zl_ok z bb L xs) hx hb hml hown hts hK (qH_z (k_size hg 5 (by decide)) zl_w) yi_X6_size rfl ml_L_66 (by rw [hR]; exact ⟨Nat.le_of_ble_eq_true rfl, Nat.le_of_ble_eq_true rfl⟩) hw hA hB rfl rfl hl.1 (lv_room (Nat.le_of_ble_eq_true rfl)) dL_law_18 (by rw [hR]; exact ⟨by show _ ≤ (600086 : Nat); omega, by show _ ≤ (7301442 : Nat); omega⟩) (fun _ H locs hu_18 hw => ?_)
  refine q_top (gC g 11 4) rfl ?_
  refine q_top (1) (by exact z2) ?_
  refine q_iconst hx hb dL_law_21 ?_
  refine q_icmp_ne (tgt := 50) hx hb dL_law_22 (by decide) (by omega) (fun c_22 => absurd c_22 (by omega)) (fun c_22 => ?_)
  refine lv_aload_n hx hb dL_law_25 rfl (lv_at hl 0 rfl) ?_
  refine q_iconst hx hb dL_law_26 ?_
  refine q_callK (As := [.int (iI 0)]) (rest := []) (zl_ok z bb L xs) hx hb hml hown hts hK (qH_z (k_next hg 0 (by decide)) zl_w) yi_X6_next rfl ml_L_82 (by rw [hR]; exact ⟨Nat.le_of_ble_eq_true rfl, Nat.le_of_ble_eq_true rfl⟩) hw hA hB rfl rfl hl.1 (lv_room (Nat.le_of_ble_eq_true rfl)) dL_law_27 (by rw [hR]; exact ⟨by show _ ≤ (600086 : Nat); omega, by show _ ≤ (7301442 : Nat); omega⟩) (fun v_27 H locs hu_27 hw => ?_)
  refine q_top (nxtV (gT g) (gC g) 0) rfl ?_
  obtain ⟨g27, rfl⟩ : ∃ q, q = v_27 := ⟨_, rfl⟩
  have hw : qw D (AL s) s.heap (wW g27 cI cB cZ cS) H locs := hw
  have hg27 : gd g27 0 := kd_u hu_27 hg.1 hg.2.1 hg.2.2.1 hg.2.2.2.1 hg.2.2.2.2.1 hg.2.2.2.2.2.1 hg.2.2.2.2.2.2
  have hpf0 : g27.2.2.2.1 2 = 0 := hu_27.2.2.2.2.2.1.trans z5
  have z6 : g27.2.2.2.1 1 = 0 := hu_27.2.2.2.2.1.trans z4
  have ex27 : g27.1 0 = g.1 0 := hu_27.1
  have el27 : g27.1 0 0 = g.1 0 0 := by rw [ex27]
  rw [← el27] at hl
  refine q_top (-1) (by unfold nxtV; rw [if_pos (by omega)]) ?_
  refine q_iconst hx hb dL_law_30 ?_
  refine q_icmp_ne (tgt := 50) hx hb dL_law_31 (by decide) (by omega) (fun c_31 => absurd c_31 (by omega)) (fun c_31 => ?_)
  refine lv_aload_n hx hb dL_law_34 rfl (lv_at hl 0 rfl) ?_
  refine q_callK (As := []) (rest := []) (zl_ok z bb L xs) hx hb hml hown hts hK (qH_z (k_undo hg27 z6) zl_w) yi_X6_undo rfl ml_L_85 (by rw [hR]; exact ⟨Nat.le_of_ble_eq_true rfl, Nat.le_of_ble_eq_true rfl⟩) hw hA hB rfl rfl hl.1 (lv_room (Nat.le_of_ble_eq_true rfl)) dL_law_35 (by rw [hR]; exact ⟨by show _ ≤ (600086 : Nat); omega, by show _ ≤ (7301442 : Nat); omega⟩) (fun _ H locs _ hw => ?_)
  refine q_iconst hx hb dL_law_38 ?_
  refine q_icmp_ne (tgt := 50) hx hb dL_law_39 (by decide) (by omega) (fun c_39 => absurd c_39 (by omega)) (fun c_39 => ?_)
  refine lv_aload_n hx hb dL_law_42 rfl (lv_at hl 0 rfl) ?_
  refine lv_aload_n hx hb dL_law_43 rfl (lv_at hl 1 rfl) ?_
  refine q_callSK (As := [.ref (g27.1 0 0), .ref bb]) (rest := []) (zl_ok z bb L xs) hx hb hml hown hts hK (c_L_begins hg27 hpf0 (by omega)) yt_L_begins ml_L_88 (by rw [hR]; exact ⟨Nat.le_of_ble_eq_true rfl, Nat.le_of_ble_eq_true rfl⟩) hw hA hB rfl rfl hl.1 (lv_room (Nat.le_of_ble_eq_true rfl)) dL_law_44 (by rw [hR]; exact ⟨by show _ ≤ (600086 : Nat); omega, by show _ ≤ (7301442 : Nat); omega⟩) (fun v_44 H locs hu_44 hw => ?_)
  obtain ⟨g44, rfl⟩ : ∃ q, q = v_44 := ⟨_, rfl⟩
  have hw : qw D (AL s) s.heap (wW g44 cI cB cZ cS) H locs := hw
  have hg44 := hu_44.1
  have el44 : g44.1 0 0 = g27.1 0 0 := by rw [hu_44.2]
  rw [← el44] at hl
  refine q_if_ne (tgt := 52) hx hb dL_law_47 (by decide) (by omega) (fun c_47 => ?_) (fun c_47 => absurd c_47 (by omega))
  refine q_iconst hx hb dL_law_52 ?_
  refine lv_istore_n (lv' := [(2, .int (iI 0)), (1, .ref (g44.1 0 0)), (0, .ref bb)]) hx hb dL_law_53 rfl hl (by decide) rfl (fun ls hl => ?_)
  exact law_loop hx hb hml hown hts hK hR hB hst hL kend _ 0 g44 H locs ls rfl (by decide) hg44 hw (lv_sub hl [0, 2, 1] rfl)
end LWK
