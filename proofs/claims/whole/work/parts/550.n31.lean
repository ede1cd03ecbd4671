variable {p : Program} {l : Launch} {e : Env} {R : Room} {s : State} {m : MethodId} {args : Array Value} {below : List Frame} {meth : Method} {c : Code} {H : Heap} {locs : List Loc} {cells slots : Nat} {Q : State → Prop} {D : va_G} {cI cB cZ cS cJ : ClassId} {z x a ap g : Nat → Nat} {aH aV : Nat → Nat → Nat} {ao bb L : Nat} {xs : Nat → Int32} {i : Int} {ls : Array Slot} {ws : va_W} {b b2 : Nat → Nat} {T C : Nat → Int → Int} {cH cV : Nat → Nat → Int → Int} {lat und pfl pln pkd pst pen per pls pss us f1 f2 f3 pf pm pt pl pw w1 w2 w3 w4 w5 w6 hn th tl ts te tk nu er eo hL hS : Int} {svd bf y0 y1 y2 y3 y4 y5 y6 y7 ht dr td sa ad hi sl tr : Int → Int} {f : Nat → Int64}

theorem LI_up (h : LI x a ap aH aV g ao cI cB cZ cS cJ i ws) : LI x a ap aH aV g ao cI cB cZ cS cJ (i + 6) ws := by
  obtain ⟨b, b2, T, C, cH, cV, lat, und, pfl, pln, pkd, pst, pen, per, pls, pss, us, f1, f2, f3, pf, pm, pt, pl, pw, w1, w2, w3, w4, w5, w6, hn, th, tl, ts, te, tk, nu, er, eo, hL, hS, svd, bf, y0, y1, y2, y3, y4, y5, y6, y7, ht, dr, td, sa, ad, hi, sl, tr, f, hF, rfl⟩ := h
  obtain ⟨hM, hFR, hby, hpf, hnu, hla, hHW, hsv, hSW⟩ := hF
  exact ⟨b, b2, T, C, cH, cV, lat, und, pfl, pln, pkd, pst, pen, per, pls, pss, us, f1, f2, f3, pf, pm, pt, pl, pw, w1, w2, w3, w4, w5, w6, hn, th, tl, ts, te, tk, nu, er, eo, hL, hS, svd, bf, y0, y1, y2, y3, y4, y5, y6, y7, ht, dr, td, sa, ad, hi, sl, tr, f, ⟨hM, hFR, hby, hpf, hnu, ⟨by omega, by omega, by omega, by omega⟩, hHW, hsv, hSW⟩, rfl⟩

theorem q_and {pc : Nat} {rest : List Value} {a b : Int} (hx : p.tables.exec = Jvm.exec) (hb : c.code = code) (hdg : decode code pc = .ok (.iand, 1)) (k : W p l e R s m args below meth c H locs cells slots Q (F0 m (pc + 1) ls (.int (iI (iI a &&& iI b).toInt) :: rest))) : W p l e R s m args below meth c H locs cells slots Q (F0 m pc ls (.int (iI b) :: .int (iI a) :: rest)) := by
  rw [iI_of] at k
  exact lv_iand hx hb hdg k

set_option maxHeartbeats 4000000 in
theorem law_sw (hB : LB p l s m args c R z D cI cB cZ cS cJ bb L xs) (hI : LI x a ap aH aV g ao cI cB cZ cS cJ i ws) (hw : qw D (AL s) s.heap ws H locs) (hl : lv_has ls 9 (lv5 x g ao bb i)) (hrn : 0 ≤ i ∧ i + 6 ≤ (L : Int)) (hcs : cells + 1 ≤ room_1.cells ∧ slots + 6 ≤ room_1.slots) (kk : ∀ (ws1 : va_W) (H1 : Heap) (locs1 : List Loc) (ls1 : Array Slot), LI x a ap aH aV g ao cI cB cZ cS cJ (i + 6) ws1 → qw D (AL s) s.heap ws1 H1 locs1 → lv_has ls1 9 (lv5 x g ao bb i) → W p l e R s m args below meth c H1 locs1 (cells + 1) (slots + 6) Q (F0 m 1484 ls1 [])) : W p l e R s m args below meth c H locs cells slots Q (F0 m 33 ls []) := by
  have hB0 := hB
  obtain ⟨⟨hx, hb, hml, hown, hts, hK⟩, hR, hZ, hst, hX, hbl, hL9⟩ := hB0
  have hl : lv_has ls 9 [(0, .ref bb), (1, .ref (x 0)), (2, .ref (g 0)), (3, .ref ao), (4, .int (iI i))] := hl
  refine lv_aload_n hx hb dL_law_33 rfl (lv_at hl 0 rfl) ?_
  refine lv_iload hx hb dL_law_34 (lv_at hl 4 rfl) ?_
  refine q_scr hB hw ⟨by omega, by omega⟩ dL_law_36 ?_
  refine q_bipush hx hb dL_law_37 rfl ?_
  refine q_and hx hb dL_law_39 ?_
  obtain ⟨v, e_v⟩ : ∃ v, v = (iI (xs i.toNat).toInt &&& iI 31).toInt := ⟨_, rfl⟩
  have hrv : rg v := by rw [e_v]; exact rg_of _
  rw [← e_v]
  clear e_v
  by_cases k_0 : v = 0
  · refine q_tabIn (tgt := 164) hx hb dL_law_40 hrv (by omega) (by omega) (by rw [k_0] <;> rfl) (by decide) ?_
    exact law_append hB hI hw hl hrn hcs kk
  by_cases k_1 : v = 1
  · refine q_tabIn (tgt := 237) hx hb dL_law_40 hrv (by omega) (by omega) (by rw [k_1] <;> rfl) (by decide) ?_
    exact law_parse hB hI hw hl hrn hcs kk
  by_cases k_2 : v = 2
  · refine q_tabIn (tgt := 293) hx hb dL_law_40 hrv (by omega) (by omega) (by rw [k_2] <;> rfl) (by decide) ?_
    exact law_size hB hI hw hl hrn hcs kk
  by_cases k_3 : v = 3
  · refine q_tabIn (tgt := 349) hx hb dL_law_40 hrv (by omega) (by omega) (by rw [k_3] <;> rfl) (by decide) ?_
    exact law_limit hB hI hw hl hrn hcs kk
  by_cases k_4 : v = 4
  · refine q_tabIn (tgt := 405) hx hb dL_law_40 hrv (by omega) (by omega) (by rw [k_4] <;> rfl) (by decide) ?_
    exact law_sheet hB hI hw hl hrn hcs kk
  by_cases k_5 : v = 5
  · refine q_tabIn (tgt := 473) hx hb dL_law_40 hrv (by omega) (by omega) (by rw [k_5] <;> rfl) (by decide) ?_
    exact law_stack hB hI hw hl hrn hcs kk
  by_cases k_6 : v = 6
  · refine q_tabIn (tgt := 498) hx hb dL_law_40 hrv (by omega) (by omega) (by rw [k_6] <;> rfl) (by decide) ?_
    exact law_path hB hI hw hl hrn hcs kk
  by_cases k_7 : v = 7
  · refine q_tabIn (tgt := 523) hx hb dL_law_40 hrv (by omega) (by omega) (by rw [k_7] <;> rfl) (by decide) ?_
    exact law_page hB hI hw hl hrn hcs kk
  by_cases k_8 : v = 8
  · refine q_tabIn (tgt := 591) hx hb dL_law_40 hrv (by omega) (by omega) (by rw [k_8] <;> rfl) (by decide) ?_
    exact law_job hB hI hw hl hrn hcs kk
  by_cases k_9 : v = 9
  · refine q_tabIn (tgt := 659) hx hb dL_law_40 hrv (by omega) (by omega) (by rw [k_9] <;> rfl) (by decide) ?_
    exact law_isHalf hB hI hw hl hrn hcs kk
  by_cases k_10 : v = 10
  · refine q_tabIn (tgt := 722) hx hb dL_law_40 hrv (by omega) (by omega) (by rw [k_10] <;> rfl) (by decide) ?_
    exact law_next hB hI hw hl hrn hcs kk
  by_cases k_11 : v = 11
  · refine q_tabIn (tgt := 778) hx hb dL_law_40 hrv (by omega) (by omega) (by rw [k_11] <;> rfl) (by decide) ?_
    exact law_ahead hB hI hw hl hrn hcs kk
  by_cases k_12 : v = 12
  · refine q_tabIn (tgt := 846) hx hb dL_law_40 hrv (by omega) (by omega) (by rw [k_12] <;> rfl) (by decide) ?_
    exact law_bestPercent hB hI hw hl hrn hcs kk
  by_cases k_13 : v = 13
  · refine q_tabIn (tgt := 859) hx hb dL_law_40 hrv (by omega) (by omega) (by rw [k_13] <;> rfl) (by decide) ?_
    exact law_blankFor hB hI hw hl hrn hcs kk
  by_cases k_14 : v = 14
  · refine q_tabIn (tgt := 915) hx hb dL_law_40 hrv (by omega) (by omega) (by rw [k_14] <;> rfl) (by decide) ?_
    exact law_account hB hI hw hl hrn hcs kk
  by_cases k_15 : v = 15
  · refine q_tabIn (tgt := 971) hx hb dL_law_40 hrv (by omega) (by omega) (by rw [k_15] <;> rfl) (by decide) ?_
    exact law_sheetsAt hB hI hw hl hrn hcs kk
  by_cases k_16 : v = 16
  · refine q_tabIn (tgt := 1027) hx hb dL_law_40 hrv (by omega) (by omega) (by rw [k_16] <;> rfl) (by decide) ?_
    exact law_meanInk hB hI hw hl hrn hcs kk
  by_cases k_17 : v = 17
  · refine q_tabIn (tgt := 1068) hx hb dL_law_40 hrv (by omega) (by omega) (by rw [k_17] <;> rfl) (by decide) ?_
    exact law_feed hB hI hw hl hrn hcs kk
  by_cases k_18 : v = 18
  · refine q_tabIn (tgt := 1124) hx hb dL_law_40 hrv (by omega) (by omega) (by rw [k_18] <;> rfl) (by decide) ?_
    exact law_putBack hB hI hw hl hrn hcs kk
  by_cases k_19 : v = 19
  · refine q_tabIn (tgt := 1168) hx hb dL_law_40 hrv (by omega) (by omega) (by rw [k_19] <;> rfl) (by decide) ?_
    exact law_remove hB hI hw hl hrn hcs kk
  by_cases k_20 : v = 20
  · refine q_tabIn (tgt := 1212) hx hb dL_law_40 hrv (by omega) (by omega) (by rw [k_20] <;> rfl) (by decide) ?_
    exact law_accept hB hI hw hl hrn hcs kk
  by_cases k_21 : v = 21
  · refine q_tabIn (tgt := 1256) hx hb dL_law_40 hrv (by omega) (by omega) (by rw [k_21] <;> rfl) (by decide) ?_
    exact law_endJob hB hI hw hl hrn hcs kk
  by_cases k_22 : v = 22
  · refine q_tabIn (tgt := 1312) hx hb dL_law_40 hrv (by omega) (by omega) (by rw [k_22] <;> rfl) (by decide) ?_
    exact law_setLimit hB hI hw hl hrn hcs kk
  by_cases k_23 : v = 23
  · refine q_tabIn (tgt := 1380) hx hb dL_law_40 hrv (by omega) (by omega) (by rw [k_23] <;> rfl) (by decide) ?_
    exact law_setDuplex hB hI hw hl hrn hcs kk
  by_cases k_24 : v = 24
  · refine q_tabIn (tgt := 1421) hx hb dL_law_40 hrv (by omega) (by omega) (by rw [k_24] <;> rfl) (by decide) ?_
    exact law_undo hB hI hw hl hrn hcs kk
  by_cases k_25 : v = 25
  · refine q_tabIn (tgt := 1434) hx hb dL_law_40 hrv (by omega) (by omega) (by rw [k_25] <;> rfl) (by decide) ?_
    exact law_saveSnapshot hB hI hw hl hrn hcs kk
  by_cases k_26 : v = 26
  · refine q_tabIn (tgt := 1459) hx hb dL_law_40 hrv (by omega) (by omega) (by rw [k_26] <;> rfl) (by decide) ?_
    exact law_restoreSnapshot hB hI hw hl hrn hcs kk
  refine q_tabOut (tgt := 1484) hx hb dL_law_40 hrv (by omega) (by decide) ?_
  exact W_wide (Nat.le_succ _) (Nat.le_add_right _ _) (kk _ _ _ _ (LI_up hI) hw hl)
set_option maxHeartbeats 4000000 in
theorem law_loop (hB : LB p l s m args c R z D cI cB cZ cS cJ bb L xs) (kend : ∀ (ws1 : va_W) (H1 : Heap) (locs1 : List Loc) (ls1 : Array Slot) (c1 s1 : Nat), c1 ≤ room_1.cells → s1 ≤ room_1.slots → qw D (AL s) s.heap ws1 H1 locs1 → W p l e R s m args below meth c H1 locs1 c1 s1 Q (F0 m 1491 ls1 [.int 1])) : ∀ (fu : Nat) (i : Int) (ws : va_W) (H : Heap) (locs : List Loc) (ls : Array Slot) (cells slots : Nat), (L - i).toNat = fu → 0 ≤ i ∧ i ≤ L + 6 → cells + fu + 1 ≤ room_1.cells ∧ slots + 6 * fu + 6 ≤ room_1.slots → LI x a ap aH aV g ao cI cB cZ cS cJ i ws → qw D (AL s) s.heap ws H locs → lv_has ls 9 (lv5 x g ao bb i) → W p l e R s m args below meth c H locs cells slots Q (F0 m 23 ls []) := by
  intro fu
  induction fu using Nat.strongRecOn with
  | ind fu ih =>
  intro i ws H locs ls cells slots hn h_i hcs hI hw hl
  have hB0 := hB
  obtain ⟨⟨hx, hb, hml, hown, hts, hK⟩, hR, hZ, hst, hX, hbl, hL9⟩ := hB0
  have hl : lv_has ls 9 [(0, .ref bb), (1, .ref (x 0)), (2, .ref (g 0)), (3, .ref ao), (4, .int (iI i))] := hl
  refine lv_iload hx hb dL_law_23 (lv_at hl 4 rfl) ?_
  refine lv_aload_n hx hb dL_law_25 rfl (lv_at hl 0 rfl) ?_
  refine va_slen hx hb hX hbl (fun h => absurd hbl (Nat.not_lt.mpr h)) hw.2.2 dL_law_26 ?_
  rw [show Int32.ofNat L = iI (L : Int) from Int32.ofInt_eq_ofNat.symm]
  refine q_bipush hx hb dL_law_27 rfl ?_
  refine q_isub hx hb dL_law_29 ?_
  refine q_icmp_gt (tgt := 1490) hx hb dL_law_30 (by decide) (by omega) (fun c_30 => ?_) (fun c_30 => ?_)
  · refine q_iconst hx hb dL_law_1490 ?_
    exact kend ws H locs ls cells slots (by omega) (by omega) hw
  · refine law_sw (i := i) hB hI hw hl ⟨h_i.1, by omega⟩ ⟨by omega, by omega⟩ (fun ws1 H1 locs1 ls1 hI1 hw1 hl1 => ?_)
    have hl1 : lv_has ls1 9 [(0, .ref bb), (1, .ref (x 0)), (2, .ref (g 0)), (3, .ref ao), (4, .int (iI i))] := hl1
    refine lv_iinc (v := iI (i + 6)) (lv' := [(4, .int (iI (i + 6))), (0, .ref bb), (1, .ref (x 0)), (2, .ref (g 0)), (3, .ref ao)]) hx hb dL_law_1484 hl1 (k := 4) rfl (iI_add _ _) (by decide) rfl (fun ls hl => ?_)
    refine lv_goto (tgt := 23) hx hb dL_law_1487 (by decide) ?_
    exact ih (L - (i + 6)).toNat (by omega) (i + 6) ws1 H1 locs1 ls (cells + 1) (slots + 6) rfl (by omega) ⟨by omega, by omega⟩ hI1 hw1 (lv_sub hl [1, 2, 3, 4, 0] rfl)
