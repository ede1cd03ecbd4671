variable {p : Program} {l : Launch} {e : Env} {R : Room} {s : State} {m : MethodId} {args : Array Value} {below : List Frame} {meth : Method} {c : Code} {H : Heap} {locs : List Loc} {cells slots : Nat} {Q : State → Prop} {D : va_G} {cI cB cZ cS cJ : ClassId} {z x a ap g : Nat → Nat} {aH aV : Nat → Nat → Nat} {ao bb L : Nat} {xs : Nat → Int32} {i : Int} {ls : Array Slot} {ws : va_W} {b b2 : Nat → Nat} {T C : Nat → Int → Int} {cH cV : Nat → Nat → Int → Int} {lat und pfl pln pkd pst pen per pls pss us f1 f2 f3 pf pm pt pl pw w1 w2 w3 w4 w5 w6 hn th tl ts te tk nu er eo hL hS : Int} {svd bf y0 y1 y2 y3 y4 y5 y6 y7 ht dr td sa ad hi sl tr : Int → Int} {f : Nat → Int64}

set_option maxHeartbeats 4000000 in
set_option maxRecDepth 100000 in
theorem law_next_0 (h1 : 0 ≤ (sX xs i 1) ∧ (sX xs i 1) ≤ 4) (hB : LB p l s m args c R z D cI cB cZ cS cJ bb L xs) (hF : LF i T C td sa hi sl svd bf pfl nu eo lat und cH cV) (hw : qw D (AL s) s.heap ((fl (BS x a b ap b2 aH aV cI cB cZ cS T C lat und pfl pln pkd pst pen per pls pss us f1 f2 f3 pf pm pt pl pw w1 w2 w3 w4 w5 w6 hn svd bf y0 y1 y2 y3 y4 y5 y6 y7 ht cH cV) ++ [outC cJ ao f]) ++ (mW g cI cB cZ th pfl tl ts te tk nu er eo hL hS und bf dr td sa ad hi sl svd tr)) H locs) (hl : lv_has ls 9 (lv5 x g ao bb i)) (hrn : 0 ≤ i ∧ i + 6 ≤ (L : Int)) (hcs : cells + 1 ≤ room_1.cells ∧ slots + 6 ≤ room_1.slots) (kk : ∀ (ws1 : va_W) (H1 : Heap) (locs1 : List Loc) (ls1 : Array Slot), LI x a ap aH aV g ao cI cB cZ cS cJ (i + 6) ws1 → qw D (AL s) s.heap ws1 H1 locs1 → lv_has ls1 9 (lv5 x g ao bb i) → W p l e R s m args below meth c H1 locs1 (cells + 1) (slots + 6) Q (F0 m 1484 ls1 [])) : W p l e R s m args below meth c H locs cells slots Q (F0 m 722 ls []) := by
  have hB0 := hB
  obtain ⟨⟨hx, hb, hml, hown, hts, hK⟩, hR, hZ, hst, hX, hbl, hL9⟩ := hB0
  obtain ⟨hM, hFR, hby, hpf, hnu, hla, hHW, hsv, hSW⟩ := hF
  have hlc : 0 ≤ lat ∧ lat ≤ 1000000 ∧ 0 ≤ und ∧ und ≤ 10 := by omega
  have hln : und ≤ lat ∧ lat ≤ i + 6 ∧ 0 ≤ und ∧ und ≤ 10 := by omega
  have hA : ∀ q : Nat, s.heap.size ≤ q → AL s q := fun q h => h
  have hl : lv_has ls 9 [(0, .ref bb), (1, .ref (x 0)), (2, .ref (g 0)), (3, .ref ao), (4, .int (iI i))] := hl
  refine lv_aload_n hx hb dL_law_722 rfl (lv_at hl 1 rfl) ?_
  refine lv_aload_n hx hb dL_law_723 rfl (lv_at hl 0 rfl) ?_
  refine lv_iload hx hb dL_law_724 (lv_at hl 4 rfl) ?_
  refine q_iconst hx hb dL_law_726 ?_
  refine q_iadd hx hb dL_law_727 ?_
  refine q_scr hB hw ⟨by omega, by omega⟩ dL_law_728 ?_
  refine lv_aload_n hx hb dL_law_729 rfl (lv_at hl 3 rfl) ?_
  have hH := c_L_next (l := l) (D := D) (z := z) (cI := cI) (cB := cB) (cZ := cZ) (cS := cS) (cJ := cJ) (ao := ao) (W0 := (fl (BS x a b ap b2 aH aV cI cB cZ cS T C lat und pfl pln pkd pst pen per pls pss us f1 f2 f3 pf pm pt pl pw w1 w2 w3 w4 w5 w6 hn svd bf y0 y1 y2 y3 y4 y5 y6 y7 ht cH cV))) (b0 := x 0) (f := f) ((sX xs i 1)) rfl (qH_up (l := l) (D := D) (Z := ZY z) (ty := tyG cI cB cZ cS cJ) (W9 := (fl (BS x a b ap b2 aH aV cI cB cZ cS T C lat und pfl pln pkd pst pen per pls pss us f1 f2 f3 pf pm pt pl pw w1 w2 w3 w4 w5 w6 hn svd bf y0 y1 y2 y3 y4 y5 y6 y7 ht cH cV))) (zy_ok z) (qH_M (c_X6_next (sX xs i 1) hM.1 hM.2.2.1 h1)) _ (cs_N (x := x) (a := a) (ap := ap) (aH := aH) (aV := aV) (cI := cI) (cB := cB) (cZ := cZ) (cS := cS) (b := b) (b2 := b2) (T := T) (C := C) (cH := cH) (cV := cV) (lat := lat) (und := und) (pfl := pfl) (pln := pln) (pkd := pkd) (pst := pst) (pen := pen) (per := per) (pls := pls) (pss := pss) (us := us) (f1 := f1) (f2 := f2) (f3 := f3) (pf := pf) (pm := pm) (pt := pt) (pl := pl) (pw := pw) (w1 := w1) (w2 := w2) (w3 := w3) (w4 := w4) (w5 := w5) (w6 := w6) (hn := hn) (svd := svd) (bf := bf) (y0 := y0) (y1 := y1) (y2 := y2) (y3 := y3) (y4 := y4) (y5 := y5) (y6 := y6) (y7 := y7) (ht := ht)) (fun u _ => (cs_N (x := x) (a := a) (ap := ap) (aH := aH) (aV := aV) (cI := cI) (cB := cB) (cZ := cZ) (cS := cS) (b := b) (b2 := b2) (T := T) (C := C) (cH := cH) (cV := cV) (lat := lat) (und := und) (pfl := pfl) (pln := pln) (pkd := pkd) (pst := pst) (pen := pen) (per := per) (pls := pls) (pss := pss) (us := us) (f1 := f1) (f2 := f2) (f3 := f3) (pf := ((u.1))) (pm := ((u.2.1))) (pt := ((u.2.2.1))) (pl := ((u.2.2.2.1))) (pw := ((u.2.2.2.2))) (w1 := w1) (w2 := w2) (w3 := w3) (w4 := w4) (w5 := w5) (w6 := w6) (hn := hn) (svd := svd) (bf := bf) (y0 := y0) (y1 := y1) (y2 := y2) (y3 := y3) (y4 := y4) (y5 := y5) (y6 := y6) (y7 := y7) (ht := ht)).symm))
  refine q_callW (As := [.ref (x 0), .int (iI (sX xs i 1)), .ref ao]) (rest := []) (zy_ok z) hx hb hml hown hts hK hH cw_L_next ini_L st_L_next yw_L_next.1 yw_L_next.2 ml_L_118 (by rw [hR]; exact ⟨Nat.le_of_ble_eq_true rfl, Nat.le_of_ble_eq_true rfl⟩) hw hA hZ rfl rfl hl.1 (lv_room (Nat.le_of_ble_eq_true rfl)) dL_law_730 ⟨by rw [hR]; have hcs1 := hcs.1; omega, by rw [hR]; have hcs2 := hcs.2; omega⟩ (fun u H locs hu hw => ?_)
  obtain ⟨k1, k2, k3, k4, k5⟩ := u
  replace hw : qw D (AL s) s.heap ((fl (BS x a b ap b2 aH aV cI cB cZ cS T C lat und pfl pln pkd pst pen per pls pss us f1 f2 f3 k1 k2 k3 k4 k5 w1 w2 w3 w4 w5 w6 hn svd bf y0 y1 y2 y3 y4 y5 y6 y7 ht cH cV) ++ [outC cJ ao (vp_updL f 0 (iI (nxtV T C (sX xs i 1))).toInt64)]) ++ (mW g cI cB cZ th pfl tl ts te tk nu er eo hL hS und bf dr td sa ad hi sl svd tr)) H locs := hw
  refine lv_istore (lv' := [(5, .int (iI 0)), (0, .ref bb), (1, .ref (x 0)), (2, .ref (g 0)), (3, .ref ao), (4, .int (iI i))]) hx hb dL_law_733 hl (by decide) rfl (fun ls hl => ?_)
  refine lv_aload_n hx hb dL_law_735 rfl (lv_at hl 3 rfl) ?_
  refine lv_aload_n hx hb dL_law_736 rfl (lv_at hl 1 rfl) ?_
  refine lv_iload hx hb dL_law_737 (lv_at hl 5 rfl) ?_
  refine q_iconst hx hb dL_law_739 ?_
  refine q_iadd hx hb dL_law_740 ?_
  refine q_scr hB hw ⟨by omega, by omega⟩ dL_law_741 ?_
  replace hw := hw.comm
  refine q_callH (As := [.int (iI (sX xs i 1))]) (rest := []) (zy_ok z) hx hb hml hown hts hK (qH_M (c_X7_next (sX xs i 1) hM (rg_of _))) yi_X7_next ml_L_120 (by rw [hR]; exact ⟨Nat.le_of_ble_eq_true rfl, Nat.le_of_ble_eq_true rfl⟩) hw hA hZ 0 rfl rfl rfl rfl hl.1 (lv_room (Nat.le_of_ble_eq_true rfl)) dL_law_742 ⟨by rw [hR]; have hcs1 := hcs.1; omega, by rw [hR]; have hcs2 := hcs.2; omega⟩ (fun u H locs hu hw => ?_)
  obtain ⟨th2, r2⟩ := u
  obtain ⟨e1, e2⟩ := hu
  replace hw : qw D (AL s) s.heap ((fl (BS x a b ap b2 aH aV cI cB cZ cS T C lat und pfl pln pkd pst pen per pls pss us f1 f2 f3 k1 k2 k3 k4 k5 w1 w2 w3 w4 w5 w6 hn svd bf y0 y1 y2 y3 y4 y5 y6 y7 ht cH cV) ++ [outC cJ ao (vp_updL f 0 (iI (nxtV T C (sX xs i 1))).toInt64)]) ++ (mW g cI cB cZ th2 pfl tl ts te tk nu er eo hL hS und bf dr td sa ad hi sl svd tr)) H locs := hw.comm
  have e3 : th2 = 0 := e1.trans (if_pos h1)
  have e4 := e2 e3
  subst e3
  subst e4
  replace hw : qw D (AL s) s.heap ((fl (BS x a b ap b2 aH aV cI cB cZ cS T C lat und pfl pln pkd pst pen per pls pss us f1 f2 f3 k1 k2 k3 k4 k5 w1 w2 w3 w4 w5 w6 hn svd bf y0 y1 y2 y3 y4 y5 y6 y7 ht cH cV) ++ [outC cJ ao (vp_updL f 0 (iI (nxtV T C (sX xs i 1))).toInt64)]) ++ (mW g cI cB cZ 0 pfl tl ts te tk nu er eo hL hS und bf dr td sa ad hi sl svd tr)) H locs := hw
  refine lv_istore (lv' := [(6, .int (iI (nxtV T C (sX xs i 1)))), (5, .int (iI 0)), (0, .ref bb), (1, .ref (x 0)), (2, .ref (g 0)), (3, .ref ao), (4, .int (iI i))]) hx hb dL_law_745 hl (by decide) rfl (fun ls hl => ?_)
  refine lv_aload_n hx hb dL_law_747 rfl (lv_at hl 4 rfl) ?_
  replace hw := hw.comm
  refine q_callH (As := []) (rest := []) (zy_ok z) hx hb hml hown hts hK (qH_P c_X7_thrown) yi_X7_thrown ml_L_88 (by rw [hR]; exact ⟨Nat.le_of_ble_eq_true rfl, Nat.le_of_ble_eq_true rfl⟩) hw hA hZ 0 rfl rfl rfl rfl hl.1 (lv_room (Nat.le_of_ble_eq_true rfl)) dL_law_748 ⟨by rw [hR]; have hcs1 := hcs.1; omega, by rw [hR]; have hcs2 := hcs.2; omega⟩ (fun u H locs _ hw => ?_)
  replace hw : qw D (AL s) s.heap ((fl (BS x a b ap b2 aH aV cI cB cZ cS T C lat und pfl pln pkd pst pen per pls pss us f1 f2 f3 k1 k2 k3 k4 k5 w1 w2 w3 w4 w5 w6 hn svd bf y0 y1 y2 y3 y4 y5 y6 y7 ht cH cV) ++ [outC cJ ao (vp_updL f 0 (iI (nxtV T C (sX xs i 1))).toInt64)]) ++ (mW g cI cB cZ 0 pfl tl ts te tk nu er eo hL hS und bf dr td sa ad hi sl svd tr)) H locs := hw.comm
  refine lv_iload hx hb dL_law_751 (lv_at hl 1 rfl) ?_
  refine q_same (tgt := 758) hx hb dL_law_753 (by decide) ?_
  refine lv_iload hx hb dL_law_758 (lv_at hl 1 rfl) ?_
  refine q_if_ne (tgt := 775) hx hb dL_law_760 (by decide) (by decide) (fun c9 => absurd rfl c9) (fun _ => ?_)
  refine lv_aload_n hx hb dL_law_763 rfl (lv_at hl 5 rfl) ?_
  refine q_iconst hx hb dL_law_764 ?_
  refine q_lald hx hb hK hw.1 (fl (BS x a b ap b2 aH aV cI cB cZ cS T C lat und pfl pln pkd pst pen per pls pss us f1 f2 f3 k1 k2 k3 k4 k5 w1 w2 w3 w4 w5 w6 hn svd bf y0 y1 y2 y3 y4 y5 y6 y7 ht cH cV)).length 4 (get_mid _ _ _) rfl (vu_0 _ _) dL_law_765 ?_
  refine lv_iload hx hb dL_law_766 (lv_at hl 0 rfl) ?_
  refine lv_i2l hx hb dL_law_768 rfl ?_
  refine q_lsame (tgt := 775) hx hb dL_law_769 dL_law_770 (by decide) ?_
  refine lv_goto (tgt := 1484) hx hb dL_law_775 (by decide) ?_
  exact W_wide (Nat.le_succ _) (Nat.le_add_right _ _) (kk _ H locs ls ⟨b, b2, T, C, cH, cV, lat, und, pfl, pln, pkd, pst, pen, per, pls, pss, us, f1, f2, f3, k1, k2, k3, k4, k5, w1, w2, w3, w4, w5, w6, hn, 0, tl, ts, te, tk, nu, er, eo, hL, hS, svd, bf, y0, y1, y2, y3, y4, y5, y6, y7, ht, dr, td, sa, ad, hi, sl, tr, (vp_updL f 0 (iI (nxtV T C (sX xs i 1))).toInt64), ⟨hM, hFR, hby, hpf, hnu, hln, hHW, hsv, hSW⟩, rfl⟩ hw (lv_sub hl [2, 3, 4, 5, 6] rfl))

set_option maxHeartbeats 4000000 in
set_option maxRecDepth 100000 in
theorem law_next_1 (h1 : ¬ (0 ≤ (sX xs i 1) ∧ (sX xs i 1) ≤ 4)) (hB : LB p l s m args c R z D cI cB cZ cS cJ bb L xs) (hF : LF i T C td sa hi sl svd bf pfl nu eo lat und cH cV) (hw : qw D (AL s) s.heap ((fl (BS x a b ap b2 aH aV cI cB cZ cS T C lat und pfl pln pkd pst pen per pls pss us f1 f2 f3 pf pm pt pl pw w1 w2 w3 w4 w5 w6 hn svd bf y0 y1 y2 y3 y4 y5 y6 y7 ht cH cV) ++ [outC cJ ao f]) ++ (mW g cI cB cZ th pfl tl ts te tk nu er eo hL hS und bf dr td sa ad hi sl svd tr)) H locs) (hl : lv_has ls 9 (lv5 x g ao bb i)) (hrn : 0 ≤ i ∧ i + 6 ≤ (L : Int)) (hcs : cells + 1 ≤ room_1.cells ∧ slots + 6 ≤ room_1.slots) (kk : ∀ (ws1 : va_W) (H1 : Heap) (locs1 : List Loc) (ls1 : Array Slot), LI x a ap aH aV g ao cI cB cZ cS cJ (i + 6) ws1 → qw D (AL s) s.heap ws1 H1 locs1 → lv_has ls1 9 (lv5 x g ao bb i) → W p l e R s m args below meth c H1 locs1 (cells + 1) (slots + 6) Q (F0 m 1484 ls1 [])) : W p l e R s m args below meth c H locs cells slots Q (F0 m 722 ls []) := by
  have hB0 := hB
  obtain ⟨⟨hx, hb, hml, hown, hts, hK⟩, hR, hZ, hst, hX, hbl, hL9⟩ := hB0
  obtain ⟨hM, hFR, hby, hpf, hnu, hla, hHW, hsv, hSW⟩ := hF
  have hlc : 0 ≤ lat ∧ lat ≤ 1000000 ∧ 0 ≤ und ∧ und ≤ 10 := by omega
  have hln : und ≤ lat ∧ lat ≤ i + 6 ∧ 0 ≤ und ∧ und ≤ 10 := by omega
  have hA : ∀ q : Nat, s.heap.size ≤ q → AL s q := fun q h => h
  have hl : lv_has ls 9 [(0, .ref bb), (1, .ref (x 0)), (2, .ref (g 0)), (3, .ref ao), (4, .int (iI i))] := hl
  refine lv_aload_n hx hb dL_law_722 rfl (lv_at hl 1 rfl) ?_
  refine lv_aload_n hx hb dL_law_723 rfl (lv_at hl 0 rfl) ?_
  refine lv_iload hx hb dL_law_724 (lv_at hl 4 rfl) ?_
  refine q_iconst hx hb dL_law_726 ?_
  refine q_iadd hx hb dL_law_727 ?_
  refine q_scr hB hw ⟨by omega, by omega⟩ dL_law_728 ?_
  refine lv_aload_n hx hb dL_law_729 rfl (lv_at hl 3 rfl) ?_
  have hH := c_L_next_x1 (l := l) (D := D) (z := z) (cI := cI) (cB := cB) (cZ := cZ) (cS := cS) (cJ := cJ) (ao := ao) (W0 := (fl (BS x a b ap b2 aH aV cI cB cZ cS T C lat und pfl pln pkd pst pen per pls pss us f1 f2 f3 pf pm pt pl pw w1 w2 w3 w4 w5 w6 hn svd bf y0 y1 y2 y3 y4 y5 y6 y7 ht cH cV))) (b0 := x 0) (f := f) ((sX xs i 1)) rfl (qT_up (l := l) (D := D) (Z := ZY z) (ty := tyG cI cB cZ cS cJ) (W9 := (fl (BS x a b ap b2 aH aV cI cB cZ cS T C lat und pfl pln pkd pst pen per pls pss us f1 f2 f3 pf pm pt pl pw w1 w2 w3 w4 w5 w6 hn svd bf y0 y1 y2 y3 y4 y5 y6 y7 ht cH cV))) (zy_ok z) (c_X6_next_x (sX xs i 1) hM.1 hM.2.2.1 hst (rg_of _) h1) _ cs_U)
  refine q_callW (As := [.ref (x 0), .int (iI (sX xs i 1)), .ref ao]) (rest := []) (zy_ok z) hx hb hml hown hts hK hH cw_L_next ini_L st_L_next yw_L_next.1 yw_L_next.2 ml_L_118 (by rw [hR]; exact ⟨Nat.le_of_ble_eq_true rfl, Nat.le_of_ble_eq_true rfl⟩) hw hA hZ rfl rfl hl.1 (lv_room (Nat.le_of_ble_eq_true rfl)) dL_law_730 ⟨by rw [hR]; have hcs1 := hcs.1; omega, by rw [hR]; have hcs2 := hcs.2; omega⟩ (fun u H locs hu hw => ?_)
  replace hw : qw D (AL s) s.heap ((fl (BS x a b ap b2 aH aV cI cB cZ cS T C lat und pfl pln pkd pst pen per pls pss us f1 f2 f3 pf pm pt pl pw w1 w2 w3 w4 w5 w6 hn svd bf y0 y1 y2 y3 y4 y5 y6 y7 ht cH cV) ++ [outC cJ ao f]) ++ (mW g cI cB cZ th pfl tl ts te tk nu er eo hL hS und bf dr td sa ad hi sl svd tr)) H locs := hw
  refine lv_istore (lv' := [(5, .int (iI 1)), (0, .ref bb), (1, .ref (x 0)), (2, .ref (g 0)), (3, .ref ao), (4, .int (iI i))]) hx hb dL_law_733 hl (by decide) rfl (fun ls hl => ?_)
  refine lv_aload_n hx hb dL_law_735 rfl (lv_at hl 3 rfl) ?_
  refine lv_aload_n hx hb dL_law_736 rfl (lv_at hl 1 rfl) ?_
  refine lv_iload hx hb dL_law_737 (lv_at hl 5 rfl) ?_
  refine q_iconst hx hb dL_law_739 ?_
  refine q_iadd hx hb dL_law_740 ?_
  refine q_scr hB hw ⟨by omega, by omega⟩ dL_law_741 ?_
  replace hw := hw.comm
  refine q_callH (As := [.int (iI (sX xs i 1))]) (rest := []) (zy_ok z) hx hb hml hown hts hK (qH_M (c_X7_next (sX xs i 1) hM (rg_of _))) yi_X7_next ml_L_120 (by rw [hR]; exact ⟨Nat.le_of_ble_eq_true rfl, Nat.le_of_ble_eq_true rfl⟩) hw hA hZ 0 rfl rfl rfl rfl hl.1 (lv_room (Nat.le_of_ble_eq_true rfl)) dL_law_742 ⟨by rw [hR]; have hcs1 := hcs.1; omega, by rw [hR]; have hcs2 := hcs.2; omega⟩ (fun u H locs hu hw => ?_)
  obtain ⟨th2, r2⟩ := u
  obtain ⟨e1, e2⟩ := hu
  replace hw : qw D (AL s) s.heap ((fl (BS x a b ap b2 aH aV cI cB cZ cS T C lat und pfl pln pkd pst pen per pls pss us f1 f2 f3 pf pm pt pl pw w1 w2 w3 w4 w5 w6 hn svd bf y0 y1 y2 y3 y4 y5 y6 y7 ht cH cV) ++ [outC cJ ao f]) ++ (mW g cI cB cZ th2 pfl tl ts te tk nu er eo hL hS und bf dr td sa ad hi sl svd tr)) H locs := hw.comm
  have e3 : th2 = 1 := e1.trans (if_neg h1)
  subst e3
  replace hw : qw D (AL s) s.heap ((fl (BS x a b ap b2 aH aV cI cB cZ cS T C lat und pfl pln pkd pst pen per pls pss us f1 f2 f3 pf pm pt pl pw w1 w2 w3 w4 w5 w6 hn svd bf y0 y1 y2 y3 y4 y5 y6 y7 ht cH cV) ++ [outC cJ ao f]) ++ (mW g cI cB cZ 1 pfl tl ts te tk nu er eo hL hS und bf dr td sa ad hi sl svd tr)) H locs := hw
  refine lv_istore (lv' := [(6, .int (iI r2)), (5, .int (iI 1)), (0, .ref bb), (1, .ref (x 0)), (2, .ref (g 0)), (3, .ref ao), (4, .int (iI i))]) hx hb dL_law_745 hl (by decide) rfl (fun ls hl => ?_)
  refine lv_aload_n hx hb dL_law_747 rfl (lv_at hl 4 rfl) ?_
  replace hw := hw.comm
  refine q_callH (As := []) (rest := []) (zy_ok z) hx hb hml hown hts hK (qH_P c_X7_thrown) yi_X7_thrown ml_L_88 (by rw [hR]; exact ⟨Nat.le_of_ble_eq_true rfl, Nat.le_of_ble_eq_true rfl⟩) hw hA hZ 0 rfl rfl rfl rfl hl.1 (lv_room (Nat.le_of_ble_eq_true rfl)) dL_law_748 ⟨by rw [hR]; have hcs1 := hcs.1; omega, by rw [hR]; have hcs2 := hcs.2; omega⟩ (fun u H locs _ hw => ?_)
  replace hw : qw D (AL s) s.heap ((fl (BS x a b ap b2 aH aV cI cB cZ cS T C lat und pfl pln pkd pst pen per pls pss us f1 f2 f3 pf pm pt pl pw w1 w2 w3 w4 w5 w6 hn svd bf y0 y1 y2 y3 y4 y5 y6 y7 ht cH cV) ++ [outC cJ ao f]) ++ (mW g cI cB cZ 1 pfl tl ts te tk nu er eo hL hS und bf dr td sa ad hi sl svd tr)) H locs := hw.comm
  refine lv_iload hx hb dL_law_751 (lv_at hl 1 rfl) ?_
  refine q_same (tgt := 758) hx hb dL_law_753 (by decide) ?_
  refine lv_iload hx hb dL_law_758 (lv_at hl 1 rfl) ?_
  refine q_if_ne (tgt := 775) hx hb dL_law_760 (by decide) (by decide) (fun _ => ?_) (fun c9 => absurd c9 (by decide))
  refine lv_goto (tgt := 1484) hx hb dL_law_775 (by decide) ?_
  exact (kk _ H locs ls ⟨b, b2, T, C, cH, cV, lat, und, pfl, pln, pkd, pst, pen, per, pls, pss, us, f1, f2, f3, pf, pm, pt, pl, pw, w1, w2, w3, w4, w5, w6, hn, 1, tl, ts, te, tk, nu, er, eo, hL, hS, svd, bf, y0, y1, y2, y3, y4, y5, y6, y7, ht, dr, td, sa, ad, hi, sl, tr, f, ⟨hM, hFR, hby, hpf, hnu, hln, hHW, hsv, hSW⟩, rfl⟩ hw (lv_sub hl [2, 3, 4, 5, 6] rfl))

theorem law_next (hB : LB p l s m args c R z D cI cB cZ cS cJ bb L xs) (hI : LI x a ap aH aV g ao cI cB cZ cS cJ i ws) (hw : qw D (AL s) s.heap ws H locs) (hl : lv_has ls 9 (lv5 x g ao bb i)) (hrn : 0 ≤ i ∧ i + 6 ≤ (L : Int)) (hcs : cells + 1 ≤ room_1.cells ∧ slots + 6 ≤ room_1.slots) (kk : ∀ (ws1 : va_W) (H1 : Heap) (locs1 : List Loc) (ls1 : Array Slot), LI x a ap aH aV g ao cI cB cZ cS cJ (i + 6) ws1 → qw D (AL s) s.heap ws1 H1 locs1 → lv_has ls1 9 (lv5 x g ao bb i) → W p l e R s m args below meth c H1 locs1 (cells + 1) (slots + 6) Q (F0 m 1484 ls1 [])) : W p l e R s m args below meth c H locs cells slots Q (F0 m 722 ls []) := by
  obtain ⟨b, b2, T, C, cH, cV, lat, und, pfl, pln, pkd, pst, pen, per, pls, pss, us, f1, f2, f3, pf, pm, pt, pl, pw, w1, w2, w3, w4, w5, w6, hn, th, tl, ts, te, tk, nu, er, eo, hL, hS, svd, bf, y0, y1, y2, y3, y4, y5, y6, y7, ht, dr, td, sa, ad, hi, sl, tr, f, hF, rfl⟩ := hI
  by_cases h1 : 0 ≤ (sX xs i 1) ∧ (sX xs i 1) ≤ 4
  · exact law_next_0 h1 hB hF hw hl hrn hcs kk
  · exact law_next_1 h1 hB hF hw hl hrn hcs kk

set_option maxHeartbeats 4000000 in
set_option maxRecDepth 100000 in
theorem law_ahead_0 (h1 : 101 ≤ (sX xs i 1) ∧ (sX xs i 1) ≤ 300) (h2 : 0 ≤ (sX xs i 2) ∧ (sX xs i 2) ≤ 4) (hB : LB p l s m args c R z D cI cB cZ cS cJ bb L xs) (hF : LF i T C td sa hi sl svd bf pfl nu eo lat und cH cV) (hw : qw D (AL s) s.heap ((fl (BS x a b ap b2 aH aV cI cB cZ cS T C lat und pfl pln pkd pst pen per pls pss us f1 f2 f3 pf pm pt pl pw w1 w2 w3 w4 w5 w6 hn svd bf y0 y1 y2 y3 y4 y5 y6 y7 ht cH cV) ++ [outC cJ ao f]) ++ (mW g cI cB cZ th pfl tl ts te tk nu er eo hL hS und bf dr td sa ad hi sl svd tr)) H locs) (hl : lv_has ls 9 (lv5 x g ao bb i)) (hrn : 0 ≤ i ∧ i + 6 ≤ (L : Int)) (hcs : cells + 1 ≤ room_1.cells ∧ slots + 6 ≤ room_1.slots) (kk : ∀ (ws1 : va_W) (H1 : Heap) (locs1 : List Loc) (ls1 : Array Slot), LI x a ap aH aV g ao cI cB cZ cS cJ (i + 6) ws1 → qw D (AL s) s.heap ws1 H1 locs1 → lv_has ls1 9 (lv5 x g ao bb i) → W p l e R s m args below meth c H1 locs1 (cells + 1) (slots + 6) Q (F0 m 1484 ls1 [])) : W p l e R s m args below meth c H locs cells slots Q (F0 m 778 ls []) := by
  have hB0 := hB
  obtain ⟨⟨hx, hb, hml, hown, hts, hK⟩, hR, hZ, hst, hX, hbl, hL9⟩ := hB0
  obtain ⟨hM, hFR, hby, hpf, hnu, hla, hHW, hsv, hSW⟩ := hF
  have hlc : 0 ≤ lat ∧ lat ≤ 1000000 ∧ 0 ≤ und ∧ und ≤ 10 := by omega
  have hln : und ≤ lat ∧ lat ≤ i + 6 ∧ 0 ≤ und ∧ und ≤ 10 := by omega
  have hA : ∀ q : Nat, s.heap.size ≤ q → AL s q := fun q h => h
  have hl : lv_has ls 9 [(0, .ref bb), (1, .ref (x 0)), (2, .ref (g 0)), (3, .ref ao), (4, .int (iI i))] := hl
  refine lv_aload_n hx hb dL_law_778 rfl (lv_at hl 1 rfl) ?_
  refine lv_aload_n hx hb dL_law_779 rfl (lv_at hl 0 rfl) ?_
  refine lv_iload hx hb dL_law_780 (lv_at hl 4 rfl) ?_
  refine q_iconst hx hb dL_law_782 ?_
  refine q_iadd hx hb dL_law_783 ?_
  refine q_scr hB hw ⟨by omega, by omega⟩ dL_law_784 ?_
  refine lv_aload_n hx hb dL_law_785 rfl (lv_at hl 0 rfl) ?_
  refine lv_iload hx hb dL_law_786 (lv_at hl 4 rfl) ?_
  refine q_iconst hx hb dL_law_788 ?_
  refine q_iadd hx hb dL_law_789 ?_
  refine q_scr hB hw ⟨by omega, by omega⟩ dL_law_790 ?_
  refine lv_aload_n hx hb dL_law_791 rfl (lv_at hl 3 rfl) ?_
  have hH := c_L_ahead (l := l) (D := D) (z := z) (cI := cI) (cB := cB) (cZ := cZ) (cS := cS) (cJ := cJ) (ao := ao) (W0 := (fl (BS x a b ap b2 aH aV cI cB cZ cS T C lat und pfl pln pkd pst pen per pls pss us f1 f2 f3 pf pm pt pl pw w1 w2 w3 w4 w5 w6 hn svd bf y0 y1 y2 y3 y4 y5 y6 y7 ht cH cV))) (b0 := x 0) (f := f) ((sX xs i 1)) ((sX xs i 2)) rfl (qH_up (l := l) (D := D) (Z := ZY z) (ty := tyG cI cB cZ cS cJ) (W9 := (fl (BS x a b ap b2 aH aV cI cB cZ cS T C lat und pfl pln pkd pst pen per pls pss us f1 f2 f3 pf pm pt pl pw w1 w2 w3 w4 w5 w6 hn svd bf y0 y1 y2 y3 y4 y5 y6 y7 ht cH cV))) (zy_ok z) (qH_z (qH_Mz (c_X6_ahead (sX xs i 1) (sX xs i 2) hM.1 hM.2.2.1 hFR h1 h2)) (zy_z z)) _ (cs_A (x := x) (a := a) (ap := ap) (aH := aH) (aV := aV) (cI := cI) (cB := cB) (cZ := cZ) (cS := cS) (b := b) (b2 := b2) (T := T) (C := C) (cH := cH) (cV := cV) (lat := lat) (und := und) (pfl := pfl) (pln := pln) (pkd := pkd) (pst := pst) (pen := pen) (per := per) (pls := pls) (pss := pss) (us := us) (f1 := f1) (f2 := f2) (f3 := f3) (pf := pf) (pm := pm) (pt := pt) (pl := pl) (pw := pw) (w1 := w1) (w2 := w2) (w3 := w3) (w4 := w4) (w5 := w5) (w6 := w6) (hn := hn) (svd := svd) (bf := bf) (y0 := y0) (y1 := y1) (y2 := y2) (y3 := y3) (y4 := y4) (y5 := y5) (y6 := y6) (y7 := y7) (ht := ht)) (fun u _ => (cs_A (x := x) (a := a) (ap := ap) (aH := aH) (aV := aV) (cI := cI) (cB := cB) (cZ := cZ) (cS := cS) (b := b) (b2 := b2) (T := T) (C := C) (cH := cH) (cV := cV) (lat := lat) (und := und) (pfl := pfl) (pln := pln) (pkd := pkd) (pst := pst) (pen := pen) (per := per) (pls := pls) (pss := pss) (us := us) (f1 := f1) (f2 := f2) (f3 := f3) (pf := ((u.1))) (pm := ((u.2.1))) (pt := ((u.2.2.1))) (pl := ((u.2.2.2.1))) (pw := ((u.2.2.2.2.1))) (w1 := ((u.2.2.2.2.2.1))) (w2 := ((u.2.2.2.2.2.2.1))) (w3 := ((u.2.2.2.2.2.2.2.1))) (w4 := ((u.2.2.2.2.2.2.2.2.1))) (w5 := ((u.2.2.2.2.2.2.2.2.2.1))) (w6 := ((u.2.2.2.2.2.2.2.2.2.2.1))) (hn := ((u.2.2.2.2.2.2.2.2.2.2.2.1))) (svd := svd) (bf := bf) (y0 := y0) (y1 := y1) (y2 := y2) (y3 := y3) (y4 := y4) (y5 := y5) (y6 := y6) (y7 := y7) (ht := ((u.2.2.2.2.2.2.2.2.2.2.2.2)))).symm))
  refine q_callW (As := [.ref (x 0), .int (iI (sX xs i 1)), .int (iI (sX xs i 2)), .ref ao]) (rest := []) (zy_ok z) hx hb hml hown hts hK hH cw_L_ahead ini_L st_L_ahead yw_L_ahead.1 yw_L_ahead.2 ml_L_121 (by rw [hR]; exact ⟨Nat.le_of_ble_eq_true rfl, Nat.le_of_ble_eq_true rfl⟩) hw hA hZ rfl rfl hl.1 (lv_room (Nat.le_of_ble_eq_true rfl)) dL_law_792 ⟨by rw [hR]; have hcs1 := hcs.1; omega, by rw [hR]; have hcs2 := hcs.2; omega⟩ (fun u H locs hu hw => ?_)
  obtain ⟨k1, k2, k3, k4, k5, k6, k7, k8, k9, k10, k11, k12, k13⟩ := u
  replace hw : qw D (AL s) s.heap ((fl (BS x a b ap b2 aH aV cI cB cZ cS T C lat und pfl pln pkd pst pen per pls pss us f1 f2 f3 k1 k2 k3 k4 k5 k6 k7 k8 k9 k10 k11 k12 svd bf y0 y1 y2 y3 y4 y5 y6 y7 k13 cH cV) ++ [outC cJ ao (vp_updL f 0 (iI (trA T C (sX xs i 1) (sX xs i 2))).toInt64)]) ++ (mW g cI cB cZ th pfl tl ts te tk nu er eo hL hS und bf dr td sa ad hi sl svd tr)) H locs := hw
  refine lv_istore (lv' := [(5, .int (iI 0)), (0, .ref bb), (1, .ref (x 0)), (2, .ref (g 0)), (3, .ref ao), (4, .int (iI i))]) hx hb dL_law_795 hl (by decide) rfl (fun ls hl => ?_)
  refine lv_aload_n hx hb dL_law_797 rfl (lv_at hl 3 rfl) ?_
  refine lv_aload_n hx hb dL_law_798 rfl (lv_at hl 1 rfl) ?_
  refine lv_iload hx hb dL_law_799 (lv_at hl 5 rfl) ?_
  refine q_iconst hx hb dL_law_801 ?_
  refine q_iadd hx hb dL_law_802 ?_
  refine q_scr hB hw ⟨by omega, by omega⟩ dL_law_803 ?_
  refine lv_aload_n hx hb dL_law_804 rfl (lv_at hl 1 rfl) ?_
  refine lv_iload hx hb dL_law_805 (lv_at hl 5 rfl) ?_
  refine q_iconst hx hb dL_law_807 ?_
  refine q_iadd hx hb dL_law_808 ?_
  refine q_scr hB hw ⟨by omega, by omega⟩ dL_law_809 ?_
  replace hw := hw.comm
  refine q_callH (As := [.int (iI (sX xs i 1)), .int (iI (sX xs i 2))]) (rest := []) (zy_ok z) hx hb hml hown hts hK (qH_M (c_X7_ahead (sX xs i 1) (sX xs i 2) hM hFR h1 h2)) yi_X7_ahead ml_L_123 (by rw [hR]; exact ⟨Nat.le_of_ble_eq_true rfl, Nat.le_of_ble_eq_true rfl⟩) hw hA hZ 0 rfl rfl rfl rfl hl.1 (lv_room (Nat.le_of_ble_eq_true rfl)) dL_law_810 ⟨by rw [hR]; have hcs1 := hcs.1; omega, by rw [hR]; have hcs2 := hcs.2; omega⟩ (fun u H locs hu hw => ?_)
  obtain ⟨sa2, ad2, tr2⟩ := u
  have hM2 := hu
  replace hw : qw D (AL s) s.heap ((fl (BS x a b ap b2 aH aV cI cB cZ cS T C lat und pfl pln pkd pst pen per pls pss us f1 f2 f3 k1 k2 k3 k4 k5 k6 k7 k8 k9 k10 k11 k12 svd bf y0 y1 y2 y3 y4 y5 y6 y7 k13 cH cV) ++ [outC cJ ao (vp_updL f 0 (iI (trA T C (sX xs i 1) (sX xs i 2))).toInt64)]) ++ (mW g cI cB cZ 0 pfl tl ts te tk nu er eo hL hS und bf dr td sa2 ad2 hi sl svd tr2)) H locs := hw.comm
  refine lv_istore (lv' := [(6, .int (iI (trA T C (sX xs i 1) (sX xs i 2)))), (5, .int (iI 0)), (0, .ref bb), (1, .ref (x 0)), (2, .ref (g 0)), (3, .ref ao), (4, .int (iI i))]) hx hb dL_law_813 hl (by decide) rfl (fun ls hl => ?_)
  refine lv_aload_n hx hb dL_law_815 rfl (lv_at hl 4 rfl) ?_
  replace hw := hw.comm
  refine q_callH (As := []) (rest := []) (zy_ok z) hx hb hml hown hts hK (qH_P c_X7_thrown) yi_X7_thrown ml_L_88 (by rw [hR]; exact ⟨Nat.le_of_ble_eq_true rfl, Nat.le_of_ble_eq_true rfl⟩) hw hA hZ 0 rfl rfl rfl rfl hl.1 (lv_room (Nat.le_of_ble_eq_true rfl)) dL_law_816 ⟨by rw [hR]; have hcs1 := hcs.1; omega, by rw [hR]; have hcs2 := hcs.2; omega⟩ (fun u H locs _ hw => ?_)
  replace hw : qw D (AL s) s.heap ((fl (BS x a b ap b2 aH aV cI cB cZ cS T C lat und pfl pln pkd pst pen per pls pss us f1 f2 f3 k1 k2 k3 k4 k5 k6 k7 k8 k9 k10 k11 k12 svd bf y0 y1 y2 y3 y4 y5 y6 y7 k13 cH cV) ++ [outC cJ ao (vp_updL f 0 (iI (trA T C (sX xs i 1) (sX xs i 2))).toInt64)]) ++ (mW g cI cB cZ 0 pfl tl ts te tk nu er eo hL hS und bf dr td sa2 ad2 hi sl svd tr2)) H locs := hw.comm
  refine lv_iload hx hb dL_law_819 (lv_at hl 1 rfl) ?_
  refine q_same (tgt := 826) hx hb dL_law_821 (by decide) ?_
  refine lv_iload hx hb dL_law_826 (lv_at hl 1 rfl) ?_
  refine q_if_ne (tgt := 843) hx hb dL_law_828 (by decide) (by decide) (fun c9 => absurd rfl c9) (fun _ => ?_)
  refine lv_aload_n hx hb dL_law_831 rfl (lv_at hl 5 rfl) ?_
  refine q_iconst hx hb dL_law_832 ?_
  refine q_lald hx hb hK hw.1 (fl (BS x a b ap b2 aH aV cI cB cZ cS T C lat und pfl pln pkd pst pen per pls pss us f1 f2 f3 k1 k2 k3 k4 k5 k6 k7 k8 k9 k10 k11 k12 svd bf y0 y1 y2 y3 y4 y5 y6 y7 k13 cH cV)).length 4 (get_mid _ _ _) rfl (vu_0 _ _) dL_law_833 ?_
  refine lv_iload hx hb dL_law_834 (lv_at hl 0 rfl) ?_
  refine lv_i2l hx hb dL_law_836 rfl ?_
  refine q_lsame (tgt := 843) hx hb dL_law_837 dL_law_838 (by decide) ?_
  refine lv_goto (tgt := 1484) hx hb dL_law_843 (by decide) ?_
  exact W_wide (Nat.le_succ _) (Nat.le_add_right _ _) (kk _ H locs ls ⟨b, b2, T, C, cH, cV, lat, und, pfl, pln, pkd, pst, pen, per, pls, pss, us, f1, f2, f3, k1, k2, k3, k4, k5, k6, k7, k8, k9, k10, k11, k12, 0, tl, ts, te, tk, nu, er, eo, hL, hS, svd, bf, y0, y1, y2, y3, y4, y5, y6, y7, k13, dr, td, sa2, ad2, hi, sl, tr2, (vp_updL f 0 (iI (trA T C (sX xs i 1) (sX xs i 2))).toInt64), ⟨hM2, hFR, hby, hpf, hnu, hln, hHW, hsv, hSW⟩, rfl⟩ hw (lv_sub hl [2, 3, 4, 5, 6] rfl))

set_option maxHeartbeats 4000000 in
set_option maxRecDepth 100000 in
theorem law_ahead_2 (h1 : 101 ≤ (sX xs i 1) ∧ (sX xs i 1) ≤ 300) (h2 : ¬ (0 ≤ (sX xs i 2) ∧ (sX xs i 2) ≤ 4)) (hB : LB p l s m args c R z D cI cB cZ cS cJ bb L xs) (hF : LF i T C td sa hi sl svd bf pfl nu eo lat und cH cV) (hw : qw D (AL s) s.heap ((fl (BS x a b ap b2 aH aV cI cB cZ cS T C lat und pfl pln pkd pst pen per pls pss us f1 f2 f3 pf pm pt pl pw w1 w2 w3 w4 w5 w6 hn svd bf y0 y1 y2 y3 y4 y5 y6 y7 ht cH cV) ++ [outC cJ ao f]) ++ (mW g cI cB cZ th pfl tl ts te tk nu er eo hL hS und bf dr td sa ad hi sl svd tr)) H locs) (hl : lv_has ls 9 (lv5 x g ao bb i)) (hrn : 0 ≤ i ∧ i + 6 ≤ (L : Int)) (hcs : cells + 1 ≤ room_1.cells ∧ slots + 6 ≤ room_1.slots) (kk : ∀ (ws1 : va_W) (H1 : Heap) (locs1 : List Loc) (ls1 : Array Slot), LI x a ap aH aV g ao cI cB cZ cS cJ (i + 6) ws1 → qw D (AL s) s.heap ws1 H1 locs1 → lv_has ls1 9 (lv5 x g ao bb i) → W p l e R s m args below meth c H1 locs1 (cells + 1) (slots + 6) Q (F0 m 1484 ls1 [])) : W p l e R s m args below meth c H locs cells slots Q (F0 m 778 ls []) := by
  have hB0 := hB
  obtain ⟨⟨hx, hb, hml, hown, hts, hK⟩, hR, hZ, hst, hX, hbl, hL9⟩ := hB0
  obtain ⟨hM, hFR, hby, hpf, hnu, hla, hHW, hsv, hSW⟩ := hF
  have hlc : 0 ≤ lat ∧ lat ≤ 1000000 ∧ 0 ≤ und ∧ und ≤ 10 := by omega
  have hln : und ≤ lat ∧ lat ≤ i + 6 ∧ 0 ≤ und ∧ und ≤ 10 := by omega
  have hA : ∀ q : Nat, s.heap.size ≤ q → AL s q := fun q h => h
  have hl : lv_has ls 9 [(0, .ref bb), (1, .ref (x 0)), (2, .ref (g 0)), (3, .ref ao), (4, .int (iI i))] := hl
  refine lv_aload_n hx hb dL_law_778 rfl (lv_at hl 1 rfl) ?_
  refine lv_aload_n hx hb dL_law_779 rfl (lv_at hl 0 rfl) ?_
  refine lv_iload hx hb dL_law_780 (lv_at hl 4 rfl) ?_
  refine q_iconst hx hb dL_law_782 ?_
  refine q_iadd hx hb dL_law_783 ?_
  refine q_scr hB hw ⟨by omega, by omega⟩ dL_law_784 ?_
  refine lv_aload_n hx hb dL_law_785 rfl (lv_at hl 0 rfl) ?_
  refine lv_iload hx hb dL_law_786 (lv_at hl 4 rfl) ?_
  refine q_iconst hx hb dL_law_788 ?_
  refine q_iadd hx hb dL_law_789 ?_
  refine q_scr hB hw ⟨by omega, by omega⟩ dL_law_790 ?_
  refine lv_aload_n hx hb dL_law_791 rfl (lv_at hl 3 rfl) ?_
  have hH := c_L_ahead_x1 (l := l) (D := D) (z := z) (cI := cI) (cB := cB) (cZ := cZ) (cS := cS) (cJ := cJ) (ao := ao) (W0 := (fl (BS x a b ap b2 aH aV cI cB cZ cS T C lat und pfl pln pkd pst pen per pls pss us f1 f2 f3 pf pm pt pl pw w1 w2 w3 w4 w5 w6 hn svd bf y0 y1 y2 y3 y4 y5 y6 y7 ht cH cV))) (b0 := x 0) (f := f) ((sX xs i 1)) ((sX xs i 2)) rfl (qT_up (l := l) (D := D) (Z := ZY z) (ty := tyG cI cB cZ cS cJ) (W9 := (fl (BS x a b ap b2 aH aV cI cB cZ cS T C lat und pfl pln pkd pst pen per pls pss us f1 f2 f3 pf pm pt pl pw w1 w2 w3 w4 w5 w6 hn svd bf y0 y1 y2 y3 y4 y5 y6 y7 ht cH cV))) (zy_ok z) (c_X6_ahead_x2 (sX xs i 1) (sX xs i 2) hM.1 hM.2.2.1 hst h1 (rg_of _) h2) _ cs_U)
  refine q_callW (As := [.ref (x 0), .int (iI (sX xs i 1)), .int (iI (sX xs i 2)), .ref ao]) (rest := []) (zy_ok z) hx hb hml hown hts hK hH cw_L_ahead ini_L st_L_ahead yw_L_ahead.1 yw_L_ahead.2 ml_L_121 (by rw [hR]; exact ⟨Nat.le_of_ble_eq_true rfl, Nat.le_of_ble_eq_true rfl⟩) hw hA hZ rfl rfl hl.1 (lv_room (Nat.le_of_ble_eq_true rfl)) dL_law_792 ⟨by rw [hR]; have hcs1 := hcs.1; omega, by rw [hR]; have hcs2 := hcs.2; omega⟩ (fun u H locs hu hw => ?_)
  replace hw : qw D (AL s) s.heap ((fl (BS x a b ap b2 aH aV cI cB cZ cS T C lat und pfl pln pkd pst pen per pls pss us f1 f2 f3 pf pm pt pl pw w1 w2 w3 w4 w5 w6 hn svd bf y0 y1 y2 y3 y4 y5 y6 y7 ht cH cV) ++ [outC cJ ao f]) ++ (mW g cI cB cZ th pfl tl ts te tk nu er eo hL hS und bf dr td sa ad hi sl svd tr)) H locs := hw
  refine lv_istore (lv' := [(5, .int (iI 1)), (0, .ref bb), (1, .ref (x 0)), (2, .ref (g 0)), (3, .ref ao), (4, .int (iI i))]) hx hb dL_law_795 hl (by decide) rfl (fun ls hl => ?_)
  refine lv_aload_n hx hb dL_law_797 rfl (lv_at hl 3 rfl) ?_
  refine lv_aload_n hx hb dL_law_798 rfl (lv_at hl 1 rfl) ?_
  refine lv_iload hx hb dL_law_799 (lv_at hl 5 rfl) ?_
  refine q_iconst hx hb dL_law_801 ?_
  refine q_iadd hx hb dL_law_802 ?_
  refine q_scr hB hw ⟨by omega, by omega⟩ dL_law_803 ?_
  refine lv_aload_n hx hb dL_law_804 rfl (lv_at hl 1 rfl) ?_
  refine lv_iload hx hb dL_law_805 (lv_at hl 5 rfl) ?_
  refine q_iconst hx hb dL_law_807 ?_
  refine q_iadd hx hb dL_law_808 ?_
  refine q_scr hB hw ⟨by omega, by omega⟩ dL_law_809 ?_
  replace hw := hw.comm
  refine q_callH (As := [.int (iI (sX xs i 1)), .int (iI (sX xs i 2))]) (rest := []) (zy_ok z) hx hb hml hown hts hK (qH_M (c_X7_ahead_no (sX xs i 1) (sX xs i 2) (rg_of _) (rg_of _) (by omega))) yi_X7_ahead ml_L_123 (by rw [hR]; exact ⟨Nat.le_of_ble_eq_true rfl, Nat.le_of_ble_eq_true rfl⟩) hw hA hZ 0 rfl rfl rfl rfl hl.1 (lv_room (Nat.le_of_ble_eq_true rfl)) dL_law_810 ⟨by rw [hR]; have hcs1 := hcs.1; omega, by rw [hR]; have hcs2 := hcs.2; omega⟩ (fun u H locs hu hw => ?_)
  replace hw : qw D (AL s) s.heap ((fl (BS x a b ap b2 aH aV cI cB cZ cS T C lat und pfl pln pkd pst pen per pls pss us f1 f2 f3 pf pm pt pl pw w1 w2 w3 w4 w5 w6 hn svd bf y0 y1 y2 y3 y4 y5 y6 y7 ht cH cV) ++ [outC cJ ao f]) ++ (mW g cI cB cZ 1 pfl tl ts te tk nu er eo hL hS und bf dr td sa ad hi sl svd tr)) H locs := hw.comm
  refine lv_istore (lv' := [(6, .int (iI 0)), (5, .int (iI 1)), (0, .ref bb), (1, .ref (x 0)), (2, .ref (g 0)), (3, .ref ao), (4, .int (iI i))]) hx hb dL_law_813 hl (by decide) rfl (fun ls hl => ?_)
  refine lv_aload_n hx hb dL_law_815 rfl (lv_at hl 4 rfl) ?_
  replace hw := hw.comm
  refine q_callH (As := []) (rest := []) (zy_ok z) hx hb hml hown hts hK (qH_P c_X7_thrown) yi_X7_thrown ml_L_88 (by rw [hR]; exact ⟨Nat.le_of_ble_eq_true rfl, Nat.le_of_ble_eq_true rfl⟩) hw hA hZ 0 rfl rfl rfl rfl hl.1 (lv_room (Nat.le_of_ble_eq_true rfl)) dL_law_816 ⟨by rw [hR]; have hcs1 := hcs.1; omega, by rw [hR]; have hcs2 := hcs.2; omega⟩ (fun u H locs _ hw => ?_)
  replace hw : qw D (AL s) s.heap ((fl (BS x a b ap b2 aH aV cI cB cZ cS T C lat und pfl pln pkd pst pen per pls pss us f1 f2 f3 pf pm pt pl pw w1 w2 w3 w4 w5 w6 hn svd bf y0 y1 y2 y3 y4 y5 y6 y7 ht cH cV) ++ [outC cJ ao f]) ++ (mW g cI cB cZ 1 pfl tl ts te tk nu er eo hL hS und bf dr td sa ad hi sl svd tr)) H locs := hw.comm
  refine lv_iload hx hb dL_law_819 (lv_at hl 1 rfl) ?_
  refine q_same (tgt := 826) hx hb dL_law_821 (by decide) ?_
  refine lv_iload hx hb dL_law_826 (lv_at hl 1 rfl) ?_
  refine q_if_ne (tgt := 843) hx hb dL_law_828 (by decide) (by decide) (fun _ => ?_) (fun c9 => absurd c9 (by decide))
  refine lv_goto (tgt := 1484) hx hb dL_law_843 (by decide) ?_
  exact (kk _ H locs ls ⟨b, b2, T, C, cH, cV, lat, und, pfl, pln, pkd, pst, pen, per, pls, pss, us, f1, f2, f3, pf, pm, pt, pl, pw, w1, w2, w3, w4, w5, w6, hn, 1, tl, ts, te, tk, nu, er, eo, hL, hS, svd, bf, y0, y1, y2, y3, y4, y5, y6, y7, ht, dr, td, sa, ad, hi, sl, tr, f, ⟨hM, hFR, hby, hpf, hnu, hln, hHW, hsv, hSW⟩, rfl⟩ hw (lv_sub hl [2, 3, 4, 5, 6] rfl))

set_option maxHeartbeats 4000000 in
set_option maxRecDepth 100000 in
theorem law_ahead_1 (h1 : ¬ (101 ≤ (sX xs i 1) ∧ (sX xs i 1) ≤ 300)) (hB : LB p l s m args c R z D cI cB cZ cS cJ bb L xs) (hF : LF i T C td sa hi sl svd bf pfl nu eo lat und cH cV) (hw : qw D (AL s) s.heap ((fl (BS x a b ap b2 aH aV cI cB cZ cS T C lat und pfl pln pkd pst pen per pls pss us f1 f2 f3 pf pm pt pl pw w1 w2 w3 w4 w5 w6 hn svd bf y0 y1 y2 y3 y4 y5 y6 y7 ht cH cV) ++ [outC cJ ao f]) ++ (mW g cI cB cZ th pfl tl ts te tk nu er eo hL hS und bf dr td sa ad hi sl svd tr)) H locs) (hl : lv_has ls 9 (lv5 x g ao bb i)) (hrn : 0 ≤ i ∧ i + 6 ≤ (L : Int)) (hcs : cells + 1 ≤ room_1.cells ∧ slots + 6 ≤ room_1.slots) (kk : ∀ (ws1 : va_W) (H1 : Heap) (locs1 : List Loc) (ls1 : Array Slot), LI x a ap aH aV g ao cI cB cZ cS cJ (i + 6) ws1 → qw D (AL s) s.heap ws1 H1 locs1 → lv_has ls1 9 (lv5 x g ao bb i) → W p l e R s m args below meth c H1 locs1 (cells + 1) (slots + 6) Q (F0 m 1484 ls1 [])) : W p l e R s m args below meth c H locs cells slots Q (F0 m 778 ls []) := by
  have hB0 := hB
  obtain ⟨⟨hx, hb, hml, hown, hts, hK⟩, hR, hZ, hst, hX, hbl, hL9⟩ := hB0
  obtain ⟨hM, hFR, hby, hpf, hnu, hla, hHW, hsv, hSW⟩ := hF
  have hlc : 0 ≤ lat ∧ lat ≤ 1000000 ∧ 0 ≤ und ∧ und ≤ 10 := by omega
  have hln : und ≤ lat ∧ lat ≤ i + 6 ∧ 0 ≤ und ∧ und ≤ 10 := by omega
  have hA : ∀ q : Nat, s.heap.size ≤ q → AL s q := fun q h => h
  have hl : lv_has ls 9 [(0, .ref bb), (1, .ref (x 0)), (2, .ref (g 0)), (3, .ref ao), (4, .int (iI i))] := hl
  refine lv_aload_n hx hb dL_law_778 rfl (lv_at hl 1 rfl) ?_
  refine lv_aload_n hx hb dL_law_779 rfl (lv_at hl 0 rfl) ?_
  refine lv_iload hx hb dL_law_780 (lv_at hl 4 rfl) ?_
  refine q_iconst hx hb dL_law_782 ?_
  refine q_iadd hx hb dL_law_783 ?_
  refine q_scr hB hw ⟨by omega, by omega⟩ dL_law_784 ?_
  refine lv_aload_n hx hb dL_law_785 rfl (lv_at hl 0 rfl) ?_
  refine lv_iload hx hb dL_law_786 (lv_at hl 4 rfl) ?_
  refine q_iconst hx hb dL_law_788 ?_
  refine q_iadd hx hb dL_law_789 ?_
  refine q_scr hB hw ⟨by omega, by omega⟩ dL_law_790 ?_
  refine lv_aload_n hx hb dL_law_791 rfl (lv_at hl 3 rfl) ?_
  have hH := c_L_ahead_x1 (l := l) (D := D) (z := z) (cI := cI) (cB := cB) (cZ := cZ) (cS := cS) (cJ := cJ) (ao := ao) (W0 := (fl (BS x a b ap b2 aH aV cI cB cZ cS T C lat und pfl pln pkd pst pen per pls pss us f1 f2 f3 pf pm pt pl pw w1 w2 w3 w4 w5 w6 hn svd bf y0 y1 y2 y3 y4 y5 y6 y7 ht cH cV))) (b0 := x 0) (f := f) ((sX xs i 1)) ((sX xs i 2)) rfl (qT_up (l := l) (D := D) (Z := ZY z) (ty := tyG cI cB cZ cS cJ) (W9 := (fl (BS x a b ap b2 aH aV cI cB cZ cS T C lat und pfl pln pkd pst pen per pls pss us f1 f2 f3 pf pm pt pl pw w1 w2 w3 w4 w5 w6 hn svd bf y0 y1 y2 y3 y4 y5 y6 y7 ht cH cV))) (zy_ok z) (c_X6_ahead_x1 (sX xs i 1) (sX xs i 2) hM.1 hM.2.2.1 hst (rg_of _) h1) _ cs_U)
  refine q_callW (As := [.ref (x 0), .int (iI (sX xs i 1)), .int (iI (sX xs i 2)), .ref ao]) (rest := []) (zy_ok z) hx hb hml hown hts hK hH cw_L_ahead ini_L st_L_ahead yw_L_ahead.1 yw_L_ahead.2 ml_L_121 (by rw [hR]; exact ⟨Nat.le_of_ble_eq_true rfl, Nat.le_of_ble_eq_true rfl⟩) hw hA hZ rfl rfl hl.1 (lv_room (Nat.le_of_ble_eq_true rfl)) dL_law_792 ⟨by rw [hR]; have hcs1 := hcs.1; omega, by rw [hR]; have hcs2 := hcs.2; omega⟩ (fun u H locs hu hw => ?_)
  replace hw : qw D (AL s) s.heap ((fl (BS x a b ap b2 aH aV cI cB cZ cS T C lat und pfl pln pkd pst pen per pls pss us f1 f2 f3 pf pm pt pl pw w1 w2 w3 w4 w5 w6 hn svd bf y0 y1 y2 y3 y4 y5 y6 y7 ht cH cV) ++ [outC cJ ao f]) ++ (mW g cI cB cZ th pfl tl ts te tk nu er eo hL hS und bf dr td sa ad hi sl svd tr)) H locs := hw
  refine lv_istore (lv' := [(5, .int (iI 1)), (0, .ref bb), (1, .ref (x 0)), (2, .ref (g 0)), (3, .ref ao), (4, .int (iI i))]) hx hb dL_law_795 hl (by decide) rfl (fun ls hl => ?_)
  refine lv_aload_n hx hb dL_law_797 rfl (lv_at hl 3 rfl) ?_
  refine lv_aload_n hx hb dL_law_798 rfl (lv_at hl 1 rfl) ?_
  refine lv_iload hx hb dL_law_799 (lv_at hl 5 rfl) ?_
  refine q_iconst hx hb dL_law_801 ?_
  refine q_iadd hx hb dL_law_802 ?_
  refine q_scr hB hw ⟨by omega, by omega⟩ dL_law_803 ?_
  refine lv_aload_n hx hb dL_law_804 rfl (lv_at hl 1 rfl) ?_
  refine lv_iload hx hb dL_law_805 (lv_at hl 5 rfl) ?_
  refine q_iconst hx hb dL_law_807 ?_
  refine q_iadd hx hb dL_law_808 ?_
  refine q_scr hB hw ⟨by omega, by omega⟩ dL_law_809 ?_
  replace hw := hw.comm
  refine q_callH (As := [.int (iI (sX xs i 1)), .int (iI (sX xs i 2))]) (rest := []) (zy_ok z) hx hb hml hown hts hK (qH_M (c_X7_ahead_no (sX xs i 1) (sX xs i 2) (rg_of _) (rg_of _) (by omega))) yi_X7_ahead ml_L_123 (by rw [hR]; exact ⟨Nat.le_of_ble_eq_true rfl, Nat.le_of_ble_eq_true rfl⟩) hw hA hZ 0 rfl rfl rfl rfl hl.1 (lv_room (Nat.le_of_ble_eq_true rfl)) dL_law_810 ⟨by rw [hR]; have hcs1 := hcs.1; omega, by rw [hR]; have hcs2 := hcs.2; omega⟩ (fun u H locs hu hw => ?_)
  replace hw : qw D (AL s) s.heap ((fl (BS x a b ap b2 aH aV cI cB cZ cS T C lat und pfl pln pkd pst pen per pls pss us f1 f2 f3 pf pm pt pl pw w1 w2 w3 w4 w5 w6 hn svd bf y0 y1 y2 y3 y4 y5 y6 y7 ht cH cV) ++ [outC cJ ao f]) ++ (mW g cI cB cZ 1 pfl tl ts te tk nu er eo hL hS und bf dr td sa ad hi sl svd tr)) H locs := hw.comm
  refine lv_istore (lv' := [(6, .int (iI 0)), (5, .int (iI 1)), (0, .ref bb), (1, .ref (x 0)), (2, .ref (g 0)), (3, .ref ao), (4, .int (iI i))]) hx hb dL_law_813 hl (by decide) rfl (fun ls hl => ?_)
  refine lv_aload_n hx hb dL_law_815 rfl (lv_at hl 4 rfl) ?_
  replace hw := hw.comm
  refine q_callH (As := []) (rest := []) (zy_ok z) hx hb hml hown hts hK (qH_P c_X7_thrown) yi_X7_thrown ml_L_88 (by rw [hR]; exact ⟨Nat.le_of_ble_eq_true rfl, Nat.le_of_ble_eq_true rfl⟩) hw hA hZ 0 rfl rfl rfl rfl hl.1 (lv_room (Nat.le_of_ble_eq_true rfl)) dL_law_816 ⟨by rw [hR]; have hcs1 := hcs.1; omega, by rw [hR]; have hcs2 := hcs.2; omega⟩ (fun u H locs _ hw => ?_)
  replace hw : qw D (AL s) s.heap ((fl (BS x a b ap b2 aH aV cI cB cZ cS T C lat und pfl pln pkd pst pen per pls pss us f1 f2 f3 pf pm pt pl pw w1 w2 w3 w4 w5 w6 hn svd bf y0 y1 y2 y3 y4 y5 y6 y7 ht cH cV) ++ [outC cJ ao f]) ++ (mW g cI cB cZ 1 pfl tl ts te tk nu er eo hL hS und bf dr td sa ad hi sl svd tr)) H locs := hw.comm
  refine lv_iload hx hb dL_law_819 (lv_at hl 1 rfl) ?_
  refine q_same (tgt := 826) hx hb dL_law_821 (by decide) ?_
  refine lv_iload hx hb dL_law_826 (lv_at hl 1 rfl) ?_
  refine q_if_ne (tgt := 843) hx hb dL_law_828 (by decide) (by decide) (fun _ => ?_) (fun c9 => absurd c9 (by decide))
  refine lv_goto (tgt := 1484) hx hb dL_law_843 (by decide) ?_
  exact (kk _ H locs ls ⟨b, b2, T, C, cH, cV, lat, und, pfl, pln, pkd, pst, pen, per, pls, pss, us, f1, f2, f3, pf, pm, pt, pl, pw, w1, w2, w3, w4, w5, w6, hn, 1, tl, ts, te, tk, nu, er, eo, hL, hS, svd, bf, y0, y1, y2, y3, y4, y5, y6, y7, ht, dr, td, sa, ad, hi, sl, tr, f, ⟨hM, hFR, hby, hpf, hnu, hln, hHW, hsv, hSW⟩, rfl⟩ hw (lv_sub hl [2, 3, 4, 5, 6] rfl))

theorem law_ahead (hB : LB p l s m args c R z D cI cB cZ cS cJ bb L xs) (hI : LI x a ap aH aV g ao cI cB cZ cS cJ i ws) (hw : qw D (AL s) s.heap ws H locs) (hl : lv_has ls 9 (lv5 x g ao bb i)) (hrn : 0 ≤ i ∧ i + 6 ≤ (L : Int)) (hcs : cells + 1 ≤ room_1.cells ∧ slots + 6 ≤ room_1.slots) (kk : ∀ (ws1 : va_W) (H1 : Heap) (locs1 : List Loc) (ls1 : Array Slot), LI x a ap aH aV g ao cI cB cZ cS cJ (i + 6) ws1 → qw D (AL s) s.heap ws1 H1 locs1 → lv_has ls1 9 (lv5 x g ao bb i) → W p l e R s m args below meth c H1 locs1 (cells + 1) (slots + 6) Q (F0 m 1484 ls1 [])) : W p l e R s m args below meth c H locs cells slots Q (F0 m 778 ls []) := by
  obtain ⟨b, b2, T, C, cH, cV, lat, und, pfl, pln, pkd, pst, pen, per, pls, pss, us, f1, f2, f3, pf, pm, pt, pl, pw, w1, w2, w3, w4, w5, w6, hn, th, tl, ts, te, tk, nu, er, eo, hL, hS, svd, bf, y0, y1, y2, y3, y4, y5, y6, y7, ht, dr, td, sa, ad, hi, sl, tr, f, hF, rfl⟩ := hI
  by_cases h1 : 101 ≤ (sX xs i 1) ∧ (sX xs i 1) ≤ 300
  · by_cases h2 : 0 ≤ (sX xs i 2) ∧ (sX xs i 2) ≤ 4
    · exact law_ahead_0 h1 h2 hB hF hw hl hrn hcs kk
    · exact law_ahead_2 h1 h2 hB hF hw hl hrn hcs kk
  · exact law_ahead_1 h1 hB hF hw hl hrn hcs kk
