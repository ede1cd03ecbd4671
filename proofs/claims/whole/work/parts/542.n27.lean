variable {p : Program} {l : Launch} {e : Env} {R : Room} {s : State} {m : MethodId} {args : Array Value} {below : List Frame} {meth : Method} {c : Code} {H : Heap} {locs : List Loc} {cells slots : Nat} {Q : State → Prop} {D : va_G} {cI cB cZ cS cJ : ClassId} {z x a ap g : Nat → Nat} {aH aV : Nat → Nat → Nat} {ao bb L : Nat} {xs : Nat → Int32} {i : Int} {ls : Array Slot} {ws : va_W} {b b2 : Nat → Nat} {T C : Nat → Int → Int} {cH cV : Nat → Nat → Int → Int} {lat und pfl pln pkd pst pen per pls pss us f1 f2 f3 pf pm pt pl pw w1 w2 w3 w4 w5 w6 hn th tl ts te tk nu er eo hL hS : Int} {svd bf y0 y1 y2 y3 y4 y5 y6 y7 ht dr td sa ad hi sl tr : Int → Int} {f : Nat → Int64}

set_option maxHeartbeats 4000000 in
set_option maxRecDepth 100000 in
theorem law_size_0 (h1 : 0 ≤ (sX xs i 1) ∧ (sX xs i 1) ≤ 11) (hB : LB p l s m args c R z D cI cB cZ cS cJ bb L xs) (hF : LF i T C td sa hi sl svd bf pfl nu eo lat und cH cV) (hw : qw D (AL s) s.heap ((fl (BS x a b ap b2 aH aV cI cB cZ cS T C lat und pfl pln pkd pst pen per pls pss us f1 f2 f3 pf pm pt pl pw w1 w2 w3 w4 w5 w6 hn svd bf y0 y1 y2 y3 y4 y5 y6 y7 ht cH cV) ++ [outC cJ ao f]) ++ (mW g cI cB cZ th pfl tl ts te tk nu er eo hL hS und bf dr td sa ad hi sl svd tr)) H locs) (hl : lv_has ls 9 (lv5 x g ao bb i)) (hrn : 0 ≤ i ∧ i + 6 ≤ (L : Int)) (hcs : cells + 1 ≤ room_1.cells ∧ slots + 6 ≤ room_1.slots) (kk : ∀ (ws1 : va_W) (H1 : Heap) (locs1 : List Loc) (ls1 : Array Slot), LI x a ap aH aV g ao cI cB cZ cS cJ (i + 6) ws1 → qw D (AL s) s.heap ws1 H1 locs1 → lv_has ls1 9 (lv5 x g ao bb i) → W p l e R s m args below meth c H1 locs1 (cells + 1) (slots + 6) Q (F0 m 1484 ls1 [])) : W p l e R s m args below meth c H locs cells slots Q (F0 m 293 ls []) := by
  have hB0 := hB
  obtain ⟨⟨hx, hb, hml, hown, hts, hK⟩, hR, hZ, hst, hX, hbl, hL9⟩ := hB0
  obtain ⟨hM, hFR, hby, hpf, hnu, hla, hHW, hsv, hSW⟩ := hF
  have hlc : 0 ≤ lat ∧ lat ≤ 1000000 ∧ 0 ≤ und ∧ und ≤ 10 := by omega
  have hln : und ≤ lat ∧ lat ≤ i + 6 ∧ 0 ≤ und ∧ und ≤ 10 := by omega
  have hA : ∀ q : Nat, s.heap.size ≤ q → AL s q := fun q h => h
  have hl : lv_has ls 9 [(0, .ref bb), (1, .ref (x 0)), (2, .ref (g 0)), (3, .ref ao), (4, .int (iI i))] := hl
  refine lv_aload_n hx hb dL_law_293 rfl (lv_at hl 1 rfl) ?_
  refine lv_aload_n hx hb dL_law_294 rfl (lv_at hl 0 rfl) ?_
  refine lv_iload hx hb dL_law_295 (lv_at hl 4 rfl) ?_
  refine q_iconst hx hb dL_law_297 ?_
  refine q_iadd hx hb dL_law_298 ?_
  refine q_scr hB hw ⟨by omega, by omega⟩ dL_law_299 ?_
  refine lv_aload_n hx hb dL_law_300 rfl (lv_at hl 3 rfl) ?_
  have hH := c_L_size (l := l) (D := D) (z := z) (cI := cI) (cB := cB) (cZ := cZ) (cS := cS) (cJ := cJ) (ao := ao) (W0 := (fl (BS x a b ap b2 aH aV cI cB cZ cS T C lat und pfl pln pkd pst pen per pls pss us f1 f2 f3 pf pm pt pl pw w1 w2 w3 w4 w5 w6 hn svd bf y0 y1 y2 y3 y4 y5 y6 y7 ht cH cV))) (b0 := x 0) (f := f) ((sX xs i 1)) rfl (qH_up (l := l) (D := D) (Z := ZY z) (ty := tyG cI cB cZ cS cJ) (W9 := (fl (BS x a b ap b2 aH aV cI cB cZ cS T C lat und pfl pln pkd pst pen per pls pss us f1 f2 f3 pf pm pt pl pw w1 w2 w3 w4 w5 w6 hn svd bf y0 y1 y2 y3 y4 y5 y6 y7 ht cH cV))) (zy_ok z) (qH_P (c_X6_size (sX xs i 1) hM.1 hM.2.2.1 h1)) _ (cs_A (x := x) (a := a) (ap := ap) (aH := aH) (aV := aV) (cI := cI) (cB := cB) (cZ := cZ) (cS := cS) (b := b) (b2 := b2) (T := T) (C := C) (cH := cH) (cV := cV) (lat := lat) (und := und) (pfl := pfl) (pln := pln) (pkd := pkd) (pst := pst) (pen := pen) (per := per) (pls := pls) (pss := pss) (us := us) (f1 := f1) (f2 := f2) (f3 := f3) (pf := pf) (pm := pm) (pt := pt) (pl := pl) (pw := pw) (w1 := w1) (w2 := w2) (w3 := w3) (w4 := w4) (w5 := w5) (w6 := w6) (hn := hn) (svd := svd) (bf := bf) (y0 := y0) (y1 := y1) (y2 := y2) (y3 := y3) (y4 := y4) (y5 := y5) (y6 := y6) (y7 := y7) (ht := ht)) (fun u _ => (cs_A (x := x) (a := a) (ap := ap) (aH := aH) (aV := aV) (cI := cI) (cB := cB) (cZ := cZ) (cS := cS) (b := b) (b2 := b2) (T := T) (C := C) (cH := cH) (cV := cV) (lat := lat) (und := und) (pfl := pfl) (pln := pln) (pkd := pkd) (pst := pst) (pen := pen) (per := per) (pls := pls) (pss := pss) (us := us) (f1 := f1) (f2 := f2) (f3 := f3) (pf := pf) (pm := pm) (pt := pt) (pl := pl) (pw := pw) (w1 := w1) (w2 := w2) (w3 := w3) (w4 := w4) (w5 := w5) (w6 := w6) (hn := hn) (svd := svd) (bf := bf) (y0 := y0) (y1 := y1) (y2 := y2) (y3 := y3) (y4 := y4) (y5 := y5) (y6 := y6) (y7 := y7) (ht := ht)).symm))
  refine q_callW (As := [.ref (x 0), .int (iI (sX xs i 1)), .ref ao]) (rest := []) (zy_ok z) hx hb hml hown hts hK hH cw_L_size ini_L st_L_size yw_L_size.1 yw_L_size.2 ml_L_91 (by rw [hR]; exact ⟨Nat.le_of_ble_eq_true rfl, Nat.le_of_ble_eq_true rfl⟩) hw hA hZ rfl rfl hl.1 (lv_room (Nat.le_of_ble_eq_true rfl)) dL_law_301 ⟨by rw [hR]; have hcs1 := hcs.1; omega, by rw [hR]; have hcs2 := hcs.2; omega⟩ (fun u H locs hu hw => ?_)
  replace hw : qw D (AL s) s.heap ((fl (BS x a b ap b2 aH aV cI cB cZ cS T C lat und pfl pln pkd pst pen per pls pss us f1 f2 f3 pf pm pt pl pw w1 w2 w3 w4 w5 w6 hn svd bf y0 y1 y2 y3 y4 y5 y6 y7 ht cH cV) ++ [outC cJ ao (vp_updL f 0 (iI (sizV T C und (sX xs i 1))).toInt64)]) ++ (mW g cI cB cZ th pfl tl ts te tk nu er eo hL hS und bf dr td sa ad hi sl svd tr)) H locs := hw
  refine lv_istore (lv' := [(5, .int (iI 0)), (0, .ref bb), (1, .ref (x 0)), (2, .ref (g 0)), (3, .ref ao), (4, .int (iI i))]) hx hb dL_law_304 hl (by decide) rfl (fun ls hl => ?_)
  refine lv_aload_n hx hb dL_law_306 rfl (lv_at hl 3 rfl) ?_
  refine lv_aload_n hx hb dL_law_307 rfl (lv_at hl 1 rfl) ?_
  refine lv_iload hx hb dL_law_308 (lv_at hl 5 rfl) ?_
  refine q_iconst hx hb dL_law_310 ?_
  refine q_iadd hx hb dL_law_311 ?_
  refine q_scr hB hw ⟨by omega, by omega⟩ dL_law_312 ?_
  replace hw := hw.comm
  refine q_callH (As := [.int (iI (sX xs i 1))]) (rest := []) (zy_ok z) hx hb hml hown hts hK (qH_M (c_X7_size (sX xs i 1) hM (rg_of _))) yi_X7_size ml_L_93 (by rw [hR]; exact ⟨Nat.le_of_ble_eq_true rfl, Nat.le_of_ble_eq_true rfl⟩) hw hA hZ 0 rfl rfl rfl rfl hl.1 (lv_room (Nat.le_of_ble_eq_true rfl)) dL_law_313 ⟨by rw [hR]; have hcs1 := hcs.1; omega, by rw [hR]; have hcs2 := hcs.2; omega⟩ (fun u H locs hu hw => ?_)
  obtain ⟨th2, r2⟩ := u
  obtain ⟨e1, e2⟩ := hu
  replace hw : qw D (AL s) s.heap ((fl (BS x a b ap b2 aH aV cI cB cZ cS T C lat und pfl pln pkd pst pen per pls pss us f1 f2 f3 pf pm pt pl pw w1 w2 w3 w4 w5 w6 hn svd bf y0 y1 y2 y3 y4 y5 y6 y7 ht cH cV) ++ [outC cJ ao (vp_updL f 0 (iI (sizV T C und (sX xs i 1))).toInt64)]) ++ (mW g cI cB cZ th2 pfl tl ts te tk nu er eo hL hS und bf dr td sa ad hi sl svd tr)) H locs := hw.comm
  have e3 : th2 = 0 := e1.trans (if_pos h1)
  have e4 := e2 e3
  subst e3
  subst e4
  replace hw : qw D (AL s) s.heap ((fl (BS x a b ap b2 aH aV cI cB cZ cS T C lat und pfl pln pkd pst pen per pls pss us f1 f2 f3 pf pm pt pl pw w1 w2 w3 w4 w5 w6 hn svd bf y0 y1 y2 y3 y4 y5 y6 y7 ht cH cV) ++ [outC cJ ao (vp_updL f 0 (iI (sizV T C und (sX xs i 1))).toInt64)]) ++ (mW g cI cB cZ 0 pfl tl ts te tk nu er eo hL hS und bf dr td sa ad hi sl svd tr)) H locs := hw
  refine lv_istore (lv' := [(6, .int (iI (sizV T C und (sX xs i 1)))), (5, .int (iI 0)), (0, .ref bb), (1, .ref (x 0)), (2, .ref (g 0)), (3, .ref ao), (4, .int (iI i))]) hx hb dL_law_316 hl (by decide) rfl (fun ls hl => ?_)
  refine lv_aload_n hx hb dL_law_318 rfl (lv_at hl 4 rfl) ?_
  replace hw := hw.comm
  refine q_callH (As := []) (rest := []) (zy_ok z) hx hb hml hown hts hK (qH_P c_X7_thrown) yi_X7_thrown ml_L_88 (by rw [hR]; exact ⟨Nat.le_of_ble_eq_true rfl, Nat.le_of_ble_eq_true rfl⟩) hw hA hZ 0 rfl rfl rfl rfl hl.1 (lv_room (Nat.le_of_ble_eq_true rfl)) dL_law_319 ⟨by rw [hR]; have hcs1 := hcs.1; omega, by rw [hR]; have hcs2 := hcs.2; omega⟩ (fun u H locs _ hw => ?_)
  replace hw : qw D (AL s) s.heap ((fl (BS x a b ap b2 aH aV cI cB cZ cS T C lat und pfl pln pkd pst pen per pls pss us f1 f2 f3 pf pm pt pl pw w1 w2 w3 w4 w5 w6 hn svd bf y0 y1 y2 y3 y4 y5 y6 y7 ht cH cV) ++ [outC cJ ao (vp_updL f 0 (iI (sizV T C und (sX xs i 1))).toInt64)]) ++ (mW g cI cB cZ 0 pfl tl ts te tk nu er eo hL hS und bf dr td sa ad hi sl svd tr)) H locs := hw.comm
  refine lv_iload hx hb dL_law_322 (lv_at hl 1 rfl) ?_
  refine q_same (tgt := 329) hx hb dL_law_324 (by decide) ?_
  refine lv_iload hx hb dL_law_329 (lv_at hl 1 rfl) ?_
  refine q_if_ne (tgt := 346) hx hb dL_law_331 (by decide) (by decide) (fun c9 => absurd rfl c9) (fun _ => ?_)
  refine lv_aload_n hx hb dL_law_334 rfl (lv_at hl 5 rfl) ?_
  refine q_iconst hx hb dL_law_335 ?_
  refine q_lald hx hb hK hw.1 (fl (BS x a b ap b2 aH aV cI cB cZ cS T C lat und pfl pln pkd pst pen per pls pss us f1 f2 f3 pf pm pt pl pw w1 w2 w3 w4 w5 w6 hn svd bf y0 y1 y2 y3 y4 y5 y6 y7 ht cH cV)).length 4 (get_mid _ _ _) rfl (vu_0 _ _) dL_law_336 ?_
  refine lv_iload hx hb dL_law_337 (lv_at hl 0 rfl) ?_
  refine lv_i2l hx hb dL_law_339 rfl ?_
  refine q_lsame (tgt := 346) hx hb dL_law_340 dL_law_341 (by decide) ?_
  refine lv_goto (tgt := 1484) hx hb dL_law_346 (by decide) ?_
  exact W_wide (Nat.le_succ _) (Nat.le_add_right _ _) (kk _ H locs ls ⟨b, b2, T, C, cH, cV, lat, und, pfl, pln, pkd, pst, pen, per, pls, pss, us, f1, f2, f3, pf, pm, pt, pl, pw, w1, w2, w3, w4, w5, w6, hn, 0, tl, ts, te, tk, nu, er, eo, hL, hS, svd, bf, y0, y1, y2, y3, y4, y5, y6, y7, ht, dr, td, sa, ad, hi, sl, tr, (vp_updL f 0 (iI (sizV T C und (sX xs i 1))).toInt64), ⟨hM, hFR, hby, hpf, hnu, hln, hHW, hsv, hSW⟩, rfl⟩ hw (lv_sub hl [2, 3, 4, 5, 6] rfl))

set_option maxHeartbeats 4000000 in
set_option maxRecDepth 100000 in
theorem law_size_1 (h1 : ¬ (0 ≤ (sX xs i 1) ∧ (sX xs i 1) ≤ 11)) (hB : LB p l s m args c R z D cI cB cZ cS cJ bb L xs) (hF : LF i T C td sa hi sl svd bf pfl nu eo lat und cH cV) (hw : qw D (AL s) s.heap ((fl (BS x a b ap b2 aH aV cI cB cZ cS T C lat und pfl pln pkd pst pen per pls pss us f1 f2 f3 pf pm pt pl pw w1 w2 w3 w4 w5 w6 hn svd bf y0 y1 y2 y3 y4 y5 y6 y7 ht cH cV) ++ [outC cJ ao f]) ++ (mW g cI cB cZ th pfl tl ts te tk nu er eo hL hS und bf dr td sa ad hi sl svd tr)) H locs) (hl : lv_has ls 9 (lv5 x g ao bb i)) (hrn : 0 ≤ i ∧ i + 6 ≤ (L : Int)) (hcs : cells + 1 ≤ room_1.cells ∧ slots + 6 ≤ room_1.slots) (kk : ∀ (ws1 : va_W) (H1 : Heap) (locs1 : List Loc) (ls1 : Array Slot), LI x a ap aH aV g ao cI cB cZ cS cJ (i + 6) ws1 → qw D (AL s) s.heap ws1 H1 locs1 → lv_has ls1 9 (lv5 x g ao bb i) → W p l e R s m args below meth c H1 locs1 (cells + 1) (slots + 6) Q (F0 m 1484 ls1 [])) : W p l e R s m args below meth c H locs cells slots Q (F0 m 293 ls []) := by
  have hB0 := hB
  obtain ⟨⟨hx, hb, hml, hown, hts, hK⟩, hR, hZ, hst, hX, hbl, hL9⟩ := hB0
  obtain ⟨hM, hFR, hby, hpf, hnu, hla, hHW, hsv, hSW⟩ := hF
  have hlc : 0 ≤ lat ∧ lat ≤ 1000000 ∧ 0 ≤ und ∧ und ≤ 10 := by omega
  have hln : und ≤ lat ∧ lat ≤ i + 6 ∧ 0 ≤ und ∧ und ≤ 10 := by omega
  have hA : ∀ q : Nat, s.heap.size ≤ q → AL s q := fun q h => h
  have hl : lv_has ls 9 [(0, .ref bb), (1, .ref (x 0)), (2, .ref (g 0)), (3, .ref ao), (4, .int (iI i))] := hl
  refine lv_aload_n hx hb dL_law_293 rfl (lv_at hl 1 rfl) ?_
  refine lv_aload_n hx hb dL_law_294 rfl (lv_at hl 0 rfl) ?_
  refine lv_iload hx hb dL_law_295 (lv_at hl 4 rfl) ?_
  refine q_iconst hx hb dL_law_297 ?_
  refine q_iadd hx hb dL_law_298 ?_
  refine q_scr hB hw ⟨by omega, by omega⟩ dL_law_299 ?_
  refine lv_aload_n hx hb dL_law_300 rfl (lv_at hl 3 rfl) ?_
  have hH := c_L_size_x1 (l := l) (D := D) (z := z) (cI := cI) (cB := cB) (cZ := cZ) (cS := cS) (cJ := cJ) (ao := ao) (W0 := (fl (BS x a b ap b2 aH aV cI cB cZ cS T C lat und pfl pln pkd pst pen per pls pss us f1 f2 f3 pf pm pt pl pw w1 w2 w3 w4 w5 w6 hn svd bf y0 y1 y2 y3 y4 y5 y6 y7 ht cH cV))) (b0 := x 0) (f := f) ((sX xs i 1)) rfl (qT_up (l := l) (D := D) (Z := ZY z) (ty := tyG cI cB cZ cS cJ) (W9 := (fl (BS x a b ap b2 aH aV cI cB cZ cS T C lat und pfl pln pkd pst pen per pls pss us f1 f2 f3 pf pm pt pl pw w1 w2 w3 w4 w5 w6 hn svd bf y0 y1 y2 y3 y4 y5 y6 y7 ht cH cV))) (zy_ok z) (c_X6_size_x (sX xs i 1) hM.1 hM.2.2.1 hst (rg_of _) (h1)) _ cs_U)
  refine q_callW (As := [.ref (x 0), .int (iI (sX xs i 1)), .ref ao]) (rest := []) (zy_ok z) hx hb hml hown hts hK hH cw_L_size ini_L st_L_size yw_L_size.1 yw_L_size.2 ml_L_91 (by rw [hR]; exact ⟨Nat.le_of_ble_eq_true rfl, Nat.le_of_ble_eq_true rfl⟩) hw hA hZ rfl rfl hl.1 (lv_room (Nat.le_of_ble_eq_true rfl)) dL_law_301 ⟨by rw [hR]; have hcs1 := hcs.1; omega, by rw [hR]; have hcs2 := hcs.2; omega⟩ (fun u H locs hu hw => ?_)
  replace hw : qw D (AL s) s.heap ((fl (BS x a b ap b2 aH aV cI cB cZ cS T C lat und pfl pln pkd pst pen per pls pss us f1 f2 f3 pf pm pt pl pw w1 w2 w3 w4 w5 w6 hn svd bf y0 y1 y2 y3 y4 y5 y6 y7 ht cH cV) ++ [outC cJ ao f]) ++ (mW g cI cB cZ th pfl tl ts te tk nu er eo hL hS und bf dr td sa ad hi sl svd tr)) H locs := hw
  refine lv_istore (lv' := [(5, .int (iI 1)), (0, .ref bb), (1, .ref (x 0)), (2, .ref (g 0)), (3, .ref ao), (4, .int (iI i))]) hx hb dL_law_304 hl (by decide) rfl (fun ls hl => ?_)
  refine lv_aload_n hx hb dL_law_306 rfl (lv_at hl 3 rfl) ?_
  refine lv_aload_n hx hb dL_law_307 rfl (lv_at hl 1 rfl) ?_
  refine lv_iload hx hb dL_law_308 (lv_at hl 5 rfl) ?_
  refine q_iconst hx hb dL_law_310 ?_
  refine q_iadd hx hb dL_law_311 ?_
  refine q_scr hB hw ⟨by omega, by omega⟩ dL_law_312 ?_
  replace hw := hw.comm
  refine q_callH (As := [.int (iI (sX xs i 1))]) (rest := []) (zy_ok z) hx hb hml hown hts hK (qH_M (c_X7_size (sX xs i 1) hM (rg_of _))) yi_X7_size ml_L_93 (by rw [hR]; exact ⟨Nat.le_of_ble_eq_true rfl, Nat.le_of_ble_eq_true rfl⟩) hw hA hZ 0 rfl rfl rfl rfl hl.1 (lv_room (Nat.le_of_ble_eq_true rfl)) dL_law_313 ⟨by rw [hR]; have hcs1 := hcs.1; omega, by rw [hR]; have hcs2 := hcs.2; omega⟩ (fun u H locs hu hw => ?_)
  obtain ⟨th2, r2⟩ := u
  obtain ⟨e1, e2⟩ := hu
  replace hw : qw D (AL s) s.heap ((fl (BS x a b ap b2 aH aV cI cB cZ cS T C lat und pfl pln pkd pst pen per pls pss us f1 f2 f3 pf pm pt pl pw w1 w2 w3 w4 w5 w6 hn svd bf y0 y1 y2 y3 y4 y5 y6 y7 ht cH cV) ++ [outC cJ ao f]) ++ (mW g cI cB cZ th2 pfl tl ts te tk nu er eo hL hS und bf dr td sa ad hi sl svd tr)) H locs := hw.comm
  have e3 : th2 = 1 := e1.trans (if_neg h1)
  subst e3
  replace hw : qw D (AL s) s.heap ((fl (BS x a b ap b2 aH aV cI cB cZ cS T C lat und pfl pln pkd pst pen per pls pss us f1 f2 f3 pf pm pt pl pw w1 w2 w3 w4 w5 w6 hn svd bf y0 y1 y2 y3 y4 y5 y6 y7 ht cH cV) ++ [outC cJ ao f]) ++ (mW g cI cB cZ 1 pfl tl ts te tk nu er eo hL hS und bf dr td sa ad hi sl svd tr)) H locs := hw
  refine lv_istore (lv' := [(6, .int (iI r2)), (5, .int (iI 1)), (0, .ref bb), (1, .ref (x 0)), (2, .ref (g 0)), (3, .ref ao), (4, .int (iI i))]) hx hb dL_law_316 hl (by decide) rfl (fun ls hl => ?_)
  refine lv_aload_n hx hb dL_law_318 rfl (lv_at hl 4 rfl) ?_
  replace hw := hw.comm
  refine q_callH (As := []) (rest := []) (zy_ok z) hx hb hml hown hts hK (qH_P c_X7_thrown) yi_X7_thrown ml_L_88 (by rw [hR]; exact ⟨Nat.le_of_ble_eq_true rfl, Nat.le_of_ble_eq_true rfl⟩) hw hA hZ 0 rfl rfl rfl rfl hl.1 (lv_room (Nat.le_of_ble_eq_true rfl)) dL_law_319 ⟨by rw [hR]; have hcs1 := hcs.1; omega, by rw [hR]; have hcs2 := hcs.2; omega⟩ (fun u H locs _ hw => ?_)
  replace hw : qw D (AL s) s.heap ((fl (BS x a b ap b2 aH aV cI cB cZ cS T C lat und pfl pln pkd pst pen per pls pss us f1 f2 f3 pf pm pt pl pw w1 w2 w3 w4 w5 w6 hn svd bf y0 y1 y2 y3 y4 y5 y6 y7 ht cH cV) ++ [outC cJ ao f]) ++ (mW g cI cB cZ 1 pfl tl ts te tk nu er eo hL hS und bf dr td sa ad hi sl svd tr)) H locs := hw.comm
  refine lv_iload hx hb dL_law_322 (lv_at hl 1 rfl) ?_
  refine q_same (tgt := 329) hx hb dL_law_324 (by decide) ?_
  refine lv_iload hx hb dL_law_329 (lv_at hl 1 rfl) ?_
  refine q_if_ne (tgt := 346) hx hb dL_law_331 (by decide) (by decide) (fun _ => ?_) (fun c9 => absurd c9 (by decide))
  refine lv_goto (tgt := 1484) hx hb dL_law_346 (by decide) ?_
  exact (kk _ H locs ls ⟨b, b2, T, C, cH, cV, lat, und, pfl, pln, pkd, pst, pen, per, pls, pss, us, f1, f2, f3, pf, pm, pt, pl, pw, w1, w2, w3, w4, w5, w6, hn, 1, tl, ts, te, tk, nu, er, eo, hL, hS, svd, bf, y0, y1, y2, y3, y4, y5, y6, y7, ht, dr, td, sa, ad, hi, sl, tr, f, ⟨hM, hFR, hby, hpf, hnu, hln, hHW, hsv, hSW⟩, rfl⟩ hw (lv_sub hl [2, 3, 4, 5, 6] rfl))

theorem law_size (hB : LB p l s m args c R z D cI cB cZ cS cJ bb L xs) (hI : LI x a ap aH aV g ao cI cB cZ cS cJ i ws) (hw : qw D (AL s) s.heap ws H locs) (hl : lv_has ls 9 (lv5 x g ao bb i)) (hrn : 0 ≤ i ∧ i + 6 ≤ (L : Int)) (hcs : cells + 1 ≤ room_1.cells ∧ slots + 6 ≤ room_1.slots) (kk : ∀ (ws1 : va_W) (H1 : Heap) (locs1 : List Loc) (ls1 : Array Slot), LI x a ap aH aV g ao cI cB cZ cS cJ (i + 6) ws1 → qw D (AL s) s.heap ws1 H1 locs1 → lv_has ls1 9 (lv5 x g ao bb i) → W p l e R s m args below meth c H1 locs1 (cells + 1) (slots + 6) Q (F0 m 1484 ls1 [])) : W p l e R s m args below meth c H locs cells slots Q (F0 m 293 ls []) := by
  obtain ⟨b, b2, T, C, cH, cV, lat, und, pfl, pln, pkd, pst, pen, per, pls, pss, us, f1, f2, f3, pf, pm, pt, pl, pw, w1, w2, w3, w4, w5, w6, hn, th, tl, ts, te, tk, nu, er, eo, hL, hS, svd, bf, y0, y1, y2, y3, y4, y5, y6, y7, ht, dr, td, sa, ad, hi, sl, tr, f, hF, rfl⟩ := hI
  by_cases h1 : 0 ≤ (sX xs i 1) ∧ (sX xs i 1) ≤ 11
  · exact law_size_0 h1 hB hF hw hl hrn hcs kk
  · exact law_size_1 h1 hB hF hw hl hrn hcs kk

set_option maxHeartbeats 4000000 in
set_option maxRecDepth 100000 in
theorem law_limit_0 (h1 : 0 ≤ (sX xs i 1) ∧ (sX xs i 1) ≤ 3) (hB : LB p l s m args c R z D cI cB cZ cS cJ bb L xs) (hF : LF i T C td sa hi sl svd bf pfl nu eo lat und cH cV) (hw : qw D (AL s) s.heap ((fl (BS x a b ap b2 aH aV cI cB cZ cS T C lat und pfl pln pkd pst pen per pls pss us f1 f2 f3 pf pm pt pl pw w1 w2 w3 w4 w5 w6 hn svd bf y0 y1 y2 y3 y4 y5 y6 y7 ht cH cV) ++ [outC cJ ao f]) ++ (mW g cI cB cZ th pfl tl ts te tk nu er eo hL hS und bf dr td sa ad hi sl svd tr)) H locs) (hl : lv_has ls 9 (lv5 x g ao bb i)) (hrn : 0 ≤ i ∧ i + 6 ≤ (L : Int)) (hcs : cells + 1 ≤ room_1.cells ∧ slots + 6 ≤ room_1.slots) (kk : ∀ (ws1 : va_W) (H1 : Heap) (locs1 : List Loc) (ls1 : Array Slot), LI x a ap aH aV g ao cI cB cZ cS cJ (i + 6) ws1 → qw D (AL s) s.heap ws1 H1 locs1 → lv_has ls1 9 (lv5 x g ao bb i) → W p l e R s m args below meth c H1 locs1 (cells + 1) (slots + 6) Q (F0 m 1484 ls1 [])) : W p l e R s m args below meth c H locs cells slots Q (F0 m 349 ls []) := by
  have hB0 := hB
  obtain ⟨⟨hx, hb, hml, hown, hts, hK⟩, hR, hZ, hst, hX, hbl, hL9⟩ := hB0
  obtain ⟨hM, hFR, hby, hpf, hnu, hla, hHW, hsv, hSW⟩ := hF
  have hlc : 0 ≤ lat ∧ lat ≤ 1000000 ∧ 0 ≤ und ∧ und ≤ 10 := by omega
  have hln : und ≤ lat ∧ lat ≤ i + 6 ∧ 0 ≤ und ∧ und ≤ 10 := by omega
  have hA : ∀ q : Nat, s.heap.size ≤ q → AL s q := fun q h => h
  have hl : lv_has ls 9 [(0, .ref bb), (1, .ref (x 0)), (2, .ref (g 0)), (3, .ref ao), (4, .int (iI i))] := hl
  refine lv_aload_n hx hb dL_law_349 rfl (lv_at hl 1 rfl) ?_
  refine lv_aload_n hx hb dL_law_350 rfl (lv_at hl 0 rfl) ?_
  refine lv_iload hx hb dL_law_351 (lv_at hl 4 rfl) ?_
  refine q_iconst hx hb dL_law_353 ?_
  refine q_iadd hx hb dL_law_354 ?_
  refine q_scr hB hw ⟨by omega, by omega⟩ dL_law_355 ?_
  refine lv_aload_n hx hb dL_law_356 rfl (lv_at hl 3 rfl) ?_
  have hH := c_L_limit (l := l) (D := D) (z := z) (cI := cI) (cB := cB) (cZ := cZ) (cS := cS) (cJ := cJ) (ao := ao) (W0 := (fl (BS x a b ap b2 aH aV cI cB cZ cS T C lat und pfl pln pkd pst pen per pls pss us f1 f2 f3 pf pm pt pl pw w1 w2 w3 w4 w5 w6 hn svd bf y0 y1 y2 y3 y4 y5 y6 y7 ht cH cV))) (b0 := x 0) (f := f) ((sX xs i 1)) rfl (qH_up (l := l) (D := D) (Z := ZY z) (ty := tyG cI cB cZ cS cJ) (W9 := (fl (BS x a b ap b2 aH aV cI cB cZ cS T C lat und pfl pln pkd pst pen per pls pss us f1 f2 f3 pf pm pt pl pw w1 w2 w3 w4 w5 w6 hn svd bf y0 y1 y2 y3 y4 y5 y6 y7 ht cH cV))) (zy_ok z) (qH_P (c_X6_limit (sX xs i 1) hM.1 hM.2.2.1 h1)) _ (cs_A (x := x) (a := a) (ap := ap) (aH := aH) (aV := aV) (cI := cI) (cB := cB) (cZ := cZ) (cS := cS) (b := b) (b2 := b2) (T := T) (C := C) (cH := cH) (cV := cV) (lat := lat) (und := und) (pfl := pfl) (pln := pln) (pkd := pkd) (pst := pst) (pen := pen) (per := per) (pls := pls) (pss := pss) (us := us) (f1 := f1) (f2 := f2) (f3 := f3) (pf := pf) (pm := pm) (pt := pt) (pl := pl) (pw := pw) (w1 := w1) (w2 := w2) (w3 := w3) (w4 := w4) (w5 := w5) (w6 := w6) (hn := hn) (svd := svd) (bf := bf) (y0 := y0) (y1 := y1) (y2 := y2) (y3 := y3) (y4 := y4) (y5 := y5) (y6 := y6) (y7 := y7) (ht := ht)) (fun u _ => (cs_A (x := x) (a := a) (ap := ap) (aH := aH) (aV := aV) (cI := cI) (cB := cB) (cZ := cZ) (cS := cS) (b := b) (b2 := b2) (T := T) (C := C) (cH := cH) (cV := cV) (lat := lat) (und := und) (pfl := pfl) (pln := pln) (pkd := pkd) (pst := pst) (pen := pen) (per := per) (pls := pls) (pss := pss) (us := us) (f1 := f1) (f2 := f2) (f3 := f3) (pf := pf) (pm := pm) (pt := pt) (pl := pl) (pw := pw) (w1 := w1) (w2 := w2) (w3 := w3) (w4 := w4) (w5 := w5) (w6 := w6) (hn := hn) (svd := svd) (bf := bf) (y0 := y0) (y1 := y1) (y2 := y2) (y3 := y3) (y4 := y4) (y5 := y5) (y6 := y6) (y7 := y7) (ht := ht)).symm))
  refine q_callW (As := [.ref (x 0), .int (iI (sX xs i 1)), .ref ao]) (rest := []) (zy_ok z) hx hb hml hown hts hK hH cw_L_limit ini_L st_L_limit yw_L_limit.1 yw_L_limit.2 ml_L_94 (by rw [hR]; exact ⟨Nat.le_of_ble_eq_true rfl, Nat.le_of_ble_eq_true rfl⟩) hw hA hZ rfl rfl hl.1 (lv_room (Nat.le_of_ble_eq_true rfl)) dL_law_357 ⟨by rw [hR]; have hcs1 := hcs.1; omega, by rw [hR]; have hcs2 := hcs.2; omega⟩ (fun u H locs hu hw => ?_)
  replace hw : qw D (AL s) s.heap ((fl (BS x a b ap b2 aH aV cI cB cZ cS T C lat und pfl pln pkd pst pen per pls pss us f1 f2 f3 pf pm pt pl pw w1 w2 w3 w4 w5 w6 hn svd bf y0 y1 y2 y3 y4 y5 y6 y7 ht cH cV) ++ [outC cJ ao (vp_updL f 0 (iI (C 8 (sX xs i 1))).toInt64)]) ++ (mW g cI cB cZ th pfl tl ts te tk nu er eo hL hS und bf dr td sa ad hi sl svd tr)) H locs := hw
  refine lv_istore (lv' := [(5, .int (iI 0)), (0, .ref bb), (1, .ref (x 0)), (2, .ref (g 0)), (3, .ref ao), (4, .int (iI i))]) hx hb dL_law_360 hl (by decide) rfl (fun ls hl => ?_)
  refine lv_aload_n hx hb dL_law_362 rfl (lv_at hl 3 rfl) ?_
  refine lv_aload_n hx hb dL_law_363 rfl (lv_at hl 1 rfl) ?_
  refine lv_iload hx hb dL_law_364 (lv_at hl 5 rfl) ?_
  refine q_iconst hx hb dL_law_366 ?_
  refine q_iadd hx hb dL_law_367 ?_
  refine q_scr hB hw ⟨by omega, by omega⟩ dL_law_368 ?_
  replace hw := hw.comm
  refine q_callH (As := [.int (iI (sX xs i 1))]) (rest := []) (zy_ok z) hx hb hml hown hts hK (qH_M (c_X7_limit (sX xs i 1) hM (rg_of _))) yi_X7_limit ml_L_96 (by rw [hR]; exact ⟨Nat.le_of_ble_eq_true rfl, Nat.le_of_ble_eq_true rfl⟩) hw hA hZ 0 rfl rfl rfl rfl hl.1 (lv_room (Nat.le_of_ble_eq_true rfl)) dL_law_369 ⟨by rw [hR]; have hcs1 := hcs.1; omega, by rw [hR]; have hcs2 := hcs.2; omega⟩ (fun u H locs hu hw => ?_)
  obtain ⟨th2, r2⟩ := u
  obtain ⟨e1, e2⟩ := hu
  replace hw : qw D (AL s) s.heap ((fl (BS x a b ap b2 aH aV cI cB cZ cS T C lat und pfl pln pkd pst pen per pls pss us f1 f2 f3 pf pm pt pl pw w1 w2 w3 w4 w5 w6 hn svd bf y0 y1 y2 y3 y4 y5 y6 y7 ht cH cV) ++ [outC cJ ao (vp_updL f 0 (iI (C 8 (sX xs i 1))).toInt64)]) ++ (mW g cI cB cZ th2 pfl tl ts te tk nu er eo hL hS und bf dr td sa ad hi sl svd tr)) H locs := hw.comm
  have e3 : th2 = 0 := e1.trans (if_pos h1)
  have e4 := e2 e3
  subst e3
  subst e4
  replace hw : qw D (AL s) s.heap ((fl (BS x a b ap b2 aH aV cI cB cZ cS T C lat und pfl pln pkd pst pen per pls pss us f1 f2 f3 pf pm pt pl pw w1 w2 w3 w4 w5 w6 hn svd bf y0 y1 y2 y3 y4 y5 y6 y7 ht cH cV) ++ [outC cJ ao (vp_updL f 0 (iI (C 8 (sX xs i 1))).toInt64)]) ++ (mW g cI cB cZ 0 pfl tl ts te tk nu er eo hL hS und bf dr td sa ad hi sl svd tr)) H locs := hw
  refine lv_istore (lv' := [(6, .int (iI (C 8 (sX xs i 1)))), (5, .int (iI 0)), (0, .ref bb), (1, .ref (x 0)), (2, .ref (g 0)), (3, .ref ao), (4, .int (iI i))]) hx hb dL_law_372 hl (by decide) rfl (fun ls hl => ?_)
  refine lv_aload_n hx hb dL_law_374 rfl (lv_at hl 4 rfl) ?_
  replace hw := hw.comm
  refine q_callH (As := []) (rest := []) (zy_ok z) hx hb hml hown hts hK (qH_P c_X7_thrown) yi_X7_thrown ml_L_88 (by rw [hR]; exact ⟨Nat.le_of_ble_eq_true rfl, Nat.le_of_ble_eq_true rfl⟩) hw hA hZ 0 rfl rfl rfl rfl hl.1 (lv_room (Nat.le_of_ble_eq_true rfl)) dL_law_375 ⟨by rw [hR]; have hcs1 := hcs.1; omega, by rw [hR]; have hcs2 := hcs.2; omega⟩ (fun u H locs _ hw => ?_)
  replace hw : qw D (AL s) s.heap ((fl (BS x a b ap b2 aH aV cI cB cZ cS T C lat und pfl pln pkd pst pen per pls pss us f1 f2 f3 pf pm pt pl pw w1 w2 w3 w4 w5 w6 hn svd bf y0 y1 y2 y3 y4 y5 y6 y7 ht cH cV) ++ [outC cJ ao (vp_updL f 0 (iI (C 8 (sX xs i 1))).toInt64)]) ++ (mW g cI cB cZ 0 pfl tl ts te tk nu er eo hL hS und bf dr td sa ad hi sl svd tr)) H locs := hw.comm
  refine lv_iload hx hb dL_law_378 (lv_at hl 1 rfl) ?_
  refine q_same (tgt := 385) hx hb dL_law_380 (by decide) ?_
  refine lv_iload hx hb dL_law_385 (lv_at hl 1 rfl) ?_
  refine q_if_ne (tgt := 402) hx hb dL_law_387 (by decide) (by decide) (fun c9 => absurd rfl c9) (fun _ => ?_)
  refine lv_aload_n hx hb dL_law_390 rfl (lv_at hl 5 rfl) ?_
  refine q_iconst hx hb dL_law_391 ?_
  refine q_lald hx hb hK hw.1 (fl (BS x a b ap b2 aH aV cI cB cZ cS T C lat und pfl pln pkd pst pen per pls pss us f1 f2 f3 pf pm pt pl pw w1 w2 w3 w4 w5 w6 hn svd bf y0 y1 y2 y3 y4 y5 y6 y7 ht cH cV)).length 4 (get_mid _ _ _) rfl (vu_0 _ _) dL_law_392 ?_
  refine lv_iload hx hb dL_law_393 (lv_at hl 0 rfl) ?_
  refine lv_i2l hx hb dL_law_395 rfl ?_
  refine q_lsame (tgt := 402) hx hb dL_law_396 dL_law_397 (by decide) ?_
  refine lv_goto (tgt := 1484) hx hb dL_law_402 (by decide) ?_
  exact W_wide (Nat.le_succ _) (Nat.le_add_right _ _) (kk _ H locs ls ⟨b, b2, T, C, cH, cV, lat, und, pfl, pln, pkd, pst, pen, per, pls, pss, us, f1, f2, f3, pf, pm, pt, pl, pw, w1, w2, w3, w4, w5, w6, hn, 0, tl, ts, te, tk, nu, er, eo, hL, hS, svd, bf, y0, y1, y2, y3, y4, y5, y6, y7, ht, dr, td, sa, ad, hi, sl, tr, (vp_updL f 0 (iI (C 8 (sX xs i 1))).toInt64), ⟨hM, hFR, hby, hpf, hnu, hln, hHW, hsv, hSW⟩, rfl⟩ hw (lv_sub hl [2, 3, 4, 5, 6] rfl))

set_option maxHeartbeats 4000000 in
set_option maxRecDepth 100000 in
theorem law_limit_1 (h1 : ¬ (0 ≤ (sX xs i 1) ∧ (sX xs i 1) ≤ 3)) (hB : LB p l s m args c R z D cI cB cZ cS cJ bb L xs) (hF : LF i T C td sa hi sl svd bf pfl nu eo lat und cH cV) (hw : qw D (AL s) s.heap ((fl (BS x a b ap b2 aH aV cI cB cZ cS T C lat und pfl pln pkd pst pen per pls pss us f1 f2 f3 pf pm pt pl pw w1 w2 w3 w4 w5 w6 hn svd bf y0 y1 y2 y3 y4 y5 y6 y7 ht cH cV) ++ [outC cJ ao f]) ++ (mW g cI cB cZ th pfl tl ts te tk nu er eo hL hS und bf dr td sa ad hi sl svd tr)) H locs) (hl : lv_has ls 9 (lv5 x g ao bb i)) (hrn : 0 ≤ i ∧ i + 6 ≤ (L : Int)) (hcs : cells + 1 ≤ room_1.cells ∧ slots + 6 ≤ room_1.slots) (kk : ∀ (ws1 : va_W) (H1 : Heap) (locs1 : List Loc) (ls1 : Array Slot), LI x a ap aH aV g ao cI cB cZ cS cJ (i + 6) ws1 → qw D (AL s) s.heap ws1 H1 locs1 → lv_has ls1 9 (lv5 x g ao bb i) → W p l e R s m args below meth c H1 locs1 (cells + 1) (slots + 6) Q (F0 m 1484 ls1 [])) : W p l e R s m args below meth c H locs cells slots Q (F0 m 349 ls []) := by
  have hB0 := hB
  obtain ⟨⟨hx, hb, hml, hown, hts, hK⟩, hR, hZ, hst, hX, hbl, hL9⟩ := hB0
  obtain ⟨hM, hFR, hby, hpf, hnu, hla, hHW, hsv, hSW⟩ := hF
  have hlc : 0 ≤ lat ∧ lat ≤ 1000000 ∧ 0 ≤ und ∧ und ≤ 10 := by omega
  have hln : und ≤ lat ∧ lat ≤ i + 6 ∧ 0 ≤ und ∧ und ≤ 10 := by omega
  have hA : ∀ q : Nat, s.heap.size ≤ q → AL s q := fun q h => h
  have hl : lv_has ls 9 [(0, .ref bb), (1, .ref (x 0)), (2, .ref (g 0)), (3, .ref ao), (4, .int (iI i))] := hl
  refine lv_aload_n hx hb dL_law_349 rfl (lv_at hl 1 rfl) ?_
  refine lv_aload_n hx hb dL_law_350 rfl (lv_at hl 0 rfl) ?_
  refine lv_iload hx hb dL_law_351 (lv_at hl 4 rfl) ?_
  refine q_iconst hx hb dL_law_353 ?_
  refine q_iadd hx hb dL_law_354 ?_
  refine q_scr hB hw ⟨by omega, by omega⟩ dL_law_355 ?_
  refine lv_aload_n hx hb dL_law_356 rfl (lv_at hl 3 rfl) ?_
  have hH := c_L_limit_x1 (l := l) (D := D) (z := z) (cI := cI) (cB := cB) (cZ := cZ) (cS := cS) (cJ := cJ) (ao := ao) (W0 := (fl (BS x a b ap b2 aH aV cI cB cZ cS T C lat und pfl pln pkd pst pen per pls pss us f1 f2 f3 pf pm pt pl pw w1 w2 w3 w4 w5 w6 hn svd bf y0 y1 y2 y3 y4 y5 y6 y7 ht cH cV))) (b0 := x 0) (f := f) ((sX xs i 1)) rfl (qT_up (l := l) (D := D) (Z := ZY z) (ty := tyG cI cB cZ cS cJ) (W9 := (fl (BS x a b ap b2 aH aV cI cB cZ cS T C lat und pfl pln pkd pst pen per pls pss us f1 f2 f3 pf pm pt pl pw w1 w2 w3 w4 w5 w6 hn svd bf y0 y1 y2 y3 y4 y5 y6 y7 ht cH cV))) (zy_ok z) (c_X6_limit_x (sX xs i 1) hM.1 hM.2.2.1 hst (rg_of _) (h1)) _ cs_U)
  refine q_callW (As := [.ref (x 0), .int (iI (sX xs i 1)), .ref ao]) (rest := []) (zy_ok z) hx hb hml hown hts hK hH cw_L_limit ini_L st_L_limit yw_L_limit.1 yw_L_limit.2 ml_L_94 (by rw [hR]; exact ⟨Nat.le_of_ble_eq_true rfl, Nat.le_of_ble_eq_true rfl⟩) hw hA hZ rfl rfl hl.1 (lv_room (Nat.le_of_ble_eq_true rfl)) dL_law_357 ⟨by rw [hR]; have hcs1 := hcs.1; omega, by rw [hR]; have hcs2 := hcs.2; omega⟩ (fun u H locs hu hw => ?_)
  replace hw : qw D (AL s) s.heap ((fl (BS x a b ap b2 aH aV cI cB cZ cS T C lat und pfl pln pkd pst pen per pls pss us f1 f2 f3 pf pm pt pl pw w1 w2 w3 w4 w5 w6 hn svd bf y0 y1 y2 y3 y4 y5 y6 y7 ht cH cV) ++ [outC cJ ao f]) ++ (mW g cI cB cZ th pfl tl ts te tk nu er eo hL hS und bf dr td sa ad hi sl svd tr)) H locs := hw
  refine lv_istore (lv' := [(5, .int (iI 1)), (0, .ref bb), (1, .ref (x 0)), (2, .ref (g 0)), (3, .ref ao), (4, .int (iI i))]) hx hb dL_law_360 hl (by decide) rfl (fun ls hl => ?_)
  refine lv_aload_n hx hb dL_law_362 rfl (lv_at hl 3 rfl) ?_
  refine lv_aload_n hx hb dL_law_363 rfl (lv_at hl 1 rfl) ?_
  refine lv_iload hx hb dL_law_364 (lv_at hl 5 rfl) ?_
  refine q_iconst hx hb dL_law_366 ?_
  refine q_iadd hx hb dL_law_367 ?_
  refine q_scr hB hw ⟨by omega, by omega⟩ dL_law_368 ?_
  replace hw := hw.comm
  refine q_callH (As := [.int (iI (sX xs i 1))]) (rest := []) (zy_ok z) hx hb hml hown hts hK (qH_M (c_X7_limit (sX xs i 1) hM (rg_of _))) yi_X7_limit ml_L_96 (by rw [hR]; exact ⟨Nat.le_of_ble_eq_true rfl, Nat.le_of_ble_eq_true rfl⟩) hw hA hZ 0 rfl rfl rfl rfl hl.1 (lv_room (Nat.le_of_ble_eq_true rfl)) dL_law_369 ⟨by rw [hR]; have hcs1 := hcs.1; omega, by rw [hR]; have hcs2 := hcs.2; omega⟩ (fun u H locs hu hw => ?_)
  obtain ⟨th2, r2⟩ := u
  obtain ⟨e1, e2⟩ := hu
  replace hw : qw D (AL s) s.heap ((fl (BS x a b ap b2 aH aV cI cB cZ cS T C lat und pfl pln pkd pst pen per pls pss us f1 f2 f3 pf pm pt pl pw w1 w2 w3 w4 w5 w6 hn svd bf y0 y1 y2 y3 y4 y5 y6 y7 ht cH cV) ++ [outC cJ ao f]) ++ (mW g cI cB cZ th2 pfl tl ts te tk nu er eo hL hS und bf dr td sa ad hi sl svd tr)) H locs := hw.comm
  have e3 : th2 = 1 := e1.trans (if_neg h1)
  subst e3
  replace hw : qw D (AL s) s.heap ((fl (BS x a b ap b2 aH aV cI cB cZ cS T C lat und pfl pln pkd pst pen per pls pss us f1 f2 f3 pf pm pt pl pw w1 w2 w3 w4 w5 w6 hn svd bf y0 y1 y2 y3 y4 y5 y6 y7 ht cH cV) ++ [outC cJ ao f]) ++ (mW g cI cB cZ 1 pfl tl ts te tk nu er eo hL hS und bf dr td sa ad hi sl svd tr)) H locs := hw
  refine lv_istore (lv' := [(6, .int (iI r2)), (5, .int (iI 1)), (0, .ref bb), (1, .ref (x 0)), (2, .ref (g 0)), (3, .ref ao), (4, .int (iI i))]) hx hb dL_law_372 hl (by decide) rfl (fun ls hl => ?_)
  refine lv_aload_n hx hb dL_law_374 rfl (lv_at hl 4 rfl) ?_
  replace hw := hw.comm
  refine q_callH (As := []) (rest := []) (zy_ok z) hx hb hml hown hts hK (qH_P c_X7_thrown) yi_X7_thrown ml_L_88 (by rw [hR]; exact ⟨Nat.le_of_ble_eq_true rfl, Nat.le_of_ble_eq_true rfl⟩) hw hA hZ 0 rfl rfl rfl rfl hl.1 (lv_room (Nat.le_of_ble_eq_true rfl)) dL_law_375 ⟨by rw [hR]; have hcs1 := hcs.1; omega, by rw [hR]; have hcs2 := hcs.2; omega⟩ (fun u H locs _ hw => ?_)
  replace hw : qw D (AL s) s.heap ((fl (BS x a b ap b2 aH aV cI cB cZ cS T C lat und pfl pln pkd pst pen per pls pss us f1 f2 f3 pf pm pt pl pw w1 w2 w3 w4 w5 w6 hn svd bf y0 y1 y2 y3 y4 y5 y6 y7 ht cH cV) ++ [outC cJ ao f]) ++ (mW g cI cB cZ 1 pfl tl ts te tk nu er eo hL hS und bf dr td sa ad hi sl svd tr)) H locs := hw.comm
  refine lv_iload hx hb dL_law_378 (lv_at hl 1 rfl) ?_
  refine q_same (tgt := 385) hx hb dL_law_380 (by decide) ?_
  refine lv_iload hx hb dL_law_385 (lv_at hl 1 rfl) ?_
  refine q_if_ne (tgt := 402) hx hb dL_law_387 (by decide) (by decide) (fun _ => ?_) (fun c9 => absurd c9 (by decide))
  refine lv_goto (tgt := 1484) hx hb dL_law_402 (by decide) ?_
  exact (kk _ H locs ls ⟨b, b2, T, C, cH, cV, lat, und, pfl, pln, pkd, pst, pen, per, pls, pss, us, f1, f2, f3, pf, pm, pt, pl, pw, w1, w2, w3, w4, w5, w6, hn, 1, tl, ts, te, tk, nu, er, eo, hL, hS, svd, bf, y0, y1, y2, y3, y4, y5, y6, y7, ht, dr, td, sa, ad, hi, sl, tr, f, ⟨hM, hFR, hby, hpf, hnu, hln, hHW, hsv, hSW⟩, rfl⟩ hw (lv_sub hl [2, 3, 4, 5, 6] rfl))

theorem law_limit (hB : LB p l s m args c R z D cI cB cZ cS cJ bb L xs) (hI : LI x a ap aH aV g ao cI cB cZ cS cJ i ws) (hw : qw D (AL s) s.heap ws H locs) (hl : lv_has ls 9 (lv5 x g ao bb i)) (hrn : 0 ≤ i ∧ i + 6 ≤ (L : Int)) (hcs : cells + 1 ≤ room_1.cells ∧ slots + 6 ≤ room_1.slots) (kk : ∀ (ws1 : va_W) (H1 : Heap) (locs1 : List Loc) (ls1 : Array Slot), LI x a ap aH aV g ao cI cB cZ cS cJ (i + 6) ws1 → qw D (AL s) s.heap ws1 H1 locs1 → lv_has ls1 9 (lv5 x g ao bb i) → W p l e R s m args below meth c H1 locs1 (cells + 1) (slots + 6) Q (F0 m 1484 ls1 [])) : W p l e R s m args below meth c H locs cells slots Q (F0 m 349 ls []) := by
  obtain ⟨b, b2, T, C, cH, cV, lat, und, pfl, pln, pkd, pst, pen, per, pls, pss, us, f1, f2, f3, pf, pm, pt, pl, pw, w1, w2, w3, w4, w5, w6, hn, th, tl, ts, te, tk, nu, er, eo, hL, hS, svd, bf, y0, y1, y2, y3, y4, y5, y6, y7, ht, dr, td, sa, ad, hi, sl, tr, f, hF, rfl⟩ := hI
  by_cases h1 : 0 ≤ (sX xs i 1) ∧ (sX xs i 1) ≤ 3
  · exact law_limit_0 h1 hB hF hw hl hrn hcs kk
  · exact law_limit_1 h1 hB hF hw hl hrn hcs kk

set_option maxHeartbeats 4000000 in
set_option maxRecDepth 100000 in
theorem law_account_0 (h1 : 0 ≤ (sX xs i 1) ∧ (sX xs i 1) ≤ 8) (hB : LB p l s m args c R z D cI cB cZ cS cJ bb L xs) (hF : LF i T C td sa hi sl svd bf pfl nu eo lat und cH cV) (hw : qw D (AL s) s.heap ((fl (BS x a b ap b2 aH aV cI cB cZ cS T C lat und pfl pln pkd pst pen per pls pss us f1 f2 f3 pf pm pt pl pw w1 w2 w3 w4 w5 w6 hn svd bf y0 y1 y2 y3 y4 y5 y6 y7 ht cH cV) ++ [outC cJ ao f]) ++ (mW g cI cB cZ th pfl tl ts te tk nu er eo hL hS und bf dr td sa ad hi sl svd tr)) H locs) (hl : lv_has ls 9 (lv5 x g ao bb i)) (hrn : 0 ≤ i ∧ i + 6 ≤ (L : Int)) (hcs : cells + 1 ≤ room_1.cells ∧ slots + 6 ≤ room_1.slots) (kk : ∀ (ws1 : va_W) (H1 : Heap) (locs1 : List Loc) (ls1 : Array Slot), LI x a ap aH aV g ao cI cB cZ cS cJ (i + 6) ws1 → qw D (AL s) s.heap ws1 H1 locs1 → lv_has ls1 9 (lv5 x g ao bb i) → W p l e R s m args below meth c H1 locs1 (cells + 1) (slots + 6) Q (F0 m 1484 ls1 [])) : W p l e R s m args below meth c H locs cells slots Q (F0 m 915 ls []) := by
  have hB0 := hB
  obtain ⟨⟨hx, hb, hml, hown, hts, hK⟩, hR, hZ, hst, hX, hbl, hL9⟩ := hB0
  obtain ⟨hM, hFR, hby, hpf, hnu, hla, hHW, hsv, hSW⟩ := hF
  have hlc : 0 ≤ lat ∧ lat ≤ 1000000 ∧ 0 ≤ und ∧ und ≤ 10 := by omega
  have hln : und ≤ lat ∧ lat ≤ i + 6 ∧ 0 ≤ und ∧ und ≤ 10 := by omega
  have hA : ∀ q : Nat, s.heap.size ≤ q → AL s q := fun q h => h
  have hl : lv_has ls 9 [(0, .ref bb), (1, .ref (x 0)), (2, .ref (g 0)), (3, .ref ao), (4, .int (iI i))] := hl
  refine lv_aload_n hx hb dL_law_915 rfl (lv_at hl 1 rfl) ?_
  refine lv_aload_n hx hb dL_law_916 rfl (lv_at hl 0 rfl) ?_
  refine lv_iload hx hb dL_law_917 (lv_at hl 4 rfl) ?_
  refine q_iconst hx hb dL_law_919 ?_
  refine q_iadd hx hb dL_law_920 ?_
  refine q_scr hB hw ⟨by omega, by omega⟩ dL_law_921 ?_
  refine lv_aload_n hx hb dL_law_922 rfl (lv_at hl 3 rfl) ?_
  have hH := c_L_account (l := l) (D := D) (z := z) (cI := cI) (cB := cB) (cZ := cZ) (cS := cS) (cJ := cJ) (ao := ao) (W0 := (fl (BS x a b ap b2 aH aV cI cB cZ cS T C lat und pfl pln pkd pst pen per pls pss us f1 f2 f3 pf pm pt pl pw w1 w2 w3 w4 w5 w6 hn svd bf y0 y1 y2 y3 y4 y5 y6 y7 ht cH cV))) (b0 := x 0) (f := f) ((sX xs i 1)) rfl (qH_up (l := l) (D := D) (Z := ZY z) (ty := tyG cI cB cZ cS cJ) (W9 := (fl (BS x a b ap b2 aH aV cI cB cZ cS T C lat und pfl pln pkd pst pen per pls pss us f1 f2 f3 pf pm pt pl pw w1 w2 w3 w4 w5 w6 hn svd bf y0 y1 y2 y3 y4 y5 y6 y7 ht cH cV))) (zy_ok z) (qH_P (c_X6_account (sX xs i 1) hM.1 hM.2.2.1 h1)) _ (cs_A (x := x) (a := a) (ap := ap) (aH := aH) (aV := aV) (cI := cI) (cB := cB) (cZ := cZ) (cS := cS) (b := b) (b2 := b2) (T := T) (C := C) (cH := cH) (cV := cV) (lat := lat) (und := und) (pfl := pfl) (pln := pln) (pkd := pkd) (pst := pst) (pen := pen) (per := per) (pls := pls) (pss := pss) (us := us) (f1 := f1) (f2 := f2) (f3 := f3) (pf := pf) (pm := pm) (pt := pt) (pl := pl) (pw := pw) (w1 := w1) (w2 := w2) (w3 := w3) (w4 := w4) (w5 := w5) (w6 := w6) (hn := hn) (svd := svd) (bf := bf) (y0 := y0) (y1 := y1) (y2 := y2) (y3 := y3) (y4 := y4) (y5 := y5) (y6 := y6) (y7 := y7) (ht := ht)) (fun u _ => (cs_A (x := x) (a := a) (ap := ap) (aH := aH) (aV := aV) (cI := cI) (cB := cB) (cZ := cZ) (cS := cS) (b := b) (b2 := b2) (T := T) (C := C) (cH := cH) (cV := cV) (lat := lat) (und := und) (pfl := pfl) (pln := pln) (pkd := pkd) (pst := pst) (pen := pen) (per := per) (pls := pls) (pss := pss) (us := us) (f1 := f1) (f2 := f2) (f3 := f3) (pf := pf) (pm := pm) (pt := pt) (pl := pl) (pw := pw) (w1 := w1) (w2 := w2) (w3 := w3) (w4 := w4) (w5 := w5) (w6 := w6) (hn := hn) (svd := svd) (bf := bf) (y0 := y0) (y1 := y1) (y2 := y2) (y3 := y3) (y4 := y4) (y5 := y5) (y6 := y6) (y7 := y7) (ht := ht)).symm))
  refine q_callW (As := [.ref (x 0), .int (iI (sX xs i 1)), .ref ao]) (rest := []) (zy_ok z) hx hb hml hown hts hK hH cw_L_account ini_L st_L_account yw_L_account.1 yw_L_account.2 ml_L_131 (by rw [hR]; exact ⟨Nat.le_of_ble_eq_true rfl, Nat.le_of_ble_eq_true rfl⟩) hw hA hZ rfl rfl hl.1 (lv_room (Nat.le_of_ble_eq_true rfl)) dL_law_923 ⟨by rw [hR]; have hcs1 := hcs.1; omega, by rw [hR]; have hcs2 := hcs.2; omega⟩ (fun u H locs hu hw => ?_)
  replace hw : qw D (AL s) s.heap ((fl (BS x a b ap b2 aH aV cI cB cZ cS T C lat und pfl pln pkd pst pen per pls pss us f1 f2 f3 pf pm pt pl pw w1 w2 w3 w4 w5 w6 hn svd bf y0 y1 y2 y3 y4 y5 y6 y7 ht cH cV) ++ [outC cJ ao (vp_updL f 0 (iI (C 9 (sX xs i 1))).toInt64)]) ++ (mW g cI cB cZ th pfl tl ts te tk nu er eo hL hS und bf dr td sa ad hi sl svd tr)) H locs := hw
  refine lv_istore (lv' := [(5, .int (iI 0)), (0, .ref bb), (1, .ref (x 0)), (2, .ref (g 0)), (3, .ref ao), (4, .int (iI i))]) hx hb dL_law_926 hl (by decide) rfl (fun ls hl => ?_)
  refine lv_aload_n hx hb dL_law_928 rfl (lv_at hl 3 rfl) ?_
  refine lv_aload_n hx hb dL_law_929 rfl (lv_at hl 1 rfl) ?_
  refine lv_iload hx hb dL_law_930 (lv_at hl 5 rfl) ?_
  refine q_iconst hx hb dL_law_932 ?_
  refine q_iadd hx hb dL_law_933 ?_
  refine q_scr hB hw ⟨by omega, by omega⟩ dL_law_934 ?_
  replace hw := hw.comm
  refine q_callH (As := [.int (iI (sX xs i 1))]) (rest := []) (zy_ok z) hx hb hml hown hts hK (qH_M (c_X7_account (sX xs i 1) hM (rg_of _))) yi_X7_account ml_L_133 (by rw [hR]; exact ⟨Nat.le_of_ble_eq_true rfl, Nat.le_of_ble_eq_true rfl⟩) hw hA hZ 0 rfl rfl rfl rfl hl.1 (lv_room (Nat.le_of_ble_eq_true rfl)) dL_law_935 ⟨by rw [hR]; have hcs1 := hcs.1; omega, by rw [hR]; have hcs2 := hcs.2; omega⟩ (fun u H locs hu hw => ?_)
  obtain ⟨th2, r2⟩ := u
  obtain ⟨e1, e2⟩ := hu
  replace hw : qw D (AL s) s.heap ((fl (BS x a b ap b2 aH aV cI cB cZ cS T C lat und pfl pln pkd pst pen per pls pss us f1 f2 f3 pf pm pt pl pw w1 w2 w3 w4 w5 w6 hn svd bf y0 y1 y2 y3 y4 y5 y6 y7 ht cH cV) ++ [outC cJ ao (vp_updL f 0 (iI (C 9 (sX xs i 1))).toInt64)]) ++ (mW g cI cB cZ th2 pfl tl ts te tk nu er eo hL hS und bf dr td sa ad hi sl svd tr)) H locs := hw.comm
  have e3 : th2 = 0 := e1.trans (if_pos h1)
  have e4 := e2 e3
  subst e3
  subst e4
  replace hw : qw D (AL s) s.heap ((fl (BS x a b ap b2 aH aV cI cB cZ cS T C lat und pfl pln pkd pst pen per pls pss us f1 f2 f3 pf pm pt pl pw w1 w2 w3 w4 w5 w6 hn svd bf y0 y1 y2 y3 y4 y5 y6 y7 ht cH cV) ++ [outC cJ ao (vp_updL f 0 (iI (C 9 (sX xs i 1))).toInt64)]) ++ (mW g cI cB cZ 0 pfl tl ts te tk nu er eo hL hS und bf dr td sa ad hi sl svd tr)) H locs := hw
  refine lv_istore (lv' := [(6, .int (iI (C 9 (sX xs i 1)))), (5, .int (iI 0)), (0, .ref bb), (1, .ref (x 0)), (2, .ref (g 0)), (3, .ref ao), (4, .int (iI i))]) hx hb dL_law_938 hl (by decide) rfl (fun ls hl => ?_)
  refine lv_aload_n hx hb dL_law_940 rfl (lv_at hl 4 rfl) ?_
  replace hw := hw.comm
  refine q_callH (As := []) (rest := []) (zy_ok z) hx hb hml hown hts hK (qH_P c_X7_thrown) yi_X7_thrown ml_L_88 (by rw [hR]; exact ⟨Nat.le_of_ble_eq_true rfl, Nat.le_of_ble_eq_true rfl⟩) hw hA hZ 0 rfl rfl rfl rfl hl.1 (lv_room (Nat.le_of_ble_eq_true rfl)) dL_law_941 ⟨by rw [hR]; have hcs1 := hcs.1; omega, by rw [hR]; have hcs2 := hcs.2; omega⟩ (fun u H locs _ hw => ?_)
  replace hw : qw D (AL s) s.heap ((fl (BS x a b ap b2 aH aV cI cB cZ cS T C lat und pfl pln pkd pst pen per pls pss us f1 f2 f3 pf pm pt pl pw w1 w2 w3 w4 w5 w6 hn svd bf y0 y1 y2 y3 y4 y5 y6 y7 ht cH cV) ++ [outC cJ ao (vp_updL f 0 (iI (C 9 (sX xs i 1))).toInt64)]) ++ (mW g cI cB cZ 0 pfl tl ts te tk nu er eo hL hS und bf dr td sa ad hi sl svd tr)) H locs := hw.comm
  refine lv_iload hx hb dL_law_944 (lv_at hl 1 rfl) ?_
  refine q_same (tgt := 951) hx hb dL_law_946 (by decide) ?_
  refine lv_iload hx hb dL_law_951 (lv_at hl 1 rfl) ?_
  refine q_if_ne (tgt := 968) hx hb dL_law_953 (by decide) (by decide) (fun c9 => absurd rfl c9) (fun _ => ?_)
  refine lv_aload_n hx hb dL_law_956 rfl (lv_at hl 5 rfl) ?_
  refine q_iconst hx hb dL_law_957 ?_
  refine q_lald hx hb hK hw.1 (fl (BS x a b ap b2 aH aV cI cB cZ cS T C lat und pfl pln pkd pst pen per pls pss us f1 f2 f3 pf pm pt pl pw w1 w2 w3 w4 w5 w6 hn svd bf y0 y1 y2 y3 y4 y5 y6 y7 ht cH cV)).length 4 (get_mid _ _ _) rfl (vu_0 _ _) dL_law_958 ?_
  refine lv_iload hx hb dL_law_959 (lv_at hl 0 rfl) ?_
  refine lv_i2l hx hb dL_law_961 rfl ?_
  refine q_lsame (tgt := 968) hx hb dL_law_962 dL_law_963 (by decide) ?_
  refine lv_goto (tgt := 1484) hx hb dL_law_968 (by decide) ?_
  exact W_wide (Nat.le_succ _) (Nat.le_add_right _ _) (kk _ H locs ls ⟨b, b2, T, C, cH, cV, lat, und, pfl, pln, pkd, pst, pen, per, pls, pss, us, f1, f2, f3, pf, pm, pt, pl, pw, w1, w2, w3, w4, w5, w6, hn, 0, tl, ts, te, tk, nu, er, eo, hL, hS, svd, bf, y0, y1, y2, y3, y4, y5, y6, y7, ht, dr, td, sa, ad, hi, sl, tr, (vp_updL f 0 (iI (C 9 (sX xs i 1))).toInt64), ⟨hM, hFR, hby, hpf, hnu, hln, hHW, hsv, hSW⟩, rfl⟩ hw (lv_sub hl [2, 3, 4, 5, 6] rfl))

set_option maxHeartbeats 4000000 in
set_option maxRecDepth 100000 in
theorem law_account_1 (h1 : ¬ (0 ≤ (sX xs i 1) ∧ (sX xs i 1) ≤ 8)) (hB : LB p l s m args c R z D cI cB cZ cS cJ bb L xs) (hF : LF i T C td sa hi sl svd bf pfl nu eo lat und cH cV) (hw : qw D (AL s) s.heap ((fl (BS x a b ap b2 aH aV cI cB cZ cS T C lat und pfl pln pkd pst pen per pls pss us f1 f2 f3 pf pm pt pl pw w1 w2 w3 w4 w5 w6 hn svd bf y0 y1 y2 y3 y4 y5 y6 y7 ht cH cV) ++ [outC cJ ao f]) ++ (mW g cI cB cZ th pfl tl ts te tk nu er eo hL hS und bf dr td sa ad hi sl svd tr)) H locs) (hl : lv_has ls 9 (lv5 x g ao bb i)) (hrn : 0 ≤ i ∧ i + 6 ≤ (L : Int)) (hcs : cells + 1 ≤ room_1.cells ∧ slots + 6 ≤ room_1.slots) (kk : ∀ (ws1 : va_W) (H1 : Heap) (locs1 : List Loc) (ls1 : Array Slot), LI x a ap aH aV g ao cI cB cZ cS cJ (i + 6) ws1 → qw D (AL s) s.heap ws1 H1 locs1 → lv_has ls1 9 (lv5 x g ao bb i) → W p l e R s m args below meth c H1 locs1 (cells + 1) (slots + 6) Q (F0 m 1484 ls1 [])) : W p l e R s m args below meth c H locs cells slots Q (F0 m 915 ls []) := by
  have hB0 := hB
  obtain ⟨⟨hx, hb, hml, hown, hts, hK⟩, hR, hZ, hst, hX, hbl, hL9⟩ := hB0
  obtain ⟨hM, hFR, hby, hpf, hnu, hla, hHW, hsv, hSW⟩ := hF
  have hlc : 0 ≤ lat ∧ lat ≤ 1000000 ∧ 0 ≤ und ∧ und ≤ 10 := by omega
  have hln : und ≤ lat ∧ lat ≤ i + 6 ∧ 0 ≤ und ∧ und ≤ 10 := by omega
  have hA : ∀ q : Nat, s.heap.size ≤ q → AL s q := fun q h => h
  have hl : lv_has ls 9 [(0, .ref bb), (1, .ref (x 0)), (2, .ref (g 0)), (3, .ref ao), (4, .int (iI i))] := hl
  refine lv_aload_n hx hb dL_law_915 rfl (lv_at hl 1 rfl) ?_
  refine lv_aload_n hx hb dL_law_916 rfl (lv_at hl 0 rfl) ?_
  refine lv_iload hx hb dL_law_917 (lv_at hl 4 rfl) ?_
  refine q_iconst hx hb dL_law_919 ?_
  refine q_iadd hx hb dL_law_920 ?_
  refine q_scr hB hw ⟨by omega, by omega⟩ dL_law_921 ?_
  refine lv_aload_n hx hb dL_law_922 rfl (lv_at hl 3 rfl) ?_
  have hH := c_L_account_x1 (l := l) (D := D) (z := z) (cI := cI) (cB := cB) (cZ := cZ) (cS := cS) (cJ := cJ) (ao := ao) (W0 := (fl (BS x a b ap b2 aH aV cI cB cZ cS T C lat und pfl pln pkd pst pen per pls pss us f1 f2 f3 pf pm pt pl pw w1 w2 w3 w4 w5 w6 hn svd bf y0 y1 y2 y3 y4 y5 y6 y7 ht cH cV))) (b0 := x 0) (f := f) ((sX xs i 1)) rfl (qT_up (l := l) (D := D) (Z := ZY z) (ty := tyG cI cB cZ cS cJ) (W9 := (fl (BS x a b ap b2 aH aV cI cB cZ cS T C lat und pfl pln pkd pst pen per pls pss us f1 f2 f3 pf pm pt pl pw w1 w2 w3 w4 w5 w6 hn svd bf y0 y1 y2 y3 y4 y5 y6 y7 ht cH cV))) (zy_ok z) (c_X6_account_x (sX xs i 1) hM.1 hM.2.2.1 hst (rg_of _) (by omega)) _ cs_U)
  refine q_callW (As := [.ref (x 0), .int (iI (sX xs i 1)), .ref ao]) (rest := []) (zy_ok z) hx hb hml hown hts hK hH cw_L_account ini_L st_L_account yw_L_account.1 yw_L_account.2 ml_L_131 (by rw [hR]; exact ⟨Nat.le_of_ble_eq_true rfl, Nat.le_of_ble_eq_true rfl⟩) hw hA hZ rfl rfl hl.1 (lv_room (Nat.le_of_ble_eq_true rfl)) dL_law_923 ⟨by rw [hR]; have hcs1 := hcs.1; omega, by rw [hR]; have hcs2 := hcs.2; omega⟩ (fun u H locs hu hw => ?_)
  replace hw : qw D (AL s) s.heap ((fl (BS x a b ap b2 aH aV cI cB cZ cS T C lat und pfl pln pkd pst pen per pls pss us f1 f2 f3 pf pm pt pl pw w1 w2 w3 w4 w5 w6 hn svd bf y0 y1 y2 y3 y4 y5 y6 y7 ht cH cV) ++ [outC cJ ao f]) ++ (mW g cI cB cZ th pfl tl ts te tk nu er eo hL hS und bf dr td sa ad hi sl svd tr)) H locs := hw
  refine lv_istore (lv' := [(5, .int (iI 1)), (0, .ref bb), (1, .ref (x 0)), (2, .ref (g 0)), (3, .ref ao), (4, .int (iI i))]) hx hb dL_law_926 hl (by decide) rfl (fun ls hl => ?_)
  refine lv_aload_n hx hb dL_law_928 rfl (lv_at hl 3 rfl) ?_
  refine lv_aload_n hx hb dL_law_929 rfl (lv_at hl 1 rfl) ?_
  refine lv_iload hx hb dL_law_930 (lv_at hl 5 rfl) ?_
  refine q_iconst hx hb dL_law_932 ?_
  refine q_iadd hx hb dL_law_933 ?_
  refine q_scr hB hw ⟨by omega, by omega⟩ dL_law_934 ?_
  replace hw := hw.comm
  refine q_callH (As := [.int (iI (sX xs i 1))]) (rest := []) (zy_ok z) hx hb hml hown hts hK (qH_M (c_X7_account (sX xs i 1) hM (rg_of _))) yi_X7_account ml_L_133 (by rw [hR]; exact ⟨Nat.le_of_ble_eq_true rfl, Nat.le_of_ble_eq_true rfl⟩) hw hA hZ 0 rfl rfl rfl rfl hl.1 (lv_room (Nat.le_of_ble_eq_true rfl)) dL_law_935 ⟨by rw [hR]; have hcs1 := hcs.1; omega, by rw [hR]; have hcs2 := hcs.2; omega⟩ (fun u H locs hu hw => ?_)
  obtain ⟨th2, r2⟩ := u
  obtain ⟨e1, e2⟩ := hu
  replace hw : qw D (AL s) s.heap ((fl (BS x a b ap b2 aH aV cI cB cZ cS T C lat und pfl pln pkd pst pen per pls pss us f1 f2 f3 pf pm pt pl pw w1 w2 w3 w4 w5 w6 hn svd bf y0 y1 y2 y3 y4 y5 y6 y7 ht cH cV) ++ [outC cJ ao f]) ++ (mW g cI cB cZ th2 pfl tl ts te tk nu er eo hL hS und bf dr td sa ad hi sl svd tr)) H locs := hw.comm
  have e3 : th2 = 1 := e1.trans (if_neg h1)
  subst e3
  replace hw : qw D (AL s) s.heap ((fl (BS x a b ap b2 aH aV cI cB cZ cS T C lat und pfl pln pkd pst pen per pls pss us f1 f2 f3 pf pm pt pl pw w1 w2 w3 w4 w5 w6 hn svd bf y0 y1 y2 y3 y4 y5 y6 y7 ht cH cV) ++ [outC cJ ao f]) ++ (mW g cI cB cZ 1 pfl tl ts te tk nu er eo hL hS und bf dr td sa ad hi sl svd tr)) H locs := hw
  refine lv_istore (lv' := [(6, .int (iI r2)), (5, .int (iI 1)), (0, .ref bb), (1, .ref (x 0)), (2, .ref (g 0)), (3, .ref ao), (4, .int (iI i))]) hx hb dL_law_938 hl (by decide) rfl (fun ls hl => ?_)
  refine lv_aload_n hx hb dL_law_940 rfl (lv_at hl 4 rfl) ?_
  replace hw := hw.comm
  refine q_callH (As := []) (rest := []) (zy_ok z) hx hb hml hown hts hK (qH_P c_X7_thrown) yi_X7_thrown ml_L_88 (by rw [hR]; exact ⟨Nat.le_of_ble_eq_true rfl, Nat.le_of_ble_eq_true rfl⟩) hw hA hZ 0 rfl rfl rfl rfl hl.1 (lv_room (Nat.le_of_ble_eq_true rfl)) dL_law_941 ⟨by rw [hR]; have hcs1 := hcs.1; omega, by rw [hR]; have hcs2 := hcs.2; omega⟩ (fun u H locs _ hw => ?_)
  replace hw : qw D (AL s) s.heap ((fl (BS x a b ap b2 aH aV cI cB cZ cS T C lat und pfl pln pkd pst pen per pls pss us f1 f2 f3 pf pm pt pl pw w1 w2 w3 w4 w5 w6 hn svd bf y0 y1 y2 y3 y4 y5 y6 y7 ht cH cV) ++ [outC cJ ao f]) ++ (mW g cI cB cZ 1 pfl tl ts te tk nu er eo hL hS und bf dr td sa ad hi sl svd tr)) H locs := hw.comm
  refine lv_iload hx hb dL_law_944 (lv_at hl 1 rfl) ?_
  refine q_same (tgt := 951) hx hb dL_law_946 (by decide) ?_
  refine lv_iload hx hb dL_law_951 (lv_at hl 1 rfl) ?_
  refine q_if_ne (tgt := 968) hx hb dL_law_953 (by decide) (by decide) (fun _ => ?_) (fun c9 => absurd c9 (by decide))
  refine lv_goto (tgt := 1484) hx hb dL_law_968 (by decide) ?_
  exact (kk _ H locs ls ⟨b, b2, T, C, cH, cV, lat, und, pfl, pln, pkd, pst, pen, per, pls, pss, us, f1, f2, f3, pf, pm, pt, pl, pw, w1, w2, w3, w4, w5, w6, hn, 1, tl, ts, te, tk, nu, er, eo, hL, hS, svd, bf, y0, y1, y2, y3, y4, y5, y6, y7, ht, dr, td, sa, ad, hi, sl, tr, f, ⟨hM, hFR, hby, hpf, hnu, hln, hHW, hsv, hSW⟩, rfl⟩ hw (lv_sub hl [2, 3, 4, 5, 6] rfl))

theorem law_account (hB : LB p l s m args c R z D cI cB cZ cS cJ bb L xs) (hI : LI x a ap aH aV g ao cI cB cZ cS cJ i ws) (hw : qw D (AL s) s.heap ws H locs) (hl : lv_has ls 9 (lv5 x g ao bb i)) (hrn : 0 ≤ i ∧ i + 6 ≤ (L : Int)) (hcs : cells + 1 ≤ room_1.cells ∧ slots + 6 ≤ room_1.slots) (kk : ∀ (ws1 : va_W) (H1 : Heap) (locs1 : List Loc) (ls1 : Array Slot), LI x a ap aH aV g ao cI cB cZ cS cJ (i + 6) ws1 → qw D (AL s) s.heap ws1 H1 locs1 → lv_has ls1 9 (lv5 x g ao bb i) → W p l e R s m args below meth c H1 locs1 (cells + 1) (slots + 6) Q (F0 m 1484 ls1 [])) : W p l e R s m args below meth c H locs cells slots Q (F0 m 915 ls []) := by
  obtain ⟨b, b2, T, C, cH, cV, lat, und, pfl, pln, pkd, pst, pen, per, pls, pss, us, f1, f2, f3, pf, pm, pt, pl, pw, w1, w2, w3, w4, w5, w6, hn, th, tl, ts, te, tk, nu, er, eo, hL, hS, svd, bf, y0, y1, y2, y3, y4, y5, y6, y7, ht, dr, td, sa, ad, hi, sl, tr, f, hF, rfl⟩ := hI
  by_cases h1 : 0 ≤ (sX xs i 1) ∧ (sX xs i 1) ≤ 8
  · exact law_account_0 h1 hB hF hw hl hrn hcs kk
  · exact law_account_1 h1 hB hF hw hl hrn hcs kk

set_option maxHeartbeats 4000000 in
set_option maxRecDepth 100000 in
theorem law_sheetsAt_0 (h1 : 0 ≤ (sX xs i 1) ∧ (sX xs i 1) ≤ 6) (hB : LB p l s m args c R z D cI cB cZ cS cJ bb L xs) (hF : LF i T C td sa hi sl svd bf pfl nu eo lat und cH cV) (hw : qw D (AL s) s.heap ((fl (BS x a b ap b2 aH aV cI cB cZ cS T C lat und pfl pln pkd pst pen per pls pss us f1 f2 f3 pf pm pt pl pw w1 w2 w3 w4 w5 w6 hn svd bf y0 y1 y2 y3 y4 y5 y6 y7 ht cH cV) ++ [outC cJ ao f]) ++ (mW g cI cB cZ th pfl tl ts te tk nu er eo hL hS und bf dr td sa ad hi sl svd tr)) H locs) (hl : lv_has ls 9 (lv5 x g ao bb i)) (hrn : 0 ≤ i ∧ i + 6 ≤ (L : Int)) (hcs : cells + 1 ≤ room_1.cells ∧ slots + 6 ≤ room_1.slots) (kk : ∀ (ws1 : va_W) (H1 : Heap) (locs1 : List Loc) (ls1 : Array Slot), LI x a ap aH aV g ao cI cB cZ cS cJ (i + 6) ws1 → qw D (AL s) s.heap ws1 H1 locs1 → lv_has ls1 9 (lv5 x g ao bb i) → W p l e R s m args below meth c H1 locs1 (cells + 1) (slots + 6) Q (F0 m 1484 ls1 [])) : W p l e R s m args below meth c H locs cells slots Q (F0 m 971 ls []) := by
  have hB0 := hB
  obtain ⟨⟨hx, hb, hml, hown, hts, hK⟩, hR, hZ, hst, hX, hbl, hL9⟩ := hB0
  obtain ⟨hM, hFR, hby, hpf, hnu, hla, hHW, hsv, hSW⟩ := hF
  have hlc : 0 ≤ lat ∧ lat ≤ 1000000 ∧ 0 ≤ und ∧ und ≤ 10 := by omega
  have hln : und ≤ lat ∧ lat ≤ i + 6 ∧ 0 ≤ und ∧ und ≤ 10 := by omega
  have hA : ∀ q : Nat, s.heap.size ≤ q → AL s q := fun q h => h
  have hl : lv_has ls 9 [(0, .ref bb), (1, .ref (x 0)), (2, .ref (g 0)), (3, .ref ao), (4, .int (iI i))] := hl
  refine lv_aload_n hx hb dL_law_971 rfl (lv_at hl 1 rfl) ?_
  refine lv_aload_n hx hb dL_law_972 rfl (lv_at hl 0 rfl) ?_
  refine lv_iload hx hb dL_law_973 (lv_at hl 4 rfl) ?_
  refine q_iconst hx hb dL_law_975 ?_
  refine q_iadd hx hb dL_law_976 ?_
  refine q_scr hB hw ⟨by omega, by omega⟩ dL_law_977 ?_
  refine lv_aload_n hx hb dL_law_978 rfl (lv_at hl 3 rfl) ?_
  have hH := c_L_sheetsAt (l := l) (D := D) (z := z) (cI := cI) (cB := cB) (cZ := cZ) (cS := cS) (cJ := cJ) (ao := ao) (W0 := (fl (BS x a b ap b2 aH aV cI cB cZ cS T C lat und pfl pln pkd pst pen per pls pss us f1 f2 f3 pf pm pt pl pw w1 w2 w3 w4 w5 w6 hn svd bf y0 y1 y2 y3 y4 y5 y6 y7 ht cH cV))) (b0 := x 0) (f := f) ((sX xs i 1)) rfl (qH_up (l := l) (D := D) (Z := ZY z) (ty := tyG cI cB cZ cS cJ) (W9 := (fl (BS x a b ap b2 aH aV cI cB cZ cS T C lat und pfl pln pkd pst pen per pls pss us f1 f2 f3 pf pm pt pl pw w1 w2 w3 w4 w5 w6 hn svd bf y0 y1 y2 y3 y4 y5 y6 y7 ht cH cV))) (zy_ok z) (qH_P (c_X6_sheetsAt (sX xs i 1) hM.1 hM.2.2.1 h1)) _ (cs_A (x := x) (a := a) (ap := ap) (aH := aH) (aV := aV) (cI := cI) (cB := cB) (cZ := cZ) (cS := cS) (b := b) (b2 := b2) (T := T) (C := C) (cH := cH) (cV := cV) (lat := lat) (und := und) (pfl := pfl) (pln := pln) (pkd := pkd) (pst := pst) (pen := pen) (per := per) (pls := pls) (pss := pss) (us := us) (f1 := f1) (f2 := f2) (f3 := f3) (pf := pf) (pm := pm) (pt := pt) (pl := pl) (pw := pw) (w1 := w1) (w2 := w2) (w3 := w3) (w4 := w4) (w5 := w5) (w6 := w6) (hn := hn) (svd := svd) (bf := bf) (y0 := y0) (y1 := y1) (y2 := y2) (y3 := y3) (y4 := y4) (y5 := y5) (y6 := y6) (y7 := y7) (ht := ht)) (fun u _ => (cs_A (x := x) (a := a) (ap := ap) (aH := aH) (aV := aV) (cI := cI) (cB := cB) (cZ := cZ) (cS := cS) (b := b) (b2 := b2) (T := T) (C := C) (cH := cH) (cV := cV) (lat := lat) (und := und) (pfl := pfl) (pln := pln) (pkd := pkd) (pst := pst) (pen := pen) (per := per) (pls := pls) (pss := pss) (us := us) (f1 := f1) (f2 := f2) (f3 := f3) (pf := pf) (pm := pm) (pt := pt) (pl := pl) (pw := pw) (w1 := w1) (w2 := w2) (w3 := w3) (w4 := w4) (w5 := w5) (w6 := w6) (hn := hn) (svd := svd) (bf := bf) (y0 := y0) (y1 := y1) (y2 := y2) (y3 := y3) (y4 := y4) (y5 := y5) (y6 := y6) (y7 := y7) (ht := ht)).symm))
  refine q_callW (As := [.ref (x 0), .int (iI (sX xs i 1)), .ref ao]) (rest := []) (zy_ok z) hx hb hml hown hts hK hH cw_L_sheetsAt ini_L st_L_sheetsAt yw_L_sheetsAt.1 yw_L_sheetsAt.2 ml_L_134 (by rw [hR]; exact ⟨Nat.le_of_ble_eq_true rfl, Nat.le_of_ble_eq_true rfl⟩) hw hA hZ rfl rfl hl.1 (lv_room (Nat.le_of_ble_eq_true rfl)) dL_law_979 ⟨by rw [hR]; have hcs1 := hcs.1; omega, by rw [hR]; have hcs2 := hcs.2; omega⟩ (fun u H locs hu hw => ?_)
  replace hw : qw D (AL s) s.heap ((fl (BS x a b ap b2 aH aV cI cB cZ cS T C lat und pfl pln pkd pst pen per pls pss us f1 f2 f3 pf pm pt pl pw w1 w2 w3 w4 w5 w6 hn svd bf y0 y1 y2 y3 y4 y5 y6 y7 ht cH cV) ++ [outC cJ ao (vp_updL f 0 (iI (watV T C (sX xs i 1))).toInt64)]) ++ (mW g cI cB cZ th pfl tl ts te tk nu er eo hL hS und bf dr td sa ad hi sl svd tr)) H locs := hw
  refine lv_istore (lv' := [(5, .int (iI 0)), (0, .ref bb), (1, .ref (x 0)), (2, .ref (g 0)), (3, .ref ao), (4, .int (iI i))]) hx hb dL_law_982 hl (by decide) rfl (fun ls hl => ?_)
  refine lv_aload_n hx hb dL_law_984 rfl (lv_at hl 3 rfl) ?_
  refine lv_aload_n hx hb dL_law_985 rfl (lv_at hl 1 rfl) ?_
  refine lv_iload hx hb dL_law_986 (lv_at hl 5 rfl) ?_
  refine q_iconst hx hb dL_law_988 ?_
  refine q_iadd hx hb dL_law_989 ?_
  refine q_scr hB hw ⟨by omega, by omega⟩ dL_law_990 ?_
  replace hw := hw.comm
  refine q_callH (As := [.int (iI (sX xs i 1))]) (rest := []) (zy_ok z) hx hb hml hown hts hK (qH_M (c_X7_sheetsAt (sX xs i 1) hM (rg_of _))) yi_X7_sheetsAt ml_L_136 (by rw [hR]; exact ⟨Nat.le_of_ble_eq_true rfl, Nat.le_of_ble_eq_true rfl⟩) hw hA hZ 0 rfl rfl rfl rfl hl.1 (lv_room (Nat.le_of_ble_eq_true rfl)) dL_law_991 ⟨by rw [hR]; have hcs1 := hcs.1; omega, by rw [hR]; have hcs2 := hcs.2; omega⟩ (fun u H locs hu hw => ?_)
  obtain ⟨th2, r2⟩ := u
  obtain ⟨e1, e2⟩ := hu
  replace hw : qw D (AL s) s.heap ((fl (BS x a b ap b2 aH aV cI cB cZ cS T C lat und pfl pln pkd pst pen per pls pss us f1 f2 f3 pf pm pt pl pw w1 w2 w3 w4 w5 w6 hn svd bf y0 y1 y2 y3 y4 y5 y6 y7 ht cH cV) ++ [outC cJ ao (vp_updL f 0 (iI (watV T C (sX xs i 1))).toInt64)]) ++ (mW g cI cB cZ th2 pfl tl ts te tk nu er eo hL hS und bf dr td sa ad hi sl svd tr)) H locs := hw.comm
  have e3 : th2 = 0 := e1.trans (if_pos h1)
  have e4 := e2 e3
  subst e3
  subst e4
  replace hw : qw D (AL s) s.heap ((fl (BS x a b ap b2 aH aV cI cB cZ cS T C lat und pfl pln pkd pst pen per pls pss us f1 f2 f3 pf pm pt pl pw w1 w2 w3 w4 w5 w6 hn svd bf y0 y1 y2 y3 y4 y5 y6 y7 ht cH cV) ++ [outC cJ ao (vp_updL f 0 (iI (watV T C (sX xs i 1))).toInt64)]) ++ (mW g cI cB cZ 0 pfl tl ts te tk nu er eo hL hS und bf dr td sa ad hi sl svd tr)) H locs := hw
  refine lv_istore (lv' := [(6, .int (iI (watV T C (sX xs i 1)))), (5, .int (iI 0)), (0, .ref bb), (1, .ref (x 0)), (2, .ref (g 0)), (3, .ref ao), (4, .int (iI i))]) hx hb dL_law_994 hl (by decide) rfl (fun ls hl => ?_)
  refine lv_aload_n hx hb dL_law_996 rfl (lv_at hl 4 rfl) ?_
  replace hw := hw.comm
  refine q_callH (As := []) (rest := []) (zy_ok z) hx hb hml hown hts hK (qH_P c_X7_thrown) yi_X7_thrown ml_L_88 (by rw [hR]; exact ⟨Nat.le_of_ble_eq_true rfl, Nat.le_of_ble_eq_true rfl⟩) hw hA hZ 0 rfl rfl rfl rfl hl.1 (lv_room (Nat.le_of_ble_eq_true rfl)) dL_law_997 ⟨by rw [hR]; have hcs1 := hcs.1; omega, by rw [hR]; have hcs2 := hcs.2; omega⟩ (fun u H locs _ hw => ?_)
  replace hw : qw D (AL s) s.heap ((fl (BS x a b ap b2 aH aV cI cB cZ cS T C lat und pfl pln pkd pst pen per pls pss us f1 f2 f3 pf pm pt pl pw w1 w2 w3 w4 w5 w6 hn svd bf y0 y1 y2 y3 y4 y5 y6 y7 ht cH cV) ++ [outC cJ ao (vp_updL f 0 (iI (watV T C (sX xs i 1))).toInt64)]) ++ (mW g cI cB cZ 0 pfl tl ts te tk nu er eo hL hS und bf dr td sa ad hi sl svd tr)) H locs := hw.comm
  refine lv_iload hx hb dL_law_1000 (lv_at hl 1 rfl) ?_
  refine q_same (tgt := 1007) hx hb dL_law_1002 (by decide) ?_
  refine lv_iload hx hb dL_law_1007 (lv_at hl 1 rfl) ?_
  refine q_if_ne (tgt := 1024) hx hb dL_law_1009 (by decide) (by decide) (fun c9 => absurd rfl c9) (fun _ => ?_)
  refine lv_aload_n hx hb dL_law_1012 rfl (lv_at hl 5 rfl) ?_
  refine q_iconst hx hb dL_law_1013 ?_
  refine q_lald hx hb hK hw.1 (fl (BS x a b ap b2 aH aV cI cB cZ cS T C lat und pfl pln pkd pst pen per pls pss us f1 f2 f3 pf pm pt pl pw w1 w2 w3 w4 w5 w6 hn svd bf y0 y1 y2 y3 y4 y5 y6 y7 ht cH cV)).length 4 (get_mid _ _ _) rfl (vu_0 _ _) dL_law_1014 ?_
  refine lv_iload hx hb dL_law_1015 (lv_at hl 0 rfl) ?_
  refine lv_i2l hx hb dL_law_1017 rfl ?_
  refine q_lsame (tgt := 1024) hx hb dL_law_1018 dL_law_1019 (by decide) ?_
  refine lv_goto (tgt := 1484) hx hb dL_law_1024 (by decide) ?_
  exact W_wide (Nat.le_succ _) (Nat.le_add_right _ _) (kk _ H locs ls ⟨b, b2, T, C, cH, cV, lat, und, pfl, pln, pkd, pst, pen, per, pls, pss, us, f1, f2, f3, pf, pm, pt, pl, pw, w1, w2, w3, w4, w5, w6, hn, 0, tl, ts, te, tk, nu, er, eo, hL, hS, svd, bf, y0, y1, y2, y3, y4, y5, y6, y7, ht, dr, td, sa, ad, hi, sl, tr, (vp_updL f 0 (iI (watV T C (sX xs i 1))).toInt64), ⟨hM, hFR, hby, hpf, hnu, hln, hHW, hsv, hSW⟩, rfl⟩ hw (lv_sub hl [2, 3, 4, 5, 6] rfl))

set_option maxHeartbeats 4000000 in
set_option maxRecDepth 100000 in
theorem law_sheetsAt_1 (h1 : ¬ (0 ≤ (sX xs i 1) ∧ (sX xs i 1) ≤ 6)) (hB : LB p l s m args c R z D cI cB cZ cS cJ bb L xs) (hF : LF i T C td sa hi sl svd bf pfl nu eo lat und cH cV) (hw : qw D (AL s) s.heap ((fl (BS x a b ap b2 aH aV cI cB cZ cS T C lat und pfl pln pkd pst pen per pls pss us f1 f2 f3 pf pm pt pl pw w1 w2 w3 w4 w5 w6 hn svd bf y0 y1 y2 y3 y4 y5 y6 y7 ht cH cV) ++ [outC cJ ao f]) ++ (mW g cI cB cZ th pfl tl ts te tk nu er eo hL hS und bf dr td sa ad hi sl svd tr)) H locs) (hl : lv_has ls 9 (lv5 x g ao bb i)) (hrn : 0 ≤ i ∧ i + 6 ≤ (L : Int)) (hcs : cells + 1 ≤ room_1.cells ∧ slots + 6 ≤ room_1.slots) (kk : ∀ (ws1 : va_W) (H1 : Heap) (locs1 : List Loc) (ls1 : Array Slot), LI x a ap aH aV g ao cI cB cZ cS cJ (i + 6) ws1 → qw D (AL s) s.heap ws1 H1 locs1 → lv_has ls1 9 (lv5 x g ao bb i) → W p l e R s m args below meth c H1 locs1 (cells + 1) (slots + 6) Q (F0 m 1484 ls1 [])) : W p l e R s m args below meth c H locs cells slots Q (F0 m 971 ls []) := by
  have hB0 := hB
  obtain ⟨⟨hx, hb, hml, hown, hts, hK⟩, hR, hZ, hst, hX, hbl, hL9⟩ := hB0
  obtain ⟨hM, hFR, hby, hpf, hnu, hla, hHW, hsv, hSW⟩ := hF
  have hlc : 0 ≤ lat ∧ lat ≤ 1000000 ∧ 0 ≤ und ∧ und ≤ 10 := by omega
  have hln : und ≤ lat ∧ lat ≤ i + 6 ∧ 0 ≤ und ∧ und ≤ 10 := by omega
  have hA : ∀ q : Nat, s.heap.size ≤ q → AL s q := fun q h => h
  have hl : lv_has ls 9 [(0, .ref bb), (1, .ref (x 0)), (2, .ref (g 0)), (3, .ref ao), (4, .int (iI i))] := hl
  refine lv_aload_n hx hb dL_law_971 rfl (lv_at hl 1 rfl) ?_
  refine lv_aload_n hx hb dL_law_972 rfl (lv_at hl 0 rfl) ?_
  refine lv_iload hx hb dL_law_973 (lv_at hl 4 rfl) ?_
  refine q_iconst hx hb dL_law_975 ?_
  refine q_iadd hx hb dL_law_976 ?_
  refine q_scr hB hw ⟨by omega, by omega⟩ dL_law_977 ?_
  refine lv_aload_n hx hb dL_law_978 rfl (lv_at hl 3 rfl) ?_
  have hH := c_L_sheetsAt_x1 (l := l) (D := D) (z := z) (cI := cI) (cB := cB) (cZ := cZ) (cS := cS) (cJ := cJ) (ao := ao) (W0 := (fl (BS x a b ap b2 aH aV cI cB cZ cS T C lat und pfl pln pkd pst pen per pls pss us f1 f2 f3 pf pm pt pl pw w1 w2 w3 w4 w5 w6 hn svd bf y0 y1 y2 y3 y4 y5 y6 y7 ht cH cV))) (b0 := x 0) (f := f) ((sX xs i 1)) rfl (qT_up (l := l) (D := D) (Z := ZY z) (ty := tyG cI cB cZ cS cJ) (W9 := (fl (BS x a b ap b2 aH aV cI cB cZ cS T C lat und pfl pln pkd pst pen per pls pss us f1 f2 f3 pf pm pt pl pw w1 w2 w3 w4 w5 w6 hn svd bf y0 y1 y2 y3 y4 y5 y6 y7 ht cH cV))) (zy_ok z) (c_X6_sheetsAt_x (sX xs i 1) hM.1 hM.2.2.1 hst (rg_of _) (h1)) _ cs_U)
  refine q_callW (As := [.ref (x 0), .int (iI (sX xs i 1)), .ref ao]) (rest := []) (zy_ok z) hx hb hml hown hts hK hH cw_L_sheetsAt ini_L st_L_sheetsAt yw_L_sheetsAt.1 yw_L_sheetsAt.2 ml_L_134 (by rw [hR]; exact ⟨Nat.le_of_ble_eq_true rfl, Nat.le_of_ble_eq_true rfl⟩) hw hA hZ rfl rfl hl.1 (lv_room (Nat.le_of_ble_eq_true rfl)) dL_law_979 ⟨by rw [hR]; have hcs1 := hcs.1; omega, by rw [hR]; have hcs2 := hcs.2; omega⟩ (fun u H locs hu hw => ?_)
  replace hw : qw D (AL s) s.heap ((fl (BS x a b ap b2 aH aV cI cB cZ cS T C lat und pfl pln pkd pst pen per pls pss us f1 f2 f3 pf pm pt pl pw w1 w2 w3 w4 w5 w6 hn svd bf y0 y1 y2 y3 y4 y5 y6 y7 ht cH cV) ++ [outC cJ ao f]) ++ (mW g cI cB cZ th pfl tl ts te tk nu er eo hL hS und bf dr td sa ad hi sl svd tr)) H locs := hw
  refine lv_istore (lv' := [(5, .int (iI 1)), (0, .ref bb), (1, .ref (x 0)), (2, .ref (g 0)), (3, .ref ao), (4, .int (iI i))]) hx hb dL_law_982 hl (by decide) rfl (fun ls hl => ?_)
  refine lv_aload_n hx hb dL_law_984 rfl (lv_at hl 3 rfl) ?_
  refine lv_aload_n hx hb dL_law_985 rfl (lv_at hl 1 rfl) ?_
  refine lv_iload hx hb dL_law_986 (lv_at hl 5 rfl) ?_
  refine q_iconst hx hb dL_law_988 ?_
  refine q_iadd hx hb dL_law_989 ?_
  refine q_scr hB hw ⟨by omega, by omega⟩ dL_law_990 ?_
  replace hw := hw.comm
  refine q_callH (As := [.int (iI (sX xs i 1))]) (rest := []) (zy_ok z) hx hb hml hown hts hK (qH_M (c_X7_sheetsAt (sX xs i 1) hM (rg_of _))) yi_X7_sheetsAt ml_L_136 (by rw [hR]; exact ⟨Nat.le_of_ble_eq_true rfl, Nat.le_of_ble_eq_true rfl⟩) hw hA hZ 0 rfl rfl rfl rfl hl.1 (lv_room (Nat.le_of_ble_eq_true rfl)) dL_law_991 ⟨by rw [hR]; have hcs1 := hcs.1; omega, by rw [hR]; have hcs2 := hcs.2; omega⟩ (fun u H locs hu hw => ?_)
  obtain ⟨th2, r2⟩ := u
  obtain ⟨e1, e2⟩ := hu
  replace hw : qw D (AL s) s.heap ((fl (BS x a b ap b2 aH aV cI cB cZ cS T C lat und pfl pln pkd pst pen per pls pss us f1 f2 f3 pf pm pt pl pw w1 w2 w3 w4 w5 w6 hn svd bf y0 y1 y2 y3 y4 y5 y6 y7 ht cH cV) ++ [outC cJ ao f]) ++ (mW g cI cB cZ th2 pfl tl ts te tk nu er eo hL hS und bf dr td sa ad hi sl svd tr)) H locs := hw.comm
  have e3 : th2 = 1 := e1.trans (if_neg h1)
  subst e3
  replace hw : qw D (AL s) s.heap ((fl (BS x a b ap b2 aH aV cI cB cZ cS T C lat und pfl pln pkd pst pen per pls pss us f1 f2 f3 pf pm pt pl pw w1 w2 w3 w4 w5 w6 hn svd bf y0 y1 y2 y3 y4 y5 y6 y7 ht cH cV) ++ [outC cJ ao f]) ++ (mW g cI cB cZ 1 pfl tl ts te tk nu er eo hL hS und bf dr td sa ad hi sl svd tr)) H locs := hw
  refine lv_istore (lv' := [(6, .int (iI r2)), (5, .int (iI 1)), (0, .ref bb), (1, .ref (x 0)), (2, .ref (g 0)), (3, .ref ao), (4, .int (iI i))]) hx hb dL_law_994 hl (by decide) rfl (fun ls hl => ?_)
  refine lv_aload_n hx hb dL_law_996 rfl (lv_at hl 4 rfl) ?_
  replace hw := hw.comm
  refine q_callH (As := []) (rest := []) (zy_ok z) hx hb hml hown hts hK (qH_P c_X7_thrown) yi_X7_thrown ml_L_88 (by rw [hR]; exact ⟨Nat.le_of_ble_eq_true rfl, Nat.le_of_ble_eq_true rfl⟩) hw hA hZ 0 rfl rfl rfl rfl hl.1 (lv_room (Nat.le_of_ble_eq_true rfl)) dL_law_997 ⟨by rw [hR]; have hcs1 := hcs.1; omega, by rw [hR]; have hcs2 := hcs.2; omega⟩ (fun u H locs _ hw => ?_)
  replace hw : qw D (AL s) s.heap ((fl (BS x a b ap b2 aH aV cI cB cZ cS T C lat und pfl pln pkd pst pen per pls pss us f1 f2 f3 pf pm pt pl pw w1 w2 w3 w4 w5 w6 hn svd bf y0 y1 y2 y3 y4 y5 y6 y7 ht cH cV) ++ [outC cJ ao f]) ++ (mW g cI cB cZ 1 pfl tl ts te tk nu er eo hL hS und bf dr td sa ad hi sl svd tr)) H locs := hw.comm
  refine lv_iload hx hb dL_law_1000 (lv_at hl 1 rfl) ?_
  refine q_same (tgt := 1007) hx hb dL_law_1002 (by decide) ?_
  refine lv_iload hx hb dL_law_1007 (lv_at hl 1 rfl) ?_
  refine q_if_ne (tgt := 1024) hx hb dL_law_1009 (by decide) (by decide) (fun _ => ?_) (fun c9 => absurd c9 (by decide))
  refine lv_goto (tgt := 1484) hx hb dL_law_1024 (by decide) ?_
  exact (kk _ H locs ls ⟨b, b2, T, C, cH, cV, lat, und, pfl, pln, pkd, pst, pen, per, pls, pss, us, f1, f2, f3, pf, pm, pt, pl, pw, w1, w2, w3, w4, w5, w6, hn, 1, tl, ts, te, tk, nu, er, eo, hL, hS, svd, bf, y0, y1, y2, y3, y4, y5, y6, y7, ht, dr, td, sa, ad, hi, sl, tr, f, ⟨hM, hFR, hby, hpf, hnu, hln, hHW, hsv, hSW⟩, rfl⟩ hw (lv_sub hl [2, 3, 4, 5, 6] rfl))

theorem law_sheetsAt (hB : LB p l s m args c R z D cI cB cZ cS cJ bb L xs) (hI : LI x a ap aH aV g ao cI cB cZ cS cJ i ws) (hw : qw D (AL s) s.heap ws H locs) (hl : lv_has ls 9 (lv5 x g ao bb i)) (hrn : 0 ≤ i ∧ i + 6 ≤ (L : Int)) (hcs : cells + 1 ≤ room_1.cells ∧ slots + 6 ≤ room_1.slots) (kk : ∀ (ws1 : va_W) (H1 : Heap) (locs1 : List Loc) (ls1 : Array Slot), LI x a ap aH aV g ao cI cB cZ cS cJ (i + 6) ws1 → qw D (AL s) s.heap ws1 H1 locs1 → lv_has ls1 9 (lv5 x g ao bb i) → W p l e R s m args below meth c H1 locs1 (cells + 1) (slots + 6) Q (F0 m 1484 ls1 [])) : W p l e R s m args below meth c H locs cells slots Q (F0 m 971 ls []) := by
  obtain ⟨b, b2, T, C, cH, cV, lat, und, pfl, pln, pkd, pst, pen, per, pls, pss, us, f1, f2, f3, pf, pm, pt, pl, pw, w1, w2, w3, w4, w5, w6, hn, th, tl, ts, te, tk, nu, er, eo, hL, hS, svd, bf, y0, y1, y2, y3, y4, y5, y6, y7, ht, dr, td, sa, ad, hi, sl, tr, f, hF, rfl⟩ := hI
  by_cases h1 : 0 ≤ (sX xs i 1) ∧ (sX xs i 1) ≤ 6
  · exact law_sheetsAt_0 h1 hB hF hw hl hrn hcs kk
  · exact law_sheetsAt_1 h1 hB hF hw hl hrn hcs kk
