variable {p : Program} {l : Launch} {e : Env} {R : Room} {s : State} {m : MethodId} {args : Array Value} {below : List Frame} {meth : Method} {c : Code} {H : Heap} {locs : List Loc} {cells slots : Nat} {Q : State → Prop} {D : va_G} {cI cB cZ cS cJ : ClassId} {z x a ap g : Nat → Nat} {aH aV : Nat → Nat → Nat} {ao bb L : Nat} {xs : Nat → Int32} {i : Int} {ls : Array Slot} {ws : va_W} {b b2 : Nat → Nat} {T C : Nat → Int → Int} {cH cV : Nat → Nat → Int → Int} {lat und pfl pln pkd pst pen per pls pss us f1 f2 f3 pf pm pt pl pw w1 w2 w3 w4 w5 w6 hn th tl ts te tk nu er eo hL hS : Int} {svd bf y0 y1 y2 y3 y4 y5 y6 y7 ht dr td sa ad hi sl tr : Int → Int} {f : Nat → Int64}

set_option maxHeartbeats 4000000 in
set_option maxRecDepth 100000 in
theorem law_sheet_0 (h1 : 0 ≤ (sX xs i 1) ∧ (sX xs i 1) < T 8 0) (h2 : 0 ≤ (sX xs i 2) ∧ (sX xs i 2) ≤ 7) (hB : LB p l s m args c R z D cI cB cZ cS cJ bb L xs) (hF : LF i T C td sa hi sl svd bf pfl nu eo lat und cH cV) (hw : qw D (AL s) s.heap ((fl (BS x a b ap b2 aH aV cI cB cZ cS T C lat und pfl pln pkd pst pen per pls pss us f1 f2 f3 pf pm pt pl pw w1 w2 w3 w4 w5 w6 hn svd bf y0 y1 y2 y3 y4 y5 y6 y7 ht cH cV) ++ [outC cJ ao f]) ++ (mW g cI cB cZ th pfl tl ts te tk nu er eo hL hS und bf dr td sa ad hi sl svd tr)) H locs) (hl : lv_has ls 9 (lv5 x g ao bb i)) (hrn : 0 ≤ i ∧ i + 6 ≤ (L : Int)) (hcs : cells + 1 ≤ room_1.cells ∧ slots + 6 ≤ room_1.slots) (kk : ∀ (ws1 : va_W) (H1 : Heap) (locs1 : List Loc) (ls1 : Array Slot), LI x a ap aH aV g ao cI cB cZ cS cJ (i + 6) ws1 → qw D (AL s) s.heap ws1 H1 locs1 → lv_has ls1 9 (lv5 x g ao bb i) → W p l e R s m args below meth c H1 locs1 (cells + 1) (slots + 6) Q (F0 m 1484 ls1 [])) : W p l e R s m args below meth c H locs cells slots Q (F0 m 405 ls []) := by
  have hB0 := hB
  obtain ⟨⟨hx, hb, hml, hown, hts, hK⟩, hR, hZ, hst, hX, hbl, hL9⟩ := hB0
  obtain ⟨hM, hFR, hby, hpf, hnu, hla, hHW, hsv, hSW⟩ := hF
  have hlc : 0 ≤ lat ∧ lat ≤ 1000000 ∧ 0 ≤ und ∧ und ≤ 10 := by omega
  have hln : und ≤ lat ∧ lat ≤ i + 6 ∧ 0 ≤ und ∧ und ≤ 10 := by omega
  have hA : ∀ q : Nat, s.heap.size ≤ q → AL s q := fun q h => h
  have hl : lv_has ls 9 [(0, .ref bb), (1, .ref (x 0)), (2, .ref (g 0)), (3, .ref ao), (4, .int (iI i))] := hl
  refine lv_aload_n hx hb dL_law_405 rfl (lv_at hl 1 rfl) ?_
  refine lv_aload_n hx hb dL_law_406 rfl (lv_at hl 0 rfl) ?_
  refine lv_iload hx hb dL_law_407 (lv_at hl 4 rfl) ?_
  refine q_iconst hx hb dL_law_409 ?_
  refine q_iadd hx hb dL_law_410 ?_
  refine q_scr hB hw ⟨by omega, by omega⟩ dL_law_411 ?_
  refine lv_aload_n hx hb dL_law_412 rfl (lv_at hl 0 rfl) ?_
  refine lv_iload hx hb dL_law_413 (lv_at hl 4 rfl) ?_
  refine q_iconst hx hb dL_law_415 ?_
  refine q_iadd hx hb dL_law_416 ?_
  refine q_scr hB hw ⟨by omega, by omega⟩ dL_law_417 ?_
  refine lv_aload_n hx hb dL_law_418 rfl (lv_at hl 3 rfl) ?_
  have hH := c_L_sheet (l := l) (D := D) (z := z) (cI := cI) (cB := cB) (cZ := cZ) (cS := cS) (cJ := cJ) (ao := ao) (W0 := (fl (BS x a b ap b2 aH aV cI cB cZ cS T C lat und pfl pln pkd pst pen per pls pss us f1 f2 f3 pf pm pt pl pw w1 w2 w3 w4 w5 w6 hn svd bf y0 y1 y2 y3 y4 y5 y6 y7 ht cH cV))) (b0 := x 0) (f := f) ((sX xs i 1)) ((sX xs i 2)) rfl (qH_up (l := l) (D := D) (Z := ZY z) (ty := tyG cI cB cZ cS cJ) (W9 := (fl (BS x a b ap b2 aH aV cI cB cZ cS T C lat und pfl pln pkd pst pen per pls pss us f1 f2 f3 pf pm pt pl pw w1 w2 w3 w4 w5 w6 hn svd bf y0 y1 y2 y3 y4 y5 y6 y7 ht cH cV))) (zy_ok z) (qH_P (c_X6_sheet (sX xs i 1) (sX xs i 2) hM.1 hM.2.2.1 h2 h1)) _ (cs_A (x := x) (a := a) (ap := ap) (aH := aH) (aV := aV) (cI := cI) (cB := cB) (cZ := cZ) (cS := cS) (b := b) (b2 := b2) (T := T) (C := C) (cH := cH) (cV := cV) (lat := lat) (und := und) (pfl := pfl) (pln := pln) (pkd := pkd) (pst := pst) (pen := pen) (per := per) (pls := pls) (pss := pss) (us := us) (f1 := f1) (f2 := f2) (f3 := f3) (pf := pf) (pm := pm) (pt := pt) (pl := pl) (pw := pw) (w1 := w1) (w2 := w2) (w3 := w3) (w4 := w4) (w5 := w5) (w6 := w6) (hn := hn) (svd := svd) (bf := bf) (y0 := y0) (y1 := y1) (y2 := y2) (y3 := y3) (y4 := y4) (y5 := y5) (y6 := y6) (y7 := y7) (ht := ht)) (fun u _ => (cs_A (x := x) (a := a) (ap := ap) (aH := aH) (aV := aV) (cI := cI) (cB := cB) (cZ := cZ) (cS := cS) (b := b) (b2 := b2) (T := T) (C := C) (cH := cH) (cV := cV) (lat := lat) (und := und) (pfl := pfl) (pln := pln) (pkd := pkd) (pst := pst) (pen := pen) (per := per) (pls := pls) (pss := pss) (us := us) (f1 := f1) (f2 := f2) (f3 := f3) (pf := pf) (pm := pm) (pt := pt) (pl := pl) (pw := pw) (w1 := w1) (w2 := w2) (w3 := w3) (w4 := w4) (w5 := w5) (w6 := w6) (hn := hn) (svd := svd) (bf := bf) (y0 := y0) (y1 := y1) (y2 := y2) (y3 := y3) (y4 := y4) (y5 := y5) (y6 := y6) (y7 := y7) (ht := ht)).symm))
  refine q_callW (As := [.ref (x 0), .int (iI (sX xs i 1)), .int (iI (sX xs i 2)), .ref ao]) (rest := []) (zy_ok z) hx hb hml hown hts hK hH cw_L_sheet ini_L st_L_sheet yw_L_sheet.1 yw_L_sheet.2 ml_L_97 (by rw [hR]; exact ⟨Nat.le_of_ble_eq_true rfl, Nat.le_of_ble_eq_true rfl⟩) hw hA hZ rfl rfl hl.1 (lv_room (Nat.le_of_ble_eq_true rfl)) dL_law_419 ⟨by rw [hR]; have hcs1 := hcs.1; omega, by rw [hR]; have hcs2 := hcs.2; omega⟩ (fun u H locs hu hw => ?_)
  replace hw : qw D (AL s) s.heap ((fl (BS x a b ap b2 aH aV cI cB cZ cS T C lat und pfl pln pkd pst pen per pls pss us f1 f2 f3 pf pm pt pl pw w1 w2 w3 w4 w5 w6 hn svd bf y0 y1 y2 y3 y4 y5 y6 y7 ht cH cV) ++ [outC cJ ao (vp_updL f 0 (iI (shtV T C (sX xs i 1) (sX xs i 2))).toInt64)]) ++ (mW g cI cB cZ th pfl tl ts te tk nu er eo hL hS und bf dr td sa ad hi sl svd tr)) H locs := hw
  refine lv_istore (lv' := [(5, .int (iI 0)), (0, .ref bb), (1, .ref (x 0)), (2, .ref (g 0)), (3, .ref ao), (4, .int (iI i))]) hx hb dL_law_422 hl (by decide) rfl (fun ls hl => ?_)
  refine lv_aload_n hx hb dL_law_424 rfl (lv_at hl 3 rfl) ?_
  refine lv_aload_n hx hb dL_law_425 rfl (lv_at hl 1 rfl) ?_
  refine lv_iload hx hb dL_law_426 (lv_at hl 5 rfl) ?_
  refine q_iconst hx hb dL_law_428 ?_
  refine q_iadd hx hb dL_law_429 ?_
  refine q_scr hB hw ⟨by omega, by omega⟩ dL_law_430 ?_
  refine lv_aload_n hx hb dL_law_431 rfl (lv_at hl 1 rfl) ?_
  refine lv_iload hx hb dL_law_432 (lv_at hl 5 rfl) ?_
  refine q_iconst hx hb dL_law_434 ?_
  refine q_iadd hx hb dL_law_435 ?_
  refine q_scr hB hw ⟨by omega, by omega⟩ dL_law_436 ?_
  replace hw := hw.comm
  refine q_callH (As := [.int (iI (sX xs i 1)), .int (iI (sX xs i 2))]) (rest := []) (zy_ok z) hx hb hml hown hts hK (qH_M (c_X7_sheet (sX xs i 1) (sX xs i 2) hM (rg_of _) (rg_of _))) yi_X7_sheet ml_L_100 (by rw [hR]; exact ⟨Nat.le_of_ble_eq_true rfl, Nat.le_of_ble_eq_true rfl⟩) hw hA hZ 0 rfl rfl rfl rfl hl.1 (lv_room (Nat.le_of_ble_eq_true rfl)) dL_law_437 ⟨by rw [hR]; have hcs1 := hcs.1; omega, by rw [hR]; have hcs2 := hcs.2; omega⟩ (fun u H locs hu hw => ?_)
  obtain ⟨th2, r2⟩ := u
  obtain ⟨e1, e2⟩ := hu
  replace hw : qw D (AL s) s.heap ((fl (BS x a b ap b2 aH aV cI cB cZ cS T C lat und pfl pln pkd pst pen per pls pss us f1 f2 f3 pf pm pt pl pw w1 w2 w3 w4 w5 w6 hn svd bf y0 y1 y2 y3 y4 y5 y6 y7 ht cH cV) ++ [outC cJ ao (vp_updL f 0 (iI (shtV T C (sX xs i 1) (sX xs i 2))).toInt64)]) ++ (mW g cI cB cZ th2 pfl tl ts te tk nu er eo hL hS und bf dr td sa ad hi sl svd tr)) H locs := hw.comm
  have e3 : th2 = 0 := e1.trans (by rw [if_neg (by omega), if_neg (by omega)])
  have e4 := e2 e3
  subst e3
  subst e4
  replace hw : qw D (AL s) s.heap ((fl (BS x a b ap b2 aH aV cI cB cZ cS T C lat und pfl pln pkd pst pen per pls pss us f1 f2 f3 pf pm pt pl pw w1 w2 w3 w4 w5 w6 hn svd bf y0 y1 y2 y3 y4 y5 y6 y7 ht cH cV) ++ [outC cJ ao (vp_updL f 0 (iI (shtV T C (sX xs i 1) (sX xs i 2))).toInt64)]) ++ (mW g cI cB cZ 0 pfl tl ts te tk nu er eo hL hS und bf dr td sa ad hi sl svd tr)) H locs := hw
  refine lv_istore (lv' := [(6, .int (iI (shtV T C (sX xs i 1) (sX xs i 2)))), (5, .int (iI 0)), (0, .ref bb), (1, .ref (x 0)), (2, .ref (g 0)), (3, .ref ao), (4, .int (iI i))]) hx hb dL_law_440 hl (by decide) rfl (fun ls hl => ?_)
  refine lv_aload_n hx hb dL_law_442 rfl (lv_at hl 4 rfl) ?_
  replace hw := hw.comm
  refine q_callH (As := []) (rest := []) (zy_ok z) hx hb hml hown hts hK (qH_P c_X7_thrown) yi_X7_thrown ml_L_88 (by rw [hR]; exact ⟨Nat.le_of_ble_eq_true rfl, Nat.le_of_ble_eq_true rfl⟩) hw hA hZ 0 rfl rfl rfl rfl hl.1 (lv_room (Nat.le_of_ble_eq_true rfl)) dL_law_443 ⟨by rw [hR]; have hcs1 := hcs.1; omega, by rw [hR]; have hcs2 := hcs.2; omega⟩ (fun u H locs _ hw => ?_)
  replace hw : qw D (AL s) s.heap ((fl (BS x a b ap b2 aH aV cI cB cZ cS T C lat und pfl pln pkd pst pen per pls pss us f1 f2 f3 pf pm pt pl pw w1 w2 w3 w4 w5 w6 hn svd bf y0 y1 y2 y3 y4 y5 y6 y7 ht cH cV) ++ [outC cJ ao (vp_updL f 0 (iI (shtV T C (sX xs i 1) (sX xs i 2))).toInt64)]) ++ (mW g cI cB cZ 0 pfl tl ts te tk nu er eo hL hS und bf dr td sa ad hi sl svd tr)) H locs := hw.comm
  refine lv_iload hx hb dL_law_446 (lv_at hl 1 rfl) ?_
  refine q_same (tgt := 453) hx hb dL_law_448 (by decide) ?_
  refine lv_iload hx hb dL_law_453 (lv_at hl 1 rfl) ?_
  refine q_if_ne (tgt := 470) hx hb dL_law_455 (by decide) (by decide) (fun c9 => absurd rfl c9) (fun _ => ?_)
  refine lv_aload_n hx hb dL_law_458 rfl (lv_at hl 5 rfl) ?_
  refine q_iconst hx hb dL_law_459 ?_
  refine q_lald hx hb hK hw.1 (fl (BS x a b ap b2 aH aV cI cB cZ cS T C lat und pfl pln pkd pst pen per pls pss us f1 f2 f3 pf pm pt pl pw w1 w2 w3 w4 w5 w6 hn svd bf y0 y1 y2 y3 y4 y5 y6 y7 ht cH cV)).length 4 (get_mid _ _ _) rfl (vu_0 _ _) dL_law_460 ?_
  refine lv_iload hx hb dL_law_461 (lv_at hl 0 rfl) ?_
  refine lv_i2l hx hb dL_law_463 rfl ?_
  refine q_lsame (tgt := 470) hx hb dL_law_464 dL_law_465 (by decide) ?_
  refine lv_goto (tgt := 1484) hx hb dL_law_470 (by decide) ?_
  exact W_wide (Nat.le_succ _) (Nat.le_add_right _ _) (kk _ H locs ls ⟨b, b2, T, C, cH, cV, lat, und, pfl, pln, pkd, pst, pen, per, pls, pss, us, f1, f2, f3, pf, pm, pt, pl, pw, w1, w2, w3, w4, w5, w6, hn, 0, tl, ts, te, tk, nu, er, eo, hL, hS, svd, bf, y0, y1, y2, y3, y4, y5, y6, y7, ht, dr, td, sa, ad, hi, sl, tr, (vp_updL f 0 (iI (shtV T C (sX xs i 1) (sX xs i 2))).toInt64), ⟨hM, hFR, hby, hpf, hnu, hln, hHW, hsv, hSW⟩, rfl⟩ hw (lv_sub hl [2, 3, 4, 5, 6] rfl))

set_option maxHeartbeats 4000000 in
set_option maxRecDepth 100000 in
theorem law_sheet_2 (h1 : 0 ≤ (sX xs i 1) ∧ (sX xs i 1) < T 8 0) (h2 : ¬ (0 ≤ (sX xs i 2) ∧ (sX xs i 2) ≤ 7)) (hB : LB p l s m args c R z D cI cB cZ cS cJ bb L xs) (hF : LF i T C td sa hi sl svd bf pfl nu eo lat und cH cV) (hw : qw D (AL s) s.heap ((fl (BS x a b ap b2 aH aV cI cB cZ cS T C lat und pfl pln pkd pst pen per pls pss us f1 f2 f3 pf pm pt pl pw w1 w2 w3 w4 w5 w6 hn svd bf y0 y1 y2 y3 y4 y5 y6 y7 ht cH cV) ++ [outC cJ ao f]) ++ (mW g cI cB cZ th pfl tl ts te tk nu er eo hL hS und bf dr td sa ad hi sl svd tr)) H locs) (hl : lv_has ls 9 (lv5 x g ao bb i)) (hrn : 0 ≤ i ∧ i + 6 ≤ (L : Int)) (hcs : cells + 1 ≤ room_1.cells ∧ slots + 6 ≤ room_1.slots) (kk : ∀ (ws1 : va_W) (H1 : Heap) (locs1 : List Loc) (ls1 : Array Slot), LI x a ap aH aV g ao cI cB cZ cS cJ (i + 6) ws1 → qw D (AL s) s.heap ws1 H1 locs1 → lv_has ls1 9 (lv5 x g ao bb i) → W p l e R s m args below meth c H1 locs1 (cells + 1) (slots + 6) Q (F0 m 1484 ls1 [])) : W p l e R s m args below meth c H locs cells slots Q (F0 m 405 ls []) := by
  have hB0 := hB
  obtain ⟨⟨hx, hb, hml, hown, hts, hK⟩, hR, hZ, hst, hX, hbl, hL9⟩ := hB0
  obtain ⟨hM, hFR, hby, hpf, hnu, hla, hHW, hsv, hSW⟩ := hF
  have hlc : 0 ≤ lat ∧ lat ≤ 1000000 ∧ 0 ≤ und ∧ und ≤ 10 := by omega
  have hln : und ≤ lat ∧ lat ≤ i + 6 ∧ 0 ≤ und ∧ und ≤ 10 := by omega
  have hA : ∀ q : Nat, s.heap.size ≤ q → AL s q := fun q h => h
  have hl : lv_has ls 9 [(0, .ref bb), (1, .ref (x 0)), (2, .ref (g 0)), (3, .ref ao), (4, .int (iI i))] := hl
  refine lv_aload_n hx hb dL_law_405 rfl (lv_at hl 1 rfl) ?_
  refine lv_aload_n hx hb dL_law_406 rfl (lv_at hl 0 rfl) ?_
  refine lv_iload hx hb dL_law_407 (lv_at hl 4 rfl) ?_
  refine q_iconst hx hb dL_law_409 ?_
  refine q_iadd hx hb dL_law_410 ?_
  refine q_scr hB hw ⟨by omega, by omega⟩ dL_law_411 ?_
  refine lv_aload_n hx hb dL_law_412 rfl (lv_at hl 0 rfl) ?_
  refine lv_iload hx hb dL_law_413 (lv_at hl 4 rfl) ?_
  refine q_iconst hx hb dL_law_415 ?_
  refine q_iadd hx hb dL_law_416 ?_
  refine q_scr hB hw ⟨by omega, by omega⟩ dL_law_417 ?_
  refine lv_aload_n hx hb dL_law_418 rfl (lv_at hl 3 rfl) ?_
  have hH := c_L_sheet_x2 (l := l) (D := D) (z := z) (cI := cI) (cB := cB) (cZ := cZ) (cS := cS) (cJ := cJ) (ao := ao) (W0 := (fl (BS x a b ap b2 aH aV cI cB cZ cS T C lat und pfl pln pkd pst pen per pls pss us f1 f2 f3 pf pm pt pl pw w1 w2 w3 w4 w5 w6 hn svd bf y0 y1 y2 y3 y4 y5 y6 y7 ht cH cV))) (b0 := x 0) (f := f) ((sX xs i 1)) ((sX xs i 2)) rfl (qT_up (l := l) (D := D) (Z := ZY z) (ty := tyG cI cB cZ cS cJ) (W9 := (fl (BS x a b ap b2 aH aV cI cB cZ cS T C lat und pfl pln pkd pst pen per pls pss us f1 f2 f3 pf pm pt pl pw w1 w2 w3 w4 w5 w6 hn svd bf y0 y1 y2 y3 y4 y5 y6 y7 ht cH cV))) (zy_ok z) (c_X6_sheet_x2 (sX xs i 1) (sX xs i 2) hM.1 hM.2.2.1 hst h1 (rg_of _) h2) _ cs_U)
  refine q_callW (As := [.ref (x 0), .int (iI (sX xs i 1)), .int (iI (sX xs i 2)), .ref ao]) (rest := []) (zy_ok z) hx hb hml hown hts hK hH cw_L_sheet ini_L st_L_sheet yw_L_sheet.1 yw_L_sheet.2 ml_L_97 (by rw [hR]; exact ⟨Nat.le_of_ble_eq_true rfl, Nat.le_of_ble_eq_true rfl⟩) hw hA hZ rfl rfl hl.1 (lv_room (Nat.le_of_ble_eq_true rfl)) dL_law_419 ⟨by rw [hR]; have hcs1 := hcs.1; omega, by rw [hR]; have hcs2 := hcs.2; omega⟩ (fun u H locs hu hw => ?_)
  replace hw : qw D (AL s) s.heap ((fl (BS x a b ap b2 aH aV cI cB cZ cS T C lat und pfl pln pkd pst pen per pls pss us f1 f2 f3 pf pm pt pl pw w1 w2 w3 w4 w5 w6 hn svd bf y0 y1 y2 y3 y4 y5 y6 y7 ht cH cV) ++ [outC cJ ao f]) ++ (mW g cI cB cZ th pfl tl ts te tk nu er eo hL hS und bf dr td sa ad hi sl svd tr)) H locs := hw
  refine lv_istore (lv' := [(5, .int (iI 2)), (0, .ref bb), (1, .ref (x 0)), (2, .ref (g 0)), (3, .ref ao), (4, .int (iI i))]) hx hb dL_law_422 hl (by decide) rfl (fun ls hl => ?_)
  refine lv_aload_n hx hb dL_law_424 rfl (lv_at hl 3 rfl) ?_
  refine lv_aload_n hx hb dL_law_425 rfl (lv_at hl 1 rfl) ?_
  refine lv_iload hx hb dL_law_426 (lv_at hl 5 rfl) ?_
  refine q_iconst hx hb dL_law_428 ?_
  refine q_iadd hx hb dL_law_429 ?_
  refine q_scr hB hw ⟨by omega, by omega⟩ dL_law_430 ?_
  refine lv_aload_n hx hb dL_law_431 rfl (lv_at hl 1 rfl) ?_
  refine lv_iload hx hb dL_law_432 (lv_at hl 5 rfl) ?_
  refine q_iconst hx hb dL_law_434 ?_
  refine q_iadd hx hb dL_law_435 ?_
  refine q_scr hB hw ⟨by omega, by omega⟩ dL_law_436 ?_
  replace hw := hw.comm
  refine q_callH (As := [.int (iI (sX xs i 1)), .int (iI (sX xs i 2))]) (rest := []) (zy_ok z) hx hb hml hown hts hK (qH_M (c_X7_sheet (sX xs i 1) (sX xs i 2) hM (rg_of _) (rg_of _))) yi_X7_sheet ml_L_100 (by rw [hR]; exact ⟨Nat.le_of_ble_eq_true rfl, Nat.le_of_ble_eq_true rfl⟩) hw hA hZ 0 rfl rfl rfl rfl hl.1 (lv_room (Nat.le_of_ble_eq_true rfl)) dL_law_437 ⟨by rw [hR]; have hcs1 := hcs.1; omega, by rw [hR]; have hcs2 := hcs.2; omega⟩ (fun u H locs hu hw => ?_)
  obtain ⟨th2, r2⟩ := u
  obtain ⟨e1, e2⟩ := hu
  replace hw : qw D (AL s) s.heap ((fl (BS x a b ap b2 aH aV cI cB cZ cS T C lat und pfl pln pkd pst pen per pls pss us f1 f2 f3 pf pm pt pl pw w1 w2 w3 w4 w5 w6 hn svd bf y0 y1 y2 y3 y4 y5 y6 y7 ht cH cV) ++ [outC cJ ao f]) ++ (mW g cI cB cZ th2 pfl tl ts te tk nu er eo hL hS und bf dr td sa ad hi sl svd tr)) H locs := hw.comm
  have e3 : th2 = 2 := e1.trans (by rw [if_neg (by omega), if_pos (by omega)])
  subst e3
  replace hw : qw D (AL s) s.heap ((fl (BS x a b ap b2 aH aV cI cB cZ cS T C lat und pfl pln pkd pst pen per pls pss us f1 f2 f3 pf pm pt pl pw w1 w2 w3 w4 w5 w6 hn svd bf y0 y1 y2 y3 y4 y5 y6 y7 ht cH cV) ++ [outC cJ ao f]) ++ (mW g cI cB cZ 2 pfl tl ts te tk nu er eo hL hS und bf dr td sa ad hi sl svd tr)) H locs := hw
  refine lv_istore (lv' := [(6, .int (iI r2)), (5, .int (iI 2)), (0, .ref bb), (1, .ref (x 0)), (2, .ref (g 0)), (3, .ref ao), (4, .int (iI i))]) hx hb dL_law_440 hl (by decide) rfl (fun ls hl => ?_)
  refine lv_aload_n hx hb dL_law_442 rfl (lv_at hl 4 rfl) ?_
  replace hw := hw.comm
  refine q_callH (As := []) (rest := []) (zy_ok z) hx hb hml hown hts hK (qH_P c_X7_thrown) yi_X7_thrown ml_L_88 (by rw [hR]; exact ⟨Nat.le_of_ble_eq_true rfl, Nat.le_of_ble_eq_true rfl⟩) hw hA hZ 0 rfl rfl rfl rfl hl.1 (lv_room (Nat.le_of_ble_eq_true rfl)) dL_law_443 ⟨by rw [hR]; have hcs1 := hcs.1; omega, by rw [hR]; have hcs2 := hcs.2; omega⟩ (fun u H locs _ hw => ?_)
  replace hw : qw D (AL s) s.heap ((fl (BS x a b ap b2 aH aV cI cB cZ cS T C lat und pfl pln pkd pst pen per pls pss us f1 f2 f3 pf pm pt pl pw w1 w2 w3 w4 w5 w6 hn svd bf y0 y1 y2 y3 y4 y5 y6 y7 ht cH cV) ++ [outC cJ ao f]) ++ (mW g cI cB cZ 2 pfl tl ts te tk nu er eo hL hS und bf dr td sa ad hi sl svd tr)) H locs := hw.comm
  refine lv_iload hx hb dL_law_446 (lv_at hl 1 rfl) ?_
  refine q_same (tgt := 453) hx hb dL_law_448 (by decide) ?_
  refine lv_iload hx hb dL_law_453 (lv_at hl 1 rfl) ?_
  refine q_if_ne (tgt := 470) hx hb dL_law_455 (by decide) (by decide) (fun _ => ?_) (fun c9 => absurd c9 (by decide))
  refine lv_goto (tgt := 1484) hx hb dL_law_470 (by decide) ?_
  exact (kk _ H locs ls ⟨b, b2, T, C, cH, cV, lat, und, pfl, pln, pkd, pst, pen, per, pls, pss, us, f1, f2, f3, pf, pm, pt, pl, pw, w1, w2, w3, w4, w5, w6, hn, 2, tl, ts, te, tk, nu, er, eo, hL, hS, svd, bf, y0, y1, y2, y3, y4, y5, y6, y7, ht, dr, td, sa, ad, hi, sl, tr, f, ⟨hM, hFR, hby, hpf, hnu, hln, hHW, hsv, hSW⟩, rfl⟩ hw (lv_sub hl [2, 3, 4, 5, 6] rfl))

set_option maxHeartbeats 4000000 in
set_option maxRecDepth 100000 in
theorem law_sheet_1 (h1 : ¬ (0 ≤ (sX xs i 1) ∧ (sX xs i 1) < T 8 0)) (hB : LB p l s m args c R z D cI cB cZ cS cJ bb L xs) (hF : LF i T C td sa hi sl svd bf pfl nu eo lat und cH cV) (hw : qw D (AL s) s.heap ((fl (BS x a b ap b2 aH aV cI cB cZ cS T C lat und pfl pln pkd pst pen per pls pss us f1 f2 f3 pf pm pt pl pw w1 w2 w3 w4 w5 w6 hn svd bf y0 y1 y2 y3 y4 y5 y6 y7 ht cH cV) ++ [outC cJ ao f]) ++ (mW g cI cB cZ th pfl tl ts te tk nu er eo hL hS und bf dr td sa ad hi sl svd tr)) H locs) (hl : lv_has ls 9 (lv5 x g ao bb i)) (hrn : 0 ≤ i ∧ i + 6 ≤ (L : Int)) (hcs : cells + 1 ≤ room_1.cells ∧ slots + 6 ≤ room_1.slots) (kk : ∀ (ws1 : va_W) (H1 : Heap) (locs1 : List Loc) (ls1 : Array Slot), LI x a ap aH aV g ao cI cB cZ cS cJ (i + 6) ws1 → qw D (AL s) s.heap ws1 H1 locs1 → lv_has ls1 9 (lv5 x g ao bb i) → W p l e R s m args below meth c H1 locs1 (cells + 1) (slots + 6) Q (F0 m 1484 ls1 [])) : W p l e R s m args below meth c H locs cells slots Q (F0 m 405 ls []) := by
  have hB0 := hB
  obtain ⟨⟨hx, hb, hml, hown, hts, hK⟩, hR, hZ, hst, hX, hbl, hL9⟩ := hB0
  obtain ⟨hM, hFR, hby, hpf, hnu, hla, hHW, hsv, hSW⟩ := hF
  have hlc : 0 ≤ lat ∧ lat ≤ 1000000 ∧ 0 ≤ und ∧ und ≤ 10 := by omega
  have hln : und ≤ lat ∧ lat ≤ i + 6 ∧ 0 ≤ und ∧ und ≤ 10 := by omega
  have hA : ∀ q : Nat, s.heap.size ≤ q → AL s q := fun q h => h
  have hl : lv_has ls 9 [(0, .ref bb), (1, .ref (x 0)), (2, .ref (g 0)), (3, .ref ao), (4, .int (iI i))] := hl
  refine lv_aload_n hx hb dL_law_405 rfl (lv_at hl 1 rfl) ?_
  refine lv_aload_n hx hb dL_law_406 rfl (lv_at hl 0 rfl) ?_
  refine lv_iload hx hb dL_law_407 (lv_at hl 4 rfl) ?_
  refine q_iconst hx hb dL_law_409 ?_
  refine q_iadd hx hb dL_law_410 ?_
  refine q_scr hB hw ⟨by omega, by omega⟩ dL_law_411 ?_
  refine lv_aload_n hx hb dL_law_412 rfl (lv_at hl 0 rfl) ?_
  refine lv_iload hx hb dL_law_413 (lv_at hl 4 rfl) ?_
  refine q_iconst hx hb dL_law_415 ?_
  refine q_iadd hx hb dL_law_416 ?_
  refine q_scr hB hw ⟨by omega, by omega⟩ dL_law_417 ?_
  refine lv_aload_n hx hb dL_law_418 rfl (lv_at hl 3 rfl) ?_
  have hH := c_L_sheet_x1 (l := l) (D := D) (z := z) (cI := cI) (cB := cB) (cZ := cZ) (cS := cS) (cJ := cJ) (ao := ao) (W0 := (fl (BS x a b ap b2 aH aV cI cB cZ cS T C lat und pfl pln pkd pst pen per pls pss us f1 f2 f3 pf pm pt pl pw w1 w2 w3 w4 w5 w6 hn svd bf y0 y1 y2 y3 y4 y5 y6 y7 ht cH cV))) (b0 := x 0) (f := f) ((sX xs i 1)) ((sX xs i 2)) rfl (qT_up (l := l) (D := D) (Z := ZY z) (ty := tyG cI cB cZ cS cJ) (W9 := (fl (BS x a b ap b2 aH aV cI cB cZ cS T C lat und pfl pln pkd pst pen per pls pss us f1 f2 f3 pf pm pt pl pw w1 w2 w3 w4 w5 w6 hn svd bf y0 y1 y2 y3 y4 y5 y6 y7 ht cH cV))) (zy_ok z) (c_X6_sheet_x1 (sX xs i 1) (sX xs i 2) hM.1 hM.2.2.1 hst (rg_of _) h1) _ cs_U)
  refine q_callW (As := [.ref (x 0), .int (iI (sX xs i 1)), .int (iI (sX xs i 2)), .ref ao]) (rest := []) (zy_ok z) hx hb hml hown hts hK hH cw_L_sheet ini_L st_L_sheet yw_L_sheet.1 yw_L_sheet.2 ml_L_97 (by rw [hR]; exact ⟨Nat.le_of_ble_eq_true rfl, Nat.le_of_ble_eq_true rfl⟩) hw hA hZ rfl rfl hl.1 (lv_room (Nat.le_of_ble_eq_true rfl)) dL_law_419 ⟨by rw [hR]; have hcs1 := hcs.1; omega, by rw [hR]; have hcs2 := hcs.2; omega⟩ (fun u H locs hu hw => ?_)
  replace hw : qw D (AL s) s.heap ((fl (BS x a b ap b2 aH aV cI cB cZ cS T C lat und pfl pln pkd pst pen per pls pss us f1 f2 f3 pf pm pt pl pw w1 w2 w3 w4 w5 w6 hn svd bf y0 y1 y2 y3 y4 y5 y6 y7 ht cH cV) ++ [outC cJ ao f]) ++ (mW g cI cB cZ th pfl tl ts te tk nu er eo hL hS und bf dr td sa ad hi sl svd tr)) H locs := hw
  refine lv_istore (lv' := [(5, .int (iI 1)), (0, .ref bb), (1, .ref (x 0)), (2, .ref (g 0)), (3, .ref ao), (4, .int (iI i))]) hx hb dL_law_422 hl (by decide) rfl (fun ls hl => ?_)
  refine lv_aload_n hx hb dL_law_424 rfl (lv_at hl 3 rfl) ?_
  refine lv_aload_n hx hb dL_law_425 rfl (lv_at hl 1 rfl) ?_
  refine lv_iload hx hb dL_law_426 (lv_at hl 5 rfl) ?_
  refine q_iconst hx hb dL_law_428 ?_
  refine q_iadd hx hb dL_law_429 ?_
  refine q_scr hB hw ⟨by omega, by omega⟩ dL_law_430 ?_
  refine lv_aload_n hx hb dL_law_431 rfl (lv_at hl 1 rfl) ?_
  refine lv_iload hx hb dL_law_432 (lv_at hl 5 rfl) ?_
  refine q_iconst hx hb dL_law_434 ?_
  refine q_iadd hx hb dL_law_435 ?_
  refine q_scr hB hw ⟨by omega, by omega⟩ dL_law_436 ?_
  replace hw := hw.comm
  refine q_callH (As := [.int (iI (sX xs i 1)), .int (iI (sX xs i 2))]) (rest := []) (zy_ok z) hx hb hml hown hts hK (qH_M (c_X7_sheet (sX xs i 1) (sX xs i 2) hM (rg_of _) (rg_of _))) yi_X7_sheet ml_L_100 (by rw [hR]; exact ⟨Nat.le_of_ble_eq_true rfl, Nat.le_of_ble_eq_true rfl⟩) hw hA hZ 0 rfl rfl rfl rfl hl.1 (lv_room (Nat.le_of_ble_eq_true rfl)) dL_law_437 ⟨by rw [hR]; have hcs1 := hcs.1; omega, by rw [hR]; have hcs2 := hcs.2; omega⟩ (fun u H locs hu hw => ?_)
  obtain ⟨th2, r2⟩ := u
  obtain ⟨e1, e2⟩ := hu
  replace hw : qw D (AL s) s.heap ((fl (BS x a b ap b2 aH aV cI cB cZ cS T C lat und pfl pln pkd pst pen per pls pss us f1 f2 f3 pf pm pt pl pw w1 w2 w3 w4 w5 w6 hn svd bf y0 y1 y2 y3 y4 y5 y6 y7 ht cH cV) ++ [outC cJ ao f]) ++ (mW g cI cB cZ th2 pfl tl ts te tk nu er eo hL hS und bf dr td sa ad hi sl svd tr)) H locs := hw.comm
  have e3 : th2 = 1 := e1.trans (by rw [if_pos (by omega)])
  subst e3
  replace hw : qw D (AL s) s.heap ((fl (BS x a b ap b2 aH aV cI cB cZ cS T C lat und pfl pln pkd pst pen per pls pss us f1 f2 f3 pf pm pt pl pw w1 w2 w3 w4 w5 w6 hn svd bf y0 y1 y2 y3 y4 y5 y6 y7 ht cH cV) ++ [outC cJ ao f]) ++ (mW g cI cB cZ 1 pfl tl ts te tk nu er eo hL hS und bf dr td sa ad hi sl svd tr)) H locs := hw
  refine lv_istore (lv' := [(6, .int (iI r2)), (5, .int (iI 1)), (0, .ref bb), (1, .ref (x 0)), (2, .ref (g 0)), (3, .ref ao), (4, .int (iI i))]) hx hb dL_law_440 hl (by decide) rfl (fun ls hl => ?_)
  refine lv_aload_n hx hb dL_law_442 rfl (lv_at hl 4 rfl) ?_
  replace hw := hw.comm
  refine q_callH (As := []) (rest := []) (zy_ok z) hx hb hml hown hts hK (qH_P c_X7_thrown) yi_X7_thrown ml_L_88 (by rw [hR]; exact ⟨Nat.le_of_ble_eq_true rfl, Nat.le_of_ble_eq_true rfl⟩) hw hA hZ 0 rfl rfl rfl rfl hl.1 (lv_room (Nat.le_of_ble_eq_true rfl)) dL_law_443 ⟨by rw [hR]; have hcs1 := hcs.1; omega, by rw [hR]; have hcs2 := hcs.2; omega⟩ (fun u H locs _ hw => ?_)
  replace hw : qw D (AL s) s.heap ((fl (BS x a b ap b2 aH aV cI cB cZ cS T C lat und pfl pln pkd pst pen per pls pss us f1 f2 f3 pf pm pt pl pw w1 w2 w3 w4 w5 w6 hn svd bf y0 y1 y2 y3 y4 y5 y6 y7 ht cH cV) ++ [outC cJ ao f]) ++ (mW g cI cB cZ 1 pfl tl ts te tk nu er eo hL hS und bf dr td sa ad hi sl svd tr)) H locs := hw.comm
  refine lv_iload hx hb dL_law_446 (lv_at hl 1 rfl) ?_
  refine q_same (tgt := 453) hx hb dL_law_448 (by decide) ?_
  refine lv_iload hx hb dL_law_453 (lv_at hl 1 rfl) ?_
  refine q_if_ne (tgt := 470) hx hb dL_law_455 (by decide) (by decide) (fun _ => ?_) (fun c9 => absurd c9 (by decide))
  refine lv_goto (tgt := 1484) hx hb dL_law_470 (by decide) ?_
  exact (kk _ H locs ls ⟨b, b2, T, C, cH, cV, lat, und, pfl, pln, pkd, pst, pen, per, pls, pss, us, f1, f2, f3, pf, pm, pt, pl, pw, w1, w2, w3, w4, w5, w6, hn, 1, tl, ts, te, tk, nu, er, eo, hL, hS, svd, bf, y0, y1, y2, y3, y4, y5, y6, y7, ht, dr, td, sa, ad, hi, sl, tr, f, ⟨hM, hFR, hby, hpf, hnu, hln, hHW, hsv, hSW⟩, rfl⟩ hw (lv_sub hl [2, 3, 4, 5, 6] rfl))

theorem law_sheet (hB : LB p l s m args c R z D cI cB cZ cS cJ bb L xs) (hI : LI x a ap aH aV g ao cI cB cZ cS cJ i ws) (hw : qw D (AL s) s.heap ws H locs) (hl : lv_has ls 9 (lv5 x g ao bb i)) (hrn : 0 ≤ i ∧ i + 6 ≤ (L : Int)) (hcs : cells + 1 ≤ room_1.cells ∧ slots + 6 ≤ room_1.slots) (kk : ∀ (ws1 : va_W) (H1 : Heap) (locs1 : List Loc) (ls1 : Array Slot), LI x a ap aH aV g ao cI cB cZ cS cJ (i + 6) ws1 → qw D (AL s) s.heap ws1 H1 locs1 → lv_has ls1 9 (lv5 x g ao bb i) → W p l e R s m args below meth c H1 locs1 (cells + 1) (slots + 6) Q (F0 m 1484 ls1 [])) : W p l e R s m args below meth c H locs cells slots Q (F0 m 405 ls []) := by
  obtain ⟨b, b2, T, C, cH, cV, lat, und, pfl, pln, pkd, pst, pen, per, pls, pss, us, f1, f2, f3, pf, pm, pt, pl, pw, w1, w2, w3, w4, w5, w6, hn, th, tl, ts, te, tk, nu, er, eo, hL, hS, svd, bf, y0, y1, y2, y3, y4, y5, y6, y7, ht, dr, td, sa, ad, hi, sl, tr, f, hF, rfl⟩ := hI
  by_cases h1 : 0 ≤ (sX xs i 1) ∧ (sX xs i 1) < T 8 0
  · by_cases h2 : 0 ≤ (sX xs i 2) ∧ (sX xs i 2) ≤ 7
    · exact law_sheet_0 h1 h2 hB hF hw hl hrn hcs kk
    · exact law_sheet_2 h1 h2 hB hF hw hl hrn hcs kk
  · exact law_sheet_1 h1 hB hF hw hl hrn hcs kk

set_option maxHeartbeats 4000000 in
set_option maxRecDepth 100000 in
theorem law_page_0 (h1 : 0 ≤ (sX xs i 1) ∧ (sX xs i 1) < C 11 3) (h2 : 0 ≤ (sX xs i 2) ∧ (sX xs i 2) ≤ 2) (hB : LB p l s m args c R z D cI cB cZ cS cJ bb L xs) (hF : LF i T C td sa hi sl svd bf pfl nu eo lat und cH cV) (hw : qw D (AL s) s.heap ((fl (BS x a b ap b2 aH aV cI cB cZ cS T C lat und pfl pln pkd pst pen per pls pss us f1 f2 f3 pf pm pt pl pw w1 w2 w3 w4 w5 w6 hn svd bf y0 y1 y2 y3 y4 y5 y6 y7 ht cH cV) ++ [outC cJ ao f]) ++ (mW g cI cB cZ th pfl tl ts te tk nu er eo hL hS und bf dr td sa ad hi sl svd tr)) H locs) (hl : lv_has ls 9 (lv5 x g ao bb i)) (hrn : 0 ≤ i ∧ i + 6 ≤ (L : Int)) (hcs : cells + 1 ≤ room_1.cells ∧ slots + 6 ≤ room_1.slots) (kk : ∀ (ws1 : va_W) (H1 : Heap) (locs1 : List Loc) (ls1 : Array Slot), LI x a ap aH aV g ao cI cB cZ cS cJ (i + 6) ws1 → qw D (AL s) s.heap ws1 H1 locs1 → lv_has ls1 9 (lv5 x g ao bb i) → W p l e R s m args below meth c H1 locs1 (cells + 1) (slots + 6) Q (F0 m 1484 ls1 [])) : W p l e R s m args below meth c H locs cells slots Q (F0 m 523 ls []) := by
  have hB0 := hB
  obtain ⟨⟨hx, hb, hml, hown, hts, hK⟩, hR, hZ, hst, hX, hbl, hL9⟩ := hB0
  obtain ⟨hM, hFR, hby, hpf, hnu, hla, hHW, hsv, hSW⟩ := hF
  have hlc : 0 ≤ lat ∧ lat ≤ 1000000 ∧ 0 ≤ und ∧ und ≤ 10 := by omega
  have hln : und ≤ lat ∧ lat ≤ i + 6 ∧ 0 ≤ und ∧ und ≤ 10 := by omega
  have hA : ∀ q : Nat, s.heap.size ≤ q → AL s q := fun q h => h
  have hl : lv_has ls 9 [(0, .ref bb), (1, .ref (x 0)), (2, .ref (g 0)), (3, .ref ao), (4, .int (iI i))] := hl
  refine lv_aload_n hx hb dL_law_523 rfl (lv_at hl 1 rfl) ?_
  refine lv_aload_n hx hb dL_law_524 rfl (lv_at hl 0 rfl) ?_
  refine lv_iload hx hb dL_law_525 (lv_at hl 4 rfl) ?_
  refine q_iconst hx hb dL_law_527 ?_
  refine q_iadd hx hb dL_law_528 ?_
  refine q_scr hB hw ⟨by omega, by omega⟩ dL_law_529 ?_
  refine lv_aload_n hx hb dL_law_530 rfl (lv_at hl 0 rfl) ?_
  refine lv_iload hx hb dL_law_531 (lv_at hl 4 rfl) ?_
  refine q_iconst hx hb dL_law_533 ?_
  refine q_iadd hx hb dL_law_534 ?_
  refine q_scr hB hw ⟨by omega, by omega⟩ dL_law_535 ?_
  refine lv_aload_n hx hb dL_law_536 rfl (lv_at hl 3 rfl) ?_
  have hH := c_L_page (l := l) (D := D) (z := z) (cI := cI) (cB := cB) (cZ := cZ) (cS := cS) (cJ := cJ) (ao := ao) (W0 := (fl (BS x a b ap b2 aH aV cI cB cZ cS T C lat und pfl pln pkd pst pen per pls pss us f1 f2 f3 pf pm pt pl pw w1 w2 w3 w4 w5 w6 hn svd bf y0 y1 y2 y3 y4 y5 y6 y7 ht cH cV))) (b0 := x 0) (f := f) ((sX xs i 1)) ((sX xs i 2)) rfl (qH_up (l := l) (D := D) (Z := ZY z) (ty := tyG cI cB cZ cS cJ) (W9 := (fl (BS x a b ap b2 aH aV cI cB cZ cS T C lat und pfl pln pkd pst pen per pls pss us f1 f2 f3 pf pm pt pl pw w1 w2 w3 w4 w5 w6 hn svd bf y0 y1 y2 y3 y4 y5 y6 y7 ht cH cV))) (zy_ok z) (qH_P (c_X6_page (sX xs i 1) (sX xs i 2) hM.1 hM.2.2.1 h2 h1)) _ (cs_A (x := x) (a := a) (ap := ap) (aH := aH) (aV := aV) (cI := cI) (cB := cB) (cZ := cZ) (cS := cS) (b := b) (b2 := b2) (T := T) (C := C) (cH := cH) (cV := cV) (lat := lat) (und := und) (pfl := pfl) (pln := pln) (pkd := pkd) (pst := pst) (pen := pen) (per := per) (pls := pls) (pss := pss) (us := us) (f1 := f1) (f2 := f2) (f3 := f3) (pf := pf) (pm := pm) (pt := pt) (pl := pl) (pw := pw) (w1 := w1) (w2 := w2) (w3 := w3) (w4 := w4) (w5 := w5) (w6 := w6) (hn := hn) (svd := svd) (bf := bf) (y0 := y0) (y1 := y1) (y2 := y2) (y3 := y3) (y4 := y4) (y5 := y5) (y6 := y6) (y7 := y7) (ht := ht)) (fun u _ => (cs_A (x := x) (a := a) (ap := ap) (aH := aH) (aV := aV) (cI := cI) (cB := cB) (cZ := cZ) (cS := cS) (b := b) (b2 := b2) (T := T) (C := C) (cH := cH) (cV := cV) (lat := lat) (und := und) (pfl := pfl) (pln := pln) (pkd := pkd) (pst := pst) (pen := pen) (per := per) (pls := pls) (pss := pss) (us := us) (f1 := f1) (f2 := f2) (f3 := f3) (pf := pf) (pm := pm) (pt := pt) (pl := pl) (pw := pw) (w1 := w1) (w2 := w2) (w3 := w3) (w4 := w4) (w5 := w5) (w6 := w6) (hn := hn) (svd := svd) (bf := bf) (y0 := y0) (y1 := y1) (y2 := y2) (y3 := y3) (y4 := y4) (y5 := y5) (y6 := y6) (y7 := y7) (ht := ht)).symm))
  refine q_callW (As := [.ref (x 0), .int (iI (sX xs i 1)), .int (iI (sX xs i 2)), .ref ao]) (rest := []) (zy_ok z) hx hb hml hown hts hK hH cw_L_page ini_L st_L_page yw_L_page.1 yw_L_page.2 ml_L_109 (by rw [hR]; exact ⟨Nat.le_of_ble_eq_true rfl, Nat.le_of_ble_eq_true rfl⟩) hw hA hZ rfl rfl hl.1 (lv_room (Nat.le_of_ble_eq_true rfl)) dL_law_537 ⟨by rw [hR]; have hcs1 := hcs.1; omega, by rw [hR]; have hcs2 := hcs.2; omega⟩ (fun u H locs hu hw => ?_)
  replace hw : qw D (AL s) s.heap ((fl (BS x a b ap b2 aH aV cI cB cZ cS T C lat und pfl pln pkd pst pen per pls pss us f1 f2 f3 pf pm pt pl pw w1 w2 w3 w4 w5 w6 hn svd bf y0 y1 y2 y3 y4 y5 y6 y7 ht cH cV) ++ [outC cJ ao (vp_updL f 0 (iI (pagV C (sX xs i 1) (sX xs i 2))).toInt64)]) ++ (mW g cI cB cZ th pfl tl ts te tk nu er eo hL hS und bf dr td sa ad hi sl svd tr)) H locs := hw
  refine lv_istore (lv' := [(5, .int (iI 0)), (0, .ref bb), (1, .ref (x 0)), (2, .ref (g 0)), (3, .ref ao), (4, .int (iI i))]) hx hb dL_law_540 hl (by decide) rfl (fun ls hl => ?_)
  refine lv_aload_n hx hb dL_law_542 rfl (lv_at hl 3 rfl) ?_
  refine lv_aload_n hx hb dL_law_543 rfl (lv_at hl 1 rfl) ?_
  refine lv_iload hx hb dL_law_544 (lv_at hl 5 rfl) ?_
  refine q_iconst hx hb dL_law_546 ?_
  refine q_iadd hx hb dL_law_547 ?_
  refine q_scr hB hw ⟨by omega, by omega⟩ dL_law_548 ?_
  refine lv_aload_n hx hb dL_law_549 rfl (lv_at hl 1 rfl) ?_
  refine lv_iload hx hb dL_law_550 (lv_at hl 5 rfl) ?_
  refine q_iconst hx hb dL_law_552 ?_
  refine q_iadd hx hb dL_law_553 ?_
  refine q_scr hB hw ⟨by omega, by omega⟩ dL_law_554 ?_
  replace hw := hw.comm
  refine q_callH (As := [.int (iI (sX xs i 1)), .int (iI (sX xs i 2))]) (rest := []) (zy_ok z) hx hb hml hown hts hK (qH_M (c_X7_page (sX xs i 1) (sX xs i 2) hM (rg_of _) (rg_of _))) yi_X7_page ml_L_111 (by rw [hR]; exact ⟨Nat.le_of_ble_eq_true rfl, Nat.le_of_ble_eq_true rfl⟩) hw hA hZ 0 rfl rfl rfl rfl hl.1 (lv_room (Nat.le_of_ble_eq_true rfl)) dL_law_555 ⟨by rw [hR]; have hcs1 := hcs.1; omega, by rw [hR]; have hcs2 := hcs.2; omega⟩ (fun u H locs hu hw => ?_)
  obtain ⟨th2, r2⟩ := u
  obtain ⟨e1, e2⟩ := hu
  replace hw : qw D (AL s) s.heap ((fl (BS x a b ap b2 aH aV cI cB cZ cS T C lat und pfl pln pkd pst pen per pls pss us f1 f2 f3 pf pm pt pl pw w1 w2 w3 w4 w5 w6 hn svd bf y0 y1 y2 y3 y4 y5 y6 y7 ht cH cV) ++ [outC cJ ao (vp_updL f 0 (iI (pagV C (sX xs i 1) (sX xs i 2))).toInt64)]) ++ (mW g cI cB cZ th2 pfl tl ts te tk nu er eo hL hS und bf dr td sa ad hi sl svd tr)) H locs := hw.comm
  have e3 : th2 = 0 := e1.trans (by rw [if_neg (by omega), if_neg (by omega)])
  have e4 := e2 e3
  subst e3
  subst e4
  replace hw : qw D (AL s) s.heap ((fl (BS x a b ap b2 aH aV cI cB cZ cS T C lat und pfl pln pkd pst pen per pls pss us f1 f2 f3 pf pm pt pl pw w1 w2 w3 w4 w5 w6 hn svd bf y0 y1 y2 y3 y4 y5 y6 y7 ht cH cV) ++ [outC cJ ao (vp_updL f 0 (iI (pagV C (sX xs i 1) (sX xs i 2))).toInt64)]) ++ (mW g cI cB cZ 0 pfl tl ts te tk nu er eo hL hS und bf dr td sa ad hi sl svd tr)) H locs := hw
  refine lv_istore (lv' := [(6, .int (iI (pagV C (sX xs i 1) (sX xs i 2)))), (5, .int (iI 0)), (0, .ref bb), (1, .ref (x 0)), (2, .ref (g 0)), (3, .ref ao), (4, .int (iI i))]) hx hb dL_law_558 hl (by decide) rfl (fun ls hl => ?_)
  refine lv_aload_n hx hb dL_law_560 rfl (lv_at hl 4 rfl) ?_
  replace hw := hw.comm
  refine q_callH (As := []) (rest := []) (zy_ok z) hx hb hml hown hts hK (qH_P c_X7_thrown) yi_X7_thrown ml_L_88 (by rw [hR]; exact ⟨Nat.le_of_ble_eq_true rfl, Nat.le_of_ble_eq_true rfl⟩) hw hA hZ 0 rfl rfl rfl rfl hl.1 (lv_room (Nat.le_of_ble_eq_true rfl)) dL_law_561 ⟨by rw [hR]; have hcs1 := hcs.1; omega, by rw [hR]; have hcs2 := hcs.2; omega⟩ (fun u H locs _ hw => ?_)
  replace hw : qw D (AL s) s.heap ((fl (BS x a b ap b2 aH aV cI cB cZ cS T C lat und pfl pln pkd pst pen per pls pss us f1 f2 f3 pf pm pt pl pw w1 w2 w3 w4 w5 w6 hn svd bf y0 y1 y2 y3 y4 y5 y6 y7 ht cH cV) ++ [outC cJ ao (vp_updL f 0 (iI (pagV C (sX xs i 1) (sX xs i 2))).toInt64)]) ++ (mW g cI cB cZ 0 pfl tl ts te tk nu er eo hL hS und bf dr td sa ad hi sl svd tr)) H locs := hw.comm
  refine lv_iload hx hb dL_law_564 (lv_at hl 1 rfl) ?_
  refine q_same (tgt := 571) hx hb dL_law_566 (by decide) ?_
  refine lv_iload hx hb dL_law_571 (lv_at hl 1 rfl) ?_
  refine q_if_ne (tgt := 588) hx hb dL_law_573 (by decide) (by decide) (fun c9 => absurd rfl c9) (fun _ => ?_)
  refine lv_aload_n hx hb dL_law_576 rfl (lv_at hl 5 rfl) ?_
  refine q_iconst hx hb dL_law_577 ?_
  refine q_lald hx hb hK hw.1 (fl (BS x a b ap b2 aH aV cI cB cZ cS T C lat und pfl pln pkd pst pen per pls pss us f1 f2 f3 pf pm pt pl pw w1 w2 w3 w4 w5 w6 hn svd bf y0 y1 y2 y3 y4 y5 y6 y7 ht cH cV)).length 4 (get_mid _ _ _) rfl (vu_0 _ _) dL_law_578 ?_
  refine lv_iload hx hb dL_law_579 (lv_at hl 0 rfl) ?_
  refine lv_i2l hx hb dL_law_581 rfl ?_
  refine q_lsame (tgt := 588) hx hb dL_law_582 dL_law_583 (by decide) ?_
  refine lv_goto (tgt := 1484) hx hb dL_law_588 (by decide) ?_
  exact W_wide (Nat.le_succ _) (Nat.le_add_right _ _) (kk _ H locs ls ⟨b, b2, T, C, cH, cV, lat, und, pfl, pln, pkd, pst, pen, per, pls, pss, us, f1, f2, f3, pf, pm, pt, pl, pw, w1, w2, w3, w4, w5, w6, hn, 0, tl, ts, te, tk, nu, er, eo, hL, hS, svd, bf, y0, y1, y2, y3, y4, y5, y6, y7, ht, dr, td, sa, ad, hi, sl, tr, (vp_updL f 0 (iI (pagV C (sX xs i 1) (sX xs i 2))).toInt64), ⟨hM, hFR, hby, hpf, hnu, hln, hHW, hsv, hSW⟩, rfl⟩ hw (lv_sub hl [2, 3, 4, 5, 6] rfl))

set_option maxHeartbeats 4000000 in
set_option maxRecDepth 100000 in
theorem law_page_2 (h1 : 0 ≤ (sX xs i 1) ∧ (sX xs i 1) < C 11 3) (h2 : ¬ (0 ≤ (sX xs i 2) ∧ (sX xs i 2) ≤ 2)) (hB : LB p l s m args c R z D cI cB cZ cS cJ bb L xs) (hF : LF i T C td sa hi sl svd bf pfl nu eo lat und cH cV) (hw : qw D (AL s) s.heap ((fl (BS x a b ap b2 aH aV cI cB cZ cS T C lat und pfl pln pkd pst pen per pls pss us f1 f2 f3 pf pm pt pl pw w1 w2 w3 w4 w5 w6 hn svd bf y0 y1 y2 y3 y4 y5 y6 y7 ht cH cV) ++ [outC cJ ao f]) ++ (mW g cI cB cZ th pfl tl ts te tk nu er eo hL hS und bf dr td sa ad hi sl svd tr)) H locs) (hl : lv_has ls 9 (lv5 x g ao bb i)) (hrn : 0 ≤ i ∧ i + 6 ≤ (L : Int)) (hcs : cells + 1 ≤ room_1.cells ∧ slots + 6 ≤ room_1.slots) (kk : ∀ (ws1 : va_W) (H1 : Heap) (locs1 : List Loc) (ls1 : Array Slot), LI x a ap aH aV g ao cI cB cZ cS cJ (i + 6) ws1 → qw D (AL s) s.heap ws1 H1 locs1 → lv_has ls1 9 (lv5 x g ao bb i) → W p l e R s m args below meth c H1 locs1 (cells + 1) (slots + 6) Q (F0 m 1484 ls1 [])) : W p l e R s m args below meth c H locs cells slots Q (F0 m 523 ls []) := by
  have hB0 := hB
  obtain ⟨⟨hx, hb, hml, hown, hts, hK⟩, hR, hZ, hst, hX, hbl, hL9⟩ := hB0
  obtain ⟨hM, hFR, hby, hpf, hnu, hla, hHW, hsv, hSW⟩ := hF
  have hlc : 0 ≤ lat ∧ lat ≤ 1000000 ∧ 0 ≤ und ∧ und ≤ 10 := by omega
  have hln : und ≤ lat ∧ lat ≤ i + 6 ∧ 0 ≤ und ∧ und ≤ 10 := by omega
  have hA : ∀ q : Nat, s.heap.size ≤ q → AL s q := fun q h => h
  have hl : lv_has ls 9 [(0, .ref bb), (1, .ref (x 0)), (2, .ref (g 0)), (3, .ref ao), (4, .int (iI i))] := hl
  refine lv_aload_n hx hb dL_law_523 rfl (lv_at hl 1 rfl) ?_
  refine lv_aload_n hx hb dL_law_524 rfl (lv_at hl 0 rfl) ?_
  refine lv_iload hx hb dL_law_525 (lv_at hl 4 rfl) ?_
  refine q_iconst hx hb dL_law_527 ?_
  refine q_iadd hx hb dL_law_528 ?_
  refine q_scr hB hw ⟨by omega, by omega⟩ dL_law_529 ?_
  refine lv_aload_n hx hb dL_law_530 rfl (lv_at hl 0 rfl) ?_
  refine lv_iload hx hb dL_law_531 (lv_at hl 4 rfl) ?_
  refine q_iconst hx hb dL_law_533 ?_
  refine q_iadd hx hb dL_law_534 ?_
  refine q_scr hB hw ⟨by omega, by omega⟩ dL_law_535 ?_
  refine lv_aload_n hx hb dL_law_536 rfl (lv_at hl 3 rfl) ?_
  have hH := c_L_page_x2 (l := l) (D := D) (z := z) (cI := cI) (cB := cB) (cZ := cZ) (cS := cS) (cJ := cJ) (ao := ao) (W0 := (fl (BS x a b ap b2 aH aV cI cB cZ cS T C lat und pfl pln pkd pst pen per pls pss us f1 f2 f3 pf pm pt pl pw w1 w2 w3 w4 w5 w6 hn svd bf y0 y1 y2 y3 y4 y5 y6 y7 ht cH cV))) (b0 := x 0) (f := f) ((sX xs i 1)) ((sX xs i 2)) rfl (qT_up (l := l) (D := D) (Z := ZY z) (ty := tyG cI cB cZ cS cJ) (W9 := (fl (BS x a b ap b2 aH aV cI cB cZ cS T C lat und pfl pln pkd pst pen per pls pss us f1 f2 f3 pf pm pt pl pw w1 w2 w3 w4 w5 w6 hn svd bf y0 y1 y2 y3 y4 y5 y6 y7 ht cH cV))) (zy_ok z) (c_X6_page_x2 (sX xs i 1) (sX xs i 2) hM.1 hM.2.2.1 hst h1 (rg_of _) h2) _ cs_U)
  refine q_callW (As := [.ref (x 0), .int (iI (sX xs i 1)), .int (iI (sX xs i 2)), .ref ao]) (rest := []) (zy_ok z) hx hb hml hown hts hK hH cw_L_page ini_L st_L_page yw_L_page.1 yw_L_page.2 ml_L_109 (by rw [hR]; exact ⟨Nat.le_of_ble_eq_true rfl, Nat.le_of_ble_eq_true rfl⟩) hw hA hZ rfl rfl hl.1 (lv_room (Nat.le_of_ble_eq_true rfl)) dL_law_537 ⟨by rw [hR]; have hcs1 := hcs.1; omega, by rw [hR]; have hcs2 := hcs.2; omega⟩ (fun u H locs hu hw => ?_)
  replace hw : qw D (AL s) s.heap ((fl (BS x a b ap b2 aH aV cI cB cZ cS T C lat und pfl pln pkd pst pen per pls pss us f1 f2 f3 pf pm pt pl pw w1 w2 w3 w4 w5 w6 hn svd bf y0 y1 y2 y3 y4 y5 y6 y7 ht cH cV) ++ [outC cJ ao f]) ++ (mW g cI cB cZ th pfl tl ts te tk nu er eo hL hS und bf dr td sa ad hi sl svd tr)) H locs := hw
  refine lv_istore (lv' := [(5, .int (iI 2)), (0, .ref bb), (1, .ref (x 0)), (2, .ref (g 0)), (3, .ref ao), (4, .int (iI i))]) hx hb dL_law_540 hl (by decide) rfl (fun ls hl => ?_)
  refine lv_aload_n hx hb dL_law_542 rfl (lv_at hl 3 rfl) ?_
  refine lv_aload_n hx hb dL_law_543 rfl (lv_at hl 1 rfl) ?_
  refine lv_iload hx hb dL_law_544 (lv_at hl 5 rfl) ?_
  refine q_iconst hx hb dL_law_546 ?_
  refine q_iadd hx hb dL_law_547 ?_
  refine q_scr hB hw ⟨by omega, by omega⟩ dL_law_548 ?_
  refine lv_aload_n hx hb dL_law_549 rfl (lv_at hl 1 rfl) ?_
  refine lv_iload hx hb dL_law_550 (lv_at hl 5 rfl) ?_
  refine q_iconst hx hb dL_law_552 ?_
  refine q_iadd hx hb dL_law_553 ?_
  refine q_scr hB hw ⟨by omega, by omega⟩ dL_law_554 ?_
  replace hw := hw.comm
  refine q_callH (As := [.int (iI (sX xs i 1)), .int (iI (sX xs i 2))]) (rest := []) (zy_ok z) hx hb hml hown hts hK (qH_M (c_X7_page (sX xs i 1) (sX xs i 2) hM (rg_of _) (rg_of _))) yi_X7_page ml_L_111 (by rw [hR]; exact ⟨Nat.le_of_ble_eq_true rfl, Nat.le_of_ble_eq_true rfl⟩) hw hA hZ 0 rfl rfl rfl rfl hl.1 (lv_room (Nat.le_of_ble_eq_true rfl)) dL_law_555 ⟨by rw [hR]; have hcs1 := hcs.1; omega, by rw [hR]; have hcs2 := hcs.2; omega⟩ (fun u H locs hu hw => ?_)
  obtain ⟨th2, r2⟩ := u
  obtain ⟨e1, e2⟩ := hu
  replace hw : qw D (AL s) s.heap ((fl (BS x a b ap b2 aH aV cI cB cZ cS T C lat und pfl pln pkd pst pen per pls pss us f1 f2 f3 pf pm pt pl pw w1 w2 w3 w4 w5 w6 hn svd bf y0 y1 y2 y3 y4 y5 y6 y7 ht cH cV) ++ [outC cJ ao f]) ++ (mW g cI cB cZ th2 pfl tl ts te tk nu er eo hL hS und bf dr td sa ad hi sl svd tr)) H locs := hw.comm
  have e3 : th2 = 2 := e1.trans (by rw [if_neg (by omega), if_pos (by omega)])
  subst e3
  replace hw : qw D (AL s) s.heap ((fl (BS x a b ap b2 aH aV cI cB cZ cS T C lat und pfl pln pkd pst pen per pls pss us f1 f2 f3 pf pm pt pl pw w1 w2 w3 w4 w5 w6 hn svd bf y0 y1 y2 y3 y4 y5 y6 y7 ht cH cV) ++ [outC cJ ao f]) ++ (mW g cI cB cZ 2 pfl tl ts te tk nu er eo hL hS und bf dr td sa ad hi sl svd tr)) H locs := hw
  refine lv_istore (lv' := [(6, .int (iI r2)), (5, .int (iI 2)), (0, .ref bb), (1, .ref (x 0)), (2, .ref (g 0)), (3, .ref ao), (4, .int (iI i))]) hx hb dL_law_558 hl (by decide) rfl (fun ls hl => ?_)
  refine lv_aload_n hx hb dL_law_560 rfl (lv_at hl 4 rfl) ?_
  replace hw := hw.comm
  refine q_callH (As := []) (rest := []) (zy_ok z) hx hb hml hown hts hK (qH_P c_X7_thrown) yi_X7_thrown ml_L_88 (by rw [hR]; exact ⟨Nat.le_of_ble_eq_true rfl, Nat.le_of_ble_eq_true rfl⟩) hw hA hZ 0 rfl rfl rfl rfl hl.1 (lv_room (Nat.le_of_ble_eq_true rfl)) dL_law_561 ⟨by rw [hR]; have hcs1 := hcs.1; omega, by rw [hR]; have hcs2 := hcs.2; omega⟩ (fun u H locs _ hw => ?_)
  replace hw : qw D (AL s) s.heap ((fl (BS x a b ap b2 aH aV cI cB cZ cS T C lat und pfl pln pkd pst pen per pls pss us f1 f2 f3 pf pm pt pl pw w1 w2 w3 w4 w5 w6 hn svd bf y0 y1 y2 y3 y4 y5 y6 y7 ht cH cV) ++ [outC cJ ao f]) ++ (mW g cI cB cZ 2 pfl tl ts te tk nu er eo hL hS und bf dr td sa ad hi sl svd tr)) H locs := hw.comm
  refine lv_iload hx hb dL_law_564 (lv_at hl 1 rfl) ?_
  refine q_same (tgt := 571) hx hb dL_law_566 (by decide) ?_
  refine lv_iload hx hb dL_law_571 (lv_at hl 1 rfl) ?_
  refine q_if_ne (tgt := 588) hx hb dL_law_573 (by decide) (by decide) (fun _ => ?_) (fun c9 => absurd c9 (by decide))
  refine lv_goto (tgt := 1484) hx hb dL_law_588 (by decide) ?_
  exact (kk _ H locs ls ⟨b, b2, T, C, cH, cV, lat, und, pfl, pln, pkd, pst, pen, per, pls, pss, us, f1, f2, f3, pf, pm, pt, pl, pw, w1, w2, w3, w4, w5, w6, hn, 2, tl, ts, te, tk, nu, er, eo, hL, hS, svd, bf, y0, y1, y2, y3, y4, y5, y6, y7, ht, dr, td, sa, ad, hi, sl, tr, f, ⟨hM, hFR, hby, hpf, hnu, hln, hHW, hsv, hSW⟩, rfl⟩ hw (lv_sub hl [2, 3, 4, 5, 6] rfl))

set_option maxHeartbeats 4000000 in
set_option maxRecDepth 100000 in
theorem law_page_1 (h1 : ¬ (0 ≤ (sX xs i 1) ∧ (sX xs i 1) < C 11 3)) (hB : LB p l s m args c R z D cI cB cZ cS cJ bb L xs) (hF : LF i T C td sa hi sl svd bf pfl nu eo lat und cH cV) (hw : qw D (AL s) s.heap ((fl (BS x a b ap b2 aH aV cI cB cZ cS T C lat und pfl pln pkd pst pen per pls pss us f1 f2 f3 pf pm pt pl pw w1 w2 w3 w4 w5 w6 hn svd bf y0 y1 y2 y3 y4 y5 y6 y7 ht cH cV) ++ [outC cJ ao f]) ++ (mW g cI cB cZ th pfl tl ts te tk nu er eo hL hS und bf dr td sa ad hi sl svd tr)) H locs) (hl : lv_has ls 9 (lv5 x g ao bb i)) (hrn : 0 ≤ i ∧ i + 6 ≤ (L : Int)) (hcs : cells + 1 ≤ room_1.cells ∧ slots + 6 ≤ room_1.slots) (kk : ∀ (ws1 : va_W) (H1 : Heap) (locs1 : List Loc) (ls1 : Array Slot), LI x a ap aH aV g ao cI cB cZ cS cJ (i + 6) ws1 → qw D (AL s) s.heap ws1 H1 locs1 → lv_has ls1 9 (lv5 x g ao bb i) → W p l e R s m args below meth c H1 locs1 (cells + 1) (slots + 6) Q (F0 m 1484 ls1 [])) : W p l e R s m args below meth c H locs cells slots Q (F0 m 523 ls []) := by
  have hB0 := hB
  obtain ⟨⟨hx, hb, hml, hown, hts, hK⟩, hR, hZ, hst, hX, hbl, hL9⟩ := hB0
  obtain ⟨hM, hFR, hby, hpf, hnu, hla, hHW, hsv, hSW⟩ := hF
  have hlc : 0 ≤ lat ∧ lat ≤ 1000000 ∧ 0 ≤ und ∧ und ≤ 10 := by omega
  have hln : und ≤ lat ∧ lat ≤ i + 6 ∧ 0 ≤ und ∧ und ≤ 10 := by omega
  have hA : ∀ q : Nat, s.heap.size ≤ q → AL s q := fun q h => h
  have hl : lv_has ls 9 [(0, .ref bb), (1, .ref (x 0)), (2, .ref (g 0)), (3, .ref ao), (4, .int (iI i))] := hl
  refine lv_aload_n hx hb dL_law_523 rfl (lv_at hl 1 rfl) ?_
  refine lv_aload_n hx hb dL_law_524 rfl (lv_at hl 0 rfl) ?_
  refine lv_iload hx hb dL_law_525 (lv_at hl 4 rfl) ?_
  refine q_iconst hx hb dL_law_527 ?_
  refine q_iadd hx hb dL_law_528 ?_
  refine q_scr hB hw ⟨by omega, by omega⟩ dL_law_529 ?_
  refine lv_aload_n hx hb dL_law_530 rfl (lv_at hl 0 rfl) ?_
  refine lv_iload hx hb dL_law_531 (lv_at hl 4 rfl) ?_
  refine q_iconst hx hb dL_law_533 ?_
  refine q_iadd hx hb dL_law_534 ?_
  refine q_scr hB hw ⟨by omega, by omega⟩ dL_law_535 ?_
  refine lv_aload_n hx hb dL_law_536 rfl (lv_at hl 3 rfl) ?_
  have hH := c_L_page_x1 (l := l) (D := D) (z := z) (cI := cI) (cB := cB) (cZ := cZ) (cS := cS) (cJ := cJ) (ao := ao) (W0 := (fl (BS x a b ap b2 aH aV cI cB cZ cS T C lat und pfl pln pkd pst pen per pls pss us f1 f2 f3 pf pm pt pl pw w1 w2 w3 w4 w5 w6 hn svd bf y0 y1 y2 y3 y4 y5 y6 y7 ht cH cV))) (b0 := x 0) (f := f) ((sX xs i 1)) ((sX xs i 2)) rfl (qT_up (l := l) (D := D) (Z := ZY z) (ty := tyG cI cB cZ cS cJ) (W9 := (fl (BS x a b ap b2 aH aV cI cB cZ cS T C lat und pfl pln pkd pst pen per pls pss us f1 f2 f3 pf pm pt pl pw w1 w2 w3 w4 w5 w6 hn svd bf y0 y1 y2 y3 y4 y5 y6 y7 ht cH cV))) (zy_ok z) (c_X6_page_x1 (sX xs i 1) (sX xs i 2) hM.1 hM.2.2.1 hst (rg_of _) h1) _ cs_U)
  refine q_callW (As := [.ref (x 0), .int (iI (sX xs i 1)), .int (iI (sX xs i 2)), .ref ao]) (rest := []) (zy_ok z) hx hb hml hown hts hK hH cw_L_page ini_L st_L_page yw_L_page.1 yw_L_page.2 ml_L_109 (by rw [hR]; exact ⟨Nat.le_of_ble_eq_true rfl, Nat.le_of_ble_eq_true rfl⟩) hw hA hZ rfl rfl hl.1 (lv_room (Nat.le_of_ble_eq_true rfl)) dL_law_537 ⟨by rw [hR]; have hcs1 := hcs.1; omega, by rw [hR]; have hcs2 := hcs.2; omega⟩ (fun u H locs hu hw => ?_)
  replace hw : qw D (AL s) s.heap ((fl (BS x a b ap b2 aH aV cI cB cZ cS T C lat und pfl pln pkd pst pen per pls pss us f1 f2 f3 pf pm pt pl pw w1 w2 w3 w4 w5 w6 hn svd bf y0 y1 y2 y3 y4 y5 y6 y7 ht cH cV) ++ [outC cJ ao f]) ++ (mW g cI cB cZ th pfl tl ts te tk nu er eo hL hS und bf dr td sa ad hi sl svd tr)) H locs := hw
  refine lv_istore (lv' := [(5, .int (iI 1)), (0, .ref bb), (1, .ref (x 0)), (2, .ref (g 0)), (3, .ref ao), (4, .int (iI i))]) hx hb dL_law_540 hl (by decide) rfl (fun ls hl => ?_)
  refine lv_aload_n hx hb dL_law_542 rfl (lv_at hl 3 rfl) ?_
  refine lv_aload_n hx hb dL_law_543 rfl (lv_at hl 1 rfl) ?_
  refine lv_iload hx hb dL_law_544 (lv_at hl 5 rfl) ?_
  refine q_iconst hx hb dL_law_546 ?_
  refine q_iadd hx hb dL_law_547 ?_
  refine q_scr hB hw ⟨by omega, by omega⟩ dL_law_548 ?_
  refine lv_aload_n hx hb dL_law_549 rfl (lv_at hl 1 rfl) ?_
  refine lv_iload hx hb dL_law_550 (lv_at hl 5 rfl) ?_
  refine q_iconst hx hb dL_law_552 ?_
  refine q_iadd hx hb dL_law_553 ?_
  refine q_scr hB hw ⟨by omega, by omega⟩ dL_law_554 ?_
  replace hw := hw.comm
  refine q_callH (As := [.int (iI (sX xs i 1)), .int (iI (sX xs i 2))]) (rest := []) (zy_ok z) hx hb hml hown hts hK (qH_M (c_X7_page (sX xs i 1) (sX xs i 2) hM (rg_of _) (rg_of _))) yi_X7_page ml_L_111 (by rw [hR]; exact ⟨Nat.le_of_ble_eq_true rfl, Nat.le_of_ble_eq_true rfl⟩) hw hA hZ 0 rfl rfl rfl rfl hl.1 (lv_room (Nat.le_of_ble_eq_true rfl)) dL_law_555 ⟨by rw [hR]; have hcs1 := hcs.1; omega, by rw [hR]; have hcs2 := hcs.2; omega⟩ (fun u H locs hu hw => ?_)
  obtain ⟨th2, r2⟩ := u
  obtain ⟨e1, e2⟩ := hu
  replace hw : qw D (AL s) s.heap ((fl (BS x a b ap b2 aH aV cI cB cZ cS T C lat und pfl pln pkd pst pen per pls pss us f1 f2 f3 pf pm pt pl pw w1 w2 w3 w4 w5 w6 hn svd bf y0 y1 y2 y3 y4 y5 y6 y7 ht cH cV) ++ [outC cJ ao f]) ++ (mW g cI cB cZ th2 pfl tl ts te tk nu er eo hL hS und bf dr td sa ad hi sl svd tr)) H locs := hw.comm
  have e3 : th2 = 1 := e1.trans (by rw [if_pos (by omega)])
  subst e3
  replace hw : qw D (AL s) s.heap ((fl (BS x a b ap b2 aH aV cI cB cZ cS T C lat und pfl pln pkd pst pen per pls pss us f1 f2 f3 pf pm pt pl pw w1 w2 w3 w4 w5 w6 hn svd bf y0 y1 y2 y3 y4 y5 y6 y7 ht cH cV) ++ [outC cJ ao f]) ++ (mW g cI cB cZ 1 pfl tl ts te tk nu er eo hL hS und bf dr td sa ad hi sl svd tr)) H locs := hw
  refine lv_istore (lv' := [(6, .int (iI r2)), (5, .int (iI 1)), (0, .ref bb), (1, .ref (x 0)), (2, .ref (g 0)), (3, .ref ao), (4, .int (iI i))]) hx hb dL_law_558 hl (by decide) rfl (fun ls hl => ?_)
  refine lv_aload_n hx hb dL_law_560 rfl (lv_at hl 4 rfl) ?_
  replace hw := hw.comm
  refine q_callH (As := []) (rest := []) (zy_ok z) hx hb hml hown hts hK (qH_P c_X7_thrown) yi_X7_thrown ml_L_88 (by rw [hR]; exact ⟨Nat.le_of_ble_eq_true rfl, Nat.le_of_ble_eq_true rfl⟩) hw hA hZ 0 rfl rfl rfl rfl hl.1 (lv_room (Nat.le_of_ble_eq_true rfl)) dL_law_561 ⟨by rw [hR]; have hcs1 := hcs.1; omega, by rw [hR]; have hcs2 := hcs.2; omega⟩ (fun u H locs _ hw => ?_)
  replace hw : qw D (AL s) s.heap ((fl (BS x a b ap b2 aH aV cI cB cZ cS T C lat und pfl pln pkd pst pen per pls pss us f1 f2 f3 pf pm pt pl pw w1 w2 w3 w4 w5 w6 hn svd bf y0 y1 y2 y3 y4 y5 y6 y7 ht cH cV) ++ [outC cJ ao f]) ++ (mW g cI cB cZ 1 pfl tl ts te tk nu er eo hL hS und bf dr td sa ad hi sl svd tr)) H locs := hw.comm
  refine lv_iload hx hb dL_law_564 (lv_at hl 1 rfl) ?_
  refine q_same (tgt := 571) hx hb dL_law_566 (by decide) ?_
  refine lv_iload hx hb dL_law_571 (lv_at hl 1 rfl) ?_
  refine q_if_ne (tgt := 588) hx hb dL_law_573 (by decide) (by decide) (fun _ => ?_) (fun c9 => absurd c9 (by decide))
  refine lv_goto (tgt := 1484) hx hb dL_law_588 (by decide) ?_
  exact (kk _ H locs ls ⟨b, b2, T, C, cH, cV, lat, und, pfl, pln, pkd, pst, pen, per, pls, pss, us, f1, f2, f3, pf, pm, pt, pl, pw, w1, w2, w3, w4, w5, w6, hn, 1, tl, ts, te, tk, nu, er, eo, hL, hS, svd, bf, y0, y1, y2, y3, y4, y5, y6, y7, ht, dr, td, sa, ad, hi, sl, tr, f, ⟨hM, hFR, hby, hpf, hnu, hln, hHW, hsv, hSW⟩, rfl⟩ hw (lv_sub hl [2, 3, 4, 5, 6] rfl))

theorem law_page (hB : LB p l s m args c R z D cI cB cZ cS cJ bb L xs) (hI : LI x a ap aH aV g ao cI cB cZ cS cJ i ws) (hw : qw D (AL s) s.heap ws H locs) (hl : lv_has ls 9 (lv5 x g ao bb i)) (hrn : 0 ≤ i ∧ i + 6 ≤ (L : Int)) (hcs : cells + 1 ≤ room_1.cells ∧ slots + 6 ≤ room_1.slots) (kk : ∀ (ws1 : va_W) (H1 : Heap) (locs1 : List Loc) (ls1 : Array Slot), LI x a ap aH aV g ao cI cB cZ cS cJ (i + 6) ws1 → qw D (AL s) s.heap ws1 H1 locs1 → lv_has ls1 9 (lv5 x g ao bb i) → W p l e R s m args below meth c H1 locs1 (cells + 1) (slots + 6) Q (F0 m 1484 ls1 [])) : W p l e R s m args below meth c H locs cells slots Q (F0 m 523 ls []) := by
  obtain ⟨b, b2, T, C, cH, cV, lat, und, pfl, pln, pkd, pst, pen, per, pls, pss, us, f1, f2, f3, pf, pm, pt, pl, pw, w1, w2, w3, w4, w5, w6, hn, th, tl, ts, te, tk, nu, er, eo, hL, hS, svd, bf, y0, y1, y2, y3, y4, y5, y6, y7, ht, dr, td, sa, ad, hi, sl, tr, f, hF, rfl⟩ := hI
  by_cases h1 : 0 ≤ (sX xs i 1) ∧ (sX xs i 1) < C 11 3
  · by_cases h2 : 0 ≤ (sX xs i 2) ∧ (sX xs i 2) ≤ 2
    · exact law_page_0 h1 h2 hB hF hw hl hrn hcs kk
    · exact law_page_2 h1 h2 hB hF hw hl hrn hcs kk
  · exact law_page_1 h1 hB hF hw hl hrn hcs kk

set_option maxHeartbeats 4000000 in
set_option maxRecDepth 100000 in
theorem law_job_0 (h1 : 0 ≤ (sX xs i 1) ∧ (sX xs i 1) < C 11 4) (h2 : 0 ≤ (sX xs i 2) ∧ (sX xs i 2) ≤ 3) (hB : LB p l s m args c R z D cI cB cZ cS cJ bb L xs) (hF : LF i T C td sa hi sl svd bf pfl nu eo lat und cH cV) (hw : qw D (AL s) s.heap ((fl (BS x a b ap b2 aH aV cI cB cZ cS T C lat und pfl pln pkd pst pen per pls pss us f1 f2 f3 pf pm pt pl pw w1 w2 w3 w4 w5 w6 hn svd bf y0 y1 y2 y3 y4 y5 y6 y7 ht cH cV) ++ [outC cJ ao f]) ++ (mW g cI cB cZ th pfl tl ts te tk nu er eo hL hS und bf dr td sa ad hi sl svd tr)) H locs) (hl : lv_has ls 9 (lv5 x g ao bb i)) (hrn : 0 ≤ i ∧ i + 6 ≤ (L : Int)) (hcs : cells + 1 ≤ room_1.cells ∧ slots + 6 ≤ room_1.slots) (kk : ∀ (ws1 : va_W) (H1 : Heap) (locs1 : List Loc) (ls1 : Array Slot), LI x a ap aH aV g ao cI cB cZ cS cJ (i + 6) ws1 → qw D (AL s) s.heap ws1 H1 locs1 → lv_has ls1 9 (lv5 x g ao bb i) → W p l e R s m args below meth c H1 locs1 (cells + 1) (slots + 6) Q (F0 m 1484 ls1 [])) : W p l e R s m args below meth c H locs cells slots Q (F0 m 591 ls []) := by
  have hB0 := hB
  obtain ⟨⟨hx, hb, hml, hown, hts, hK⟩, hR, hZ, hst, hX, hbl, hL9⟩ := hB0
  obtain ⟨hM, hFR, hby, hpf, hnu, hla, hHW, hsv, hSW⟩ := hF
  have hlc : 0 ≤ lat ∧ lat ≤ 1000000 ∧ 0 ≤ und ∧ und ≤ 10 := by omega
  have hln : und ≤ lat ∧ lat ≤ i + 6 ∧ 0 ≤ und ∧ und ≤ 10 := by omega
  have hA : ∀ q : Nat, s.heap.size ≤ q → AL s q := fun q h => h
  have hl : lv_has ls 9 [(0, .ref bb), (1, .ref (x 0)), (2, .ref (g 0)), (3, .ref ao), (4, .int (iI i))] := hl
  refine lv_aload_n hx hb dL_law_591 rfl (lv_at hl 1 rfl) ?_
  refine lv_aload_n hx hb dL_law_592 rfl (lv_at hl 0 rfl) ?_
  refine lv_iload hx hb dL_law_593 (lv_at hl 4 rfl) ?_
  refine q_iconst hx hb dL_law_595 ?_
  refine q_iadd hx hb dL_law_596 ?_
  refine q_scr hB hw ⟨by omega, by omega⟩ dL_law_597 ?_
  refine lv_aload_n hx hb dL_law_598 rfl (lv_at hl 0 rfl) ?_
  refine lv_iload hx hb dL_law_599 (lv_at hl 4 rfl) ?_
  refine q_iconst hx hb dL_law_601 ?_
  refine q_iadd hx hb dL_law_602 ?_
  refine q_scr hB hw ⟨by omega, by omega⟩ dL_law_603 ?_
  refine lv_aload_n hx hb dL_law_604 rfl (lv_at hl 3 rfl) ?_
  have hH := c_L_job (l := l) (D := D) (z := z) (cI := cI) (cB := cB) (cZ := cZ) (cS := cS) (cJ := cJ) (ao := ao) (W0 := (fl (BS x a b ap b2 aH aV cI cB cZ cS T C lat und pfl pln pkd pst pen per pls pss us f1 f2 f3 pf pm pt pl pw w1 w2 w3 w4 w5 w6 hn svd bf y0 y1 y2 y3 y4 y5 y6 y7 ht cH cV))) (b0 := x 0) (f := f) ((sX xs i 1)) ((sX xs i 2)) rfl (qH_up (l := l) (D := D) (Z := ZY z) (ty := tyG cI cB cZ cS cJ) (W9 := (fl (BS x a b ap b2 aH aV cI cB cZ cS T C lat und pfl pln pkd pst pen per pls pss us f1 f2 f3 pf pm pt pl pw w1 w2 w3 w4 w5 w6 hn svd bf y0 y1 y2 y3 y4 y5 y6 y7 ht cH cV))) (zy_ok z) (qH_P (c_X6_job (sX xs i 1) (sX xs i 2) hM.1 hM.2.2.1 h2 h1)) _ (cs_A (x := x) (a := a) (ap := ap) (aH := aH) (aV := aV) (cI := cI) (cB := cB) (cZ := cZ) (cS := cS) (b := b) (b2 := b2) (T := T) (C := C) (cH := cH) (cV := cV) (lat := lat) (und := und) (pfl := pfl) (pln := pln) (pkd := pkd) (pst := pst) (pen := pen) (per := per) (pls := pls) (pss := pss) (us := us) (f1 := f1) (f2 := f2) (f3 := f3) (pf := pf) (pm := pm) (pt := pt) (pl := pl) (pw := pw) (w1 := w1) (w2 := w2) (w3 := w3) (w4 := w4) (w5 := w5) (w6 := w6) (hn := hn) (svd := svd) (bf := bf) (y0 := y0) (y1 := y1) (y2 := y2) (y3 := y3) (y4 := y4) (y5 := y5) (y6 := y6) (y7 := y7) (ht := ht)) (fun u _ => (cs_A (x := x) (a := a) (ap := ap) (aH := aH) (aV := aV) (cI := cI) (cB := cB) (cZ := cZ) (cS := cS) (b := b) (b2 := b2) (T := T) (C := C) (cH := cH) (cV := cV) (lat := lat) (und := und) (pfl := pfl) (pln := pln) (pkd := pkd) (pst := pst) (pen := pen) (per := per) (pls := pls) (pss := pss) (us := us) (f1 := f1) (f2 := f2) (f3 := f3) (pf := pf) (pm := pm) (pt := pt) (pl := pl) (pw := pw) (w1 := w1) (w2 := w2) (w3 := w3) (w4 := w4) (w5 := w5) (w6 := w6) (hn := hn) (svd := svd) (bf := bf) (y0 := y0) (y1 := y1) (y2 := y2) (y3 := y3) (y4 := y4) (y5 := y5) (y6 := y6) (y7 := y7) (ht := ht)).symm))
  refine q_callW (As := [.ref (x 0), .int (iI (sX xs i 1)), .int (iI (sX xs i 2)), .ref ao]) (rest := []) (zy_ok z) hx hb hml hown hts hK hH cw_L_job ini_L st_L_job yw_L_job.1 yw_L_job.2 ml_L_112 (by rw [hR]; exact ⟨Nat.le_of_ble_eq_true rfl, Nat.le_of_ble_eq_true rfl⟩) hw hA hZ rfl rfl hl.1 (lv_room (Nat.le_of_ble_eq_true rfl)) dL_law_605 ⟨by rw [hR]; have hcs1 := hcs.1; omega, by rw [hR]; have hcs2 := hcs.2; omega⟩ (fun u H locs hu hw => ?_)
  replace hw : qw D (AL s) s.heap ((fl (BS x a b ap b2 aH aV cI cB cZ cS T C lat und pfl pln pkd pst pen per pls pss us f1 f2 f3 pf pm pt pl pw w1 w2 w3 w4 w5 w6 hn svd bf y0 y1 y2 y3 y4 y5 y6 y7 ht cH cV) ++ [outC cJ ao (vp_updL f 0 (iI (jobV C (sX xs i 1) (sX xs i 2))).toInt64)]) ++ (mW g cI cB cZ th pfl tl ts te tk nu er eo hL hS und bf dr td sa ad hi sl svd tr)) H locs := hw
  refine lv_istore (lv' := [(5, .int (iI 0)), (0, .ref bb), (1, .ref (x 0)), (2, .ref (g 0)), (3, .ref ao), (4, .int (iI i))]) hx hb dL_law_608 hl (by decide) rfl (fun ls hl => ?_)
  refine lv_aload_n hx hb dL_law_610 rfl (lv_at hl 3 rfl) ?_
  refine lv_aload_n hx hb dL_law_611 rfl (lv_at hl 1 rfl) ?_
  refine lv_iload hx hb dL_law_612 (lv_at hl 5 rfl) ?_
  refine q_iconst hx hb dL_law_614 ?_
  refine q_iadd hx hb dL_law_615 ?_
  refine q_scr hB hw ⟨by omega, by omega⟩ dL_law_616 ?_
  refine lv_aload_n hx hb dL_law_617 rfl (lv_at hl 1 rfl) ?_
  refine lv_iload hx hb dL_law_618 (lv_at hl 5 rfl) ?_
  refine q_iconst hx hb dL_law_620 ?_
  refine q_iadd hx hb dL_law_621 ?_
  refine q_scr hB hw ⟨by omega, by omega⟩ dL_law_622 ?_
  replace hw := hw.comm
  refine q_callH (As := [.int (iI (sX xs i 1)), .int (iI (sX xs i 2))]) (rest := []) (zy_ok z) hx hb hml hown hts hK (qH_M (c_X7_job (sX xs i 1) (sX xs i 2) hM (rg_of _) (rg_of _))) yi_X7_job ml_L_114 (by rw [hR]; exact ⟨Nat.le_of_ble_eq_true rfl, Nat.le_of_ble_eq_true rfl⟩) hw hA hZ 0 rfl rfl rfl rfl hl.1 (lv_room (Nat.le_of_ble_eq_true rfl)) dL_law_623 ⟨by rw [hR]; have hcs1 := hcs.1; omega, by rw [hR]; have hcs2 := hcs.2; omega⟩ (fun u H locs hu hw => ?_)
  obtain ⟨th2, r2⟩ := u
  obtain ⟨e1, e2⟩ := hu
  replace hw : qw D (AL s) s.heap ((fl (BS x a b ap b2 aH aV cI cB cZ cS T C lat und pfl pln pkd pst pen per pls pss us f1 f2 f3 pf pm pt pl pw w1 w2 w3 w4 w5 w6 hn svd bf y0 y1 y2 y3 y4 y5 y6 y7 ht cH cV) ++ [outC cJ ao (vp_updL f 0 (iI (jobV C (sX xs i 1) (sX xs i 2))).toInt64)]) ++ (mW g cI cB cZ th2 pfl tl ts te tk nu er eo hL hS und bf dr td sa ad hi sl svd tr)) H locs := hw.comm
  have e3 : th2 = 0 := e1.trans (by rw [if_neg (by omega), if_neg (by omega)])
  have e4 := e2 e3
  subst e3
  subst e4
  replace hw : qw D (AL s) s.heap ((fl (BS x a b ap b2 aH aV cI cB cZ cS T C lat und pfl pln pkd pst pen per pls pss us f1 f2 f3 pf pm pt pl pw w1 w2 w3 w4 w5 w6 hn svd bf y0 y1 y2 y3 y4 y5 y6 y7 ht cH cV) ++ [outC cJ ao (vp_updL f 0 (iI (jobV C (sX xs i 1) (sX xs i 2))).toInt64)]) ++ (mW g cI cB cZ 0 pfl tl ts te tk nu er eo hL hS und bf dr td sa ad hi sl svd tr)) H locs := hw
  refine lv_istore (lv' := [(6, .int (iI (jobV C (sX xs i 1) (sX xs i 2)))), (5, .int (iI 0)), (0, .ref bb), (1, .ref (x 0)), (2, .ref (g 0)), (3, .ref ao), (4, .int (iI i))]) hx hb dL_law_626 hl (by decide) rfl (fun ls hl => ?_)
  refine lv_aload_n hx hb dL_law_628 rfl (lv_at hl 4 rfl) ?_
  replace hw := hw.comm
  refine q_callH (As := []) (rest := []) (zy_ok z) hx hb hml hown hts hK (qH_P c_X7_thrown) yi_X7_thrown ml_L_88 (by rw [hR]; exact ⟨Nat.le_of_ble_eq_true rfl, Nat.le_of_ble_eq_true rfl⟩) hw hA hZ 0 rfl rfl rfl rfl hl.1 (lv_room (Nat.le_of_ble_eq_true rfl)) dL_law_629 ⟨by rw [hR]; have hcs1 := hcs.1; omega, by rw [hR]; have hcs2 := hcs.2; omega⟩ (fun u H locs _ hw => ?_)
  replace hw : qw D (AL s) s.heap ((fl (BS x a b ap b2 aH aV cI cB cZ cS T C lat und pfl pln pkd pst pen per pls pss us f1 f2 f3 pf pm pt pl pw w1 w2 w3 w4 w5 w6 hn svd bf y0 y1 y2 y3 y4 y5 y6 y7 ht cH cV) ++ [outC cJ ao (vp_updL f 0 (iI (jobV C (sX xs i 1) (sX xs i 2))).toInt64)]) ++ (mW g cI cB cZ 0 pfl tl ts te tk nu er eo hL hS und bf dr td sa ad hi sl svd tr)) H locs := hw.comm
  refine lv_iload hx hb dL_law_632 (lv_at hl 1 rfl) ?_
  refine q_same (tgt := 639) hx hb dL_law_634 (by decide) ?_
  refine lv_iload hx hb dL_law_639 (lv_at hl 1 rfl) ?_
  refine q_if_ne (tgt := 656) hx hb dL_law_641 (by decide) (by decide) (fun c9 => absurd rfl c9) (fun _ => ?_)
  refine lv_aload_n hx hb dL_law_644 rfl (lv_at hl 5 rfl) ?_
  refine q_iconst hx hb dL_law_645 ?_
  refine q_lald hx hb hK hw.1 (fl (BS x a b ap b2 aH aV cI cB cZ cS T C lat und pfl pln pkd pst pen per pls pss us f1 f2 f3 pf pm pt pl pw w1 w2 w3 w4 w5 w6 hn svd bf y0 y1 y2 y3 y4 y5 y6 y7 ht cH cV)).length 4 (get_mid _ _ _) rfl (vu_0 _ _) dL_law_646 ?_
  refine lv_iload hx hb dL_law_647 (lv_at hl 0 rfl) ?_
  refine lv_i2l hx hb dL_law_649 rfl ?_
  refine q_lsame (tgt := 656) hx hb dL_law_650 dL_law_651 (by decide) ?_
  refine lv_goto (tgt := 1484) hx hb dL_law_656 (by decide) ?_
  exact W_wide (Nat.le_succ _) (Nat.le_add_right _ _) (kk _ H locs ls ⟨b, b2, T, C, cH, cV, lat, und, pfl, pln, pkd, pst, pen, per, pls, pss, us, f1, f2, f3, pf, pm, pt, pl, pw, w1, w2, w3, w4, w5, w6, hn, 0, tl, ts, te, tk, nu, er, eo, hL, hS, svd, bf, y0, y1, y2, y3, y4, y5, y6, y7, ht, dr, td, sa, ad, hi, sl, tr, (vp_updL f 0 (iI (jobV C (sX xs i 1) (sX xs i 2))).toInt64), ⟨hM, hFR, hby, hpf, hnu, hln, hHW, hsv, hSW⟩, rfl⟩ hw (lv_sub hl [2, 3, 4, 5, 6] rfl))

set_option maxHeartbeats 4000000 in
set_option maxRecDepth 100000 in
theorem law_job_2 (h1 : 0 ≤ (sX xs i 1) ∧ (sX xs i 1) < C 11 4) (h2 : ¬ (0 ≤ (sX xs i 2) ∧ (sX xs i 2) ≤ 3)) (hB : LB p l s m args c R z D cI cB cZ cS cJ bb L xs) (hF : LF i T C td sa hi sl svd bf pfl nu eo lat und cH cV) (hw : qw D (AL s) s.heap ((fl (BS x a b ap b2 aH aV cI cB cZ cS T C lat und pfl pln pkd pst pen per pls pss us f1 f2 f3 pf pm pt pl pw w1 w2 w3 w4 w5 w6 hn svd bf y0 y1 y2 y3 y4 y5 y6 y7 ht cH cV) ++ [outC cJ ao f]) ++ (mW g cI cB cZ th pfl tl ts te tk nu er eo hL hS und bf dr td sa ad hi sl svd tr)) H locs) (hl : lv_has ls 9 (lv5 x g ao bb i)) (hrn : 0 ≤ i ∧ i + 6 ≤ (L : Int)) (hcs : cells + 1 ≤ room_1.cells ∧ slots + 6 ≤ room_1.slots) (kk : ∀ (ws1 : va_W) (H1 : Heap) (locs1 : List Loc) (ls1 : Array Slot), LI x a ap aH aV g ao cI cB cZ cS cJ (i + 6) ws1 → qw D (AL s) s.heap ws1 H1 locs1 → lv_has ls1 9 (lv5 x g ao bb i) → W p l e R s m args below meth c H1 locs1 (cells + 1) (slots + 6) Q (F0 m 1484 ls1 [])) : W p l e R s m args below meth c H locs cells slots Q (F0 m 591 ls []) := by
  have hB0 := hB
  obtain ⟨⟨hx, hb, hml, hown, hts, hK⟩, hR, hZ, hst, hX, hbl, hL9⟩ := hB0
  obtain ⟨hM, hFR, hby, hpf, hnu, hla, hHW, hsv, hSW⟩ := hF
  have hlc : 0 ≤ lat ∧ lat ≤ 1000000 ∧ 0 ≤ und ∧ und ≤ 10 := by omega
  have hln : und ≤ lat ∧ lat ≤ i + 6 ∧ 0 ≤ und ∧ und ≤ 10 := by omega
  have hA : ∀ q : Nat, s.heap.size ≤ q → AL s q := fun q h => h
  have hl : lv_has ls 9 [(0, .ref bb), (1, .ref (x 0)), (2, .ref (g 0)), (3, .ref ao), (4, .int (iI i))] := hl
  refine lv_aload_n hx hb dL_law_591 rfl (lv_at hl 1 rfl) ?_
  refine lv_aload_n hx hb dL_law_592 rfl (lv_at hl 0 rfl) ?_
  refine lv_iload hx hb dL_law_593 (lv_at hl 4 rfl) ?_
  refine q_iconst hx hb dL_law_595 ?_
  refine q_iadd hx hb dL_law_596 ?_
  refine q_scr hB hw ⟨by omega, by omega⟩ dL_law_597 ?_
  refine lv_aload_n hx hb dL_law_598 rfl (lv_at hl 0 rfl) ?_
  refine lv_iload hx hb dL_law_599 (lv_at hl 4 rfl) ?_
  refine q_iconst hx hb dL_law_601 ?_
  refine q_iadd hx hb dL_law_602 ?_
  refine q_scr hB hw ⟨by omega, by omega⟩ dL_law_603 ?_
  refine lv_aload_n hx hb dL_law_604 rfl (lv_at hl 3 rfl) ?_
  have hH := c_L_job_x2 (l := l) (D := D) (z := z) (cI := cI) (cB := cB) (cZ := cZ) (cS := cS) (cJ := cJ) (ao := ao) (W0 := (fl (BS x a b ap b2 aH aV cI cB cZ cS T C lat und pfl pln pkd pst pen per pls pss us f1 f2 f3 pf pm pt pl pw w1 w2 w3 w4 w5 w6 hn svd bf y0 y1 y2 y3 y4 y5 y6 y7 ht cH cV))) (b0 := x 0) (f := f) ((sX xs i 1)) ((sX xs i 2)) rfl (qT_up (l := l) (D := D) (Z := ZY z) (ty := tyG cI cB cZ cS cJ) (W9 := (fl (BS x a b ap b2 aH aV cI cB cZ cS T C lat und pfl pln pkd pst pen per pls pss us f1 f2 f3 pf pm pt pl pw w1 w2 w3 w4 w5 w6 hn svd bf y0 y1 y2 y3 y4 y5 y6 y7 ht cH cV))) (zy_ok z) (c_X6_job_x2 (sX xs i 1) (sX xs i 2) hM.1 hM.2.2.1 hst h1 (rg_of _) h2) _ cs_U)
  refine q_callW (As := [.ref (x 0), .int (iI (sX xs i 1)), .int (iI (sX xs i 2)), .ref ao]) (rest := []) (zy_ok z) hx hb hml hown hts hK hH cw_L_job ini_L st_L_job yw_L_job.1 yw_L_job.2 ml_L_112 (by rw [hR]; exact ⟨Nat.le_of_ble_eq_true rfl, Nat.le_of_ble_eq_true rfl⟩) hw hA hZ rfl rfl hl.1 (lv_room (Nat.le_of_ble_eq_true rfl)) dL_law_605 ⟨by rw [hR]; have hcs1 := hcs.1; omega, by rw [hR]; have hcs2 := hcs.2; omega⟩ (fun u H locs hu hw => ?_)
  replace hw : qw D (AL s) s.heap ((fl (BS x a b ap b2 aH aV cI cB cZ cS T C lat und pfl pln pkd pst pen per pls pss us f1 f2 f3 pf pm pt pl pw w1 w2 w3 w4 w5 w6 hn svd bf y0 y1 y2 y3 y4 y5 y6 y7 ht cH cV) ++ [outC cJ ao f]) ++ (mW g cI cB cZ th pfl tl ts te tk nu er eo hL hS und bf dr td sa ad hi sl svd tr)) H locs := hw
  refine lv_istore (lv' := [(5, .int (iI 2)), (0, .ref bb), (1, .ref (x 0)), (2, .ref (g 0)), (3, .ref ao), (4, .int (iI i))]) hx hb dL_law_608 hl (by decide) rfl (fun ls hl => ?_)
  refine lv_aload_n hx hb dL_law_610 rfl (lv_at hl 3 rfl) ?_
  refine lv_aload_n hx hb dL_law_611 rfl (lv_at hl 1 rfl) ?_
  refine lv_iload hx hb dL_law_612 (lv_at hl 5 rfl) ?_
  refine q_iconst hx hb dL_law_614 ?_
  refine q_iadd hx hb dL_law_615 ?_
  refine q_scr hB hw ⟨by omega, by omega⟩ dL_law_616 ?_
  refine lv_aload_n hx hb dL_law_617 rfl (lv_at hl 1 rfl) ?_
  refine lv_iload hx hb dL_law_618 (lv_at hl 5 rfl) ?_
  refine q_iconst hx hb dL_law_620 ?_
  refine q_iadd hx hb dL_law_621 ?_
  refine q_scr hB hw ⟨by omega, by omega⟩ dL_law_622 ?_
  replace hw := hw.comm
  refine q_callH (As := [.int (iI (sX xs i 1)), .int (iI (sX xs i 2))]) (rest := []) (zy_ok z) hx hb hml hown hts hK (qH_M (c_X7_job (sX xs i 1) (sX xs i 2) hM (rg_of _) (rg_of _))) yi_X7_job ml_L_114 (by rw [hR]; exact ⟨Nat.le_of_ble_eq_true rfl, Nat.le_of_ble_eq_true rfl⟩) hw hA hZ 0 rfl rfl rfl rfl hl.1 (lv_room (Nat.le_of_ble_eq_true rfl)) dL_law_623 ⟨by rw [hR]; have hcs1 := hcs.1; omega, by rw [hR]; have hcs2 := hcs.2; omega⟩ (fun u H locs hu hw => ?_)
  obtain ⟨th2, r2⟩ := u
  obtain ⟨e1, e2⟩ := hu
  replace hw : qw D (AL s) s.heap ((fl (BS x a b ap b2 aH aV cI cB cZ cS T C lat und pfl pln pkd pst pen per pls pss us f1 f2 f3 pf pm pt pl pw w1 w2 w3 w4 w5 w6 hn svd bf y0 y1 y2 y3 y4 y5 y6 y7 ht cH cV) ++ [outC cJ ao f]) ++ (mW g cI cB cZ th2 pfl tl ts te tk nu er eo hL hS und bf dr td sa ad hi sl svd tr)) H locs := hw.comm
  have e3 : th2 = 2 := e1.trans (by rw [if_neg (by omega), if_pos (by omega)])
  subst e3
  replace hw : qw D (AL s) s.heap ((fl (BS x a b ap b2 aH aV cI cB cZ cS T C lat und pfl pln pkd pst pen per pls pss us f1 f2 f3 pf pm pt pl pw w1 w2 w3 w4 w5 w6 hn svd bf y0 y1 y2 y3 y4 y5 y6 y7 ht cH cV) ++ [outC cJ ao f]) ++ (mW g cI cB cZ 2 pfl tl ts te tk nu er eo hL hS und bf dr td sa ad hi sl svd tr)) H locs := hw
  refine lv_istore (lv' := [(6, .int (iI r2)), (5, .int (iI 2)), (0, .ref bb), (1, .ref (x 0)), (2, .ref (g 0)), (3, .ref ao), (4, .int (iI i))]) hx hb dL_law_626 hl (by decide) rfl (fun ls hl => ?_)
  refine lv_aload_n hx hb dL_law_628 rfl (lv_at hl 4 rfl) ?_
  replace hw := hw.comm
  refine q_callH (As := []) (rest := []) (zy_ok z) hx hb hml hown hts hK (qH_P c_X7_thrown) yi_X7_thrown ml_L_88 (by rw [hR]; exact ⟨Nat.le_of_ble_eq_true rfl, Nat.le_of_ble_eq_true rfl⟩) hw hA hZ 0 rfl rfl rfl rfl hl.1 (lv_room (Nat.le_of_ble_eq_true rfl)) dL_law_629 ⟨by rw [hR]; have hcs1 := hcs.1; omega, by rw [hR]; have hcs2 := hcs.2; omega⟩ (fun u H locs _ hw => ?_)
  replace hw : qw D (AL s) s.heap ((fl (BS x a b ap b2 aH aV cI cB cZ cS T C lat und pfl pln pkd pst pen per pls pss us f1 f2 f3 pf pm pt pl pw w1 w2 w3 w4 w5 w6 hn svd bf y0 y1 y2 y3 y4 y5 y6 y7 ht cH cV) ++ [outC cJ ao f]) ++ (mW g cI cB cZ 2 pfl tl ts te tk nu er eo hL hS und bf dr td sa ad hi sl svd tr)) H locs := hw.comm
  refine lv_iload hx hb dL_law_632 (lv_at hl 1 rfl) ?_
  refine q_same (tgt := 639) hx hb dL_law_634 (by decide) ?_
  refine lv_iload hx hb dL_law_639 (lv_at hl 1 rfl) ?_
  refine q_if_ne (tgt := 656) hx hb dL_law_641 (by decide) (by decide) (fun _ => ?_) (fun c9 => absurd c9 (by decide))
  refine lv_goto (tgt := 1484) hx hb dL_law_656 (by decide) ?_
  exact (kk _ H locs ls ⟨b, b2, T, C, cH, cV, lat, und, pfl, pln, pkd, pst, pen, per, pls, pss, us, f1, f2, f3, pf, pm, pt, pl, pw, w1, w2, w3, w4, w5, w6, hn, 2, tl, ts, te, tk, nu, er, eo, hL, hS, svd, bf, y0, y1, y2, y3, y4, y5, y6, y7, ht, dr, td, sa, ad, hi, sl, tr, f, ⟨hM, hFR, hby, hpf, hnu, hln, hHW, hsv, hSW⟩, rfl⟩ hw (lv_sub hl [2, 3, 4, 5, 6] rfl))

set_option maxHeartbeats 4000000 in
set_option maxRecDepth 100000 in
theorem law_job_1 (h1 : ¬ (0 ≤ (sX xs i 1) ∧ (sX xs i 1) < C 11 4)) (hB : LB p l s m args c R z D cI cB cZ cS cJ bb L xs) (hF : LF i T C td sa hi sl svd bf pfl nu eo lat und cH cV) (hw : qw D (AL s) s.heap ((fl (BS x a b ap b2 aH aV cI cB cZ cS T C lat und pfl pln pkd pst pen per pls pss us f1 f2 f3 pf pm pt pl pw w1 w2 w3 w4 w5 w6 hn svd bf y0 y1 y2 y3 y4 y5 y6 y7 ht cH cV) ++ [outC cJ ao f]) ++ (mW g cI cB cZ th pfl tl ts te tk nu er eo hL hS und bf dr td sa ad hi sl svd tr)) H locs) (hl : lv_has ls 9 (lv5 x g ao bb i)) (hrn : 0 ≤ i ∧ i + 6 ≤ (L : Int)) (hcs : cells + 1 ≤ room_1.cells ∧ slots + 6 ≤ room_1.slots) (kk : ∀ (ws1 : va_W) (H1 : Heap) (locs1 : List Loc) (ls1 : Array Slot), LI x a ap aH aV g ao cI cB cZ cS cJ (i + 6) ws1 → qw D (AL s) s.heap ws1 H1 locs1 → lv_has ls1 9 (lv5 x g ao bb i) → W p l e R s m args below meth c H1 locs1 (cells + 1) (slots + 6) Q (F0 m 1484 ls1 [])) : W p l e R s m args below meth c H locs cells slots Q (F0 m 591 ls []) := by
  have hB0 := hB
  obtain ⟨⟨hx, hb, hml, hown, hts, hK⟩, hR, hZ, hst, hX, hbl, hL9⟩ := hB0
  obtain ⟨hM, hFR, hby, hpf, hnu, hla, hHW, hsv, hSW⟩ := hF
  have hlc : 0 ≤ lat ∧ lat ≤ 1000000 ∧ 0 ≤ und ∧ und ≤ 10 := by omega
  have hln : und ≤ lat ∧ lat ≤ i + 6 ∧ 0 ≤ und ∧ und ≤ 10 := by omega
  have hA : ∀ q : Nat, s.heap.size ≤ q → AL s q := fun q h => h
  have hl : lv_has ls 9 [(0, .ref bb), (1, .ref (x 0)), (2, .ref (g 0)), (3, .ref ao), (4, .int (iI i))] := hl
  refine lv_aload_n hx hb dL_law_591 rfl (lv_at hl 1 rfl) ?_
  refine lv_aload_n hx hb dL_law_592 rfl (lv_at hl 0 rfl) ?_
  refine lv_iload hx hb dL_law_593 (lv_at hl 4 rfl) ?_
  refine q_iconst hx hb dL_law_595 ?_
  refine q_iadd hx hb dL_law_596 ?_
  refine q_scr hB hw ⟨by omega, by omega⟩ dL_law_597 ?_
  refine lv_aload_n hx hb dL_law_598 rfl (lv_at hl 0 rfl) ?_
  refine lv_iload hx hb dL_law_599 (lv_at hl 4 rfl) ?_
  refine q_iconst hx hb dL_law_601 ?_
  refine q_iadd hx hb dL_law_602 ?_
  refine q_scr hB hw ⟨by omega, by omega⟩ dL_law_603 ?_
  refine lv_aload_n hx hb dL_law_604 rfl (lv_at hl 3 rfl) ?_
  have hH := c_L_job_x1 (l := l) (D := D) (z := z) (cI := cI) (cB := cB) (cZ := cZ) (cS := cS) (cJ := cJ) (ao := ao) (W0 := (fl (BS x a b ap b2 aH aV cI cB cZ cS T C lat und pfl pln pkd pst pen per pls pss us f1 f2 f3 pf pm pt pl pw w1 w2 w3 w4 w5 w6 hn svd bf y0 y1 y2 y3 y4 y5 y6 y7 ht cH cV))) (b0 := x 0) (f := f) ((sX xs i 1)) ((sX xs i 2)) rfl (qT_up (l := l) (D := D) (Z := ZY z) (ty := tyG cI cB cZ cS cJ) (W9 := (fl (BS x a b ap b2 aH aV cI cB cZ cS T C lat und pfl pln pkd pst pen per pls pss us f1 f2 f3 pf pm pt pl pw w1 w2 w3 w4 w5 w6 hn svd bf y0 y1 y2 y3 y4 y5 y6 y7 ht cH cV))) (zy_ok z) (c_X6_job_x1 (sX xs i 1) (sX xs i 2) hM.1 hM.2.2.1 hst (rg_of _) h1) _ cs_U)
  refine q_callW (As := [.ref (x 0), .int (iI (sX xs i 1)), .int (iI (sX xs i 2)), .ref ao]) (rest := []) (zy_ok z) hx hb hml hown hts hK hH cw_L_job ini_L st_L_job yw_L_job.1 yw_L_job.2 ml_L_112 (by rw [hR]; exact ⟨Nat.le_of_ble_eq_true rfl, Nat.le_of_ble_eq_true rfl⟩) hw hA hZ rfl rfl hl.1 (lv_room (Nat.le_of_ble_eq_true rfl)) dL_law_605 ⟨by rw [hR]; have hcs1 := hcs.1; omega, by rw [hR]; have hcs2 := hcs.2; omega⟩ (fun u H locs hu hw => ?_)
  replace hw : qw D (AL s) s.heap ((fl (BS x a b ap b2 aH aV cI cB cZ cS T C lat und pfl pln pkd pst pen per pls pss us f1 f2 f3 pf pm pt pl pw w1 w2 w3 w4 w5 w6 hn svd bf y0 y1 y2 y3 y4 y5 y6 y7 ht cH cV) ++ [outC cJ ao f]) ++ (mW g cI cB cZ th pfl tl ts te tk nu er eo hL hS und bf dr td sa ad hi sl svd tr)) H locs := hw
  refine lv_istore (lv' := [(5, .int (iI 1)), (0, .ref bb), (1, .ref (x 0)), (2, .ref (g 0)), (3, .ref ao), (4, .int (iI i))]) hx hb dL_law_608 hl (by decide) rfl (fun ls hl => ?_)
  refine lv_aload_n hx hb dL_law_610 rfl (lv_at hl 3 rfl) ?_
  refine lv_aload_n hx hb dL_law_611 rfl (lv_at hl 1 rfl) ?_
  refine lv_iload hx hb dL_law_612 (lv_at hl 5 rfl) ?_
  refine q_iconst hx hb dL_law_614 ?_
  refine q_iadd hx hb dL_law_615 ?_
  refine q_scr hB hw ⟨by omega, by omega⟩ dL_law_616 ?_
  refine lv_aload_n hx hb dL_law_617 rfl (lv_at hl 1 rfl) ?_
  refine lv_iload hx hb dL_law_618 (lv_at hl 5 rfl) ?_
  refine q_iconst hx hb dL_law_620 ?_
  refine q_iadd hx hb dL_law_621 ?_
  refine q_scr hB hw ⟨by omega, by omega⟩ dL_law_622 ?_
  replace hw := hw.comm
  refine q_callH (As := [.int (iI (sX xs i 1)), .int (iI (sX xs i 2))]) (rest := []) (zy_ok z) hx hb hml hown hts hK (qH_M (c_X7_job (sX xs i 1) (sX xs i 2) hM (rg_of _) (rg_of _))) yi_X7_job ml_L_114 (by rw [hR]; exact ⟨Nat.le_of_ble_eq_true rfl, Nat.le_of_ble_eq_true rfl⟩) hw hA hZ 0 rfl rfl rfl rfl hl.1 (lv_room (Nat.le_of_ble_eq_true rfl)) dL_law_623 ⟨by rw [hR]; have hcs1 := hcs.1; omega, by rw [hR]; have hcs2 := hcs.2; omega⟩ (fun u H locs hu hw => ?_)
  obtain ⟨th2, r2⟩ := u
  obtain ⟨e1, e2⟩ := hu
  replace hw : qw D (AL s) s.heap ((fl (BS x a b ap b2 aH aV cI cB cZ cS T C lat und pfl pln pkd pst pen per pls pss us f1 f2 f3 pf pm pt pl pw w1 w2 w3 w4 w5 w6 hn svd bf y0 y1 y2 y3 y4 y5 y6 y7 ht cH cV) ++ [outC cJ ao f]) ++ (mW g cI cB cZ th2 pfl tl ts te tk nu er eo hL hS und bf dr td sa ad hi sl svd tr)) H locs := hw.comm
  have e3 : th2 = 1 := e1.trans (by rw [if_pos (by omega)])
  subst e3
  replace hw : qw D (AL s) s.heap ((fl (BS x a b ap b2 aH aV cI cB cZ cS T C lat und pfl pln pkd pst pen per pls pss us f1 f2 f3 pf pm pt pl pw w1 w2 w3 w4 w5 w6 hn svd bf y0 y1 y2 y3 y4 y5 y6 y7 ht cH cV) ++ [outC cJ ao f]) ++ (mW g cI cB cZ 1 pfl tl ts te tk nu er eo hL hS und bf dr td sa ad hi sl svd tr)) H locs := hw
  refine lv_istore (lv' := [(6, .int (iI r2)), (5, .int (iI 1)), (0, .ref bb), (1, .ref (x 0)), (2, .ref (g 0)), (3, .ref ao), (4, .int (iI i))]) hx hb dL_law_626 hl (by decide) rfl (fun ls hl => ?_)
  refine lv_aload_n hx hb dL_law_628 rfl (lv_at hl 4 rfl) ?_
  replace hw := hw.comm
  refine q_callH (As := []) (rest := []) (zy_ok z) hx hb hml hown hts hK (qH_P c_X7_thrown) yi_X7_thrown ml_L_88 (by rw [hR]; exact ⟨Nat.le_of_ble_eq_true rfl, Nat.le_of_ble_eq_true rfl⟩) hw hA hZ 0 rfl rfl rfl rfl hl.1 (lv_room (Nat.le_of_ble_eq_true rfl)) dL_law_629 ⟨by rw [hR]; have hcs1 := hcs.1; omega, by rw [hR]; have hcs2 := hcs.2; omega⟩ (fun u H locs _ hw => ?_)
  replace hw : qw D (AL s) s.heap ((fl (BS x a b ap b2 aH aV cI cB cZ cS T C lat und pfl pln pkd pst pen per pls pss us f1 f2 f3 pf pm pt pl pw w1 w2 w3 w4 w5 w6 hn svd bf y0 y1 y2 y3 y4 y5 y6 y7 ht cH cV) ++ [outC cJ ao f]) ++ (mW g cI cB cZ 1 pfl tl ts te tk nu er eo hL hS und bf dr td sa ad hi sl svd tr)) H locs := hw.comm
  refine lv_iload hx hb dL_law_632 (lv_at hl 1 rfl) ?_
  refine q_same (tgt := 639) hx hb dL_law_634 (by decide) ?_
  refine lv_iload hx hb dL_law_639 (lv_at hl 1 rfl) ?_
  refine q_if_ne (tgt := 656) hx hb dL_law_641 (by decide) (by decide) (fun _ => ?_) (fun c9 => absurd c9 (by decide))
  refine lv_goto (tgt := 1484) hx hb dL_law_656 (by decide) ?_
  exact (kk _ H locs ls ⟨b, b2, T, C, cH, cV, lat, und, pfl, pln, pkd, pst, pen, per, pls, pss, us, f1, f2, f3, pf, pm, pt, pl, pw, w1, w2, w3, w4, w5, w6, hn, 1, tl, ts, te, tk, nu, er, eo, hL, hS, svd, bf, y0, y1, y2, y3, y4, y5, y6, y7, ht, dr, td, sa, ad, hi, sl, tr, f, ⟨hM, hFR, hby, hpf, hnu, hln, hHW, hsv, hSW⟩, rfl⟩ hw (lv_sub hl [2, 3, 4, 5, 6] rfl))

theorem law_job (hB : LB p l s m args c R z D cI cB cZ cS cJ bb L xs) (hI : LI x a ap aH aV g ao cI cB cZ cS cJ i ws) (hw : qw D (AL s) s.heap ws H locs) (hl : lv_has ls 9 (lv5 x g ao bb i)) (hrn : 0 ≤ i ∧ i + 6 ≤ (L : Int)) (hcs : cells + 1 ≤ room_1.cells ∧ slots + 6 ≤ room_1.slots) (kk : ∀ (ws1 : va_W) (H1 : Heap) (locs1 : List Loc) (ls1 : Array Slot), LI x a ap aH aV g ao cI cB cZ cS cJ (i + 6) ws1 → qw D (AL s) s.heap ws1 H1 locs1 → lv_has ls1 9 (lv5 x g ao bb i) → W p l e R s m args below meth c H1 locs1 (cells + 1) (slots + 6) Q (F0 m 1484 ls1 [])) : W p l e R s m args below meth c H locs cells slots Q (F0 m 591 ls []) := by
  obtain ⟨b, b2, T, C, cH, cV, lat, und, pfl, pln, pkd, pst, pen, per, pls, pss, us, f1, f2, f3, pf, pm, pt, pl, pw, w1, w2, w3, w4, w5, w6, hn, th, tl, ts, te, tk, nu, er, eo, hL, hS, svd, bf, y0, y1, y2, y3, y4, y5, y6, y7, ht, dr, td, sa, ad, hi, sl, tr, f, hF, rfl⟩ := hI
  by_cases h1 : 0 ≤ (sX xs i 1) ∧ (sX xs i 1) < C 11 4
  · by_cases h2 : 0 ≤ (sX xs i 2) ∧ (sX xs i 2) ≤ 3
    · exact law_job_0 h1 h2 hB hF hw hl hrn hcs kk
    · exact law_job_2 h1 h2 hB hF hw hl hrn hcs kk
  · exact law_job_1 h1 hB hF hw hl hrn hcs kk
