variable {p : Program} {l : Launch} {e : Env} {R : Room} {s : State} {m : MethodId} {args : Array Value} {below : List Frame} {meth : Method} {c : Code} {H : Heap} {locs : List Loc} {cells slots : Nat} {Q : State → Prop} {D : va_G} {cI cB cZ cS cJ : ClassId} {z x a ap g : Nat → Nat} {aH aV : Nat → Nat → Nat} {ao bb L : Nat} {xs : Nat → Int32} {i : Int} {ls : Array Slot} {ws : va_W} {b b2 : Nat → Nat} {T C : Nat → Int → Int} {cH cV : Nat → Nat → Int → Int} {lat und pfl pln pkd pst pen per pls pss us f1 f2 f3 pf pm pt pl pw w1 w2 w3 w4 w5 w6 hn th tl ts te tk nu er eo hL hS : Int} {svd bf y0 y1 y2 y3 y4 y5 y6 y7 ht dr td sa ad hi sl tr : Int → Int} {f : Nat → Int64}

set_option maxHeartbeats 4000000 in
set_option maxRecDepth 100000 in
theorem law_setLimit_0 (h1 : 0 ≤ (sX xs i 1) ∧ (sX xs i 1) ≤ 3) (h2 : loK (sX xs i 1) ≤ (sX xs i 2) ∧ (sX xs i 2) ≤ hiK (sX xs i 1)) (hB : LB p l s m args c R z D cI cB cZ cS cJ bb L xs) (hF : LF i T C td sa hi sl svd bf pfl nu eo lat und cH cV) (hw : qw D (AL s) s.heap ((fl (BS x a b ap b2 aH aV cI cB cZ cS T C lat und pfl pln pkd pst pen per pls pss us f1 f2 f3 pf pm pt pl pw w1 w2 w3 w4 w5 w6 hn svd bf y0 y1 y2 y3 y4 y5 y6 y7 ht cH cV) ++ [outC cJ ao f]) ++ (mW g cI cB cZ th pfl tl ts te tk nu er eo hL hS und bf dr td sa ad hi sl svd tr)) H locs) (hl : lv_has ls 9 (lv5 x g ao bb i)) (hrn : 0 ≤ i ∧ i + 6 ≤ (L : Int)) (hcs : cells + 1 ≤ room_1.cells ∧ slots + 6 ≤ room_1.slots) (kk : ∀ (ws1 : va_W) (H1 : Heap) (locs1 : List Loc) (ls1 : Array Slot), LI x a ap aH aV g ao cI cB cZ cS cJ (i + 6) ws1 → qw D (AL s) s.heap ws1 H1 locs1 → lv_has ls1 9 (lv5 x g ao bb i) → W p l e R s m args below meth c H1 locs1 (cells + 1) (slots + 6) Q (F0 m 1484 ls1 [])) : W p l e R s m args below meth c H locs cells slots Q (F0 m 1312 ls []) := by
  have hB0 := hB
  obtain ⟨⟨hx, hb, hml, hown, hts, hK⟩, hR, hZ, hst, hX, hbl, hL9⟩ := hB0
  obtain ⟨hM, hFR, hby, hpf, hnu, hla, hHW, hsv, hSW⟩ := hF
  have hlc : 0 ≤ lat ∧ lat ≤ 1000000 ∧ 0 ≤ und ∧ und ≤ 10 := by omega
  have hln : und ≤ lat ∧ lat ≤ i + 6 ∧ 0 ≤ und ∧ und ≤ 10 := by omega
  have hA : ∀ q : Nat, s.heap.size ≤ q → AL s q := fun q h => h
  have hl : lv_has ls 9 [(0, .ref bb), (1, .ref (x 0)), (2, .ref (g 0)), (3, .ref ao), (4, .int (iI i))] := hl
  refine lv_aload_n hx hb dL_law_1312 rfl (lv_at hl 1 rfl) ?_
  refine lv_aload_n hx hb dL_law_1313 rfl (lv_at hl 0 rfl) ?_
  refine lv_iload hx hb dL_law_1314 (lv_at hl 4 rfl) ?_
  refine q_iconst hx hb dL_law_1316 ?_
  refine q_iadd hx hb dL_law_1317 ?_
  refine q_scr hB hw ⟨by omega, by omega⟩ dL_law_1318 ?_
  refine lv_aload_n hx hb dL_law_1319 rfl (lv_at hl 0 rfl) ?_
  refine lv_iload hx hb dL_law_1320 (lv_at hl 4 rfl) ?_
  refine q_iconst hx hb dL_law_1322 ?_
  refine q_iadd hx hb dL_law_1323 ?_
  refine q_scr hB hw ⟨by omega, by omega⟩ dL_law_1324 ?_
  refine lv_aload_n hx hb dL_law_1325 rfl (lv_at hl 3 rfl) ?_
  have hH := c_L_setLimit (l := l) (D := D) (z := z) (cI := cI) (cB := cB) (cZ := cZ) (cS := cS) (cJ := cJ) (ao := ao) (W0 := (fl (BS x a b ap b2 aH aV cI cB cZ cS T C lat und pfl pln pkd pst pen per pls pss us f1 f2 f3 pf pm pt pl pw w1 w2 w3 w4 w5 w6 hn svd bf y0 y1 y2 y3 y4 y5 y6 y7 ht cH cV))) (b0 := x 0) (f := f) ((sX xs i 1)) ((sX xs i 2)) rfl (qH_up (l := l) (D := D) (Z := ZY z) (ty := tyG cI cB cZ cS cJ) (W9 := (fl (BS x a b ap b2 aH aV cI cB cZ cS T C lat und pfl pln pkd pst pen per pls pss us f1 f2 f3 pf pm pt pl pw w1 w2 w3 w4 w5 w6 hn svd bf y0 y1 y2 y3 y4 y5 y6 y7 ht cH cV))) (zy_ok z) (qH_z (qH_Mz (c_X6_setLimit (sX xs i 1) (sX xs i 2) hM.1 hM.2.2.1 hlc h1 h2)) (zy_z z)) _ (cs_B (x := x) (a := a) (ap := ap) (aH := aH) (aV := aV) (cI := cI) (cB := cB) (cZ := cZ) (cS := cS) (b := b) (b2 := b2) (T := T) (C := C) (cH := cH) (cV := cV) (lat := lat) (und := und) (pfl := pfl) (pln := pln) (pkd := pkd) (pst := pst) (pen := pen) (per := per) (pls := pls) (pss := pss) (us := us) (f1 := f1) (f2 := f2) (f3 := f3) (pf := pf) (pm := pm) (pt := pt) (pl := pl) (pw := pw) (w1 := w1) (w2 := w2) (w3 := w3) (w4 := w4) (w5 := w5) (w6 := w6) (hn := hn) (svd := svd) (bf := bf) (y0 := y0) (y1 := y1) (y2 := y2) (y3 := y3) (y4 := y4) (y5 := y5) (y6 := y6) (y7 := y7) (ht := ht)) (fun u _ => (cs_B (x := x) (a := a) (ap := ap) (aH := aH) (aV := aV) (cI := cI) (cB := cB) (cZ := cZ) (cS := cS) (b := b) (b2 := b2) (T := T) (C := ((u))) (cH := (updH cH (lat % 10).toNat C)) (cV := cV) (lat := (lat + 1)) (und := (nxU und)) (pfl := pfl) (pln := pln) (pkd := pkd) (pst := pst) (pen := pen) (per := per) (pls := pls) (pss := pss) (us := us) (f1 := f1) (f2 := f2) (f3 := f3) (pf := pf) (pm := pm) (pt := pt) (pl := pl) (pw := pw) (w1 := w1) (w2 := w2) (w3 := w3) (w4 := w4) (w5 := w5) (w6 := w6) (hn := hn) (svd := svd) (bf := bf) (y0 := y0) (y1 := y1) (y2 := y2) (y3 := y3) (y4 := y4) (y5 := y5) (y6 := y6) (y7 := y7) (ht := ht)).symm))
  refine q_callW (As := [.ref (x 0), .int (iI (sX xs i 1)), .int (iI (sX xs i 2)), .ref ao]) (rest := []) (zy_ok z) hx hb hml hown hts hK hH cw_L_setLimit ini_L st_L_setLimit yw_L_setLimit.1 yw_L_setLimit.2 ml_L_158 (by rw [hR]; exact ⟨Nat.le_of_ble_eq_true rfl, Nat.le_of_ble_eq_true rfl⟩) hw hA hZ rfl rfl hl.1 (lv_room (Nat.le_of_ble_eq_true rfl)) dL_law_1326 ⟨by rw [hR]; have hcs1 := hcs.1; omega, by rw [hR]; have hcs2 := hcs.2; omega⟩ (fun u H locs hu hw => ?_)
  obtain ⟨k1, rfl⟩ : ∃ q, q = u := ⟨_, rfl⟩
  replace hw : qw D (AL s) s.heap ((fl (BS x a b ap b2 aH aV cI cB cZ cS T k1 (lat + 1) (nxU und) pfl pln pkd pst pen per pls pss us f1 f2 f3 pf pm pt pl pw w1 w2 w3 w4 w5 w6 hn svd bf y0 y1 y2 y3 y4 y5 y6 y7 ht (updH cH (lat % 10).toNat C) cV) ++ [outC cJ ao (vp_updL f 0 (iI (C 8 (sX xs i 1))).toInt64)]) ++ (mW g cI cB cZ th pfl tl ts te tk nu er eo hL hS und bf dr td sa ad hi sl svd tr)) H locs := hw
  have g1 : k1 = st C 8 (uI (C 8) (sX xs i 1) (sX xs i 2)) := hu
  subst g1
  replace hw : qw D (AL s) s.heap ((fl (BS x a b ap b2 aH aV cI cB cZ cS T (st C 8 (uI (C 8) (sX xs i 1) (sX xs i 2))) (lat + 1) (nxU und) pfl pln pkd pst pen per pls pss us f1 f2 f3 pf pm pt pl pw w1 w2 w3 w4 w5 w6 hn svd bf y0 y1 y2 y3 y4 y5 y6 y7 ht (updH cH (lat % 10).toNat C) cV) ++ [outC cJ ao (vp_updL f 0 (iI (C 8 (sX xs i 1))).toInt64)]) ++ (mW g cI cB cZ th pfl tl ts te tk nu er eo hL hS und bf dr td sa ad hi sl svd tr)) H locs := hw
  refine lv_istore (lv' := [(5, .int (iI 0)), (0, .ref bb), (1, .ref (x 0)), (2, .ref (g 0)), (3, .ref ao), (4, .int (iI i))]) hx hb dL_law_1329 hl (by decide) rfl (fun ls hl => ?_)
  refine lv_aload_n hx hb dL_law_1331 rfl (lv_at hl 3 rfl) ?_
  refine lv_aload_n hx hb dL_law_1332 rfl (lv_at hl 1 rfl) ?_
  refine lv_iload hx hb dL_law_1333 (lv_at hl 5 rfl) ?_
  refine q_iconst hx hb dL_law_1335 ?_
  refine q_iadd hx hb dL_law_1336 ?_
  refine q_scr hB hw ⟨by omega, by omega⟩ dL_law_1337 ?_
  refine lv_aload_n hx hb dL_law_1338 rfl (lv_at hl 1 rfl) ?_
  refine lv_iload hx hb dL_law_1339 (lv_at hl 5 rfl) ?_
  refine q_iconst hx hb dL_law_1341 ?_
  refine q_iadd hx hb dL_law_1342 ?_
  refine q_scr hB hw ⟨by omega, by omega⟩ dL_law_1343 ?_
  replace hw := hw.comm
  refine q_callH (As := [.int (iI (sX xs i 1)), .int (iI (sX xs i 2))]) (rest := []) (zy_ok z) hx hb hml hown hts hK (qH_M (c_X7_setLimit (sX xs i 1) (sX xs i 2) hM hla.2.2 h1 (rg_of _) (by have w := h2; unfold loK hiK at w; exact w))) yi_X7_setLimit ml_L_160 (by rw [hR]; exact ⟨Nat.le_of_ble_eq_true rfl, Nat.le_of_ble_eq_true rfl⟩) hw hA hZ 0 rfl rfl rfl rfl hl.1 (lv_room (Nat.le_of_ble_eq_true rfl)) dL_law_1344 ⟨by rw [hR]; have hcs1 := hcs.1; omega, by rw [hR]; have hcs2 := hcs.2; omega⟩ (fun u H locs hu hw => ?_)
  obtain ⟨sa2, hi2, dp2⟩ := u
  obtain ⟨hM2, e5, e6⟩ := hu
  replace hw : qw D (AL s) s.heap ((fl (BS x a b ap b2 aH aV cI cB cZ cS T (st C 8 (uI (C 8) (sX xs i 1) (sX xs i 2))) (lat + 1) (nxU und) pfl pln pkd pst pen per pls pss us f1 f2 f3 pf pm pt pl pw w1 w2 w3 w4 w5 w6 hn svd bf y0 y1 y2 y3 y4 y5 y6 y7 ht (updH cH (lat % 10).toNat C) cV) ++ [outC cJ ao (vp_updL f 0 (iI (C 8 (sX xs i 1))).toInt64)]) ++ (mW g cI cB cZ 0 pfl tl ts te tk nu er eo hL hS dp2 bf dr td sa2 ad hi2 sl svd tr)) H locs := hw.comm
  have e5 : hi2 = kpH hi und sa := e5
  have e6 : dp2 = kpD und := e6
  subst e5
  subst e6
  replace hw : qw D (AL s) s.heap ((fl (BS x a b ap b2 aH aV cI cB cZ cS T (st C 8 (uI (C 8) (sX xs i 1) (sX xs i 2))) (lat + 1) (nxU und) pfl pln pkd pst pen per pls pss us f1 f2 f3 pf pm pt pl pw w1 w2 w3 w4 w5 w6 hn svd bf y0 y1 y2 y3 y4 y5 y6 y7 ht (updH cH (lat % 10).toNat C) cV) ++ [outC cJ ao (vp_updL f 0 (iI (C 8 (sX xs i 1))).toInt64)]) ++ (mW g cI cB cZ 0 pfl tl ts te tk nu er eo hL hS (kpD und) bf dr td sa2 ad (kpH hi und sa) sl svd tr)) H locs := hw
  have eku := kpD_nx hla.2.2
  rw [eku] at hw
  replace hw : qw D (AL s) s.heap ((fl (BS x a b ap b2 aH aV cI cB cZ cS T (st C 8 (uI (C 8) (sX xs i 1) (sX xs i 2))) (lat + 1) (kpD und) pfl pln pkd pst pen per pls pss us f1 f2 f3 pf pm pt pl pw w1 w2 w3 w4 w5 w6 hn svd bf y0 y1 y2 y3 y4 y5 y6 y7 ht (updH cH (lat % 10).toNat C) cV) ++ [outC cJ ao (vp_updL f 0 (iI (C 8 (sX xs i 1))).toInt64)]) ++ (mW g cI cB cZ 0 pfl tl ts te tk nu er eo hL hS (kpD und) bf dr td sa2 ad (kpH hi und sa) sl svd tr)) H locs := hw
  refine lv_istore (lv' := [(6, .int (iI (C 8 (sX xs i 1)))), (5, .int (iI 0)), (0, .ref bb), (1, .ref (x 0)), (2, .ref (g 0)), (3, .ref ao), (4, .int (iI i))]) hx hb dL_law_1347 hl (by decide) rfl (fun ls hl => ?_)
  refine lv_aload_n hx hb dL_law_1349 rfl (lv_at hl 4 rfl) ?_
  replace hw := hw.comm
  refine q_callH (As := []) (rest := []) (zy_ok z) hx hb hml hown hts hK (qH_P c_X7_thrown) yi_X7_thrown ml_L_88 (by rw [hR]; exact ⟨Nat.le_of_ble_eq_true rfl, Nat.le_of_ble_eq_true rfl⟩) hw hA hZ 0 rfl rfl rfl rfl hl.1 (lv_room (Nat.le_of_ble_eq_true rfl)) dL_law_1350 ⟨by rw [hR]; have hcs1 := hcs.1; omega, by rw [hR]; have hcs2 := hcs.2; omega⟩ (fun u H locs _ hw => ?_)
  replace hw : qw D (AL s) s.heap ((fl (BS x a b ap b2 aH aV cI cB cZ cS T (st C 8 (uI (C 8) (sX xs i 1) (sX xs i 2))) (lat + 1) (kpD und) pfl pln pkd pst pen per pls pss us f1 f2 f3 pf pm pt pl pw w1 w2 w3 w4 w5 w6 hn svd bf y0 y1 y2 y3 y4 y5 y6 y7 ht (updH cH (lat % 10).toNat C) cV) ++ [outC cJ ao (vp_updL f 0 (iI (C 8 (sX xs i 1))).toInt64)]) ++ (mW g cI cB cZ 0 pfl tl ts te tk nu er eo hL hS (kpD und) bf dr td sa2 ad (kpH hi und sa) sl svd tr)) H locs := hw.comm
  refine lv_iload hx hb dL_law_1353 (lv_at hl 1 rfl) ?_
  refine q_same (tgt := 1360) hx hb dL_law_1355 (by decide) ?_
  refine lv_iload hx hb dL_law_1360 (lv_at hl 1 rfl) ?_
  refine q_if_ne (tgt := 1377) hx hb dL_law_1362 (by decide) (by decide) (fun c9 => absurd rfl c9) (fun _ => ?_)
  refine lv_aload_n hx hb dL_law_1365 rfl (lv_at hl 5 rfl) ?_
  refine q_iconst hx hb dL_law_1366 ?_
  refine q_lald hx hb hK hw.1 (fl (BS x a b ap b2 aH aV cI cB cZ cS T (st C 8 (uI (C 8) (sX xs i 1) (sX xs i 2))) (lat + 1) (kpD und) pfl pln pkd pst pen per pls pss us f1 f2 f3 pf pm pt pl pw w1 w2 w3 w4 w5 w6 hn svd bf y0 y1 y2 y3 y4 y5 y6 y7 ht (updH cH (lat % 10).toNat C) cV)).length 4 (get_mid _ _ _) rfl (vu_0 _ _) dL_law_1367 ?_
  refine lv_iload hx hb dL_law_1368 (lv_at hl 0 rfl) ?_
  refine lv_i2l hx hb dL_law_1370 rfl ?_
  refine q_lsame (tgt := 1377) hx hb dL_law_1371 dL_law_1372 (by decide) ?_
  refine lv_goto (tgt := 1484) hx hb dL_law_1377 (by decide) ?_
  exact W_wide (Nat.le_succ _) (Nat.le_add_right _ _) (kk _ H locs ls ⟨b, b2, T, (st C 8 (uI (C 8) (sX xs i 1) (sX xs i 2))), (updH cH (lat % 10).toNat C), cV, (lat + 1), (kpD und), pfl, pln, pkd, pst, pen, per, pls, pss, us, f1, f2, f3, pf, pm, pt, pl, pw, w1, w2, w3, w4, w5, w6, hn, 0, tl, ts, te, tk, nu, er, eo, hL, hS, svd, bf, y0, y1, y2, y3, y4, y5, y6, y7, ht, dr, td, sa2, ad, (kpH hi und sa), sl, tr, (vp_updL f 0 (iI (C 8 (sX xs i 1))).toInt64), ⟨hM2, FR_cg hFR rfl rfl, hby, hpf, hnu, hla_k hla, HW_keep hHW hM hFR hla.2.2, hsv, hSW⟩, rfl⟩ hw (lv_sub hl [2, 3, 4, 5, 6] rfl))

set_option maxHeartbeats 4000000 in
set_option maxRecDepth 100000 in
theorem law_setLimit_2 (h1 : 0 ≤ (sX xs i 1) ∧ (sX xs i 1) ≤ 3) (h2 : ¬ (loK (sX xs i 1) ≤ (sX xs i 2) ∧ (sX xs i 2) ≤ hiK (sX xs i 1))) (hB : LB p l s m args c R z D cI cB cZ cS cJ bb L xs) (hF : LF i T C td sa hi sl svd bf pfl nu eo lat und cH cV) (hw : qw D (AL s) s.heap ((fl (BS x a b ap b2 aH aV cI cB cZ cS T C lat und pfl pln pkd pst pen per pls pss us f1 f2 f3 pf pm pt pl pw w1 w2 w3 w4 w5 w6 hn svd bf y0 y1 y2 y3 y4 y5 y6 y7 ht cH cV) ++ [outC cJ ao f]) ++ (mW g cI cB cZ th pfl tl ts te tk nu er eo hL hS und bf dr td sa ad hi sl svd tr)) H locs) (hl : lv_has ls 9 (lv5 x g ao bb i)) (hrn : 0 ≤ i ∧ i + 6 ≤ (L : Int)) (hcs : cells + 1 ≤ room_1.cells ∧ slots + 6 ≤ room_1.slots) (kk : ∀ (ws1 : va_W) (H1 : Heap) (locs1 : List Loc) (ls1 : Array Slot), LI x a ap aH aV g ao cI cB cZ cS cJ (i + 6) ws1 → qw D (AL s) s.heap ws1 H1 locs1 → lv_has ls1 9 (lv5 x g ao bb i) → W p l e R s m args below meth c H1 locs1 (cells + 1) (slots + 6) Q (F0 m 1484 ls1 [])) : W p l e R s m args below meth c H locs cells slots Q (F0 m 1312 ls []) := by
  have hB0 := hB
  obtain ⟨⟨hx, hb, hml, hown, hts, hK⟩, hR, hZ, hst, hX, hbl, hL9⟩ := hB0
  obtain ⟨hM, hFR, hby, hpf, hnu, hla, hHW, hsv, hSW⟩ := hF
  have hlc : 0 ≤ lat ∧ lat ≤ 1000000 ∧ 0 ≤ und ∧ und ≤ 10 := by omega
  have hln : und ≤ lat ∧ lat ≤ i + 6 ∧ 0 ≤ und ∧ und ≤ 10 := by omega
  have hA : ∀ q : Nat, s.heap.size ≤ q → AL s q := fun q h => h
  have hl : lv_has ls 9 [(0, .ref bb), (1, .ref (x 0)), (2, .ref (g 0)), (3, .ref ao), (4, .int (iI i))] := hl
  refine lv_aload_n hx hb dL_law_1312 rfl (lv_at hl 1 rfl) ?_
  refine lv_aload_n hx hb dL_law_1313 rfl (lv_at hl 0 rfl) ?_
  refine lv_iload hx hb dL_law_1314 (lv_at hl 4 rfl) ?_
  refine q_iconst hx hb dL_law_1316 ?_
  refine q_iadd hx hb dL_law_1317 ?_
  refine q_scr hB hw ⟨by omega, by omega⟩ dL_law_1318 ?_
  refine lv_aload_n hx hb dL_law_1319 rfl (lv_at hl 0 rfl) ?_
  refine lv_iload hx hb dL_law_1320 (lv_at hl 4 rfl) ?_
  refine q_iconst hx hb dL_law_1322 ?_
  refine q_iadd hx hb dL_law_1323 ?_
  refine q_scr hB hw ⟨by omega, by omega⟩ dL_law_1324 ?_
  refine lv_aload_n hx hb dL_law_1325 rfl (lv_at hl 3 rfl) ?_
  have hH := c_L_setLimit_x1 (l := l) (D := D) (z := z) (cI := cI) (cB := cB) (cZ := cZ) (cS := cS) (cJ := cJ) (ao := ao) (W0 := (fl (BS x a b ap b2 aH aV cI cB cZ cS T C lat und pfl pln pkd pst pen per pls pss us f1 f2 f3 pf pm pt pl pw w1 w2 w3 w4 w5 w6 hn svd bf y0 y1 y2 y3 y4 y5 y6 y7 ht cH cV))) (b0 := x 0) (f := f) ((sX xs i 1)) ((sX xs i 2)) rfl (qT_up (l := l) (D := D) (Z := ZY z) (ty := tyG cI cB cZ cS cJ) (W9 := (fl (BS x a b ap b2 aH aV cI cB cZ cS T C lat und pfl pln pkd pst pen per pls pss us f1 f2 f3 pf pm pt pl pw w1 w2 w3 w4 w5 w6 hn svd bf y0 y1 y2 y3 y4 y5 y6 y7 ht cH cV))) (zy_ok z) (c_X6_setLimit_x2 (sX xs i 1) (sX xs i 2) hM.1 hM.2.2.1 hst h1 (rg_of _) h2) _ cs_U)
  refine q_callW (As := [.ref (x 0), .int (iI (sX xs i 1)), .int (iI (sX xs i 2)), .ref ao]) (rest := []) (zy_ok z) hx hb hml hown hts hK hH cw_L_setLimit ini_L st_L_setLimit yw_L_setLimit.1 yw_L_setLimit.2 ml_L_158 (by rw [hR]; exact ⟨Nat.le_of_ble_eq_true rfl, Nat.le_of_ble_eq_true rfl⟩) hw hA hZ rfl rfl hl.1 (lv_room (Nat.le_of_ble_eq_true rfl)) dL_law_1326 ⟨by rw [hR]; have hcs1 := hcs.1; omega, by rw [hR]; have hcs2 := hcs.2; omega⟩ (fun u H locs hu hw => ?_)
  replace hw : qw D (AL s) s.heap ((fl (BS x a b ap b2 aH aV cI cB cZ cS T C lat und pfl pln pkd pst pen per pls pss us f1 f2 f3 pf pm pt pl pw w1 w2 w3 w4 w5 w6 hn svd bf y0 y1 y2 y3 y4 y5 y6 y7 ht cH cV) ++ [outC cJ ao f]) ++ (mW g cI cB cZ th pfl tl ts te tk nu er eo hL hS und bf dr td sa ad hi sl svd tr)) H locs := hw
  refine lv_istore (lv' := [(5, .int (iI 1)), (0, .ref bb), (1, .ref (x 0)), (2, .ref (g 0)), (3, .ref ao), (4, .int (iI i))]) hx hb dL_law_1329 hl (by decide) rfl (fun ls hl => ?_)
  refine lv_aload_n hx hb dL_law_1331 rfl (lv_at hl 3 rfl) ?_
  refine lv_aload_n hx hb dL_law_1332 rfl (lv_at hl 1 rfl) ?_
  refine lv_iload hx hb dL_law_1333 (lv_at hl 5 rfl) ?_
  refine q_iconst hx hb dL_law_1335 ?_
  refine q_iadd hx hb dL_law_1336 ?_
  refine q_scr hB hw ⟨by omega, by omega⟩ dL_law_1337 ?_
  refine lv_aload_n hx hb dL_law_1338 rfl (lv_at hl 1 rfl) ?_
  refine lv_iload hx hb dL_law_1339 (lv_at hl 5 rfl) ?_
  refine q_iconst hx hb dL_law_1341 ?_
  refine q_iadd hx hb dL_law_1342 ?_
  refine q_scr hB hw ⟨by omega, by omega⟩ dL_law_1343 ?_
  replace hw := hw.comm
  refine q_callH (As := [.int (iI (sX xs i 1)), .int (iI (sX xs i 2))]) (rest := []) (zy_ok z) hx hb hml hown hts hK (qH_M (c_X7_setLimit_no (sX xs i 1) (sX xs i 2) (rg_of _) (rg_of _) (fun w => h2 (by unfold loK hiK; exact w.2.2)))) yi_X7_setLimit ml_L_160 (by rw [hR]; exact ⟨Nat.le_of_ble_eq_true rfl, Nat.le_of_ble_eq_true rfl⟩) hw hA hZ 0 rfl rfl rfl rfl hl.1 (lv_room (Nat.le_of_ble_eq_true rfl)) dL_law_1344 ⟨by rw [hR]; have hcs1 := hcs.1; omega, by rw [hR]; have hcs2 := hcs.2; omega⟩ (fun u H locs hu hw => ?_)
  replace hw : qw D (AL s) s.heap ((fl (BS x a b ap b2 aH aV cI cB cZ cS T C lat und pfl pln pkd pst pen per pls pss us f1 f2 f3 pf pm pt pl pw w1 w2 w3 w4 w5 w6 hn svd bf y0 y1 y2 y3 y4 y5 y6 y7 ht cH cV) ++ [outC cJ ao f]) ++ (mW g cI cB cZ 1 pfl tl ts te tk nu er eo hL hS und bf dr td sa ad hi sl svd tr)) H locs := hw.comm
  refine lv_istore (lv' := [(6, .int (iI 0)), (5, .int (iI 1)), (0, .ref bb), (1, .ref (x 0)), (2, .ref (g 0)), (3, .ref ao), (4, .int (iI i))]) hx hb dL_law_1347 hl (by decide) rfl (fun ls hl => ?_)
  refine lv_aload_n hx hb dL_law_1349 rfl (lv_at hl 4 rfl) ?_
  replace hw := hw.comm
  refine q_callH (As := []) (rest := []) (zy_ok z) hx hb hml hown hts hK (qH_P c_X7_thrown) yi_X7_thrown ml_L_88 (by rw [hR]; exact ⟨Nat.le_of_ble_eq_true rfl, Nat.le_of_ble_eq_true rfl⟩) hw hA hZ 0 rfl rfl rfl rfl hl.1 (lv_room (Nat.le_of_ble_eq_true rfl)) dL_law_1350 ⟨by rw [hR]; have hcs1 := hcs.1; omega, by rw [hR]; have hcs2 := hcs.2; omega⟩ (fun u H locs _ hw => ?_)
  replace hw : qw D (AL s) s.heap ((fl (BS x a b ap b2 aH aV cI cB cZ cS T C lat und pfl pln pkd pst pen per pls pss us f1 f2 f3 pf pm pt pl pw w1 w2 w3 w4 w5 w6 hn svd bf y0 y1 y2 y3 y4 y5 y6 y7 ht cH cV) ++ [outC cJ ao f]) ++ (mW g cI cB cZ 1 pfl tl ts te tk nu er eo hL hS und bf dr td sa ad hi sl svd tr)) H locs := hw.comm
  refine lv_iload hx hb dL_law_1353 (lv_at hl 1 rfl) ?_
  refine q_same (tgt := 1360) hx hb dL_law_1355 (by decide) ?_
  refine lv_iload hx hb dL_law_1360 (lv_at hl 1 rfl) ?_
  refine q_if_ne (tgt := 1377) hx hb dL_law_1362 (by decide) (by decide) (fun _ => ?_) (fun c9 => absurd c9 (by decide))
  refine lv_goto (tgt := 1484) hx hb dL_law_1377 (by decide) ?_
  exact (kk _ H locs ls ⟨b, b2, T, C, cH, cV, lat, und, pfl, pln, pkd, pst, pen, per, pls, pss, us, f1, f2, f3, pf, pm, pt, pl, pw, w1, w2, w3, w4, w5, w6, hn, 1, tl, ts, te, tk, nu, er, eo, hL, hS, svd, bf, y0, y1, y2, y3, y4, y5, y6, y7, ht, dr, td, sa, ad, hi, sl, tr, f, ⟨hM, hFR, hby, hpf, hnu, hln, hHW, hsv, hSW⟩, rfl⟩ hw (lv_sub hl [2, 3, 4, 5, 6] rfl))

set_option maxHeartbeats 4000000 in
set_option maxRecDepth 100000 in
theorem law_setLimit_1 (h1 : ¬ (0 ≤ (sX xs i 1) ∧ (sX xs i 1) ≤ 3)) (hB : LB p l s m args c R z D cI cB cZ cS cJ bb L xs) (hF : LF i T C td sa hi sl svd bf pfl nu eo lat und cH cV) (hw : qw D (AL s) s.heap ((fl (BS x a b ap b2 aH aV cI cB cZ cS T C lat und pfl pln pkd pst pen per pls pss us f1 f2 f3 pf pm pt pl pw w1 w2 w3 w4 w5 w6 hn svd bf y0 y1 y2 y3 y4 y5 y6 y7 ht cH cV) ++ [outC cJ ao f]) ++ (mW g cI cB cZ th pfl tl ts te tk nu er eo hL hS und bf dr td sa ad hi sl svd tr)) H locs) (hl : lv_has ls 9 (lv5 x g ao bb i)) (hrn : 0 ≤ i ∧ i + 6 ≤ (L : Int)) (hcs : cells + 1 ≤ room_1.cells ∧ slots + 6 ≤ room_1.slots) (kk : ∀ (ws1 : va_W) (H1 : Heap) (locs1 : List Loc) (ls1 : Array Slot), LI x a ap aH aV g ao cI cB cZ cS cJ (i + 6) ws1 → qw D (AL s) s.heap ws1 H1 locs1 → lv_has ls1 9 (lv5 x g ao bb i) → W p l e R s m args below meth c H1 locs1 (cells + 1) (slots + 6) Q (F0 m 1484 ls1 [])) : W p l e R s m args below meth c H locs cells slots Q (F0 m 1312 ls []) := by
  have hB0 := hB
  obtain ⟨⟨hx, hb, hml, hown, hts, hK⟩, hR, hZ, hst, hX, hbl, hL9⟩ := hB0
  obtain ⟨hM, hFR, hby, hpf, hnu, hla, hHW, hsv, hSW⟩ := hF
  have hlc : 0 ≤ lat ∧ lat ≤ 1000000 ∧ 0 ≤ und ∧ und ≤ 10 := by omega
  have hln : und ≤ lat ∧ lat ≤ i + 6 ∧ 0 ≤ und ∧ und ≤ 10 := by omega
  have hA : ∀ q : Nat, s.heap.size ≤ q → AL s q := fun q h => h
  have hl : lv_has ls 9 [(0, .ref bb), (1, .ref (x 0)), (2, .ref (g 0)), (3, .ref ao), (4, .int (iI i))] := hl
  refine lv_aload_n hx hb dL_law_1312 rfl (lv_at hl 1 rfl) ?_
  refine lv_aload_n hx hb dL_law_1313 rfl (lv_at hl 0 rfl) ?_
  refine lv_iload hx hb dL_law_1314 (lv_at hl 4 rfl) ?_
  refine q_iconst hx hb dL_law_1316 ?_
  refine q_iadd hx hb dL_law_1317 ?_
  refine q_scr hB hw ⟨by omega, by omega⟩ dL_law_1318 ?_
  refine lv_aload_n hx hb dL_law_1319 rfl (lv_at hl 0 rfl) ?_
  refine lv_iload hx hb dL_law_1320 (lv_at hl 4 rfl) ?_
  refine q_iconst hx hb dL_law_1322 ?_
  refine q_iadd hx hb dL_law_1323 ?_
  refine q_scr hB hw ⟨by omega, by omega⟩ dL_law_1324 ?_
  refine lv_aload_n hx hb dL_law_1325 rfl (lv_at hl 3 rfl) ?_
  have hH := c_L_setLimit_x1 (l := l) (D := D) (z := z) (cI := cI) (cB := cB) (cZ := cZ) (cS := cS) (cJ := cJ) (ao := ao) (W0 := (fl (BS x a b ap b2 aH aV cI cB cZ cS T C lat und pfl pln pkd pst pen per pls pss us f1 f2 f3 pf pm pt pl pw w1 w2 w3 w4 w5 w6 hn svd bf y0 y1 y2 y3 y4 y5 y6 y7 ht cH cV))) (b0 := x 0) (f := f) ((sX xs i 1)) ((sX xs i 2)) rfl (qT_up (l := l) (D := D) (Z := ZY z) (ty := tyG cI cB cZ cS cJ) (W9 := (fl (BS x a b ap b2 aH aV cI cB cZ cS T C lat und pfl pln pkd pst pen per pls pss us f1 f2 f3 pf pm pt pl pw w1 w2 w3 w4 w5 w6 hn svd bf y0 y1 y2 y3 y4 y5 y6 y7 ht cH cV))) (zy_ok z) (c_X6_setLimit_x1 (sX xs i 1) (sX xs i 2) hM.1 hM.2.2.1 hst (rg_of _) h1) _ cs_U)
  refine q_callW (As := [.ref (x 0), .int (iI (sX xs i 1)), .int (iI (sX xs i 2)), .ref ao]) (rest := []) (zy_ok z) hx hb hml hown hts hK hH cw_L_setLimit ini_L st_L_setLimit yw_L_setLimit.1 yw_L_setLimit.2 ml_L_158 (by rw [hR]; exact ⟨Nat.le_of_ble_eq_true rfl, Nat.le_of_ble_eq_true rfl⟩) hw hA hZ rfl rfl hl.1 (lv_room (Nat.le_of_ble_eq_true rfl)) dL_law_1326 ⟨by rw [hR]; have hcs1 := hcs.1; omega, by rw [hR]; have hcs2 := hcs.2; omega⟩ (fun u H locs hu hw => ?_)
  replace hw : qw D (AL s) s.heap ((fl (BS x a b ap b2 aH aV cI cB cZ cS T C lat und pfl pln pkd pst pen per pls pss us f1 f2 f3 pf pm pt pl pw w1 w2 w3 w4 w5 w6 hn svd bf y0 y1 y2 y3 y4 y5 y6 y7 ht cH cV) ++ [outC cJ ao f]) ++ (mW g cI cB cZ th pfl tl ts te tk nu er eo hL hS und bf dr td sa ad hi sl svd tr)) H locs := hw
  refine lv_istore (lv' := [(5, .int (iI 1)), (0, .ref bb), (1, .ref (x 0)), (2, .ref (g 0)), (3, .ref ao), (4, .int (iI i))]) hx hb dL_law_1329 hl (by decide) rfl (fun ls hl => ?_)
  refine lv_aload_n hx hb dL_law_1331 rfl (lv_at hl 3 rfl) ?_
  refine lv_aload_n hx hb dL_law_1332 rfl (lv_at hl 1 rfl) ?_
  refine lv_iload hx hb dL_law_1333 (lv_at hl 5 rfl) ?_
  refine q_iconst hx hb dL_law_1335 ?_
  refine q_iadd hx hb dL_law_1336 ?_
  refine q_scr hB hw ⟨by omega, by omega⟩ dL_law_1337 ?_
  refine lv_aload_n hx hb dL_law_1338 rfl (lv_at hl 1 rfl) ?_
  refine lv_iload hx hb dL_law_1339 (lv_at hl 5 rfl) ?_
  refine q_iconst hx hb dL_law_1341 ?_
  refine q_iadd hx hb dL_law_1342 ?_
  refine q_scr hB hw ⟨by omega, by omega⟩ dL_law_1343 ?_
  replace hw := hw.comm
  refine q_callH (As := [.int (iI (sX xs i 1)), .int (iI (sX xs i 2))]) (rest := []) (zy_ok z) hx hb hml hown hts hK (qH_M (c_X7_setLimit_no (sX xs i 1) (sX xs i 2) (rg_of _) (rg_of _) (fun w => h1 ⟨w.1, w.2.1⟩))) yi_X7_setLimit ml_L_160 (by rw [hR]; exact ⟨Nat.le_of_ble_eq_true rfl, Nat.le_of_ble_eq_true rfl⟩) hw hA hZ 0 rfl rfl rfl rfl hl.1 (lv_room (Nat.le_of_ble_eq_true rfl)) dL_law_1344 ⟨by rw [hR]; have hcs1 := hcs.1; omega, by rw [hR]; have hcs2 := hcs.2; omega⟩ (fun u H locs hu hw => ?_)
  replace hw : qw D (AL s) s.heap ((fl (BS x a b ap b2 aH aV cI cB cZ cS T C lat und pfl pln pkd pst pen per pls pss us f1 f2 f3 pf pm pt pl pw w1 w2 w3 w4 w5 w6 hn svd bf y0 y1 y2 y3 y4 y5 y6 y7 ht cH cV) ++ [outC cJ ao f]) ++ (mW g cI cB cZ 1 pfl tl ts te tk nu er eo hL hS und bf dr td sa ad hi sl svd tr)) H locs := hw.comm
  refine lv_istore (lv' := [(6, .int (iI 0)), (5, .int (iI 1)), (0, .ref bb), (1, .ref (x 0)), (2, .ref (g 0)), (3, .ref ao), (4, .int (iI i))]) hx hb dL_law_1347 hl (by decide) rfl (fun ls hl => ?_)
  refine lv_aload_n hx hb dL_law_1349 rfl (lv_at hl 4 rfl) ?_
  replace hw := hw.comm
  refine q_callH (As := []) (rest := []) (zy_ok z) hx hb hml hown hts hK (qH_P c_X7_thrown) yi_X7_thrown ml_L_88 (by rw [hR]; exact ⟨Nat.le_of_ble_eq_true rfl, Nat.le_of_ble_eq_true rfl⟩) hw hA hZ 0 rfl rfl rfl rfl hl.1 (lv_room (Nat.le_of_ble_eq_true rfl)) dL_law_1350 ⟨by rw [hR]; have hcs1 := hcs.1; omega, by rw [hR]; have hcs2 := hcs.2; omega⟩ (fun u H locs _ hw => ?_)
  replace hw : qw D (AL s) s.heap ((fl (BS x a b ap b2 aH aV cI cB cZ cS T C lat und pfl pln pkd pst pen per pls pss us f1 f2 f3 pf pm pt pl pw w1 w2 w3 w4 w5 w6 hn svd bf y0 y1 y2 y3 y4 y5 y6 y7 ht cH cV) ++ [outC cJ ao f]) ++ (mW g cI cB cZ 1 pfl tl ts te tk nu er eo hL hS und bf dr td sa ad hi sl svd tr)) H locs := hw.comm
  refine lv_iload hx hb dL_law_1353 (lv_at hl 1 rfl) ?_
  refine q_same (tgt := 1360) hx hb dL_law_1355 (by decide) ?_
  refine lv_iload hx hb dL_law_1360 (lv_at hl 1 rfl) ?_
  refine q_if_ne (tgt := 1377) hx hb dL_law_1362 (by decide) (by decide) (fun _ => ?_) (fun c9 => absurd c9 (by decide))
  refine lv_goto (tgt := 1484) hx hb dL_law_1377 (by decide) ?_
  exact (kk _ H locs ls ⟨b, b2, T, C, cH, cV, lat, und, pfl, pln, pkd, pst, pen, per, pls, pss, us, f1, f2, f3, pf, pm, pt, pl, pw, w1, w2, w3, w4, w5, w6, hn, 1, tl, ts, te, tk, nu, er, eo, hL, hS, svd, bf, y0, y1, y2, y3, y4, y5, y6, y7, ht, dr, td, sa, ad, hi, sl, tr, f, ⟨hM, hFR, hby, hpf, hnu, hln, hHW, hsv, hSW⟩, rfl⟩ hw (lv_sub hl [2, 3, 4, 5, 6] rfl))

theorem law_setLimit (hB : LB p l s m args c R z D cI cB cZ cS cJ bb L xs) (hI : LI x a ap aH aV g ao cI cB cZ cS cJ i ws) (hw : qw D (AL s) s.heap ws H locs) (hl : lv_has ls 9 (lv5 x g ao bb i)) (hrn : 0 ≤ i ∧ i + 6 ≤ (L : Int)) (hcs : cells + 1 ≤ room_1.cells ∧ slots + 6 ≤ room_1.slots) (kk : ∀ (ws1 : va_W) (H1 : Heap) (locs1 : List Loc) (ls1 : Array Slot), LI x a ap aH aV g ao cI cB cZ cS cJ (i + 6) ws1 → qw D (AL s) s.heap ws1 H1 locs1 → lv_has ls1 9 (lv5 x g ao bb i) → W p l e R s m args below meth c H1 locs1 (cells + 1) (slots + 6) Q (F0 m 1484 ls1 [])) : W p l e R s m args below meth c H locs cells slots Q (F0 m 1312 ls []) := by
  obtain ⟨b, b2, T, C, cH, cV, lat, und, pfl, pln, pkd, pst, pen, per, pls, pss, us, f1, f2, f3, pf, pm, pt, pl, pw, w1, w2, w3, w4, w5, w6, hn, th, tl, ts, te, tk, nu, er, eo, hL, hS, svd, bf, y0, y1, y2, y3, y4, y5, y6, y7, ht, dr, td, sa, ad, hi, sl, tr, f, hF, rfl⟩ := hI
  by_cases h1 : 0 ≤ (sX xs i 1) ∧ (sX xs i 1) ≤ 3
  · by_cases h2 : loK (sX xs i 1) ≤ (sX xs i 2) ∧ (sX xs i 2) ≤ hiK (sX xs i 1)
    · exact law_setLimit_0 h1 h2 hB hF hw hl hrn hcs kk
    · exact law_setLimit_2 h1 h2 hB hF hw hl hrn hcs kk
  · exact law_setLimit_1 h1 hB hF hw hl hrn hcs kk
