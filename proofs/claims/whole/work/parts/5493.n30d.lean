variable {p : Program} {l : Launch} {e : Env} {R : Room} {s : State} {m : MethodId} {args : Array Value} {below : List Frame} {meth : Method} {c : Code} {H : Heap} {locs : List Loc} {cells slots : Nat} {Q : State → Prop} {D : va_G} {cI cB cZ cS cJ : ClassId} {z x a ap g : Nat → Nat} {aH aV : Nat → Nat → Nat} {ao bb L : Nat} {xs : Nat → Int32} {i : Int} {ls : Array Slot} {ws : va_W} {b b2 : Nat → Nat} {T C : Nat → Int → Int} {cH cV : Nat → Nat → Int → Int} {lat und pfl pln pkd pst pen per pls pss us f1 f2 f3 pf pm pt pl pw w1 w2 w3 w4 w5 w6 hn th tl ts te tk nu er eo hL hS : Int} {svd bf y0 y1 y2 y3 y4 y5 y6 y7 ht dr td sa ad hi sl tr : Int → Int} {f : Nat → Int64}

set_option maxHeartbeats 4000000 in
set_option maxRecDepth 100000 in
theorem law_parse_0 (h1 : 0 ≤ (sX xs i 1) ∧ (sX xs i 1) ≤ pfl) (h2 : paX bf (sX xs i 1) 9 3 = 0) (hB : LB p l s m args c R z D cI cB cZ cS cJ bb L xs) (hF : LF i T C td sa hi sl svd bf pfl nu eo lat und cH cV) (hw : qw D (AL s) s.heap ((fl (BS x a b ap b2 aH aV cI cB cZ cS T C lat und pfl pln pkd pst pen per pls pss us f1 f2 f3 pf pm pt pl pw w1 w2 w3 w4 w5 w6 hn svd bf y0 y1 y2 y3 y4 y5 y6 y7 ht cH cV) ++ [outC cJ ao f]) ++ (mW g cI cB cZ th pfl tl ts te tk nu er eo hL hS und bf dr td sa ad hi sl svd tr)) H locs) (hl : lv_has ls 9 (lv5 x g ao bb i)) (hrn : 0 ≤ i ∧ i + 6 ≤ (L : Int)) (hcs : cells + 1 ≤ room_1.cells ∧ slots + 6 ≤ room_1.slots) (kk : ∀ (ws1 : va_W) (H1 : Heap) (locs1 : List Loc) (ls1 : Array Slot), LI x a ap aH aV g ao cI cB cZ cS cJ (i + 6) ws1 → qw D (AL s) s.heap ws1 H1 locs1 → lv_has ls1 9 (lv5 x g ao bb i) → W p l e R s m args below meth c H1 locs1 (cells + 1) (slots + 6) Q (F0 m 1484 ls1 [])) : W p l e R s m args below meth c H locs cells slots Q (F0 m 237 ls []) := by
  have hB0 := hB
  obtain ⟨⟨hx, hb, hml, hown, hts, hK⟩, hR, hZ, hst, hX, hbl, hL9⟩ := hB0
  obtain ⟨hM, hFR, hby, hpf, hnu, hla, hHW, hsv, hSW⟩ := hF
  have hlc : 0 ≤ lat ∧ lat ≤ 1000000 ∧ 0 ≤ und ∧ und ≤ 10 := by omega
  have hln : und ≤ lat ∧ lat ≤ i + 6 ∧ 0 ≤ und ∧ und ≤ 10 := by omega
  have hA : ∀ q : Nat, s.heap.size ≤ q → AL s q := fun q h => h
  have hl : lv_has ls 9 [(0, .ref bb), (1, .ref (x 0)), (2, .ref (g 0)), (3, .ref ao), (4, .int (iI i))] := hl
  refine lv_aload_n hx hb dL_law_237 rfl (lv_at hl 1 rfl) ?_
  refine lv_aload_n hx hb dL_law_238 rfl (lv_at hl 0 rfl) ?_
  refine lv_iload hx hb dL_law_239 (lv_at hl 4 rfl) ?_
  refine q_iconst hx hb dL_law_241 ?_
  refine q_iadd hx hb dL_law_242 ?_
  refine q_scr hB hw ⟨by omega, by omega⟩ dL_law_243 ?_
  refine lv_aload_n hx hb dL_law_244 rfl (lv_at hl 3 rfl) ?_
  have hH := c_L_parse (l := l) (D := D) (z := z) (cI := cI) (cB := cB) (cZ := cZ) (cS := cS) (cJ := cJ) (ao := ao) (W0 := (fl (BS x a b ap b2 aH aV cI cB cZ cS T C lat und pfl pln pkd pst pen per pls pss us f1 f2 f3 pf pm pt pl pw w1 w2 w3 w4 w5 w6 hn svd bf y0 y1 y2 y3 y4 y5 y6 y7 ht cH cV))) (b0 := x 0) (f := f) ((sX xs i 1)) rfl (qH_up (l := l) (D := D) (Z := ZY z) (ty := tyG cI cB cZ cS cJ) (W9 := (fl (BS x a b ap b2 aH aV cI cB cZ cS T C lat und pfl pln pkd pst pen per pls pss us f1 f2 f3 pf pm pt pl pw w1 w2 w3 w4 w5 w6 hn svd bf y0 y1 y2 y3 y4 y5 y6 y7 ht cH cV))) (zy_ok z) (qH_z (qH_Mz (c_X6_parse (sX xs i 1) hby hpf h1 h2)) (zy_z z)) _ (cs_P (x := x) (a := a) (ap := ap) (aH := aH) (aV := aV) (cI := cI) (cB := cB) (cZ := cZ) (cS := cS) (b := b) (b2 := b2) (T := T) (C := C) (cH := cH) (cV := cV) (lat := lat) (und := und) (pfl := pfl) (pln := pln) (pkd := pkd) (pst := pst) (pen := pen) (per := per) (pls := pls) (pss := pss) (us := us) (f1 := f1) (f2 := f2) (f3 := f3) (pf := pf) (pm := pm) (pt := pt) (pl := pl) (pw := pw) (w1 := w1) (w2 := w2) (w3 := w3) (w4 := w4) (w5 := w5) (w6 := w6) (hn := hn) (svd := svd) (bf := bf) (y0 := y0) (y1 := y1) (y2 := y2) (y3 := y3) (y4 := y4) (y5 := y5) (y6 := y6) (y7 := y7) (ht := ht)) (fun u _ => (cs_P (x := x) (a := a) (ap := ap) (aH := aH) (aV := aV) (cI := cI) (cB := cB) (cZ := cZ) (cS := cS) (b := b2) (b2 := b) (T := ((u.2.2.2.2.1))) (C := ((u.2.2.2.2.2.1))) (cH := cH) (cV := cV) (lat := lat) (und := 0) (pfl := 0) (pln := ((sX xs i 1))) (pkd := ((u.2.2.1))) (pst := ((u.1))) (pen := ((u.2.1))) (per := ((u.2.2.2.1))) (pls := ((u.2.2.2.2.2.2.1))) (pss := ((u.2.2.2.2.2.2.2))) (us := (T 8 0)) (f1 := (T 8 1)) (f2 := (T 8 2)) (f3 := (T 8 3)) (pf := pf) (pm := pm) (pt := pt) (pl := pl) (pw := pw) (w1 := w1) (w2 := w2) (w3 := w3) (w4 := w4) (w5 := w5) (w6 := w6) (hn := hn) (svd := (uI (uI svd 0 0) 1 0)) (bf := bf) (y0 := (T 0)) (y1 := (T 1)) (y2 := (T 2)) (y3 := (T 3)) (y4 := (T 4)) (y5 := (T 5)) (y6 := (T 6)) (y7 := (T 7)) (ht := ht)).symm))
  refine q_callW (As := [.ref (x 0), .int (iI (sX xs i 1)), .ref ao]) (rest := []) (zy_ok z) hx hb hml hown hts hK hH cw_L_parse ini_L st_L_parse yw_L_parse.1 yw_L_parse.2 ml_L_82 (by rw [hR]; exact ⟨Nat.le_of_ble_eq_true rfl, Nat.le_of_ble_eq_true rfl⟩) hw hA hZ rfl rfl hl.1 (lv_room (Nat.le_of_ble_eq_true rfl)) dL_law_245 ⟨by rw [hR]; have hcs1 := hcs.1; omega, by rw [hR]; have hcs2 := hcs.2; omega⟩ (fun u H locs hu hw => ?_)
  obtain ⟨k1, k2, k3, k4, k5, k6, k7, k8⟩ := u
  replace hw : qw D (AL s) s.heap ((fl (BS x a b2 ap b aH aV cI cB cZ cS k5 k6 lat 0 0 ((sX xs i 1)) k3 k1 k2 k4 k7 k8 (T 8 0) (T 8 1) (T 8 2) (T 8 3) pf pm pt pl pw w1 w2 w3 w4 w5 w6 hn (uI (uI svd 0 0) 1 0) bf (T 0) (T 1) (T 2) (T 3) (T 4) (T 5) (T 6) (T 7) ht cH cV) ++ [outC cJ ao (vp_updL f 0 (iI (paX bf (sX xs i 1) 8 0)).toInt64)]) ++ (mW g cI cB cZ th pfl tl ts te tk nu er eo hL hS und bf dr td sa ad hi sl svd tr)) H locs := hw
  obtain ⟨g1, g2⟩ := hu
  refine lv_istore (lv' := [(5, .int (iI 0)), (0, .ref bb), (1, .ref (x 0)), (2, .ref (g 0)), (3, .ref ao), (4, .int (iI i))]) hx hb dL_law_248 hl (by decide) rfl (fun ls hl => ?_)
  refine lv_aload_n hx hb dL_law_250 rfl (lv_at hl 3 rfl) ?_
  refine lv_aload_n hx hb dL_law_251 rfl (lv_at hl 1 rfl) ?_
  refine lv_iload hx hb dL_law_252 (lv_at hl 5 rfl) ?_
  refine q_iconst hx hb dL_law_254 ?_
  refine q_iadd hx hb dL_law_255 ?_
  refine q_scr hB hw ⟨by omega, by omega⟩ dL_law_256 ?_
  replace hw := hw.comm
  refine q_callH (As := [.int (iI (sX xs i 1))]) (rest := []) (zy_ok z) hx hb hml hown hts hK (qH_z (qH_Mz (c_X7_parse (sX xs i 1) hby hpf h1 hnu.1 hnu.2 h2)) (zy_z z)) yi_X7_parse ml_L_87 (by rw [hR]; exact ⟨Nat.le_of_ble_eq_true rfl, Nat.le_of_ble_eq_true rfl⟩) hw hA hZ 0 rfl rfl rfl rfl hl.1 (lv_room (Nat.le_of_ble_eq_true rfl)) dL_law_257 ⟨by rw [hR]; have hcs1 := hcs.1; omega, by rw [hR]; have hcs2 := hcs.2; omega⟩ (fun u H locs hu hw => ?_)
  obtain ⟨ts2, te2, tk2, nu2, er2, eo2, dr2, hL2, hS2, td2, sa2, sv2⟩ := u
  obtain ⟨n1, n2, n3, n4⟩ := hu
  replace hw : qw D (AL s) s.heap ((fl (BS x a b2 ap b aH aV cI cB cZ cS k5 k6 lat 0 0 ((sX xs i 1)) k3 k1 k2 k4 k7 k8 (T 8 0) (T 8 1) (T 8 2) (T 8 3) pf pm pt pl pw w1 w2 w3 w4 w5 w6 hn (uI (uI svd 0 0) 1 0) bf (T 0) (T 1) (T 2) (T 3) (T 4) (T 5) (T 6) (T 7) ht cH cV) ++ [outC cJ ao (vp_updL f 0 (iI (paX bf (sX xs i 1) 8 0)).toInt64)]) ++ (mW g cI cB cZ 0 0 ((sX xs i 1)) ts2 te2 tk2 nu2 er2 eo2 hL2 hS2 0 bf dr2 td2 sa2 ad hi sl sv2 tr)) H locs := hw.comm
  have n4 : sv2 = uI (uI svd 0 0) 1 0 := n4
  subst n4
  replace hw : qw D (AL s) s.heap ((fl (BS x a b2 ap b aH aV cI cB cZ cS k5 k6 lat 0 0 ((sX xs i 1)) k3 k1 k2 k4 k7 k8 (T 8 0) (T 8 1) (T 8 2) (T 8 3) pf pm pt pl pw w1 w2 w3 w4 w5 w6 hn (uI (uI svd 0 0) 1 0) bf (T 0) (T 1) (T 2) (T 3) (T 4) (T 5) (T 6) (T 7) ht cH cV) ++ [outC cJ ao (vp_updL f 0 (iI (paX bf (sX xs i 1) 8 0)).toInt64)]) ++ (mW g cI cB cZ 0 0 ((sX xs i 1)) ts2 te2 tk2 nu2 er2 eo2 hL2 hS2 0 bf dr2 td2 sa2 ad hi sl (uI (uI svd 0 0) 1 0) tr)) H locs := hw
  refine lv_istore (lv' := [(6, .int (iI (paX bf (sX xs i 1) 8 0))), (5, .int (iI 0)), (0, .ref bb), (1, .ref (x 0)), (2, .ref (g 0)), (3, .ref ao), (4, .int (iI i))]) hx hb dL_law_260 hl (by decide) rfl (fun ls hl => ?_)
  refine lv_aload_n hx hb dL_law_262 rfl (lv_at hl 4 rfl) ?_
  replace hw := hw.comm
  refine q_callH (As := []) (rest := []) (zy_ok z) hx hb hml hown hts hK (qH_P c_X7_thrown) yi_X7_thrown ml_L_88 (by rw [hR]; exact ⟨Nat.le_of_ble_eq_true rfl, Nat.le_of_ble_eq_true rfl⟩) hw hA hZ 0 rfl rfl rfl rfl hl.1 (lv_room (Nat.le_of_ble_eq_true rfl)) dL_law_263 ⟨by rw [hR]; have hcs1 := hcs.1; omega, by rw [hR]; have hcs2 := hcs.2; omega⟩ (fun u H locs _ hw => ?_)
  replace hw : qw D (AL s) s.heap ((fl (BS x a b2 ap b aH aV cI cB cZ cS k5 k6 lat 0 0 ((sX xs i 1)) k3 k1 k2 k4 k7 k8 (T 8 0) (T 8 1) (T 8 2) (T 8 3) pf pm pt pl pw w1 w2 w3 w4 w5 w6 hn (uI (uI svd 0 0) 1 0) bf (T 0) (T 1) (T 2) (T 3) (T 4) (T 5) (T 6) (T 7) ht cH cV) ++ [outC cJ ao (vp_updL f 0 (iI (paX bf (sX xs i 1) 8 0)).toInt64)]) ++ (mW g cI cB cZ 0 0 ((sX xs i 1)) ts2 te2 tk2 nu2 er2 eo2 hL2 hS2 0 bf dr2 td2 sa2 ad hi sl (uI (uI svd 0 0) 1 0) tr)) H locs := hw.comm
  refine lv_iload hx hb dL_law_266 (lv_at hl 1 rfl) ?_
  refine q_same (tgt := 273) hx hb dL_law_268 (by decide) ?_
  refine lv_iload hx hb dL_law_273 (lv_at hl 1 rfl) ?_
  refine q_if_ne (tgt := 290) hx hb dL_law_275 (by decide) (by decide) (fun c9 => absurd rfl c9) (fun _ => ?_)
  refine lv_aload_n hx hb dL_law_278 rfl (lv_at hl 5 rfl) ?_
  refine q_iconst hx hb dL_law_279 ?_
  refine q_lald hx hb hK hw.1 (fl (BS x a b2 ap b aH aV cI cB cZ cS k5 k6 lat 0 0 ((sX xs i 1)) k3 k1 k2 k4 k7 k8 (T 8 0) (T 8 1) (T 8 2) (T 8 3) pf pm pt pl pw w1 w2 w3 w4 w5 w6 hn (uI (uI svd 0 0) 1 0) bf (T 0) (T 1) (T 2) (T 3) (T 4) (T 5) (T 6) (T 7) ht cH cV)).length 4 (get_mid _ _ _) rfl (vu_0 _ _) dL_law_280 ?_
  refine lv_iload hx hb dL_law_281 (lv_at hl 0 rfl) ?_
  refine lv_i2l hx hb dL_law_283 rfl ?_
  refine q_lsame (tgt := 290) hx hb dL_law_284 dL_law_285 (by decide) ?_
  refine lv_goto (tgt := 1484) hx hb dL_law_290 (by decide) ?_
  exact W_wide (Nat.le_succ _) (Nat.le_add_right _ _) (kk _ H locs ls ⟨b2, b, k5, k6, cH, cV, lat, 0, 0, ((sX xs i 1)), k3, k1, k2, k4, k7, k8, (T 8 0), (T 8 1), (T 8 2), (T 8 3), pf, pm, pt, pl, pw, w1, w2, w3, w4, w5, w6, hn, 0, ((sX xs i 1)), ts2, te2, tk2, nu2, er2, eo2, hL2, hS2, (uI (uI svd 0 0) 1 0), bf, (T 0), (T 1), (T 2), (T 3), (T 4), (T 5), (T 6), (T 7), ht, dr2, td2, sa2, ad, hi, sl, tr, (vp_updL f 0 (iI (paX bf (sX xs i 1) 8 0)).toInt64), ⟨WM_T (n3 k6 (frC_T g2 g1)) g1, FR_fr g2, hby, ⟨by decide, by decide⟩, ⟨n1, n2⟩, ⟨by omega, by omega, by decide, by decide⟩, fun j p q => absurd q (by omega), fun j => by unfold uI; split; exact Or.inl rfl; split; exact Or.inl rfl; exact hsv j, SW_0⟩, rfl⟩ hw (lv_sub hl [2, 3, 4, 5, 6] rfl))

set_option maxHeartbeats 4000000 in
set_option maxRecDepth 100000 in
theorem law_parse_2 (h1 : 0 ≤ (sX xs i 1) ∧ (sX xs i 1) ≤ pfl) (h2 : ¬ (paX bf (sX xs i 1) 9 3 = 0)) (hB : LB p l s m args c R z D cI cB cZ cS cJ bb L xs) (hF : LF i T C td sa hi sl svd bf pfl nu eo lat und cH cV) (hw : qw D (AL s) s.heap ((fl (BS x a b ap b2 aH aV cI cB cZ cS T C lat und pfl pln pkd pst pen per pls pss us f1 f2 f3 pf pm pt pl pw w1 w2 w3 w4 w5 w6 hn svd bf y0 y1 y2 y3 y4 y5 y6 y7 ht cH cV) ++ [outC cJ ao f]) ++ (mW g cI cB cZ th pfl tl ts te tk nu er eo hL hS und bf dr td sa ad hi sl svd tr)) H locs) (hl : lv_has ls 9 (lv5 x g ao bb i)) (hrn : 0 ≤ i ∧ i + 6 ≤ (L : Int)) (hcs : cells + 1 ≤ room_1.cells ∧ slots + 6 ≤ room_1.slots) (kk : ∀ (ws1 : va_W) (H1 : Heap) (locs1 : List Loc) (ls1 : Array Slot), LI x a ap aH aV g ao cI cB cZ cS cJ (i + 6) ws1 → qw D (AL s) s.heap ws1 H1 locs1 → lv_has ls1 9 (lv5 x g ao bb i) → W p l e R s m args below meth c H1 locs1 (cells + 1) (slots + 6) Q (F0 m 1484 ls1 [])) : W p l e R s m args below meth c H locs cells slots Q (F0 m 237 ls []) := by
  have hB0 := hB
  obtain ⟨⟨hx, hb, hml, hown, hts, hK⟩, hR, hZ, hst, hX, hbl, hL9⟩ := hB0
  obtain ⟨hM, hFR, hby, hpf, hnu, hla, hHW, hsv, hSW⟩ := hF
  have hlc : 0 ≤ lat ∧ lat ≤ 1000000 ∧ 0 ≤ und ∧ und ≤ 10 := by omega
  have hln : und ≤ lat ∧ lat ≤ i + 6 ∧ 0 ≤ und ∧ und ≤ 10 := by omega
  have hA : ∀ q : Nat, s.heap.size ≤ q → AL s q := fun q h => h
  have hl : lv_has ls 9 [(0, .ref bb), (1, .ref (x 0)), (2, .ref (g 0)), (3, .ref ao), (4, .int (iI i))] := hl
  refine lv_aload_n hx hb dL_law_237 rfl (lv_at hl 1 rfl) ?_
  refine lv_aload_n hx hb dL_law_238 rfl (lv_at hl 0 rfl) ?_
  refine lv_iload hx hb dL_law_239 (lv_at hl 4 rfl) ?_
  refine q_iconst hx hb dL_law_241 ?_
  refine q_iadd hx hb dL_law_242 ?_
  refine q_scr hB hw ⟨by omega, by omega⟩ dL_law_243 ?_
  refine lv_aload_n hx hb dL_law_244 rfl (lv_at hl 3 rfl) ?_
  have hH := c_L_parse (l := l) (D := D) (z := z) (cI := cI) (cB := cB) (cZ := cZ) (cS := cS) (cJ := cJ) (ao := ao) (W0 := (fl (BS x a b ap b2 aH aV cI cB cZ cS T C lat und pfl pln pkd pst pen per pls pss us f1 f2 f3 pf pm pt pl pw w1 w2 w3 w4 w5 w6 hn svd bf y0 y1 y2 y3 y4 y5 y6 y7 ht cH cV))) (b0 := x 0) (f := f) ((sX xs i 1)) rfl (qH_up (l := l) (D := D) (Z := ZY z) (ty := tyG cI cB cZ cS cJ) (W9 := (fl (BS x a b ap b2 aH aV cI cB cZ cS T C lat und pfl pln pkd pst pen per pls pss us f1 f2 f3 pf pm pt pl pw w1 w2 w3 w4 w5 w6 hn svd bf y0 y1 y2 y3 y4 y5 y6 y7 ht cH cV))) (zy_ok z) (qH_z (qH_Mz (c_X6_parse_e (sX xs i 1) hby hpf h1 h2)) (zy_z z)) _ (cs_P (x := x) (a := a) (ap := ap) (aH := aH) (aV := aV) (cI := cI) (cB := cB) (cZ := cZ) (cS := cS) (b := b) (b2 := b2) (T := T) (C := C) (cH := cH) (cV := cV) (lat := lat) (und := und) (pfl := pfl) (pln := pln) (pkd := pkd) (pst := pst) (pen := pen) (per := per) (pls := pls) (pss := pss) (us := us) (f1 := f1) (f2 := f2) (f3 := f3) (pf := pf) (pm := pm) (pt := pt) (pl := pl) (pw := pw) (w1 := w1) (w2 := w2) (w3 := w3) (w4 := w4) (w5 := w5) (w6 := w6) (hn := hn) (svd := svd) (bf := bf) (y0 := y0) (y1 := y1) (y2 := y2) (y3 := y3) (y4 := y4) (y5 := y5) (y6 := y6) (y7 := y7) (ht := ht)) (fun u _ => (cs_P (x := x) (a := a) (ap := ap) (aH := aH) (aV := aV) (cI := cI) (cB := cB) (cZ := cZ) (cS := cS) (b := b) (b2 := b2) (T := T) (C := C) (cH := cH) (cV := cV) (lat := lat) (und := und) (pfl := 0) (pln := ((sX xs i 1))) (pkd := ((u.2.2.1))) (pst := ((u.1))) (pen := ((u.2.1))) (per := ((u.2.2.2.1))) (pls := ((u.2.2.2.2.2.2.2.2.2.2.2.2.2.2.2.2.1))) (pss := ((u.2.2.2.2.2.2.2.2.2.2.2.2.2.2.2.2.2))) (us := ((u.2.2.2.2.1))) (f1 := ((u.2.2.2.2.2.1))) (f2 := ((u.2.2.2.2.2.2.1))) (f3 := ((u.2.2.2.2.2.2.2.1))) (pf := pf) (pm := pm) (pt := pt) (pl := pl) (pw := pw) (w1 := w1) (w2 := w2) (w3 := w3) (w4 := w4) (w5 := w5) (w6 := w6) (hn := hn) (svd := svd) (bf := bf) (y0 := ((u.2.2.2.2.2.2.2.2.1))) (y1 := ((u.2.2.2.2.2.2.2.2.2.1))) (y2 := ((u.2.2.2.2.2.2.2.2.2.2.1))) (y3 := ((u.2.2.2.2.2.2.2.2.2.2.2.1))) (y4 := ((u.2.2.2.2.2.2.2.2.2.2.2.2.1))) (y5 := ((u.2.2.2.2.2.2.2.2.2.2.2.2.2.1))) (y6 := ((u.2.2.2.2.2.2.2.2.2.2.2.2.2.2.1))) (y7 := ((u.2.2.2.2.2.2.2.2.2.2.2.2.2.2.2.1))) (ht := ht)).symm))
  refine q_callW (As := [.ref (x 0), .int (iI (sX xs i 1)), .ref ao]) (rest := []) (zy_ok z) hx hb hml hown hts hK hH cw_L_parse ini_L st_L_parse yw_L_parse.1 yw_L_parse.2 ml_L_82 (by rw [hR]; exact ⟨Nat.le_of_ble_eq_true rfl, Nat.le_of_ble_eq_true rfl⟩) hw hA hZ rfl rfl hl.1 (lv_room (Nat.le_of_ble_eq_true rfl)) dL_law_245 ⟨by rw [hR]; have hcs1 := hcs.1; omega, by rw [hR]; have hcs2 := hcs.2; omega⟩ (fun u H locs hu hw => ?_)
  obtain ⟨k1, k2, k3, k4, k5, k6, k7, k8, k9, k10, k11, k12, k13, k14, k15, k16, k17, k18⟩ := u
  replace hw : qw D (AL s) s.heap ((fl (BS x a b ap b2 aH aV cI cB cZ cS T C lat und 0 ((sX xs i 1)) k3 k1 k2 k4 k17 k18 k5 k6 k7 k8 pf pm pt pl pw w1 w2 w3 w4 w5 w6 hn svd bf k9 k10 k11 k12 k13 k14 k15 k16 ht cH cV) ++ [outC cJ ao (vp_updL f 0 (iI ((-2) - (8 * paX bf (sX xs i 1) 9 4 + paX bf (sX xs i 1) 9 3))).toInt64)]) ++ (mW g cI cB cZ th pfl tl ts te tk nu er eo hL hS und bf dr td sa ad hi sl svd tr)) H locs := hw
  refine lv_istore (lv' := [(5, .int (iI 0)), (0, .ref bb), (1, .ref (x 0)), (2, .ref (g 0)), (3, .ref ao), (4, .int (iI i))]) hx hb dL_law_248 hl (by decide) rfl (fun ls hl => ?_)
  refine lv_aload_n hx hb dL_law_250 rfl (lv_at hl 3 rfl) ?_
  refine lv_aload_n hx hb dL_law_251 rfl (lv_at hl 1 rfl) ?_
  refine lv_iload hx hb dL_law_252 (lv_at hl 5 rfl) ?_
  refine q_iconst hx hb dL_law_254 ?_
  refine q_iadd hx hb dL_law_255 ?_
  refine q_scr hB hw ⟨by omega, by omega⟩ dL_law_256 ?_
  replace hw := hw.comm
  refine q_callH (As := [.int (iI (sX xs i 1))]) (rest := []) (zy_ok z) hx hb hml hown hts hK (qH_z (qH_Mz (c_X7_parse_e (sX xs i 1) hby hpf h1 hnu.1 hnu.2 h2)) (zy_z z)) yi_X7_parse ml_L_87 (by rw [hR]; exact ⟨Nat.le_of_ble_eq_true rfl, Nat.le_of_ble_eq_true rfl⟩) hw hA hZ 0 rfl rfl rfl rfl hl.1 (lv_room (Nat.le_of_ble_eq_true rfl)) dL_law_257 ⟨by rw [hR]; have hcs1 := hcs.1; omega, by rw [hR]; have hcs2 := hcs.2; omega⟩ (fun u H locs hu hw => ?_)
  obtain ⟨ts2, te2, tk2, nu2, er2, eo2, dr2, hL2, hS2⟩ := u
  obtain ⟨n1, n2⟩ := hu
  replace hw : qw D (AL s) s.heap ((fl (BS x a b ap b2 aH aV cI cB cZ cS T C lat und 0 ((sX xs i 1)) k3 k1 k2 k4 k17 k18 k5 k6 k7 k8 pf pm pt pl pw w1 w2 w3 w4 w5 w6 hn svd bf k9 k10 k11 k12 k13 k14 k15 k16 ht cH cV) ++ [outC cJ ao (vp_updL f 0 (iI ((-2) - (8 * paX bf (sX xs i 1) 9 4 + paX bf (sX xs i 1) 9 3))).toInt64)]) ++ (mW g cI cB cZ 0 0 ((sX xs i 1)) ts2 te2 tk2 nu2 er2 eo2 hL2 hS2 und bf dr2 td sa ad hi sl svd tr)) H locs := hw.comm
  refine lv_istore (lv' := [(6, .int (iI ((-2) - (8 * paX bf (sX xs i 1) 9 4 + paX bf (sX xs i 1) 9 3)))), (5, .int (iI 0)), (0, .ref bb), (1, .ref (x 0)), (2, .ref (g 0)), (3, .ref ao), (4, .int (iI i))]) hx hb dL_law_260 hl (by decide) rfl (fun ls hl => ?_)
  refine lv_aload_n hx hb dL_law_262 rfl (lv_at hl 4 rfl) ?_
  replace hw := hw.comm
  refine q_callH (As := []) (rest := []) (zy_ok z) hx hb hml hown hts hK (qH_P c_X7_thrown) yi_X7_thrown ml_L_88 (by rw [hR]; exact ⟨Nat.le_of_ble_eq_true rfl, Nat.le_of_ble_eq_true rfl⟩) hw hA hZ 0 rfl rfl rfl rfl hl.1 (lv_room (Nat.le_of_ble_eq_true rfl)) dL_law_263 ⟨by rw [hR]; have hcs1 := hcs.1; omega, by rw [hR]; have hcs2 := hcs.2; omega⟩ (fun u H locs _ hw => ?_)
  replace hw : qw D (AL s) s.heap ((fl (BS x a b ap b2 aH aV cI cB cZ cS T C lat und 0 ((sX xs i 1)) k3 k1 k2 k4 k17 k18 k5 k6 k7 k8 pf pm pt pl pw w1 w2 w3 w4 w5 w6 hn svd bf k9 k10 k11 k12 k13 k14 k15 k16 ht cH cV) ++ [outC cJ ao (vp_updL f 0 (iI ((-2) - (8 * paX bf (sX xs i 1) 9 4 + paX bf (sX xs i 1) 9 3))).toInt64)]) ++ (mW g cI cB cZ 0 0 ((sX xs i 1)) ts2 te2 tk2 nu2 er2 eo2 hL2 hS2 und bf dr2 td sa ad hi sl svd tr)) H locs := hw.comm
  refine lv_iload hx hb dL_law_266 (lv_at hl 1 rfl) ?_
  refine q_same (tgt := 273) hx hb dL_law_268 (by decide) ?_
  refine lv_iload hx hb dL_law_273 (lv_at hl 1 rfl) ?_
  refine q_if_ne (tgt := 290) hx hb dL_law_275 (by decide) (by decide) (fun c9 => absurd rfl c9) (fun _ => ?_)
  refine lv_aload_n hx hb dL_law_278 rfl (lv_at hl 5 rfl) ?_
  refine q_iconst hx hb dL_law_279 ?_
  refine q_lald hx hb hK hw.1 (fl (BS x a b ap b2 aH aV cI cB cZ cS T C lat und 0 ((sX xs i 1)) k3 k1 k2 k4 k17 k18 k5 k6 k7 k8 pf pm pt pl pw w1 w2 w3 w4 w5 w6 hn svd bf k9 k10 k11 k12 k13 k14 k15 k16 ht cH cV)).length 4 (get_mid _ _ _) rfl (vu_0 _ _) dL_law_280 ?_
  refine lv_iload hx hb dL_law_281 (lv_at hl 0 rfl) ?_
  refine lv_i2l hx hb dL_law_283 rfl ?_
  refine q_lsame (tgt := 290) hx hb dL_law_284 dL_law_285 (by decide) ?_
  refine lv_goto (tgt := 1484) hx hb dL_law_290 (by decide) ?_
  exact W_wide (Nat.le_succ _) (Nat.le_add_right _ _) (kk _ H locs ls ⟨b, b2, T, C, cH, cV, lat, und, 0, ((sX xs i 1)), k3, k1, k2, k4, k17, k18, k5, k6, k7, k8, pf, pm, pt, pl, pw, w1, w2, w3, w4, w5, w6, hn, 0, ((sX xs i 1)), ts2, te2, tk2, nu2, er2, eo2, hL2, hS2, svd, bf, k9, k10, k11, k12, k13, k14, k15, k16, ht, dr2, td, sa, ad, hi, sl, tr, (vp_updL f 0 (iI ((-2) - (8 * paX bf (sX xs i 1) 9 4 + paX bf (sX xs i 1) 9 3))).toInt64), ⟨hM, hFR, hby, ⟨by decide, by decide⟩, ⟨n1, n2⟩, hln, hHW, hsv, hSW⟩, rfl⟩ hw (lv_sub hl [2, 3, 4, 5, 6] rfl))

set_option maxHeartbeats 4000000 in
set_option maxRecDepth 100000 in
theorem law_parse_1 (h1 : ¬ (0 ≤ (sX xs i 1) ∧ (sX xs i 1) ≤ pfl)) (hB : LB p l s m args c R z D cI cB cZ cS cJ bb L xs) (hF : LF i T C td sa hi sl svd bf pfl nu eo lat und cH cV) (hw : qw D (AL s) s.heap ((fl (BS x a b ap b2 aH aV cI cB cZ cS T C lat und pfl pln pkd pst pen per pls pss us f1 f2 f3 pf pm pt pl pw w1 w2 w3 w4 w5 w6 hn svd bf y0 y1 y2 y3 y4 y5 y6 y7 ht cH cV) ++ [outC cJ ao f]) ++ (mW g cI cB cZ th pfl tl ts te tk nu er eo hL hS und bf dr td sa ad hi sl svd tr)) H locs) (hl : lv_has ls 9 (lv5 x g ao bb i)) (hrn : 0 ≤ i ∧ i + 6 ≤ (L : Int)) (hcs : cells + 1 ≤ room_1.cells ∧ slots + 6 ≤ room_1.slots) (kk : ∀ (ws1 : va_W) (H1 : Heap) (locs1 : List Loc) (ls1 : Array Slot), LI x a ap aH aV g ao cI cB cZ cS cJ (i + 6) ws1 → qw D (AL s) s.heap ws1 H1 locs1 → lv_has ls1 9 (lv5 x g ao bb i) → W p l e R s m args below meth c H1 locs1 (cells + 1) (slots + 6) Q (F0 m 1484 ls1 [])) : W p l e R s m args below meth c H locs cells slots Q (F0 m 237 ls []) := by
  have hB0 := hB
  obtain ⟨⟨hx, hb, hml, hown, hts, hK⟩, hR, hZ, hst, hX, hbl, hL9⟩ := hB0
  obtain ⟨hM, hFR, hby, hpf, hnu, hla, hHW, hsv, hSW⟩ := hF
  have hlc : 0 ≤ lat ∧ lat ≤ 1000000 ∧ 0 ≤ und ∧ und ≤ 10 := by omega
  have hln : und ≤ lat ∧ lat ≤ i + 6 ∧ 0 ≤ und ∧ und ≤ 10 := by omega
  have hA : ∀ q : Nat, s.heap.size ≤ q → AL s q := fun q h => h
  have hl : lv_has ls 9 [(0, .ref bb), (1, .ref (x 0)), (2, .ref (g 0)), (3, .ref ao), (4, .int (iI i))] := hl
  refine lv_aload_n hx hb dL_law_237 rfl (lv_at hl 1 rfl) ?_
  refine lv_aload_n hx hb dL_law_238 rfl (lv_at hl 0 rfl) ?_
  refine lv_iload hx hb dL_law_239 (lv_at hl 4 rfl) ?_
  refine q_iconst hx hb dL_law_241 ?_
  refine q_iadd hx hb dL_law_242 ?_
  refine q_scr hB hw ⟨by omega, by omega⟩ dL_law_243 ?_
  refine lv_aload_n hx hb dL_law_244 rfl (lv_at hl 3 rfl) ?_
  have hH := c_L_parse_x1 (l := l) (D := D) (z := z) (cI := cI) (cB := cB) (cZ := cZ) (cS := cS) (cJ := cJ) (ao := ao) (W0 := (fl (BS x a b ap b2 aH aV cI cB cZ cS T C lat und pfl pln pkd pst pen per pls pss us f1 f2 f3 pf pm pt pl pw w1 w2 w3 w4 w5 w6 hn svd bf y0 y1 y2 y3 y4 y5 y6 y7 ht cH cV))) (b0 := x 0) (f := f) ((sX xs i 1)) rfl (qT_up (l := l) (D := D) (Z := ZY z) (ty := tyG cI cB cZ cS cJ) (W9 := (fl (BS x a b ap b2 aH aV cI cB cZ cS T C lat und pfl pln pkd pst pen per pls pss us f1 f2 f3 pf pm pt pl pw w1 w2 w3 w4 w5 w6 hn svd bf y0 y1 y2 y3 y4 y5 y6 y7 ht cH cV))) (zy_ok z) (c_X6_parse_x (sX xs i 1) hst hpf (rg_of _) h1) _ cs_X)
  refine q_callW (As := [.ref (x 0), .int (iI (sX xs i 1)), .ref ao]) (rest := []) (zy_ok z) hx hb hml hown hts hK hH cw_L_parse ini_L st_L_parse yw_L_parse.1 yw_L_parse.2 ml_L_82 (by rw [hR]; exact ⟨Nat.le_of_ble_eq_true rfl, Nat.le_of_ble_eq_true rfl⟩) hw hA hZ rfl rfl hl.1 (lv_room (Nat.le_of_ble_eq_true rfl)) dL_law_245 ⟨by rw [hR]; have hcs1 := hcs.1; omega, by rw [hR]; have hcs2 := hcs.2; omega⟩ (fun u H locs hu hw => ?_)
  replace hw : qw D (AL s) s.heap ((fl (BS x a b ap b2 aH aV cI cB cZ cS T C lat und pfl pln pkd pst pen per pls pss us f1 f2 f3 pf pm pt pl pw w1 w2 w3 w4 w5 w6 hn svd bf y0 y1 y2 y3 y4 y5 y6 y7 ht cH cV) ++ [outC cJ ao f]) ++ (mW g cI cB cZ th pfl tl ts te tk nu er eo hL hS und bf dr td sa ad hi sl svd tr)) H locs := hw
  refine lv_istore (lv' := [(5, .int (iI 1)), (0, .ref bb), (1, .ref (x 0)), (2, .ref (g 0)), (3, .ref ao), (4, .int (iI i))]) hx hb dL_law_248 hl (by decide) rfl (fun ls hl => ?_)
  refine lv_aload_n hx hb dL_law_250 rfl (lv_at hl 3 rfl) ?_
  refine lv_aload_n hx hb dL_law_251 rfl (lv_at hl 1 rfl) ?_
  refine lv_iload hx hb dL_law_252 (lv_at hl 5 rfl) ?_
  refine q_iconst hx hb dL_law_254 ?_
  refine q_iadd hx hb dL_law_255 ?_
  refine q_scr hB hw ⟨by omega, by omega⟩ dL_law_256 ?_
  replace hw := hw.comm
  refine q_callH (As := [.int (iI (sX xs i 1))]) (rest := []) (zy_ok z) hx hb hml hown hts hK (qH_M (c_X7_parse_no (sX xs i 1) hby hpf (rg_of _) h1)) yi_X7_parse ml_L_87 (by rw [hR]; exact ⟨Nat.le_of_ble_eq_true rfl, Nat.le_of_ble_eq_true rfl⟩) hw hA hZ 0 rfl rfl rfl rfl hl.1 (lv_room (Nat.le_of_ble_eq_true rfl)) dL_law_257 ⟨by rw [hR]; have hcs1 := hcs.1; omega, by rw [hR]; have hcs2 := hcs.2; omega⟩ (fun u H locs hu hw => ?_)
  replace hw : qw D (AL s) s.heap ((fl (BS x a b ap b2 aH aV cI cB cZ cS T C lat und pfl pln pkd pst pen per pls pss us f1 f2 f3 pf pm pt pl pw w1 w2 w3 w4 w5 w6 hn svd bf y0 y1 y2 y3 y4 y5 y6 y7 ht cH cV) ++ [outC cJ ao f]) ++ (mW g cI cB cZ 1 pfl tl ts te tk nu er eo hL hS und bf dr td sa ad hi sl svd tr)) H locs := hw.comm
  refine lv_istore (lv' := [(6, .int (iI 0)), (5, .int (iI 1)), (0, .ref bb), (1, .ref (x 0)), (2, .ref (g 0)), (3, .ref ao), (4, .int (iI i))]) hx hb dL_law_260 hl (by decide) rfl (fun ls hl => ?_)
  refine lv_aload_n hx hb dL_law_262 rfl (lv_at hl 4 rfl) ?_
  replace hw := hw.comm
  refine q_callH (As := []) (rest := []) (zy_ok z) hx hb hml hown hts hK (qH_P c_X7_thrown) yi_X7_thrown ml_L_88 (by rw [hR]; exact ⟨Nat.le_of_ble_eq_true rfl, Nat.le_of_ble_eq_true rfl⟩) hw hA hZ 0 rfl rfl rfl rfl hl.1 (lv_room (Nat.le_of_ble_eq_true rfl)) dL_law_263 ⟨by rw [hR]; have hcs1 := hcs.1; omega, by rw [hR]; have hcs2 := hcs.2; omega⟩ (fun u H locs _ hw => ?_)
  replace hw : qw D (AL s) s.heap ((fl (BS x a b ap b2 aH aV cI cB cZ cS T C lat und pfl pln pkd pst pen per pls pss us f1 f2 f3 pf pm pt pl pw w1 w2 w3 w4 w5 w6 hn svd bf y0 y1 y2 y3 y4 y5 y6 y7 ht cH cV) ++ [outC cJ ao f]) ++ (mW g cI cB cZ 1 pfl tl ts te tk nu er eo hL hS und bf dr td sa ad hi sl svd tr)) H locs := hw.comm
  refine lv_iload hx hb dL_law_266 (lv_at hl 1 rfl) ?_
  refine q_same (tgt := 273) hx hb dL_law_268 (by decide) ?_
  refine lv_iload hx hb dL_law_273 (lv_at hl 1 rfl) ?_
  refine q_if_ne (tgt := 290) hx hb dL_law_275 (by decide) (by decide) (fun _ => ?_) (fun c9 => absurd c9 (by decide))
  refine lv_goto (tgt := 1484) hx hb dL_law_290 (by decide) ?_
  exact (kk _ H locs ls ⟨b, b2, T, C, cH, cV, lat, und, pfl, pln, pkd, pst, pen, per, pls, pss, us, f1, f2, f3, pf, pm, pt, pl, pw, w1, w2, w3, w4, w5, w6, hn, 1, tl, ts, te, tk, nu, er, eo, hL, hS, svd, bf, y0, y1, y2, y3, y4, y5, y6, y7, ht, dr, td, sa, ad, hi, sl, tr, f, ⟨hM, hFR, hby, hpf, hnu, hln, hHW, hsv, hSW⟩, rfl⟩ hw (lv_sub hl [2, 3, 4, 5, 6] rfl))

theorem law_parse (hB : LB p l s m args c R z D cI cB cZ cS cJ bb L xs) (hI : LI x a ap aH aV g ao cI cB cZ cS cJ i ws) (hw : qw D (AL s) s.heap ws H locs) (hl : lv_has ls 9 (lv5 x g ao bb i)) (hrn : 0 ≤ i ∧ i + 6 ≤ (L : Int)) (hcs : cells + 1 ≤ room_1.cells ∧ slots + 6 ≤ room_1.slots) (kk : ∀ (ws1 : va_W) (H1 : Heap) (locs1 : List Loc) (ls1 : Array Slot), LI x a ap aH aV g ao cI cB cZ cS cJ (i + 6) ws1 → qw D (AL s) s.heap ws1 H1 locs1 → lv_has ls1 9 (lv5 x g ao bb i) → W p l e R s m args below meth c H1 locs1 (cells + 1) (slots + 6) Q (F0 m 1484 ls1 [])) : W p l e R s m args below meth c H locs cells slots Q (F0 m 237 ls []) := by
  obtain ⟨b, b2, T, C, cH, cV, lat, und, pfl, pln, pkd, pst, pen, per, pls, pss, us, f1, f2, f3, pf, pm, pt, pl, pw, w1, w2, w3, w4, w5, w6, hn, th, tl, ts, te, tk, nu, er, eo, hL, hS, svd, bf, y0, y1, y2, y3, y4, y5, y6, y7, ht, dr, td, sa, ad, hi, sl, tr, f, hF, rfl⟩ := hI
  by_cases h1 : 0 ≤ (sX xs i 1) ∧ (sX xs i 1) ≤ pfl
  · by_cases h2 : paX bf (sX xs i 1) 9 3 = 0
    · exact law_parse_0 h1 h2 hB hF hw hl hrn hcs kk
    · exact law_parse_2 h1 h2 hB hF hw hl hrn hcs kk
  · exact law_parse_1 h1 hB hF hw hl hrn hcs kk
