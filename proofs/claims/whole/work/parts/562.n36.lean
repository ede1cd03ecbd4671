/-! THE LAW'S WALK, from its entry -/
section LWW
variable {p : Program} {l : Launch} {e : Env} {R : Room} {s : State} {m : MethodId} {args : Array Value} {below : List Frame} {meth : Method} {c : Code} {Q : State → Prop} {D : va_G} {cI cB cZ cS cJ : ClassId} {z : Nat → Nat} {bb L : Nat} {xs : Nat → Int32} {ls : Array Slot}
theorem LF_0 {C2 : Nat → Int → Int} {td sa : Int → Int} (hC : frC tI C2) (hM : WM td sa tI C2) : LF 0 tI C2 td sa (fun _ => 0) (fun _ => 0) (uI (uI (fun _ => 0) 0 0) 1 0) (fun _ => 0) 0 0 0 0 0 zH zH := by
  refine ⟨hM, FR_fr hC, fun i => ⟨show (-128 : Int) ≤ 0 by decide, show (0 : Int) < 128 by decide⟩, ⟨by decide, by decide⟩, ⟨⟨by decide, by decide⟩, by decide, by decide⟩, ⟨by decide, by decide, by decide, by decide⟩, fun i h1 h2 => absurd h2 (by omega), fun i => Or.inl ?_, SW_0⟩
  unfold uI
  split
  · rfl
  · split <;> rfl
set_option maxHeartbeats 4000000 in
theorem law_all (hx : p.tables.exec = Jvm.exec) (hb : c.code = code) (hml : c.maxLocals = 9) (hown : s.vm.findClass RL = some m.cls) (hts : ∀ w ∈ gW, w.before args s = true) (hK : va_K D vwCl (tyG cI cB cZ cS cJ) s) (hR : R = room_1) (hZ : ZW z (AL s) s s.heap) (hst : l.stackTraces = false) (hX : va_X bb L xs s s.heap) (hbl : bb < s.heap.size) (hL : L ≤ 3072) (hl : lv_has ls 9 [(0, .ref bb)]) (kend : ∀ (ws1 : va_W) (H1 : Heap) (locs1 : List Loc) (ls1 : Array Slot) (c1 s1 : Nat), c1 ≤ room_1.cells → s1 ≤ room_1.slots → qw D (AL s) s.heap ws1 H1 locs1 → W p l e R s m args below meth c H1 locs1 c1 s1 Q (F0 m 1491 ls1 [.int 1])) : W p l e R s m args below meth c s.heap [] 0 0 Q (F0 m 0 ls []) := by
  have hA : ∀ q : Nat, s.heap.size ≤ q → (AL s) q := fun q h => h
  have hw : qw D (AL s) s.heap [] s.heap [] := ⟨fun k q h => by simp at h, ⟨fun i j p q h => by simp at h, fun k q h => by simp at h⟩, va_S.rf⟩
  refine q_newO (fs := [.null, .null, .null, .null, .int (iI 0), .int (iI 0), .null, .null, .null, .null]) hx hb hts hown hK hw hA ci_X6 cl_L_8 ins_X6 ini_X6 (fun j hj => by rcases (show j = 0 ∨ j = 1 ∨ j = 2 ∨ j = 3 ∨ j = 4 ∨ j = 5 ∨ j = 6 ∨ j = 7 ∨ j = 8 ∨ j = 9 by omega) with rfl | rfl | rfl | rfl | rfl | rfl | rfl | rfl | rfl | rfl <;> rfl) ⟨by rw [hR]; exact Nat.le_of_ble_eq_true rfl, by rw [hR]; exact Nat.le_of_ble_eq_true rfl⟩ dL_law_0 (fun q6 H hw => ?_)
  replace hw : qw D (AL s) s.heap ([(q6, .inr (6, [.null, .null, .null, .null, .int (iI 0), .int (iI 0), .null, .null, .null, .null]))] ++ []) H [] := hw
  refine lv_dup hx hb dL_law_3 rfl ?_
  refine q_callI (rest := [.ref q6]) (zw_ok z) hx hb hml hown hts hK (c_X6_init (q0 := q6)) yn_X6_init ml_L_73 (by rw [hR]; exact ⟨Nat.le_of_ble_eq_true rfl, Nat.le_of_ble_eq_true rfl⟩) hw hA hZ rfl hl.1 (lv_room (Nat.le_of_ble_eq_true rfl)) dL_law_4 ⟨by rw [hR]; exact Nat.le_of_ble_eq_true rfl, by rw [hR]; exact Nat.le_of_ble_eq_true rfl⟩ (fun u H locs hu hw1 => ?_)
  clear hw
  obtain ⟨x, a, b, ap, b2, aH, aV, C2⟩ := u
  obtain ⟨e6, hC⟩ := hu
  have e6 : x 0 = q6 := e6
  have hC : frC tI C2 := hC
  subst e6
  have hw : qw D (AL s) s.heap ((fl (BS x a b ap b2 aH aV cI cB cZ cS tI C2 0 0 0 0 0 0 0 0 0 0 0 0 0 0 0 0 0 0 0 0 0 0 0 0 0 0 (uI (uI (fun _ => 0) 0 0) 1 0) (fun _ => 0) (fun _ => 0) (fun _ => 0) (fun _ => 0) (fun _ => 0) (fun _ => 0) (fun _ => 0) (fun _ => 0) (fun _ => 0) (fun _ => 0) zH zH)) ++ []) H locs := hw1
  clear hw1
  rw [List.append_nil] at hw
  refine lv_astore_n (lv' := [(1, .ref (x 0)), (0, .ref bb)]) hx hb dL_law_7 rfl hl (by decide) rfl (fun ls hl => ?_)
  refine q_newO (fs := [.int (iI 0), .null, .int (iI 0), .int (iI 0), .int (iI 0), .int (iI 0), .int (iI 0), .int (iI 0), .int (iI 0), .int (iI 0), .null, .null, .int (iI 0), .int (iI 0), .null, .null, .null, .int (iI 0), .null, .null, .null]) hx hb hts hown hK hw hA ci_X7 cl_L_74 ins_X7 ini_X7 (fun j hj => by rcases (show j = 0 ∨ j = 1 ∨ j = 2 ∨ j = 3 ∨ j = 4 ∨ j = 5 ∨ j = 6 ∨ j = 7 ∨ j = 8 ∨ j = 9 ∨ j = 10 ∨ j = 11 ∨ j = 12 ∨ j = 13 ∨ j = 14 ∨ j = 15 ∨ j = 16 ∨ j = 17 ∨ j = 18 ∨ j = 19 ∨ j = 20 by omega) with rfl | rfl | rfl | rfl | rfl | rfl | rfl | rfl | rfl | rfl | rfl | rfl | rfl | rfl | rfl | rfl | rfl | rfl | rfl | rfl | rfl <;> rfl) ⟨by rw [hR]; exact Nat.le_of_ble_eq_true rfl, by rw [hR]; exact Nat.le_of_ble_eq_true rfl⟩ dL_law_8 (fun q7 H hw => ?_)
  refine lv_dup hx hb dL_law_11 rfl ?_
  replace hw := hw.comm
  refine q_callI (rest := [.ref q7]) (zw_ok z) hx hb hml hown hts hK (c_X7_init (q0 := q7)) yn_X7_init ml_L_76 (by rw [hR]; exact ⟨Nat.le_of_ble_eq_true rfl, Nat.le_of_ble_eq_true rfl⟩) hw hA hZ rfl hl.1 (lv_room (Nat.le_of_ble_eq_true rfl)) dL_law_12 ⟨by rw [hR]; exact Nat.le_of_ble_eq_true rfl, by rw [hR]; exact Nat.le_of_ble_eq_true rfl⟩ (fun u H locs hu hw1 => ?_)
  clear hw
  obtain ⟨g, dr, td, sa⟩ := u
  obtain ⟨e7, hM⟩ := hu
  have e7 : g 0 = q7 := e7
  have hM : ∀ E : Nat → Int → Int, frC tI E → WM td sa tI E := hM
  subst e7
  have hw : qw D (AL s) s.heap ((mW g cI cB cZ 0 0 0 0 0 0 0 0 0 0 0 0 (fun _ => 0) dr td sa (fun _ => 0) (fun _ => 0) (fun _ => 0) (uI (uI (fun _ => 0) 0 0) 1 0) (fun _ => 0)) ++ (fl (BS x a b ap b2 aH aV cI cB cZ cS tI C2 0 0 0 0 0 0 0 0 0 0 0 0 0 0 0 0 0 0 0 0 0 0 0 0 0 0 (uI (uI (fun _ => 0) 0 0) 1 0) (fun _ => 0) (fun _ => 0) (fun _ => 0) (fun _ => 0) (fun _ => 0) (fun _ => 0) (fun _ => 0) (fun _ => 0) (fun _ => 0) (fun _ => 0) zH zH))) H locs := hw1
  clear hw1
  refine lv_astore_n (lv' := [(2, .ref (g 0)), (1, .ref (x 0)), (0, .ref bb)]) hx hb dL_law_15 rfl hl (by decide) rfl (fun ls hl => ?_)
  refine q_iconst hx hb dL_law_16 ?_
  refine q_newA (at0 := .long) (ft := .long) (t0 := 4) (N := 1) (cA0 := cJ) (a0 := (1, .inr (.inl (fun _ => 0)))) hx hb hts hK hw hA ac_long rfl rfl rfl (Nat.le_of_ble_eq_true rfl) (Nat.le_of_ble_eq_true rfl) ⟨by rw [hR]; exact Nat.le_of_ble_eq_true rfl, by rw [hR]; exact Nat.le_of_ble_eq_true rfl⟩ dL_law_17 (fun ao H hw => ?_)
  rw [List.append_assoc] at hw
  replace hw := hw.comm
  refine lv_astore_n (lv' := [(3, .ref ao), (2, .ref (g 0)), (1, .ref (x 0)), (0, .ref bb)]) hx hb dL_law_19 rfl hl (by decide) rfl (fun ls hl => ?_)
  refine q_iconst hx hb dL_law_20 ?_
  refine lv_istore (lv' := [(4, .int (iI 0)), (3, .ref ao), (2, .ref (g 0)), (1, .ref (x 0)), (0, .ref bb)]) hx hb dL_law_21 hl (by decide) rfl (fun ls hl => ?_)
  have hB : LB p l s m args c R z D cI cB cZ cS cJ bb L xs := ⟨⟨hx, hb, hml, hown, hts, hK⟩, hR, hZ.1, hst, hX, hbl, hL⟩
  have hl5 : lv_has ls 9 (lv5 x g ao bb 0) := lv_sub hl [4, 3, 2, 1, 0] rfl
  have hI : LI x a ap aH aV g ao cI cB cZ cS cJ 0 (((fl (BS x a b ap b2 aH aV cI cB cZ cS tI C2 0 0 0 0 0 0 0 0 0 0 0 0 0 0 0 0 0 0 0 0 0 0 0 0 0 0 (uI (uI (fun _ => 0) 0 0) 1 0) (fun _ => 0) (fun _ => 0) (fun _ => 0) (fun _ => 0) (fun _ => 0) (fun _ => 0) (fun _ => 0) (fun _ => 0) (fun _ => 0) (fun _ => 0) zH zH)) ++ [outC cJ ao (fun _ => 0)]) ++ (mW g cI cB cZ 0 0 0 0 0 0 0 0 0 0 0 0 (fun _ => 0) dr td sa (fun _ => 0) (fun _ => 0) (fun _ => 0) (uI (uI (fun _ => 0) 0 0) 1 0) (fun _ => 0))) := ⟨b, b2, tI, C2, zH, zH, 0, 0, 0, 0, 0, 0, 0, 0, 0, 0, 0, 0, 0, 0, 0, 0, 0, 0, 0, 0, 0, 0, 0, 0, 0, 0, 0, 0, 0, 0, 0, 0, 0, 0, 0, 0, (uI (uI (fun _ => 0) 0 0) 1 0), (fun _ => 0), (fun _ => 0), (fun _ => 0), (fun _ => 0), (fun _ => 0), (fun _ => 0), (fun _ => 0), (fun _ => 0), (fun _ => 0), (fun _ => 0), dr, td, sa, (fun _ => 0), (fun _ => 0), (fun _ => 0), (fun _ => 0), (fun _ => 0), LF_0 hC (hM C2 hC), rfl⟩
  exact law_loop hB kend L 0 _ H _ ls _ _ (by omega) ⟨by omega, by omega⟩ ⟨show _ ≤ 601024 by omega, show _ ≤ 7293033 by omega⟩ hI hw hl5
end LWW
set_option maxHeartbeats 4000000 in
theorem whole_start {p : Program} {e : Env} {s : State} {m : MethodId} {below : List Frame} {meth : Method} {c : Code} (l : Launch) (hflags : l.flags = flags0) {b L : Nat} {xs : Nat → Int32} (hL : L ≤ 3072) (C0 : lw_At p s m meth c b L xs) : W p l e room_1 s m #[Value.ref b] below meth c s.heap [] 0 0 (lw_Z below #[Value.ref b] s) (entryFrame m ([Value.ref b] : List Value).toArray 9) := by
  obtain ⟨hx, hb, hr, hml, hown, hts0, hX, hbl, hlocks, hgv⟩ := id C0
  have hn : ∀ w ∈ nF, w.before #[Value.ref b] s = true := flat_of_before _ hgv
  have hg : ∀ w ∈ gW, w.before #[Value.ref b] s = true := gW_tbl hts0
  obtain ⟨z, hZ⟩ := sn_z (A := AL s) hn hts0 (fun a h => Nat.not_le.mpr h)
  obtain ⟨D, cI, cB, cZ, cS, cJ, hK⟩ := sn_K hg (hts0 (.arrayOver (.object "PageFeeder$State")) (by decide +kernel))
  have hst : l.stackTraces = false := by
    unfold Launch.stackTraces
    rw [hflags]
    decide
  have hd0 := Drawn.sameBut.refl s.drawn lw_cs
  refine W.base ?_
  have hl := lv_entry ([.ref b]) (n := 9) (Nat.le_of_ble_eq_true rfl)
  rw [lg_entry_eq]
  generalize (lg_sl ([.ref b]) ++ List.replicate (9 - (lg_sl ([.ref b])).length) Slot.unset).toArray = ls at hl ⊢
  have hl : lv_has ls 9 [(0, .ref b)] := hl
  have hK2 : va_K D vwCl (tyG cI cB cZ cS cJ) (s.setDrawn s.drawn) := va_K.moved (Vm.Alike.refl _) hK
  have hZ2 : ZW z (AL s) (s.setDrawn s.drawn) s.heap := (zw_ok z).2.1 (AL s) s (s.setDrawn s.drawn) s.heap rfl hZ
  refine law_all (s := s.setDrawn s.drawn) hx hb hml hown (dr_words hg _) hK2 rfl hZ2 hst hX hbl hL hl (fun ws1 H1 locs1 ls1 c1 s1 h1 h2 hw => ?_)
  refine va_forget (fun q hq => hw.2.2.2.2 q hq) ?_
  refine W_wide (k := 601024) (n := 7293033) h1 h2 ?_
  exact lw_ret hd0 hx hb hr hlocks dL_law_1491
