variable {l : Launch} {z : Nat → Nat} {D : va_G} {cI cB cZ cS cJ : ClassId} {T C E : Nat → Int → Int} {x a b ap b2 : Nat → Nat} {lat und pf pm pt pl pw f1 f2 f3 f4 f5 f6 hn gc stop sinp srea spag sjob sdup : Int} {aH aV : Nat → Nat → Nat} {cH cV : Nat → Nat → Int → Int} {svd ht e0 e1 e2 e3 e4 e5 e6 e7 e8 e9 : Int → Int}
section QAA
variable {p : Program} {l : Launch} {e : Env} {R : Room} {s : State} {m : MethodId} {args : Array Value} {below : List Frame} {meth : Method} {c : Code} {H : Heap} {locs : List Loc} {cells slots : Nat} {Q : State → Prop}
variable {cc : ByteArray} {pc : Nat} {ls : Array Slot} {rest : List Value} {ty : List (ClassId × FieldType)} {ws : va_W}
theorem q_aald (hx : p.tables.exec = Jvm.exec) (hb : c.code = cc) (hK : va_K D vwCl ty s) (hP : va_P D vwCl ws H) (q0 : Nat) {a1 n q : Nat} {f : Nat → Option Nat} (ha : ws[q0]? = some (a1, .inl (cS, n, .inr (.inr (.inr (.inr f)))))) (ht : ty[3]? = some (cS, .object "PageFeeder$State")) (k : Nat) {z : Int} (hz : z = (k : Int)) (hk : k < n) (hn : n < 1000) (hf : f k = some q) (hdg : decode cc pc = .ok (.aaload, 1))
    (kk : W p l e R s m args below meth c H locs cells slots Q (F0 m (pc + 1) ls (.ref q :: rest))) : W p l e R s m args below meth c H locs cells slots Q (F0 m pc ls (.int (iI z) :: .ref a1 :: rest)) := by
  refine va_aldq hx hb hK hP q0 3 ha ht (iI_in (by omega) (by omega) (by omega)) hdg ?_
  rw [iI_cl (by omega) (by omega), show z.toNat = k by omega, hf]
  exact kk
end QAA

set_option maxHeartbeats 4000000 in
set_option maxRecDepth 100000 in
theorem c_X6_remember (hla : 0 ≤ lat ∧ lat ≤ 1000000 ∧ 0 ≤ und ∧ und ≤ 10) (hd : C 11 5 = 0 ∨ C 11 5 = 1) : qM l D (tyG cI cB cZ cS cJ) yX6_remember cX6_remember 1 (Option.none) 3 102 [.ref (x 0)] ([o6C x a b ap lat und] ++ stW a cI C ++ [((x 1), .inl (cS, 10, .inr (.inr (.inr (.inr (fun i => some (aH i 0)))))))] ++ (HP 10 aH cI cH)) (fun u : Unit => True) (fun _ => none) (fun u => ([o6C x a b ap (lat + 1) (nxU und)] ++ stW a cI C ++ [((x 1), .inl (cS, 10, .inr (.inr (.inr (.inr (fun i => some (aH i 0)))))))] ++ (HP 10 aH cI (updH cH (lat % 10).toNat C)))) := by
  refine qM_enterV (by decide) (Nat.le_of_ble_eq_true rfl) (fun p e R s m args below meth c Q ls A X hR hA hw hl hret => ?_)
  obtain ⟨hx, hb, hml, hown, hts, hK⟩ := X
  have hl : lv_has ls 1 [(0, .ref (x 0))] := hl
  suffices K : ∀ (H : Heap) (locs : List Loc), qw D A s.heap ([o6C x a b ap lat und] ++ stW a cI C ++ [((x 1), .inl (cS, 10, .inr (.inr (.inr (.inr (fun i => some (aH i 0)))))))] ++ (HP 10 aH cI cH)) H locs → W p l e R s m args below meth c H locs 0 0 Q (F0 m 0 ls []) from K s.heap [] hw
  clear hw
  intro H locs hw
  refine lv_aload_n hx hb dX6_remember_0 rfl (lv_at hl 0 rfl) ?_
  refine q_get hx hb hts hown hK hw.1 ci_X6 0 rfl 3 (by decide) fl_X6_30 rfl dX6_remember_1 ?_
  refine lv_aload_n hx hb dX6_remember_4 rfl (lv_at hl 0 rfl) ?_
  refine q_get hx hb hts hown hK hw.1 ci_X6 0 rfl 4 (by decide) fl_X6_302 rfl dX6_remember_5 ?_
  refine q_bipush hx hb dX6_remember_8 rfl ?_
  refine q_callPS (As := [.int (iI lat), .int (iI 10)]) (rest := [.ref (x 1)]) hx hb hml hown hts hK (c_J9_floorMod (lat) (10) (by first | omega | assumption) (by first | omega | assumption)) yt_J9_floorMod_7cf53 ml_X6_305 (by rw [hR]; decide) (show va_P D vwCl [] _ from fun k q h => by simp at h)  rfl rfl hl.1 (lv_room (Nat.le_of_ble_eq_true rfl)) dX6_remember_10 ⟨by rw [hR]; exact Nat.zero_le _, by rw [hR]; exact Nat.zero_le _⟩ ?_
  obtain ⟨kk, e_kk, h_kk⟩ : ∃ kk : Nat, (lat % 10) = (kk : Int) ∧ kk < 10 := ⟨((lat % 10)).toNat, by omega, by omega⟩
  refine q_top (kk : Int) e_kk ?_
  refine q_aald hx hb hK hw.1 14 rfl rfl kk rfl h_kk (by decide) rfl dX6_remember_13 ?_
  have hw : qw D A s.heap ([o6C x a b ap lat und] ++ stW a cI C ++ [((x 1), .inl (cS, 10, .inr (.inr (.inr (.inr (fun i => some (aH i 0)))))))] ++ stW (aH kk) cI (cH kk) ++ (HPx 10 aH cI cH kk)) H locs := hw.perm (hp_o h_kk)
  refine lv_aload_n hx hb dX6_remember_14 rfl (lv_at hl 0 rfl) ?_
  refine q_get hx hb hts hown hK hw.1 ci_X6 0 rfl 2 (by decide) fl_X6_26 rfl dX6_remember_15 ?_
  refine q_callMR (As := [.ref (a 0)]) (rest := []) (wr := [((x 0), .inr (6, [.ref (ap 0), .ref (b 0), .ref (a 0), .ref (x 1), .int (iI lat), .int (iI und), .ref (x 2), .ref (x 3), .ref (x 4), .ref (x 6)])), ((x 1), .inl (cS, 10, .inr (.inr (.inr (.inr (fun i => some (aH i 0)))))))]) hx hb hml hown hts hK (c_X5_copyFrom (by exact hd)) yi_X5_copyFrom ml_X6_310 (by rw [hR]; decide) hw hA [15, 16, 17, 18, 19, 20, 21, 22, 23, 24, 25, 26, 27, 1, 2, 3, 4, 5, 6, 7, 8, 9, 10, 11, 12, 13] [0, 14] rfl (by decide) 0 rfl rfl rfl rfl hl.1 (lv_room (Nat.le_of_ble_eq_true rfl)) dX6_remember_18 ⟨by rw [hR]; exact Nat.zero_le _, by rw [hR]; exact Nat.zero_le _⟩ (fun u_18 H locs hu_18 hw => ?_)
  have hw : qw D A s.heap ([o6C x a b ap lat und] ++ [((x 1), .inl (cS, 10, .inr (.inr (.inr (.inr (fun i => some (aH i 0)))))))] ++ stW (aH kk) cI C ++ stW a cI C ++ (HPx 10 aH cI cH kk)) H locs := hw
  refine lv_aload_n hx hb dX6_remember_21 rfl (lv_at hl 0 rfl) ?_
  refine lv_dup hx hb dX6_remember_22 rfl ?_
  refine q_get hx hb hts hown hK hw.1 ci_X6 0 rfl 4 (by decide) fl_X6_302 rfl dX6_remember_23 ?_
  refine q_iconst hx hb dX6_remember_26 ?_
  refine q_iadd hx hb dX6_remember_27 ?_
  refine q_put hx hb hts hown hK hw ci_X6 0 rfl 4 (by decide) fl_X6_302 rfl rfl rfl (Nat.le_of_ble_eq_true rfl) dX6_remember_28 (fun H locs hw => ?_)
  have hw : qw D A s.heap ([o6C x a b ap (lat + 1) und] ++ [((x 1), .inl (cS, 10, .inr (.inr (.inr (.inr (fun i => some (aH i 0)))))))] ++ stW (aH kk) cI C ++ stW a cI C ++ (HPx 10 aH cI cH kk)) H locs := hw
  refine lv_aload_n hx hb dX6_remember_31 rfl (lv_at hl 0 rfl) ?_
  refine lv_aload_n hx hb dX6_remember_32 rfl (lv_at hl 0 rfl) ?_
  refine q_get hx hb hts hown hK hw.1 ci_X6 0 rfl 5 (by decide) fl_X6_125 rfl dX6_remember_33 ?_
  refine q_iconst hx hb dX6_remember_36 ?_
  refine q_iadd hx hb dX6_remember_37 ?_
  refine q_bipush hx hb dX6_remember_38 rfl ?_
  refine q_min hx hb hml hl.1 hown hts ml_X6_318 ⟨by rw [hR]; decide, by rw [hR]; exact Nat.le_of_ble_eq_true rfl⟩ ⟨by rw [hR]; exact Nat.zero_le _, by rw [hR]; exact Nat.zero_le _⟩ (by omega) dX6_remember_40 ?_
  refine q_put hx hb hts hown hK hw ci_X6 0 rfl 5 (by decide) fl_X6_125 rfl rfl rfl (Nat.le_of_ble_eq_true rfl) dX6_remember_43 (fun H locs hw => ?_)
  have hw : qw D A s.heap ([o6C x a b ap (lat + 1) (minZ (und + 1) 10)] ++ [((x 1), .inl (cS, 10, .inr (.inr (.inr (.inr (fun i => some (aH i 0)))))))] ++ stW (aH kk) cI C ++ stW a cI C ++ (HPx 10 aH cI cH kk)) H locs := hw
  have hw : qw D A s.heap ([o6C x a b ap (lat + 1) (minZ (und + 1) 10)] ++ stW a cI C ++ [((x 1), .inl (cS, 10, .inr (.inr (.inr (.inr (fun i => some (aH i 0)))))))] ++ stW (aH kk) cI C ++ (HPx 10 aH cI cH kk)) H locs := hw.subR [0, 15, 16, 17, 18, 19, 20, 21, 22, 23, 24, 25, 26, 27, 1, 2, 3, 4, 5, 6, 7, 8, 9, 10, 11, 12, 13, 14] (by decide) rfl
  have e_u : nxU und = minZ (und + 1) 10 := by unfold nxU minZ; (repeat' split) <;> omega
  exact hret () H locs 46 ls trivial (by rw [e_kk, e_u, Int.toNat_natCast]; exact hw.perm (hp_i h_kk)) dX6_remember_46
