variable {l : Launch} {z : Nat → Nat} {D : va_G} {cI cB cZ cS cJ : ClassId} {T C E : Nat → Int → Int} {x a b ap b2 : Nat → Nat} {lat und pf pm pt pl pw f1 f2 f3 f4 f5 f6 hn hq stop sinp srea spag sjob sdup : Int} {aH aV : Nat → Nat → Nat} {cH cV : Nat → Nat → Int → Int} {svd ht e0 e1 e2 e3 e4 e5 e6 e7 e8 e9 : Int → Int}
section QAA
variable {p : Program} {l : Launch} {e : Env} {R : Room} {s : State} {m : MethodId} {args : Array Value} {below : List Frame} {meth : Method} {c : Code} {H : Heap} {locs : List Loc} {cells slots : Nat} {Q : State → Prop}
variable {cc : ByteArray} {pc : Nat} {ls : Array Slot} {rest : List Value} {ty : List (ClassId × FieldType)} {ws : va_W}
theorem q_aald (hx : p.tables.exec = Jvm.exec) (hb : c.code = cc) (hK : va_K D vwCl ty s) (hP : va_P D vwCl ws H) (q0 : Nat) {a1 n q : Nat} {f : Nat → Option Nat} (ha : ws[q0]? = some (a1, .inl (cS, n, .inr (.inr (.inr (.inr f)))))) (ht : ty[3]? = some (cS, .object "PageFeeder$State")) (k : Nat) {z : Int} (hz : z = (k : Int)) (hk : k < n) (hn : n < 1000) (hf : f k = some q) (hdg : decode cc pc = .ok (.aaload, 1))
    (kk : W p l e R s m args below meth c H locs cells slots Q (F0 m (pc + 1) ls (.ref q :: rest))) : W p l e R s m args below meth c H locs cells slots Q (F0 m pc ls (.int (iI z) :: .ref a1 :: rest)) := by
  refine va_aldq hx hb hK hP q0 3 ha ht (iI_in (by omega) (by omega) (by omega)) hdg ?_
  rw [iI_cl (by omega) (by omega), show z.toNat = k by omega, hf]
  exact kk
end QAA

set_option maxHeartbeats 4000000 in
set_option maxRecDepth 100000 in
theorem c_X6_remember (hla : 0 ≤ lat ∧ lat ≤ 9 ∧ 0 ≤ und ∧ und ≤ 10) (hd : C 11 5 = 0 ∨ C 11 5 = 1) : qM l D (tyG cI cB cZ cS cJ) yX6_remember cX6_remember 1 (Option.none) 3 102 [.ref (x 0)] ([o6C x a b ap lat und] ++ stW a cI C ++ [((x 1), .inl (cS, 10, .inr (.inr (.inr (.inr (fun i => some (aH i 0)))))))] ++ (HP 10 aH cI cH)) (fun u : Unit => True) (fun _ => none) (fun u => ([o6C x a b ap (nxL lat) (nxU und)] ++ stW a cI C ++ [((x 1), .inl (cS, 10, .inr (.inr (.inr (.inr (fun i => some (aH i 0)))))))] ++ (HP 10 aH cI (updH cH (nxL lat).toNat C)))) := by
  refine qM_enterV (by decide) (Nat.le_of_ble_eq_true rfl) (fun p e R s m args below meth c Q ls A X hR hA hw hl hret => ?_)
  obtain ⟨hx, hb, hml, hown, hts, hK⟩ := X
  have hl : lv_has ls 1 [(0, .ref (x 0))] := hl
  suffices K : ∀ (H : Heap) (locs : List Loc), qw D A s.heap ([o6C x a b ap lat und] ++ stW a cI C ++ [((x 1), .inl (cS, 10, .inr (.inr (.inr (.inr (fun i => some (aH i 0)))))))] ++ (HP 10 aH cI cH)) H locs → W p l e R s m args below meth c H locs 0 0 Q (F0 m 0 ls []) from K s.heap [] hw
  clear hw
  intro H locs hw
  have join_20 : ∀ (lv : Int) (H : Heap) (locs : List Loc) (ls : Array Slot), (lv = nxL lat) → (0 ≤ lv ∧ lv ≤ 9) → qw D A s.heap ([o6C x a b ap lat und] ++ stW a cI C ++ [((x 1), .inl (cS, 10, .inr (.inr (.inr (.inr (fun i => some (aH i 0)))))))] ++ (HP 10 aH cI cH)) H locs → lv_has ls 1 [(0, .ref (x 0))] → W p l e R s m args below meth c H locs 0 0 Q (F0 m 20 ls [.int (iI lv), .ref (x 0)]) := by
    intro lv H locs ls h_l h_l2 hw hl
    refine q_put hx hb hts hown hK hw ci_X6 0 rfl 4 (by decide) fl_X6_298 rfl rfl rfl (Nat.le_of_ble_eq_true rfl) dX6_remember_20 (fun H locs hw => ?_)
    have hw : qw D A s.heap ([o6C x a b ap lv und] ++ stW a cI C ++ [((x 1), .inl (cS, 10, .inr (.inr (.inr (.inr (fun i => some (aH i 0)))))))] ++ (HP 10 aH cI cH)) H locs := hw
    refine lv_aload_n hx hb dX6_remember_23 rfl (lv_at hl 0 rfl) ?_
    refine q_get hx hb hts hown hK hw.1 ci_X6 0 rfl 3 (by decide) fl_X6_30 rfl dX6_remember_24 ?_
    refine lv_aload_n hx hb dX6_remember_27 rfl (lv_at hl 0 rfl) ?_
    refine q_get hx hb hts hown hK hw.1 ci_X6 0 rfl 4 (by decide) fl_X6_298 rfl dX6_remember_28 ?_
    obtain ⟨kk, e_kk, h_kk⟩ : ∃ kk : Nat, lv = (kk : Int) ∧ kk < 10 := ⟨(lv).toNat, by omega, by omega⟩
    subst e_kk
    refine q_aald hx hb hK hw.1 14 rfl rfl kk rfl h_kk (by decide) rfl dX6_remember_31 ?_
    have hw : qw D A s.heap ([o6C x a b ap ((kk : Int)) und] ++ stW a cI C ++ [((x 1), .inl (cS, 10, .inr (.inr (.inr (.inr (fun i => some (aH i 0)))))))] ++ stW (aH kk) cI (cH kk) ++ (HPx 10 aH cI cH kk)) H locs := hw.perm (hp_o h_kk)
    refine lv_aload_n hx hb dX6_remember_32 rfl (lv_at hl 0 rfl) ?_
    refine q_get hx hb hts hown hK hw.1 ci_X6 0 rfl 2 (by decide) fl_X6_26 rfl dX6_remember_33 ?_
    refine q_callMR (As := [.ref (a 0)]) (rest := []) (wr := [((x 0), .inr (6, [.ref (ap 0), .ref (b 0), .ref (a 0), .ref (x 1), .int (iI ((kk : Int))), .int (iI und), .ref (x 2), .ref (x 3), .ref (x 4), .ref (x 6)])), ((x 1), .inl (cS, 10, .inr (.inr (.inr (.inr (fun i => some (aH i 0)))))))]) hx hb hml hown hts hK (c_X5_copyFrom (by exact hd)) yi_X5_copyFrom ml_X6_301 (by rw [hR]; decide) hw hA [15, 16, 17, 18, 19, 20, 21, 22, 23, 24, 25, 26, 27, 1, 2, 3, 4, 5, 6, 7, 8, 9, 10, 11, 12, 13] [0, 14] rfl (by decide) 0 rfl rfl rfl rfl hl.1 (lv_room (Nat.le_of_ble_eq_true rfl)) dX6_remember_36 ⟨by rw [hR]; exact Nat.zero_le _, by rw [hR]; exact Nat.zero_le _⟩ (fun u_36 H locs hu_36 hw => ?_)
    have hw : qw D A s.heap ([o6C x a b ap ((kk : Int)) und] ++ [((x 1), .inl (cS, 10, .inr (.inr (.inr (.inr (fun i => some (aH i 0)))))))] ++ stW (aH kk) cI C ++ stW a cI C ++ (HPx 10 aH cI cH kk)) H locs := hw
    refine lv_aload_n hx hb dX6_remember_39 rfl (lv_at hl 0 rfl) ?_
    refine q_get hx hb hts hown hK hw.1 ci_X6 0 rfl 5 (by decide) fl_X6_125 rfl dX6_remember_40 ?_
    refine q_bipush hx hb dX6_remember_43 rfl ?_
    refine q_icmp_ge (tgt := 58) hx hb dX6_remember_45 (by decide) (by omega) (fun c_45 => ?_) (fun c_45 => ?_)
    · have hw : qw D A s.heap ([o6C x a b ap ((kk : Int)) und] ++ stW a cI C ++ [((x 1), .inl (cS, 10, .inr (.inr (.inr (.inr (fun i => some (aH i 0)))))))] ++ stW (aH kk) cI C ++ (HPx 10 aH cI cH kk)) H locs := hw.subR [0, 15, 16, 17, 18, 19, 20, 21, 22, 23, 24, 25, 26, 27, 1, 2, 3, 4, 5, 6, 7, 8, 9, 10, 11, 12, 13, 14] (by decide) rfl
      have e_l : nxL lat = (kk : Int) := by omega
      have e_u : nxU und = und := by unfold nxU; first | rw [if_pos (by omega)] | rw [if_neg (by omega)]
      exact hret () H locs 58 ls trivial (by rw [e_l, e_u, Int.toNat_natCast]; exact hw.perm (hp_i h_kk)) dX6_remember_58
    · refine lv_aload_n hx hb dX6_remember_48 rfl (lv_at hl 0 rfl) ?_
      refine lv_dup hx hb dX6_remember_49 rfl ?_
      refine q_get hx hb hts hown hK hw.1 ci_X6 0 rfl 5 (by decide) fl_X6_125 rfl dX6_remember_50 ?_
      refine q_iconst hx hb dX6_remember_53 ?_
      refine q_iadd hx hb dX6_remember_54 ?_
      refine q_put hx hb hts hown hK hw ci_X6 0 rfl 5 (by decide) fl_X6_125 rfl rfl rfl (Nat.le_of_ble_eq_true rfl) dX6_remember_55 (fun H locs hw => ?_)
      have hw : qw D A s.heap ([o6C x a b ap ((kk : Int)) (und + 1)] ++ [((x 1), .inl (cS, 10, .inr (.inr (.inr (.inr (fun i => some (aH i 0)))))))] ++ stW (aH kk) cI C ++ stW a cI C ++ (HPx 10 aH cI cH kk)) H locs := hw
      have hw : qw D A s.heap ([o6C x a b ap ((kk : Int)) (und + 1)] ++ stW a cI C ++ [((x 1), .inl (cS, 10, .inr (.inr (.inr (.inr (fun i => some (aH i 0)))))))] ++ stW (aH kk) cI C ++ (HPx 10 aH cI cH kk)) H locs := hw.subR [0, 15, 16, 17, 18, 19, 20, 21, 22, 23, 24, 25, 26, 27, 1, 2, 3, 4, 5, 6, 7, 8, 9, 10, 11, 12, 13, 14] (by decide) rfl
      have e_l : nxL lat = (kk : Int) := by omega
      have e_u : nxU und = und + 1 := by unfold nxU; first | rw [if_pos (by omega)] | rw [if_neg (by omega)]
      exact hret () H locs 58 ls trivial (by rw [e_l, e_u, Int.toNat_natCast]; exact hw.perm (hp_i h_kk)) dX6_remember_58
  refine lv_aload_n hx hb dX6_remember_0 rfl (lv_at hl 0 rfl) ?_
  refine lv_aload_n hx hb dX6_remember_1 rfl (lv_at hl 0 rfl) ?_
  refine q_get hx hb hts hown hK hw.1 ci_X6 0 rfl 4 (by decide) fl_X6_298 rfl dX6_remember_2 ?_
  refine q_bipush hx hb dX6_remember_5 rfl ?_
  refine q_icmp_ge (tgt := 19) hx hb dX6_remember_7 (by decide) (by omega) (fun c_7 => ?_) (fun c_7 => ?_)
  · refine q_iconst hx hb dX6_remember_19 ?_
    exact join_20 (0) H locs ls (by unfold nxL; first | rw [if_pos (by omega)] | rw [if_neg (by omega)]) (by first | omega | assumption | rfl) hw hl
  · refine lv_aload_n hx hb dX6_remember_10 rfl (lv_at hl 0 rfl) ?_
    refine q_get hx hb hts hown hK hw.1 ci_X6 0 rfl 4 (by decide) fl_X6_298 rfl dX6_remember_11 ?_
    refine q_iconst hx hb dX6_remember_14 ?_
    refine q_iadd hx hb dX6_remember_15 ?_
    refine lv_goto (tgt := 20) hx hb dX6_remember_16 (by decide) ?_
    exact join_20 (lat + 1) H locs ls (by unfold nxL; first | rw [if_pos (by omega)] | rw [if_neg (by omega)]) (by first | omega | assumption | rfl) hw hl
