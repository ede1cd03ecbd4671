variable {l : Launch} {T C : Nat → Int → Int} {J : Int → Int} {D : va_G} {cI cB cZ cS cJ : ClassId} {g : Nat → Nat} {th len tl ts te tk nu er eo hL hS dp : Int} {bf dr td sa ad hi sl sv tr : Int → Int}
def dfV (k : Int) : Int := if k = 3 then 1 else if k = 4 then 150 else if k = 5 then 20 else if k = 6 then 30 else if k = 7 then 5 else 0
theorem dfV_w {x : Int → Int} (h : ∀ k : Int, 0 ≤ k → k < 288 → x k = 0) : ∀ k : Int, 0 ≤ k → k < 288 → uI (uI (uI (uI (uI x 3 1) 4 150) 5 20) 6 30) 7 5 k = dfV k := fun k a b => by
  have z := h k a b
  unfold uI dfV
  (repeat' split) <;> omega

set_option maxHeartbeats 4000000 in
set_option maxRecDepth 100000 in
theorem c_X7_setDefaults : qM l D (tyG cI cB cZ cS cJ) yX7_setDefaults cX7_setDefaults 2 (Option.none) 0 0 [.ref (g 0)] (mW g cI cB cZ th len tl ts te tk nu er eo hL hS dp bf dr td sa ad hi sl sv tr) (fun u : (Int → Int) => (∀ k : Int, 0 ≤ k → k < 288 → u k = dfV k)) (fun _ => none) (fun u => (mW g cI cB cZ th len tl ts te tk nu er eo 0 0 dp bf u td sa ad hi sl sv tr)) := by
  refine qM_enterV (by decide) (Nat.le_of_ble_eq_true rfl) (fun p e R s m args below meth c Q ls A X hR hA hw hl hret => ?_)
  obtain ⟨hx, hb, hml, hown, hts, hK⟩ := X
  have hl : lv_has ls 2 [(0, .ref (g 0))] := hl
  suffices K : ∀ (H : Heap) (locs : List Loc), qw D A s.heap (mW g cI cB cZ th len tl ts te tk nu er eo hL hS dp bf dr td sa ad hi sl sv tr) H locs → W p l e R s m args below meth c H locs 0 0 Q (F0 m 0 ls []) from K s.heap [] hw
  clear hw
  intro H locs hw
  refine q_iconst hx hb dX7_setDefaults_0 ?_
  refine lv_istore_n (lv' := [(1, .int (iI 0)), (0, .ref (g 0))]) hx hb dX7_setDefaults_1 rfl hl (by decide) rfl (fun ls hl => ?_)
  have loop_2 : ∀ (fu : Nat) (y : Int → Int) (i : Int) (H : Heap) (locs : List Loc) (ls : Array Slot), (288 - i).toNat = fu → (∀ k : Int, 0 ≤ k → k < i → y k = 0) → (0 ≤ i ∧ i ≤ 288) → qw D A s.heap (mW g cI cB cZ th len tl ts te tk nu er eo hL hS dp bf y td sa ad hi sl sv tr) H locs → lv_has ls 2 [(0, .ref (g 0)), (1, .int (iI i))] → W p l e R s m args below meth c H locs 0 0 Q (F0 m 2 ls []) := by
    intro fu
    induction fu using Nat.strongRecOn with
    | ind fu ih =>
    intro y i H locs ls hn_2 h_z h_i hw hl
    refine lv_iload_n hx hb dX7_setDefaults_2 rfl (lv_at hl 1 rfl) ?_
    refine q_sipush hx hb dX7_setDefaults_3 rfl ?_
    refine q_icmp_ge (tgt := 22) hx hb dX7_setDefaults_6 (by decide) (by omega) (fun c_6 => ?_) (fun c_6 => ?_)
    · refine lv_aload_n hx hb dX7_setDefaults_22 rfl (lv_at hl 0 rfl) ?_
      refine q_get hx hb hts hown hK hw.1 ci_X7 0 rfl 10 (by decide) fl_X7_13 rfl dX7_setDefaults_23 ?_
      refine q_iconst hx hb dX7_setDefaults_26 ?_
      refine q_iconst hx hb dX7_setDefaults_27 ?_
      refine q_iast hx hb hK hw 2 0 rfl rfl (by omega) dX7_setDefaults_28 (fun H locs hw => ?_)
      have hw : qw D A s.heap (mW g cI cB cZ th len tl ts te tk nu er eo hL hS dp bf (uI y 3 1) td sa ad hi sl sv tr) H locs := hw
      obtain ⟨f_1, e_f_1⟩ : ∃ z, z = uI y 3 1 := ⟨_, rfl⟩
      have hw : qw D A s.heap (mW g cI cB cZ th len tl ts te tk nu er eo hL hS dp bf f_1 td sa ad hi sl sv tr) H locs := by rw [e_f_1]; exact hw
      refine lv_aload_n hx hb dX7_setDefaults_29 rfl (lv_at hl 0 rfl) ?_
      refine q_get hx hb hts hown hK hw.1 ci_X7 0 rfl 10 (by decide) fl_X7_13 rfl dX7_setDefaults_30 ?_
      refine q_iconst hx hb dX7_setDefaults_33 ?_
      refine q_sipush hx hb dX7_setDefaults_34 rfl ?_
      refine q_iast hx hb hK hw 2 0 rfl rfl (by omega) dX7_setDefaults_37 (fun H locs hw => ?_)
      have hw : qw D A s.heap (mW g cI cB cZ th len tl ts te tk nu er eo hL hS dp bf (uI f_1 4 150) td sa ad hi sl sv tr) H locs := hw
      obtain ⟨f_2, e_f_2⟩ : ∃ z, z = uI f_1 4 150 := ⟨_, rfl⟩
      have hw : qw D A s.heap (mW g cI cB cZ th len tl ts te tk nu er eo hL hS dp bf f_2 td sa ad hi sl sv tr) H locs := by rw [e_f_2]; exact hw
      refine lv_aload_n hx hb dX7_setDefaults_38 rfl (lv_at hl 0 rfl) ?_
      refine q_get hx hb hts hown hK hw.1 ci_X7 0 rfl 10 (by decide) fl_X7_13 rfl dX7_setDefaults_39 ?_
      refine q_iconst hx hb dX7_setDefaults_42 ?_
      refine q_bipush hx hb dX7_setDefaults_43 rfl ?_
      refine q_iast hx hb hK hw 2 0 rfl rfl (by omega) dX7_setDefaults_45 (fun H locs hw => ?_)
      have hw : qw D A s.heap (mW g cI cB cZ th len tl ts te tk nu er eo hL hS dp bf (uI f_2 5 20) td sa ad hi sl sv tr) H locs := hw
      obtain ⟨f_3, e_f_3⟩ : ∃ z, z = uI f_2 5 20 := ⟨_, rfl⟩
      have hw : qw D A s.heap (mW g cI cB cZ th len tl ts te tk nu er eo hL hS dp bf f_3 td sa ad hi sl sv tr) H locs := by rw [e_f_3]; exact hw
      refine lv_aload_n hx hb dX7_setDefaults_46 rfl (lv_at hl 0 rfl) ?_
      refine q_get hx hb hts hown hK hw.1 ci_X7 0 rfl 10 (by decide) fl_X7_13 rfl dX7_setDefaults_47 ?_
      refine q_bipush hx hb dX7_setDefaults_50 rfl ?_
      refine q_bipush hx hb dX7_setDefaults_52 rfl ?_
      refine q_iast hx hb hK hw 2 0 rfl rfl (by omega) dX7_setDefaults_54 (fun H locs hw => ?_)
      have hw : qw D A s.heap (mW g cI cB cZ th len tl ts te tk nu er eo hL hS dp bf (uI f_3 6 30) td sa ad hi sl sv tr) H locs := hw
      obtain ⟨f_4, e_f_4⟩ : ∃ z, z = uI f_3 6 30 := ⟨_, rfl⟩
      have hw : qw D A s.heap (mW g cI cB cZ th len tl ts te tk nu er eo hL hS dp bf f_4 td sa ad hi sl sv tr) H locs := by rw [e_f_4]; exact hw
      refine lv_aload_n hx hb dX7_setDefaults_55 rfl (lv_at hl 0 rfl) ?_
      refine q_get hx hb hts hown hK hw.1 ci_X7 0 rfl 10 (by decide) fl_X7_13 rfl dX7_setDefaults_56 ?_
      refine q_bipush hx hb dX7_setDefaults_59 rfl ?_
      refine q_iconst hx hb dX7_setDefaults_61 ?_
      refine q_iast hx hb hK hw 2 0 rfl rfl (by omega) dX7_setDefaults_62 (fun H locs hw => ?_)
      have hw : qw D A s.heap (mW g cI cB cZ th len tl ts te tk nu er eo hL hS dp bf (uI f_4 7 5) td sa ad hi sl sv tr) H locs := hw
      obtain ⟨f_5, e_f_5⟩ : ∃ z, z = uI f_4 7 5 := ⟨_, rfl⟩
      have hw : qw D A s.heap (mW g cI cB cZ th len tl ts te tk nu er eo hL hS dp bf f_5 td sa ad hi sl sv tr) H locs := by rw [e_f_5]; exact hw
      refine lv_aload_n hx hb dX7_setDefaults_63 rfl (lv_at hl 0 rfl) ?_
      refine q_iconst hx hb dX7_setDefaults_64 ?_
      refine q_put hx hb hts hown hK hw ci_X7 0 rfl 12 (by decide) fl_X7_104 rfl (nar_z (by first | exact Or.inl rfl | exact Or.inr rfl | exact bI_r | omega)) rfl (Nat.le_of_ble_eq_true rfl) dX7_setDefaults_65 (fun H locs hw => ?_)
      have hw : qw D A s.heap (mW g cI cB cZ th len tl ts te tk nu er eo 0 hS dp bf f_5 td sa ad hi sl sv tr) H locs := hw
      refine lv_aload_n hx hb dX7_setDefaults_68 rfl (lv_at hl 0 rfl) ?_
      refine q_iconst hx hb dX7_setDefaults_69 ?_
      refine q_put hx hb hts hown hK hw ci_X7 0 rfl 13 (by decide) fl_X7_108 rfl (nar_z (by first | exact Or.inl rfl | exact Or.inr rfl | exact bI_r | omega)) rfl (Nat.le_of_ble_eq_true rfl) dX7_setDefaults_70 (fun H locs hw => ?_)
      have hw : qw D A s.heap (mW g cI cB cZ th len tl ts te tk nu er eo 0 0 dp bf f_5 td sa ad hi sl sv tr) H locs := hw
      exact hret (f_5) H locs 73 ls (by subst_vars; exact dfV_w (fun k a b => h_z k a (by omega))) hw dX7_setDefaults_73
    · refine lv_aload_n hx hb dX7_setDefaults_9 rfl (lv_at hl 0 rfl) ?_
      refine q_get hx hb hts hown hK hw.1 ci_X7 0 rfl 10 (by decide) fl_X7_13 rfl dX7_setDefaults_10 ?_
      refine lv_iload_n hx hb dX7_setDefaults_13 rfl (lv_at hl 1 rfl) ?_
      refine q_iconst hx hb dX7_setDefaults_14 ?_
      refine q_iast hx hb hK hw 2 0 rfl rfl (by omega) dX7_setDefaults_15 (fun H locs hw => ?_)
      have hw : qw D A s.heap (mW g cI cB cZ th len tl ts te tk nu er eo hL hS dp bf (uI y i 0) td sa ad hi sl sv tr) H locs := hw
      obtain ⟨f_6, e_f_6⟩ : ∃ z, z = uI y i 0 := ⟨_, rfl⟩
      have hw : qw D A s.heap (mW g cI cB cZ th len tl ts te tk nu er eo hL hS dp bf f_6 td sa ad hi sl sv tr) H locs := by rw [e_f_6]; exact hw
      refine lv_iinc (v := iI (i + 1)) (lv' := [(1, .int (iI (i + 1))), (0, .ref (g 0))]) hx hb dX7_setDefaults_16 hl (k := 1) rfl (iI_add _ _) (by decide) rfl (fun ls hl => ?_)
      refine lv_goto (tgt := 2) hx hb dX7_setDefaults_19 (by decide) ?_
      exact ih _ (by omega) (f_6) (i + 1) H locs ls rfl (by intro k a b; rw [e_f_6]; unfold uI; split; rfl; exact h_z k a (by omega)) (by first | omega | assumption | rfl) hw (lv_sub hl [1, 0] rfl)
  exact loop_2 _ (dr) (0) H locs ls rfl (by intro k a b; omega) (by first | omega | assumption | rfl) hw (lv_sub hl [1, 0] rfl)
