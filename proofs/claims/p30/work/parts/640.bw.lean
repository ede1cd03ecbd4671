/-! THE BUILDER, BY ITS TEXT -/
abbrev Bq : Type := Nat × Nat × (Int → Int)
/-- all of it are letters -/
def asc (t : List Int) : Prop := ∀ k : Nat, k < t.length → 0 ≤ t.getD k 0 ∧ t.getD k 0 < 128
theorem asc_app {t s : List Int} (ht : asc t) (hs : asc s) : asc (t ++ s) := fun k hk => by
  by_cases c : k < t.length
  · rw [gd_l c]
    exact ht k c
  · rw [show k = t.length + (k - t.length) by omega, gd_r]
    exact hs _ (by rw [List.length_append] at hk; omega)
theorem asc_d {x : Int} (h : 0 ≤ x ∧ x ≤ 999) : asc (dgS x) := fun k hk => by
  have q := (dgS_b h).2.2 k hk
  omega
def sB (q : Bq) (t : List Int) : Prop := tx q.2.2 t ∧ t.length ≤ q.2.1 ∧ q.2.1 ≤ 1402 ∧ by8 q.2.2 ∧ asc t
def bW (b : Nat) (cB : ClassId) (q : Bq) (t : List Int) : va_W := [(b, .inr (7, [.ref q.1, .int (iI 0), .int (iI 0), .int (iI (t.length : Int))])), (q.1, .inl (cB, q.2.1, .inl (ai q.2.2)))]
theorem bW_0 {b : Nat} {cB : ClassId} {q : Bq} {t : List Int} : (bW b cB q t)[0]? = some (b, .inr (7, [.ref q.1, .int (iI 0), .int (iI 0), .int (iI (t.length : Int))])) := rfl
theorem sB_gr {t L : List Int} {f f1 : Int → Int} {v1 cap1 : Nat} (ht : tx f t) (ha : asc t) (hL : asc L) (h : grF (t.length : Int) f cap1 f1 L) : sB (v1, cap1, f1) (t ++ L) := by
  obtain ⟨h1, h2, h3, h4, h5⟩ := h
  refine ⟨tx_app ht h3 h4, ?_, h2, h5, asc_app ha hL⟩
  rw [List.length_append]
  show _ ≤ cap1
  omega
theorem sB_0 {L : List Int} {f1 : Int → Int} {v1 cap1 : Nat} (hL : asc L) (h : grF 0 (fun _ => 0) cap1 f1 L) : sB (v1, cap1, f1) L := sB_gr (t := []) (f := fun _ => 0) (fun k hk => absurd hk (Nat.not_lt_zero k)) (fun k hk => absurd hk (Nat.not_lt_zero k)) hL h
section KBW
variable {l : Launch} {z : Nat → Nat} {D : va_G} {cI cB cZ cS cJ : ClassId} {b i : Nat} {q : Bq} {t : List Int} {x k : Int}
theorem kb_init (hi : i < 16) : qH l (ZB z) D (tyG cI cB cZ cS cJ) yJ4_init_a7421 (.code yJ4_init_a7421 cJ4_init_a7421 2 (Option.none) :: gW) 8 193 2 1600 [.ref b, .ref (z (10 + i))] [(b, .inr (7, [.null, .int (iI 0), .int (iI 0), .int (iI 0)]))] (fun u : Bq => sB u (txL i)) (fun _ => none) (fun u => bW b cB u (txL i)) :=
  qH_map (c_J4_init hi) (fun u hu => ⟨u, sB_0 (zz_tx i hi).2 hu, rfl, by unfold bW; rw [Int.zero_add]⟩)
theorem kb_appS (hi : i < 16) (h : sB q t) (hr : t.length + (txL i).length ≤ 700) : qH l (ZB z) D (tyG cI cB cZ cS cJ) yJ4_append_15ec4 (.code yJ4_append_15ec4 cJ4_append_15ec4 2 (Option.some (FieldType.object "java/lang/StringBuilder")) :: gW) 5 127 1 1402 [.ref b, .ref (z (10 + i))] (bW b cB q t) (fun u : Bq => sB u (t ++ txL i)) (fun _ => some (.ref b)) (fun u => bW b cB u (t ++ txL i)) :=
  qH_map (c_J4_appS (v := q.1) (cap := q.2.1) (f := q.2.2) (n := (t.length : Int)) hi h.2.2.1 ⟨by omega, by have := h.2.1; omega⟩ (by omega) h.2.2.2.1) (fun u hu => ⟨u, sB_gr h.1 h.2.2.2.2 (zz_tx i hi).2 hu, rfl, by unfold bW; rw [List.length_append]; push_cast; rfl⟩)
theorem kb_appI (hx : 0 ≤ x ∧ x ≤ 999) (h : sB q t) (hr : t.length ≤ 690) : qH l (ZB z) D (tyG cI cB cZ cS cJ) yJ4_append_bf812 (.code yJ4_append_bf812 cJ4_append_bf812 2 (Option.some (FieldType.object "java/lang/StringBuilder")) :: gW) 5 127 1 1402 [.ref b, .int (iI x)] (bW b cB q t) (fun u : Bq => sB u (t ++ dgS x)) (fun _ => some (.ref b)) (fun u => bW b cB u (t ++ dgS x)) :=
  qH_map (c_J4_appI (v := q.1) (cap := q.2.1) (f := q.2.2) (n := (t.length : Int)) hx h.2.2.1 ⟨by omega, by have := h.2.1; omega⟩ (by have q1 := (dgS_b hx).2.1; have q2 := nD_len (i := x); omega) h.2.2.2.1) (fun u hu => ⟨u, sB_gr h.1 h.2.2.2.2 (asc_d hx) hu, rfl, by unfold bW; rw [List.length_append, ← nD_len]; push_cast; rfl⟩)
theorem kb_len : qH l (ZB z) D (tyG cI cB cZ cS cJ) yJ4_length_8abf5 (.code yJ4_length_8abf5 cJ4_length_8abf5 1 (Option.some FieldType.int) :: gW) 1 20 0 0 [.ref b] (bW b cB q t) (fun _ : Unit => True) (fun _ => some (.int (iI (t.length : Int)))) (fun _ => bW b cB q t) :=
  qH_up (zb_ok z) (c_J4_length (v := q.1) (n := (t.length : Int))) [(q.1, .inl (cB, q.2.1, .inl (ai q.2.2)))] (List.Perm.refl _) (fun _ _ => List.Perm.refl _)
theorem kb_chr (h : sB q t) (hk : 0 ≤ k ∧ k < (t.length : Int)) (ht : t.length ≤ 700) : qH l (ZB z) D (tyG cI cB cZ cS cJ) yJ4_charAt_5068e (.code yJ4_charAt_5068e cJ4_charAt_5068e 2 (Option.some FieldType.char) :: gW) 3 67 0 0 [.ref b, .int (iI k)] (bW b cB q t) (fun _ : Unit => True) (fun _ => some (.int (iI (t.getD k.toNat 0)))) (fun _ => bW b cB q t) := by
  have e := tx_i h.1 hk.1 hk.2
  have w := h.2.2.2.2 k.toNat (by omega)
  rw [← e] at w ⊢
  exact c_J4_charAt (v := q.1) (cap := q.2.1) (f := q.2.2) (n := (t.length : Int)) hk ⟨by have := h.2.1; omega, by omega⟩ h.2.2.1 w
end KBW
