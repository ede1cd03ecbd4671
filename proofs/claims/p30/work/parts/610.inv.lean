/-! WHAT STAYS TRUE OF A FEEDER: its pages, its places -/
theorem kI_up {q r : Int → Prop} [DecidablePred q] [DecidablePred r] {f : Int} (h0 : 0 ≤ f) (hq : ¬ q f) (hr : r f) : ∀ (m : Nat), f < (m : Int) → (∀ i : Int, 0 ≤ i → i < (m : Int) → i ≠ f → (q i ↔ r i)) → kI r (m : Int) = kI q (m : Int) + 1
  | 0, hf, _ => by omega
  | m + 1, hf, h => by
    rw [show ((m + 1 : Nat) : Int) = (m : Int) + 1 by omega, kI_s _ (by omega), kI_s _ (by omega)]
    by_cases e : f = (m : Int)
    · rw [kI_cg (q := r) (r := q) (k := (m : Int)) (fun i a b => (h i a (by omega) (by omega)).symm), ← e, bI_t hr, bI_f hq]
      omega
    · have z := kI_up h0 hq hr m (by omega) (fun i a b c => h i a (by omega) c)
      rw [z, bI_c (h (m : Int) (by omega) (by omega) (Ne.symm e))]
      omega
theorem kI_up2 {q r : Int → Prop} [DecidablePred q] [DecidablePred r] {f n : Int} (h0 : 0 ≤ f) (hq : ¬ q f) (hr : r f) (hn : f < n) (h : ∀ i : Int, 0 ≤ i → i < n → i ≠ f → (q i ↔ r i)) : kI r n = kI q n + 1 := by
  have e : ((n.toNat : Nat) : Int) = n := by omega
  have z := kI_up h0 hq hr n.toNat (by omega) (fun i a b c => h i a (by omega) c)
  rw [e] at z
  exact z
theorem sI_add {f g : Int → Int} : ∀ m : Nat, sI (fun i => f i + g i) (m : Int) = sI f (m : Int) + sI g (m : Int)
  | 0 => rfl
  | m + 1 => by
    rw [show ((m + 1 : Nat) : Int) = (m : Int) + 1 by omega, sI_s _ (by omega), sI_s _ (by omega), sI_s _ (by omega), sI_add m]
    omega
theorem sI_z {f : Int → Int} : ∀ m : Nat, (∀ i : Int, 0 ≤ i → i < (m : Int) → f i = 0) → sI f (m : Int) = 0
  | 0, _ => rfl
  | m + 1, h => by
    rw [show ((m + 1 : Nat) : Int) = (m : Int) + 1 by omega, sI_s _ (by omega), sI_z m (fun i a b => h i a (by omega)), h (m : Int) (by omega) (by omega)]
    rfl
theorem sI_one {c : Prop} [Decidable c] {a : Int} (h0 : 0 ≤ a) : ∀ m : Nat, a < (m : Int) → sI (fun j => bI (a = j ∧ c)) (m : Int) = bI c
  | 0, h => by omega
  | m + 1, h => by
    rw [show ((m + 1 : Nat) : Int) = (m : Int) + 1 by omega, sI_s _ (by omega)]
    by_cases e : a = (m : Int)
    · rw [sI_z m (fun i _ b => bI_f (fun q => by omega)), bI_c (d := c) ⟨fun q => q.2, fun q => ⟨e, q⟩⟩]
      omega
    · rw [sI_one h0 m (by omega), bI_f (c := a = (m : Int) ∧ c) (fun q => e q.1)]
      omega
/-- a count, by what a function says -/
theorem kI_by {g : Int → Int} {r : Int → Prop} [DecidablePred r] {J : Nat} : ∀ m : Nat, (∀ p : Int, 0 ≤ p → p < (m : Int) → 0 ≤ g p ∧ g p < (J : Int)) → sI (fun j => kI (fun p => g p = j ∧ r p) (m : Int)) (J : Int) = kI r (m : Int)
  | 0, _ => sI_z J (fun _ _ _ => rfl)
  | m + 1, h => by
    have e : sI (fun j => kI (fun p => g p = j ∧ r p) ((m + 1 : Nat) : Int)) (J : Int) = sI (fun j => kI (fun p => g p = j ∧ r p) (m : Int) + bI (g (m : Int) = j ∧ r (m : Int))) (J : Int) :=
      sI_cg (fun j _ _ => by rw [show ((m + 1 : Nat) : Int) = (m : Int) + 1 by omega, kI_s _ (by omega)])
    have q := h (m : Int) (by omega) (by omega)
    rw [e, sI_add, kI_by m (fun p a b => h p a (by omega)), sI_one q.1 J q.2, show ((m + 1 : Nat) : Int) = (m : Int) + 1 by omega, kI_s _ (by omega)]
theorem kI_by2 {g : Int → Int} {r : Int → Prop} [DecidablePred r] {J n : Int} (hn : 0 ≤ n) (hJ : 0 ≤ J) (h : ∀ p : Int, 0 ≤ p → p < n → 0 ≤ g p ∧ g p < J) : sI (fun j => kI (fun p => g p = j ∧ r p) n) J = kI r n := by
  have e1 : ((n.toNat : Nat) : Int) = n := by omega
  have e2 : ((J.toNat : Nat) : Int) = J := by omega
  have z := kI_by (g := g) (r := r) (J := J.toNat) n.toNat (fun p a b => by rw [e2]; exact h p a (by omega))
  rw [e1, e2] at z
  exact z
theorem kI_all {q : Int → Prop} [DecidablePred q] : ∀ m : Nat, (∀ i : Int, 0 ≤ i → i < (m : Int) → q i) → kI q (m : Int) = (m : Int)
  | 0, _ => rfl
  | m + 1, h => by
    rw [show ((m + 1 : Nat) : Int) = (m : Int) + 1 by omega, kI_s _ (by omega), kI_all m (fun i a b => h i a (by omega)), bI_t (h (m : Int) (by omega) (by omega))]
/-- pages so far: sheets below f -/
def QP (T C : Nat → Int → Int) (X : Int → Int) (f : Int) : Prop := 0 ≤ C 11 3 ∧ (∀ p : Int, 0 ≤ p → p < C 11 3 → 0 ≤ C 4 p ∧ C 4 p < f ∧ X (C 4 p) = 2 ∧ C 8 3 ≤ ink T (C 4 p) (C 5 p)) ∧ ∀ p : Int, 0 < p → p < C 11 3 → C 4 (p - 1) ≤ C 4 p ∧ (C 4 (p - 1) = C 4 p → C 5 (p - 1) = 0 ∧ C 5 p = 1 ∧ C 6 p = C 6 (p - 1))
def fsP (C : Nat → Int → Int) : Int := kI (fun p => p = 0 ∨ C 4 p ≠ C 4 (p - 1)) (C 11 3)
section PVS
variable {T C C' : Nat → Int → Int} {X X' : Int → Int} {f n sd : Int}
theorem QP.x (h : QP T C X f) (hX : ∀ s : Int, 0 ≤ s → s < f → X s = X' s) {f' : Int} (hf : f ≤ f') : QP T C X' f' := ⟨h.1, fun p a b => by
  obtain ⟨q1, q2, q3, q4⟩ := h.2.1 p a b
  exact ⟨q1, by omega, by rw [← hX _ q1 q2]; exact q3, q4⟩, h.2.2⟩
theorem QP.c (h : QP T C X f) (e3 : C' 11 3 = C 11 3) (e4 : C' 4 = C 4) (e5 : C' 5 = C 5) (e6 : C' 6 = C 6) (e8 : C' 8 = C 8) : QP T C' X f := by
  unfold QP
  rw [e3, e4, e5, e6, e8]
  exact h
theorem fsP_c (e3 : C' 11 3 = C 11 3) (e4 : C' 4 = C 4) : fsP C' = fsP C := by
  unfold fsP
  rw [e3, e4]
theorem ad3 : adP C f sd 11 3 = C 11 3 + 1 := rfl
theorem ad4 : adP C f sd 4 = uI (C 4) (C 11 3) f := rfl
theorem ad5 : adP C f sd 5 = uI (C 5) (C 11 3) sd := rfl
theorem ad6 : adP C f sd 6 = uI (C 6) (C 11 3) (C 11 4 - 1) := rfl
theorem ad8 : adP C f sd 8 = C 8 := rfl
/-- a sheet's first page -/
theorem QP.a1 (h : QP T C X f) (hf : 0 ≤ f) (hX : X f = 2) (hi : C 8 3 ≤ ink T f sd) : QP T (adP C f sd) X (f + 1) := by
  obtain ⟨h0, h1, h2⟩ := h
  unfold QP
  rw [ad3, ad4, ad5, ad6, ad8]
  refine ⟨by omega, fun p a b => ?_, fun p a b => ?_⟩
  · by_cases e : p = C 11 3
    · rw [e, uI_s, uI_s]
      exact ⟨hf, by omega, hX, hi⟩
    · rw [uI_n _ _ _ e, uI_n _ _ _ e]
      obtain ⟨q1, q2, q3, q4⟩ := h1 p a (by omega)
      exact ⟨q1, by omega, q3, q4⟩
  · by_cases e : p = C 11 3
    · rw [uI_n (C 4) _ _ (j := p - 1) (by omega), e, uI_s, uI_n (C 5) _ _ (j := C 11 3 - 1) (by omega)]
      have q := h1 (C 11 3 - 1) (by omega) (by omega)
      exact ⟨by omega, fun z => absurd z (by omega)⟩
    · rw [uI_n (C 4) _ _ e, uI_n (C 4) _ _ (j := p - 1) (by omega), uI_n (C 5) _ _ e, uI_n (C 5) _ _ (j := p - 1) (by omega), uI_n (C 6) _ _ e, uI_n (C 6) _ _ (j := p - 1) (by omega)]
      exact h2 p a (by omega)
theorem fsP_a1 (h : QP T C X f) : fsP (adP C f sd) = fsP C + 1 := by
  unfold fsP
  rw [ad3, ad4, kI_s _ h.1]
  have e1 : kI (fun p => p = 0 ∨ uI (C 4) (C 11 3) f p ≠ uI (C 4) (C 11 3) f (p - 1)) (C 11 3) = kI (fun p => p = 0 ∨ C 4 p ≠ C 4 (p - 1)) (C 11 3) := kI_cg (fun i a b => by rw [uI_n _ _ _ (by omega), uI_n _ _ _ (by omega)])
  rw [e1, bI_t]
  by_cases e : C 11 3 = 0
  · exact Or.inl e
  · refine Or.inr ?_
    rw [uI_s, uI_n _ _ _ (by omega)]
    have q := h.1
    have q1 := h.2.1 (C 11 3 - 1) (by omega) (by omega)
    omega
/-- its second -/
theorem QP.a2 (h : QP T C X (f + 1)) (hp : 0 < C 11 3) (h4 : C 4 (C 11 3 - 1) = f) (h5 : C 5 (C 11 3 - 1) = 0) (h6 : C 6 (C 11 3 - 1) = C 11 4 - 1) (hi : C 8 3 ≤ ink T f 1) : QP T (adP C f 1) X (f + 1) := by
  obtain ⟨h0, h1, h2⟩ := h
  have l := h1 (C 11 3 - 1) (by omega) (by omega)
  rw [h4] at l
  unfold QP
  rw [ad3, ad4, ad5, ad6, ad8]
  refine ⟨by omega, fun p a b => ?_, fun p a b => ?_⟩
  · by_cases e : p = C 11 3
    · rw [e, uI_s, uI_s]
      exact ⟨l.1, l.2.1, l.2.2.1, hi⟩
    · rw [uI_n _ _ _ e, uI_n _ _ _ e]
      exact h1 p a (by omega)
  · by_cases e : p = C 11 3
    · rw [uI_n (C 4) _ _ (j := p - 1) (by omega), uI_n (C 5) _ _ (j := p - 1) (by omega), uI_n (C 6) _ _ (j := p - 1) (by omega), e, uI_s, uI_s, uI_s, h4, h5, h6]
      exact ⟨by omega, fun _ => ⟨rfl, rfl, rfl⟩⟩
    · rw [uI_n (C 4) _ _ e, uI_n (C 4) _ _ (j := p - 1) (by omega), uI_n (C 5) _ _ e, uI_n (C 5) _ _ (j := p - 1) (by omega), uI_n (C 6) _ _ e, uI_n (C 6) _ _ (j := p - 1) (by omega)]
      exact h2 p a (by omega)
theorem fsP_a2 (h0 : 0 < C 11 3) (h4 : C 4 (C 11 3 - 1) = f) : fsP (adP C f sd) = fsP C := by
  unfold fsP
  rw [ad3, ad4, kI_s _ (by omega)]
  have e1 : kI (fun p => p = 0 ∨ uI (C 4) (C 11 3) f p ≠ uI (C 4) (C 11 3) f (p - 1)) (C 11 3) = kI (fun p => p = 0 ∨ C 4 p ≠ C 4 (p - 1)) (C 11 3) := kI_cg (fun i a b => by rw [uI_n _ _ _ (by omega), uI_n _ _ _ (by omega)])
  rw [e1, bI_f]
  · omega
  · rintro (e | e)
    · omega
    · rw [uI_s, uI_n _ _ _ (by omega)] at e
      exact e h4.symm
/-- what a pick that goes through does -/
theorem thr_w {s : Int} (hn : 1 ≤ n) : (s < f ∨ f + n ≤ s → goThr T C f n 0 s = C 0 s) ∧ (f < s ∧ s < f + n → goThr T C f n 0 s = 5) ∧ (s = f → goThr T C f n 0 s = if T 5 f ≠ -1 then 4 else if 0 < pgs T C f then 2 else 3) := by
  have k0 : thr0 C f n 0 = fil (C 0) (f + 1) (f + n) 5 := rfl
  have k1 : goPg T (thr0 C f n) f 0 = fil (C 0) (f + 1) (f + n) 5 := by
    unfold goPg goP0
    split <;> split <;> rfl
  unfold goThr
  by_cases c : T 5 f ≠ -1
  · rw [if_pos c]
    show (_ → uI (thr0 C f n 0) f 4 s = _) ∧ (_ → uI (thr0 C f n 0) f 4 s = _) ∧ (_ → uI (thr0 C f n 0) f 4 s = _)
    rw [k0]
    refine ⟨fun h => ?_, fun h => ?_, fun h => ?_⟩
    · rw [uI_n _ _ _ (by omega), fil_out (by omega)]
    · rw [uI_n _ _ _ (by omega), fil_in (by omega) (by omega)]
    · rw [h, uI_s, if_pos c]
  · rw [if_neg c]
    show (_ → uI (goPg T (thr0 C f n) f 0) f _ s = _) ∧ (_ → uI (goPg T (thr0 C f n) f 0) f _ s = _) ∧ (_ → uI (goPg T (thr0 C f n) f 0) f _ s = _)
    rw [k1]
    refine ⟨fun h => ?_, fun h => ?_, fun h => ?_⟩
    · rw [uI_n _ _ _ (by omega), fil_out (by omega)]
    · rw [uI_n _ _ _ (by omega), fil_in (by omega) (by omega)]
    · rw [h, uI_s, if_neg c]
theorem thr_p (h : QP T C X f) (hf : 0 ≤ f) (hX : 0 < pgs T C f → X f = 2) : QP T (goThr T C f n) X (f + 1) ∧ fsP (goThr T C f n) = fsP C + bI (T 5 f = -1 ∧ 0 < pgs T C f) ∧ goThr T C f n 8 = C 8 ∧ goThr T C f n 11 3 = C 11 3 + goR T C f := by
  have h9 : QP T (thr0 C f n) X f := h.c rfl rfl rfl rfl rfl
  have f9 : fsP (thr0 C f n) = fsP C := fsP_c rfl rfl
  unfold goThr goR
  by_cases c : T 5 f ≠ -1
  · rw [if_pos c, if_pos c, bI_f (fun q => c q.1), Int.add_zero, Int.add_zero]
    exact ⟨(h9.x (fun _ _ _ => rfl) (by omega)).c rfl rfl rfl rfl rfl, fsP_c rfl rfl, rfl, rfl⟩
  · have c5 : T 5 f = -1 := Classical.byContradiction c
    rw [if_neg c, if_neg c]
    have key : QP T (goPg T (thr0 C f n) f) X (f + 1) ∧ fsP (goPg T (thr0 C f n) f) = fsP C + bI (T 5 f = -1 ∧ 0 < pgs T C f) ∧ goPg T (thr0 C f n) f 8 = C 8 ∧ goPg T (thr0 C f n) f 11 3 = C 11 3 + pgs T C f := by
      have p1 : pgs T C f = bI (C 8 3 ≤ T 3 f) + bI (C 11 5 = 1 ∧ C 8 3 ≤ T 4 f) := if_neg c
      unfold goPg goP0
      by_cases a : C 8 3 ≤ T 3 f
      · rw [if_pos (show thr0 C f n 8 3 ≤ T 3 f from a)]
        have hx : X f = 2 := hX (by rw [p1, bI_t a]; rcases bI_r (c := C 11 5 = 1 ∧ C 8 3 ≤ T 4 f) with e | e <;> rw [e] <;> decide)
        have g1 : QP T (adP (thr0 C f n) f 0) X (f + 1) := h9.a1 hf hx a
        have g2 : fsP (adP (thr0 C f n) f 0) = fsP C + 1 := (fsP_a1 h9).trans (by rw [f9])
        by_cases b : C 11 5 = 1 ∧ C 8 3 ≤ T 4 f
        · rw [if_pos (show thr0 C f n 11 5 = 1 ∧ thr0 C f n 8 3 ≤ T 4 f from b)]
          have q0 : 0 ≤ C 11 3 := h.1
          have u4 : adP (thr0 C f n) f 0 4 (adP (thr0 C f n) f 0 11 3 - 1) = f := by
            show uI (C 4) (C 11 3) f (C 11 3 + 1 - 1) = f
            rw [uI_i, if_pos (by omega)]
          refine ⟨g1.a2 (show 0 < C 11 3 + 1 by omega) u4 ?_ ?_ b.2, (fsP_a2 (show 0 < C 11 3 + 1 by omega) u4).trans (by rw [g2, bI_t ⟨c5, by rw [p1, bI_t a, bI_t b]; decide⟩]), rfl, ?_⟩
          · show uI (C 5) (C 11 3) 0 (C 11 3 + 1 - 1) = 0
            rw [uI_i, if_pos (by omega)]
          · show uI (C 6) (C 11 3) (C 11 4 - 1) (C 11 3 + 1 - 1) = C 11 4 - 1
            rw [uI_i, if_pos (by omega)]
          · show C 11 3 + 1 + 1 = _
            rw [p1, bI_t a, bI_t b]
            omega
        · rw [if_neg (show ¬ (thr0 C f n 11 5 = 1 ∧ thr0 C f n 8 3 ≤ T 4 f) from b)]
          exact ⟨g1, by rw [g2, bI_t ⟨c5, by rw [p1, bI_t a, bI_f b]; decide⟩], rfl, by rw [p1, bI_t a, bI_f b]; rfl⟩
      · rw [if_neg (show ¬ thr0 C f n 8 3 ≤ T 3 f from a)]
        by_cases b : C 11 5 = 1 ∧ C 8 3 ≤ T 4 f
        · rw [if_pos (show thr0 C f n 11 5 = 1 ∧ thr0 C f n 8 3 ≤ T 4 f from b)]
          have hx : X f = 2 := hX (by rw [p1, bI_f a, bI_t b]; decide)
          exact ⟨h9.a1 hf hx b.2, by rw [fsP_a1 h9, f9, bI_t ⟨c5, by rw [p1, bI_f a, bI_t b]; decide⟩], rfl, by rw [p1, bI_f a, bI_t b]; rfl⟩
        · rw [if_neg (show ¬ (thr0 C f n 11 5 = 1 ∧ thr0 C f n 8 3 ≤ T 4 f) from b)]
          exact ⟨h9.x (fun _ _ _ => rfl) (by omega), by rw [f9, bI_f (fun q => by rw [p1, bI_f a, bI_f b] at q; exact absurd q.2 (by decide)), Int.add_zero], rfl, by rw [p1, bI_f a, bI_f b]; show C 11 3 = _; omega⟩
    exact ⟨key.1.c rfl rfl rfl rfl rfl, (fsP_c rfl rfl).trans key.2.1, key.2.2.1, key.2.2.2⟩
/-- a feeder's pages and places -/
def PV (T C : Nat → Int → Int) : Prop := QP T C (C 0) (C 11 0 - C 11 1) ∧ fsP C = kI (fun s => C 0 s = 2) (T 8 0) ∧ (∀ s : Int, 0 ≤ s → s < T 8 0 → (C 0 s = 0 ↔ C 11 0 ≤ s) ∧ (C 0 s = 1 ↔ C 11 0 - C 11 1 ≤ s ∧ s < C 11 0)) ∧ FR C
/-- a pick through, from the places f to f + n - 1 -/
theorem PV_thr {C0 : Nat → Int → Int} (hQ : QP T C (C 0) f) (hF : fsP C = kI (fun s => C 0 s = 2) (T 8 0)) (hf : 0 ≤ f ∧ 1 ≤ n ∧ f + n ≤ T 8 0) (hW : ∀ s : Int, 0 ≤ s → s < T 8 0 → (C 0 s = 0 → f ≤ s) ∧ (C 0 s = 1 → f ≤ s ∧ s < f + n) ∧ (f + n ≤ s → C 0 s = 0) ∧ (f ≤ s ∧ s < f + n → C 0 s ≠ 2)) (h0 : C 11 0 = f + n) (h1 : C 11 1 = 0) (h2 : C 11 2 = 0) : PV T (goThr T C f n) := by
  have hw := fun s => thr_w (T := T) (C := C) (f := f) (n := n) (s := s) hf.2.1
  have e0 : goThr T C f n 11 0 = f + n := (goThr_11 (by decide) (by decide)).trans h0
  have e1 : goThr T C f n 11 1 = 0 := (goThr_11 (by decide) (by decide)).trans h1
  have e2 : goThr T C f n 11 2 = 0 := (goThr_11 (by decide) (by decide)).trans h2
  have p5 : ¬ T 5 f = -1 → ¬ 0 < pgs T C f := fun c => by
    unfold pgs
    rw [if_pos c]
    decide
  have hQ2 : QP T C (goThr T C f n 0) f := hQ.x (fun s a b => ((hw s).1 (Or.inl b)).symm) (Int.le_refl _)
  have hxf : 0 < pgs T C f → goThr T C f n 0 f = 2 := fun z => by
    rw [(hw f).2.2 rfl, if_neg (fun c => p5 c z), if_pos z]
  obtain ⟨g1, g2, g3, g4⟩ := thr_p (n := n) hQ2 hf.1 hxf
  refine ⟨g1.x (fun _ _ _ => rfl) (by rw [e0, e1]; omega), ?_, fun s a b => ?_, ⟨fun _ => e1, fun _ => e2⟩⟩
  · rw [g2, hF]
    by_cases c : T 5 f = -1 ∧ 0 < pgs T C f
    · rw [bI_t c]
      refine (kI_up2 hf.1 ((hW f hf.1 (by omega)).2.2.2 (by omega)) (hxf c.2) (by omega) (fun i a b d => ?_)).symm
      by_cases k : f < i ∧ i < f + n
      · rw [(hw i).2.1 k]
        exact ⟨fun z => absurd z ((hW i a b).2.2.2 (by omega)), fun z => absurd z (by decide)⟩
      · rw [(hw i).1 (by omega)]
    · rw [bI_f c, Int.add_zero]
      refine kI_cg (fun i a b => ?_)
      by_cases k : f < i ∧ i < f + n
      · rw [(hw i).2.1 k]
        exact ⟨fun z => absurd z ((hW i a b).2.2.2 (by omega)), fun z => absurd z (by decide)⟩
      · by_cases k2 : i = f
        · rw [(hw i).2.2 k2]
          refine ⟨fun z => absurd z ((hW i a b).2.2.2 (by omega)), fun z => ?_⟩
          by_cases t : T 5 f ≠ -1
          · rw [if_pos t] at z
            exact absurd z (by decide)
          · rw [if_neg t, if_neg (fun q => c ⟨Classical.byContradiction t, q⟩)] at z
            exact absurd z (by decide)
        · rw [(hw i).1 (by omega)]
  · rw [e0, e1]
    have q := hW s a b
    by_cases k : f < s ∧ s < f + n
    · rw [(hw s).2.1 k]
      exact ⟨⟨fun z => absurd z (by decide), fun z => by omega⟩, ⟨fun z => absurd z (by decide), fun z => by omega⟩⟩
    · by_cases k2 : s = f
      · have v : goThr T C f n 0 s = 4 ∨ goThr T C f n 0 s = 2 ∨ goThr T C f n 0 s = 3 := by
          rw [(hw s).2.2 k2]
          split
          · exact Or.inl rfl
          · split
            · exact Or.inr (Or.inl rfl)
            · exact Or.inr (Or.inr rfl)
        exact ⟨⟨fun z => by omega, fun z => by omega⟩, ⟨fun z => by omega, fun z => by omega⟩⟩
      · rw [(hw s).1 (by omega)]
        exact ⟨⟨fun z => by have := q.1 z; omega, fun z => q.2.2.1 z⟩, ⟨fun z => by have := q.2.1 z; omega, fun z => by omega⟩⟩
/-- nothing of the pages changes -/
theorem PV_w (h : PV T C) (e3 : C' 11 3 = C 11 3) (e4 : C' 4 = C 4) (e5 : C' 5 = C 5) (e6 : C' 6 = C 6) (e8 : C' 8 = C 8) (hg : C' 11 0 - C' 11 1 ≥ C 11 0 - C 11 1) (hw : ∀ s : Int, 0 ≤ s → s < T 8 0 → (s < C 11 0 - C 11 1 → C' 0 s = C 0 s) ∧ (C 11 0 - C 11 1 ≤ s → C' 0 s ≠ 2)) (hb : 0 ≤ C 11 0 - C 11 1 ∧ C 11 0 - C 11 1 ≤ T 8 0) (hs : ∀ s : Int, 0 ≤ s → s < T 8 0 → (C' 0 s = 0 ↔ C' 11 0 ≤ s) ∧ (C' 0 s = 1 ↔ C' 11 0 - C' 11 1 ≤ s ∧ s < C' 11 0)) (hF : FR C') : PV T C' := by
  refine ⟨((h.1.x (X' := C' 0) (fun s a b => ((hw s a (by omega)).1 b).symm) hg).c e3 e4 e5 e6 e8), ?_, hs, hF⟩
  rw [fsP_c e3 e4, h.2.1]
  refine kI_cg (fun i a b => ?_)
  by_cases k : i < C 11 0 - C 11 1
  · rw [(hw i a b).1 k]
  · have q := h.2.2.1 i a b
    refine ⟨fun z => ?_, fun z => absurd z ((hw i a b).2 (by omega))⟩
    have d0 : ¬ C 0 i = 0 := by omega
    have d1 : ¬ C 0 i = 1 := by omega
    by_cases k2 : C 11 0 ≤ i
    · exact absurd (q.1.mpr k2) d0
    · exact absurd (q.2.mpr ⟨by omega, by omega⟩) d1
end PVS
