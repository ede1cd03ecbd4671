/-! .. UNDER EACH CHANGE -/
section PVO
variable {T C : Nat → Int → Int}
theorem PV_fr (hT : WT T) (h : frC T C) : PV T C := by
  obtain ⟨⟨h0, h1, h2, h3, h4, -, -, -⟩, -, -, hs, -⟩ := h
  refine ⟨⟨by omega, fun p a b => by omega, fun p a b => by omega⟩, ?_, fun s a b => ?_, ⟨fun _ => h1, fun _ => h2⟩⟩
  · unfold fsP
    rw [h3, kI_0, kI_no (fun i a b => by rw [(hs i a b).1]; decide)]
  · rw [(hs s a b).1, h0, h1]
    exact ⟨⟨fun _ => a, fun _ => rfl⟩, ⟨fun z => absurd z (by decide), fun z => by omega⟩⟩
theorem PV_dx {v : Int} (h : PV T C) : PV T (s1 C 5 v) := h
theorem PV_rm (hC : WC T C) (h : PV T C) : PV T (rmC C) := by
  have q := hC.1
  have e0 : rmC C 0 = fil (C 0) (C 11 0 - C 11 1) (C 11 0 - C 11 1 + C 11 1) 6 := rfl
  have t0 : rmC C 11 0 = C 11 0 := rfl
  have t1 : rmC C 11 1 = 0 := rfl
  refine PV_w h rfl rfl rfl rfl rfl (by rw [t0, t1]; omega) (fun s a b => ?_) ⟨by omega, by omega⟩ (fun s a b => ?_) ⟨fun _ => rfl, fun _ => rfl⟩
  · rw [e0]
    refine ⟨fun z => fil_out (by omega), fun z => ?_⟩
    by_cases k : s < C 11 0
    · rw [fil_in z (by omega)]
      decide
    · rw [fil_out (by omega), (h.2.2.1 s a b).1.mpr (by omega)]
      decide
  · rw [e0, t0, t1]
    have z := h.2.2.1 s a b
    by_cases k : C 11 0 - C 11 1 ≤ s ∧ s < C 11 0
    · rw [fil_in k.1 (by omega)]
      exact ⟨⟨fun w => absurd w (by decide), fun w => by omega⟩, ⟨fun w => absurd w (by decide), fun w => by omega⟩⟩
    · rw [fil_out (by omega)]
      exact ⟨z.1, ⟨fun w => absurd (z.2.mp w) k, fun w => by omega⟩⟩
theorem PV_pb (hC : WC T C) (h : PV T C) : PV T (pbC C) := by
  have q := hC.1
  have e0 : pbC C 0 = fil (C 0) (C 11 0 - C 11 1) (C 11 0) 0 := rfl
  have t0 : pbC C 11 0 = C 11 0 - C 11 1 := rfl
  have t1 : pbC C 11 1 = C 11 1 - C 11 1 := rfl
  refine PV_w h rfl rfl rfl rfl rfl (by rw [t0, t1]; omega) (fun s a b => ?_) ⟨by omega, by omega⟩ (fun s a b => ?_) ⟨fun _ => by rw [t1]; omega, fun _ => rfl⟩
  · rw [e0]
    refine ⟨fun z => fil_out (by omega), fun z => ?_⟩
    by_cases k : s < C 11 0
    · rw [fil_in z k]
      decide
    · rw [fil_out (by omega), (h.2.2.1 s a b).1.mpr (by omega)]
      decide
  · rw [e0, t0, t1]
    have z := h.2.2.1 s a b
    by_cases k : C 11 0 - C 11 1 ≤ s ∧ s < C 11 0
    · rw [fil_in k.1 k.2]
      exact ⟨⟨fun _ => k.1, fun _ => rfl⟩, ⟨fun w => absurd w (by decide), fun w => by omega⟩⟩
    · rw [fil_out k]
      refine ⟨⟨fun w => by have := z.1.mp w; omega, fun w => z.1.mpr (by omega)⟩, ⟨fun w => absurd (z.2.mp w) k, fun w => by omega⟩⟩
theorem PV_go (hC : WC T C) (h : PV T C) (h1 : 1 ≤ C 11 1) : PV T (goC T (acc C 8 1)) := by
  have q := hC.1
  show PV T (goThr T (clr (acc C 8 1)) (C 11 0 - C 11 1) (C 11 1))
  refine PV_thr (f := C 11 0 - C 11 1) (n := C 11 1) (C0 := C) (h.1.c rfl rfl rfl rfl rfl) ((fsP_c rfl rfl).trans h.2.1) ⟨by omega, h1, by omega⟩ (fun s a b => ?_) (show C 11 0 = _ by omega) rfl rfl
  have z := h.2.2.1 s a b
  show (C 0 s = 0 → _) ∧ (C 0 s = 1 → _) ∧ (_ → C 0 s = 0) ∧ (_ → C 0 s ≠ 2)
  refine ⟨fun w => by have := z.1.mp w; omega, fun w => by have := z.2.mp w; omega, fun w => z.1.mpr (by omega), fun w => ?_⟩
  rw [z.2.mpr (by omega)]
  decide
theorem pkn_is (h0 : C 11 0 < T 8 0) : 1 ≤ pkn T C ∧ C 11 0 + pkn T C ≤ T 8 0 := by
  have z := pk_is (C 2) h0
  exact ⟨z.1, z.2.1⟩
theorem PV_pick (hC : WC T C) (h : PV T C) (h0 : C 11 0 < T 8 0) (h1 : C 11 1 = 0) (h2 : C 11 2 = 0) : PV T (pickC T C) := by
  have q := hC.1
  have hn := pkn_is h0
  by_cases r : pkr T C = 0
  · rw [pickC_th r]
    have u : ∀ Y : Nat → Int → Int, Y 0 = C 0 → Y 4 = C 4 → Y 5 = C 5 → Y 6 = C 6 → Y 8 = C 8 → Y 11 3 = C 11 3 → Y 11 0 = C 11 0 + pkn T C → Y 11 1 = 0 → Y 11 2 = 0 → PV T (goThr T Y (C 11 0) (pkn T C)) := fun Y y0 y4 y5 y6 y8 y3 g0 g1 g2 => by
      refine PV_thr (f := C 11 0) (n := pkn T C) (C0 := C) (by rw [y0]; exact (h.1.x (fun _ _ _ => rfl) (by omega)).c y3 y4 y5 y6 y8) ((fsP_c y3 y4).trans (by rw [y0]; exact h.2.1)) ⟨by omega, hn.1, hn.2⟩ (fun s a b => ?_) g0 g1 g2
      have z := h.2.2.1 s a b
      rw [y0]
      refine ⟨fun w => z.1.mp w, fun w => by have := z.2.mp w; omega, fun w => z.1.mpr (by omega), fun w => ?_⟩
      rw [z.1.mpr (by omega)]
      decide
    by_cases k : pkn T C = 1
    · rw [pk2_1 k]
      exact u _ rfl rfl rfl rfl rfl rfl rfl h1 h2
    · rw [pk2_n k]
      exact u _ rfl rfl rfl rfl rfl rfl rfl h1 h2
  · have hp3 : PV T (pk3 T C) := by
      have e0 : pk3 T C 0 = fil (C 0) (C 11 0) (C 11 0 + pkn T C) 1 := rfl
      have t0 : pk3 T C 11 0 = C 11 0 + pkn T C := rfl
      have t1 : pk3 T C 11 1 = pkn T C := rfl
      have t2 : pk3 T C 11 2 = pkr T C := rfl
      refine PV_w h rfl rfl rfl rfl rfl (by rw [t0, t1]; omega) (fun s a b => ?_) ⟨by omega, by omega⟩ (fun s a b => ?_) ⟨fun w => absurd (t2.symm.trans w) r, fun w => by rw [t1] at w; omega⟩
      · rw [e0]
        refine ⟨fun z => fil_out (by omega), fun z => ?_⟩
        by_cases k : s < C 11 0 + pkn T C
        · rw [fil_in (by omega) k]
          decide
        · rw [fil_out (by omega), (h.2.2.1 s a b).1.mpr (by omega)]
          decide
      · rw [e0, t0, t1]
        have z := h.2.2.1 s a b
        by_cases k : C 11 0 ≤ s ∧ s < C 11 0 + pkn T C
        · rw [fil_in k.1 k.2]
          exact ⟨⟨fun w => absurd w (by decide), fun w => by omega⟩, ⟨fun _ => by omega, fun _ => rfl⟩⟩
        · rw [fil_out k]
          refine ⟨⟨fun w => by have := z.1.mp w; omega, fun w => z.1.mpr (by omega)⟩, ⟨fun w => by have := z.2.mp w; omega, fun w => by omega⟩⟩
    unfold pickC
    rw [if_neg r]
    split
    · exact hp3
    · exact hp3
theorem PV_feed (hT : WT T) : ∀ (m : Nat) {C : Nat → Int → Int}, WC T C → PV T C → PV T (feedC T m C) ∧ WC T (feedC T m C) ∧ 0 ≤ feedN T m C
  | 0, C, hC, h => ⟨h, hC, Int.le_refl _⟩
  | m + 1, C, hC, h => by
    unfold feedC feedN
    by_cases c : C 11 0 < T 8 0 ∧ C 11 2 = 0
    · rw [if_pos c, if_pos c]
      have h1 : C 11 1 = 0 := h.2.2.2.mp c.2
      obtain ⟨g1, g2, g3⟩ := PV_feed hT m (WC_pickC hT hC h1 c.1) (PV_pick hC h c.1 h1 c.2)
      exact ⟨g1, g2, by split <;> omega⟩
    · rw [if_neg c, if_neg c]
      exact ⟨h, hC, Int.le_refl _⟩
/-- all sheets are somewhere -/
theorem wat_sum (hC : WC T C) (h0 : 0 ≤ T 8 0) : sI (fun w => watV T C w) 7 = T 8 0 := by
  have z := kI_by2 (g := C 0) (r := fun _ => True) (J := 7) h0 (by decide) (fun p a b => by have q := hC.2.2.1 p a b; omega)
  have e : sI (fun w => watV T C w) 7 = sI (fun j => kI (fun p => C 0 p = j ∧ True) (T 8 0)) 7 := sI_cg (fun j _ _ => kI_cg (fun i _ _ => ⟨fun q => ⟨q, trivial⟩, fun q => q.1⟩))
  rw [e, z]
  have k := kI_all (q := fun _ => True) (T 8 0).toNat (fun _ _ _ => trivial)
  rw [show (((T 8 0).toNat : Nat) : Int) = T 8 0 by omega] at k
  exact k
theorem kI_rng {q : Int → Prop} [DecidablePred q] {a b : Int} (h0 : 0 ≤ a) : ∀ m : Nat, a ≤ b → b ≤ (m : Int) → (∀ s : Int, 0 ≤ s → s < (m : Int) → (q s ↔ a ≤ s ∧ s < b)) → kI q (m : Int) = b - a
  | 0, h1, h2, _ => by rw [show b - a = 0 by omega]; rfl
  | m + 1, h1, h2, h => by
    rw [show ((m + 1 : Nat) : Int) = (m : Int) + 1 by omega, kI_s _ (by omega)]
    by_cases e : b = (m : Int) + 1
    · by_cases e2 : a = b
      · rw [kI_no (fun i x y => by rw [h i x (by omega)]; omega), bI_f (by rw [h _ (by omega) (by omega)]; omega)]
        omega
      · rw [kI_rng (b := (m : Int)) h0 m (by omega) (by omega) (fun s x y => by rw [h s x (by omega)]; omega), bI_t ((h _ (by omega) (by omega)).mpr (by omega))]
        omega
    · rw [kI_rng h0 m h1 (by omega) (fun s x y => h s x (by omega)), bI_f (by rw [h _ (by omega) (by omega)]; omega)]
      omega
theorem kI_rng2 {q : Int → Prop} [DecidablePred q] {a b n : Int} (h0 : 0 ≤ a) (h1 : a ≤ b) (h2 : b ≤ n) (h : ∀ s : Int, 0 ≤ s → s < n → (q s ↔ a ≤ s ∧ s < b)) : kI q n = b - a := by
  have e : ((n.toNat : Nat) : Int) = n := by omega
  have z := kI_rng (q := q) (a := a) (b := b) h0 n.toNat h1 (by omega) (fun s x y => h s x (by omega))
  rw [e] at z
  exact z
theorem wat_0 (hC : WC T C) (h : PV T C) : watV T C 0 = T 8 0 - C 11 0 := by
  have q := hC.1
  exact kI_rng2 (by omega) (by omega) (Int.le_refl _) (fun s a b => by rw [(h.2.2.1 s a b).1]; omega)
theorem wat_1 (hC : WC T C) (h : PV T C) : watV T C 1 = C 11 1 := by
  have q := hC.1
  have z := kI_rng2 (q := fun s => C 0 s = 1) (a := C 11 0 - C 11 1) (b := C 11 0) (n := T 8 0) (by omega) (by omega) (by omega) (fun s a b => (h.2.2.1 s a b).2)
  show kI (fun s => C 0 s = 1) (T 8 0) = _
  rw [z]
  omega
theorem job_1 (hC : WC T C) : sI (fun j => jobV C j 1) (C 11 4) = C 11 3 := by
  have q := hC.1
  have z := kI_by2 (g := C 6) (r := fun _ => True) (J := C 11 4) (n := C 11 3) (by omega) (by omega) (fun p a b => by have w := hC.2.2.2.2.1 p a b; omega)
  have e : sI (fun j => jobV C j 1) (C 11 4) = sI (fun j => kI (fun p => C 6 p = j ∧ True) (C 11 3)) (C 11 4) := sI_cg (fun j _ _ => kI_cg (fun i _ _ => ⟨fun q => ⟨q, trivial⟩, fun q => q.1⟩))
  rw [e, z]
  have k := kI_all (q := fun _ => True) (C 11 3).toNat (fun _ _ _ => trivial)
  rw [show (((C 11 3).toNat : Nat) : Int) = C 11 3 by omega] at k
  exact k
theorem job_3 (hC : WC T C) (h : PV T C) : sI (fun j => jobV C j 3) (C 11 4) = watV T C 2 := by
  have q := hC.1
  have z := kI_by2 (g := C 6) (r := fun p => p = 0 ∨ C 4 p ≠ C 4 (p - 1)) (J := C 11 4) (n := C 11 3) (by omega) (by omega) (fun p a b => by have w := hC.2.2.2.2.1 p a b; omega)
  exact z.trans h.2.1
/-- a pick as it was told -/
theorem told_go (h0 : C 11 0 < T 8 0) (r : pkr T C = 0) (hT5 : ∀ s : Int, 0 ≤ s → s < T 8 0 → 0 ≤ C 11 3) (hC : WC T C) (h : PV T C) (h2 : C 11 2 = 0) : pickC T C 11 3 = C 11 3 + goR T C (C 11 0) ∧ 1 < pickC T C 0 (C 11 0) := by
  have q := hC.1
  have hn := pkn_is h0
  have h1 : C 11 1 = 0 := h.2.2.2.mp h2
  rw [pickC_th r]
  have key : ∀ Y : Nat → Int → Int, Y 0 = C 0 → Y 4 = C 4 → Y 5 = C 5 → Y 6 = C 6 → Y 8 = C 8 → Y 11 3 = C 11 3 → Y 11 5 = C 11 5 → goThr T Y (C 11 0) (pkn T C) 11 3 = C 11 3 + goR T C (C 11 0) ∧ 1 < goThr T Y (C 11 0) (pkn T C) 0 (C 11 0) := fun Y y0 y4 y5 y6 y8 y3 y9 => by
    have hq : QP T Y (fun s => if s = C 11 0 then 2 else C 0 s) (C 11 0) := (h.1.x (fun s a b => by rw [if_neg (by omega)]) (by omega)).c y3 y4 y5 y6 y8
    have g := thr_p (n := pkn T C) hq (by omega) (fun _ => if_pos rfl)
    have eg : goR T Y (C 11 0) = goR T C (C 11 0) := by
      unfold goR pgs
      rw [y8, y9]
    refine ⟨by rw [g.2.2.2, y3, eg], ?_⟩
    rw [(thr_w hn.1).2.2 rfl]
    split
    · decide
    · split <;> decide
  by_cases k : pkn T C = 1
  · rw [pk2_1 k]
    exact key _ rfl rfl rfl rfl rfl rfl rfl
  · rw [pk2_n k]
    exact key _ rfl rfl rfl rfl rfl rfl rfl
end PVO
