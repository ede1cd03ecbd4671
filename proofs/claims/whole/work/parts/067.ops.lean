/-! WHAT A PICK DOES, and what can be stays so -/
theorem RJ_cg {sa : Int → Int} {T C C' : Nat → Int → Int} {J : Int → Int} (h : RJ sa T C J) (e0 : C 0 = C' 0) (e1 : C 1 = C' 1) (e2 : C 2 = C' 2) (e3 : C 3 = C' 3) (e4 : C 4 = C' 4) (e5 : C 5 = C' 5) (e6 : C 6 = C' 6) (e7 : C 7 = C' 7) (e8 : C 8 = C' 8) (e9 : C 9 = C' 9) (e10 : C 10 = C' 10) (e11 : C 11 = C' 11) : RJ sa T C' J := by
  unfold RJ at h ⊢
  rw [← e0, ← e1, ← e2, ← e3, ← e4, ← e5, ← e6, ← e7, ← e8, ← e9, ← e10, ← e11]
  exact h
theorem RJ_Jc {sa : Int → Int} {T C : Nat → Int → Int} {J J' : Int → Int} (h : RJ sa T C J) (e : ∀ j : Int, 0 ≤ j → j < C 11 4 → J j = J' j) : RJ sa T C J' := by
  obtain ⟨h0, hl, hg, ha, hs, hk, hp, hP, hj⟩ := h
  exact ⟨h0, hl, hg, ha, hs, hk, hp, hP, fun k p q => ⟨(hj k p q).1, by rw [← e k p q]; exact (hj k p q).2⟩⟩
theorem uI_c {f : Int → Int} {i j a b : Int} (h : i ≠ j) : uI (uI f i a) j b = uI (uI f j b) i a := by
  funext k
  unfold uI
  by_cases e : k = j
  · rw [if_pos e, if_neg (by omega), if_pos e]
  · rw [if_neg e]
    by_cases e2 : k = i
    · rw [if_pos e2, if_pos e2]
    · rw [if_neg e2, if_neg e2, if_neg e]
theorem kI_cg {q r : Int → Prop} [DecidablePred q] [DecidablePred r] {k : Int} (h : ∀ i : Int, 0 ≤ i → i < k → (q i ↔ r i)) : kI q k = kI r k := sI_cg (fun i a b => bI_c (h i a b))
theorem kI_no {q : Int → Prop} [DecidablePred q] {k : Int} (h : ∀ i : Int, 0 ≤ i → i < k → ¬ q i) : kI q k = 0 := by
  have e : kI q k = sI (fun _ => 0) k := sI_cg (fun i a b => bI_f (h i a b))
  rw [e]
  have z : ∀ n : Nat, sN (fun _ => 0) n = 0 := fun n => by
    induction n with
    | zero => rfl
    | succ n ih => rw [sN, ih]; rfl
  exact z _
/-- a page more: sheets that are out -/
theorem shJ_ad {C : Nat → Int → Int} {sh sd j : Int} (h0 : 0 ≤ C 11 3) : shJ (adP C sh sd) j = shJ C j + bI (C 11 4 - 1 = j ∧ (C 11 3 = 0 ∨ sh ≠ C 4 (C 11 3 - 1))) := by
  show kI (fun p => uI (C 6) (C 11 3) (C 11 4 - 1) p = j ∧ (p = 0 ∨ uI (C 4) (C 11 3) sh p ≠ uI (C 4) (C 11 3) sh (p - 1))) (uI (C 11) 3 (C 11 3 + 1) 3) = _
  rw [uI_s, kI_s _ h0]
  congr 1
  · refine kI_cg (fun i a b => ?_)
    rw [uI_n (C 6) _ _ (by omega), uI_n (C 4) _ _ (show i ≠ C 11 3 by omega), uI_n (C 4) _ _ (show i - 1 ≠ C 11 3 by omega)]
  · refine bI_c ?_
    rw [uI_s, uI_s, uI_n (C 4) _ _ (show C 11 3 - 1 ≠ C 11 3 by omega)]
theorem shJ_cg {C C' : Nat → Int → Int} (e4 : C 4 = C' 4) (e6 : C 6 = C' 6) (e3 : C 11 3 = C' 11 3) (j : Int) : shJ C j = shJ C' j := by
  unfold shJ; rw [e4, e6, e3]
theorem shJ_no {C : Nat → Int → Int} {j : Int} (h : ∀ p : Int, 0 ≤ p → p < C 11 3 → C 6 p ≠ j) : shJ C j = 0 := kI_no (fun i a b q => h i a b q.1)
def thr0 (C : Nat → Int → Int) (f n : Int) : Nat → Int → Int := st (acc (st C 0 (fil (C 0) (f + 1) (f + n) 5)) 5 (C 3 f)) 3 (uI (C 3) f 0)
def goP0 (T C : Nat → Int → Int) (f : Int) : Nat → Int → Int := if C 8 3 ≤ T 3 f then adP C f 0 else C
def goPg (T C : Nat → Int → Int) (f : Int) : Nat → Int → Int := if C 11 5 = 1 ∧ C 8 3 ≤ T 4 f then adP (goP0 T C f) f 1 else goP0 T C f
/-- sheets f to f + n - 1 go through -/
def goThr (T C : Nat → Int → Int) (f n : Int) : Nat → Int → Int := if T 5 f ≠ -1 then bgJ (st (thr0 C f n) 0 (uI (thr0 C f n 0) f 4)) (T 5 f) else st (goPg T (thr0 C f n) f) 0 (uI (goPg T (thr0 C f n) f 0) f (if 0 < pgs T C f then 2 else 3))
def goC (T C : Nat → Int → Int) : Nat → Int → Int := goThr T (clr C) (C 11 0 - C 11 1) (C 11 1)
def goR (T C : Nat → Int → Int) (f : Int) : Int := if T 5 f ≠ -1 then 0 else pgs T C f
/-- what a pick is: sheets, thickness, length, reason -/
def pkn (T C : Nat → Int → Int) : Int := pk (C 2) (T 8 0) (C 11 0)
def pkr (T C : Nat → Int → Int) : Int := rsn T C (C 8 0) (usG (C 10) (C 11 6) (T 8 2)) (thk T (C 11 0) (pkn T C)) (lng T (C 2) (C 11 0) (pkn T C)) (C 1 (C 11 0))
def pk1 (T C : Nat → Int → Int) : Nat → Int → Int := s1 (acc C 0 1) 0 (C 11 0 + pkn T C)
def pk2 (T C : Nat → Int → Int) : Nat → Int → Int := if pkn T C = 1 then acc (gAdd (pk1 T C) (thk T (C 11 0) (pkn T C))) 4 1 else pk1 T C
def pk3 (T C : Nat → Int → Int) : Nat → Int → Int := st (acc (s1 (s1 (pk1 T C) 2 (pkr T C)) 1 (pkn T C)) (pkr T C) 1) 0 (fil (C 0) (C 11 0) (C 11 0 + pkn T C) 1)
def pickC (T C : Nat → Int → Int) : Nat → Int → Int := if pkr T C = 0 then goThr T (pk2 T C) (C 11 0) (pkn T C) else if pkr T C = 3 ∧ T 5 (C 11 0) = -1 then st (pk3 T C) 3 (uI (C 3) (C 11 0) 1) else pk3 T C
def pickR (T C : Nat → Int → Int) : Int := if pkr T C = 0 then goR T C (C 11 0) else -1
section WCs
variable {T C : Nat → Int → Int}
theorem WC_9 {f : Int → Int} (h : WC T C) : WC T (st C 9 f) := h
theorem WC_0 {f : Int → Int} (h : WC T C) (hf : ∀ s : Int, 0 ≤ s → s < T 8 0 → 0 ≤ f s ∧ f s ≤ 6) : WC T (st C 0 f) := by
  obtain ⟨h1, h2, h3, h4, h5, h6⟩ := h
  exact ⟨h1, h2, fun s a b => ⟨(hf s a b).1, (hf s a b).2, (h3 s a b).2.2⟩, h4, h5, h6⟩
theorem WC_wh {s v : Int} (h : WC T C) (hv : 0 ≤ v ∧ v ≤ 6) : WC T (st C 0 (uI (C 0) s v)) := WC_0 h (fun i a b => by
  have q := h.2.2.1 i a b
  unfold uI; split <;> omega)
theorem WC_fil {x y v : Int} (h : WC T C) (hv : 0 ≤ v ∧ v ≤ 6) : WC T (st C 0 (fil (C 0) x y v)) := WC_0 h (fun i a b => by
  have q := h.2.2.1 i a b
  unfold fil; split <;> omega)
theorem WC_ha {s v : Int} (h : WC T C) (hv : v = 0 ∨ (v = 1 ∧ T 5 s = -1)) : WC T (st C 3 (uI (C 3) s v)) := by
  obtain ⟨h1, h2, h3, h4, h5, h6⟩ := h
  refine ⟨h1, h2, fun i a b => ?_, h4, h5, h6⟩
  obtain ⟨q1, q2, q3, q4, q5, q6, q7, q8, q9⟩ := h3 i a b
  refine ⟨q1, q2, q3, q4, q5, q6, ?_⟩
  show 0 ≤ uI (C 3) s v i ∧ uI (C 3) s v i ≤ 1 ∧ (uI (C 3) s v i = 1 → T 5 i = -1)
  by_cases e : i = s
  · rw [e, uI_s]; omega
  · rw [uI_n _ _ _ e]; exact ⟨q7, q8, q9⟩
theorem WC_ad {sh sd : Int} (h : WC T C) (hs : 0 ≤ sh ∧ sh < C 11 0 - C 11 1) (hd : 0 ≤ sd ∧ sd ≤ 1) (hp : C 11 3 + 1 ≤ 2 * (C 11 0 - C 11 1)) : WC T (adP C sh sd) := by
  obtain ⟨h1, h2, h3, h4, h5, h6⟩ := h
  refine ⟨?_, h2, h3, h4, fun p a b => ?_, h6⟩
  · show 0 ≤ C 11 1 ∧ C 11 1 ≤ C 11 0 ∧ C 11 0 ≤ T 8 0 ∧ 0 ≤ C 11 2 ∧ C 11 2 ≤ 3 ∧ 0 ≤ C 11 3 + 1 ∧ C 11 3 + 1 ≤ 2 * (C 11 0 - C 11 1) ∧ 1 ≤ C 11 4 ∧ C 11 4 ≤ 99 + (C 11 0 - C 11 1) ∧ 0 ≤ C 11 5 ∧ C 11 5 ≤ 1 ∧ 0 ≤ C 11 6 ∧ C 11 6 ≤ 6 ∧ 0 ≤ C 11 7 ∧ C 11 7 ≤ 5 ∧ (C 11 6 < 6 → C 11 7 = 0)
    omega
  · have b2 : p < C 11 3 + 1 := b
    show 0 ≤ uI (C 4) (C 11 3) sh p ∧ uI (C 4) (C 11 3) sh p < C 11 0 - C 11 1 ∧ 0 ≤ uI (C 5) (C 11 3) sd p ∧ uI (C 5) (C 11 3) sd p ≤ 1 ∧ 0 ≤ uI (C 6) (C 11 3) (C 11 4 - 1) p ∧ uI (C 6) (C 11 3) (C 11 4 - 1) p < C 11 4
    by_cases e : p = C 11 3
    · rw [e, uI_s, uI_s, uI_s]; omega
    · rw [uI_n _ _ _ e, uI_n _ _ _ e, uI_n _ _ _ e]; exact h5 p a (by omega)
theorem WC_bj {cd : Int} (h : WC T C) (hc : -1 ≤ cd ∧ cd ≤ 999) (hj : C 11 4 + 1 ≤ 99 + (C 11 0 - C 11 1)) : WC T (bgJ C cd) := by
  obtain ⟨h1, h2, h3, h4, h5, h6⟩ := h
  refine ⟨?_, h2, h3, h4, fun p a b => ?_, fun j a b => ?_⟩
  · show 0 ≤ C 11 1 ∧ C 11 1 ≤ C 11 0 ∧ C 11 0 ≤ T 8 0 ∧ 0 ≤ C 11 2 ∧ C 11 2 ≤ 3 ∧ 0 ≤ C 11 3 ∧ C 11 3 ≤ 2 * (C 11 0 - C 11 1) ∧ 1 ≤ C 11 4 + 1 ∧ C 11 4 + 1 ≤ 99 + (C 11 0 - C 11 1) ∧ 0 ≤ C 11 5 ∧ C 11 5 ≤ 1 ∧ 0 ≤ C 11 6 ∧ C 11 6 ≤ 6 ∧ 0 ≤ C 11 7 ∧ C 11 7 ≤ 5 ∧ (C 11 6 < 6 → C 11 7 = 0)
    omega
  · have q := h5 p a b
    show 0 ≤ C 4 p ∧ C 4 p < C 11 0 - C 11 1 ∧ 0 ≤ C 5 p ∧ C 5 p ≤ 1 ∧ 0 ≤ C 6 p ∧ C 6 p < C 11 4 + 1
    omega
  · have b2 : j < C 11 4 + 1 := b
    show -1 ≤ uI (C 7) (C 11 4) cd j ∧ uI (C 7) (C 11 4) cd j ≤ 999
    by_cases e : j = C 11 4
    · rw [e, uI_s]; exact hc
    · rw [uI_n _ _ _ e]; exact h6 j a (by omega)
theorem WC_gd {v : Int} (h : WC T C) (hv : 30 ≤ v ∧ v ≤ 500) : WC T (gAdd C v) := by
  obtain ⟨h1, h2, h3, h4, h5, h6⟩ := h
  unfold gAdd
  split
  · rename_i hc
    refine ⟨?_, h2, h3, fun i a b => ?_, h5, h6⟩
    · show 0 ≤ C 11 1 ∧ C 11 1 ≤ C 11 0 ∧ C 11 0 ≤ T 8 0 ∧ 0 ≤ C 11 2 ∧ C 11 2 ≤ 3 ∧ 0 ≤ C 11 3 ∧ C 11 3 ≤ 2 * (C 11 0 - C 11 1) ∧ 1 ≤ C 11 4 ∧ C 11 4 ≤ 99 + (C 11 0 - C 11 1) ∧ 0 ≤ C 11 5 ∧ C 11 5 ≤ 1 ∧ 0 ≤ C 11 6 + 1 ∧ C 11 6 + 1 ≤ 6 ∧ 0 ≤ C 11 7 ∧ C 11 7 ≤ 5 ∧ (C 11 6 + 1 < 6 → C 11 7 = 0)
      omega
    · have b2 : i < C 11 6 + 1 := b
      show 30 ≤ uI (C 10) (C 11 6) v i ∧ uI (C 10) (C 11 6) v i ≤ 500
      by_cases e : i = C 11 6
      · rw [e, uI_s]; exact hv
      · rw [uI_n _ _ _ e]; exact h4 i a (by omega)
  · rename_i hc
    refine ⟨?_, h2, h3, fun i a b => ?_, h5, h6⟩
    · show 0 ≤ C 11 1 ∧ C 11 1 ≤ C 11 0 ∧ C 11 0 ≤ T 8 0 ∧ 0 ≤ C 11 2 ∧ C 11 2 ≤ 3 ∧ 0 ≤ C 11 3 ∧ C 11 3 ≤ 2 * (C 11 0 - C 11 1) ∧ 1 ≤ C 11 4 ∧ C 11 4 ≤ 99 + (C 11 0 - C 11 1) ∧ 0 ≤ C 11 5 ∧ C 11 5 ≤ 1 ∧ 0 ≤ C 11 6 ∧ C 11 6 ≤ 6 ∧ 0 ≤ (if C 11 7 < 5 then C 11 7 + 1 else 0) ∧ (if C 11 7 < 5 then C 11 7 + 1 else 0) ≤ 5 ∧ (C 11 6 < 6 → (if C 11 7 < 5 then C 11 7 + 1 else 0) = 0)
      split <;> omega
    · have b2 : i < C 11 6 := b
      show 30 ≤ uI (C 10) (C 11 7) v i ∧ uI (C 10) (C 11 7) v i ≤ 500
      by_cases e : i = C 11 7
      · rw [e, uI_s]; exact hv
      · rw [uI_n _ _ _ e]; exact h4 i a (by omega)
/-- scalars anew -/
theorem WC_sc {f : Int → Int} (h : WC T C) (h7 : 0 ≤ f 1 ∧ f 1 ≤ f 0 ∧ f 0 ≤ T 8 0 ∧ 0 ≤ f 2 ∧ f 2 ≤ 3 ∧ C 11 3 ≤ 2 * (f 0 - f 1) ∧ C 11 4 ≤ 99 + (f 0 - f 1) ∧ 0 ≤ f 5 ∧ f 5 ≤ 1) (hm : ∀ p : Int, 0 ≤ p → p < C 11 3 → C 4 p < f 0 - f 1) (e3 : f 3 = C 11 3) (e4 : f 4 = C 11 4) (e6 : f 6 = C 11 6) (e7 : f 7 = C 11 7) : WC T (st C 11 f) := by
  obtain ⟨h1, h2, h3, h4, h5, h6⟩ := h
  refine ⟨?_, h2, h3, fun i a b => ?_, fun p a b => ?_, fun j a b => ?_⟩
  · show 0 ≤ f 1 ∧ f 1 ≤ f 0 ∧ f 0 ≤ T 8 0 ∧ 0 ≤ f 2 ∧ f 2 ≤ 3 ∧ 0 ≤ f 3 ∧ f 3 ≤ 2 * (f 0 - f 1) ∧ 1 ≤ f 4 ∧ f 4 ≤ 99 + (f 0 - f 1) ∧ 0 ≤ f 5 ∧ f 5 ≤ 1 ∧ 0 ≤ f 6 ∧ f 6 ≤ 6 ∧ 0 ≤ f 7 ∧ f 7 ≤ 5 ∧ (f 6 < 6 → f 7 = 0)
    omega
  · have b2 : i < f 6 := b
    exact h4 i a (by omega)
  · have b2 : p < f 3 := b
    have q := h5 p a (by omega)
    have q2 := hm p a (by omega)
    show 0 ≤ C 4 p ∧ C 4 p < f 0 - f 1 ∧ 0 ≤ C 5 p ∧ C 5 p ≤ 1 ∧ 0 ≤ C 6 p ∧ C 6 p < f 4
    omega
  · have b2 : j < f 4 := b
    exact h6 j a (by omega)
theorem WC_thr0 {f n : Int} (h : WC T C) : WC T (thr0 C f n) := WC_ha (WC_9 (WC_fil h ⟨by decide, by decide⟩)) (Or.inl rfl)
theorem WC_goThr {f n : Int} (hT : WT T) (h : WC T C) (h0 : 0 ≤ f) (h1 : f < C 11 0 - C 11 1) (hp : C 11 3 ≤ 2 * f) (hj : C 11 4 ≤ 99 + f) : WC T (goThr T C f n) := by
  have ht := WC_thr0 (f := f) (n := n) h
  have q1 := h.1
  have q2 := hT.2.2 f h0 (by omega)
  unfold goThr
  split
  · refine WC_bj (WC_wh ht ⟨by decide, by decide⟩) (by omega) ?_
    show C 11 4 + 1 ≤ 99 + (C 11 0 - C 11 1)
    omega
  · refine WC_wh (T := T) (C := goPg T (thr0 C f n) f) ?_ (by split <;> omega)
    have a1 : WC T (goP0 T (thr0 C f n) f) ∧ (goP0 T (thr0 C f n) f) 11 3 ≤ C 11 3 + 1 ∧ (goP0 T (thr0 C f n) f) 11 0 = C 11 0 ∧ (goP0 T (thr0 C f n) f) 11 1 = C 11 1 := by
      unfold goP0
      split
      · refine ⟨WC_ad ht ⟨h0, h1⟩ ⟨by decide, by decide⟩ ?_, Int.le_refl _, rfl, rfl⟩
        show C 11 3 + 1 ≤ 2 * (C 11 0 - C 11 1)
        omega
      · refine ⟨ht, ?_, rfl, rfl⟩
        show C 11 3 ≤ C 11 3 + 1
        omega
    obtain ⟨b1, b2, b3, b4⟩ := a1
    unfold goPg
    split
    · exact WC_ad b1 (by omega) ⟨by decide, by decide⟩ (by omega)
    · exact b1
end WCs
