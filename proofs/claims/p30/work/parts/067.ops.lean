/-! WHAT A PICK DOES, and what can be stays so -/
theorem RJ_cg {sa : Int → Int} {T C C' : Nat → Int → Int} {J : Int → Int} (h : RJ sa T C J) (e0 : C 0 = C' 0) (e1 : C 1 = C' 1) (e2 : C 2 = C' 2) (e3 : C 3 = C' 3) (e4 : C 4 = C' 4) (e5 : C 5 = C' 5) (e6 : C 6 = C' 6) (e7 : C 7 = C' 7) (e8 : C 8 = C' 8) (e9 : C 9 = C' 9) (e10 : C 10 = C' 10) (e11 : C 11 = C' 11) : RJ sa T C' J := by
  unfold RJ at h ⊢
  rw [← e0, ← e1, ← e2, ← e3, ← e4, ← e5, ← e6, ← e7, ← e8, ← e9, ← e10, ← e11]
  exact h
theorem RJ_Jc {sa : Int → Int} {T C : Nat → Int → Int} {J J' : Int → Int} (h : RJ sa T C J) (e : ∀ j : Int, 0 ≤ j → j < C 11 4 → J j = J' j) : RJ sa T C J' := by
  obtain ⟨h0, hl, hg, ha, hs, hk, hp, hP, hj⟩ := h
  exact ⟨h0, hl, hg, ha, hs, hk, hp, hP, fun k p q => ⟨(hj k p q).1, by rw [← e k p q]; exact (hj k p q).2⟩⟩
theorem uI_c {f : Int → Int} {i j a b : Int} (h : i ≠ j) : uI (uI f i a) j b = uI (uI f j b) i a := by
  funext k
  unfold uI
  by_cases e : k = j
  · rw [if_pos e, if_neg (by omega), if_pos e]
  · rw [if_neg e]
    by_cases e2 : k = i
    · rw [if_pos e2, if_pos e2]
    · rw [if_neg e2, if_neg e2, if_neg e]
theorem kI_cg {q r : Int → Prop} [DecidablePred q] [DecidablePred r] {k : Int} (h : ∀ i : Int, 0 ≤ i → i < k → (q i ↔ r i)) : kI q k = kI r k := sI_cg (fun i a b => bI_c (h i a b))
theorem kI_no {q : Int → Prop} [DecidablePred q] {k : Int} (h : ∀ i : Int, 0 ≤ i → i < k → ¬ q i) : kI q k = 0 := by
  have e : kI q k = sI (fun _ => 0) k := sI_cg (fun i a b => bI_f (h i a b))
  rw [e]
  have z : ∀ n : Nat, sN (fun _ => 0) n = 0 := fun n => by
    induction n with
    | zero => rfl
    | succ n ih => rw [sN, ih]; rfl
  exact z _
/-- a page more: sheets that are out -/
theorem shJ_ad {C : Nat → Int → Int} {sh sd j : Int} (h0 : 0 ≤ C 11 3) : shJ (adP C sh sd) j = shJ C j + bI (C 11 4 - 1 = j ∧ (C 11 3 = 0 ∨ sh ≠ C 4 (C 11 3 - 1))) := by
  show kI (fun p => uI (C 6) (C 11 3) (C 11 4 - 1) p = j ∧ (p = 0 ∨ uI (C 4) (C 11 3) sh p ≠ uI (C 4) (C 11 3) sh (p - 1))) (uI (C 11) 3 (C 11 3 + 1) 3) = _
  rw [uI_s, kI_s _ h0]
  congr 1
  · refine kI_cg (fun i a b => ?_)
    rw [uI_n (C 6) _ _ (by omega), uI_n (C 4) _ _ (show i ≠ C 11 3 by omega), uI_n (C 4) _ _ (show i - 1 ≠ C 11 3 by omega)]
  · refine bI_c ?_
    rw [uI_s, uI_s, uI_n (C 4) _ _ (show C 11 3 - 1 ≠ C 11 3 by omega)]
theorem shJ_cg {C C' : Nat → Int → Int} (e4 : C 4 = C' 4) (e6 : C 6 = C' 6) (e3 : C 11 3 = C' 11 3) (j : Int) : shJ C j = shJ C' j := by
  unfold shJ; rw [e4, e6, e3]
theorem shJ_no {C : Nat → Int → Int} {j : Int} (h : ∀ p : Int, 0 ≤ p → p < C 11 3 → C 6 p ≠ j) : shJ C j = 0 := kI_no (fun i a b q => h i a b q.1)
def thr0 (C : Nat → Int → Int) (f n : Int) : Nat → Int → Int := st (acc (st C 0 (fil (C 0) (f + 1) (f + n) 5)) 5 (C 3 f)) 3 (uI (C 3) f 0)
def goP0 (T C : Nat → Int → Int) (f : Int) : Nat → Int → Int := if C 8 3 ≤ T 3 f then adP C f 0 else C
def goPg (T C : Nat → Int → Int) (f : Int) : Nat → Int → Int := if C 11 5 = 1 ∧ C 8 3 ≤ T 4 f then adP (goP0 T C f) f 1 else goP0 T C f
/-- sheets f to f + n - 1 go through -/
def goThr (T C : Nat → Int → Int) (f n : Int) : Nat → Int → Int := if T 5 f ≠ -1 then bgJ (st (thr0 C f n) 0 (uI (thr0 C f n 0) f 4)) (T 5 f) else st (goPg T (thr0 C f n) f) 0 (uI (goPg T (thr0 C f n) f 0) f (if 0 < pgs T C f then 2 else 3))
def goC (T C : Nat → Int → Int) : Nat → Int → Int := goThr T (clr C) (C 11 0 - C 11 1) (C 11 1)
def goR (T C : Nat → Int → Int) (f : Int) : Int := if T 5 f ≠ -1 then 0 else pgs T C f
/-- what a pick is: sheets, thickness, length, reason -/
def pkn (T C : Nat → Int → Int) : Int := pk (C 2) (T 8 0) (C 11 0)
def pkr (T C : Nat → Int → Int) : Int := rsn T C (C 8 0) (usG (C 10) (C 11 6) (T 8 2)) (thk T (C 11 0) (pkn T C)) (lng T (C 2) (C 11 0) (pkn T C)) (C 1 (C 11 0))
def pk1 (T C : Nat → Int → Int) : Nat → Int → Int := s1 (acc C 0 1) 0 (C 11 0 + pkn T C)
def pk2 (T C : Nat → Int → Int) : Nat → Int → Int := if pkn T C = 1 then acc (gAdd (pk1 T C) (thk T (C 11 0) (pkn T C))) 4 1 else pk1 T C
def pk3 (T C : Nat → Int → Int) : Nat → Int → Int := st (acc (s1 (s1 (pk1 T C) 2 (pkr T C)) 1 (pkn T C)) (pkr T C) 1) 0 (fil (C 0) (C 11 0) (C 11 0 + pkn T C) 1)
def pickC (T C : Nat → Int → Int) : Nat → Int → Int := if pkr T C = 0 then goThr T (pk2 T C) (C 11 0) (pkn T C) else if pkr T C = 3 ∧ T 5 (C 11 0) = -1 then st (pk3 T C) 3 (uI (C 3) (C 11 0) 1) else pk3 T C
def pickR (T C : Nat → Int → Int) : Int := if pkr T C = 0 then goR T C (C 11 0) else -1
section WCs
variable {T C : Nat → Int → Int}
theorem WC_9 {f : Int → Int} (h : WC T C) : WC T (st C 9 f) := h
theorem WC_0 {f : Int → Int} (h : WC T C) (hf : ∀ s : Int, 0 ≤ s → s < T 8 0 → 0 ≤ f s ∧ f s ≤ 6) : WC T (st C 0 f) := by
  obtain ⟨h1, h2, h3, h4, h5, h6⟩ := h
  exact ⟨h1, h2, fun s a b => ⟨(hf s a b).1, (hf s a b).2, (h3 s a b).2.2⟩, h4, h5, h6⟩
theorem WC_wh {s v : Int} (h : WC T C) (hv : 0 ≤ v ∧ v ≤ 6) : WC T (st C 0 (uI (C 0) s v)) := WC_0 h (fun i a b => by
  have q := h.2.2.1 i a b
  unfold uI; split <;> omega)
theorem WC_fil {x y v : Int} (h : WC T C) (hv : 0 ≤ v ∧ v ≤ 6) : WC T (st C 0 (fil (C 0) x y v)) := WC_0 h (fun i a b => by
  have q := h.2.2.1 i a b
  unfold fil; split <;> omega)
theorem WC_ha {s v : Int} (h : WC T C) (hv : v = 0 ∨ (v = 1 ∧ T 5 s = -1)) : WC T (st C 3 (uI (C 3) s v)) := by
  obtain ⟨h1, h2, h3, h4, h5, h6⟩ := h
  refine ⟨h1, h2, fun i a b => ?_, h4, h5, h6⟩
  obtain ⟨q1, q2, q3, q4, q5, q6, q7, q8, q9⟩ := h3 i a b
  refine ⟨q1, q2, q3, q4, q5, q6, ?_⟩
  show 0 ≤ uI (C 3) s v i ∧ uI (C 3) s v i ≤ 1 ∧ (uI (C 3) s v i = 1 → T 5 i = -1)
  by_cases e : i = s
  · rw [e, uI_s]; omega
  · rw [uI_n _ _ _ e]; exact ⟨q7, q8, q9⟩
theorem WC_ad {sh sd : Int} (h : WC T C) (hs : 0 ≤ sh ∧ sh < C 11 0 - C 11 1) (hd : 0 ≤ sd ∧ sd ≤ 1) (hp : C 11 3 + 1 ≤ 2 * (C 11 0 - C 11 1)) : WC T (adP C sh sd) := by
  obtain ⟨h1, h2, h3, h4, h5, h6⟩ := h
  refine ⟨?_, h2, h3, h4, fun p a b => ?_, h6⟩
  · show 0 ≤ C 11 1 ∧ C 11 1 ≤ C 11 0 ∧ C 11 0 ≤ T 8 0 ∧ 0 ≤ C 11 2 ∧ C 11 2 ≤ 3 ∧ 0 ≤ C 11 3 + 1 ∧ C 11 3 + 1 ≤ 2 * (C 11 0 - C 11 1) ∧ 1 ≤ C 11 4 ∧ C 11 4 ≤ 99 + (C 11 0 - C 11 1) ∧ 0 ≤ C 11 5 ∧ C 11 5 ≤ 1 ∧ 0 ≤ C 11 6 ∧ C 11 6 ≤ 6 ∧ C 11 6 ≤ C 11 7 ∧ C 11 7 ≤ C 11 0 ∧ (C 11 6 < 6 → C 11 7 = C 11 6) ∧ (0 < C 11 2 ∨ C 11 1 = 0 → C 11 7 ≤ C 11 0 - C 11 1)
    omega
  · have b2 : p < C 11 3 + 1 := b
    show 0 ≤ uI (C 4) (C 11 3) sh p ∧ uI (C 4) (C 11 3) sh p < C 11 0 - C 11 1 ∧ 0 ≤ uI (C 5) (C 11 3) sd p ∧ uI (C 5) (C 11 3) sd p ≤ 1 ∧ 0 ≤ uI (C 6) (C 11 3) (C 11 4 - 1) p ∧ uI (C 6) (C 11 3) (C 11 4 - 1) p < C 11 4
    by_cases e : p = C 11 3
    · rw [e, uI_s, uI_s, uI_s]; omega
    · rw [uI_n _ _ _ e, uI_n _ _ _ e, uI_n _ _ _ e]; exact h5 p a (by omega)
theorem WC_bj {cd : Int} (h : WC T C) (hc : -1 ≤ cd ∧ cd ≤ 999) (hj : C 11 4 + 1 ≤ 99 + (C 11 0 - C 11 1)) : WC T (bgJ C cd) := by
  obtain ⟨h1, h2, h3, h4, h5, h6⟩ := h
  refine ⟨?_, h2, h3, h4, fun p a b => ?_, fun j a b => ?_⟩
  · show 0 ≤ C 11 1 ∧ C 11 1 ≤ C 11 0 ∧ C 11 0 ≤ T 8 0 ∧ 0 ≤ C 11 2 ∧ C 11 2 ≤ 3 ∧ 0 ≤ C 11 3 ∧ C 11 3 ≤ 2 * (C 11 0 - C 11 1) ∧ 1 ≤ C 11 4 + 1 ∧ C 11 4 + 1 ≤ 99 + (C 11 0 - C 11 1) ∧ 0 ≤ C 11 5 ∧ C 11 5 ≤ 1 ∧ 0 ≤ C 11 6 ∧ C 11 6 ≤ 6 ∧ C 11 6 ≤ C 11 7 ∧ C 11 7 ≤ C 11 0 ∧ (C 11 6 < 6 → C 11 7 = C 11 6) ∧ (0 < C 11 2 ∨ C 11 1 = 0 → C 11 7 ≤ C 11 0 - C 11 1)
    omega
  · have q := h5 p a b
    show 0 ≤ C 4 p ∧ C 4 p < C 11 0 - C 11 1 ∧ 0 ≤ C 5 p ∧ C 5 p ≤ 1 ∧ 0 ≤ C 6 p ∧ C 6 p < C 11 4 + 1
    omega
  · have b2 : j < C 11 4 + 1 := b
    show -1 ≤ uI (C 7) (C 11 4) cd j ∧ uI (C 7) (C 11 4) cd j ≤ 999
    by_cases e : j = C 11 4
    · rw [e, uI_s]; exact hc
    · rw [uI_n _ _ _ e]; exact h6 j a (by omega)
theorem WC_gd {v : Int} (h : WC T C) (hv : 30 ≤ v ∧ v ≤ 500) (hr : C 11 7 + 1 ≤ C 11 0 ∧ (0 < C 11 2 ∨ C 11 1 = 0 → C 11 7 + 1 ≤ C 11 0 - C 11 1)) : WC T (gAdd C v) := by
  obtain ⟨h1, h2, h3, h4, h5, h6⟩ := h
  have e6 : (gAdd C v 11 6 = C 11 6 + 1 ∧ C 11 6 < 6) ∨ (gAdd C v 11 6 = 6 ∧ C 11 6 = 6) := by
    by_cases hc : C 11 6 < 6
    · exact Or.inl ⟨gAdd_6 hc, hc⟩
    · exact Or.inr ⟨gAdd_6f (by omega), by omega⟩
  refine ⟨?_, h2, h3, fun i a b => ?_, h5, h6⟩
  · show 0 ≤ C 11 1 ∧ C 11 1 ≤ C 11 0 ∧ C 11 0 ≤ T 8 0 ∧ 0 ≤ C 11 2 ∧ C 11 2 ≤ 3 ∧ 0 ≤ C 11 3 ∧ C 11 3 ≤ 2 * (C 11 0 - C 11 1) ∧ 1 ≤ C 11 4 ∧ C 11 4 ≤ 99 + (C 11 0 - C 11 1) ∧ 0 ≤ C 11 5 ∧ C 11 5 ≤ 1 ∧ 0 ≤ gAdd C v 11 6 ∧ gAdd C v 11 6 ≤ 6 ∧ gAdd C v 11 6 ≤ C 11 7 + 1 ∧ C 11 7 + 1 ≤ C 11 0 ∧ (gAdd C v 11 6 < 6 → C 11 7 + 1 = gAdd C v 11 6) ∧ (0 < C 11 2 ∨ C 11 1 = 0 → C 11 7 + 1 ≤ C 11 0 - C 11 1)
    omega
  · have b2 : i < gAdd C v 11 6 := b
    show 30 ≤ uI (C 10) (C 11 7 % 6) v i ∧ uI (C 10) (C 11 7 % 6) v i ≤ 500
    by_cases e : i = C 11 7 % 6
    · rw [e, uI_s]; exact hv
    · rw [uI_n _ _ _ e]; exact h4 i a (by omega)
/-- scalars anew -/
theorem WC_sc {f : Int → Int} (h : WC T C) (h7 : 0 ≤ f 1 ∧ f 1 ≤ f 0 ∧ f 0 ≤ T 8 0 ∧ 0 ≤ f 2 ∧ f 2 ≤ 3 ∧ C 11 3 ≤ 2 * (f 0 - f 1) ∧ C 11 4 ≤ 99 + (f 0 - f 1) ∧ 0 ≤ f 5 ∧ f 5 ≤ 1 ∧ C 11 7 ≤ f 0 ∧ (0 < f 2 ∨ f 1 = 0 → C 11 7 ≤ f 0 - f 1)) (hm : ∀ p : Int, 0 ≤ p → p < C 11 3 → C 4 p < f 0 - f 1) (e3 : f 3 = C 11 3) (e4 : f 4 = C 11 4) (e6 : f 6 = C 11 6) (e7 : f 7 = C 11 7) : WC T (st C 11 f) := by
  obtain ⟨h1, h2, h3, h4, h5, h6⟩ := h
  refine ⟨?_, h2, h3, fun i a b => ?_, fun p a b => ?_, fun j a b => ?_⟩
  · show 0 ≤ f 1 ∧ f 1 ≤ f 0 ∧ f 0 ≤ T 8 0 ∧ 0 ≤ f 2 ∧ f 2 ≤ 3 ∧ 0 ≤ f 3 ∧ f 3 ≤ 2 * (f 0 - f 1) ∧ 1 ≤ f 4 ∧ f 4 ≤ 99 + (f 0 - f 1) ∧ 0 ≤ f 5 ∧ f 5 ≤ 1 ∧ 0 ≤ f 6 ∧ f 6 ≤ 6 ∧ f 6 ≤ f 7 ∧ f 7 ≤ f 0 ∧ (f 6 < 6 → f 7 = f 6) ∧ (0 < f 2 ∨ f 1 = 0 → f 7 ≤ f 0 - f 1)
    omega
  · have b2 : i < f 6 := b
    exact h4 i a (by omega)
  · have b2 : p < f 3 := b
    have q := h5 p a (by omega)
    have q2 := hm p a (by omega)
    show 0 ≤ C 4 p ∧ C 4 p < f 0 - f 1 ∧ 0 ≤ C 5 p ∧ C 5 p ≤ 1 ∧ 0 ≤ C 6 p ∧ C 6 p < f 4
    omega
  · have b2 : j < f 4 := b
    exact h6 j a (by omega)
theorem WC_thr0 {f n : Int} (h : WC T C) : WC T (thr0 C f n) := WC_ha (WC_9 (WC_fil h ⟨by decide, by decide⟩)) (Or.inl rfl)
theorem WC_goThr {f n : Int} (hT : WT T) (h : WC T C) (h0 : 0 ≤ f) (h1 : f < C 11 0 - C 11 1) (hp : C 11 3 ≤ 2 * f) (hj : C 11 4 ≤ 99 + f) : WC T (goThr T C f n) := by
  have ht := WC_thr0 (f := f) (n := n) h
  have q1 := h.1
  have q2 := hT.2.2 f h0 (by omega)
  unfold goThr
  split
  · refine WC_bj (WC_wh ht ⟨by decide, by decide⟩) (by omega) ?_
    show C 11 4 + 1 ≤ 99 + (C 11 0 - C 11 1)
    omega
  · refine WC_wh (T := T) (C := goPg T (thr0 C f n) f) ?_ (by split <;> omega)
    have a1 : WC T (goP0 T (thr0 C f n) f) ∧ (goP0 T (thr0 C f n) f) 11 3 ≤ C 11 3 + 1 ∧ (goP0 T (thr0 C f n) f) 11 0 = C 11 0 ∧ (goP0 T (thr0 C f n) f) 11 1 = C 11 1 := by
      unfold goP0
      split
      · refine ⟨WC_ad ht ⟨h0, h1⟩ ⟨by decide, by decide⟩ ?_, Int.le_refl _, rfl, rfl⟩
        show C 11 3 + 1 ≤ 2 * (C 11 0 - C 11 1)
        omega
      · refine ⟨ht, ?_, rfl, rfl⟩
        show C 11 3 ≤ C 11 3 + 1
        omega
    obtain ⟨b1, b2, b3, b4⟩ := a1
    unfold goPg
    split
    · exact WC_ad b1 (by omega) ⟨by decide, by decide⟩ (by omega)
    · exact b1
end WCs
theorem uI_id {f : Int → Int} {k v : Int} (h : v = f k) : uI f k v = f := by
  funext j; unfold uI; split
  · rename_i e; rw [e, h]
  · rfl
theorem wfl_s2 (sa : Int → Int) {a b c i v : Int} (hi : i = 26 + 4 * b) (hc : c = b + 1) (h0 : 0 ≤ b) (h1 : b < 40) (h : a ≤ b) : uI (wfl sa a b v) i v = wfl sa a c v := by
  rw [hi, hc]; exact wfl_s sa h0 h1 h
theorem shJ_goThr {T C : Nat → Int → Int} {f n j : Int} (hc : T 5 f = -1) (h0 : 0 ≤ C 11 3) (h4 : ∀ p : Int, 0 ≤ p → p < C 11 3 → C 4 p < f) : shJ (goThr T C f n) j = shJ C j + bI (C 11 4 - 1 = j ∧ 0 < pgs T C f) := by
  unfold goThr
  rw [if_neg (by rw [hc]; decide)]
  show shJ (goPg T (thr0 C f n) f) j = _
  have e0 : shJ (thr0 C f n) j = shJ C j := rfl
  have d1 : C 11 3 = 0 ∨ f ≠ C 4 (C 11 3 - 1) := by
    by_cases e : C 11 3 = 0
    · exact Or.inl e
    · have q := h4 (C 11 3 - 1) (by omega) (by omega)
      exact Or.inr (by omega)
  have e1 : ∀ sd, shJ (adP (thr0 C f n) f sd) j = shJ C j + bI (C 11 4 - 1 = j) := fun sd => by
    rw [shJ_ad (show 0 ≤ (thr0 C f n) 11 3 from h0), e0]
    congr 1
    refine bI_c ⟨fun q => q.1, fun q => ⟨q, d1⟩⟩
  have e2 : shJ (adP (adP (thr0 C f n) f 0) f 1) j = shJ C j + bI (C 11 4 - 1 = j) := by
    have hp : (0 : Int) ≤ (adP (thr0 C f n) f 0) 11 3 := by
      show 0 ≤ uI (C 11) 3 (C 11 3 + 1) 3
      rw [uI_s]; omega
    rw [shJ_ad hp, e1 0]
    have z : bI ((adP (thr0 C f n) f 0) 11 4 - 1 = j ∧ ((adP (thr0 C f n) f 0) 11 3 = 0 ∨ f ≠ (adP (thr0 C f n) f 0) 4 ((adP (thr0 C f n) f 0) 11 3 - 1))) = 0 := by
      refine bI_f (fun q => ?_)
      have a1 : (adP (thr0 C f n) f 0) 11 3 = C 11 3 + 1 := rfl
      have a2 : (adP (thr0 C f n) f 0) 4 (C 11 3 + 1 - 1) = f := by
        show uI (C 4) (C 11 3) f (C 11 3 + 1 - 1) = f
        rw [show C 11 3 + 1 - 1 = C 11 3 by omega, uI_s]
      rw [a1, a2] at q
      rcases q.2 with q2 | q2
      · omega
      · exact q2 rfl
    rw [z]; omega
  have ep : pgs T C f = bI (C 8 3 ≤ T 3 f) + bI (C 11 5 = 1 ∧ C 8 3 ≤ T 4 f) := by unfold pgs; rw [if_neg (by rw [hc]; decide)]
  by_cases c0 : C 8 3 ≤ T 3 f <;> by_cases c1 : C 11 5 = 1 ∧ C 8 3 ≤ T 4 f
  · have x : goPg T (thr0 C f n) f = adP (adP (thr0 C f n) f 0) f 1 := by
      unfold goPg goP0; rw [if_pos (show (thr0 C f n) 11 5 = 1 ∧ (thr0 C f n) 8 3 ≤ T 4 f from c1), if_pos (show (thr0 C f n) 8 3 ≤ T 3 f from c0)]
    rw [x, e2, ep, bI_t c0, bI_t c1]
    exact congrArg _ (bI_c ⟨fun q => ⟨q, by decide⟩, fun q => q.1⟩)
  · have x : goPg T (thr0 C f n) f = adP (thr0 C f n) f 0 := by
      unfold goPg goP0; rw [if_neg (show ¬ ((thr0 C f n) 11 5 = 1 ∧ (thr0 C f n) 8 3 ≤ T 4 f) from c1), if_pos (show (thr0 C f n) 8 3 ≤ T 3 f from c0)]
    rw [x, e1, ep, bI_t c0, bI_f c1]
    exact congrArg _ (bI_c ⟨fun q => ⟨q, by decide⟩, fun q => q.1⟩)
  · have x : goPg T (thr0 C f n) f = adP (thr0 C f n) f 1 := by
      unfold goPg goP0; rw [if_pos (show (thr0 C f n) 11 5 = 1 ∧ (thr0 C f n) 8 3 ≤ T 4 f from c1), if_neg (show ¬ (thr0 C f n) 8 3 ≤ T 3 f from c0)]
    rw [x, e1, ep, bI_f c0, bI_t c1]
    exact congrArg _ (bI_c ⟨fun q => ⟨q, by decide⟩, fun q => q.1⟩)
  · have x : goPg T (thr0 C f n) f = thr0 C f n := by
      unfold goPg goP0; rw [if_neg (show ¬ ((thr0 C f n) 11 5 = 1 ∧ (thr0 C f n) 8 3 ≤ T 4 f) from c1), if_neg (show ¬ (thr0 C f n) 8 3 ≤ T 3 f from c0)]
    rw [x, e0, ep, bI_f c0, bI_f c1, bI_f (by omega)]
    omega
section WCp
variable {T C : Nat → Int → Int} {td sa : Int → Int} {J : Int → Int}
theorem WC.hB (hT : WT T) (h : WC T C) : T 8 0 ≤ 40 ∧ 0 ≤ C 11 0 ∧ C 11 1 ≤ 40 ∧ C 11 3 ≤ 80 ∧ C 11 4 ≤ 140 ∧ C 11 6 ≤ 6 := by
  have q1 := h.1
  have q2 := hT.1
  omega
theorem WM.p0 (h : WM td sa T C) (h1 : 1 ≤ C 11 1) : sa 226 = C 11 0 - C 11 1 := by
  have z := h.pt 0 (by decide) (by omega)
  rw [show (226 : Int) + 0 = 226 by decide] at z
  omega
theorem RJ.s0 (h : RJ sa T C J) : sa 0 = C 11 5 := h.1.1
theorem RJ.s5 (h : RJ sa T C J) : sa 5 = C 11 2 := h.1.2.1
theorem RJ.s6 (h : RJ sa T C J) : sa 6 = T 8 0 - C 11 0 := h.1.2.2.1
theorem RJ.s7 (h : RJ sa T C J) : sa 7 = C 11 1 := h.1.2.2.2.1
theorem RJ.s8 (h : RJ sa T C J) : sa 8 = C 11 6 := h.1.2.2.2.2.1
theorem RJ.s15 (h : RJ sa T C J) : sa 15 = C 11 3 := h.1.2.2.2.2.2.1
theorem RJ.s16 (h : RJ sa T C J) : sa 16 = C 11 4 := h.1.2.2.2.2.2.2
theorem RJ.ac (h : RJ sa T C J) (k : Int) (h0 : 0 ≤ k) (h1 : k < 9) : sa (17 + k) = C 9 k := h.2.2.2.1 k h0 h1
theorem RJ.sh (h : RJ sa T C J) (s : Int) (h0 : 0 ≤ s) (h1 : s < T 8 0) : sa (26 + 4 * s) = C 0 s ∧ sa (26 + 4 * s + 1) = C 1 s ∧ sa (26 + 4 * s + 2) = C 2 s ∧ sa (26 + 4 * s + 3) = C 3 s := h.2.2.2.2.1 s h0 h1
theorem RJ.jo (h : RJ sa T C J) (j : Int) (h0 : 0 ≤ j) (h1 : j < C 11 4) : sa (426 + 2 * j + 1) = J j := (h.2.2.2.2.2.2.2.2 j h0 h1).2
theorem goThr_ext {f n : Int} (hc : T 5 f = -1) : goThr T C f n = st (goPg T (thr0 C f n) f) 0 (uI (goPg T (thr0 C f n) f 0) f (if 0 < pgs T C f then 2 else 3)) := if_neg (by rw [hc]; decide)
end WCp
section CG
variable {sa : Int → Int} {T C : Nat → Int → Int} {J : Int → Int} {v : Int}
theorem RJ_cgn (hJ : RJ sa T C J) (hB : T 8 0 ≤ 40 ∧ 0 ≤ C 11 0 ∧ C 11 1 ≤ 40 ∧ C 11 3 ≤ 80 ∧ C 11 4 ≤ 140 ∧ C 11 6 ≤ 6) (h0 : C 11 6 < 6) (h1 : 0 ≤ C 11 6) (h7 : C 11 7 = C 11 6) : RJ (uI (uI (uI sa 21 (C 9 4 + 1)) (9 + C 11 6) v) 8 (C 11 6 + 1)) T (acc (gAdd C v) 4 1) J := by
  have a := RJ_ac 4 (C 9 4 + 1) hJ hB (by decide) (by decide)
  rw [show (17 : Int) + 4 = 21 by decide] at a
  have q := RJ_gn v a hB h0 h1 h7
  exact RJ_cg q rfl rfl rfl rfl rfl rfl rfl rfl rfl rfl rfl rfl
theorem RJ_cgf (hJ : RJ sa T C J) (hB : T 8 0 ≤ 40 ∧ 0 ≤ C 11 0 ∧ C 11 1 ≤ 40 ∧ C 11 3 ≤ 80 ∧ C 11 4 ≤ 140 ∧ C 11 6 ≤ 6) (h0 : C 11 6 = 6) (h7 : 6 ≤ C 11 7) : RJ (uI (uI (uI (uI (uI (uI (uI (uI (uI sa 21 (C 9 4 + 1)) 9 (sa 10)) 10 (sa 11)) 11 (sa 12)) 12 (sa 13)) 13 (sa 14)) 8 5) 14 v) 8 6) T (acc (gAdd C v) 4 1) J := by
  have a := RJ_ac 4 (C 9 4 + 1) hJ hB (by decide) (by decide)
  rw [show (17 : Int) + 4 = 21 by decide] at a
  have q := RJ_gf v (sa 10) (sa 11) (sa 12) (sa 13) (sa 14) a hB h0 h7 (uI_n _ _ _ (by decide)).symm (uI_n _ _ _ (by decide)).symm (uI_n _ _ _ (by decide)).symm (uI_n _ _ _ (by decide)).symm (uI_n _ _ _ (by decide)).symm
  exact RJ_cg q rfl rfl rfl rfl rfl rfl rfl rfl rfl rfl rfl rfl
end CG
abbrev BB (T C : Nat → Int → Int) : Prop := T 8 0 ≤ 40 ∧ 0 ≤ C 11 0 ∧ C 11 1 ≤ 40 ∧ C 11 3 ≤ 80 ∧ C 11 4 ≤ 140 ∧ C 11 6 ≤ 6
theorem BB_ad {T C : Nat → Int → Int} {sh sd : Int} (h : BB T C) (h1 : C 11 3 + 1 ≤ 80) : BB T (adP C sh sd) := ⟨h.1, h.2.1, h.2.2.1, h1, h.2.2.2.2.1, h.2.2.2.2.2⟩
theorem BB_p0 {T C : Nat → Int → Int} (h : BB T C) : BB T (s1 C 1 0) := ⟨h.1, h.2.1, (by decide : (0 : Int) ≤ 40), h.2.2.2.1, h.2.2.2.2.1, h.2.2.2.2.2⟩
theorem BB_re {T C : Nat → Int → Int} {v : Int} (h : BB T C) : BB T (s1 C 2 v) := ⟨h.1, h.2.1, h.2.2.1, h.2.2.2.1, h.2.2.2.2.1, h.2.2.2.2.2⟩
theorem RJ_a (k i : Int) {v : Int} {sa : Int → Int} {T C : Nat → Int → Int} {J : Int → Int} (h : RJ sa T C J) (hB : BB T C) (h0 : 0 ≤ k) (h1 : k < 9) (hi : i = 17 + k) : RJ (uI sa i v) T (st C 9 (uI (C 9) k v)) J := by
  rw [hi]; exact RJ_ac k v h hB h0 h1
theorem RJ.a (k i : Int) {sa : Int → Int} {T C : Nat → Int → Int} {J : Int → Int} (h : RJ sa T C J) (h0 : 0 ≤ k) (h1 : k < 9) (hi : i = 17 + k) : sa i = C 9 k := by
  rw [hi]; exact h.ac k h0 h1
section GOC
variable {T C : Nat → Int → Int} {td sa s2 : Int → Int} {J : Int → Int}
theorem WC_clr (h : WC T C) : WC T (clr C) := by
  have q := h.1
  have hm : ∀ p : Int, 0 ≤ p → p < C 11 3 → C 4 p < C 11 0 - 0 := fun p a b => by
    have z := h.2.2.2.2.1 p a b
    omega
  have e : clr C = st C 11 (uI (uI (C 11) 1 0) 2 0) := by
    funext i
    by_cases i11 : i = 11
    · subst i11; rfl
    · unfold clr s1 st
      simp only [if_neg i11]
  rw [e]
  exact WC_sc (f := uI (uI (C 11) 1 0) 2 0) h (show 0 ≤ (0 : Int) ∧ 0 ≤ C 11 0 ∧ C 11 0 ≤ T 8 0 ∧ 0 ≤ (0 : Int) ∧ (0 : Int) ≤ 3 ∧ C 11 3 ≤ 2 * (C 11 0 - 0) ∧ C 11 4 ≤ 99 + (C 11 0 - 0) ∧ 0 ≤ C 11 5 ∧ C 11 5 ≤ 1 ∧ C 11 7 ≤ C 11 0 ∧ (0 < (0 : Int) ∨ (0 : Int) = 0 → C 11 7 ≤ C 11 0 - 0) by omega) hm rfl rfl rfl rfl
theorem WC_goC (hT : WT T) (h : WC T C) (h1 : 1 ≤ C 11 1) : WC T (goC T C) := by
  have q := h.1
  exact WC_goThr hT (WC_clr h) (by omega) (show C 11 0 - C 11 1 < C 11 0 - 0 by omega) (show C 11 3 ≤ 2 * (C 11 0 - C 11 1) by omega) (show C 11 4 ≤ 99 + (C 11 0 - C 11 1) by omega)
/-- the state with the hidden told and the path cleared, before its first sheet is told -/
abbrev goB (C : Nat → Int → Int) : Nat → Int → Int := s1 (s1 (st C 0 (fil (C 0) (C 11 0 - C 11 1 + 1) (C 11 0 - C 11 1 + C 11 1) 5)) 1 0) 2 0
theorem goC_code (hT : WT T) (hW : WC T C) (hc : T 5 (C 11 0 - C 11 1) ≠ -1) (h3 : C 3 (C 11 0 - C 11 1) = 0) (h : RJ s2 T (bgJ (st (goB C) 0 (uI (goB C 0) (C 11 0 - C 11 1) 4)) (T 5 (C 11 0 - C 11 1))) (uI (shJ C) (C 11 4) 0)) : RR s2 T (goC T C) := by
  have e : goC T C = bgJ (st (thr0 (clr C) (C 11 0 - C 11 1) (C 11 1)) 0 (uI (thr0 (clr C) (C 11 0 - C 11 1) (C 11 1) 0) (C 11 0 - C 11 1) 4)) (T 5 (C 11 0 - C 11 1)) := if_pos hc
  have q := hW.1
  have h2 : RJ s2 T (goC T C) (uI (shJ C) (C 11 4) 0) := by
    rw [e]
    refine RJ_cg h rfl rfl rfl ?_ rfl rfl rfl rfl rfl ?_ rfl rfl
    · exact (uI_id h3.symm).symm
    · exact (uI_id (show C 9 5 + C 3 (C 11 0 - C 11 1) = C 9 5 by omega)).symm
  refine RJ_Jc h2 (fun j a b => ?_)
  have es : shJ (goC T C) j = shJ C j := by rw [e]; rfl
  rw [es]
  by_cases ej : j = C 11 4
  · rw [ej, uI_s]
    exact (shJ_no (fun p a b => by have z := hW.2.2.2.2.1 p a b; omega)).symm
  · rw [uI_n _ _ _ ej]
theorem goC_fin {X : Nat → Int → Int} {w v : Int} (hT : WT T) (hW : WC T C) (h1 : 1 ≤ C 11 1) (hc : T 5 (C 11 0 - C 11 1) = -1) (eX : goPg T (goB C) (C 11 0 - C 11 1) = X) (hw : w = if 0 < pgs T C (C 11 0 - C 11 1) then 2 else 3) (hv : v = shJ C (C 11 4 - 1) + bI (0 < pgs T C (C 11 0 - C 11 1))) (h : RJ s2 T (st (st (st X 0 (uI (X 0) (C 11 0 - C 11 1) w)) 9 (uI (X 9) 5 (C 9 5 + C 3 (C 11 0 - C 11 1)))) 3 (uI (X 3) (C 11 0 - C 11 1) 0)) (uI (shJ C) (C 11 4 - 1) v)) : RR s2 T (goC T C) := by
  have q := hW.1
  have e : goC T C = st (goPg T (thr0 (clr C) (C 11 0 - C 11 1) (C 11 1)) (C 11 0 - C 11 1)) 0 (uI (goPg T (thr0 (clr C) (C 11 0 - C 11 1) (C 11 1)) (C 11 0 - C 11 1) 0) (C 11 0 - C 11 1) (if 0 < pgs T C (C 11 0 - C 11 1) then 2 else 3)) := by
    have z : goC T C = _ := goThr_ext (C := clr C) (n := C 11 1) hc
    exact z
  subst eX hw hv
  have h2 : RJ s2 T (goC T C) (uI (shJ C) (C 11 4 - 1) (shJ C (C 11 4 - 1) + bI (0 < pgs T C (C 11 0 - C 11 1)))) := by
    rw [e]
    by_cases c0 : C 8 3 ≤ T 3 (C 11 0 - C 11 1) <;> by_cases c1 : C 11 5 = 1 ∧ C 8 3 ≤ T 4 (C 11 0 - C 11 1)
    · have x1 : goPg T (goB C) (C 11 0 - C 11 1) = adP (adP (goB C) (C 11 0 - C 11 1) 0) (C 11 0 - C 11 1) 1 := by
        unfold goPg goP0; rw [if_pos (show (goB C) 11 5 = 1 ∧ (goB C) 8 3 ≤ T 4 (C 11 0 - C 11 1) from c1), if_pos (show (goB C) 8 3 ≤ T 3 (C 11 0 - C 11 1) from c0)]
      have x2 : goPg T (thr0 (clr C) (C 11 0 - C 11 1) (C 11 1)) (C 11 0 - C 11 1) = adP (adP (thr0 (clr C) (C 11 0 - C 11 1) (C 11 1)) (C 11 0 - C 11 1) 0) (C 11 0 - C 11 1) 1 := by
        unfold goPg goP0; rw [if_pos (show (thr0 (clr C) (C 11 0 - C 11 1) (C 11 1)) 11 5 = 1 ∧ (thr0 (clr C) (C 11 0 - C 11 1) (C 11 1)) 8 3 ≤ T 4 (C 11 0 - C 11 1) from c1), if_pos (show (thr0 (clr C) (C 11 0 - C 11 1) (C 11 1)) 8 3 ≤ T 3 (C 11 0 - C 11 1) from c0)]
      rw [x1] at h
      rw [x2]
      exact RJ_cg h rfl rfl rfl rfl rfl rfl rfl rfl rfl rfl rfl rfl
    · have x1 : goPg T (goB C) (C 11 0 - C 11 1) = adP (goB C) (C 11 0 - C 11 1) 0 := by
        unfold goPg goP0; rw [if_neg (show ¬ ((goB C) 11 5 = 1 ∧ (goB C) 8 3 ≤ T 4 (C 11 0 - C 11 1)) from c1), if_pos (show (goB C) 8 3 ≤ T 3 (C 11 0 - C 11 1) from c0)]
      have x2 : goPg T (thr0 (clr C) (C 11 0 - C 11 1) (C 11 1)) (C 11 0 - C 11 1) = adP (thr0 (clr C) (C 11 0 - C 11 1) (C 11 1)) (C 11 0 - C 11 1) 0 := by
        unfold goPg goP0; rw [if_neg (show ¬ ((thr0 (clr C) (C 11 0 - C 11 1) (C 11 1)) 11 5 = 1 ∧ (thr0 (clr C) (C 11 0 - C 11 1) (C 11 1)) 8 3 ≤ T 4 (C 11 0 - C 11 1)) from c1), if_pos (show (thr0 (clr C) (C 11 0 - C 11 1) (C 11 1)) 8 3 ≤ T 3 (C 11 0 - C 11 1) from c0)]
      rw [x1] at h
      rw [x2]
      exact RJ_cg h rfl rfl rfl rfl rfl rfl rfl rfl rfl rfl rfl rfl
    · have x1 : goPg T (goB C) (C 11 0 - C 11 1) = adP (goB C) (C 11 0 - C 11 1) 1 := by
        unfold goPg goP0; rw [if_pos (show (goB C) 11 5 = 1 ∧ (goB C) 8 3 ≤ T 4 (C 11 0 - C 11 1) from c1), if_neg (show ¬ (goB C) 8 3 ≤ T 3 (C 11 0 - C 11 1) from c0)]
      have x2 : goPg T (thr0 (clr C) (C 11 0 - C 11 1) (C 11 1)) (C 11 0 - C 11 1) = adP (thr0 (clr C) (C 11 0 - C 11 1) (C 11 1)) (C 11 0 - C 11 1) 1 := by
        unfold goPg goP0; rw [if_pos (show (thr0 (clr C) (C 11 0 - C 11 1) (C 11 1)) 11 5 = 1 ∧ (thr0 (clr C) (C 11 0 - C 11 1) (C 11 1)) 8 3 ≤ T 4 (C 11 0 - C 11 1) from c1), if_neg (show ¬ (thr0 (clr C) (C 11 0 - C 11 1) (C 11 1)) 8 3 ≤ T 3 (C 11 0 - C 11 1) from c0)]
      rw [x1] at h
      rw [x2]
      exact RJ_cg h rfl rfl rfl rfl rfl rfl rfl rfl rfl rfl rfl rfl
    · have x1 : goPg T (goB C) (C 11 0 - C 11 1) = goB C := by
        unfold goPg goP0; rw [if_neg (show ¬ ((goB C) 11 5 = 1 ∧ (goB C) 8 3 ≤ T 4 (C 11 0 - C 11 1)) from c1), if_neg (show ¬ (goB C) 8 3 ≤ T 3 (C 11 0 - C 11 1) from c0)]
      have x2 : goPg T (thr0 (clr C) (C 11 0 - C 11 1) (C 11 1)) (C 11 0 - C 11 1) = thr0 (clr C) (C 11 0 - C 11 1) (C 11 1) := by
        unfold goPg goP0; rw [if_neg (show ¬ ((thr0 (clr C) (C 11 0 - C 11 1) (C 11 1)) 11 5 = 1 ∧ (thr0 (clr C) (C 11 0 - C 11 1) (C 11 1)) 8 3 ≤ T 4 (C 11 0 - C 11 1)) from c1), if_neg (show ¬ (thr0 (clr C) (C 11 0 - C 11 1) (C 11 1)) 8 3 ≤ T 3 (C 11 0 - C 11 1) from c0)]
      rw [x1] at h
      rw [x2]
      exact RJ_cg h rfl rfl rfl rfl rfl rfl rfl rfl rfl rfl rfl rfl
  refine RJ_Jc h2 (fun j a b => ?_)
  have es : shJ (goC T C) j = shJ (clr C) j + bI ((clr C) 11 4 - 1 = j ∧ 0 < pgs T (clr C) (C 11 0 - C 11 1)) := shJ_goThr (C := clr C) hc (show 0 ≤ C 11 3 by omega) (fun p a b => by
    have z := hW.2.2.2.2.1 p a b
    exact z.2.1)
  rw [es]
  show _ = shJ C j + bI (C 11 4 - 1 = j ∧ 0 < pgs T C (C 11 0 - C 11 1))
  by_cases ej : j = C 11 4 - 1
  · rw [ej, uI_s]
    congr 1
    exact bI_c ⟨fun z => ⟨rfl, z⟩, fun z => z.2⟩
  · rw [uI_n _ _ _ ej, bI_f (fun z => ej z.1.symm)]
    omega
end GOC
section GOB
variable {T C : Nat → Int → Int} {f : Int}
theorem goB_11 (c0 : C 8 3 ≤ T 3 f) (c1 : C 11 5 = 1 ∧ C 8 3 ≤ T 4 f) : goPg T (goB C) f = adP (adP (goB C) f 0) f 1 := by
  unfold goPg goP0; rw [if_pos (show (goB C) 11 5 = 1 ∧ (goB C) 8 3 ≤ T 4 f from c1), if_pos (show (goB C) 8 3 ≤ T 3 f from c0)]
theorem goB_10 (c0 : C 8 3 ≤ T 3 f) (c1 : ¬ (C 11 5 = 1 ∧ C 8 3 ≤ T 4 f)) : goPg T (goB C) f = adP (goB C) f 0 := by
  unfold goPg goP0; rw [if_neg (show ¬ ((goB C) 11 5 = 1 ∧ (goB C) 8 3 ≤ T 4 f) from c1), if_pos (show (goB C) 8 3 ≤ T 3 f from c0)]
theorem goB_01 (c0 : ¬ C 8 3 ≤ T 3 f) (c1 : C 11 5 = 1 ∧ C 8 3 ≤ T 4 f) : goPg T (goB C) f = adP (goB C) f 1 := by
  unfold goPg goP0; rw [if_pos (show (goB C) 11 5 = 1 ∧ (goB C) 8 3 ≤ T 4 f from c1), if_neg (show ¬ (goB C) 8 3 ≤ T 3 f from c0)]
theorem goB_00 (c0 : ¬ C 8 3 ≤ T 3 f) (c1 : ¬ (C 11 5 = 1 ∧ C 8 3 ≤ T 4 f)) : goPg T (goB C) f = goB C := by
  unfold goPg goP0; rw [if_neg (show ¬ ((goB C) 11 5 = 1 ∧ (goB C) 8 3 ≤ T 4 f) from c1), if_neg (show ¬ (goB C) 8 3 ≤ T 3 f from c0)]
theorem RJ.l3 {sa : Int → Int} {J : Int → Int} (h : RJ sa T C J) : sa 4 = C 8 3 := h.2.1 3 (by decide) (by decide)
theorem RJ.l0 {sa : Int → Int} {J : Int → Int} (h : RJ sa T C J) : sa 1 = C 8 0 := h.2.1 0 (by decide) (by decide)
end GOB
/-! sheets that are picked go from the stack to the path -/
def mvS (sa : Int → Int) (nn t k : Int) : Int → Int := fun j => if j = 6 then nn - t - k else if 226 ≤ j ∧ j < 226 + k then t + (j - 226) else wfl sa t (t + k) 1 j
theorem mvS_s (sa : Int → Int) {nn t k i6 v6 ip vp iw : Int} (h0 : 0 ≤ k) (h1 : k < 40) (h2 : 0 ≤ t) (h3 : t + k < 40) (e6 : i6 = 6) (ev : v6 = nn - t - k - 1) (ep : ip = 226 + k) (evp : vp = t + k) (ew : iw = 26 + 4 * (t + k)) : uI (uI (uI (mvS sa nn t k) i6 v6) ip vp) iw 1 = mvS sa nn t (k + 1) := by
  subst e6 ev ep evp ew
  funext j
  unfold uI mvS
  by_cases a : j = 26 + 4 * (t + k)
  · rw [if_pos a, if_neg (by omega), if_neg (by omega)]
    unfold wfl
    rw [if_pos (by omega)]
  · rw [if_neg a]
    by_cases b : j = 226 + k
    · rw [if_pos b, if_neg (by omega), if_pos (by omega)]
      omega
    · rw [if_neg b]
      by_cases c : j = 6
      · rw [if_pos c, if_pos c]; omega
      · rw [if_neg c, if_neg c, if_neg c]
        by_cases d : 226 ≤ j ∧ j < 226 + k
        · rw [if_pos d, if_pos (by omega)]
        · rw [if_neg d, if_neg (by omega)]
          have z := congrFun (wfl_s sa (a := t) (b := t + k) (v := 1) (by omega) h3 (by omega)) j
          rw [show t + (k + 1) = t + k + 1 by omega, ← z, uI_n _ _ _ a]
theorem mvS_0 (sa : Int → Int) {nn t : Int} (h : sa 6 = nn - t) : mvS sa nn t 0 = sa := by
  funext j
  unfold mvS
  by_cases c : j = 6
  · rw [if_pos c, c, h]; omega
  · rw [if_neg c, if_neg (by omega), wfl_0 sa (by omega)]
theorem mvS_6 (sa : Int → Int) (nn t k : Int) : mvS sa nn t k 6 = nn - t - k := if_pos rfl
theorem mvS_n (sa : Int → Int) {nn t k j : Int} (h : 186 ≤ j ∧ (j < 226 ∨ 226 + k ≤ j)) : mvS sa nn t k j = sa j := by
  unfold mvS
  rw [if_neg (by omega), if_neg (by omega), wfl_n sa (by omega)]
/-- .. and what it means -/
def pkA (T C : Nat → Int → Int) : Nat → Int → Int := st (s1 (s1 (acc C 0 1) 0 (C 11 0 + pkn T C)) 1 (pkn T C)) 0 (fil (C 0) (C 11 0) (C 11 0 + pkn T C) 1)
section PKA
variable {sa : Int → Int} {T C : Nat → Int → Int} {J : Int → Int}
theorem RJ_mv (h : RJ sa T C J) (hB : BB T C) (n : Int) (h1 : C 11 1 = 0) (h0 : 0 ≤ n) (hn : C 11 0 + n ≤ T 8 0) : RJ (uI (mvS sa (T 8 0) (C 11 0) n) 7 n) T (st (s1 (s1 C 0 (C 11 0 + n)) 1 n) 0 (fil (C 0) (C 11 0) (C 11 0 + n) 1)) J := by
  obtain ⟨⟨a0, a5, a6, a7, a8, a15, a16⟩, hl, hg, ha, hs, hk, hp, hP, hj⟩ := h
  have K : ∀ j : Int, j ≠ 7 → j ≠ 6 → (j < 226 ∨ 226 + n ≤ j) → (j < 26 ∨ 186 ≤ j ∨ (j - 26) % 4 ≠ 0) → uI (mvS sa (T 8 0) (C 11 0) n) 7 n j = sa j := fun j e7 e6 e e2 => by
    rw [uI_n _ _ _ e7]; unfold mvS; rw [if_neg e6, if_neg (by omega), wfl_n sa (by omega)]
  refine ⟨⟨?_, ?_, ?_, ?_, ?_, ?_, ?_⟩, fun k p q => ?_, fun k p q => ?_, fun k p q => ?_, fun k p q => ?_, fun k p q => ?_, fun k p q => ?_, fun k p q => ?_, fun k p q => ?_⟩
  · rw [K _ (by omega) (by omega) (by omega) (by omega)]; exact a0
  · rw [K _ (by omega) (by omega) (by omega) (by omega)]; exact a5
  · rw [uI_n _ _ _ (by omega), mvS_6]
    show T 8 0 - C 11 0 - n = T 8 0 - (C 11 0 + n)
    omega
  · exact uI_s _ _ _
  · rw [K _ (by omega) (by omega) (by omega) (by omega)]; exact a8
  · rw [K _ (by omega) (by omega) (by omega) (by omega)]; exact a15
  · rw [K _ (by omega) (by omega) (by omega) (by omega)]; exact a16
  · rw [K _ (by omega) (by omega) (by omega) (by omega)]; exact hl k p q
  · have q1 : k < C 11 6 := q
    rw [K _ (by omega) (by omega) (by omega) (by omega)]; exact hg k p q
  · rw [K _ (by omega) (by omega) (by omega) (by omega)]; exact ha k p q
  · obtain ⟨z1, z2, z3, z4⟩ := hs k p q
    refine ⟨?_, by rw [K _ (by omega) (by omega) (by omega) (by omega)]; exact z2, by rw [K _ (by omega) (by omega) (by omega) (by omega)]; exact z3, by rw [K _ (by omega) (by omega) (by omega) (by omega)]; exact z4⟩
    show _ = fil (C 0) (C 11 0) (C 11 0 + n) 1 k
    rw [uI_n _ _ _ (by omega)]
    unfold mvS
    rw [if_neg (by omega), if_neg (by omega)]
    by_cases e : C 11 0 ≤ k ∧ k < C 11 0 + n
    · rw [fil_in e.1 e.2]; unfold wfl; rw [if_pos (by omega)]
    · rw [fil_out e, wfl_n sa (by omega)]; exact z1
  · have q1 : k < T 8 0 - (C 11 0 + n) := q
    rw [K _ (by omega) (by omega) (by omega) (by omega)]
    exact hk k p (by omega)
  · have q1 : k < n := q
    show _ = C 11 0 + n - n + k
    rw [uI_n _ _ _ (by omega)]
    unfold mvS
    rw [if_neg (by omega), if_pos (by omega)]
    omega
  · have q1 : k < C 11 3 := q
    obtain ⟨z1, z2⟩ := hP k p q
    exact ⟨by rw [K _ (by omega) (by omega) (by omega) (by omega)]; exact z1, by rw [K _ (by omega) (by omega) (by omega) (by omega)]; exact z2⟩
  · have q1 : k < C 11 4 := q
    obtain ⟨z1, z2⟩ := hj k p q
    exact ⟨by rw [K _ (by omega) (by omega) (by omega) (by omega)]; exact z1, by rw [K _ (by omega) (by omega) (by omega) (by omega)]; exact z2⟩
theorem WC_pkA (h : WC T C) (h1 : C 11 1 = 0) (hn : 1 ≤ pkn T C ∧ C 11 0 + pkn T C ≤ T 8 0) : WC T (pkA T C) := by
  have q := h.1
  have hm : ∀ p : Int, 0 ≤ p → p < C 11 3 → C 4 p < C 11 0 + pkn T C - pkn T C := fun p a b => by
    have z := h.2.2.2.2.1 p a b
    omega
  have z : WC T (st C 11 (uI (uI (C 11) 0 (C 11 0 + pkn T C)) 1 (pkn T C))) := WC_sc (f := uI (uI (C 11) 0 (C 11 0 + pkn T C)) 1 (pkn T C)) h (show 0 ≤ pkn T C ∧ pkn T C ≤ C 11 0 + pkn T C ∧ C 11 0 + pkn T C ≤ T 8 0 ∧ 0 ≤ C 11 2 ∧ C 11 2 ≤ 3 ∧ C 11 3 ≤ 2 * (C 11 0 + pkn T C - pkn T C) ∧ C 11 4 ≤ 99 + (C 11 0 + pkn T C - pkn T C) ∧ 0 ≤ C 11 5 ∧ C 11 5 ≤ 1 ∧ C 11 7 ≤ C 11 0 + pkn T C ∧ (0 < C 11 2 ∨ pkn T C = 0 → C 11 7 ≤ C 11 0 + pkn T C - pkn T C) by omega) hm rfl rfl rfl rfl
  exact WC_fil (C := st C 11 (uI (uI (C 11) 0 (C 11 0 + pkn T C)) 1 (pkn T C))) z ⟨by decide, by decide⟩
/-- where the picked were told to lie counts no more once they went through -/
theorem goThr_0 {f n : Int} {g : Int → Int} (hn : 1 ≤ n) (h : ∀ j : Int, ¬ (f ≤ j ∧ j < f + n) → g j = C 0 j) : goThr T (st C 0 g) f n = goThr T C f n := by
  have k : ∀ v : Int, uI (fil g (f + 1) (f + n) 5) f v = uI (fil (C 0) (f + 1) (f + n) 5) f v := fun v => by
    funext j
    unfold uI fil
    by_cases e : j = f
    · rw [if_pos e, if_pos e]
    · rw [if_neg e, if_neg e]
      by_cases e2 : f + 1 ≤ j ∧ j < f + n
      · rw [if_pos e2, if_pos e2]
      · rw [if_neg e2, if_neg e2]; exact h j (by omega)
  have e1 : ∀ v : Int, st (thr0 (st C 0 g) f n) 0 (uI (thr0 (st C 0 g) f n 0) f v) = st (thr0 C f n) 0 (uI (thr0 C f n 0) f v) := fun v => by
    funext i
    by_cases i0 : i = 0
    · subst i0
      exact k v
    · show (if i = 0 then _ else thr0 (st C 0 g) f n i) = (if i = 0 then _ else thr0 C f n i)
      rw [if_neg i0, if_neg i0]
      unfold thr0 st
      by_cases i3 : i = 3
      · subst i3; rfl
      · by_cases i9 : i = 9
        · subst i9; rfl
        · unfold acc st; simp only [if_neg i3, if_neg i9, if_neg i0]
  have ep : pgs T (st C 0 g) f = pgs T C f := rfl
  have a1 : ∀ (X Y : Nat → Int → Int) (sd v : Int), st X 0 (uI (X 0) f v) = st Y 0 (uI (Y 0) f v) → st (adP X f sd) 0 (uI (adP X f sd 0) f v) = st (adP Y f sd) 0 (uI (adP Y f sd 0) f v) := fun X Y sd v e => by
    have c : ∀ i : Nat, i ≠ 0 → X i = Y i := fun i hi => by
      have z := congrFun e i
      unfold st at z
      rwa [if_neg hi, if_neg hi] at z
    have c0 : uI (X 0) f v = uI (Y 0) f v := congrFun e 0
    funext i
    by_cases i0 : i = 0
    · subst i0; exact c0
    · show (if i = 0 then _ else adP X f sd i) = (if i = 0 then _ else adP Y f sd i)
      rw [if_neg i0, if_neg i0]
      unfold adP s1 st
      rw [c 4 (by decide), c 5 (by decide), c 6 (by decide), c 11 (by decide), c i i0]
  unfold goThr
  by_cases hc : T 5 f ≠ -1
  · rw [if_pos hc, if_pos hc, e1 4]
  · rw [if_neg hc, if_neg hc, ep]
    unfold goPg goP0
    have c1 : ((thr0 (st C 0 g) f n) 11 5 = 1 ∧ (thr0 (st C 0 g) f n) 8 3 ≤ T 4 f) = ((thr0 C f n) 11 5 = 1 ∧ (thr0 C f n) 8 3 ≤ T 4 f) := rfl
    have c2 : ((thr0 (st C 0 g) f n) 8 3 ≤ T 3 f) = ((thr0 C f n) 8 3 ≤ T 3 f) := rfl
    by_cases b1 : (thr0 C f n) 11 5 = 1 ∧ (thr0 C f n) 8 3 ≤ T 4 f <;> by_cases b2 : (thr0 C f n) 8 3 ≤ T 3 f
    · rw [if_pos (c1 ▸ b1), if_pos b1, if_pos (c2 ▸ b2), if_pos b2]
      exact a1 _ _ 1 _ (a1 _ _ 0 _ (e1 _))
    · rw [if_pos (c1 ▸ b1), if_pos b1, if_neg (c2 ▸ b2), if_neg b2]
      exact a1 _ _ 1 _ (e1 _)
    · rw [if_neg (c1 ▸ b1), if_neg b1, if_pos (c2 ▸ b2), if_pos b2]
      exact a1 _ _ 0 _ (e1 _)
    · rw [if_neg (c1 ▸ b1), if_neg b1, if_neg (c2 ▸ b2), if_neg b2]
      exact e1 _
end PKA
theorem uI_uI (f : Int → Int) (i a b : Int) : uI (uI f i a) i b = uI f i b := by
  funext j; unfold uI; split
  · rfl
  · rfl
section PKB
variable {sa td s2 : Int → Int} {T C : Nat → Int → Int} {J : Int → Int}
theorem clr_pkA (h1 : C 11 1 = 0) (h2 : C 11 2 = 0) : clr (pkA T C) = st (pk1 T C) 0 (fil (C 0) (C 11 0) (C 11 0 + pkn T C) 1) := by
  have e11 : uI (uI (uI (uI (C 11) 0 (C 11 0 + pkn T C)) 1 (pkn T C)) 1 0) 2 0 = uI (C 11) 0 (C 11 0 + pkn T C) := by
    rw [uI_uI, uI_id (f := uI (C 11) 0 (C 11 0 + pkn T C)) (show (0 : Int) = C 11 1 from h1.symm), uI_id (f := uI (C 11) 0 (C 11 0 + pkn T C)) (show (0 : Int) = C 11 2 from h2.symm)]
  funext i
  by_cases i11 : i = 11
  · subst i11; exact e11
  · by_cases i0 : i = 0
    · subst i0; rfl
    · unfold clr pkA pk1 s1 acc st
      simp only [if_neg i11, if_neg i0]
theorem clr_pkG {v : Int} (h1 : C 11 1 = 0) (h2 : C 11 2 = 0) : clr (acc (gAdd (pkA T C) v) 4 1) = st (acc (gAdd (pk1 T C) v) 4 1) 0 (fil (C 0) (C 11 0) (C 11 0 + pkn T C) 1) := by
  have e11 : ∀ a b : Int, uI (uI (uI (uI (uI (uI (C 11) 0 (C 11 0 + pkn T C)) 1 (pkn T C)) 6 a) 7 b) 1 0) 2 0 = uI (uI (uI (C 11) 0 (C 11 0 + pkn T C)) 6 a) 7 b := fun a b => by
    have e1 : uI (uI (uI (C 11) 0 (C 11 0 + pkn T C)) 6 a) 7 b 1 = 0 :=by rw [uI_n _ _ _ (by decide), uI_n _ _ _ (by decide), uI_n _ _ _ (by decide)]; exact h1
    have e2 : uI (uI (uI (C 11) 0 (C 11 0 + pkn T C)) 6 a) 7 b 2 = 0 :=by rw [uI_n _ _ _ (by decide), uI_n _ _ _ (by decide), uI_n _ _ _ (by decide)]; exact h2
    rw [uI_c (show (7 : Int) ≠ 1 by decide), uI_c (show (6 : Int) ≠ 1 by decide), uI_uI, ← uI_c (show (6 : Int) ≠ 1 by decide), ← uI_c (show (7 : Int) ≠ 1 by decide), uI_id e1.symm, uI_id e2.symm]
  funext i
  by_cases i11 : i = 11
  · subst i11; exact e11 _ _
  · by_cases i0 : i = 0
    · subst i0; rfl
    · by_cases i9 : i = 9
      · subst i9; rfl
      · by_cases i10 : i = 10
        · subst i10; rfl
        · unfold clr gAdd pkA pk1 s1 acc st
          simp only [if_neg i11, if_neg i0, if_neg i9, if_neg i10]
theorem goC_pkA (h1 : C 11 1 = 0) (h2 : C 11 2 = 0) (hn : 1 ≤ pkn T C) : goC T (pkA T C) = goThr T (pk1 T C) (C 11 0) (pkn T C) := by
  show goThr T (clr (pkA T C)) (C 11 0 + pkn T C - pkn T C) (pkn T C) = _
  rw [show C 11 0 + pkn T C - pkn T C = C 11 0 by omega, clr_pkA h1 h2]
  exact goThr_0 hn (fun j hj => fil_out hj)
theorem gAdd_0 (X : Nat → Int → Int) (v : Int) : gAdd X v 0 = X 0 := rfl
theorem gAdd_110 (X : Nat → Int → Int) (v : Int) : gAdd X v 11 0 = X 11 0 := rfl
theorem gAdd_113 (X : Nat → Int → Int) (v : Int) : gAdd X v 11 3 = X 11 3 := rfl
theorem gAdd_114 (X : Nat → Int → Int) (v : Int) : gAdd X v 11 4 = X 11 4 := rfl
theorem gAdd_111 (X : Nat → Int → Int) (v : Int) : gAdd X v 11 1 = X 11 1 := rfl
theorem goC_pkG {v : Int} (h1 : C 11 1 = 0) (h2 : C 11 2 = 0) (hn : 1 ≤ pkn T C) : goC T (acc (gAdd (pkA T C) v) 4 1) = goThr T (acc (gAdd (pk1 T C) v) 4 1) (C 11 0) (pkn T C) := by
  have a0 : (acc (gAdd (pkA T C) v) 4 1) 11 0 = C 11 0 + pkn T C := gAdd_110 (pkA T C) v
  have a1 : (acc (gAdd (pkA T C) v) 4 1) 11 1 = pkn T C := gAdd_111 (pkA T C) v
  unfold goC
  rw [a0, a1, show C 11 0 + pkn T C - pkn T C = C 11 0 by omega, clr_pkG h1 h2]
  refine goThr_0 hn (fun j hj => ?_)
  have z : (acc (gAdd (pk1 T C) v) 4 1) 0 = C 0 := gAdd_0 (pk1 T C) v
  rw [z]
  exact fil_out hj
theorem pickC_th (hr : pkr T C = 0) : pickC T C = goThr T (pk2 T C) (C 11 0) (pkn T C) := if_pos hr
theorem pk2_1 (h : pkn T C = 1) : pk2 T C = acc (gAdd (pk1 T C) (thk T (C 11 0) (pkn T C))) 4 1 := if_pos h
theorem pk2_n (h : pkn T C ≠ 1) : pk2 T C = pk1 T C := if_neg h
theorem pickC_passN (h1 : C 11 1 = 0) (h2 : C 11 2 = 0) (hn : 1 ≤ pkn T C) (hr : pkr T C = 0) (h : pkn T C ≠ 1) : goC T (pkA T C) = pickC T C := by rw [pickC_th hr, pk2_n h, goC_pkA h1 h2 hn]
theorem pickC_pass1 (h1 : C 11 1 = 0) (h2 : C 11 2 = 0) (hn : 1 ≤ pkn T C) (hr : pkr T C = 0) (h : pkn T C = 1) : goC T (acc (gAdd (pkA T C) (thk T (C 11 0) (pkn T C))) 4 1) = pickC T C := by rw [pickC_th hr, pk2_1 h, goC_pkG h1 h2 hn]
theorem WC_pk1 (h : WC T C) (h1 : C 11 1 = 0) (hn : 1 ≤ pkn T C ∧ C 11 0 + pkn T C ≤ T 8 0) : WC T (pk1 T C) := by
  have q := h.1
  have hm : ∀ p : Int, 0 ≤ p → p < C 11 3 → C 4 p < C 11 0 + pkn T C - C 11 1 := fun p a b => by
    have z := h.2.2.2.2.1 p a b
    omega
  exact WC_sc (f := uI (C 11) 0 (C 11 0 + pkn T C)) h (show 0 ≤ C 11 1 ∧ C 11 1 ≤ C 11 0 + pkn T C ∧ C 11 0 + pkn T C ≤ T 8 0 ∧ 0 ≤ C 11 2 ∧ C 11 2 ≤ 3 ∧ C 11 3 ≤ 2 * (C 11 0 + pkn T C - C 11 1) ∧ C 11 4 ≤ 99 + (C 11 0 + pkn T C - C 11 1) ∧ 0 ≤ C 11 5 ∧ C 11 5 ≤ 1 ∧ C 11 7 ≤ C 11 0 + pkn T C ∧ (0 < C 11 2 ∨ C 11 1 = 0 → C 11 7 ≤ C 11 0 + pkn T C - C 11 1) by omega) hm rfl rfl rfl rfl
theorem pkr_bd (T C : Nat → Int → Int) : 0 ≤ pkr T C ∧ pkr T C ≤ 3 := rsn_bd _ _ _ _ _ _ _
theorem WC_pk3 (h : WC T C) (h1 : C 11 1 = 0) (hn : 1 ≤ pkn T C ∧ C 11 0 + pkn T C ≤ T 8 0) : WC T (pk3 T C) := by
  have q := h.1
  have qr := pkr_bd T C
  have hm : ∀ p : Int, 0 ≤ p → p < C 11 3 → C 4 p < C 11 0 + pkn T C - pkn T C := fun p a b => by
    have z := h.2.2.2.2.1 p a b
    omega
  have z : WC T (st C 11 (uI (uI (uI (C 11) 0 (C 11 0 + pkn T C)) 2 (pkr T C)) 1 (pkn T C))) := WC_sc (f := uI (uI (uI (C 11) 0 (C 11 0 + pkn T C)) 2 (pkr T C)) 1 (pkn T C)) h (show 0 ≤ pkn T C ∧ pkn T C ≤ C 11 0 + pkn T C ∧ C 11 0 + pkn T C ≤ T 8 0 ∧ 0 ≤ pkr T C ∧ pkr T C ≤ 3 ∧ C 11 3 ≤ 2 * (C 11 0 + pkn T C - pkn T C) ∧ C 11 4 ≤ 99 + (C 11 0 + pkn T C - pkn T C) ∧ 0 ≤ C 11 5 ∧ C 11 5 ≤ 1 ∧ C 11 7 ≤ C 11 0 + pkn T C ∧ (0 < pkr T C ∨ pkn T C = 0 → C 11 7 ≤ C 11 0 + pkn T C - pkn T C) by omega) hm rfl rfl rfl rfl
  exact WC_fil (C := st C 11 (uI (uI (uI (C 11) 0 (C 11 0 + pkn T C)) 2 (pkr T C)) 1 (pkn T C))) z ⟨by decide, by decide⟩
theorem WC_pickC (hT : WT T) (h : WC T C) (h1 : C 11 1 = 0) (h0 : C 11 0 < T 8 0) : WC T (pickC T C) := by
  have q := h.1
  have hp := pk_is (C 2) h0
  have hn : 1 ≤ pkn T C ∧ C 11 0 + pkn T C ≤ T 8 0 := ⟨hp.1, hp.2.1⟩
  have w1 := WC_pk1 h h1 hn
  have w2 : WC T (pk2 T C) ∧ pk2 T C 11 0 = C 11 0 + pkn T C ∧ pk2 T C 11 1 = C 11 1 ∧ pk2 T C 11 3 = C 11 3 ∧ pk2 T C 11 4 = C 11 4 := by
    by_cases e : pkn T C = 1
    · rw [pk2_1 e]
      have qt := hT.2.2 (C 11 0) (by omega) h0
      have et : thk T (C 11 0) (pkn T C) = T 1 (C 11 0) := by
        rw [e]
        show 0 + T 1 (C 11 0 + 0) = _
        rw [Int.add_zero, Int.zero_add]
      refine ⟨WC_9 (WC_gd w1 (by rw [et]; omega) (show C 11 7 + 1 ≤ C 11 0 + pkn T C ∧ (0 < C 11 2 ∨ C 11 1 = 0 → C 11 7 + 1 ≤ C 11 0 + pkn T C - C 11 1) by omega)), gAdd_110 (pk1 T C) (thk T (C 11 0) (pkn T C)), gAdd_111 (pk1 T C) (thk T (C 11 0) (pkn T C)), gAdd_113 (pk1 T C) (thk T (C 11 0) (pkn T C)), gAdd_114 (pk1 T C) (thk T (C 11 0) (pkn T C))⟩
    · rw [pk2_n e]
      exact ⟨w1, rfl, rfl, rfl, rfl⟩
  obtain ⟨w2, b0, b1, b3, b4⟩ := w2
  unfold pickC
  split
  · exact WC_goThr hT w2 (by omega) (by omega) (by omega) (by omega)
  · split
    · rename_i c
      exact WC_ha (WC_pk3 h h1 hn) (Or.inr ⟨rfl, c.2⟩)
    · exact WC_pk3 h h1 hn
/-- stopped: the same state, its numbers written in another order -/
theorem pk3_RJ (h : RJ s2 T (st (s1 (st (s1 (s1 (acc C 0 1) 0 (C 11 0 + pkn T C)) 1 (pkn T C)) 0 (fil (C 0) (C 11 0) (C 11 0 + pkn T C) 1)) 2 (pkr T C)) 9 (uI (uI (C 9) 0 (C 9 0 + 1)) (pkr T C) ((uI (C 9) 0 (C 9 0 + 1)) (pkr T C) + 1))) J) : RJ s2 T (pk3 T C) J := by
  refine RJ_cg h rfl rfl rfl rfl rfl rfl rfl rfl rfl rfl rfl ?_
  exact uI_c (by decide)
end PKB
