/-! WHAT COULD COME -/
section TRI
variable {T C D0 : Nat → Int → Int} {sa s2 td x y : Int → Int} {k w v0 v1 v2 v3 v4 : Int}
theorem pgs_bd (T C : Nat → Int → Int) (f : Int) : 0 ≤ pgs T C f ∧ pgs T C f ≤ 2 := by
  unfold pgs bI; (repeat' split) <;> omega
theorem goR_bd (T C : Nat → Int → Int) (f : Int) : 0 ≤ goR T C f ∧ goR T C f ≤ 2 := by
  have z := pgs_bd T C f
  unfold goR; split <;> omega
theorem pickR_bd (T C : Nat → Int → Int) : -1 ≤ pickR T C ∧ pickR T C ≤ 2 ∧ (pickR T C = -1 ↔ pkr T C ≠ 0) := by
  have z := goR_bd T C (C 11 0)
  unfold pickR; split <;> omega
/-- the state with another percent, its path cleared -/
def trB (C : Nat → Int → Int) (p : Int) : Nat → Int → Int := if 0 < C 11 2 then rmC (st C 8 (uI (C 8) 0 p)) else st C 8 (uI (C 8) 0 p)
def trN (T C : Nat → Int → Int) : Nat → Int → Int := if pickR T C = -1 then rmC (pickC T C) else pickC T C
def stV (T : Nat → Int → Int) (w : Int) (C : Nat → Int → Int) : Int := if pickR T C = -1 then (if w = 0 then bI (pkr T C = 1) else if w = 1 then bI (pkr T C = 1 ∧ pkn T C = 1) else if w = 4 then pkn T C else 0) else (if w = 2 then bI (1 < pkn T C) else if w = 3 then pickR T C else 0)
def trV (T : Nat → Int → Int) (w : Int) : Nat → (Nat → Int → Int) → Int
  | 0, _ => 0
  | m + 1, C => if C 11 0 < T 8 0 then stV T w C + trV T w m (trN T C) else 0
theorem trV_e {m : Nat} (h : T 8 0 ≤ C 11 0) : trV T w m C = 0 := by
  cases m with
  | zero => rfl
  | succ m => exact if_neg (by omega)
theorem trV_s {m : Nat} (h : C 11 0 < T 8 0) : trV T w (m + 1) C = stV T w C + trV T w m (trN T C) := if_pos h
theorem goThr_top {f n : Int} : goThr T C f n 11 0 = C 11 0 := goThr_11 (by decide) (by decide)
theorem pickC_top : pickC T C 11 0 = C 11 0 + pkn T C := by
  have b : pk2 T C 11 0 = C 11 0 + pkn T C := by
    unfold pk2
    split
    · exact gAdd_110 (pk1 T C) (thk T (C 11 0) (pkn T C))
    · rfl
  unfold pickC
  split
  · exact goThr_top.trans b
  · split <;> rfl
theorem pickC_st (h : pkr T C ≠ 0) : pickC T C 11 2 = pkr T C ∧ pickC T C 11 1 = pkn T C := by
  unfold pickC
  rw [if_neg h]
  split <;> exact ⟨rfl, rfl⟩
theorem pickC_go (h : pkr T C = 0) (h1 : C 11 1 = 0) (h2 : C 11 2 = 0) : pickC T C 11 2 = 0 ∧ pickC T C 11 1 = 0 := by
  have b : pk2 T C 11 2 = C 11 2 ∧ pk2 T C 11 1 = C 11 1 := by
    unfold pk2
    split
    · exact ⟨gAdd_11 (X := pk1 T C) (v := thk T (C 11 0) (pkn T C)) 2 (by decide) (by decide), gAdd_11 (X := pk1 T C) (v := thk T (C 11 0) (pkn T C)) 1 (by decide) (by decide)⟩
    · exact ⟨rfl, rfl⟩
  unfold pickC
  rw [if_pos h, goThr_11 (by decide) (by decide), goThr_11 (by decide) (by decide), b.1, b.2]
  exact ⟨h2, h1⟩
theorem trN_top : trN T C 11 0 = C 11 0 + pkn T C := by
  unfold trN
  split
  · show pickC T C 11 0 = _
    exact pickC_top
  · exact pickC_top
theorem trN_cl (h1 : C 11 1 = 0) (h2 : C 11 2 = 0) : trN T C 11 1 = 0 ∧ trN T C 11 2 = 0 := by
  have z := pickR_bd T C
  unfold trN
  split
  · exact ⟨rfl, rfl⟩
  · have q := pickC_go (T := T) (by omega) h1 h2
    exact ⟨q.2, q.1⟩
theorem stV_bd (hn : 1 ≤ pkn T C) : 0 ≤ stV T w C ∧ stV T w C ≤ 2 * pkn T C := by
  have z := pickR_bd T C
  unfold stV bI
  (repeat' split) <;> omega
/-- what is counted, on the way -/
def TR (T : Nat → Int → Int) (y : Int → Int) (C D0 : Nat → Int → Int) : Prop := ∀ k : Int, 0 ≤ k → k < 5 → 0 ≤ y k ∧ y k ≤ 2 * C 11 0 ∧ ∃ m : Nat, T 8 0 - C 11 0 ≤ m ∧ y k + trV T k m C = trV T k (T 8 0).toNat D0
theorem TR_0 (hy : ∀ k : Int, 0 ≤ k → k < 5 → y k = 0) (h : 0 ≤ D0 11 0) (h8 : 0 ≤ T 8 0) : TR T y D0 D0 := fun k a b => by
  rw [hy k a b]
  exact ⟨by omega, by omega, (T 8 0).toNat, by omega, Int.zero_add _⟩
theorem TR_s {z : Int → Int} (h : TR T y C D0) (hc : C 11 0 < T 8 0) (hn : 1 ≤ pkn T C) (hz : ∀ k : Int, 0 ≤ k → k < 5 → z k = y k + stV T k C) : TR T z (trN T C) D0 := fun k a b => by
  obtain ⟨q1, q2, m, q3, q4⟩ := h k a b
  have s := stV_bd (T := T) (C := C) (w := k) hn
  rw [hz k a b, trN_top]
  have e : m = (m - 1) + 1 := by omega
  rw [e, trV_s hc] at q4
  exact ⟨by omega, by omega, m - 1, by omega, by omega⟩
theorem TR_f (h : TR T y C D0) (hc : C 11 0 < T 8 0) (hn : 1 ≤ pkn T C) (hR : pickR T C = -1) (e0 : v0 = y 0 + bI (pkr T C = 1)) (e1 : v1 = y 1 + bI (pkr T C = 1 ∧ pkn T C = 1)) (e4 : v4 = y 4 + pkn T C) : TR T (uI (uI (uI y 0 v0) 1 v1) 4 v4) (rmC (pickC T C)) D0 := by
  have e : rmC (pickC T C) = trN T C := (if_pos hR).symm
  rw [e]
  refine TR_s h hc hn (fun k a b => ?_)
  unfold stV
  rw [if_pos hR]
  rcases (show k = 0 ∨ k = 1 ∨ k = 2 ∨ k = 3 ∨ k = 4 by omega) with r | r | r | r | r <;> subst r
  · rw [uI_n _ _ _ (by decide), uI_n _ _ _ (by decide), uI_s, if_pos rfl]; exact e0
  · rw [uI_n _ _ _ (by decide), uI_s, if_neg (by decide), if_pos rfl]; exact e1
  · rw [uI_n _ _ _ (by decide), uI_n _ _ _ (by decide), uI_n _ _ _ (by decide), if_neg (by decide), if_neg (by decide), if_neg (by decide), Int.add_zero]
  · rw [uI_n _ _ _ (by decide), uI_n _ _ _ (by decide), uI_n _ _ _ (by decide), if_neg (by decide), if_neg (by decide), if_neg (by decide), Int.add_zero]
  · rw [uI_s, if_neg (by decide), if_neg (by decide), if_pos rfl]; exact e4
theorem TR_g (h : TR T y C D0) (hc : C 11 0 < T 8 0) (hn : 1 ≤ pkn T C) (hR : pickR T C ≠ -1) (e2 : v2 = y 2 + bI (1 < pkn T C)) (e3 : v3 = y 3 + pickR T C) : TR T (uI (uI y 2 v2) 3 v3) (pickC T C) D0 := by
  have e : pickC T C = trN T C := (if_neg hR).symm
  rw [e]
  refine TR_s h hc hn (fun k a b => ?_)
  unfold stV
  rw [if_neg hR]
  rcases (show k = 0 ∨ k = 1 ∨ k = 2 ∨ k = 3 ∨ k = 4 by omega) with r | r | r | r | r <;> subst r
  · rw [uI_n _ _ _ (by decide), uI_n _ _ _ (by decide), if_neg (by decide), if_neg (by decide), Int.add_zero]
  · rw [uI_n _ _ _ (by decide), uI_n _ _ _ (by decide), if_neg (by decide), if_neg (by decide), Int.add_zero]
  · rw [uI_n _ _ _ (by decide), uI_s, if_pos rfl]; exact e2
  · rw [uI_s, if_neg (by decide), if_pos rfl]; exact e3
  · rw [uI_n _ _ _ (by decide), uI_n _ _ _ (by decide), if_neg (by decide), if_neg (by decide), Int.add_zero]
theorem TR_e (h : TR T y C D0) (hc : T 8 0 ≤ C 11 0) (h0 : 0 ≤ k) (h1 : k < 5) : y k = trV T k (T 8 0).toNat D0 := by
  obtain ⟨_, _, m, _, q⟩ := h k h0 h1
  rw [trV_e hc] at q
  omega
/-- the row, the same where it is read -/
theorem RR_eq (hT : WT T) (hW : WC T C) (h : RR sa T C) (e : ∀ i : Int, 0 ≤ i → i < 706 → s2 i = sa i) : RR s2 T C := by
  have q := hW.1
  have qt := hT.1
  obtain ⟨⟨a0, a5, a6, a7, a8, a15, a16⟩, hl, hg, ha, hs, hk, hp, hP, hj⟩ := h
  refine ⟨⟨?_, ?_, ?_, ?_, ?_, ?_, ?_⟩, fun k p q => ?_, fun k p q => ?_, fun k p q => ?_, fun k p q => ?_, fun k p q => ?_, fun k p q => ?_, fun k p q => ?_, fun k p q => ?_⟩
  · rw [e _ (by omega) (by omega)]; exact a0
  · rw [e _ (by omega) (by omega)]; exact a5
  · rw [e _ (by omega) (by omega)]; exact a6
  · rw [e _ (by omega) (by omega)]; exact a7
  · rw [e _ (by omega) (by omega)]; exact a8
  · rw [e _ (by omega) (by omega)]; exact a15
  · rw [e _ (by omega) (by omega)]; exact a16
  · rw [e _ (by omega) (by omega)]; exact hl k p q
  · rw [e _ (by omega) (by omega)]; exact hg k p q
  · rw [e _ (by omega) (by omega)]; exact ha k p q
  · obtain ⟨z1, z2, z3, z4⟩ := hs k p q
    exact ⟨by rw [e _ (by omega) (by omega)]; exact z1, by rw [e _ (by omega) (by omega)]; exact z2, by rw [e _ (by omega) (by omega)]; exact z3, by rw [e _ (by omega) (by omega)]; exact z4⟩
  · rw [e _ (by omega) (by omega)]; exact hk k p q
  · rw [e _ (by omega) (by omega)]; exact hp k p q
  · obtain ⟨z1, z2⟩ := hP k p q
    exact ⟨by rw [e _ (by omega) (by omega)]; exact z1, by rw [e _ (by omega) (by omega)]; exact z2⟩
  · obtain ⟨z1, z2⟩ := hj k p q
    exact ⟨by rw [e _ (by omega) (by omega)]; exact z1, by rw [e _ (by omega) (by omega)]; exact z2⟩
theorem WM_bk {ad : Int → Int} (h : WM td sa T C) : WM td (cpk x 0 (cpk ad 0 sa 0 706) 0 706) T C := by
  refine ⟨h.1, h.2.1, h.2.2.1, RR_eq h.1 h.2.2.1 h.2.2.2 (fun i a b => ?_)⟩
  unfold cpk
  rw [if_pos (by omega), if_pos (by omega)]
  congr 1
  omega
theorem WM_li {p : Int} (h : WM td sa T C) (hp : 101 ≤ p ∧ p ≤ 300) : WM td (uI sa 1 p) T (st C 8 (uI (C 8) 0 p)) :=
  ⟨h.1, h.2.1, WC_li h.2.2.1 ⟨fun _ => hp, fun e => absurd e (by decide), fun e => absurd e (by decide), fun e => absurd e (by decide)⟩, RJ_li 0 p h.2.2.2 (h.2.2.1.hB h.1) (by decide) (by decide)⟩
end TRI
