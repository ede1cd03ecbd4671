section SI2
variable {T C : Nat → Int → Int} {g g2 : Int → Int} {t cn ol c2 o2 re m th pg p q us g1 g2v g3 g4 g5 : Int}
theorem agN_1 (h : re = 0) : agN (decide (re = 0 ∧ m = 1)) cn = (if m = 1 then (if cn < 6 then cn + 1 else 6) else cn) ∧ agO (decide (re = 0 ∧ m = 1)) ol = (if m = 1 then ol + 1 else ol) ∧ agG (decide (re = 0 ∧ m = 1)) g ol th = (if m = 1 then uI g (ol % 6) th else g) := by
  by_cases c : m = 1
  · rw [decide_eq_true (show re = 0 ∧ m = 1 from ⟨h, c⟩), if_pos c, if_pos c, if_pos c]
    exact ⟨rfl, rfl, rfl⟩
  · rw [decide_eq_false (show ¬ (re = 0 ∧ m = 1) from fun w => c w.2), if_neg c, if_neg c, if_neg c]
    exact ⟨rfl, rfl, rfl⟩
theorem ag_0 (h : re ≠ 0) : agN (decide (re = 0 ∧ m = 1)) cn = cn ∧ agO (decide (re = 0 ∧ m = 1)) ol = ol ∧ agG (decide (re = 0 ∧ m = 1)) g ol th = g := by
  rw [decide_eq_false (show ¬ (re = 0 ∧ m = 1) from fun w => h w.1)]
  exact ⟨rfl, rfl, rfl⟩
theorem gd_s (hr : ∀ i : Int, 0 ≤ i → i < cn → 30 ≤ g i ∧ g i ≤ 500) (hcn : 0 ≤ cn ∧ cn ≤ 6) (hol : cn < 6 → ol = cn) (hth : m = 1 → 30 ≤ th ∧ th ≤ 500) (hg : g2 = if m = 1 then uI g (ol % 6) th else g) (hc : c2 = if m = 1 then (if cn < 6 then cn + 1 else 6) else cn) : ∀ i : Int, 0 ≤ i → i < c2 → 30 ≤ g2 i ∧ g2 i ≤ 500 := fun i a b => by
  by_cases c : m = 1
  · rw [if_pos c] at hg hc
    have v := hth c
    have hi : i ≠ ol % 6 → i < cn := fun w => by
      split at hc
      · rename_i d
        have z := hol d
        omega
      · omega
    rw [hg]
    by_cases e : i = ol % 6
    · rw [e, uI_s]; exact v
    · rw [uI_n _ _ _ e]; exact hr i a (hi e)
  · rw [if_neg c] at hg hc
    rw [hg]
    exact hr i a (by omega)
/-- a pick that goes through -/
theorem simI_g {f6 f3n : Int} (h : simI T C g t cn ol p f6 (fkV g1 g2v g3 g4 g5)) (ht : t < T 8 0) (hre : reQ T C g t cn p = 0) (hu : 0 < usG g cn (T 8 2)) (hc : c2 = if pk (C 2) (T 8 0) t = 1 then (if cn < 6 then cn + 1 else 6) else cn) (ho : o2 = if pk (C 2) (T 8 0) t = 1 then ol + 1 else ol) (hg : g2 = if pk (C 2) (T 8 0) t = 1 then uI g (ol % 6) (thk T t (pk (C 2) (T 8 0) t)) else g) (h3 : f3n = if pk (C 2) (T 8 0) t = 1 then g3 else g3 + 1) :
    simI T C g2 (t + pk (C 2) (T 8 0) t) c2 o2 p f6 (fkV g1 g2v f3n (g4 + pgs T C t) g5) := by
  have hp := pk_bd (off := C 2) ht
  obtain ⟨a1, a2, a3⟩ := agN_1 (g := g) (cn := cn) (ol := ol) (m := pk (C 2) (T 8 0) t) (th := thk T t (pk (C 2) (T 8 0) t)) hre
  rw [hc, ho, hg, ← a1, ← a2, ← a3]
  refine simI_s h ht (Int.le_refl _) (fun q a b => re_same (f6 := f6) hu a (fun e => absurd (e.symm.trans hre) (by decide))) (fun k a b => ?_)
  unfold stQ fkV
  rw [if_neg (show ¬ reQ T C g t cn p ≠ 0 from fun w => w hre), h3]
  unfold bI
  (repeat' split) <;> omega
/-- a stop -/
theorem simI_f {f6 f6n f1n f2n : Int} (h : simI T C g t cn ol p f6 (fkV g1 g2v g3 g4 g5)) (ht : t < T 8 0) (hre : reQ T C g t cn p ≠ 0) (hu : 0 < usG g cn (T 8 2)) (hth : 0 ≤ thk T t (pk (C 2) (T 8 0) t)) (h1 : f1n = if reQ T C g t cn p = 1 then g1 + 1 else g1) (h2 : f2n = if reQ T C g t cn p = 1 ∧ pk (C 2) (T 8 0) t = 1 then g2v + 1 else g2v) (h6 : f6n = if reQ T C g t cn p = 1 then minZ f6 ((thk T t (pk (C 2) (T 8 0) t) * 100 + usG g cn (T 8 2) - 1).tdiv (usG g cn (T 8 2))) else f6) :
    simI T C g (t + pk (C 2) (T 8 0) t) cn ol p f6n (fkV f1n f2n g3 g4 (g5 + pk (C 2) (T 8 0) t)) ∧ f6n ≤ f6 ∧ (p < f6 → p < f6n) := by
  obtain ⟨a1, a2, a3⟩ := ag_0 (g := g) (cn := cn) (ol := ol) (m := pk (C 2) (T 8 0) t) (th := thk T t (pk (C 2) (T 8 0) t)) hre
  have e1 : reQ T C g t cn p = 1 → p * usG g cn (T 8 2) < thk T t (pk (C 2) (T 8 0) t) * 100 := fun w => by
    unfold reQ rsn at w
    by_cases c : p * usG g cn (T 8 2) < thk T t (pk (C 2) (T 8 0) t) * 100
    · exact c
    · rw [if_neg c] at w
      split at w
      · exact absurd w (by decide)
      · split at w
        · exact absurd w (by decide)
        · exact absurd w (by decide)
  have l6 : f6n ≤ f6 ∧ (reQ T C g t cn p = 1 → f6n ≤ (thk T t (pk (C 2) (T 8 0) t) * 100 + usG g cn (T 8 2) - 1).tdiv (usG g cn (T 8 2))) ∧ (p < f6 → p < f6n) := by
    by_cases c : reQ T C g t cn p = 1
    · rw [if_pos c] at h6
      have z := ce_gt (p := p) hu (a := thk T t (pk (C 2) (T 8 0) t) * 100) (by omega) (e1 c)
      rw [h6]
      unfold minZ
      split <;> omega
    · rw [if_neg c] at h6
      rw [h6]
      exact ⟨Int.le_refl _, fun w => absurd w c, fun w => w⟩
  refine ⟨?_, l6.1, l6.2.2⟩
  have w := simI_s (f6' := f6n) (G := fkV f1n f2n g3 g4 (g5 + pk (C 2) (T 8 0) t)) h ht l6.1 (fun q a b => re_same (f6 := f6n) hu a (fun e => ce_lt hu (by omega) (by have z := l6.2.1 e; omega))) (fun k a b => by
    unfold stQ fkV
    rw [if_pos hre, h1, h2]
    unfold bI
    (repeat' split) <;> omega)
  rw [a1, a2, a3] at w
  exact w
end SI2
