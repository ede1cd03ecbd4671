/-! WHAT COULD COME, told ahead: the reference's run and the class's side by side -/
section SIM
variable {T C D : Nat → Int → Int} {g : Int → Int} {t cn ol q p : Int}
theorem adP_r {sh sd : Int} {i : Nat} (h : i = 1 ∨ i = 2 ∨ i = 8 ∨ i = 10) : adP C sh sd i = C i := by rcases h with rfl | rfl | rfl | rfl <;> rfl
theorem goThr_r {f n : Int} {i : Nat} (h : i = 1 ∨ i = 2 ∨ i = 8 ∨ i = 10) : goThr T C f n i = C i := by
  have t0 : thr0 C f n i = C i := by rcases h with rfl | rfl | rfl | rfl <;> rfl
  have g0 : goP0 T (thr0 C f n) f i = C i := by
    unfold goP0
    split
    · rw [adP_r h]; exact t0
    · exact t0
  have g1 : goPg T (thr0 C f n) f i = C i := by
    unfold goPg
    split
    · rw [adP_r h]; exact g0
    · exact g0
  unfold goThr
  split
  · rcases h with rfl | rfl | rfl | rfl <;> exact t0
  · rcases h with rfl | rfl | rfl | rfl <;> exact g1
theorem gAdd_r {v : Int} {i : Nat} (h : i = 1 ∨ i = 2 ∨ i = 8) : gAdd C v i = C i := by rcases h with rfl | rfl | rfl <;> rfl
theorem pk2_r {i : Nat} (h : i = 1 ∨ i = 2 ∨ i = 8) : pk2 T C i = C i := by
  unfold pk2
  split
  · have e : acc (gAdd (pk1 T C) (thk T (C 11 0) (pkn T C))) 4 1 i = gAdd (pk1 T C) (thk T (C 11 0) (pkn T C)) i := by rcases h with rfl | rfl | rfl <;> rfl
    rw [e, gAdd_r h]
    rcases h with rfl | rfl | rfl <;> rfl
  · rcases h with rfl | rfl | rfl <;> rfl
theorem pickC_r {i : Nat} (h : i = 1 ∨ i = 2 ∨ i = 8) : pickC T C i = C i := by
  unfold pickC
  split
  · rw [goThr_r (by omega), pk2_r h]
  · split
    · rcases h with rfl | rfl | rfl <;> rfl
    · rcases h with rfl | rfl | rfl <;> rfl
/-- the thicknesses behind a good pick -/
def agN (a : Bool) (cn : Int) : Int := if a then (if cn < 6 then cn + 1 else 6) else cn
def agO (a : Bool) (ol : Int) : Int := if a then ol + 1 else ol
def agG (a : Bool) (g : Int → Int) (ol v : Int) : Int → Int := if a then uI g (ol % 6) v else g
theorem pick_gd : pickC T C 10 = agG (decide (pkr T C = 0 ∧ pkn T C = 1)) (C 10) (C 11 7) (thk T (C 11 0) (pkn T C)) ∧ pickC T C 11 6 = agN (decide (pkr T C = 0 ∧ pkn T C = 1)) (C 11 6) ∧ pickC T C 11 7 = agO (decide (pkr T C = 0 ∧ pkn T C = 1)) (C 11 7) := by
  unfold pickC
  by_cases hr : pkr T C = 0
  · rw [if_pos hr, goThr_r (by omega), goThr_11 (by decide) (by decide), goThr_11 (by decide) (by decide)]
    by_cases hn : pkn T C = 1
    · rw [decide_eq_true ⟨hr, hn⟩]
      unfold pk2
      rw [if_pos hn]
      unfold agG agN agO
      rw [if_pos rfl, if_pos rfl, if_pos rfl]
      exact ⟨rfl, rfl, rfl⟩
    · rw [decide_eq_false (fun w => hn w.2)]
      unfold pk2
      rw [if_neg hn]
      exact ⟨rfl, rfl, rfl⟩
  · rw [if_neg hr, decide_eq_false (fun w => hr w.1)]
    split
    · exact ⟨rfl, rfl, rfl⟩
    · exact ⟨rfl, rfl, rfl⟩
/-- the reference's run stands where the class's does -/
def sim (C D : Nat → Int → Int) (g : Int → Int) (t cn ol q : Int) : Prop := (D 11 0 = t ∧ D 11 6 = cn ∧ D 11 7 = ol ∧ D 11 5 = C 11 5 ∧ D 8 0 = q ∧ D 8 1 = C 8 1 ∧ D 8 2 = C 8 2 ∧ D 8 3 = C 8 3) ∧ D 10 = g ∧ D 1 = C 1 ∧ D 2 = C 2
abbrev reQ (T C : Nat → Int → Int) (g : Int → Int) (t cn q : Int) : Int := rsn T (fun _ => C 8) q (usG g cn (T 8 2)) (thk T t (pk (C 2) (T 8 0) t)) (lng T (C 2) t (pk (C 2) (T 8 0) t)) (C 1 t)
theorem sim_k (h : sim C D g t cn ol q) : pkn T D = pk (C 2) (T 8 0) t ∧ pkr T D = reQ T C g t cn q ∧ goR T D (D 11 0) = pgs T C t := by
  obtain ⟨⟨h0, h6, h7, h5, q0, q1, q2, q3⟩, hg, e1, e2⟩ := h
  have n1 : pkn T D = pk (C 2) (T 8 0) t := by unfold pkn; rw [e2, h0]
  refine ⟨n1, ?_, ?_⟩
  · unfold pkr rsn
    rw [n1, e2, h0, e1, h6, hg, q0, q1, q2]
    rfl
  · unfold goR pgs
    rw [h0, h5, q3]
    split
    · rfl
    · rfl
theorem sim_0 (h : FR C) (h2 : 0 ≤ C 11 2) : sim C (trB C q) (C 10) (C 11 0) (C 11 6) (C 11 7) q := by
  unfold trB
  split
  · exact ⟨⟨rfl, rfl, rfl, rfl, rfl, rfl, rfl, rfl⟩, rfl, rfl, rfl⟩
  · exact ⟨⟨rfl, rfl, rfl, rfl, rfl, rfl, rfl, rfl⟩, rfl, rfl, rfl⟩
theorem sim_s (h : sim C D g t cn ol q) : sim C (trN T D) (agG (decide (reQ T C g t cn q = 0 ∧ pk (C 2) (T 8 0) t = 1)) g ol (thk T t (pk (C 2) (T 8 0) t))) (t + pk (C 2) (T 8 0) t) (agN (decide (reQ T C g t cn q = 0 ∧ pk (C 2) (T 8 0) t = 1)) cn) (agO (decide (reQ T C g t cn q = 0 ∧ pk (C 2) (T 8 0) t = 1)) ol) q := by
  obtain ⟨k1, k2, k3⟩ := sim_k (T := T) h
  have gd := pick_gd (T := T) (C := D)
  rw [k1, k2] at gd
  obtain ⟨⟨h0, h6, h7, h5, q0, q1, q2, q3⟩, hg, e1, e2⟩ := h
  have key : ∀ X : Nat → Int → Int, (X = pickC T D ∨ X = rmC (pickC T D)) → X 11 0 = pickC T D 11 0 ∧ X 11 6 = pickC T D 11 6 ∧ X 11 7 = pickC T D 11 7 ∧ X 11 5 = pickC T D 11 5 ∧ X 8 = pickC T D 8 ∧ X 10 = pickC T D 10 ∧ X 1 = pickC T D 1 ∧ X 2 = pickC T D 2 := fun X hX => by
    rcases hX with rfl | rfl <;> exact ⟨rfl, rfl, rfl, rfl, rfl, rfl, rfl, rfl⟩
  obtain ⟨a0, a6, a7, a5, a8, a10, a1, a2⟩ := key (trN T D) (by unfold trN; split; exact Or.inr rfl; exact Or.inl rfl)
  have p8 : trN T D 8 = D 8 := a8.trans (pickC_r (by omega))
  refine ⟨⟨?_, ?_, ?_, ?_, ?_, ?_, ?_, ?_⟩, ?_, a1.trans ((pickC_r (by omega)).trans e1), a2.trans ((pickC_r (by omega)).trans e2)⟩
  · rw [a0, pickC_top, k1, h0]
  · rw [a6, gd.2.1, h6]
  · rw [a7, gd.2.2, h7]
  · rw [a5, pickC_11 (by decide) (by decide) (by decide) (by decide) (by decide) (by decide) (by decide), h5]
  · rw [p8, q0]
  · rw [p8, q1]
  · rw [p8, q2]
  · rw [p8, q3]
  · rw [a10, gd.1, hg, h7, h0]
def fkV (f1 f2 f3 f4 f5 : Int) (k : Int) : Int := if k = 0 then f1 else if k = 1 then f2 else if k = 2 then f3 else if k = 3 then f4 else f5
/-- what a step counts -/
def stQ (re m pg : Int) (k : Int) : Int := if re ≠ 0 then fkV (bI (re = 1)) (bI (re = 1 ∧ m = 1)) 0 0 m k else fkV 0 0 (bI (1 < m)) pg 0 k
theorem sim_v (h : sim C D g t cn ol q) {k : Int} (hk : 0 ≤ k ∧ k < 5) : stV T k D = stQ (reQ T C g t cn q) (pk (C 2) (T 8 0) t) (pgs T C t) k := by
  obtain ⟨k1, k2, k3⟩ := sim_k (T := T) h
  have e : pickR T D = -1 ↔ reQ T C g t cn q ≠ 0 := by rw [← k2]; exact (pickR_bd T D).2.2
  unfold stV stQ fkV
  by_cases c : reQ T C g t cn q = 0
  · have p0 : pickR T D = pgs T C t := by
      unfold pickR
      rw [k2, if_pos c]; exact k3
    rw [if_neg (show ¬ pickR T D = -1 from fun w => e.mp w c), if_neg (show ¬ reQ T C g t cn q ≠ 0 from fun w => w c), k1, p0]
    rcases (show k = 0 ∨ k = 1 ∨ k = 2 ∨ k = 3 ∨ k = 4 by omega) with r | r | r | r | r <;> subst r <;> rfl
  · rw [if_pos (e.mpr c), if_pos c, k1, k2]
    rcases (show k = 0 ∨ k = 1 ∨ k = 2 ∨ k = 3 ∨ k = 4 by omega) with r | r | r | r | r <;> subst r <;> rfl
/-- so far, with each percent from p up to below f6 -/
def simI (T C : Nat → Int → Int) (g : Int → Int) (t cn ol p f6 : Int) (F : Int → Int) : Prop := ∀ q : Int, p ≤ q → q < f6 → ∃ (D : Nat → Int → Int) (m : Nat), sim C D g t cn ol q ∧ T 8 0 - t ≤ m ∧ ∀ k : Int, 0 ≤ k → k < 5 → F k + trV T k m D = trA T C q k
theorem simI_0 (h : FR C) (h2 : 0 ≤ C 11 2) (h0 : 0 ≤ C 11 0) (h8 : 0 ≤ T 8 0) {f6 : Int} : simI T C (C 10) (C 11 0) (C 11 6) (C 11 7) p f6 (fkV 0 0 0 0 0) := fun q _ _ => ⟨trB C q, (T 8 0).toNat, sim_0 h h2, by omega, fun k a b => by
  have z : fkV 0 0 0 0 0 k = 0 := by unfold fkV; (repeat' split) <;> rfl
  rw [z, Int.zero_add]
  rfl⟩
theorem simI_e {f6 : Int} {F : Int → Int} (h : simI T C g t cn ol p f6 F) (ht : T 8 0 ≤ t) : ∀ q : Int, p ≤ q → q < f6 → ∀ k : Int, 0 ≤ k → k < 5 → F k = trA T C q k := fun q a b k c d => by
  obtain ⟨D, m, s, _, e⟩ := h q a b
  have z := e k c d
  rw [trV_e (by rw [s.1.1]; exact ht), Int.add_zero] at z
  exact z
theorem simI_s {f6 f6' : Int} {F G : Int → Int} (h : simI T C g t cn ol p f6 F) (ht : t < T 8 0) (h6 : f6' ≤ f6) (hre : ∀ q : Int, p ≤ q → q < f6' → reQ T C g t cn q = reQ T C g t cn p) (hG : ∀ k : Int, 0 ≤ k → k < 5 → G k = F k + stQ (reQ T C g t cn p) (pk (C 2) (T 8 0) t) (pgs T C t) k) :
    simI T C (agG (decide (reQ T C g t cn p = 0 ∧ pk (C 2) (T 8 0) t = 1)) g ol (thk T t (pk (C 2) (T 8 0) t))) (t + pk (C 2) (T 8 0) t) (agN (decide (reQ T C g t cn p = 0 ∧ pk (C 2) (T 8 0) t = 1)) cn) (agO (decide (reQ T C g t cn p = 0 ∧ pk (C 2) (T 8 0) t = 1)) ol) p f6' G := fun q a b => by
  obtain ⟨D, m, s, hm, e⟩ := h q a (by omega)
  have hp := pk_bd (off := C 2) ht
  have er := hre q a b
  have s2 := sim_s (T := T) s
  rw [er] at s2
  refine ⟨trN T D, m - 1, s2, by omega, fun k c d => ?_⟩
  have z := e k c d
  have em : m = (m - 1) + 1 := by omega
  rw [em, trV_s (by rw [s.1.1]; exact ht), sim_v s ⟨c, d⟩, er] at z
  rw [hG k c d]
  omega
/-- the same reason with every percent between -/
theorem re_same {th le sk us q p f6 : Int} (hu : 0 < us) (hq : p ≤ q) (h : rsn T C p us th le sk = 1 → q * us < th * 100) : rsn T C q us th le sk = rsn T C p us th le sk := by
  have m : p * us ≤ q * us := Int.mul_le_mul_of_nonneg_right hq (by omega)
  unfold rsn at h ⊢
  by_cases c : p * us < th * 100
  · rw [if_pos c] at h ⊢
    rw [if_pos (h rfl)]
  · rw [if_neg c, if_neg (by omega)]
/-- the least percent that lets a thickness pass -/
theorem ce_lt {a us q : Int} (hu : 0 < us) (ha : 0 ≤ a) (h : q < (a + us - 1).tdiv us) : q * us < a := by
  rw [Int.tdiv_eq_ediv_of_nonneg (by omega)] at h
  have z : (q + 1) * us ≤ a + us - 1 := (Int.le_ediv_iff_mul_le hu).mp (by omega)
  rw [Int.add_mul, Int.one_mul] at z
  omega
theorem ce_gt {a us p : Int} (hu : 0 < us) (ha : 0 ≤ a) (h : p * us < a) : p < (a + us - 1).tdiv us := by
  rw [Int.tdiv_eq_ediv_of_nonneg (by omega)]
  have z : p + 1 ≤ (a + us - 1) / us := (Int.le_ediv_iff_mul_le hu).mpr (by rw [Int.add_mul, Int.one_mul]; omega)
  omega
end SIM
