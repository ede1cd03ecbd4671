/-! STATEMENTS THAT ARE READ WITHOUT A FAULT -/
theorem WT_put {X : Nat → Int → Int} {v : List Int} (h : WT X) (h40 : X 8 0 < 40) (hv : vOk v) : WT (putS X v) := by
  obtain ⟨h1, h2, h3⟩ := h
  have e8 : putS X v 8 = uI (X 8) 0 (X 8 0 + 1) := rfl
  have e7 : putS X v 7 = X 7 := rfl
  have ep : ∀ p : Nat, p < 7 → putS X v p = uI (X p) (X 8 0) (v.getD p 0) := fun p hp => by
    unfold putS
    rw [if_pos hp]
  unfold WT
  rw [e8, e7, ep 0 (by decide), ep 1 (by decide), ep 2 (by decide), ep 3 (by decide), ep 4 (by decide), ep 5 (by decide), ep 6 (by decide), uI_s, uI_n _ _ _ (show (1 : Int) ≠ 0 by decide), uI_n _ _ _ (show (2 : Int) ≠ 0 by decide), uI_n _ _ _ (show (3 : Int) ≠ 0 by decide)]
  refine ⟨by omega, h2, fun s a b => ?_⟩
  by_cases c : s = X 8 0
  · rw [c, uI_s, uI_s, uI_s, uI_s, uI_s, uI_s, uI_s]
    unfold vOk at hv
    omega
  · rw [uI_n _ _ _ c, uI_n _ _ _ c, uI_n _ _ _ c, uI_n _ _ _ c, uI_n _ _ _ c, uI_n _ _ _ c, uI_n _ _ _ c]
    exact h3 s a (by omega)
theorem rd_ok {f : Int → Int} {n lo hi : Int} {X : Nat → Int → Int} (h : rdX f n lo hi X 9 3 = 0) : lo ≤ nuV f X ∧ nuV f X ≤ hi := by
  unfold rdX at h
  by_cases c : X 9 3 = 0
  · rw [if_pos c] at h
    by_cases c2 : X 9 2 = 2
    · rw [if_pos c2] at h
      by_cases c3 : lo ≤ nuV f X ∧ nuV f X ≤ hi
      · exact c3
      · rw [if_neg c3] at h
        exact absurd h (faX_3 (by decide))
    · rw [if_neg c2] at h
      exact absurd h (faX_3 (by decide))
  · rw [if_neg c] at h
    exact absurd h c
theorem gl_ok {f : Int → Int} {n : Int} {X : Nat → Int → Int} (h : glX f n X 9 3 = 0) : -1 ≤ glV f n X ∧ glV f n X ≤ 400 := by
  unfold glX at h
  unfold glV
  by_cases c : wdX f X 6
  · rw [if_pos c] at h ⊢
    have q := rd_ok h
    omega
  · rw [if_neg c]
    decide
theorem rs_ok {f : Int → Int} {n : Int} {X : Nat → Int → Int} (h : rsX f n X 9 3 = 0) : 50 ≤ nuV f X ∧ nuV f X ≤ 500 ∧ 30 ≤ nuV f (rdX f n 50 500 X) ∧ nuV f (rdX f n 50 500 X) ≤ 500 ∧ -99 ≤ (if lessQ (rsA f n X) then -nuV f (rsB f n X) else nuV f (rsB f n X)) ∧ (if lessQ (rsA f n X) then -nuV f (rsB f n X) else nuV f (rsB f n X)) ≤ 99 := by
  obtain ⟨h1, h2, h3, h4⟩ := rsX_z h
  have a := rd_ok (lo := 0) (hi := 99) (X := rsB f n X) h
  have b := rd_ok (lo := 30) (hi := 500) (X := rdX f n 50 500 X) h2
  have c := rd_ok (lo := 50) (hi := 500) (X := X) h3
  refine ⟨c.1, c.2, b.1, b.2, ?_⟩
  split <;> omega
theorem vOk_s {f : Int → Int} {n : Int} {Y : Nat → Int → Int} (h : sh4 f n Y 9 3 = 0) : vOk (shv f n Y) := by
  have a1 : rdX f n 0 1000 (rdX f n 0 1000 (rsX f n Y)) 9 3 = 0 := glX_z h
  have a2 : rdX f n 0 1000 (rsX f n Y) 9 3 = 0 := rdX_z a1
  have a3 : rsX f n Y 9 3 = 0 := rdX_z a2
  obtain ⟨r1, r2, r3, r4, r5, r6⟩ := rs_ok a3
  have d := rd_ok a2
  have e := rd_ok a1
  have g := gl_ok h
  exact ⟨r1, r2, r3, r4, r5, r6, d.1, d.2, e.1, e.2, by show (-1 : Int) ≤ -1; decide, by show (-1 : Int) ≤ 999; decide, g.1, g.2⟩
theorem vOk_c {f : Int → Int} {n : Int} {Y : Nat → Int → Int} (h : cd4 f n Y 9 3 = 0) : vOk (cdv f n Y) := by
  have a3 : rsX f n (rdX f n 0 999 Y) 9 3 = 0 := glX_z h
  obtain ⟨r1, r2, r3, r4, r5, r6⟩ := rs_ok a3
  have d := rd_ok (rsX_z a3).2.2.2
  have g := gl_ok h
  exact ⟨r1, r2, r3, r4, r5, r6, by show (0 : Int) ≤ 0; decide, by show (0 : Int) ≤ 1000; decide, by show (0 : Int) ≤ 0; decide, by show (0 : Int) ≤ 1000; decide, by show -1 ≤ nuV f Y; omega, by show nuV f Y ≤ 999; omega, g.1, g.2⟩
section STM
variable {f : Int → Int} {n x a b c d e g cc : Int} {A B L R body m stk : List Int} {X Y Z : Nat → Int → Int} {kd : Int}
theorem bef_c (h : bef f n X L) (e9 : Y 9 = X 9) : bef f n Y L := by
  unfold bef at h ⊢
  rw [e9]
  exact h
theorem cur_c (h : cur f n X body kd L) (e9 : Y 9 = X 9) : cur f n Y body kd L := by
  unfold cur bef at h ⊢
  rw [e9]
  exact h
theorem hd_32 {R : List Int} : ([32] ++ R) = [] ∨ ¬ (48 ≤ ([32] ++ R).getD 0 0 ∧ ([32] ++ R).getD 0 0 ≤ 57) := Or.inr (by show ¬ (48 ≤ (32 : Int) ∧ (32 : Int) ≤ 57); decide)
theorem hd_59 {R : List Int} : ([59] ++ R) = [] ∨ ¬ (48 ≤ ([59] ++ R).getD 0 0 ∧ ([59] ++ R).getD 0 0 ≤ 57) := Or.inr (by show ¬ (48 ≤ (59 : Int) ∧ (59 : Int) ≤ 57); decide)
/-- a word of the parser's, and a space behind it -/
theorem tok_x {i : Nat} (hi : i < 7) : tokOk (txL i) 1 ([32] ++ R) := by
  have h : ∀ i : Nat, i < 7 → 0 < (txL i).length ∧ (txL i).length ≤ 8 ∧ ∀ k : Nat, k < (txL i).length → 97 ≤ (txL i).getD k 0 ∧ (txL i).getD k 0 ≤ 122 := by decide +kernel
  obtain ⟨h1, h2, h3⟩ := h i hi
  exact tok_w h1 h2 h3 (Or.inr (by show ¬ (97 ≤ (32 : Int) ∧ (32 : Int) ≤ 122); decide))
def stO (stk : List Int) : Prop := stk = [] ∨ ∃ g : Int, (0 ≤ g ∧ g ≤ 400) ∧ stk = [32] ++ (txL 6 ++ ([32] ++ dgS g))
theorem hd_st (h : stO stk) {R : List Int} : (stk ++ ([59] ++ R)) = [] ∨ ¬ (48 ≤ (stk ++ ([59] ++ R)).getD 0 0 ∧ (stk ++ ([59] ++ R)).getD 0 0 ≤ 57) := by
  rcases h with rfl | ⟨g, _, rfl⟩
  · exact hd_59
  · rw [List.append_assoc]
    exact hd_32
/-- what may stand behind a sheet -/
theorem gl_tail (hs : stO stk) (h : bef f n X (stk ++ ([59] ++ L))) : cur f n (glX f n (nxX f n X)) [59] 3 L ∧ glX f n (nxX f n X) 9 5 = X 9 5 ∧ glX f n (nxX f n X) 8 = X 8 := by
  rcases hs with rfl | ⟨g, hg, rfl⟩
  · have c1 : cur f n (nxX f n X) [59] 3 L := tn_0 h tok_c
    have e1 : glX f n (nxX f n X) = nxX f n X := if_neg (wd_k (by rw [c1.1.1]; decide))
    rw [e1]
    exact ⟨c1, rfl, rfl⟩
  · rw [List.append_assoc, List.append_assoc, List.append_assoc] at h
    have c1 := tn_1 h (tok_x (by decide))
    have c2 := tn_1 c1.2 (tok_d (by omega) hd_59)
    have c3 := tn_0 c2.2 tok_c
    have e1 : glX f n (nxX f n X) = nxX f n (nxX f n (nxX f n X)) := by
      unfold glX
      rw [if_pos (wd_y c1), rd_cur c2 (by omega) (by omega)]
    rw [e1]
    exact ⟨c3, rfl, rfl⟩
/-- a length, a thickness, a skew -/
theorem rs_cur (h : cur f n X (dgS a) 2 ([32] ++ (dgS b ++ (m ++ (dgS c ++ R))))) (ha : 50 ≤ a ∧ a ≤ 500) (hb : 30 ≤ b ∧ b ≤ 500) (hc : 0 ≤ c ∧ c ≤ 99) (hm : m = [32] ∨ m = [32, 45]) (hR : R = [] ∨ ¬ (48 ≤ R.getD 0 0 ∧ R.getD 0 0 ≤ 57)) : ∃ Z : Nat → Int → Int, rsX f n X = nxX f n Z ∧ cur f n Z (dgS c) 2 R ∧ Z 9 5 = X 9 5 ∧ Z 8 = X 8 := by
  rcases hm with rfl | rfl
  · have c1 := tn_1 h.2 (tok_d (by omega) hd_32)
    have c2 := tn_1 c1.2 (tok_d (by omega) hR)
    have eA : rsA f n X = nxX f n (nxX f n X) := by
      unfold rsA
      rw [rd_cur h (by omega) ha, rd_cur c1 (by omega) hb]
    have eB : rsB f n X = nxX f n (nxX f n X) := by
      unfold rsB
      rw [eA, if_neg (fun q => by have := q.2; rw [c2.1.1] at this; exact absurd this (by decide))]
    refine ⟨nxX f n (nxX f n X), ?_, c2, rfl, rfl⟩
    unfold rsX
    rw [eB, rd_cur c2 (by omega) hc]
  · have h2 : cur f n X (dgS a) 2 ([32] ++ (dgS b ++ ([32] ++ ([45] ++ (dgS c ++ R))))) := h
    have c1 := tn_1 h2.2 (tok_d (by omega) hd_32)
    have c2 : cur f n (nxX f n (nxX f n X)) [45] 4 (dgS c ++ R) := tn_1 c1.2 tok_m
    have c3 := tn_0 c2.2 (tok_d (by omega) hR)
    have eA : rsA f n X = nxX f n (nxX f n X) := by
      unfold rsA
      rw [rd_cur h2 (by omega) ha, rd_cur c1 (by omega) hb]
    have eB : rsB f n X = nxX f n (nxX f n (nxX f n X)) := by
      unfold rsB
      rw [eA, if_pos ⟨c2.2.1, c2.1.1⟩]
    refine ⟨nxX f n (nxX f n (nxX f n X)), ?_, c3, rfl, rfl⟩
    unfold rsX
    rw [eB, rd_cur c3 (by omega) hc]
/-- a statement that tells of a sheet -/
def stm (S : List Int) : Prop := ∀ (f : Int → Int) (n : Int) (Y : Nat → Int → Int) (L : List Int), bef f n Y (S ++ L) → Y 8 0 < 40 → ∃ Y' : Nat → Int → Int, stX f n (nxX f n Y) = nxX f n Y' ∧ (nxX f n Y 9 3 = 0 ∧ nxX f n Y 9 2 ≠ 0) ∧ bef f n Y' L ∧ Y' 8 0 = Y 8 0 + 1 ∧ Y' 9 5 = Y 9 5 ∧ (WT Y → WT Y')
theorem se_cur (h : cur f n X [59] 3 L) : seX f n X = nxX f n X := if_pos ⟨h.2.1, h.1.1⟩
def shT (a b c d e : Int) (m stk : List Int) : List Int := txL 1 ++ ([32] ++ (dgS a ++ ([32] ++ (dgS b ++ (m ++ (dgS c ++ ([32] ++ (dgS d ++ ([32] ++ (dgS e ++ (stk ++ [59])))))))))))
def cdT (cc a b c : Int) (m stk : List Int) : List Int := txL 2 ++ ([32] ++ (dgS cc ++ ([32] ++ (dgS a ++ ([32] ++ (dgS b ++ (m ++ (dgS c ++ (stk ++ [59])))))))))
theorem stm_s (ha : 50 ≤ a ∧ a ≤ 500) (hb : 30 ≤ b ∧ b ≤ 500) (hc : 0 ≤ c ∧ c ≤ 99) (hd : 0 ≤ d ∧ d ≤ 999) (he : 0 ≤ e ∧ e ≤ 999) (hm : m = [32] ∨ m = [32, 45]) (hs : stO stk) : stm (shT a b c d e m stk) := by
  intro f n Y L h h8
  have h2 : bef f n Y (txL 1 ++ ([32] ++ (dgS a ++ ([32] ++ (dgS b ++ (m ++ (dgS c ++ ([32] ++ (dgS d ++ ([32] ++ (dgS e ++ (stk ++ ([59] ++ L)))))))))))) ) := by
    unfold shT at h
    simp only [List.append_assoc] at h ⊢
    exact h
  have c0 := tn_0 h2 (tok_x (by decide))
  have c1 := tn_1 c0.2 (tok_d (by omega) hd_32)
  obtain ⟨Z, eZ, cZ, e5, e8⟩ := rs_cur c1 ha hb hc hm hd_32
  have c4 := tn_1 cZ.2 (tok_d (by omega) hd_32)
  have c5 := tn_1 c4.2 (tok_d (by omega) (hd_st hs))
  obtain ⟨c7, g5, g8⟩ := gl_tail hs c5.2
  have e4 : sh4 f n (nxX f n (nxX f n Y)) = glX f n (nxX f n (nxX f n (nxX f n Z))) := by
    unfold sh4
    rw [eZ, rd_cur c4 (by omega) (by omega), rd_cur c5 (by omega) (by omega)]
  have eS : shtX f n (nxX f n Y) = putS (glX f n (nxX f n (nxX f n (nxX f n Z)))) (shv f n (nxX f n (nxX f n Y))) := by
    unfold shtX
    rw [if_pos ⟨c0.2.1, h8⟩, e4, if_pos c7.2.1]
  have eL : lnX f n (nxX f n Y) = putS (glX f n (nxX f n (nxX f n (nxX f n Z)))) (shv f n (nxX f n (nxX f n Y))) := (if_pos (wd_y c0)).trans eS
  have c8 : cur f n (putS (glX f n (nxX f n (nxX f n (nxX f n Z)))) (shv f n (nxX f n (nxX f n Y)))) [59] 3 L := cur_c c7 rfl
  refine ⟨putS (glX f n (nxX f n (nxX f n (nxX f n Z)))) (shv f n (nxX f n (nxX f n Y))), ?_, ⟨c0.2.1, by rw [c0.1.1]; decide⟩, c8.2, ?_, ?_, fun hWT => ?_⟩
  · unfold stX
    rw [eL, se_cur c8]
  · show uI (glX f n (nxX f n (nxX f n (nxX f n Z))) 8) 0 (glX f n (nxX f n (nxX f n (nxX f n Z))) 8 0 + 1) 0 = _
    rw [uI_s, g8]
    show Z 8 0 + 1 = _
    rw [e8]
    rfl
  · show glX f n (nxX f n (nxX f n (nxX f n Z))) 9 5 = _
    rw [g5]
    exact e5
  · have er : ∀ p : Nat, p < 9 → Y p = sh4 f n (nxX f n (nxX f n Y)) p := fun p hp => by
      unfold sh4
      rw [glX_r hp, rdX_r hp, rdX_r hp, rsX_r hp, ← nxX_r hp, ← nxX_r hp]
    have e48 : sh4 f n (nxX f n (nxX f n Y)) 8 0 = Y 8 0 := by rw [← er 8 (by decide)]
    rw [← e4]
    exact WT_put (WT_cg hWT er) (by rw [e48]; exact h8) (vOk_s (by rw [e4]; exact c7.2.1))
theorem stm_c (hcc : 0 ≤ cc ∧ cc ≤ 999) (ha : 50 ≤ a ∧ a ≤ 500) (hb : 30 ≤ b ∧ b ≤ 500) (hc : 0 ≤ c ∧ c ≤ 99) (hm : m = [32] ∨ m = [32, 45]) (hs : stO stk) : stm (cdT cc a b c m stk) := by
  intro f n Y L h h8
  have h2 : bef f n Y (txL 2 ++ ([32] ++ (dgS cc ++ ([32] ++ (dgS a ++ ([32] ++ (dgS b ++ (m ++ (dgS c ++ (stk ++ ([59] ++ L)))))))))) ) := by
    unfold cdT at h
    simp only [List.append_assoc] at h ⊢
    exact h
  have c0 := tn_0 h2 (tok_x (by decide))
  have c1 := tn_1 c0.2 (tok_d (by omega) hd_32)
  have c2 := tn_1 c1.2 (tok_d (by omega) hd_32)
  obtain ⟨Z, eZ, cZ, e5, e8⟩ := rs_cur c2 ha hb hc hm (hd_st hs)
  obtain ⟨c7, g5, g8⟩ := gl_tail hs cZ.2
  have e4 : cd4 f n (nxX f n (nxX f n Y)) = glX f n (nxX f n Z) := by
    unfold cd4
    rw [rd_cur c1 (by omega) (by omega), eZ]
  have eS : codX f n (nxX f n Y) = putS (glX f n (nxX f n Z)) (cdv f n (nxX f n (nxX f n Y))) := by
    unfold codX
    rw [if_pos ⟨c0.2.1, h8⟩, e4, if_pos c7.2.1]
  have eL : lnX f n (nxX f n Y) = putS (glX f n (nxX f n Z)) (cdv f n (nxX f n (nxX f n Y))) := by
    unfold lnX
    rw [if_neg (wd_n c0 (by decide)), if_pos (wd_y c0)]
    exact eS
  have c8 : cur f n (putS (glX f n (nxX f n Z)) (cdv f n (nxX f n (nxX f n Y)))) [59] 3 L := cur_c c7 rfl
  refine ⟨putS (glX f n (nxX f n Z)) (cdv f n (nxX f n (nxX f n Y))), ?_, ⟨c0.2.1, by rw [c0.1.1]; decide⟩, c8.2, ?_, ?_, fun hWT => ?_⟩
  · unfold stX
    rw [eL, se_cur c8]
  · show uI (glX f n (nxX f n Z) 8) 0 (glX f n (nxX f n Z) 8 0 + 1) 0 = _
    rw [uI_s, g8, e8]
    rfl
  · show glX f n (nxX f n Z) 9 5 = _
    rw [g5]
    exact e5
  · have er : ∀ p : Nat, p < 9 → Y p = cd4 f n (nxX f n (nxX f n Y)) p := fun p hp => by
      unfold cd4
      rw [glX_r hp, rsX_r hp, rdX_r hp, ← nxX_r hp, ← nxX_r hp]
    have e48 : cd4 f n (nxX f n (nxX f n Y)) 8 0 = Y 8 0 := by rw [← er 8 (by decide)]
    rw [← e4]
    exact WT_put (WT_cg hWT er) (by rw [e48]; exact h8) (vOk_c (by rw [e4]; exact c7.2.1))
/-- k sheets -/
def shs (S : List Int) (k : Nat) : Prop := ∀ (f : Int → Int) (n : Int) (Y : Nat → Int → Int) (L : List Int), bef f n Y (S ++ L) → Y 8 0 + (k : Int) ≤ 40 → ∃ Y' : Nat → Int → Int, (∀ m : Nat, loX f n (m + k) (nxX f n Y) = loX f n m (nxX f n Y')) ∧ bef f n Y' L ∧ Y' 8 0 = Y 8 0 + (k : Int) ∧ Y' 9 5 = Y 9 5 ∧ (WT Y → WT Y')
theorem shs_0 : shs [] 0 := fun f n Y L h _ => ⟨Y, fun _ => rfl, h, by omega, rfl, fun w => w⟩
theorem shs_s {S s : List Int} {k : Nat} (h : shs S k) (hs : stm s) : shs (S ++ s) (k + 1) := by
  intro f n Y L hb h8
  rw [List.append_assoc] at hb
  obtain ⟨Y1, a1, a2, a3, a4, a5⟩ := h f n Y (s ++ L) hb (by omega)
  obtain ⟨Y2, b1, b2, b3, b4, b5, b6⟩ := hs f n Y1 L a2 (by omega)
  refine ⟨Y2, fun m => ?_, b3, by omega, b5.trans a4, fun w => b6 (a5 w)⟩
  rw [show m + (k + 1) = (m + 1) + k by omega, a1 (m + 1)]
  show (if nxX f n Y1 9 3 = 0 ∧ nxX f n Y1 9 2 ≠ 0 then loX f n m (stX f n (nxX f n Y1)) else nxX f n Y1) = _
  rw [if_pos b2, b1]
theorem li_WT {k lo hi : Int} (h : cur f n X (dgS x) 2 L) (hx : 0 ≤ x ∧ x ≤ 999) (h1 : lo ≤ x ∧ x ≤ hi) (hk : (k = 0 ∧ lo = 101 ∧ hi = 300) ∨ (k = 1 ∧ lo = 0 ∧ hi = 200) ∨ (k = 2 ∧ lo = 0 ∧ hi = 99) ∨ (k = 3 ∧ lo = 0 ∧ hi = 1000)) (hw : WT X) : WT (liX f n k lo hi X) := by
  have e : liX f n k lo hi X = st (nxX f n X) 7 (uI (X 7) k x) := by
    unfold liX
    rw [rd_cur h hx h1, if_pos (show nxX f n X 9 3 = 0 from h.2.1), nu_cur h hx]
  rw [e]
  obtain ⟨w1, w2, w3⟩ := hw
  refine ⟨w1, ?_, w3⟩
  show (101 ≤ uI (X 7) k x 0 ∧ uI (X 7) k x 0 ≤ 300 ∧ 0 ≤ uI (X 7) k x 1 ∧ uI (X 7) k x 1 ≤ 200 ∧ 0 ≤ uI (X 7) k x 2 ∧ uI (X 7) k x 2 ≤ 99 ∧ 0 ≤ uI (X 7) k x 3 ∧ uI (X 7) k x 3 ≤ 1000)
  simp only [uI_i]
  rcases hk with ⟨rfl, rfl, rfl⟩ | ⟨rfl, rfl, rfl⟩ | ⟨rfl, rfl, rfl⟩ | ⟨rfl, rfl, rfl⟩ <;> simp <;> omega
theorem li_cur {k lo hi : Int} (h : cur f n X (dgS x) 2 L) (hx : 0 ≤ x ∧ x ≤ 999) (h1 : lo ≤ x ∧ x ≤ hi) : liX f n k lo hi X 9 = nxX f n X 9 ∧ liX f n k lo hi X 8 = X 8 := by
  unfold liX
  rw [rd_cur h hx h1, if_pos (show nxX f n X 9 3 = 0 from h.2.1)]
  exact ⟨rfl, rfl⟩
def lmT (a b : Int) : List Int := txL 4 ++ ([32] ++ (dgS a ++ ([32] ++ (dgS b ++ ([32] ++ (dgS 25 ++ ([32] ++ (dgS 5 ++ [59]))))))))
theorem lm_st (ha : 101 ≤ a ∧ a ≤ 300) (hb : 0 ≤ b ∧ b ≤ 200) (h : bef f n Y (lmT a b ++ L)) (h5 : Y 9 5 = 0) : ∃ Y' : Nat → Int → Int, stX f n (nxX f n Y) = nxX f n Y' ∧ (nxX f n Y 9 3 = 0 ∧ nxX f n Y 9 2 ≠ 0) ∧ bef f n Y' L ∧ Y' 8 0 = Y 8 0 ∧ (WT Y → WT Y') := by
  have h2 : bef f n Y (txL 4 ++ ([32] ++ (dgS a ++ ([32] ++ (dgS b ++ ([32] ++ (dgS 25 ++ ([32] ++ (dgS 5 ++ ([59] ++ L)))))))))) := by
    unfold lmT at h
    simp only [List.append_assoc] at h ⊢
    exact h
  have c0 := tn_0 h2 (tok_x (by decide))
  have b1 : bef f n (st (nxX f n Y) 9 (uI (nxX f n Y 9) 5 1)) ([32] ++ (dgS a ++ ([32] ++ (dgS b ++ ([32] ++ (dgS 25 ++ ([32] ++ (dgS 5 ++ ([59] ++ L))))))))) := c0.2
  have c1 := tn_1 b1 (tok_d (by omega) hd_32)
  obtain ⟨l1, m1⟩ := li_cur (k := 0) c1 (by omega) ha
  have c2 := cur_c (tn_1 c1.2 (tok_d (by omega) hd_32)) l1
  obtain ⟨l2, m2⟩ := li_cur (k := 1) c2 (by omega) hb
  have c3 := cur_c (tn_1 c2.2 (tok_d (by decide) hd_32)) l2
  obtain ⟨l3, m3⟩ := li_cur (k := 2) (lo := 0) (hi := 99) c3 (by decide) (by decide)
  have c4 := cur_c (tn_1 c3.2 (tok_d (by decide) hd_59)) l3
  obtain ⟨l4, m4⟩ := li_cur (k := 3) (lo := 0) (hi := 1000) c4 (by decide) (by decide)
  have c5 : cur f n _ [59] 3 L := cur_c (tn_0 c4.2 tok_c) l4
  have eL : lnX f n (nxX f n Y) = liX f n 3 0 1000 (liX f n 2 0 99 (liX f n 1 0 200 (liX f n 0 101 300 (nxX f n (st (nxX f n Y) 9 (uI (nxX f n Y 9) 5 1)))))) := by
    unfold lnX
    rw [if_neg (wd_n c0 (by decide)), if_neg (wd_n c0 (by decide)), if_neg (wd_n c0 (by decide)), if_pos (wd_y c0)]
    exact if_pos ⟨c0.2.1, h5⟩
  refine ⟨liX f n 3 0 1000 (liX f n 2 0 99 (liX f n 1 0 200 (liX f n 0 101 300 (nxX f n (st (nxX f n Y) 9 (uI (nxX f n Y 9) 5 1)))))), ?_, ⟨c0.2.1, by rw [c0.1.1]; decide⟩, c5.2, ?_, fun hWT => ?_⟩
  · unfold stX
    rw [eL, se_cur c5]
  · rw [m4, m3, m2, m1]
    rfl
  · exact li_WT c4 (by decide) (by decide) (Or.inr (Or.inr (Or.inr ⟨rfl, rfl, rfl⟩))) (li_WT c3 (by decide) (by decide) (Or.inr (Or.inr (Or.inl ⟨rfl, rfl, rfl⟩))) (li_WT c2 (by omega) hb (Or.inr (Or.inl ⟨rfl, rfl, rfl⟩)) (li_WT c1 (by omega) ha (Or.inl ⟨rfl, rfl, rfl⟩) hWT)))
/-- the text as a whole -/
def hdT (a b : Int) : List Int := txL 0 ++ ([32] ++ (dgS a ++ ([32] ++ (dgS b ++ [59]))))
theorem pa_txt {S : List Int} {k : Nat} {c d : Int} (ha : 50 ≤ a ∧ a ≤ 500) (hb : 30 ≤ b ∧ b ≤ 500) (hS : shs S k) (hk : k ≤ 40) (hc : 101 ≤ c ∧ c ≤ 300) (hd : 0 ≤ d ∧ d ≤ 200) (hf : rst f n 0 (hdT a b ++ (S ++ lmT c d))) : paX f n 9 3 = 0 ∧ paX f n 8 0 = (k : Int) ∧ WT (paX f n) := by
  have h0 : bef f n in0 (txL 0 ++ ([32] ++ (dgS a ++ ([32] ++ (dgS b ++ ([59] ++ (S ++ (lmT c d ++ [])))))))) := by
    refine ⟨rfl, ?_⟩
    show rst f n 0 _
    unfold hdT at hf
    rw [List.append_nil]
    simp only [List.append_assoc] at hf ⊢
    exact hf
  have c0 : cur f n (fe0 f n) (txL 0) 1 _ := tn_0 h0 (tok_x (by decide))
  have eF : feX f n = nxX f n (fe0 f n) := if_pos (wd_y c0)
  have c1 := tn_1 c0.2 (tok_d (by omega) hd_32)
  have c2 := tn_1 c1.2 (tok_d (by omega) hd_59)
  have c3 := tn_0 c2.2 tok_c
  have e3 : hd3 f n = nxX f n (nxX f n (nxX f n (fe0 f n))) := by
    unfold hd3
    rw [eF, rd_cur c1 (by omega) ha, rd_cur c2 (by omega) hb]
  have e9 : hdX f n 9 = nxX f n (nxX f n (nxX f n (fe0 f n))) 9 ∧ hdX f n 8 0 = 0 := by
    unfold hdX
    rw [e3, if_pos (show nxX f n (nxX f n (nxX f n (fe0 f n))) 9 3 = 0 from c3.2.1)]
    exact ⟨rfl, rfl⟩
  have eW : WT (hdX f n) := by
    unfold hdX
    rw [e3, if_pos (show nxX f n (nxX f n (nxX f n (fe0 f n))) 9 3 = 0 from c3.2.1), eF, rd_cur c1 (by omega) ha, nu_cur c1 (by omega), nu_cur c2 (by omega)]
    refine ⟨⟨(by decide : (0 : Int) ≤ 0), (by decide : (0 : Int) ≤ 40), ha.1, ha.2, hb.1, hb.2, (by decide : (0 : Int) ≤ 1), (by decide : (1 : Int) ≤ 1)⟩, ⟨(by decide : (101 : Int) ≤ 150), (by decide : (150 : Int) ≤ 300), (by decide : (0 : Int) ≤ 20), (by decide : (20 : Int) ≤ 200), (by decide : (0 : Int) ≤ 30), (by decide : (30 : Int) ≤ 99), (by decide : (0 : Int) ≤ 5), (by decide : (5 : Int) ≤ 1000)⟩, fun s p q => absurd (show s < 0 from q) (by omega)⟩
  have c4 : cur f n (hdX f n) [59] 3 (S ++ (lmT c d ++ [])) := cur_c c3 e9.1
  have e5 : hdX f n 9 5 = 0 := by rw [e9.1]; rfl
  obtain ⟨Y1, a1, a2, a3, a4, a5⟩ := hS f n (hdX f n) _ c4.2 (by rw [e9.2]; omega)
  obtain ⟨Y2, b1, b2, b3, b4, b5⟩ := lm_st hc hd a2 (by rw [a4]; exact e5)
  obtain ⟨z1, z2⟩ := tn_e b3
  have eP : paX f n = nxX f n Y2 := by
    unfold paX
    rw [se_cur c4, show 701 = (701 - k) + k by omega, a1 (701 - k), show 701 - k = (701 - k - 1) + 1 by omega]
    show (if nxX f n Y1 9 3 = 0 ∧ nxX f n Y1 9 2 ≠ 0 then loX f n (701 - k - 1) (stX f n (nxX f n Y1)) else nxX f n Y1) = _
    rw [if_pos b2, b1, show 701 - k - 1 = (701 - k - 2) + 1 by omega]
    show (if nxX f n Y2 9 3 = 0 ∧ nxX f n Y2 9 2 ≠ 0 then loX f n (701 - k - 2) (stX f n (nxX f n Y2)) else nxX f n Y2) = _
    rw [if_neg (fun q => q.2 z1)]
  rw [eP]
  refine ⟨z2, ?_, WT_cg (b5 (a5 eW)) (fun p hp => nxX_r hp)⟩
  show Y2 8 0 = _
  rw [b4, a3, e9.2]
  omega
end STM
