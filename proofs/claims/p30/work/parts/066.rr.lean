/-! HOW THE REFERENCE'S ROW KEEPS ITS MEANING. Written by wip/whole/rr.py -/
def adP (C : Nat → Int → Int) (sh sd : Int) : Nat → Int → Int := st (st (st (s1 C 3 (C 11 3 + 1)) 4 (uI (C 4) (C 11 3) sh)) 5 (uI (C 5) (C 11 3) sd)) 6 (uI (C 6) (C 11 3) (C 11 4 - 1))
def bgJ (C : Nat → Int → Int) (cd : Int) : Nat → Int → Int := st (s1 C 4 (C 11 4 + 1)) 7 (uI (C 7) (C 11 4) cd)
def gAdd (C : Nat → Int → Int) (v : Int) : Nat → Int → Int := st (st C 11 (uI (uI (C 11) 6 (if C 11 6 < 6 then C 11 6 + 1 else 6)) 7 (C 11 7 + 1))) 10 (uI (C 10) (C 11 7 % 6) v)
theorem gAdd_6 {C : Nat → Int → Int} {v : Int} (h : C 11 6 < 6) : gAdd C v 11 6 = C 11 6 + 1 := if_pos h
theorem gAdd_6f {C : Nat → Int → Int} {v : Int} (h : C 11 6 = 6) : gAdd C v 11 6 = 6 := if_neg (by omega)
theorem gAdd_7 {C : Nat → Int → Int} {v : Int} : gAdd C v 11 7 = C 11 7 + 1 := rfl
theorem gAdd_10 {C : Nat → Int → Int} {v : Int} : gAdd C v 10 = uI (C 10) (C 11 7 % 6) v := rfl
abbrev acc (C : Nat → Int → Int) (k d : Int) : Nat → Int → Int := st C 9 (uI (C 9) k (C 9 k + d))
abbrev clr (C : Nat → Int → Int) : Nat → Int → Int := s1 (s1 C 1 0) 2 0
/-- the reference's sheets a to b - 1 go to place v -/
def wfl (sa : Int → Int) (a b v : Int) : Int → Int := fun j => if 26 ≤ j ∧ j < 186 ∧ (j - 26) % 4 = 0 ∧ a ≤ (j - 26) / 4 ∧ (j - 26) / 4 < b then v else sa j
theorem wfl_0 (sa : Int → Int) {a b v : Int} (h : b ≤ a) : wfl sa a b v = sa := by
  funext j; unfold wfl; rw [if_neg (by omega)]
theorem wfl_s (sa : Int → Int) {a b v : Int} (h0 : 0 ≤ b) (h1 : b < 40) (h : a ≤ b) : uI (wfl sa a b v) (26 + 4 * b) v = wfl sa a (b + 1) v := by
  funext j
  unfold uI wfl
  by_cases e : j = 26 + 4 * b
  · rw [if_pos e, if_pos (by omega)]
  · rw [if_neg e]
    by_cases e2 : 26 ≤ j ∧ j < 186 ∧ (j - 26) % 4 = 0 ∧ a ≤ (j - 26) / 4 ∧ (j - 26) / 4 < b
    · rw [if_pos e2, if_pos (by omega)]
    · rw [if_neg e2, if_neg (by omega)]
theorem wfl_n (sa : Int → Int) {a b v j : Int} (h : j < 26 ∨ 186 ≤ j ∨ (j - 26) % 4 ≠ 0 ∨ (j - 26) / 4 < a ∨ b ≤ (j - 26) / 4) : wfl sa a b v j = sa j := by
  unfold wfl; rw [if_neg (by omega)]
theorem RJ_wf {sa : Int → Int} {T C : Nat → Int → Int} {J : Int → Int} (a b v : Int) (h : RJ sa T C J) (hB : T 8 0 ≤ 40 ∧ 0 ≤ C 11 0 ∧ C 11 1 ≤ 40 ∧ C 11 3 ≤ 80 ∧ C 11 4 ≤ 140 ∧ C 11 6 ≤ 6) : RJ (wfl sa a b v) T (st C 0 (fil (C 0) a b v)) J := by
  obtain ⟨⟨a0, a5, a6, a7, a8, a15, a16⟩, hl, hg, ha, hs, hk, hp, hP, hj⟩ := h
  have K : ∀ j : Int, (j < 26 ∨ 186 ≤ j ∨ (j - 26) % 4 ≠ 0) → wfl sa a b v j = sa j := fun j e => wfl_n sa (by omega)
  refine ⟨⟨by rw [K _ (by omega)]; exact a0, by rw [K _ (by omega)]; exact a5, by rw [K _ (by omega)]; exact a6, by rw [K _ (by omega)]; exact a7, by rw [K _ (by omega)]; exact a8, by rw [K _ (by omega)]; exact a15, by rw [K _ (by omega)]; exact a16⟩, fun k p q => ?_, fun k p q => ?_, fun k p q => ?_, fun k p q => ?_, fun k p q => ?_, fun k p q => ?_, fun k p q => ?_, fun k p q => ?_⟩
  · rw [K _ (by omega)]; exact hl k p q
  · have q1 : k < C 11 6 := q
    rw [K _ (by omega)]; exact hg k p q
  · rw [K _ (by omega)]; exact ha k p q
  · obtain ⟨z1, z2, z3, z4⟩ := hs k p q
    refine ⟨?_, by rw [K _ (by omega)]; exact z2, by rw [K _ (by omega)]; exact z3, by rw [K _ (by omega)]; exact z4⟩
    show _ = fil (C 0) a b v k
    by_cases e : a ≤ k ∧ k < b
    · rw [fil_in e.1 e.2]; unfold wfl; rw [if_pos (by omega)]
    · rw [fil_out e, wfl_n sa (by omega)]; exact z1
  · rw [K _ (by omega)]; exact hk k p q
  · rw [K _ (by omega)]; exact hp k p q
  · obtain ⟨z1, z2⟩ := hP k p q
    exact ⟨by rw [K _ (by omega)]; exact z1, by rw [K _ (by omega)]; exact z2⟩
  · obtain ⟨z1, z2⟩ := hj k p q
    exact ⟨by rw [K _ (by omega)]; exact z1, by rw [K _ (by omega)]; exact z2⟩
theorem RJ_dx {sa : Int → Int} {T C : Nat → Int → Int} {J : Int → Int} {v : Int} (h : RJ sa T C J) (hB : T 8 0 ≤ 40 ∧ 0 ≤ C 11 0 ∧ C 11 1 ≤ 40 ∧ C 11 3 ≤ 80 ∧ C 11 4 ≤ 140 ∧ C 11 6 ≤ 6)  : RJ (uI sa (0) (v)) T (s1 C 5 v) (J) := by
  obtain ⟨⟨a0, a5, a6, a7, a8, a15, a16⟩, hl, hg, ha, hs, hk, hp, hP, hj⟩ := h
  refine ⟨⟨?_, ?_, ?_, ?_, ?_, ?_, ?_⟩, fun k p q => ?_, fun k p q => ?_, fun k p q => ?_, fun k p q => ?_, fun k p q => ?_, fun k p q => ?_, fun k p q => ?_, fun k p q => ?_⟩
  · exact uI_s _ _ _
  · rw [uI_n _ _ _ (by omega)]; exact a5
  · rw [uI_n _ _ _ (by omega)]; exact a6
  · rw [uI_n _ _ _ (by omega)]; exact a7
  · rw [uI_n _ _ _ (by omega)]; exact a8
  · rw [uI_n _ _ _ (by omega)]; exact a15
  · rw [uI_n _ _ _ (by omega)]; exact a16
  · rw [uI_n _ _ _ (by omega)]; exact hl k p q
  · have q1 : k < C 11 6 := q
    rw [uI_n _ _ _ (by omega)]; exact hg k p q
  · rw [uI_n _ _ _ (by omega)]; exact ha k p q
  · obtain ⟨z1, z2, z3, z4⟩ := hs k p q
    exact ⟨by rw [uI_n _ _ _ (by omega)]; exact z1, by rw [uI_n _ _ _ (by omega)]; exact z2, by rw [uI_n _ _ _ (by omega)]; exact z3, by rw [uI_n _ _ _ (by omega)]; exact z4⟩
  · have q1 : k < T 8 0 - C 11 0 := q
    rw [uI_n _ _ _ (by omega)]; exact hk k p q
  · have q1 : k < C 11 1 := q
    rw [uI_n _ _ _ (by omega)]; exact hp k p q
  · have q1 : k < C 11 3 := q
    obtain ⟨z1, z2⟩ := hP k p q
    exact ⟨by rw [uI_n _ _ _ (by omega)]; exact z1, by rw [uI_n _ _ _ (by omega)]; exact z2⟩
  · have q1 : k < C 11 4 := q
    obtain ⟨z1, z2⟩ := hj k p q
    exact ⟨by rw [uI_n _ _ _ (by omega)]; exact z1, by rw [uI_n _ _ _ (by omega)]; exact z2⟩

theorem RJ_re {sa : Int → Int} {T C : Nat → Int → Int} {J : Int → Int} {v : Int} (h : RJ sa T C J) (hB : T 8 0 ≤ 40 ∧ 0 ≤ C 11 0 ∧ C 11 1 ≤ 40 ∧ C 11 3 ≤ 80 ∧ C 11 4 ≤ 140 ∧ C 11 6 ≤ 6)  : RJ (uI sa (5) (v)) T (s1 C 2 v) (J) := by
  obtain ⟨⟨a0, a5, a6, a7, a8, a15, a16⟩, hl, hg, ha, hs, hk, hp, hP, hj⟩ := h
  refine ⟨⟨?_, ?_, ?_, ?_, ?_, ?_, ?_⟩, fun k p q => ?_, fun k p q => ?_, fun k p q => ?_, fun k p q => ?_, fun k p q => ?_, fun k p q => ?_, fun k p q => ?_, fun k p q => ?_⟩
  · rw [uI_n _ _ _ (by omega)]; exact a0
  · exact uI_s _ _ _
  · rw [uI_n _ _ _ (by omega)]; exact a6
  · rw [uI_n _ _ _ (by omega)]; exact a7
  · rw [uI_n _ _ _ (by omega)]; exact a8
  · rw [uI_n _ _ _ (by omega)]; exact a15
  · rw [uI_n _ _ _ (by omega)]; exact a16
  · rw [uI_n _ _ _ (by omega)]; exact hl k p q
  · have q1 : k < C 11 6 := q
    rw [uI_n _ _ _ (by omega)]; exact hg k p q
  · rw [uI_n _ _ _ (by omega)]; exact ha k p q
  · obtain ⟨z1, z2, z3, z4⟩ := hs k p q
    exact ⟨by rw [uI_n _ _ _ (by omega)]; exact z1, by rw [uI_n _ _ _ (by omega)]; exact z2, by rw [uI_n _ _ _ (by omega)]; exact z3, by rw [uI_n _ _ _ (by omega)]; exact z4⟩
  · have q1 : k < T 8 0 - C 11 0 := q
    rw [uI_n _ _ _ (by omega)]; exact hk k p q
  · have q1 : k < C 11 1 := q
    rw [uI_n _ _ _ (by omega)]; exact hp k p q
  · have q1 : k < C 11 3 := q
    obtain ⟨z1, z2⟩ := hP k p q
    exact ⟨by rw [uI_n _ _ _ (by omega)]; exact z1, by rw [uI_n _ _ _ (by omega)]; exact z2⟩
  · have q1 : k < C 11 4 := q
    obtain ⟨z1, z2⟩ := hj k p q
    exact ⟨by rw [uI_n _ _ _ (by omega)]; exact z1, by rw [uI_n _ _ _ (by omega)]; exact z2⟩

theorem RJ_p0 {sa : Int → Int} {T C : Nat → Int → Int} {J : Int → Int}  (h : RJ sa T C J) (hB : T 8 0 ≤ 40 ∧ 0 ≤ C 11 0 ∧ C 11 1 ≤ 40 ∧ C 11 3 ≤ 80 ∧ C 11 4 ≤ 140 ∧ C 11 6 ≤ 6)  : RJ (uI sa (7) (0)) T (s1 C 1 0) (J) := by
  obtain ⟨⟨a0, a5, a6, a7, a8, a15, a16⟩, hl, hg, ha, hs, hk, hp, hP, hj⟩ := h
  refine ⟨⟨?_, ?_, ?_, ?_, ?_, ?_, ?_⟩, fun k p q => ?_, fun k p q => ?_, fun k p q => ?_, fun k p q => ?_, fun k p q => ?_, fun k p q => ?_, fun k p q => ?_, fun k p q => ?_⟩
  · rw [uI_n _ _ _ (by omega)]; exact a0
  · rw [uI_n _ _ _ (by omega)]; exact a5
  · rw [uI_n _ _ _ (by omega)]; exact a6
  · exact uI_s _ _ _
  · rw [uI_n _ _ _ (by omega)]; exact a8
  · rw [uI_n _ _ _ (by omega)]; exact a15
  · rw [uI_n _ _ _ (by omega)]; exact a16
  · rw [uI_n _ _ _ (by omega)]; exact hl k p q
  · have q1 : k < C 11 6 := q
    rw [uI_n _ _ _ (by omega)]; exact hg k p q
  · rw [uI_n _ _ _ (by omega)]; exact ha k p q
  · obtain ⟨z1, z2, z3, z4⟩ := hs k p q
    exact ⟨by rw [uI_n _ _ _ (by omega)]; exact z1, by rw [uI_n _ _ _ (by omega)]; exact z2, by rw [uI_n _ _ _ (by omega)]; exact z3, by rw [uI_n _ _ _ (by omega)]; exact z4⟩
  · have q1 : k < T 8 0 - C 11 0 := q
    rw [uI_n _ _ _ (by omega)]; exact hk k p q
  · exact absurd q (by show ¬ k < 0; omega)
  · have q1 : k < C 11 3 := q
    obtain ⟨z1, z2⟩ := hP k p q
    exact ⟨by rw [uI_n _ _ _ (by omega)]; exact z1, by rw [uI_n _ _ _ (by omega)]; exact z2⟩
  · have q1 : k < C 11 4 := q
    obtain ⟨z1, z2⟩ := hj k p q
    exact ⟨by rw [uI_n _ _ _ (by omega)]; exact z1, by rw [uI_n _ _ _ (by omega)]; exact z2⟩

theorem RJ_li {sa : Int → Int} {T C : Nat → Int → Int} {J : Int → Int} (k0 v : Int) (h : RJ sa T C J) (hB : T 8 0 ≤ 40 ∧ 0 ≤ C 11 0 ∧ C 11 1 ≤ 40 ∧ C 11 3 ≤ 80 ∧ C 11 4 ≤ 140 ∧ C 11 6 ≤ 6) (h0 : 0 ≤ k0) (h1 : k0 < 4) : RJ (uI sa (1 + k0) (v)) T (st C 8 (uI (C 8) k0 v)) (J) := by
  obtain ⟨⟨a0, a5, a6, a7, a8, a15, a16⟩, hl, hg, ha, hs, hk, hp, hP, hj⟩ := h
  refine ⟨⟨?_, ?_, ?_, ?_, ?_, ?_, ?_⟩, fun k p q => ?_, fun k p q => ?_, fun k p q => ?_, fun k p q => ?_, fun k p q => ?_, fun k p q => ?_, fun k p q => ?_, fun k p q => ?_⟩
  · rw [uI_n _ _ _ (by omega)]; exact a0
  · rw [uI_n _ _ _ (by omega)]; exact a5
  · rw [uI_n _ _ _ (by omega)]; exact a6
  · rw [uI_n _ _ _ (by omega)]; exact a7
  · rw [uI_n _ _ _ (by omega)]; exact a8
  · rw [uI_n _ _ _ (by omega)]; exact a15
  · rw [uI_n _ _ _ (by omega)]; exact a16
  · show _ = uI (C 8) k0 v k; by_cases e : k = k0
    · rw [e, uI_s, uI_s]
    · rw [uI_n _ _ _ (by omega), uI_n _ _ _ e]; exact hl k p q
  · have q1 : k < C 11 6 := q
    rw [uI_n _ _ _ (by omega)]; exact hg k p q
  · rw [uI_n _ _ _ (by omega)]; exact ha k p q
  · obtain ⟨z1, z2, z3, z4⟩ := hs k p q
    exact ⟨by rw [uI_n _ _ _ (by omega)]; exact z1, by rw [uI_n _ _ _ (by omega)]; exact z2, by rw [uI_n _ _ _ (by omega)]; exact z3, by rw [uI_n _ _ _ (by omega)]; exact z4⟩
  · have q1 : k < T 8 0 - C 11 0 := q
    rw [uI_n _ _ _ (by omega)]; exact hk k p q
  · have q1 : k < C 11 1 := q
    rw [uI_n _ _ _ (by omega)]; exact hp k p q
  · have q1 : k < C 11 3 := q
    obtain ⟨z1, z2⟩ := hP k p q
    exact ⟨by rw [uI_n _ _ _ (by omega)]; exact z1, by rw [uI_n _ _ _ (by omega)]; exact z2⟩
  · have q1 : k < C 11 4 := q
    obtain ⟨z1, z2⟩ := hj k p q
    exact ⟨by rw [uI_n _ _ _ (by omega)]; exact z1, by rw [uI_n _ _ _ (by omega)]; exact z2⟩

theorem RJ_ac {sa : Int → Int} {T C : Nat → Int → Int} {J : Int → Int} (k0 v : Int) (h : RJ sa T C J) (hB : T 8 0 ≤ 40 ∧ 0 ≤ C 11 0 ∧ C 11 1 ≤ 40 ∧ C 11 3 ≤ 80 ∧ C 11 4 ≤ 140 ∧ C 11 6 ≤ 6) (h0 : 0 ≤ k0) (h1 : k0 < 9) : RJ (uI sa (17 + k0) (v)) T (st C 9 (uI (C 9) k0 v)) (J) := by
  obtain ⟨⟨a0, a5, a6, a7, a8, a15, a16⟩, hl, hg, ha, hs, hk, hp, hP, hj⟩ := h
  refine ⟨⟨?_, ?_, ?_, ?_, ?_, ?_, ?_⟩, fun k p q => ?_, fun k p q => ?_, fun k p q => ?_, fun k p q => ?_, fun k p q => ?_, fun k p q => ?_, fun k p q => ?_, fun k p q => ?_⟩
  · rw [uI_n _ _ _ (by omega)]; exact a0
  · rw [uI_n _ _ _ (by omega)]; exact a5
  · rw [uI_n _ _ _ (by omega)]; exact a6
  · rw [uI_n _ _ _ (by omega)]; exact a7
  · rw [uI_n _ _ _ (by omega)]; exact a8
  · rw [uI_n _ _ _ (by omega)]; exact a15
  · rw [uI_n _ _ _ (by omega)]; exact a16
  · rw [uI_n _ _ _ (by omega)]; exact hl k p q
  · have q1 : k < C 11 6 := q
    rw [uI_n _ _ _ (by omega)]; exact hg k p q
  · show _ = uI (C 9) k0 v k; by_cases e : k = k0
    · rw [e, uI_s, uI_s]
    · rw [uI_n _ _ _ (by omega), uI_n _ _ _ e]; exact ha k p q
  · obtain ⟨z1, z2, z3, z4⟩ := hs k p q
    exact ⟨by rw [uI_n _ _ _ (by omega)]; exact z1, by rw [uI_n _ _ _ (by omega)]; exact z2, by rw [uI_n _ _ _ (by omega)]; exact z3, by rw [uI_n _ _ _ (by omega)]; exact z4⟩
  · have q1 : k < T 8 0 - C 11 0 := q
    rw [uI_n _ _ _ (by omega)]; exact hk k p q
  · have q1 : k < C 11 1 := q
    rw [uI_n _ _ _ (by omega)]; exact hp k p q
  · have q1 : k < C 11 3 := q
    obtain ⟨z1, z2⟩ := hP k p q
    exact ⟨by rw [uI_n _ _ _ (by omega)]; exact z1, by rw [uI_n _ _ _ (by omega)]; exact z2⟩
  · have q1 : k < C 11 4 := q
    obtain ⟨z1, z2⟩ := hj k p q
    exact ⟨by rw [uI_n _ _ _ (by omega)]; exact z1, by rw [uI_n _ _ _ (by omega)]; exact z2⟩

theorem RJ_wh {sa : Int → Int} {T C : Nat → Int → Int} {J : Int → Int} (s0 v : Int) (h : RJ sa T C J) (hB : T 8 0 ≤ 40 ∧ 0 ≤ C 11 0 ∧ C 11 1 ≤ 40 ∧ C 11 3 ≤ 80 ∧ C 11 4 ≤ 140 ∧ C 11 6 ≤ 6) (h0 : 0 ≤ s0) (h1 : s0 < 40) : RJ (uI sa (26 + 4 * s0) (v)) T (st C 0 (uI (C 0) s0 v)) (J) := by
  obtain ⟨⟨a0, a5, a6, a7, a8, a15, a16⟩, hl, hg, ha, hs, hk, hp, hP, hj⟩ := h
  have hT : True := trivial
  refine ⟨⟨?_, ?_, ?_, ?_, ?_, ?_, ?_⟩, fun k p q => ?_, fun k p q => ?_, fun k p q => ?_, fun k p q => ?_, fun k p q => ?_, fun k p q => ?_, fun k p q => ?_, fun k p q => ?_⟩
  · rw [uI_n _ _ _ (by omega)]; exact a0
  · rw [uI_n _ _ _ (by omega)]; exact a5
  · rw [uI_n _ _ _ (by omega)]; exact a6
  · rw [uI_n _ _ _ (by omega)]; exact a7
  · rw [uI_n _ _ _ (by omega)]; exact a8
  · rw [uI_n _ _ _ (by omega)]; exact a15
  · rw [uI_n _ _ _ (by omega)]; exact a16
  · rw [uI_n _ _ _ (by omega)]; exact hl k p q
  · have q1 : k < C 11 6 := q
    rw [uI_n _ _ _ (by omega)]; exact hg k p q
  · rw [uI_n _ _ _ (by omega)]; exact ha k p q
  · obtain ⟨z1, z2, z3, z4⟩ := hs k p q
    refine ⟨?_, ?_, ?_, ?_⟩
    · show _ = uI (C 0) s0 v k; by_cases e : k = s0
      · rw [e, uI_s, uI_s]
      · rw [uI_n _ _ _ (by omega), uI_n _ _ _ e]; exact z1
    · rw [uI_n _ _ _ (by omega)]; exact z2
    · rw [uI_n _ _ _ (by omega)]; exact z3
    · rw [uI_n _ _ _ (by omega)]; exact z4
  · have q1 : k < T 8 0 - C 11 0 := q
    rw [uI_n _ _ _ (by omega)]; exact hk k p q
  · have q1 : k < C 11 1 := q
    rw [uI_n _ _ _ (by omega)]; exact hp k p q
  · have q1 : k < C 11 3 := q
    obtain ⟨z1, z2⟩ := hP k p q
    exact ⟨by rw [uI_n _ _ _ (by omega)]; exact z1, by rw [uI_n _ _ _ (by omega)]; exact z2⟩
  · have q1 : k < C 11 4 := q
    obtain ⟨z1, z2⟩ := hj k p q
    exact ⟨by rw [uI_n _ _ _ (by omega)]; exact z1, by rw [uI_n _ _ _ (by omega)]; exact z2⟩

theorem RJ_sw {sa : Int → Int} {T C : Nat → Int → Int} {J : Int → Int} (s0 v : Int) (h : RJ sa T C J) (hB : T 8 0 ≤ 40 ∧ 0 ≤ C 11 0 ∧ C 11 1 ≤ 40 ∧ C 11 3 ≤ 80 ∧ C 11 4 ≤ 140 ∧ C 11 6 ≤ 6) (h0 : 0 ≤ s0) (h1 : s0 < 40) : RJ (uI sa (26 + 4 * s0 + 1) (v)) T (st C 1 (uI (C 1) s0 v)) (J) := by
  obtain ⟨⟨a0, a5, a6, a7, a8, a15, a16⟩, hl, hg, ha, hs, hk, hp, hP, hj⟩ := h
  have hT : True := trivial
  refine ⟨⟨?_, ?_, ?_, ?_, ?_, ?_, ?_⟩, fun k p q => ?_, fun k p q => ?_, fun k p q => ?_, fun k p q => ?_, fun k p q => ?_, fun k p q => ?_, fun k p q => ?_, fun k p q => ?_⟩
  · rw [uI_n _ _ _ (by omega)]; exact a0
  · rw [uI_n _ _ _ (by omega)]; exact a5
  · rw [uI_n _ _ _ (by omega)]; exact a6
  · rw [uI_n _ _ _ (by omega)]; exact a7
  · rw [uI_n _ _ _ (by omega)]; exact a8
  · rw [uI_n _ _ _ (by omega)]; exact a15
  · rw [uI_n _ _ _ (by omega)]; exact a16
  · rw [uI_n _ _ _ (by omega)]; exact hl k p q
  · have q1 : k < C 11 6 := q
    rw [uI_n _ _ _ (by omega)]; exact hg k p q
  · rw [uI_n _ _ _ (by omega)]; exact ha k p q
  · obtain ⟨z1, z2, z3, z4⟩ := hs k p q
    refine ⟨?_, ?_, ?_, ?_⟩
    · rw [uI_n _ _ _ (by omega)]; exact z1
    · show _ = uI (C 1) s0 v k; by_cases e : k = s0
      · rw [e, uI_s, uI_s]
      · rw [uI_n _ _ _ (by omega), uI_n _ _ _ e]; exact z2
    · rw [uI_n _ _ _ (by omega)]; exact z3
    · rw [uI_n _ _ _ (by omega)]; exact z4
  · have q1 : k < T 8 0 - C 11 0 := q
    rw [uI_n _ _ _ (by omega)]; exact hk k p q
  · have q1 : k < C 11 1 := q
    rw [uI_n _ _ _ (by omega)]; exact hp k p q
  · have q1 : k < C 11 3 := q
    obtain ⟨z1, z2⟩ := hP k p q
    exact ⟨by rw [uI_n _ _ _ (by omega)]; exact z1, by rw [uI_n _ _ _ (by omega)]; exact z2⟩
  · have q1 : k < C 11 4 := q
    obtain ⟨z1, z2⟩ := hj k p q
    exact ⟨by rw [uI_n _ _ _ (by omega)]; exact z1, by rw [uI_n _ _ _ (by omega)]; exact z2⟩

theorem RJ_of {sa : Int → Int} {T C : Nat → Int → Int} {J : Int → Int} (s0 v : Int) (h : RJ sa T C J) (hB : T 8 0 ≤ 40 ∧ 0 ≤ C 11 0 ∧ C 11 1 ≤ 40 ∧ C 11 3 ≤ 80 ∧ C 11 4 ≤ 140 ∧ C 11 6 ≤ 6) (h0 : 0 ≤ s0) (h1 : s0 < 40) : RJ (uI sa (26 + 4 * s0 + 2) (v)) T (st C 2 (uI (C 2) s0 v)) (J) := by
  obtain ⟨⟨a0, a5, a6, a7, a8, a15, a16⟩, hl, hg, ha, hs, hk, hp, hP, hj⟩ := h
  have hT : True := trivial
  refine ⟨⟨?_, ?_, ?_, ?_, ?_, ?_, ?_⟩, fun k p q => ?_, fun k p q => ?_, fun k p q => ?_, fun k p q => ?_, fun k p q => ?_, fun k p q => ?_, fun k p q => ?_, fun k p q => ?_⟩
  · rw [uI_n _ _ _ (by omega)]; exact a0
  · rw [uI_n _ _ _ (by omega)]; exact a5
  · rw [uI_n _ _ _ (by omega)]; exact a6
  · rw [uI_n _ _ _ (by omega)]; exact a7
  · rw [uI_n _ _ _ (by omega)]; exact a8
  · rw [uI_n _ _ _ (by omega)]; exact a15
  · rw [uI_n _ _ _ (by omega)]; exact a16
  · rw [uI_n _ _ _ (by omega)]; exact hl k p q
  · have q1 : k < C 11 6 := q
    rw [uI_n _ _ _ (by omega)]; exact hg k p q
  · rw [uI_n _ _ _ (by omega)]; exact ha k p q
  · obtain ⟨z1, z2, z3, z4⟩ := hs k p q
    refine ⟨?_, ?_, ?_, ?_⟩
    · rw [uI_n _ _ _ (by omega)]; exact z1
    · rw [uI_n _ _ _ (by omega)]; exact z2
    · show _ = uI (C 2) s0 v k; by_cases e : k = s0
      · rw [e, uI_s, uI_s]
      · rw [uI_n _ _ _ (by omega), uI_n _ _ _ e]; exact z3
    · rw [uI_n _ _ _ (by omega)]; exact z4
  · have q1 : k < T 8 0 - C 11 0 := q
    rw [uI_n _ _ _ (by omega)]; exact hk k p q
  · have q1 : k < C 11 1 := q
    rw [uI_n _ _ _ (by omega)]; exact hp k p q
  · have q1 : k < C 11 3 := q
    obtain ⟨z1, z2⟩ := hP k p q
    exact ⟨by rw [uI_n _ _ _ (by omega)]; exact z1, by rw [uI_n _ _ _ (by omega)]; exact z2⟩
  · have q1 : k < C 11 4 := q
    obtain ⟨z1, z2⟩ := hj k p q
    exact ⟨by rw [uI_n _ _ _ (by omega)]; exact z1, by rw [uI_n _ _ _ (by omega)]; exact z2⟩

theorem RJ_ha {sa : Int → Int} {T C : Nat → Int → Int} {J : Int → Int} (s0 v : Int) (h : RJ sa T C J) (hB : T 8 0 ≤ 40 ∧ 0 ≤ C 11 0 ∧ C 11 1 ≤ 40 ∧ C 11 3 ≤ 80 ∧ C 11 4 ≤ 140 ∧ C 11 6 ≤ 6) (h0 : 0 ≤ s0) (h1 : s0 < 40) : RJ (uI sa (26 + 4 * s0 + 3) (v)) T (st C 3 (uI (C 3) s0 v)) (J) := by
  obtain ⟨⟨a0, a5, a6, a7, a8, a15, a16⟩, hl, hg, ha, hs, hk, hp, hP, hj⟩ := h
  have hT : True := trivial
  refine ⟨⟨?_, ?_, ?_, ?_, ?_, ?_, ?_⟩, fun k p q => ?_, fun k p q => ?_, fun k p q => ?_, fun k p q => ?_, fun k p q => ?_, fun k p q => ?_, fun k p q => ?_, fun k p q => ?_⟩
  · rw [uI_n _ _ _ (by omega)]; exact a0
  · rw [uI_n _ _ _ (by omega)]; exact a5
  · rw [uI_n _ _ _ (by omega)]; exact a6
  · rw [uI_n _ _ _ (by omega)]; exact a7
  · rw [uI_n _ _ _ (by omega)]; exact a8
  · rw [uI_n _ _ _ (by omega)]; exact a15
  · rw [uI_n _ _ _ (by omega)]; exact a16
  · rw [uI_n _ _ _ (by omega)]; exact hl k p q
  · have q1 : k < C 11 6 := q
    rw [uI_n _ _ _ (by omega)]; exact hg k p q
  · rw [uI_n _ _ _ (by omega)]; exact ha k p q
  · obtain ⟨z1, z2, z3, z4⟩ := hs k p q
    refine ⟨?_, ?_, ?_, ?_⟩
    · rw [uI_n _ _ _ (by omega)]; exact z1
    · rw [uI_n _ _ _ (by omega)]; exact z2
    · rw [uI_n _ _ _ (by omega)]; exact z3
    · show _ = uI (C 3) s0 v k; by_cases e : k = s0
      · rw [e, uI_s, uI_s]
      · rw [uI_n _ _ _ (by omega), uI_n _ _ _ e]; exact z4
  · have q1 : k < T 8 0 - C 11 0 := q
    rw [uI_n _ _ _ (by omega)]; exact hk k p q
  · have q1 : k < C 11 1 := q
    rw [uI_n _ _ _ (by omega)]; exact hp k p q
  · have q1 : k < C 11 3 := q
    obtain ⟨z1, z2⟩ := hP k p q
    exact ⟨by rw [uI_n _ _ _ (by omega)]; exact z1, by rw [uI_n _ _ _ (by omega)]; exact z2⟩
  · have q1 : k < C 11 4 := q
    obtain ⟨z1, z2⟩ := hj k p q
    exact ⟨by rw [uI_n _ _ _ (by omega)]; exact z1, by rw [uI_n _ _ _ (by omega)]; exact z2⟩

theorem RJ_pa {sa : Int → Int} {T C : Nat → Int → Int} {J : Int → Int} (sh sd : Int) (h : RJ sa T C J) (hB : T 8 0 ≤ 40 ∧ 0 ≤ C 11 0 ∧ C 11 1 ≤ 40 ∧ C 11 3 ≤ 80 ∧ C 11 4 ≤ 140 ∧ C 11 6 ≤ 6) (h0 : 0 ≤ C 11 3) (h1 : C 11 3 < 80) : RJ (uI (uI (uI sa (266 + 2 * C 11 3) (2 * sh + sd)) (266 + 2 * C 11 3 + 1) (C 11 4 - 1)) (15) (C 11 3 + 1)) T (adP C sh sd) (J) := by
  obtain ⟨⟨a0, a5, a6, a7, a8, a15, a16⟩, hl, hg, ha, hs, hk, hp, hP, hj⟩ := h
  refine ⟨⟨?_, ?_, ?_, ?_, ?_, ?_, ?_⟩, fun k p q => ?_, fun k p q => ?_, fun k p q => ?_, fun k p q => ?_, fun k p q => ?_, fun k p q => ?_, fun k p q => ?_, fun k p q => ?_⟩
  · rw [uI_n _ _ _ (by omega), uI_n _ _ _ (by omega), uI_n _ _ _ (by omega)]; exact a0
  · rw [uI_n _ _ _ (by omega), uI_n _ _ _ (by omega), uI_n _ _ _ (by omega)]; exact a5
  · rw [uI_n _ _ _ (by omega), uI_n _ _ _ (by omega), uI_n _ _ _ (by omega)]; exact a6
  · rw [uI_n _ _ _ (by omega), uI_n _ _ _ (by omega), uI_n _ _ _ (by omega)]; exact a7
  · rw [uI_n _ _ _ (by omega), uI_n _ _ _ (by omega), uI_n _ _ _ (by omega)]; exact a8
  · exact uI_s _ _ _
  · rw [uI_n _ _ _ (by omega), uI_n _ _ _ (by omega), uI_n _ _ _ (by omega)]; exact a16
  · rw [uI_n _ _ _ (by omega), uI_n _ _ _ (by omega), uI_n _ _ _ (by omega)]; exact hl k p q
  · have q1 : k < C 11 6 := q
    rw [uI_n _ _ _ (by omega), uI_n _ _ _ (by omega), uI_n _ _ _ (by omega)]; exact hg k p q
  · rw [uI_n _ _ _ (by omega), uI_n _ _ _ (by omega), uI_n _ _ _ (by omega)]; exact ha k p q
  · obtain ⟨z1, z2, z3, z4⟩ := hs k p q
    exact ⟨by rw [uI_n _ _ _ (by omega), uI_n _ _ _ (by omega), uI_n _ _ _ (by omega)]; exact z1, by rw [uI_n _ _ _ (by omega), uI_n _ _ _ (by omega), uI_n _ _ _ (by omega)]; exact z2, by rw [uI_n _ _ _ (by omega), uI_n _ _ _ (by omega), uI_n _ _ _ (by omega)]; exact z3, by rw [uI_n _ _ _ (by omega), uI_n _ _ _ (by omega), uI_n _ _ _ (by omega)]; exact z4⟩
  · have q1 : k < T 8 0 - C 11 0 := q
    rw [uI_n _ _ _ (by omega), uI_n _ _ _ (by omega), uI_n _ _ _ (by omega)]; exact hk k p q
  · have q1 : k < C 11 1 := q
    rw [uI_n _ _ _ (by omega), uI_n _ _ _ (by omega), uI_n _ _ _ (by omega)]; exact hp k p q
  · have q2 : k < C 11 3 + 1 := q
    show _ = 2 * uI (C 4) (C 11 3) sh k + uI (C 5) (C 11 3) sd k ∧ _ = uI (C 6) (C 11 3) (C 11 4 - 1) k
    by_cases e : k = C 11 3
    · rw [e]
      refine ⟨?_, ?_⟩
      · rw [uI_n _ _ _ (by omega), uI_n _ _ _ (by omega), uI_s, uI_s, uI_s]
      · rw [uI_n _ _ _ (by omega), uI_s, uI_s]
    · obtain ⟨z1, z2⟩ := hP k p (by omega)
      rw [uI_n (C 4) _ _ e, uI_n (C 5) _ _ e, uI_n (C 6) _ _ e]
      exact ⟨by rw [uI_n _ _ _ (by omega), uI_n _ _ _ (by omega), uI_n _ _ _ (by omega)]; exact z1, by rw [uI_n _ _ _ (by omega), uI_n _ _ _ (by omega), uI_n _ _ _ (by omega)]; exact z2⟩
  · have q1 : k < C 11 4 := q
    obtain ⟨z1, z2⟩ := hj k p q
    exact ⟨by rw [uI_n _ _ _ (by omega), uI_n _ _ _ (by omega), uI_n _ _ _ (by omega)]; exact z1, by rw [uI_n _ _ _ (by omega), uI_n _ _ _ (by omega), uI_n _ _ _ (by omega)]; exact z2⟩

theorem RJ_jo {sa : Int → Int} {T C : Nat → Int → Int} {J : Int → Int} (cd : Int) (h : RJ sa T C J) (hB : T 8 0 ≤ 40 ∧ 0 ≤ C 11 0 ∧ C 11 1 ≤ 40 ∧ C 11 3 ≤ 80 ∧ C 11 4 ≤ 140 ∧ C 11 6 ≤ 6) (h0 : 1 ≤ C 11 4) (h1 : C 11 4 < 140) : RJ (uI (uI (uI sa (426 + 2 * C 11 4) (cd)) (426 + 2 * C 11 4 + 1) (0)) (16) (C 11 4 + 1)) T (bgJ C cd) (uI J (C 11 4) 0) := by
  obtain ⟨⟨a0, a5, a6, a7, a8, a15, a16⟩, hl, hg, ha, hs, hk, hp, hP, hj⟩ := h
  refine ⟨⟨?_, ?_, ?_, ?_, ?_, ?_, ?_⟩, fun k p q => ?_, fun k p q => ?_, fun k p q => ?_, fun k p q => ?_, fun k p q => ?_, fun k p q => ?_, fun k p q => ?_, fun k p q => ?_⟩
  · rw [uI_n _ _ _ (by omega), uI_n _ _ _ (by omega), uI_n _ _ _ (by omega)]; exact a0
  · rw [uI_n _ _ _ (by omega), uI_n _ _ _ (by omega), uI_n _ _ _ (by omega)]; exact a5
  · rw [uI_n _ _ _ (by omega), uI_n _ _ _ (by omega), uI_n _ _ _ (by omega)]; exact a6
  · rw [uI_n _ _ _ (by omega), uI_n _ _ _ (by omega), uI_n _ _ _ (by omega)]; exact a7
  · rw [uI_n _ _ _ (by omega), uI_n _ _ _ (by omega), uI_n _ _ _ (by omega)]; exact a8
  · rw [uI_n _ _ _ (by omega), uI_n _ _ _ (by omega), uI_n _ _ _ (by omega)]; exact a15
  · exact uI_s _ _ _
  · rw [uI_n _ _ _ (by omega), uI_n _ _ _ (by omega), uI_n _ _ _ (by omega)]; exact hl k p q
  · have q1 : k < C 11 6 := q
    rw [uI_n _ _ _ (by omega), uI_n _ _ _ (by omega), uI_n _ _ _ (by omega)]; exact hg k p q
  · rw [uI_n _ _ _ (by omega), uI_n _ _ _ (by omega), uI_n _ _ _ (by omega)]; exact ha k p q
  · obtain ⟨z1, z2, z3, z4⟩ := hs k p q
    exact ⟨by rw [uI_n _ _ _ (by omega), uI_n _ _ _ (by omega), uI_n _ _ _ (by omega)]; exact z1, by rw [uI_n _ _ _ (by omega), uI_n _ _ _ (by omega), uI_n _ _ _ (by omega)]; exact z2, by rw [uI_n _ _ _ (by omega), uI_n _ _ _ (by omega), uI_n _ _ _ (by omega)]; exact z3, by rw [uI_n _ _ _ (by omega), uI_n _ _ _ (by omega), uI_n _ _ _ (by omega)]; exact z4⟩
  · have q1 : k < T 8 0 - C 11 0 := q
    rw [uI_n _ _ _ (by omega), uI_n _ _ _ (by omega), uI_n _ _ _ (by omega)]; exact hk k p q
  · have q1 : k < C 11 1 := q
    rw [uI_n _ _ _ (by omega), uI_n _ _ _ (by omega), uI_n _ _ _ (by omega)]; exact hp k p q
  · have q1 : k < C 11 3 := q
    obtain ⟨z1, z2⟩ := hP k p q
    exact ⟨by rw [uI_n _ _ _ (by omega), uI_n _ _ _ (by omega), uI_n _ _ _ (by omega)]; exact z1, by rw [uI_n _ _ _ (by omega), uI_n _ _ _ (by omega), uI_n _ _ _ (by omega)]; exact z2⟩
  · have q2 : k < C 11 4 + 1 := q
    show _ = uI (C 7) (C 11 4) cd k ∧ _ = uI J (C 11 4) 0 k
    by_cases e : k = C 11 4
    · rw [e]
      refine ⟨?_, ?_⟩
      · rw [uI_n _ _ _ (by omega), uI_n _ _ _ (by omega), uI_s, uI_s]
      · rw [uI_n _ _ _ (by omega), uI_s, uI_s]
    · obtain ⟨z1, z2⟩ := hj k p (by omega)
      rw [uI_n (C 7) _ _ e, uI_n J _ _ e]
      exact ⟨by rw [uI_n _ _ _ (by omega), uI_n _ _ _ (by omega), uI_n _ _ _ (by omega)]; exact z1, by rw [uI_n _ _ _ (by omega), uI_n _ _ _ (by omega), uI_n _ _ _ (by omega)]; exact z2⟩

theorem RJ_jn {sa : Int → Int} {T C : Nat → Int → Int} {J : Int → Int} (j0 v : Int) (h : RJ sa T C J) (hB : T 8 0 ≤ 40 ∧ 0 ≤ C 11 0 ∧ C 11 1 ≤ 40 ∧ C 11 3 ≤ 80 ∧ C 11 4 ≤ 140 ∧ C 11 6 ≤ 6) (h0 : 0 ≤ j0) (h1 : j0 < 140) : RJ (uI sa (426 + 2 * j0 + 1) (v)) T (C) (uI J j0 v) := by
  obtain ⟨⟨a0, a5, a6, a7, a8, a15, a16⟩, hl, hg, ha, hs, hk, hp, hP, hj⟩ := h
  refine ⟨⟨?_, ?_, ?_, ?_, ?_, ?_, ?_⟩, fun k p q => ?_, fun k p q => ?_, fun k p q => ?_, fun k p q => ?_, fun k p q => ?_, fun k p q => ?_, fun k p q => ?_, fun k p q => ?_⟩
  · rw [uI_n _ _ _ (by omega)]; exact a0
  · rw [uI_n _ _ _ (by omega)]; exact a5
  · rw [uI_n _ _ _ (by omega)]; exact a6
  · rw [uI_n _ _ _ (by omega)]; exact a7
  · rw [uI_n _ _ _ (by omega)]; exact a8
  · rw [uI_n _ _ _ (by omega)]; exact a15
  · rw [uI_n _ _ _ (by omega)]; exact a16
  · rw [uI_n _ _ _ (by omega)]; exact hl k p q
  · have q1 : k < C 11 6 := q
    rw [uI_n _ _ _ (by omega)]; exact hg k p q
  · rw [uI_n _ _ _ (by omega)]; exact ha k p q
  · obtain ⟨z1, z2, z3, z4⟩ := hs k p q
    exact ⟨by rw [uI_n _ _ _ (by omega)]; exact z1, by rw [uI_n _ _ _ (by omega)]; exact z2, by rw [uI_n _ _ _ (by omega)]; exact z3, by rw [uI_n _ _ _ (by omega)]; exact z4⟩
  · have q1 : k < T 8 0 - C 11 0 := q
    rw [uI_n _ _ _ (by omega)]; exact hk k p q
  · have q1 : k < C 11 1 := q
    rw [uI_n _ _ _ (by omega)]; exact hp k p q
  · have q1 : k < C 11 3 := q
    obtain ⟨z1, z2⟩ := hP k p q
    exact ⟨by rw [uI_n _ _ _ (by omega)]; exact z1, by rw [uI_n _ _ _ (by omega)]; exact z2⟩
  · obtain ⟨z1, z2⟩ := hj k p q
    refine ⟨by rw [uI_n _ _ _ (by omega)]; exact z1, ?_⟩
    by_cases e : k = j0
    · rw [e, uI_s, uI_s]
    · rw [uI_n _ _ _ (by omega), uI_n _ _ _ e]; exact z2

theorem RJ_gn {sa : Int → Int} {T C : Nat → Int → Int} {J : Int → Int} (v : Int) (h : RJ sa T C J) (hB : T 8 0 ≤ 40 ∧ 0 ≤ C 11 0 ∧ C 11 1 ≤ 40 ∧ C 11 3 ≤ 80 ∧ C 11 4 ≤ 140 ∧ C 11 6 ≤ 6) (h0 : C 11 6 < 6) (h1 : 0 ≤ C 11 6) (h7 : C 11 7 = C 11 6) : RJ (uI (uI sa (9 + C 11 6) (v)) (8) (C 11 6 + 1)) T (gAdd C v) (J) := by
  obtain ⟨⟨a0, a5, a6, a7, a8, a15, a16⟩, hl, hg, ha, hs, hk, hp, hP, hj⟩ := h
  refine ⟨⟨?_, ?_, ?_, ?_, ?_, ?_, ?_⟩, fun k p q => ?_, fun k p q => ?_, fun k p q => ?_, fun k p q => ?_, fun k p q => ?_, fun k p q => ?_, fun k p q => ?_, fun k p q => ?_⟩
  · rw [uI_n _ _ _ (by omega), uI_n _ _ _ (by omega)]; exact a0
  · rw [uI_n _ _ _ (by omega), uI_n _ _ _ (by omega)]; exact a5
  · rw [uI_n _ _ _ (by omega), uI_n _ _ _ (by omega)]; exact a6
  · rw [uI_n _ _ _ (by omega), uI_n _ _ _ (by omega)]; exact a7
  · rw [uI_s]; exact (gAdd_6 h0).symm
  · rw [uI_n _ _ _ (by omega), uI_n _ _ _ (by omega)]; exact a15
  · rw [uI_n _ _ _ (by omega), uI_n _ _ _ (by omega)]; exact a16
  · rw [uI_n _ _ _ (by omega), uI_n _ _ _ (by omega)]; exact hl k p q
  · have q2 : k < C 11 6 + 1 := (gAdd_6 (v := v) h0) ▸ q
    rw [gAdd_6 h0, gAdd_7, gAdd_10, h7, show ((C 11 6 + 1 - (C 11 6 + 1) + k) % 6 : Int) = k by omega, show C 11 6 % 6 = C 11 6 by omega]
    by_cases e : k = C 11 6
    · rw [e, uI_n _ _ _ (by omega), uI_s, uI_s]
    · have z := hg k p (by omega)
      rw [h7, show ((C 11 6 - C 11 6 + k) % 6 : Int) = k by omega] at z
      rw [uI_n _ _ _ (by omega), uI_n _ _ _ (by omega), uI_n _ _ _ e]; exact z
  · rw [uI_n _ _ _ (by omega), uI_n _ _ _ (by omega)]; exact ha k p q
  · obtain ⟨z1, z2, z3, z4⟩ := hs k p q
    exact ⟨by rw [uI_n _ _ _ (by omega), uI_n _ _ _ (by omega)]; exact z1, by rw [uI_n _ _ _ (by omega), uI_n _ _ _ (by omega)]; exact z2, by rw [uI_n _ _ _ (by omega), uI_n _ _ _ (by omega)]; exact z3, by rw [uI_n _ _ _ (by omega), uI_n _ _ _ (by omega)]; exact z4⟩
  · have q1 : k < T 8 0 - C 11 0 := q
    rw [uI_n _ _ _ (by omega), uI_n _ _ _ (by omega)]; exact hk k p q
  · have q1 : k < C 11 1 := q
    rw [uI_n _ _ _ (by omega), uI_n _ _ _ (by omega)]; exact hp k p q
  · have q1 : k < C 11 3 := q
    obtain ⟨z1, z2⟩ := hP k p q
    exact ⟨by rw [uI_n _ _ _ (by omega), uI_n _ _ _ (by omega)]; exact z1, by rw [uI_n _ _ _ (by omega), uI_n _ _ _ (by omega)]; exact z2⟩
  · have q1 : k < C 11 4 := q
    obtain ⟨z1, z2⟩ := hj k p q
    exact ⟨by rw [uI_n _ _ _ (by omega), uI_n _ _ _ (by omega)]; exact z1, by rw [uI_n _ _ _ (by omega), uI_n _ _ _ (by omega)]; exact z2⟩

theorem RJ_gf {sa : Int → Int} {T C : Nat → Int → Int} {J : Int → Int} (v w0 w1 w2 w3 w4 : Int) (h : RJ sa T C J) (hB : T 8 0 ≤ 40 ∧ 0 ≤ C 11 0 ∧ C 11 1 ≤ 40 ∧ C 11 3 ≤ 80 ∧ C 11 4 ≤ 140 ∧ C 11 6 ≤ 6) (h0 : C 11 6 = 6) (h7 : 6 ≤ C 11 7) (e0 : w0 = sa 10) (e1 : w1 = sa 11) (e2 : w2 = sa 12) (e3 : w3 = sa 13) (e4 : w4 = sa 14) : RJ (uI (uI (uI (uI (uI (uI (uI (uI sa (9) (w0)) (10) (w1)) (11) (w2)) (12) (w3)) (13) (w4)) (8) (5)) (14) (v)) (8) (6)) T (gAdd C v) (J) := by
  obtain ⟨⟨a0, a5, a6, a7, a8, a15, a16⟩, hl, hg, ha, hs, hk, hp, hP, hj⟩ := h
  refine ⟨⟨?_, ?_, ?_, ?_, ?_, ?_, ?_⟩, fun k p q => ?_, fun k p q => ?_, fun k p q => ?_, fun k p q => ?_, fun k p q => ?_, fun k p q => ?_, fun k p q => ?_, fun k p q => ?_⟩
  · rw [uI_n _ _ _ (by omega), uI_n _ _ _ (by omega), uI_n _ _ _ (by omega), uI_n _ _ _ (by omega), uI_n _ _ _ (by omega), uI_n _ _ _ (by omega), uI_n _ _ _ (by omega), uI_n _ _ _ (by omega)]; exact a0
  · rw [uI_n _ _ _ (by omega), uI_n _ _ _ (by omega), uI_n _ _ _ (by omega), uI_n _ _ _ (by omega), uI_n _ _ _ (by omega), uI_n _ _ _ (by omega), uI_n _ _ _ (by omega), uI_n _ _ _ (by omega)]; exact a5
  · rw [uI_n _ _ _ (by omega), uI_n _ _ _ (by omega), uI_n _ _ _ (by omega), uI_n _ _ _ (by omega), uI_n _ _ _ (by omega), uI_n _ _ _ (by omega), uI_n _ _ _ (by omega), uI_n _ _ _ (by omega)]; exact a6
  · rw [uI_n _ _ _ (by omega), uI_n _ _ _ (by omega), uI_n _ _ _ (by omega), uI_n _ _ _ (by omega), uI_n _ _ _ (by omega), uI_n _ _ _ (by omega), uI_n _ _ _ (by omega), uI_n _ _ _ (by omega)]; exact a7
  · rw [uI_s]; exact (gAdd_6f h0).symm
  · rw [uI_n _ _ _ (by omega), uI_n _ _ _ (by omega), uI_n _ _ _ (by omega), uI_n _ _ _ (by omega), uI_n _ _ _ (by omega), uI_n _ _ _ (by omega), uI_n _ _ _ (by omega), uI_n _ _ _ (by omega)]; exact a15
  · rw [uI_n _ _ _ (by omega), uI_n _ _ _ (by omega), uI_n _ _ _ (by omega), uI_n _ _ _ (by omega), uI_n _ _ _ (by omega), uI_n _ _ _ (by omega), uI_n _ _ _ (by omega), uI_n _ _ _ (by omega)]; exact a16
  · rw [uI_n _ _ _ (by omega), uI_n _ _ _ (by omega), uI_n _ _ _ (by omega), uI_n _ _ _ (by omega), uI_n _ _ _ (by omega), uI_n _ _ _ (by omega), uI_n _ _ _ (by omega), uI_n _ _ _ (by omega)]; exact hl k p q
  · have q2 : k < 6 := (gAdd_6f (v := v) h0) ▸ q
    rw [gAdd_6f h0, gAdd_7, gAdd_10]
    have y := fun i (a : 0 ≤ i) (b : i < 6) => hg i a (by omega)
    have y1 : sa 10 = C 10 ((C 11 7 - C 11 6 + 1) % 6) := by
      have z := y 1 (by decide) (by decide)
      rwa [show (9 : Int) + 1 = 10 by decide] at z
    have y2 : sa 11 = C 10 ((C 11 7 - C 11 6 + 2) % 6) := by
      have z := y 2 (by decide) (by decide)
      rwa [show (9 : Int) + 2 = 11 by decide] at z
    have y3 : sa 12 = C 10 ((C 11 7 - C 11 6 + 3) % 6) := by
      have z := y 3 (by decide) (by decide)
      rwa [show (9 : Int) + 3 = 12 by decide] at z
    have y4 : sa 13 = C 10 ((C 11 7 - C 11 6 + 4) % 6) := by
      have z := y 4 (by decide) (by decide)
      rwa [show (9 : Int) + 4 = 13 by decide] at z
    have y5 : sa 14 = C 10 ((C 11 7 - C 11 6 + 5) % 6) := by
      have z := y 5 (by decide) (by decide)
      rwa [show (9 : Int) + 5 = 14 by decide] at z
    have z : ∀ i : Int, 0 ≤ i → i < 5 → uI (C 10) (C 11 7 % 6) v ((C 11 7 + 1 - 6 + i) % 6) = C 10 ((C 11 7 - C 11 6 + (i + 1)) % 6) := fun i a b => by
      have e : (C 11 7 + 1 - 6 + i) % 6 = (C 11 7 - C 11 6 + (i + 1)) % 6 := by omega
      rw [e, uI_n _ _ _ (by omega)]
    have z5 : uI (C 10) (C 11 7 % 6) v ((C 11 7 + 1 - 6 + 5) % 6) = v := by
      have e : (C 11 7 + 1 - 6 + 5) % 6 = C 11 7 % 6 := by omega
      rw [e, uI_s]
    rcases (show k = 0 ∨ k = 1 ∨ k = 2 ∨ k = 3 ∨ k = 4 ∨ k = 5 by omega) with rfl | rfl | rfl | rfl | rfl | rfl
    · rw [z 0 (by decide) (by decide)]; simp only [uI_i]; simp; rw [e0, y1]
    · rw [z 1 (by decide) (by decide)]; simp only [uI_i]; simp; rw [e1, y2]
    · rw [z 2 (by decide) (by decide)]; simp only [uI_i]; simp; rw [e2, y3]
    · rw [z 3 (by decide) (by decide)]; simp only [uI_i]; simp; rw [e3, y4]
    · rw [z 4 (by decide) (by decide)]; simp only [uI_i]; simp; rw [e4, y5]
    · rw [z5]; simp only [uI_i]; simp
  · rw [uI_n _ _ _ (by omega), uI_n _ _ _ (by omega), uI_n _ _ _ (by omega), uI_n _ _ _ (by omega), uI_n _ _ _ (by omega), uI_n _ _ _ (by omega), uI_n _ _ _ (by omega), uI_n _ _ _ (by omega)]; exact ha k p q
  · obtain ⟨z1, z2, z3, z4⟩ := hs k p q
    exact ⟨by rw [uI_n _ _ _ (by omega), uI_n _ _ _ (by omega), uI_n _ _ _ (by omega), uI_n _ _ _ (by omega), uI_n _ _ _ (by omega), uI_n _ _ _ (by omega), uI_n _ _ _ (by omega), uI_n _ _ _ (by omega)]; exact z1, by rw [uI_n _ _ _ (by omega), uI_n _ _ _ (by omega), uI_n _ _ _ (by omega), uI_n _ _ _ (by omega), uI_n _ _ _ (by omega), uI_n _ _ _ (by omega), uI_n _ _ _ (by omega), uI_n _ _ _ (by omega)]; exact z2, by rw [uI_n _ _ _ (by omega), uI_n _ _ _ (by omega), uI_n _ _ _ (by omega), uI_n _ _ _ (by omega), uI_n _ _ _ (by omega), uI_n _ _ _ (by omega), uI_n _ _ _ (by omega), uI_n _ _ _ (by omega)]; exact z3, by rw [uI_n _ _ _ (by omega), uI_n _ _ _ (by omega), uI_n _ _ _ (by omega), uI_n _ _ _ (by omega), uI_n _ _ _ (by omega), uI_n _ _ _ (by omega), uI_n _ _ _ (by omega), uI_n _ _ _ (by omega)]; exact z4⟩
  · have q1 : k < T 8 0 - C 11 0 := q
    rw [uI_n _ _ _ (by omega), uI_n _ _ _ (by omega), uI_n _ _ _ (by omega), uI_n _ _ _ (by omega), uI_n _ _ _ (by omega), uI_n _ _ _ (by omega), uI_n _ _ _ (by omega), uI_n _ _ _ (by omega)]; exact hk k p q
  · have q1 : k < C 11 1 := q
    rw [uI_n _ _ _ (by omega), uI_n _ _ _ (by omega), uI_n _ _ _ (by omega), uI_n _ _ _ (by omega), uI_n _ _ _ (by omega), uI_n _ _ _ (by omega), uI_n _ _ _ (by omega), uI_n _ _ _ (by omega)]; exact hp k p q
  · have q1 : k < C 11 3 := q
    obtain ⟨z1, z2⟩ := hP k p q
    exact ⟨by rw [uI_n _ _ _ (by omega), uI_n _ _ _ (by omega), uI_n _ _ _ (by omega), uI_n _ _ _ (by omega), uI_n _ _ _ (by omega), uI_n _ _ _ (by omega), uI_n _ _ _ (by omega), uI_n _ _ _ (by omega)]; exact z1, by rw [uI_n _ _ _ (by omega), uI_n _ _ _ (by omega), uI_n _ _ _ (by omega), uI_n _ _ _ (by omega), uI_n _ _ _ (by omega), uI_n _ _ _ (by omega), uI_n _ _ _ (by omega), uI_n _ _ _ (by omega)]; exact z2⟩
  · have q1 : k < C 11 4 := q
    obtain ⟨z1, z2⟩ := hj k p q
    exact ⟨by rw [uI_n _ _ _ (by omega), uI_n _ _ _ (by omega), uI_n _ _ _ (by omega), uI_n _ _ _ (by omega), uI_n _ _ _ (by omega), uI_n _ _ _ (by omega), uI_n _ _ _ (by omega), uI_n _ _ _ (by omega)]; exact z1, by rw [uI_n _ _ _ (by omega), uI_n _ _ _ (by omega), uI_n _ _ _ (by omega), uI_n _ _ _ (by omega), uI_n _ _ _ (by omega), uI_n _ _ _ (by omega), uI_n _ _ _ (by omega), uI_n _ _ _ (by omega)]; exact z2⟩
