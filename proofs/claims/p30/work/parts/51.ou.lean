/-! THE CLASS'S PARSER: the setup that it reads into -/
section OUS
variable {f : Int → Int} {n kd ps pe pr : Int} {us f1 f2 f3 ls ss : Int} {y0 y1 y2 y3 y4 y5 y6 y7 : Int → Int} {X Y Z : Nat → Int → Int}
def OU (us f1 f2 f3 : Int) (y0 y1 y2 y3 y4 y5 y6 y7 : Int → Int) (ls ss : Int) (X : Nat → Int → Int) : Prop := (0 ≤ us ∧ us ≤ 40 ∧ 0 ≤ ls ∧ ls ≤ 1 ∧ 0 ≤ ss ∧ ss ≤ 1) ∧ (X 9 3 = 0 → (us = X 8 0 ∧ f1 = X 8 1 ∧ f2 = X 8 2 ∧ f3 = X 8 3) ∧ (∀ k : Int, 0 ≤ k → k < 4 → y7 k = X 7 k) ∧ (∀ s : Int, 0 ≤ s → s < us → y0 s = X 0 s ∧ y1 s = X 1 s ∧ y2 s = X 2 s ∧ y3 s = X 3 s ∧ y4 s = X 4 s ∧ y5 s = X 5 s ∧ y6 s = X 6 s) ∧ WT X ∧ ls = X 9 5 ∧ ss = X 9 6)
theorem OU_no (hb : 0 ≤ us ∧ us ≤ 40 ∧ 0 ≤ ls ∧ ls ≤ 1 ∧ 0 ≤ ss ∧ ss ≤ 1) (h : X 9 3 ≠ 0) : OU us f1 f2 f3 y0 y1 y2 y3 y4 y5 y6 y7 ls ss X := ⟨hb, fun z => absurd z h⟩
/-- nothing of the setup changes -/
def kpX (X Y : Nat → Int → Int) : Prop := Y 9 3 = 0 → X 9 3 = 0 ∧ (∀ p : Nat, p < 9 → X p = Y p) ∧ X 9 5 = Y 9 5 ∧ X 9 6 = Y 9 6
theorem kp_0 : kpX X X := fun z => ⟨z, fun _ _ => rfl, rfl, rfl⟩
theorem kp_tr (h : kpX X Y) (h2 : kpX Y Z) : kpX X Z := fun z => by
  obtain ⟨a1, a2, a3, a4⟩ := h2 z
  obtain ⟨b1, b2, b3, b4⟩ := h a1
  exact ⟨b1, fun p hp => (b2 p hp).trans (a2 p hp), b3.trans a3, b4.trans a4⟩
theorem kp_nx : kpX X (nxX f n X) := fun z => ⟨z, fun _ hp => nxX_r hp, rfl, rfl⟩
theorem kp_fa {k : Int} (hk : k ≠ 0) : kpX X (faX k X) := fun z => absurd z (faX_3 hk)
theorem kp_rd {lo hi : Int} : kpX X (rdX f n lo hi X) := by
  unfold rdX
  split
  · split
    · split
      · exact kp_nx
      · exact kp_fa (by decide)
    · exact kp_fa (by decide)
  · exact kp_0
theorem kp_ti {i : Nat} : kpX X (tiX f n i X) := by
  unfold tiX
  split
  · exact kp_nx
  · exact kp_0
theorem kp_tm : kpX X (tmX f n X) := by
  unfold tmX
  split
  · exact kp_nx
  · exact kp_0
theorem kp_se : kpX X (seX f n X) := by
  unfold seX
  split
  · exact kp_nx
  · exact kp_fa (by decide)
theorem kp_rs : kpX X (rsX f n X) := kp_tr (Y := rsA f n X) (kp_tr kp_rd kp_rd) (kp_tr (Y := tmX f n (rsA f n X)) kp_tm kp_rd)
theorem kp_gl : kpX X (glX f n X) := by
  unfold glX
  split
  · exact kp_tr kp_nx kp_rd
  · exact kp_0
theorem kp_sh4 : kpX X (sh4 f n X) := kp_tr kp_rs (kp_tr kp_rd (kp_tr kp_rd kp_gl))
theorem kp_cd4 : kpX X (cd4 f n X) := kp_tr kp_rd (kp_tr kp_rs kp_gl)
theorem OU_kp (h : OU us f1 f2 f3 y0 y1 y2 y3 y4 y5 y6 y7 ls ss X) (hk : kpX X Y) : OU us f1 f2 f3 y0 y1 y2 y3 y4 y5 y6 y7 ls ss Y := ⟨h.1, fun z => by
  obtain ⟨a1, a2, a3, a4⟩ := hk z
  obtain ⟨b1, b2, b3, b4, b5, b6⟩ := h.2 a1
  refine ⟨?_, ?_, ?_, WT_cg b4 a2, b5.trans a3, b6.trans a4⟩
  · rw [← a2 8 (by decide)]; exact b1
  · rw [← a2 7 (by decide)]; exact b2
  · rw [← a2 0 (by decide), ← a2 1 (by decide), ← a2 2 (by decide), ← a2 3 (by decide), ← a2 4 (by decide), ← a2 5 (by decide), ← a2 6 (by decide)]; exact b3⟩
theorem OU_put {a b c d e g j : Int} (h : OU us f1 f2 f3 y0 y1 y2 y3 y4 y5 y6 y7 ls ss X) (h0 : X 9 3 = 0) (h40 : us < 40) (hv : vOk [a, b, c, d, e, g, j]) : OU (us + 1) f1 f2 f3 (uI y0 us a) (uI y1 us b) (uI y2 us c) (uI y3 us d) (uI y4 us e) (uI y5 us g) (uI y6 us j) y7 ls ss (putS X [a, b, c, d, e, g, j]) := by
  obtain ⟨q, h2⟩ := h
  obtain ⟨⟨a0, a1, a2, a3⟩, r2, r3, ⟨⟨w1, w2, w3⟩, w4, w5⟩, e1, e2⟩ := h2 h0
  refine ⟨by omega, fun _ => ⟨⟨?_, a1, a2, a3⟩, r2, fun s x y => ?_, ⟨⟨(show 0 ≤ X 8 0 + 1 by omega), (show X 8 0 + 1 ≤ 40 by omega), w3⟩, w4, fun s x y => ?_⟩, e1, e2⟩⟩
  · rw [a0]; exact (uI_s (X 8) 0 _).symm
  · show uI y0 us a s = uI (X 0) (X 8 0) a s ∧ uI y1 us b s = uI (X 1) (X 8 0) b s ∧ uI y2 us c s = uI (X 2) (X 8 0) c s ∧ uI y3 us d s = uI (X 3) (X 8 0) d s ∧ uI y4 us e s = uI (X 4) (X 8 0) e s ∧ uI y5 us g s = uI (X 5) (X 8 0) g s ∧ uI y6 us j s = uI (X 6) (X 8 0) j s
    rw [← a0]
    by_cases ee : s = us
    · rw [ee, uI_s, uI_s, uI_s, uI_s, uI_s, uI_s, uI_s, uI_s, uI_s, uI_s, uI_s, uI_s, uI_s, uI_s]
      exact ⟨rfl, rfl, rfl, rfl, rfl, rfl, rfl⟩
    · rw [uI_n _ _ _ ee, uI_n _ _ _ ee, uI_n _ _ _ ee, uI_n _ _ _ ee, uI_n _ _ _ ee, uI_n _ _ _ ee, uI_n _ _ _ ee, uI_n _ _ _ ee, uI_n _ _ _ ee, uI_n _ _ _ ee, uI_n _ _ _ ee, uI_n _ _ _ ee, uI_n _ _ _ ee, uI_n _ _ _ ee]
      exact r3 s x (by omega)
  · have y2 : s < X 8 0 + 1 := y
    show 50 ≤ uI (X 0) (X 8 0) a s ∧ uI (X 0) (X 8 0) a s ≤ 500 ∧ 30 ≤ uI (X 1) (X 8 0) b s ∧ uI (X 1) (X 8 0) b s ≤ 500 ∧ -99 ≤ uI (X 2) (X 8 0) c s ∧ uI (X 2) (X 8 0) c s ≤ 99 ∧ 0 ≤ uI (X 3) (X 8 0) d s ∧ uI (X 3) (X 8 0) d s ≤ 1000 ∧ 0 ≤ uI (X 4) (X 8 0) e s ∧ uI (X 4) (X 8 0) e s ≤ 1000 ∧ -1 ≤ uI (X 5) (X 8 0) g s ∧ uI (X 5) (X 8 0) g s ≤ 999 ∧ -1 ≤ uI (X 6) (X 8 0) j s ∧ uI (X 6) (X 8 0) j s ≤ 400
    by_cases ee : s = X 8 0
    · rw [ee, uI_s, uI_s, uI_s, uI_s, uI_s, uI_s, uI_s]; exact hv
    · rw [uI_n _ _ _ ee, uI_n _ _ _ ee, uI_n _ _ _ ee, uI_n _ _ _ ee, uI_n _ _ _ ee, uI_n _ _ _ ee, uI_n _ _ _ ee]
      exact w5 s x (by omega)
/-- a number that was to be taken -/
abbrev tkN (f : Int → Int) (n lo hi : Int) (X : Nat → Int → Int) (r : Int) : Prop := (rdX f n lo hi X 9 3 = 0 → r = nuV f X ∧ lo ≤ r) ∧ -1 ≤ r ∧ r ≤ hi
/-- what is done to the amount -/
abbrev sgV (f : Int → Int) (n : Int) (Y : Nat → Int → Int) (a c : Int) : Prop := c = if lessQ (rsA f n Y) then -a else a
theorem OU_sht {a b m c d e g : Int} (hC : X 9 3 = 0 ∧ us < 40) (hO : OU us f1 f2 f3 y0 y1 y2 y3 y4 y5 y6 y7 ls ss X) (ha : tkN f n 50 500 (nxX f n X) a) (hb : tkN f n 30 500 (rdX f n 50 500 (nxX f n X)) b) (hm : tkN f n 0 99 (tmX f n (rsA f n (nxX f n X))) m) (hc : sgV f n (nxX f n X) m c) (hd : tkN f n 0 1000 (rsX f n (nxX f n X)) d) (he : tkN f n 0 1000 (rdX f n 0 1000 (rsX f n (nxX f n X))) e) (hg : sh4 f n (nxX f n X) 9 3 = 0 → g = glV f n (rdX f n 0 1000 (rdX f n 0 1000 (rsX f n (nxX f n X)))) ∧ -1 ≤ g ∧ g ≤ 400) :
    OU (us + 1) f1 f2 f3 (uI y0 us a) (uI y1 us b) (uI y2 us c) (uI y3 us d) (uI y4 us e) (uI y5 us (-1)) (uI y6 us g) y7 ls ss (shtX f n X) := by
  have e80 := (hO.2 hC.1).1.1
  have hC2 : X 9 3 = 0 ∧ X 8 0 < 40 := ⟨hC.1, by omega⟩
  by_cases h4 : sh4 f n (nxX f n X) 9 3 = 0
  · have z := sh4_z h4
    have z2 := rsX_z z.2.2
    obtain ⟨a1, a2⟩ := ha.1 z2.2.2.1
    obtain ⟨b1, b2⟩ := hb.1 z2.2.1
    obtain ⟨m1, m2⟩ := hm.1 z.2.2
    obtain ⟨d1, d2⟩ := hd.1 z.2.1
    obtain ⟨e1, e2⟩ := he.1 z.1
    obtain ⟨g1, g2, g3⟩ := hg h4
    have hcr : -99 ≤ c ∧ c ≤ 99 := by have w := hm.2; rw [hc]; split <;> omega
    have ev : [a, b, c, d, e, -1, g] = shv f n (nxX f n X) := by
      unfold shv
      rw [hc, a1, b1, m1, d1, e1, g1]
      rfl
    have q := OU_put (OU_kp hO (kp_tr (kp_nx (f := f) (n := n)) (kp_sh4 (f := f) (n := n)))) h4 hC.2 (hv := ⟨a2, ha.2.2, b2, hb.2.2, hcr.1, hcr.2, d2, hd.2.2, e2, he.2.2, (by decide : (-1 : Int) ≤ -1), (by decide : (-1 : Int) ≤ 999), g2, g3⟩)
    rw [sht_t hC2 h4, ← ev]
    exact q
  · rw [sht_f hC2 h4]
    exact OU_no (by have w := hO.1; omega) h4
theorem OU_cod {a b m c d g : Int} (hC : X 9 3 = 0 ∧ us < 40) (hO : OU us f1 f2 f3 y0 y1 y2 y3 y4 y5 y6 y7 ls ss X) (hd : tkN f n 0 999 (nxX f n X) d) (ha : tkN f n 50 500 (rdX f n 0 999 (nxX f n X)) a) (hb : tkN f n 30 500 (rdX f n 50 500 (rdX f n 0 999 (nxX f n X))) b) (hm : tkN f n 0 99 (tmX f n (rsA f n (rdX f n 0 999 (nxX f n X)))) m) (hc : sgV f n (rdX f n 0 999 (nxX f n X)) m c) (hg : cd4 f n (nxX f n X) 9 3 = 0 → g = glV f n (rsX f n (rdX f n 0 999 (nxX f n X))) ∧ -1 ≤ g ∧ g ≤ 400) :
    OU (us + 1) f1 f2 f3 (uI y0 us a) (uI y1 us b) (uI y2 us c) (uI y3 us 0) (uI y4 us 0) (uI y5 us d) (uI y6 us g) y7 ls ss (codX f n X) := by
  have e80 := (hO.2 hC.1).1.1
  have hC2 : X 9 3 = 0 ∧ X 8 0 < 40 := ⟨hC.1, by omega⟩
  by_cases h4 : cd4 f n (nxX f n X) 9 3 = 0
  · have z := cd4_z h4
    have z2 := rsX_z z.1
    obtain ⟨a1, a2⟩ := ha.1 z2.2.2.1
    obtain ⟨b1, b2⟩ := hb.1 z2.2.1
    obtain ⟨m1, m2⟩ := hm.1 z.1
    obtain ⟨d1, d2⟩ := hd.1 z.2
    obtain ⟨g1, g2, g3⟩ := hg h4
    have hcr : -99 ≤ c ∧ c ≤ 99 := by have w := hm.2; rw [hc]; split <;> omega
    have ev : [a, b, c, 0, 0, d, g] = cdv f n (nxX f n X) := by
      unfold cdv
      rw [hc, a1, b1, m1, d1, g1]
      rfl
    have q := OU_put (OU_kp hO (kp_tr (kp_nx (f := f) (n := n)) (kp_cd4 (f := f) (n := n)))) h4 hC.2 (hv := ⟨a2, ha.2.2, b2, hb.2.2, hcr.1, hcr.2, (by decide : (0 : Int) ≤ 0), (by decide : (0 : Int) ≤ 1000), (by decide : (0 : Int) ≤ 0), (by decide : (0 : Int) ≤ 1000), (show -1 ≤ d by omega), hd.2.2, g2, g3⟩)
    rw [cod_t hC2 h4, ← ev]
    exact q
  · rw [cod_f hC2 h4]
    exact OU_no (by have w := hO.1; omega) h4
theorem PX_sht (hC : X 9 3 = 0 ∧ X 8 0 < 40) (h : PX f n kd ps pe pr (sh4 f n (nxX f n X))) : PX f n kd ps pe pr (shtX f n X) := by
  by_cases h4 : sh4 f n (nxX f n X) 9 3 = 0
  · rw [sht_t hC h4]; exact PX_c9 h (fun _ _ _ => rfl)
  · rw [sht_f hC h4]; exact h
theorem PX_cod (hC : X 9 3 = 0 ∧ X 8 0 < 40) (h : PX f n kd ps pe pr (cd4 f n (nxX f n X))) : PX f n kd ps pe pr (codX f n X) := by
  by_cases h4 : cd4 f n (nxX f n X) 9 3 = 0
  · rw [cod_t hC h4]; exact PX_c9 h (fun _ _ _ => rfl)
  · rw [cod_f hC h4]; exact h
end OUS
