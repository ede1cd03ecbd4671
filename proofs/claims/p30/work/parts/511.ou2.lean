/-! THE CLASS'S PARSER: lines -/
section OUL
variable {f : Int → Int} {n kd ps pe pr : Int} {us f1 f2 f3 ls ss : Int} {y0 y1 y2 y3 y4 y5 y6 y7 : Int → Int} {X Y Z : Nat → Int → Int}
theorem PX_gt (hw : wdX f Z 6) (h : PX f n kd ps pe pr (rdX f n 0 400 (tiX f n 6 Z))) : PX f n kd ps pe pr (glX f n Z) := by
  rw [gl_ti hw]; exact h
theorem PX_gn (hw : ¬ wdX f Z 6) (h : PX f n kd ps pe pr (tiX f n 6 Z)) : PX f n kd ps pe pr (glX f n Z) := by
  rw [gl_tn hw]; exact h
theorem GV_t {g : Int} (hw : wdX f Z 6) (h : tkN f n 0 400 (tiX f n 6 Z) g) : glX f n Z 9 3 = 0 → g = glV f n Z ∧ -1 ≤ g ∧ g ≤ 400 := fun w => by
  rw [gl_ti hw] at w
  have z := h.1 w
  refine ⟨?_, h.2⟩
  unfold glV
  rw [if_pos hw, z.1]
  unfold tiX
  rw [if_pos hw]
theorem GV_n (hw : ¬ wdX f Z 6) : glX f n Z 9 3 = 0 → -1 = glV f n Z ∧ -1 ≤ (-1 : Int) ∧ (-1 : Int) ≤ 400 := fun _ => ⟨glV_n hw, by decide, by decide⟩
theorem rd_in {lo hi : Int} (h : rdX f n lo hi X 9 3 = 0) : (X 9 3 = 0 ∧ X 9 2 = 2) ∧ (lo ≤ nuV f X ∧ nuV f X ≤ hi) ∧ rdX f n lo hi X = nxX f n X := by
  have z := rdX_z h
  unfold rdX at h ⊢
  rw [if_pos z] at h ⊢
  by_cases c : X 9 2 = 2
  · rw [if_pos c] at h ⊢
    by_cases d : lo ≤ nuV f X ∧ nuV f X ≤ hi
    · rw [if_pos d]; exact ⟨⟨z, c⟩, d, rfl⟩
    · rw [if_neg d] at h; exact absurd h (faX_3 (by decide))
  · rw [if_neg c] at h; exact absurd h (faX_3 (by decide))
theorem ag_r (h : X 9 3 = 0 ∧ 0 < X 8 0) (h2 : rdX f n 1 39 (nxX f n X) 9 3 ≠ 0) : agX f n X = rdX f n 1 39 (nxX f n X) := by
  unfold agX rdX at *
  have z : nxX f n X 9 3 = 0 := h.1
  rw [if_pos h]
  rw [if_pos z] at h2 ⊢
  by_cases c : nxX f n X 9 2 = 2
  · rw [if_pos c] at h2
    rw [if_pos c, if_pos c]
    by_cases d : 1 ≤ nuV f (nxX f n X) ∧ nuV f (nxX f n X) ≤ 39
    · rw [if_pos d] at h2; exact absurd z h2
    · rw [if_neg d, if_neg d]
  · rw [if_neg c, if_neg c]
theorem PX_e5 {k1 s1 e1 r1 : Int} (hy : PX f n k1 s1 e1 r1 Y) (h0 : Y 9 3 = 0) (h : PX f n kd ps pe pr Z) : PX f n kd ps pe (8 * s1 + 5) (faX 5 Y) := by
  have e : faX 5 Y = st Y 9 (uI (uI (Y 9) 3 5) 4 (Y 9 0)) := if_pos h0
  have e3 : faX 5 Y 9 3 = 5 := by rw [e]; rfl
  have e4 : faX 5 Y 9 4 = Y 9 0 := by rw [e]; rfl
  have w := (PX_1 hy h0).1
  have b := hy.2.2.2
  unfold PX
  rw [e3, e4, if_neg (by decide)]
  exact ⟨by omega, by omega, fun z => absurd z (by decide), h.2.2.2⟩
theorem PX_li {k lo hi : Int} (h : PX f n kd ps pe pr (rdX f n lo hi X)) : PX f n kd ps pe pr (liX f n k lo hi X) := by
  unfold liX
  split
  · exact PX_c9 h (fun _ _ _ => rfl)
  · exact h
theorem OU_rep {t : Int} (h : OU us f1 f2 f3 y0 y1 y2 y3 y4 y5 y6 y7 ls ss X) (h3 : X 9 3 = 0) (h0 : 0 < us) (ht : 1 ≤ t) (h40 : us + t ≤ 40) : OU (us + t) f1 f2 f3 (fil y0 us (us + t) (y0 (us - 1))) (fil y1 us (us + t) (y1 (us - 1))) (fil y2 us (us + t) (y2 (us - 1))) (fil y3 us (us + t) (y3 (us - 1))) (fil y4 us (us + t) (y4 (us - 1))) (fil y5 us (us + t) (y5 (us - 1))) (fil y6 us (us + t) (y6 (us - 1))) y7 ls ss (repX X t) := by
  obtain ⟨q, h2⟩ := h
  obtain ⟨⟨a0, a1, a2, a3⟩, r2, r3, w, e1, e2⟩ := h2 h3
  refine ⟨by omega, fun _ => ⟨⟨?_, a1, a2, a3⟩, r2, fun s x y => ?_, WT_rep w (by omega) ht (by omega), e1, e2⟩⟩
  · rw [a0]; exact (uI_s (X 8) 0 _).symm
  · show fil y0 us (us + t) (y0 (us - 1)) s = fil (X 0) (X 8 0) (X 8 0 + t) (X 0 (X 8 0 - 1)) s ∧ fil y1 us (us + t) (y1 (us - 1)) s = fil (X 1) (X 8 0) (X 8 0 + t) (X 1 (X 8 0 - 1)) s ∧ fil y2 us (us + t) (y2 (us - 1)) s = fil (X 2) (X 8 0) (X 8 0 + t) (X 2 (X 8 0 - 1)) s ∧ fil y3 us (us + t) (y3 (us - 1)) s = fil (X 3) (X 8 0) (X 8 0 + t) (X 3 (X 8 0 - 1)) s ∧ fil y4 us (us + t) (y4 (us - 1)) s = fil (X 4) (X 8 0) (X 8 0 + t) (X 4 (X 8 0 - 1)) s ∧ fil y5 us (us + t) (y5 (us - 1)) s = fil (X 5) (X 8 0) (X 8 0 + t) (X 5 (X 8 0 - 1)) s ∧ fil y6 us (us + t) (y6 (us - 1)) s = fil (X 6) (X 8 0) (X 8 0 + t) (X 6 (X 8 0 - 1)) s
    rw [← a0]
    by_cases c : s < us
    · have o : ¬ (us ≤ s ∧ s < us + t) := by omega
      rw [fil_out o, fil_out o, fil_out o, fil_out o, fil_out o, fil_out o, fil_out o, fil_out o, fil_out o, fil_out o, fil_out o, fil_out o, fil_out o, fil_out o]
      exact r3 s x c
    · have o1 : us ≤ s := by omega
      rw [fil_in o1 y, fil_in o1 y, fil_in o1 y, fil_in o1 y, fil_in o1 y, fil_in o1 y, fil_in o1 y, fil_in o1 y, fil_in o1 y, fil_in o1 y, fil_in o1 y, fil_in o1 y, fil_in o1 y, fil_in o1 y]
      exact r3 (us - 1) (by omega) (by omega)
theorem OU_li {k lo hi v : Int} (h : OU us f1 f2 f3 y0 y1 y2 y3 y4 y5 y6 y7 ls ss X) (hk : 0 ≤ k ∧ k < 4) (hv : tkN f n lo hi X v) (hl : (k = 0 → lo = 101 ∧ hi = 300) ∧ (k = 1 → lo = 0 ∧ hi = 200) ∧ (k = 2 → lo = 0 ∧ hi = 99) ∧ (k = 3 → lo = 0 ∧ hi = 1000)) : OU us f1 f2 f3 y0 y1 y2 y3 y4 y5 y6 (uI y7 k v) ls ss (liX f n k lo hi X) := by
  by_cases e : rdX f n lo hi X 9 3 = 0
  · rw [show liX f n k lo hi X = st (rdX f n lo hi X) 7 (uI (X 7) k (nuV f X)) from if_pos e]
    have ev := hv.1 e
    have hr := hv.2
    obtain ⟨q, h2⟩ := OU_kp h (kp_rd (f := f) (n := n) (lo := lo) (hi := hi))
    obtain ⟨⟨a0, a1, a2, a3⟩, r2, r3, w, e1, e2⟩ := h2 e
    refine ⟨q, fun _ => ⟨⟨a0, a1, a2, a3⟩, fun j x y => ?_, r3, ?_, e1, e2⟩⟩
    · show uI y7 k v j = uI (X 7) k (nuV f X) j
      rw [rdX_r (by decide)] at r2
      by_cases ej : j = k
      · rw [ej, uI_s, uI_s]; exact ev.1
      · rw [uI_n _ _ _ ej, uI_n _ _ _ ej]; exact r2 j x y
    · obtain ⟨w8, w7, w9⟩ := w
      rw [rdX_r (by decide)] at w7
      refine ⟨w8, ?_, w9⟩
      show 101 ≤ uI (X 7) k (nuV f X) 0 ∧ uI (X 7) k (nuV f X) 0 ≤ 300 ∧ 0 ≤ uI (X 7) k (nuV f X) 1 ∧ uI (X 7) k (nuV f X) 1 ≤ 200 ∧ 0 ≤ uI (X 7) k (nuV f X) 2 ∧ uI (X 7) k (nuV f X) 2 ≤ 99 ∧ 0 ≤ uI (X 7) k (nuV f X) 3 ∧ uI (X 7) k (nuV f X) 3 ≤ 1000
      rw [← ev.1]
      unfold uI
      (repeat' split) <;> omega
  · rw [show liX f n k lo hi X = rdX f n lo hi X from if_neg e]
    exact OU_no h.1 e
theorem OU_l5 (h : OU us f1 f2 f3 y0 y1 y2 y3 y4 y5 y6 y7 ls ss X) (h0 : X 9 3 = 0) : OU us f1 f2 f3 y0 y1 y2 y3 y4 y5 y6 y7 1 ss (nxX f n (st X 9 (uI (X 9) 5 1))) := by
  obtain ⟨q, h2⟩ := h
  obtain ⟨a, r2, r3, w, e1, e2⟩ := h2 h0
  have z : OU us f1 f2 f3 y0 y1 y2 y3 y4 y5 y6 y7 1 ss (st X 9 (uI (X 9) 5 1)) := ⟨by omega, fun _ => ⟨a, r2, r3, WT_cg w (fun p hp => (if_neg (by omega) : (st X 9 (uI (X 9) 5 1)) p = X p).symm), rfl, e2⟩⟩
  exact OU_kp z kp_nx
theorem OU_si (h : OU us f1 f2 f3 y0 y1 y2 y3 y4 y5 y6 y7 ls ss X) (h0 : X 9 3 = 0) : OU us f1 f2 0 y0 y1 y2 y3 y4 y5 y6 y7 ls 1 (st (nxX f n (st X 9 (uI (X 9) 6 1))) 8 (uI (X 8) 3 0)) := by
  obtain ⟨q, h2⟩ := h
  obtain ⟨⟨a0, a1, a2, a3⟩, r2, r3, w, e1, e2⟩ := h2 h0
  refine ⟨by omega, fun _ => ⟨⟨a0, a1, a2, rfl⟩, r2, r3, ?_, e1, rfl⟩⟩
  obtain ⟨⟨w1, w2, w3, w4, w5, w6, w7, w8⟩, w9, w10⟩ := w
  exact ⟨⟨w1, w2, w3, w4, w5, w6, Int.le_refl 0, (by decide : (0 : Int) ≤ 1)⟩, w9, w10⟩
theorem fe_y (h : wdX f (fe0 f n) 0) : tiX f n 0 (fe0 f n) = feX f n := by
  unfold tiX feX
  rw [if_pos h, if_pos h]
theorem fe_n (h : ¬ wdX f (fe0 f n) 0) : faX 1 (tiX f n 0 (fe0 f n)) = feX f n := by
  unfold tiX feX
  rw [if_neg h, if_neg h]
theorem PX_hd (h : PX f n kd ps pe pr (hd3 f n)) : PX f n kd ps pe pr (hdX f n) := PX_c9 h (fun k _ _ => by rw [hd_bits])
theorem OU_hd {a b : Int} (ha : tkN f n 50 500 (feX f n) a) (hb : tkN f n 30 500 (rdX f n 50 500 (feX f n)) b) : OU 0 a b 1 y0 y1 y2 y3 y4 y5 y6 usK 0 0 (hdX f n) := by
  refine ⟨by decide, fun z => ?_⟩
  have z3 : hd3 f n 9 3 = 0 := by rw [← hd_bits]; exact z
  obtain ⟨ea, ra⟩ := ha.1 (rdX_z (X := rdX f n 50 500 (feX f n)) z3)
  obtain ⟨eb, rb⟩ := hb.1 z3
  have e : hdX f n = st (hd3 f n) 8 (uI (uI (hd3 f n 8) 1 a) 2 b) := by
    unfold hdX
    rw [if_pos z3, ← ea, ← eb]
  rw [e]
  have x7 : (st (hd3 f n) 8 (uI (uI (hd3 f n 8) 1 a) 2 b)) 7 = in0 7 := (if_neg (by decide)).trans (hd3_r (by decide))
  have x8 : (st (hd3 f n) 8 (uI (uI (hd3 f n 8) 1 a) 2 b)) 8 = uI (uI (in0 8) 1 a) 2 b := by
    show uI (uI (hd3 f n 8) 1 a) 2 b = _
    rw [hd3_r (by decide)]
  have x9 : (st (hd3 f n) 8 (uI (uI (hd3 f n 8) 1 a) 2 b)) 9 = hd3 f n 9 := if_neg (by decide)
  have q0 : uI (uI (in0 8) 1 a) 2 b 0 = 0 := rfl
  have q1 : uI (uI (in0 8) 1 a) 2 b 1 = a := rfl
  have q2 : uI (uI (in0 8) 1 a) 2 b 2 = b := rfl
  have q3 : uI (uI (in0 8) 1 a) 2 b 3 = 1 := rfl
  refine ⟨⟨?_, ?_, ?_, ?_⟩, fun k p q => ?_, fun s x y => ?_, ⟨?_, ?_, fun s x y => ?_⟩, ?_, ?_⟩
  · rw [x8, q0]
  · rw [x8, q1]
  · rw [x8, q2]
  · rw [x8, q3]
  · rw [x7]
    have c : k = 0 ∨ k = 1 ∨ k = 2 ∨ k = 3 := by omega
    rcases c with rfl | rfl | rfl | rfl <;> rfl
  · omega
  · have ha2 := ha.2.2; have hb2 := hb.2.2; rw [x8, q0, q1, q2, q3]; omega
  · rw [x7]; decide
  · rw [x8, q0] at y; omega
  · rw [x9]; unfold hd3; rw [(rdX_56 _ _ _).1, (rdX_56 _ _ _).1, fe_56.1]
  · rw [x9]; unfold hd3; rw [(rdX_56 _ _ _).2, (rdX_56 _ _ _).2, fe_56.2]
/-- the loop over the statements goes on by a byte at least -/
theorem lo_k {k : Int} (h : beh n 0 X) (c : X 9 3 = 0 ∧ X 9 2 ≠ 0) (hk : k ≤ X 9 0) : stX f n X 9 3 = 0 → k + 1 ≤ stX f n X 9 0 := fun z => by
  have b := h c.1
  have w := st_on (f := f) (fun _ => by omega) z c.1
  have b2 := b.2.2.2 c.2
  omega
theorem lo_n {k : Int} (h : beh n 0 X) (hn : n ≤ 700) (hk : X 9 3 = 0 → k ≤ X 9 0) (h7 : 700 ≤ k) : ¬ (X 9 3 = 0 ∧ X 9 2 ≠ 0) := fun c => by
  have b := h c.1
  have b2 := b.2.2.2 c.2
  have b3 := hk c.1
  omega
end OUL
