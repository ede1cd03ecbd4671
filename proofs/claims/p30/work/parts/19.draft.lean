/-! THE DRAFT -/
section DRF
variable {f dr : Int → Int} {n ts te tk nu er eo hL hS : Int} {X : Nat → Int → Int}
def DR (dr : Int → Int) (hL hS : Int) (X : Nat → Int → Int) : Prop := (0 ≤ hL ∧ hL ≤ 1 ∧ 0 ≤ hS ∧ hS ≤ 1) ∧ (X 9 3 = 0 → RT dr X ∧ WT X ∧ hL = X 9 5 ∧ hS = X 9 6)
theorem DR_no (h : DR dr hL hS X) {d2 : Int → Int} {l2 s2 : Int} {Y : Nat → Int → Int} (hb : 0 ≤ l2 ∧ l2 ≤ 1 ∧ 0 ≤ s2 ∧ s2 ≤ 1) (e : Y 9 3 ≠ 0) : DR d2 l2 s2 Y := ⟨hb, fun z => absurd z e⟩
theorem RT_cg {Y : Nat → Int → Int} (h : RT dr X) (e : ∀ p : Nat, p < 9 → X p = Y p) : RT dr Y := by
  obtain ⟨r1, r2, r3⟩ := h
  rw [e 8 (by decide)] at r1 r3
  rw [e 7 (by decide)] at r2
  exact ⟨r1, r2, fun s p a b c => by rw [← e p (by omega)]; exact r3 s p a b c⟩
theorem WT_cg {Y : Nat → Int → Int} (h : WT X) (e : ∀ p : Nat, p < 9 → X p = Y p) : WT Y := by
  unfold WT at h ⊢
  rw [e 8 (by decide), e 7 (by decide), e 0 (by decide), e 1 (by decide), e 2 (by decide), e 3 (by decide), e 4 (by decide), e 5 (by decide), e 6 (by decide)] at h
  exact h
theorem nxX_r {p : Nat} (h : p < 9) : X p = nxX f n X p := by
  unfold nxX st
  rw [if_neg (by omega)]
theorem DR_nx (h : DR dr hL hS X) : DR dr hL hS (nxX f n X) := ⟨h.1, fun z => ⟨RT_cg (h.2 z).1 (fun _ => nxX_r), WT_cg (h.2 z).2.1 (fun _ => nxX_r), (h.2 z).2.2⟩⟩
theorem DR_fa {k : Int} (h : DR dr hL hS X) (hk : k ≠ 0) : DR dr hL hS (faX k X) := DR_no h h.1 (faX_3 hk)
theorem DR_rd {lo hi : Int} (h : DR dr hL hS X) : DR dr hL hS (rdX f n lo hi X) := by
  unfold rdX
  split
  · split
    · split
      · exact DR_nx h
      · exact DR_fa h (by decide)
    · exact DR_fa h (by decide)
  · exact h
def simX (f : Int → Int) (n : Int) (X : Nat → Int → Int) : Nat → Int → Int := if X 9 3 = 0 ∧ X 9 6 = 0 then st (nxX f n (st X 9 (uI (X 9) 6 1))) 8 (uI (X 8) 3 0) else faX 2 X
theorem DR_si (h : DR dr hL hS X) (h0 : X 9 3 = 0) : DR (uI dr 3 0) hL 1 (st (nxX f n (st X 9 (uI (X 9) 6 1))) 8 (uI (X 8) 3 0)) := by
  obtain ⟨⟨b1, b2, b3, b4⟩, h2⟩ := h
  obtain ⟨⟨r1, r2, r3⟩, w, e1, e2⟩ := h2 h0
  refine ⟨⟨b1, b2, by decide, by decide⟩, fun _ => ⟨⟨⟨?_, ?_, ?_, ?_⟩, fun k p q => ?_, fun s p a b c => ?_⟩, ?_, e1, rfl⟩⟩
  · rw [uI_n _ _ _ (by decide)]; exact r1.1
  · rw [uI_n _ _ _ (by decide)]; exact r1.2.1
  · rw [uI_n _ _ _ (by decide)]; exact r1.2.2.1
  · rw [uI_s]; rfl
  · rw [uI_n _ _ _ (by omega)]; exact r2 k p q
  · have b' : s < X 8 0 := b
    rw [uI_n _ _ _ (by omega)]
    have e : (st (nxX f n (st X 9 (uI (X 9) 6 1))) 8 (uI (X 8) 3 0)) p = X p := by
      have n8 : p ≠ 8 := by omega
      have n9 : p ≠ 9 := by omega
      unfold nxX st
      rw [if_neg n8, if_neg n9, if_neg n9]
    rw [e]
    exact r3 s p a b' c
  · obtain ⟨⟨w1, w2, w3, w4, w5, w6, w7, w8⟩, w9, w10⟩ := w
    exact ⟨⟨w1, w2, w3, w4, w5, w6, Int.le_refl 0, (by decide : (0 : Int) ≤ 1)⟩, w9, w10⟩
theorem PR_c9 {Y : Nat → Int → Int} (h : PR f n ts te tk nu er eo X) (e : ∀ k : Int, 0 ≤ k → k < 5 → X 9 k = Y 9 k) : PR f n ts te tk nu er eo Y := by
  unfold PR nuV at h ⊢
  rw [e 0 (by decide) (by decide), e 1 (by decide) (by decide), e 2 (by decide) (by decide), e 3 (by decide) (by decide), e 4 (by decide) (by decide)] at h
  exact h
theorem mu_fa {b k : Int} (h : ¬ (X 9 3 = 0 ∧ b = 1)) : muX b k X = faX k X := by
  by_cases e : b = 1
  · rw [show muX b k X = X from if_pos e, faX_n (fun z => h ⟨z, e⟩)]
  · exact if_neg e
theorem PR_muf {b k : Int} (h : PR f n ts te tk nu er eo (muX b k X)) (hb : ¬ (X 9 3 = 0 ∧ b = 1)) : PR f n ts te tk nu er eo (faX k X) := mu_fa hb ▸ h
theorem PR_si {b : Int} (h : PR f n ts te tk nu er eo (goX f n (muX b 2 X))) (hb : X 9 3 = 0 ∧ b = 1) : PR f n ts te tk nu er eo (st (nxX f n (st X 9 (uI (X 9) 6 1))) 8 (uI (X 8) 3 0)) := by
  rw [show muX b 2 X = X from if_pos hb.2, show goX f n X = nxX f n X from if_pos hb.1] at h
  refine PR_c9 h (fun k a c => ?_)
  show uI (uI (uI (X 9) 0 (sk f n (X 9 1))) 1 (tkE f n (sk f n (X 9 1)))) 2 (tkK f n (sk f n (X 9 1))) k = uI (uI (uI (uI (X 9) 6 1) 0 (sk f n (X 9 1))) 1 (tkE f n (sk f n (X 9 1)))) 2 (tkK f n (sk f n (X 9 1))) k
  unfold uI
  (repeat' split) <;> first | rfl | omega
end DRF
section LIM
variable {f dr : Int → Int} {n ts te tk nu er eo hL hS : Int} {X : Nat → Int → Int}
/-- one limit read -/
def liX (f : Int → Int) (n k lo hi : Int) (X : Nat → Int → Int) : Nat → Int → Int := if rdX f n lo hi X 9 3 = 0 then st (rdX f n lo hi X) 7 (uI (X 7) k (nuV f X)) else rdX f n lo hi X
def limX (f : Int → Int) (n : Int) (X : Nat → Int → Int) : Nat → Int → Int := if X 9 3 = 0 ∧ X 9 5 = 0 then liX f n 3 0 1000 (liX f n 2 0 99 (liX f n 1 0 200 (liX f n 0 101 300 (nxX f n (st X 9 (uI (X 9) 5 1)))))) else faX 2 X
theorem PR_li {k lo hi : Int} (h : PR f n ts te tk nu er eo (rdX f n lo hi X)) : PR f n ts te tk nu er eo (liX f n k lo hi X) := by
  unfold liX
  split
  · exact h
  · exact h
theorem rdX_r {lo hi : Int} {p : Nat} (h : p < 9) : rdX f n lo hi X p = X p := by
  have fa : ∀ k : Int, faX k X p = X p := fun k => by
    unfold faX
    split
    · exact if_neg (by omega)
    · rfl
  unfold rdX
  split
  · split
    · split
      · exact (nxX_r h).symm
      · exact fa 4
    · exact fa 1
  · rfl
theorem DR_li {k lo hi v : Int} (h : DR dr hL hS X) (hk : 0 ≤ k ∧ k < 4) (hv : rdX f n lo hi X 9 3 = 0 → v = nuV f X) (hr : lo ≤ v ∧ v ≤ hi) (hl : (k = 0 → lo = 101 ∧ hi = 300) ∧ (k = 1 → lo = 0 ∧ hi = 200) ∧ (k = 2 → lo = 0 ∧ hi = 99) ∧ (k = 3 → lo = 0 ∧ hi = 1000)) : DR (uI dr (4 + k) v) hL hS (liX f n k lo hi X) := by
  by_cases e : rdX f n lo hi X 9 3 = 0
  · rw [show liX f n k lo hi X = st (rdX f n lo hi X) 7 (uI (X 7) k (nuV f X)) from if_pos e]
    have d : DR dr hL hS (rdX f n lo hi X) := DR_rd h
    obtain ⟨d1, d2⟩ := d
    obtain ⟨⟨r1, r2, r3⟩, w, e1, e2⟩ := d2 e
    rw [rdX_r (by decide)] at r1 r3
    rw [rdX_r (by decide)] at r2
    have ev := hv e
    refine ⟨d1, fun _ => ⟨⟨?_, fun j p q => ?_, fun s p a b c => ?_⟩, ?_, e1, e2⟩⟩
    · show uI dr (4 + k) v 0 = rdX f n lo hi X 8 1 ∧ uI dr (4 + k) v 1 = rdX f n lo hi X 8 2 ∧ uI dr (4 + k) v 2 = rdX f n lo hi X 8 0 ∧ uI dr (4 + k) v 3 = rdX f n lo hi X 8 3
      rw [rdX_r (by decide), uI_n _ _ _ (by omega), uI_n _ _ _ (by omega), uI_n _ _ _ (by omega), uI_n _ _ _ (by omega)]; exact r1
    · show uI dr (4 + k) v (4 + j) = uI (X 7) k (nuV f X) j
      by_cases ej : j = k
      · rw [ej, uI_s, uI_s]; exact ev
      · rw [uI_n _ _ _ (by omega), uI_n _ _ _ ej]; exact r2 j p q
    · have b' : s < X 8 0 := by
        have b2 : s < rdX f n lo hi X 8 0 := b
        rw [rdX_r (by decide)] at b2
        exact b2
      rw [uI_n _ _ _ (by omega), r3 s p a b' c]
      have n7 : p ≠ 7 ∨ p = 7 := by omega
      have x : (st (rdX f n lo hi X) 7 (uI (X 7) k (nuV f X))) p = rdX f n lo hi X p := if_neg (by omega)
      rw [x]
    · obtain ⟨w8, w7, w9⟩ := w
      rw [rdX_r (by decide)] at w7
      refine ⟨w8, ?_, w9⟩
      show 101 ≤ uI (X 7) k (nuV f X) 0 ∧ uI (X 7) k (nuV f X) 0 ≤ 300 ∧ 0 ≤ uI (X 7) k (nuV f X) 1 ∧ uI (X 7) k (nuV f X) 1 ≤ 200 ∧ 0 ≤ uI (X 7) k (nuV f X) 2 ∧ uI (X 7) k (nuV f X) 2 ≤ 99 ∧ 0 ≤ uI (X 7) k (nuV f X) 3 ∧ uI (X 7) k (nuV f X) 3 ≤ 1000
      rw [← ev]
      unfold uI
      (repeat' split) <;> omega
  · rw [show liX f n k lo hi X = rdX f n lo hi X from if_neg e]
    exact DR_no h h.1 e
abbrev loK (k : Int) : Int := if k = 0 then 101 else 0
abbrev hiK (k : Int) : Int := if k = 0 then 300 else if k = 1 then 200 else if k = 2 then 99 else 1000
/-- what is left of the limits from k on -/
def limR (f : Int → Int) (n : Int) : Nat → Int → (Nat → Int → Int) → Nat → Int → Int
  | 0, _, X => X
  | m + 1, k, X => limR f n m (k + 1) (liX f n k (loK k) (hiK k) X)
theorem limX_y (h : X 9 3 = 0 ∧ X 9 5 = 0) : limX f n X = limR f n 4 0 (nxX f n (st X 9 (uI (X 9) 5 1))) := if_pos h
theorem limR_s {k : Int} (h : k < 4) : limR f n (4 - k).toNat k X = limR f n (4 - (k + 1)).toNat (k + 1) (liX f n k (loK k) (hiK k) X) := by
  rw [show (4 - k).toNat = (4 - (k + 1)).toNat + 1 by omega]
  rfl
theorem DR_l5 (h : DR dr hL hS X) (h0 : X 9 3 = 0) : DR dr 1 hS (nxX f n (st X 9 (uI (X 9) 5 1))) := by
  have z : DR dr 1 hS (st X 9 (uI (X 9) 5 1)) := ⟨⟨by decide, by decide, h.1.2.2.1, h.1.2.2.2⟩, fun _ => ⟨RT_cg (h.2 h0).1 (fun p hp => (if_neg (by omega) : (st X 9 (uI (X 9) 5 1)) p = X p).symm), WT_cg (h.2 h0).2.1 (fun p hp => (if_neg (by omega) : (st X 9 (uI (X 9) 5 1)) p = X p).symm), rfl, (h.2 h0).2.2.2⟩⟩
  exact DR_nx z
theorem PR_l5 {b : Int} (h : PR f n ts te tk nu er eo (goX f n (muX b 2 X))) (hb : X 9 3 = 0 ∧ b = 1) : PR f n ts te tk nu er eo (nxX f n (st X 9 (uI (X 9) 5 1))) := by
  rw [show muX b 2 X = X from if_pos hb.2, show goX f n X = nxX f n X from if_pos hb.1] at h
  refine PR_c9 h (fun k a c => ?_)
  show uI (uI (uI (X 9) 0 (sk f n (X 9 1))) 1 (tkE f n (sk f n (X 9 1)))) 2 (tkK f n (sk f n (X 9 1))) k = uI (uI (uI (uI (X 9) 5 1) 0 (sk f n (X 9 1))) 1 (tkE f n (sk f n (X 9 1)))) 2 (tkK f n (sk f n (X 9 1))) k
  unfold uI
  (repeat' split) <;> first | rfl | omega
end LIM
