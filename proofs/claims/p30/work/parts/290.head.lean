/-! THE HEAD OF A TEXT -/
def dfV (k : Int) : Int := if k = 3 then 1 else if k = 4 then 150 else if k = 5 then 20 else if k = 6 then 30 else if k = 7 then 5 else 0
section HDL
variable {f dr : Int → Int} {n ts te tk nu er eo hL hS : Int} {X : Nat → Int → Int}
theorem PR_fe (hn : 0 ≤ n ∧ n ≤ 700) (he : 0 ≤ eo ∧ eo ≤ 700) (e1 : ts = sk f n 0) (e2 : te = tkE f n ts) (e3 : tk = tkK f n ts) (e4 : tk = 2 → nu = nv f ts (te - ts)) (e5 : rg nu) (e6 : tk = 2 → 0 ≤ nu ∧ nu ≤ 9999) : PR f n ts te tk nu 0 eo (fe0 f n) := by
  have q := sk_bd (f := f) (n := n) (k := 0) hn.1
  have q2 := tkE_bb (f := f) (n := n) (s := sk f n 0) q.2
  have q3 := tkK_bd (f := f) (n := n) (s := sk f n 0)
  subst e1 e2 e3
  exact ⟨rfl, by omega, fun z => absurd rfl z, fun _ => ⟨rfl, rfl, rfl, fun z => ⟨e4 z, e6 z⟩⟩, by omega, q.2, by omega, q2.2, q3.1, q3.2, e5, by omega⟩
theorem fe_go : goX f n (muX (bI (wdX f (fe0 f n) 0)) 1 (fe0 f n)) = feX f n := by
  unfold feX
  by_cases c : wdX f (fe0 f n) 0
  · rw [if_pos c, bI_t c, show muX 1 1 (fe0 f n) = fe0 f n from if_pos rfl]
    exact if_pos rfl
  · rw [if_neg c, bI_f c, show muX 0 1 (fe0 f n) = faX 1 (fe0 f n) from if_neg (by decide)]
    exact if_neg (faX_3 (by decide))
theorem PR_hd (h : PR f n ts te tk nu er eo (hd3 f n)) : PR f n ts te tk nu er eo (hdX f n) := PR_c9 h (fun k _ _ => by rw [hd_bits])
theorem DR_hd {a b : Int} (hd : ∀ k : Int, 0 ≤ k → k < 288 → dr k = dfV k) (h1 : rdX f n 50 500 (feX f n) 9 3 = 0 → a = nuV f (feX f n)) (h2 : hd3 f n 9 3 = 0 → b = nuV f (rdX f n 50 500 (feX f n))) (hr : 50 ≤ a ∧ a ≤ 500 ∧ 30 ≤ b ∧ b ≤ 500) (hh : feX f n 9 5 = 0 ∧ feX f n 9 6 = 0) (hf : ∀ (lo hi : Int) (X : Nat → Int → Int), rdX f n lo hi X 9 5 = X 9 5 ∧ rdX f n lo hi X 9 6 = X 9 6) : DR (uI (uI dr 0 a) 1 b) 0 0 (hdX f n) := by
  refine ⟨by decide, fun z => ?_⟩
  have z3 : hd3 f n 9 3 = 0 := by rw [← hd_bits]; exact z
  have ea := h1 (rdX_z (X := rdX f n 50 500 (feX f n)) z3)
  have eb := h2 z3
  have e : hdX f n = st (hd3 f n) 8 (uI (uI (hd3 f n 8) 1 a) 2 b) := by
    unfold hdX
    rw [if_pos z3, ← ea, ← eb]
  rw [e]
  have x7 : (st (hd3 f n) 8 (uI (uI (hd3 f n 8) 1 a) 2 b)) 7 = in0 7 := (if_neg (by decide)).trans (hd3_r (by decide))
  have x8 : (st (hd3 f n) 8 (uI (uI (hd3 f n 8) 1 a) 2 b)) 8 = uI (uI (in0 8) 1 a) 2 b := by
    show uI (uI (hd3 f n 8) 1 a) 2 b = _
    rw [hd3_r (by decide)]
  have x9 : (st (hd3 f n) 8 (uI (uI (hd3 f n 8) 1 a) 2 b)) 9 = hd3 f n 9 := if_neg (by decide)
  have y0 : uI (uI (in0 8) 1 a) 2 b 0 = 0 := rfl
  have y1 : uI (uI (in0 8) 1 a) 2 b 1 = a := rfl
  have y2 : uI (uI (in0 8) 1 a) 2 b 2 = b := rfl
  have y3 : uI (uI (in0 8) 1 a) 2 b 3 = 1 := rfl
  have d := fun (k : Int) (p : 0 ≤ k) (q : k < 288) (r : k ≠ 0) (s : k ≠ 1) => (uI_n (uI dr 0 a) 1 b s).trans ((uI_n dr 0 a r).trans (hd k p q))
  refine ⟨⟨⟨?_, ?_, ?_, ?_⟩, fun k p q => ?_, fun s p x y c => ?_⟩, ⟨?_, ?_, fun s x y => ?_⟩, ?_, ?_⟩
  · rw [x8, y1, uI_n _ _ _ (by decide), uI_s]
  · rw [x8, y2, uI_s]
  · rw [x8, y0, d _ (by decide) (by decide) (by decide) (by decide)]; rfl
  · rw [x8, y3, d _ (by decide) (by decide) (by decide) (by decide)]; rfl
  · rw [x7, d _ (by omega) (by omega) (by omega) (by omega)]
    have c : k = 0 ∨ k = 1 ∨ k = 2 ∨ k = 3 := by omega
    rcases c with rfl | rfl | rfl | rfl <;> rfl
  · rw [x8, y0] at y; omega
  · rw [x8, y0, y1, y2, y3]; omega
  · rw [x7]; decide
  · rw [x8, y0] at y; omega
  · rw [x9]; unfold hd3; rw [(hf _ _ _).1, (hf _ _ _).1, hh.1]
  · rw [x9]; unfold hd3; rw [(hf _ _ _).2, (hf _ _ _).2, hh.2]
theorem rdX_56 (lo hi : Int) (X : Nat → Int → Int) : rdX f n lo hi X 9 5 = X 9 5 ∧ rdX f n lo hi X 9 6 = X 9 6 := by
  have a : ∀ k : Int, faX k X 9 5 = X 9 5 ∧ faX k X 9 6 = X 9 6 := fun k => by
    unfold faX
    split
    · exact ⟨rfl, rfl⟩
    · exact ⟨rfl, rfl⟩
  unfold rdX
  split
  · split
    · split
      · exact ⟨rfl, rfl⟩
      · exact a 4
    · exact a 1
  · exact ⟨rfl, rfl⟩
theorem fe_56 : feX f n 9 5 = 0 ∧ feX f n 9 6 = 0 := by
  unfold feX
  split
  · exact ⟨rfl, rfl⟩
  · unfold faX
    split
    · exact ⟨rfl, rfl⟩
    · exact ⟨rfl, rfl⟩
/-- the loop's invariant over the pure state -/
def loK2 (f : Int → Int) (n : Int) (X : Nat → Int → Int) : Prop := beh n 0 X ∧ ∃ m : Nat, (X 9 3 = 0 → n - X 9 1 < m) ∧ loX f n m X = paX f n
theorem loK_0 (hn : 0 ≤ n ∧ n ≤ 700) : loK2 f n (seX f n (hdX f n)) := ⟨beh_hd hn.1, 701, fun z => by have w := beh_hd (f := f) hn.1 z; omega, rfl⟩
theorem loK_e (h : loK2 f n X) (c : ¬ (X 9 3 = 0 ∧ X 9 2 ≠ 0)) : X = paX f n := by
  obtain ⟨_, m, h1, h2⟩ := h
  rw [← h2]
  exact (lo_e c).symm
theorem loK_s (h : loK2 f n X) (c : X 9 3 = 0 ∧ X 9 2 ≠ 0) : loK2 f n (stX f n X) ∧ (stX f n X 9 3 = 0 → X 9 1 < stX f n X 9 1) := by
  obtain ⟨b, m, h1, h2⟩ := h
  have b1 := b c.1
  have key : stX f n X 9 3 = 0 → X 9 1 < stX f n X 9 0 ∧ beh n 0 (stX f n X) := fun z => st_on (fun _ => by omega) z c.1
  have mm := h1 c.1
  refine ⟨⟨fun z => (key z).2 z, m - 1, fun z => ?_, ?_⟩, fun z => ?_⟩
  · have k := key z
    have k2 := k.2 z
    omega
  · rw [← h2]
    have e : m = (m - 1) + 1 := by omega
    rw [e, lo_s c, Nat.add_sub_cancel]
  · have k := key z
    have k2 := k.2 z
    omega
end HDL
