/-! THE LAW'S WORLD -/
def fl : List va_W → va_W
  | [] => []
  | [a] => a
  | a :: b :: r => a ++ fl (b :: r)
theorem fl_flatten : ∀ bs : List va_W, fl bs = bs.flatten := fun bs => by
  induction bs with
  | nil => rfl
  | cons a r ih =>
    cases r with
    | nil => show a = a ++ []; rw [List.append_nil]
    | cons b r =>
      show a ++ fl (b :: r) = a ++ (b :: r).flatten
      rw [ih]
theorem cw_sel (bs : List va_W) (is js : List Nat) (h : (List.range bs.length).Perm (is ++ js)) : (fl bs).Perm (fl (is.map (fun i => bs.getD i [])) ++ fl (js.map (fun i => bs.getD i []))) := by
  have e : bs = (List.range bs.length).map (fun i => bs.getD i []) := by
    refine List.ext_getElem? (fun k => ?_)
    rw [List.getElem?_map]
    by_cases c : k < bs.length
    · rw [List.getElem?_range c, List.getElem?_eq_getElem c]
      show some bs[k] = some (bs.getD k [])
      rw [List.getD_eq_getElem?_getD, List.getElem?_eq_getElem c]
      rfl
    · rw [List.getElem?_eq_none (by omega), List.getElem?_eq_none (by rw [List.length_range]; omega)]
      rfl
  rw [fl_flatten, fl_flatten, fl_flatten, ← List.flatten_append, ← List.map_append]
  have h2 := (h.map (fun i => bs.getD i [])).flatten
  rw [← e] at h2
  exact h2
/-- the class's blocks -/
abbrev BS (x a b ap b2 : Nat → Nat) (aH aV : Nat → Nat → Nat) (cI cB cZ cS : ClassId) (T C : Nat → Int → Int) (lat und pfl pln pkd pst pen per pls pss us f1 f2 f3 pf pm pt pl pw w1 w2 w3 w4 w5 w6 hn : Int) (svd bf y0 y1 y2 y3 y4 y5 y6 y7 ht : Int → Int) (cH cV : Nat → Nat → Int → Int) : List va_W :=
  [[o6C x a b ap lat und], [((ap 0), .inr (2, [.ref (ap 1), .int (iI pfl), .ref (b2 0), .int (iI pln), .int (iI pkd), .int (iI pst), .int (iI pen), .int (iI per), .int (iI pls), .int (iI pss)]))], [((ap 1), .inl (cB, 700, .inl (ai bf)))], [((b2 0), .inr (4, [.ref (b2 1), .ref (b2 2), .ref (b2 3), .ref (b2 4), .ref (b2 5), .ref (b2 6), .ref (b2 7), .ref (b2 8), .int (iI us), .int (iI f1), .int (iI f2), .int (iI f3)])), ((b2 1), .inl (cI, 40, .inl (ai y0))), ((b2 2), .inl (cI, 40, .inl (ai y1))), ((b2 3), .inl (cI, 40, .inl (ai y2))), ((b2 4), .inl (cI, 40, .inl (ai y3))), ((b2 5), .inl (cI, 40, .inl (ai y4))), ((b2 6), .inl (cI, 40, .inl (ai y5))), ((b2 7), .inl (cI, 40, .inl (ai y6))), ((b2 8), .inl (cI, 4, .inl (ai y7)))], suW b cI T, stW a cI C, [((x 4), .inr (3, [.int (iI pf), .int (iI pm), .int (iI pt), .int (iI pl), .int (iI pw)]))], [((x 6), .inr (0, [.ref (x 7), .int (iI w1), .int (iI w2), .int (iI w3), .int (iI w4), .int (iI w5), .int (iI w6)])), ((x 7), .inr (1, [.ref (x 8), .int (iI hn)])), ((x 8), .inl (cI, 6, .inl (ai ht)))], [((x 1), .inl (cS, 10, .inr (.inr (.inr (.inr (fun i => some (aH i 0)))))))], [((x 2), .inl (cS, 2, .inr (.inr (.inr (.inr (fun i => some (aV i 0)))))))], [((x 3), .inl (cZ, 2, .inl (ai svd)))], HP 10 aH cI cH, HP 2 aV cI cV]
section HWS
variable {td sa s2 hi sl svd : Int → Int} {T C : Nat → Int → Int} {cH cV : Nat → Nat → Int → Int} {dp lat k : Int}
theorem WM_rr (h : WM td sa T C) (e : ∀ i : Int, 0 ≤ i → i < 706 → s2 i = sa i) : WM td s2 T C := ⟨h.1, h.2.1, h.2.2.1, RR_eq h.1 h.2.2.1 h.2.2.2 e⟩
def hix (lat dp i : Int) : Nat := ((lat - (dp - i)) % 10).toNat
/-- the history: the reference's rows, the oldest first, and the class's ring -/
def HWr (td hi : Int → Int) (T : Nat → Int → Int) (dp lat : Int) (cH : Nat → Nat → Int → Int) : Prop := ∀ i : Int, 0 ≤ i → i < dp → WM td (fun x => hi (706 * i + x)) T (cH (hix lat dp i)) ∧ FR (cH (hix lat dp i))
def SWr (td sl svd : Int → Int) (T : Nat → Int → Int) (cV : Nat → Nat → Int → Int) : Prop := ∀ i : Int, 0 ≤ i → i < 2 → svd i = 1 → WM td (fun x => sl (706 * i + x)) T (cV i.toNat) ∧ FR (cV i.toNat)
theorem HW_keep (h : HWr td hi T dp lat cH) (hM : WM td sa T C) (hF : FR C) (hd : 0 ≤ dp ∧ dp ≤ 10) : HWr td (kpH hi dp sa) T (kpD dp) (lat + 1) (updH cH (lat % 10).toNat C) := by
  have ku : ∀ i : Nat, i ≠ (lat % 10).toNat → updH cH (lat % 10).toNat C i = cH i := fun i e => if_neg e
  have ks : updH cH (lat % 10).toNat C (lat % 10).toNat = C := if_pos rfl
  intro i p q
  by_cases c : dp = 10
  · have ek : kpD dp = 10 := if_pos c
    have eh : kpH hi dp sa = cpk (hsh hi 9) 9 sa 0 706 := if_pos c
    rw [ek] at q ⊢
    by_cases e : i = 9
    · have ex : hix (lat + 1) 10 i = (lat % 10).toNat := by unfold hix; omega
      rw [ex, ks]
      refine ⟨WM_rr hM (fun j a b => ?_), hF⟩
      show kpH hi dp sa (706 * i + j) = sa j
      rw [eh]
      unfold cpk
      rw [if_pos (by omega)]
      congr 1
      omega
    · have ex : hix (lat + 1) 10 i = hix lat dp (i + 1) := by unfold hix; omega
      rw [ku _ (by unfold hix; omega), ex]
      obtain ⟨z1, z2⟩ := h (i + 1) (by omega) (by omega)
      refine ⟨WM_rr z1 (fun j a b => ?_), z2⟩
      show kpH hi dp sa (706 * i + j) = hi (706 * (i + 1) + j)
      rw [eh, cpk_o _ _ _ _ (by omega)]
      unfold hsh
      rw [if_pos (by omega)]
      congr 1
      omega
  · have ek : kpD dp = dp + 1 := if_neg c
    have eh : kpH hi dp sa = cpk hi dp sa 0 706 := if_neg c
    rw [ek] at q ⊢
    by_cases e : i = dp
    · have ex : hix (lat + 1) (dp + 1) i = (lat % 10).toNat := by unfold hix; omega
      rw [ex, ks]
      refine ⟨WM_rr hM (fun j a b => ?_), hF⟩
      show kpH hi dp sa (706 * i + j) = sa j
      rw [eh]
      unfold cpk
      rw [if_pos (by omega)]
      congr 1
      omega
    · have ex : hix (lat + 1) (dp + 1) i = hix lat dp i := by unfold hix; omega
      rw [ku _ (by unfold hix; omega), ex]
      obtain ⟨z1, z2⟩ := h i (by omega) (by omega)
      refine ⟨WM_rr z1 (fun j a b => ?_), z2⟩
      show kpH hi dp sa (706 * i + j) = hi (706 * i + j)
      rw [eh, cpk_o _ _ _ _ (by omega)]
theorem HW_undo (h : HWr td hi T dp lat cH) (hd : 0 < dp ∧ dp ≤ 10) : (WM td (cpk sa 0 hi (dp - 1) 706) T (cH ((lat - 1) % 10).toNat) ∧ FR (cH ((lat - 1) % 10).toNat)) ∧ HWr td hi T (dp - 1) (lat - 1) cH := by
  constructor
  · obtain ⟨z1, z2⟩ := h (dp - 1) (by omega) (by omega)
    have ex : hix lat dp (dp - 1) = ((lat - 1) % 10).toNat := by unfold hix; rw [show lat - (dp - (dp - 1)) = lat - 1 by omega]
    rw [ex] at z1 z2
    refine ⟨WM_rr z1 (fun j a b => ?_), z2⟩
    show cpk sa 0 hi (dp - 1) 706 j = hi (706 * (dp - 1) + j)
    unfold cpk
    rw [if_pos (by omega)]
    congr 1
    omega
  · intro i p q
    have ex : hix (lat - 1) (dp - 1) i = hix lat dp i := by unfold hix; rw [show lat - 1 - (dp - 1 - i) = lat - (dp - i) by omega]
    rw [ex]
    exact h i p (by omega)
theorem SW_0 : SWr td sl (uI (uI svd 0 0) 1 0) T cV := fun i p q r => by
  have c : i = 0 ∨ i = 1 := by omega
  rcases c with rfl | rfl
  · exact absurd r (by show ¬ ((0 : Int) = 1); decide)
  · exact absurd r (by show ¬ ((0 : Int) = 1); decide)
theorem SW_save (h : SWr td sl svd T cV) (hM : WM td sa T C) (hF : FR C) (hk : 0 ≤ k ∧ k ≤ 1) : SWr td (cpk sl k sa 0 706) (uI svd k 1) T (updH cV k.toNat C) := fun i p q r => by
  by_cases e : i = k
  · subst e
    have ks : updH cV i.toNat C i.toNat = C := if_pos rfl
    rw [ks]
    refine ⟨WM_rr hM (fun j a b => ?_), hF⟩
    show cpk sl i sa 0 706 (706 * i + j) = sa j
    unfold cpk
    rw [if_pos (by omega)]
    congr 1
    omega
  · have ku : updH cV k.toNat C i.toNat = cV i.toNat := if_neg (by omega)
    rw [uI_n _ _ _ e] at r
    obtain ⟨z1, z2⟩ := h i p q r
    rw [ku]
    refine ⟨WM_rr z1 (fun j a b => ?_), z2⟩
    show cpk sl k sa 0 706 (706 * i + j) = sl (706 * i + j)
    rw [cpk_o _ _ _ _ (by omega)]
theorem SW_get (h : SWr td sl svd T cV) (hk : 0 ≤ k ∧ k ≤ 1) (h1 : svd k = 1) : WM td (cpk sa 0 sl k 706) T (cV k.toNat) ∧ FR (cV k.toNat) := by
  obtain ⟨z1, z2⟩ := h k (by omega) (by omega) h1
  refine ⟨WM_rr z1 (fun j a b => ?_), z2⟩
  show cpk sa 0 sl k 706 j = sl (706 * k + j)
  unfold cpk
  rw [if_pos (by omega)]
  congr 1
  omega
theorem FR_clr {X : Nat → Int → Int} (h : X 11 1 = 0 ∧ X 11 2 = 0) : FR X := ⟨fun _ => h.1, fun _ => h.2⟩
theorem FR_cg {X Y : Nat → Int → Int} (h : FR X) (e1 : Y 11 1 = X 11 1) (e2 : Y 11 2 = X 11 2) : FR Y := by
  unfold FR at h ⊢
  rw [e1, e2]
  exact h
theorem ad_11 {X : Nat → Int → Int} {f sd : Int} : adP X f sd 11 1 = X 11 1 ∧ adP X f sd 11 2 = X 11 2 := ⟨rfl, rfl⟩
theorem goP_11 {X : Nat → Int → Int} {f : Int} : goPg T X f 11 1 = X 11 1 ∧ goPg T X f 11 2 = X 11 2 := by
  unfold goPg goP0
  split
  · split
    · exact ⟨rfl, rfl⟩
    · exact ⟨rfl, rfl⟩
  · split
    · exact ⟨rfl, rfl⟩
    · exact ⟨rfl, rfl⟩
theorem FR_goC {X : Nat → Int → Int} : FR (goC T X) := by
  refine FR_clr ?_
  unfold goC goThr
  split
  · exact ⟨rfl, rfl⟩
  · exact ⟨goP_11.1, goP_11.2⟩
theorem FR_fr {X : Nat → Int → Int} (h : frC T X) : FR X := FR_clr ⟨h.1.2.1, h.1.2.2.1⟩
end HWS
