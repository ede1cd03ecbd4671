/-! THE LAW'S WORLD -/
def fl : List va_W → va_W
  | [] => []
  | [a] => a
  | a :: b :: r => a ++ fl (b :: r)
theorem fl_flatten : ∀ bs : List va_W, fl bs = bs.flatten := fun bs => by
  induction bs with
  | nil => rfl
  | cons a r ih =>
    cases r with
    | nil => show a = a ++ []; rw [List.append_nil]
    | cons b r =>
      show a ++ fl (b :: r) = a ++ (b :: r).flatten
      rw [ih]
theorem cw_sel (bs : List va_W) (is js : List Nat) (h : (List.range bs.length).Perm (is ++ js)) : (fl bs).Perm (fl (is.map (fun i => bs.getD i [])) ++ fl (js.map (fun i => bs.getD i []))) := by
  have e : bs = (List.range bs.length).map (fun i => bs.getD i []) := by
    refine List.ext_getElem? (fun k => ?_)
    rw [List.getElem?_map]
    by_cases c : k < bs.length
    · rw [List.getElem?_range c, List.getElem?_eq_getElem c]
      show some bs[k] = some (bs.getD k [])
      rw [List.getD_eq_getElem?_getD, List.getElem?_eq_getElem c]
      rfl
    · rw [List.getElem?_eq_none (by omega), List.getElem?_eq_none (by rw [List.length_range]; omega)]
      rfl
  rw [fl_flatten, fl_flatten, fl_flatten, ← List.flatten_append, ← List.map_append]
  have h2 := (h.map (fun i => bs.getD i [])).flatten
  rw [← e] at h2
  exact h2
/-- the class's blocks -/
abbrev BS (x a b ap b2 : Nat → Nat) (aH aV : Nat → Nat → Nat) (cI cB cZ cS : ClassId) (T C : Nat → Int → Int) (lat und pfl pln pkd pst pen per pls pss us f1 f2 f3 pf pm pt pl pw w1 w2 w3 w4 w5 w6 hn : Int) (svd bf y0 y1 y2 y3 y4 y5 y6 y7 ht : Int → Int) (cH cV : Nat → Nat → Int → Int) : List va_W :=
  [[o6C x a b ap lat und], [((ap 0), .inr (2, [.ref (ap 1), .int (iI pfl), .ref (b2 0), .int (iI pln), .int (iI pkd), .int (iI pst), .int (iI pen), .int (iI per), .int (iI pls), .int (iI pss)]))], [((ap 1), .inl (cB, 700, .inl (ai bf)))], [((b2 0), .inr (4, [.ref (b2 1), .ref (b2 2), .ref (b2 3), .ref (b2 4), .ref (b2 5), .ref (b2 6), .ref (b2 7), .ref (b2 8), .int (iI us), .int (iI f1), .int (iI f2), .int (iI f3)])), ((b2 1), .inl (cI, 40, .inl (ai y0))), ((b2 2), .inl (cI, 40, .inl (ai y1))), ((b2 3), .inl (cI, 40, .inl (ai y2))), ((b2 4), .inl (cI, 40, .inl (ai y3))), ((b2 5), .inl (cI, 40, .inl (ai y4))), ((b2 6), .inl (cI, 40, .inl (ai y5))), ((b2 7), .inl (cI, 40, .inl (ai y6))), ((b2 8), .inl (cI, 4, .inl (ai y7)))], suW b cI T, stW a cI C, [((x 4), .inr (3, [.int (iI pf), .int (iI pm), .int (iI pt), .int (iI pl), .int (iI pw)]))], [((x 6), .inr (0, [.ref (x 7), .int (iI w1), .int (iI w2), .int (iI w3), .int (iI w4), .int (iI w5), .int (iI w6)])), ((x 7), .inr (1, [.ref (x 8), .int (iI hn)])), ((x 8), .inl (cI, 6, .inl (ai ht)))], [((x 1), .inl (cS, 10, .inr (.inr (.inr (.inr (fun i => some (aH i 0)))))))], [((x 2), .inl (cS, 2, .inr (.inr (.inr (.inr (fun i => some (aV i 0)))))))], [((x 3), .inl (cZ, 2, .inl (ai svd)))], HP 10 aH cI cH, HP 2 aV cI cV]
section FRS
variable {T C : Nat → Int → Int}
theorem FR_clr {X : Nat → Int → Int} (h : X 11 1 = 0 ∧ X 11 2 = 0) : FR X := ⟨fun _ => h.1, fun _ => h.2⟩
theorem FR_cg {X Y : Nat → Int → Int} (h : FR X) (e1 : Y 11 1 = X 11 1) (e2 : Y 11 2 = X 11 2) : FR Y := by
  unfold FR at h ⊢
  rw [e1, e2]
  exact h
theorem ad_11 {X : Nat → Int → Int} {f sd : Int} : adP X f sd 11 1 = X 11 1 ∧ adP X f sd 11 2 = X 11 2 := ⟨rfl, rfl⟩
theorem goP_11 {X : Nat → Int → Int} {f : Int} : goPg T X f 11 1 = X 11 1 ∧ goPg T X f 11 2 = X 11 2 := by
  unfold goPg goP0
  split
  · split
    · exact ⟨rfl, rfl⟩
    · exact ⟨rfl, rfl⟩
  · split
    · exact ⟨rfl, rfl⟩
    · exact ⟨rfl, rfl⟩
theorem FR_goC {X : Nat → Int → Int} : FR (goC T X) := by
  refine FR_clr ?_
  unfold goC goThr
  split
  · exact ⟨rfl, rfl⟩
  · exact ⟨goP_11.1, goP_11.2⟩
theorem FR_fr {X : Nat → Int → Int} (h : frC T X) : FR X := FR_clr ⟨h.1.2.1, h.1.2.2.1⟩
end FRS
