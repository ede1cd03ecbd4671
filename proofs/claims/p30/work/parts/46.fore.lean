/-! NEXT, BLANKS -/
section NXB
variable {T C : Nat → Int → Int}
theorem pg_all {f : Int} : bI (T 5 f = -1 ∧ C 8 3 ≤ T 3 f) + bI (T 5 f = -1 ∧ C 11 5 = 1 ∧ C 8 3 ≤ T 4 f) = pgs T C f := by
  by_cases h : T 5 f = -1
  · exact pg_eq h
  · rw [bI_f (fun w => h w.1), bI_f (fun w => h w.1)]
    unfold pgs
    rw [if_pos h]
    rfl
theorem blO_mo {b c k : Int} (h : b ≤ c) : blO T b k ≤ blO T c k := by
  unfold blO bI
  (repeat' split) <;> omega
theorem sN_mo {F G : Int → Int} (h : ∀ i : Int, F i ≤ G i) : ∀ n : Nat, sN F n ≤ sN G n
  | 0 => Int.le_refl _
  | n + 1 => by
    have a := sN_mo h n
    have b := h n
    show sN F n + F n ≤ sN G n + G n
    omega
theorem blS_mo {b c : Int} (h : b ≤ c) : blS T b ≤ blS T c := sN_mo (fun _ => blO_mo h) _
/-- half, so many times -/
def wNN : Nat → Int
  | 0 => 1000
  | k + 1 => wNN k / 2
theorem wN_nn : ∀ k : Nat, 0 ≤ wNN k
  | 0 => by decide
  | k + 1 => by
    have a := wN_nn k
    show 0 ≤ wNN k / 2
    omega
theorem wN_s {k : Int} (h : 0 ≤ k) : wNN (k + 1).toNat = wNN k.toNat / 2 := by
  rw [show (k + 1).toNat = k.toNat + 1 by omega]
  rfl
theorem wN_32 : wNN 32 = 0 := by decide
end NXB
