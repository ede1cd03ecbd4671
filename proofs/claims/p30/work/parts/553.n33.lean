abbrev zC : Nat → Int → Int := fun _ _ => 0
abbrev zH : Nat → Nat → Int → Int := fun _ => zC
/-- the setup of a new object -/
def tI : Nat → Int → Int := puT (fun _ => 0) (fun _ => 0) (fun _ => 0) (fun _ => 0) (fun _ => 0) (fun _ => 0) (fun _ => 0) usK 0 50 30 1
theorem WT_I : WT tI := ⟨by decide, by decide, fun s a b => absurd b (show ¬ s < 0 by omega)⟩
theorem RT_I {dr : Int → Int} (h : ∀ k : Int, 0 ≤ k → k < 288 → dr k = dfV k) : RT (uI (uI dr 0 50) 1 30) tI := by
  have d := fun (k : Int) (p : 0 ≤ k) (q : k < 288) (r : k ≠ 0) (s : k ≠ 1) => (uI_n (uI dr 0 50) 1 30 s).trans ((uI_n dr 0 50 r).trans (h k p q))
  refine ⟨⟨?_, ?_, ?_, ?_⟩, fun k p q => ?_, fun s p x y c => absurd y (show ¬ s < 0 by omega)⟩
  · rw [uI_n _ _ _ (by decide), uI_s]; rfl
  · rw [uI_s]; rfl
  · rw [d _ (by decide) (by decide) (by decide) (by decide)]; rfl
  · rw [d _ (by decide) (by decide) (by decide) (by decide)]; rfl
  · rw [d _ (by omega) (by omega) (by omega) (by omega)]
    have c : k = 0 ∨ k = 1 ∨ k = 2 ∨ k = 3 := by omega
    rcases c with rfl | rfl | rfl | rfl <;> rfl
