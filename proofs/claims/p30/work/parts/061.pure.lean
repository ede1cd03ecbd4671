/-! PURE WORDS: sums, the pick from a stack, the thicknesses, the state T (what the text told) and C (what changes), what each call does to them -/
def sN (f : Int → Int) : Nat → Int
  | 0 => 0
  | k + 1 => sN f k + f k
def sI (f : Int → Int) (k : Int) : Int := sN f k.toNat
theorem sI_0 (f : Int → Int) : sI f 0 = 0 := rfl
theorem sI_s (f : Int → Int) {k : Int} (h : 0 ≤ k) : sI f (k + 1) = sI f k + f k := by
  obtain ⟨n, rfl⟩ := Int.eq_ofNat_of_zero_le h
  unfold sI
  rw [show ((n : Int) + 1).toNat = n + 1 by omega, Int.toNat_natCast]
  rfl
theorem sN_cg {f g : Int → Int} : ∀ n : Nat, (∀ i : Int, 0 ≤ i → i < n → f i = g i) → sN f n = sN g n
  | 0, _ => rfl
  | n + 1, h => by rw [sN, sN, sN_cg n (fun i h0 h1 => h i h0 (by omega)), h n (by omega) (by omega)]
theorem sI_cg {f g : Int → Int} {k : Int} (h : ∀ i : Int, 0 ≤ i → i < k → f i = g i) : sI f k = sI g k := sN_cg _ (fun i h0 h1 => h i h0 (by omega))
theorem sN_bd {f : Int → Int} {lo hi : Int} : ∀ n : Nat, (∀ i : Int, 0 ≤ i → i < n → lo ≤ f i ∧ f i ≤ hi) → lo * n ≤ sN f n ∧ sN f n ≤ hi * n
  | 0, _ => by simp [sN]
  | n + 1, h => by
    have h1 := sN_bd n (fun i h0 h1 => h i h0 (by omega))
    have h2 := h n (by omega) (by omega)
    have e1 : lo * ((n + 1 : Nat) : Int) = lo * n + lo := by rw [Int.natCast_add, Int.mul_add]; simp
    have e2 : hi * ((n + 1 : Nat) : Int) = hi * n + hi := by rw [Int.natCast_add, Int.mul_add]; simp
    rw [e1, e2, sN]
    omega
theorem sI_bd {f : Int → Int} {k lo hi : Int} (h0 : 0 ≤ k) (h : ∀ i : Int, 0 ≤ i → i < k → lo ≤ f i ∧ f i ≤ hi) : lo * k ≤ sI f k ∧ sI f k ≤ hi * k := by
  have h1 := sN_bd (lo := lo) (hi := hi) k.toNat (fun i h2 h3 => h i h2 (by omega))
  rw [Int.toNat_of_nonneg h0] at h1
  exact h1
def mN (f : Int → Int) : Nat → Int
  | 0 => 0
  | k + 1 => maxZ (mN f k) (f k)
def mI (f : Int → Int) (k : Int) : Int := mN f k.toNat
theorem mI_0 (f : Int → Int) : mI f 0 = 0 := rfl
theorem mI_s (f : Int → Int) {k : Int} (h : 0 ≤ k) : mI f (k + 1) = maxZ (mI f k) (f k) := by
  obtain ⟨n, rfl⟩ := Int.eq_ofNat_of_zero_le h
  unfold mI
  rw [show ((n : Int) + 1).toNat = n + 1 by omega, Int.toNat_natCast]
  rfl
theorem mN_cg {f g : Int → Int} : ∀ n : Nat, (∀ i : Int, 0 ≤ i → i < n → f i = g i) → mN f n = mN g n
  | 0, _ => rfl
  | n + 1, h => by rw [mN, mN, mN_cg n (fun i h0 h1 => h i h0 (by omega)), h n (by omega) (by omega)]
theorem mI_cg {f g : Int → Int} {k : Int} (h : ∀ i : Int, 0 ≤ i → i < k → f i = g i) : mI f k = mI g k := mN_cg _ (fun i h0 h1 => h i h0 (by omega))
theorem mN_bd {f : Int → Int} {hi : Int} (hh : 0 ≤ hi) : ∀ n : Nat, (∀ i : Int, 0 ≤ i → i < n → f i ≤ hi) → 0 ≤ mN f n ∧ mN f n ≤ hi
  | 0, _ => ⟨Int.le_refl 0, hh⟩
  | n + 1, h => by
    have h1 := mN_bd hh n (fun i h0 h1 => h i h0 (by omega))
    have h2 := h n (by omega) (by omega)
    rw [mN]
    unfold maxZ
    split <;> omega
theorem mI_bd {f : Int → Int} {k hi : Int} (hh : 0 ≤ hi) (h : ∀ i : Int, 0 ≤ i → i < k → f i ≤ hi) : 0 ≤ mI f k ∧ mI f k ≤ hi := mN_bd hh _ (fun i h2 h3 => h i h2 (by omega))
/-- counts -/
def kI (q : Int → Prop) [DecidablePred q] (k : Int) : Int := sI (fun i => bI (q i)) k
theorem kI_0 (q : Int → Prop) [DecidablePred q] : kI q 0 = 0 := rfl
theorem kI_s (q : Int → Prop) [DecidablePred q] {k : Int} (h : 0 ≤ k) : kI q (k + 1) = kI q k + bI (q k) := sI_s _ h
theorem kI_bd (q : Int → Prop) [DecidablePred q] {k : Int} (h : 0 ≤ k) : 0 ≤ kI q k ∧ kI q k ≤ k := by
  have h1 := sI_bd (f := fun i => bI (q i)) (lo := 0) (hi := 1) h (fun i _ _ => by rcases bI_r (c := q i) with e | e <;> rw [e] <;> decide)
  unfold kI
  omega
/-- the sheets that are picked together from place t of n -/
def pkN (off : Int → Int) (n : Int) : Nat → Int → Int
  | 0, _ => 0
  | f + 1, s => if s < n then (if off s = -1 then 1 else 1 + pkN off n f (s + 1)) else 0
def pk (off : Int → Int) (n t : Int) : Int := pkN off n (n - t).toNat t
def isPk (off : Int → Int) (n t m : Int) : Prop := 1 ≤ m ∧ t + m ≤ n ∧ (∀ i : Int, t ≤ i → i < t + m - 1 → off i ≠ -1) ∧ (t + m = n ∨ off (t + m - 1) = -1)
theorem pkN_is (off : Int → Int) (n : Int) : ∀ (f : Nat) (t : Int), (n - t).toNat = f → t < n → isPk off n t (pkN off n f t)
  | 0, t, h, h2 => by omega
  | f + 1, t, h, h2 => by
    rw [pkN, if_pos h2]
    by_cases e : off t = -1
    · rw [if_pos e]
      refine ⟨by omega, by omega, fun i h3 h4 => by omega, Or.inr ?_⟩
      rw [show t + 1 - 1 = t by omega]
      exact e
    · rw [if_neg e]
      by_cases e2 : t + 1 < n
      · obtain ⟨a1, a2, a3, a4⟩ := pkN_is off n f (t + 1) (by omega) e2
        refine ⟨by omega, by omega, fun i h3 h4 => ?_, ?_⟩
        · by_cases e3 : i = t
          · rw [e3]; exact e
          · exact a3 i (by omega) (by omega)
        · rcases a4 with a4 | a4
          · exact Or.inl (by omega)
          · refine Or.inr ?_
            rw [show t + (1 + pkN off n f (t + 1)) - 1 = t + 1 + pkN off n f (t + 1) - 1 by omega]
            exact a4
      · have e3 : pkN off n f (t + 1) = 0 := by
          cases f with
          | zero => rfl
          | succ f => rw [pkN, if_neg e2]
        rw [e3]
        exact ⟨by omega, by omega, fun i h3 h4 => by omega, Or.inl (by omega)⟩
theorem pk_is (off : Int → Int) {n t : Int} (h : t < n) : isPk off n t (pk off n t) := pkN_is off n _ t rfl h
theorem pk_one {off : Int → Int} {n t m m' : Int} (h : isPk off n t m) (h' : isPk off n t m') : m = m' := by
  obtain ⟨a1, a2, a3, a4⟩ := h
  obtain ⟨b1, b2, b3, b4⟩ := h'
  rcases Int.lt_trichotomy m m' with e | e | e
  · rcases a4 with a4 | a4
    · omega
    · exact absurd a4 (b3 _ (by omega) (by omega))
  · exact e
  · rcases b4 with b4 | b4
    · omega
    · exact absurd b4 (a3 _ (by omega) (by omega))
theorem isPk_cg {off off' : Int → Int} {n t m : Int} (h : isPk off n t m) (hc : ∀ i : Int, t ≤ i → i < n → off i = off' i) : isPk off' n t m := by
  obtain ⟨a1, a2, a3, a4⟩ := h
  refine ⟨a1, a2, fun i h1 h2 => ?_, ?_⟩
  · rw [← hc i h1 (by omega)]; exact a3 i h1 h2
  · rw [← hc _ (by omega) (by omega)]; exact a4
theorem pk_cg {off off' : Int → Int} {n t : Int} (h : t < n) (hc : ∀ i : Int, t ≤ i → i < n → off i = off' i) : pk off n t = pk off' n t := pk_one (isPk_cg (pk_is off h) hc) (pk_is off' h)
/-- thickness and length of a pick of k sheets from t on -/
def thk (T : Nat → Int → Int) (t k : Int) : Int := sI (fun i => T 1 (t + i)) k
def sta (off : Int → Int) (t k : Int) : Int := sI (fun i => off (t + i)) k
def lng (T : Nat → Int → Int) (off : Int → Int) (t k : Int) : Int := mI (fun i => sta off t i + T 0 (t + i)) k
/-- the usual thickness -/
def usG (gt : Int → Int) (gc wo : Int) : Int := if gc ≤ 0 then wo else (sI gt gc).tdiv gc
/-- a row written over from a to b -/
def fil (f : Int → Int) (a b v : Int) : Int → Int := fun j => if a ≤ j ∧ j < b then v else f j
theorem fil_0 (f : Int → Int) (a b v : Int) (h : b ≤ a) : fil f a b v = f := by
  funext j; unfold fil; rw [if_neg (by omega)]
theorem fil_s (f : Int → Int) (a b v : Int) (h : a ≤ b) : uI (fil f a b v) b v = fil f a (b + 1) v := by
  funext j
  unfold uI fil
  by_cases e : j = b
  · rw [if_pos e, if_pos (by omega)]
  · rw [if_neg e]
    by_cases e2 : a ≤ j ∧ j < b
    · rw [if_pos e2, if_pos (by omega)]
    · rw [if_neg e2, if_neg (by omega)]
theorem fil_in {f : Int → Int} {a b v j : Int} (h1 : a ≤ j) (h2 : j < b) : fil f a b v j = v := if_pos ⟨h1, h2⟩
theorem fil_out {f : Int → Int} {a b v j : Int} (h : ¬ (a ≤ j ∧ j < b)) : fil f a b v j = f j := if_neg h
theorem all_s {P : Int → Prop} {a b c : Int} (h : ∀ i : Int, a ≤ i → i < b → P i) (hb : P b) (hc : c = b + 1) : ∀ i : Int, a ≤ i → i < c → P i := fun i h1 h2 => by
  by_cases e : i = b
  · rw [e]; exact hb
  · exact h i h1 (by omega)
theorem absZ_lt {a z : Int} : a < absZ z ↔ (a < z ∨ a < -z) := by
  unfold absZ
  split <;> constructor <;> intro h <;> omega
theorem absZ_nlt {a z : Int} (h1 : z ≤ a) (h2 : -z ≤ a) : ¬ a < absZ z := fun q => by
  have := absZ_lt.mp q
  omega
