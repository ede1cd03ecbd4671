/-! BYTES AND TOKENS -/
def shR (v k : Int) : Int := (iI v >>> (iI k &&& 31)).toInt
def byT (v : Int) : Int := ((iI v).toInt8.toInt32).toInt
theorem byT_bd (v : Int) : -128 ≤ byT v ∧ byT v < 128 := by
  unfold byT
  rw [Int8.toInt_toInt32]
  exact ⟨Int8.le_toInt _, Int8.toInt_lt _⟩
section QR4
variable {p : Program} {l : Launch} {e : Env} {R : Room} {s : State} {m : MethodId} {args : Array Value} {below : List Frame} {meth : Method} {c : Code} {H : Heap} {locs : List Loc} {cells slots : Nat} {Q : State → Prop}
variable {cc : ByteArray} {pc : Nat} {ls : Array Slot} {rest : List Value}
theorem q_ishr (hx : p.tables.exec = Jvm.exec) (hb : c.code = cc) {a b : Int} (hdg : decode cc pc = .ok (.ishr, 1)) (k : W p l e R s m args below meth c H locs cells slots Q (F0 m (pc + 1) ls (.int (iI (shR a b)) :: rest))) : W p l e R s m args below meth c H locs cells slots Q (F0 m pc ls (.int (iI b) :: .int (iI a) :: rest)) := lv_ishr hx hb hdg (by unfold shR at k; rw [iI_of] at k; exact k)
theorem q_i2b (hx : p.tables.exec = Jvm.exec) (hb : c.code = cc) {a : Int} (hdg : decode cc pc = .ok (.i2b, 1)) (k : W p l e R s m args below meth c H locs cells slots Q (F0 m (pc + 1) ls (.int (iI (byT a)) :: rest))) : W p l e R s m args below meth c H locs cells slots Q (F0 m pc ls (.int (iI a) :: rest)) := lv_i2b hx hb hdg rfl (by unfold byT at k; rw [iI_of] at k; exact k)
end QR4
/-- four bytes more -/
def apI (f : Int → Int) (n v : Int) : Int → Int := uI (uI (uI (uI f n (byT (shR v 24))) (n + 1) (byT (shR v 16))) (n + 2) (byT (shR v 8))) (n + 3) (byT (shR v 0))
def apA (f : Int → Int) (n a b c d e : Int) : Int → Int := apI (apI (apI (apI (apI f n a) (n + 4) b) (n + 8) c) (n + 12) d) (n + 16) e
def byR (f : Int → Int) : Prop := ∀ i : Int, -128 ≤ f i ∧ f i < 128
theorem byR_u {f : Int → Int} {i v : Int} (h : byR f) (hv : -128 ≤ v ∧ v < 128) : byR (uI f i v) := fun j => by
  unfold uI; split
  · exact hv
  · exact h j
theorem byR_I {f : Int → Int} {n v : Int} (h : byR f) : byR (apI f n v) := byR_u (byR_u (byR_u (byR_u h (byT_bd _)) (byT_bd _)) (byT_bd _)) (byT_bd _)
theorem byR_A {f : Int → Int} {n a b c d e : Int} (h : byR f) : byR (apA f n a b c d e) := byR_I (byR_I (byR_I (byR_I (byR_I h))))
/-- where the white space ends -/
def skN (f : Int → Int) (n : Int) : Nat → Int → Int
  | 0, k => k
  | m + 1, k => if k < n ∧ (f k = 32 ∨ f k = 10) then skN f n m (k + 1) else k
def sk (f : Int → Int) (n k : Int) : Int := skN f n (n - k).toNat k
theorem sk_s {f : Int → Int} {n k : Int} (h : k < n ∧ (f k = 32 ∨ f k = 10)) : sk f n (k + 1) = sk f n k := by
  unfold sk
  rw [show (n - k).toNat = (n - (k + 1)).toNat + 1 by omega]
  exact (if_pos h).symm
theorem sk_e {f : Int → Int} {n k : Int} (h : ¬ (k < n ∧ (f k = 32 ∨ f k = 10))) : sk f n k = k := by
  unfold sk
  cases (n - k).toNat with
  | zero => rfl
  | succ m => exact if_neg h
theorem skN_bd {f : Int → Int} {n : Int} : ∀ (m : Nat) (k : Int), k ≤ n → k ≤ skN f n m k ∧ skN f n m k ≤ n := fun m => by
  induction m with
  | zero => intro k h; exact ⟨Int.le_refl _, h⟩
  | succ m ih =>
    intro k h
    unfold skN
    split
    · have z := ih (k + 1) (by omega)
      omega
    · omega
theorem sk_bd {f : Int → Int} {n k : Int} (h : k ≤ n) : k ≤ sk f n k ∧ sk f n k ≤ n := skN_bd _ _ h
/-- where a run of bytes lo to hi ends -/
def ruN (f : Int → Int) (n lo hi : Int) : Nat → Int → Int
  | 0, k => k
  | m + 1, k => if k < n ∧ lo ≤ f k ∧ f k ≤ hi then ruN f n lo hi m (k + 1) else k
def ru (f : Int → Int) (n lo hi k : Int) : Int := ruN f n lo hi (n - k).toNat k
theorem ru_s {f : Int → Int} {n lo hi k : Int} (h : k < n ∧ lo ≤ f k ∧ f k ≤ hi) : ru f n lo hi (k + 1) = ru f n lo hi k := by
  unfold ru
  rw [show (n - k).toNat = (n - (k + 1)).toNat + 1 by omega]
  exact (if_pos h).symm
theorem ru_e {f : Int → Int} {n lo hi k : Int} (h : ¬ (k < n ∧ lo ≤ f k ∧ f k ≤ hi)) : ru f n lo hi k = k := by
  unfold ru
  cases (n - k).toNat with
  | zero => rfl
  | succ m => exact if_neg h
theorem ruN_bd {f : Int → Int} {n lo hi : Int} : ∀ (m : Nat) (k : Int), k ≤ n → k ≤ ruN f n lo hi m k ∧ ruN f n lo hi m k ≤ n := fun m => by
  induction m with
  | zero => intro k h; exact ⟨Int.le_refl _, h⟩
  | succ m ih =>
    intro k h
    unfold ruN
    split
    · have z := ih (k + 1) (by omega)
      omega
    · omega
theorem ru_bd {f : Int → Int} {n lo hi k : Int} (h : k ≤ n) : k ≤ ru f n lo hi k ∧ ru f n lo hi k ≤ n := ruN_bd _ _ h
/-- the value of m digits from s -/
def nvN (f : Int → Int) (s : Int) : Nat → Int
  | 0 => 0
  | m + 1 => 10 * nvN f s m + (f (s + m) - 48)
def nv (f : Int → Int) (s k : Int) : Int := nvN f s k.toNat
theorem nv_s {f : Int → Int} {s k : Int} (h : 0 ≤ k) : nv f s (k + 1) = 10 * nv f s k + (f (s + k) - 48) := by
  unfold nv
  rw [show (k + 1).toNat = k.toNat + 1 by omega]
  show 10 * nvN f s k.toNat + (f (s + (k.toNat : Int)) - 48) = _
  rw [show ((k.toNat : Nat) : Int) = k by omega]
theorem nv_0 {f : Int → Int} {s : Int} : nv f s 0 = 0 := rfl
/-- the token that starts at s -/
def tkE (f : Int → Int) (n s : Int) : Int := if n ≤ s then s else if 97 ≤ f s ∧ f s ≤ 122 then ru f n 97 122 s else if 48 ≤ f s ∧ f s ≤ 57 then ru f n 48 57 s else s + 1
def tkK (f : Int → Int) (n s : Int) : Int := if n ≤ s then 0 else if 97 ≤ f s ∧ f s ≤ 122 then (if 8 < ru f n 97 122 s - s then 5 else 1) else if 48 ≤ f s ∧ f s ≤ 57 then (if 4 < ru f n 48 57 s - s then 5 else 2) else if f s = 59 then 3 else if f s = 45 then 4 else 5
def bytA (f : Int → Int) (n k : Int) : Int := if k < n then ub (f k) else -1
theorem bytA_y {f : Int → Int} {n k : Int} (h : k < n) : bytA f n k = ub (f k) := if_pos h
theorem bytA_n {f : Int → Int} {n k : Int} (h : n ≤ k) : bytA f n k = -1 := if_neg (by omega)
theorem bytA_bd {f : Int → Int} {n k : Int} (h : byR f) : -1 ≤ bytA f n k ∧ bytA f n k ≤ 255 ∧ (k < n ↔ 0 ≤ bytA f n k) ∧ (k < n → bytA f n k = f k ∨ (f k < 0 ∧ bytA f n k = f k + 256)) := by
  have q := h k
  unfold bytA ub
  (repeat' split) <;> omega
