/-! A TEXT TOKEN BY TOKEN: what the parser finds in it -/
/-- from e on there stands L, and then the text ends -/
def rst (f : Int → Int) (n e : Int) (L : List Int) : Prop := n = e + (L.length : Int) ∧ 0 ≤ e ∧ ∀ k : Nat, k < L.length → f (e + (k : Int)) = L.getD k 0
section TOK
variable {f : Int → Int} {n e : Int} {A B L body sp : List Int} {X : Nat → Int → Int} {kd x : Int}
theorem gd_l {A B : List Int} {k : Nat} (h : k < A.length) : (A ++ B).getD k 0 = A.getD k 0 := by
  rw [List.getD_eq_getElem?_getD, List.getD_eq_getElem?_getD, List.getElem?_append_left h]
theorem gd_r {A B : List Int} {k : Nat} : (A ++ B).getD (A.length + k) 0 = B.getD k 0 := by
  rw [List.getD_eq_getElem?_getD, List.getD_eq_getElem?_getD, List.getElem?_append_right (Nat.le_add_right _ _), Nat.add_sub_cancel_left]
theorem rst_l (h : rst f n e (A ++ B)) : ∀ k : Nat, k < A.length → f (e + (k : Int)) = A.getD k 0 := fun k hk => by
  have q := h.2.2 k (by rw [List.length_append]; omega)
  rw [gd_l hk] at q
  exact q
theorem rst_r (h : rst f n e (A ++ B)) : rst f n (e + (A.length : Int)) B := by
  obtain ⟨h1, h2, h3⟩ := h
  rw [List.length_append] at h1 h3
  refine ⟨by omega, by omega, fun k hk => ?_⟩
  have q := h3 (A.length + k) (by omega)
  rw [gd_r] at q
  rw [← q]
  congr 1
  omega
/-- what may be a token, before L -/
def tokOk (body : List Int) (kd : Int) (L : List Int) : Prop := 0 < body.length ∧ (body.getD 0 0 ≠ 32 ∧ body.getD 0 0 ≠ 10) ∧ ∀ (f : Int → Int) (n s : Int), rst f n s (body ++ L) → tkE f n s = s + (body.length : Int) ∧ tkK f n s = kd
theorem ru_l {lo hi : Int} : ∀ (m : Nat) (k : Int), k + (m : Int) ≤ n → (∀ j : Nat, j < m → lo ≤ f (k + (j : Int)) ∧ f (k + (j : Int)) ≤ hi) → (k + (m : Int) < n → ¬ (lo ≤ f (k + (m : Int)) ∧ f (k + (m : Int)) ≤ hi)) → ru f n lo hi k = k + (m : Int)
  | 0, k, h1, _, h3 => by
    rw [ru_e]
    · omega
    · intro q
      rw [show k + ((0 : Nat) : Int) = k by omega] at h3
      exact h3 q.1 q.2
  | m + 1, k, h1, h2, h3 => by
    have q := h2 0 (by omega)
    rw [show k + ((0 : Nat) : Int) = k by omega] at q
    rw [← ru_s ⟨by omega, q⟩, ru_l m (k + 1) (by omega) (fun j hj => by
      have w := h2 (j + 1) (by omega)
      rw [show k + 1 + (j : Int) = k + ((j + 1 : Nat) : Int) by omega]
      exact w) (fun z => by
      rw [show k + 1 + (m : Int) = k + ((m + 1 : Nat) : Int) by omega] at z ⊢
      exact h3 z)]
    omega
theorem tok_run {lo hi : Int} (h : rst f n e (body ++ L)) (hb : ∀ k : Nat, k < body.length → lo ≤ body.getD k 0 ∧ body.getD k 0 ≤ hi) (hL : L = [] ∨ ¬ (lo ≤ L.getD 0 0 ∧ L.getD 0 0 ≤ hi)) : ru f n lo hi e = e + (body.length : Int) := by
  have hr := rst_r h
  refine ru_l body.length e (by have := hr.1; omega) (fun j hj => by rw [rst_l h j hj]; exact hb j hj) (fun z => ?_)
  rcases hL with rfl | hL
  · have := hr.1
    simp at this
    omega
  · have w := hr.2.2 0 (by have := hr.1; omega)
    rw [show e + (body.length : Int) + ((0 : Nat) : Int) = e + (body.length : Int) by omega] at w
    rw [w]
    exact hL
theorem rst_0 (h : rst f n e (body ++ L)) (h0 : 0 < body.length) : f e = body.getD 0 0 ∧ ¬ n ≤ e := by
  have q := rst_l h 0 h0
  rw [show e + ((0 : Nat) : Int) = e by omega] at q
  exact ⟨q, by have := (rst_r h).1; omega⟩
theorem tok_w (h0 : 0 < body.length) (h8 : body.length ≤ 8) (hb : ∀ k : Nat, k < body.length → 97 ≤ body.getD k 0 ∧ body.getD k 0 ≤ 122) (hL : L = [] ∨ ¬ (97 ≤ L.getD 0 0 ∧ L.getD 0 0 ≤ 122)) : tokOk body 1 L := by
  have q0 := hb 0 h0
  refine ⟨h0, by omega, fun f n s h => ?_⟩
  obtain ⟨e0, e1⟩ := rst_0 h h0
  unfold tkE tkK
  rw [if_neg e1, if_neg e1, e0, if_pos q0, if_pos q0, tok_run h hb hL, if_neg (by omega)]
  exact ⟨rfl, rfl⟩
theorem tok_n (h0 : 0 < body.length) (h4 : body.length ≤ 4) (hb : ∀ k : Nat, k < body.length → 48 ≤ body.getD k 0 ∧ body.getD k 0 ≤ 57) (hL : L = [] ∨ ¬ (48 ≤ L.getD 0 0 ∧ L.getD 0 0 ≤ 57)) : tokOk body 2 L := by
  have q0 := hb 0 h0
  refine ⟨h0, by omega, fun f n s h => ?_⟩
  obtain ⟨e0, e1⟩ := rst_0 h h0
  unfold tkE tkK
  rw [if_neg e1, if_neg e1, e0, if_neg (show ¬ (97 ≤ body.getD 0 0 ∧ body.getD 0 0 ≤ 122) by omega), if_neg (show ¬ (97 ≤ body.getD 0 0 ∧ body.getD 0 0 ≤ 122) by omega), if_pos q0, if_pos q0, tok_run h hb hL, if_neg (by omega)]
  exact ⟨rfl, rfl⟩
theorem tok_c : tokOk [59] 3 L := by
  refine ⟨by decide, by decide, fun f n s h => ?_⟩
  obtain ⟨e0, e1⟩ := rst_0 h (by decide)
  have e2 : f s = 59 := e0
  unfold tkE tkK
  rw [if_neg e1, if_neg e1, e2]
  exact ⟨rfl, rfl⟩
theorem tok_m : tokOk [45] 4 L := by
  refine ⟨by decide, by decide, fun f n s h => ?_⟩
  obtain ⟨e0, e1⟩ := rst_0 h (by decide)
  have e2 : f s = 45 := e0
  unfold tkE tkK
  rw [if_neg e1, if_neg e1, e2]
  exact ⟨rfl, rfl⟩
theorem dgS_b (h : 0 ≤ x ∧ x ≤ 999) : 0 < (dgS x).length ∧ (dgS x).length ≤ 3 ∧ ∀ k : Nat, k < (dgS x).length → 48 ≤ (dgS x).getD k 0 ∧ (dgS x).getD k 0 ≤ 57 := by
  unfold dgS
  split
  · refine ⟨by simp, by simp, fun k hk => ?_⟩
    have hk0 : k = 0 := by simp at hk; omega
    subst hk0
    show 48 ≤ 48 + x ∧ 48 + x ≤ 57
    omega
  · split
    · refine ⟨by simp, by simp, fun k hk => ?_⟩
      have hk2 : k < 2 := hk
      rcases (show k = 0 ∨ k = 1 by omega) with rfl | rfl
      · show 48 ≤ 48 + x / 10 ∧ 48 + x / 10 ≤ 57
        omega
      · show 48 ≤ 48 + x % 10 ∧ 48 + x % 10 ≤ 57
        omega
    · refine ⟨by simp, by simp, fun k hk => ?_⟩
      have hk2 : k < 3 := hk
      rcases (show k = 0 ∨ k = 1 ∨ k = 2 by omega) with rfl | rfl | rfl
      · show 48 ≤ 48 + x / 100 ∧ 48 + x / 100 ≤ 57
        omega
      · show 48 ≤ 48 + x / 10 % 10 ∧ 48 + x / 10 % 10 ≤ 57
        omega
      · show 48 ≤ 48 + x % 10 ∧ 48 + x % 10 ≤ 57
        omega
theorem tok_d (h : 0 ≤ x ∧ x ≤ 999) (hL : L = [] ∨ ¬ (48 ≤ L.getD 0 0 ∧ L.getD 0 0 ≤ 57)) : tokOk (dgS x) 2 L := by
  have q := dgS_b h
  exact tok_n q.1 (by omega) q.2.2 hL
/-- before a token; at one -/
def bef (f : Int → Int) (n : Int) (X : Nat → Int → Int) (L : List Int) : Prop := X 9 3 = 0 ∧ rst f n (X 9 1) L
def cur (f : Int → Int) (n : Int) (X : Nat → Int → Int) (body : List Int) (kd : Int) (L : List Int) : Prop := (X 9 2 = kd ∧ X 9 1 = X 9 0 + (body.length : Int) ∧ ∀ k : Nat, k < body.length → f (X 9 0 + (k : Int)) = body.getD k 0) ∧ bef f n X L
theorem tn_0 (h : bef f n X (body ++ L)) (hb : tokOk body kd L) : cur f n (nxX f n X) body kd L := by
  obtain ⟨h3, hr⟩ := h
  obtain ⟨e0, e1⟩ := rst_0 hr hb.1
  have hs : sk f n (X 9 1) = X 9 1 := sk_e (fun q => by have := hb.2.1; omega)
  obtain ⟨g1, g2⟩ := hb.2.2 f n (X 9 1) hr
  have a0 : nxX f n X 9 0 = X 9 1 := hs
  have a1 : nxX f n X 9 1 = X 9 1 + (body.length : Int) := by
    show tkE f n (sk f n (X 9 1)) = _
    rw [hs, g1]
  have a2 : nxX f n X 9 2 = kd := by
    show tkK f n (sk f n (X 9 1)) = _
    rw [hs, g2]
  unfold cur bef
  rw [a0, a1, a2]
  exact ⟨⟨rfl, rfl, rst_l hr⟩, h3, rst_r hr⟩
theorem tn_1 (h : bef f n X ([32] ++ (body ++ L))) (hb : tokOk body kd L) : cur f n (nxX f n X) body kd L := by
  obtain ⟨h3, hr⟩ := h
  obtain ⟨e0, e1⟩ := rst_0 hr (by decide)
  have e2 : f (X 9 1) = 32 := e0
  have hr2 : rst f n (X 9 1 + 1) (body ++ L) := rst_r hr
  have hs : sk f n (X 9 1) = X 9 1 + 1 := by
    rw [← sk_s ⟨by omega, Or.inl e2⟩]
    exact sk_e (fun q => by have := (rst_0 hr2 hb.1).1; have := hb.2.1; omega)
  obtain ⟨g1, g2⟩ := hb.2.2 f n (X 9 1 + 1) hr2
  have a0 : nxX f n X 9 0 = X 9 1 + 1 := hs
  have a1 : nxX f n X 9 1 = X 9 1 + 1 + (body.length : Int) := by
    show tkE f n (sk f n (X 9 1)) = _
    rw [hs, g1]
  have a2 : nxX f n X 9 2 = kd := by
    show tkK f n (sk f n (X 9 1)) = _
    rw [hs, g2]
  unfold cur bef
  rw [a0, a1, a2]
  exact ⟨⟨rfl, rfl, rst_l hr2⟩, h3, rst_r hr2⟩
/-- at the end of the text -/
theorem tn_e (h : bef f n X []) : nxX f n X 9 2 = 0 ∧ nxX f n X 9 3 = 0 := by
  have q : n = X 9 1 := by have := h.2.1; simp at this; omega
  have hs : sk f n (X 9 1) = X 9 1 := sk_e (fun w => by omega)
  refine ⟨?_, h.1⟩
  show tkK f n (sk f n (X 9 1)) = 0
  rw [hs]
  unfold tkK
  rw [if_pos (by omega)]
/-- a number read -/
theorem nu_cur (h : cur f n X (dgS x) kd L) (hx : 0 ≤ x ∧ x ≤ 999) : nuV f X = x := by
  obtain ⟨⟨h1, h2, h3⟩, h4⟩ := h
  unfold nuV
  rw [h2, show X 9 0 + ((dgS x).length : Int) - X 9 0 = ((dgS x).length : Int) by omega]
  unfold dgS at h3 ⊢
  split
  · next c =>
    rw [if_pos c] at h3
    have q0 := h3 0 (by simp)
    show 10 * 0 + (f (X 9 0 + ((0 : Nat) : Int)) - 48) = x
    rw [q0]
    show 10 * 0 + (48 + x - 48) = x
    omega
  · next c =>
    rw [if_neg c] at h3
    split
    · next c2 =>
      rw [if_pos c2] at h3
      have q0 := h3 0 (by simp)
      have q1 := h3 1 (by simp)
      show 10 * (10 * 0 + (f (X 9 0 + ((0 : Nat) : Int)) - 48)) + (f (X 9 0 + ((1 : Nat) : Int)) - 48) = x
      rw [q0, q1]
      show 10 * (10 * 0 + (48 + x / 10 - 48)) + (48 + x % 10 - 48) = x
      omega
    · next c2 =>
      rw [if_neg c2] at h3
      have q0 := h3 0 (by simp)
      have q1 := h3 1 (by simp)
      have q2 := h3 2 (by simp)
      show 10 * (10 * (10 * 0 + (f (X 9 0 + ((0 : Nat) : Int)) - 48)) + (f (X 9 0 + ((1 : Nat) : Int)) - 48)) + (f (X 9 0 + ((2 : Nat) : Int)) - 48) = x
      rw [q0, q1, q2]
      show 10 * (10 * (10 * 0 + (48 + x / 100 - 48)) + (48 + x / 10 % 10 - 48)) + (48 + x % 10 - 48) = x
      omega
theorem rd_cur {lo hi : Int} (h : cur f n X (dgS x) 2 L) (hx : 0 ≤ x ∧ x ≤ 999) (h1 : lo ≤ x ∧ x ≤ hi) : rdX f n lo hi X = nxX f n X := by
  unfold rdX
  rw [if_pos h.2.1, if_pos h.1.1, nu_cur h hx, if_pos h1]
/-- a word -/
theorem wd_y {i : Nat} (h : cur f n X (txL i) 1 L) : wdX f X i := by
  refine ⟨⟨h.2.1, h.1.1, by have := h.1.2.1; omega⟩, kI_no (fun k a b => ?_)⟩
  have q := h.1.2.2 k.toNat (by omega)
  rw [show ((k.toNat : Nat) : Int) = k by omega] at q
  exact fun z => z q
theorem wd_k {i : Nat} (h : X 9 2 ≠ 1) : ¬ wdX f X i := fun q => h q.1.2.1
theorem wd_n {i : Nat} (h : cur f n X body kd L) (hl : body.length ≠ (txL i).length) : ¬ wdX f X i := fun q => by
  have w := q.1.2.2
  have := h.1.2.1
  omega
end TOK
