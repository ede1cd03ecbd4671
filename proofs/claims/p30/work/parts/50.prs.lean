/-! THE CLASS'S PARSER: rows, its relation to the pure state -/
section QGN
variable {p : Program} {l : Launch} {e : Env} {R : Room} {s : State} {m : MethodId} {args : Array Value} {below : List Frame} {meth : Method} {c : Code} {H : Heap} {locs : List Loc} {cells slots : Nat} {Q : State → Prop}
variable {cc : ByteArray} {pc : Nat} {ls : Array Slot} {rest : List Value} {D : va_G} {ty : List (ClassId × FieldType)} {ws : va_W} {a : Nat}
theorem q_getN (hx : p.tables.exec = Jvm.exec) (hb : c.code = cc) {own ref C host : String} {T : u_T} {N ci index : Nat} {tf : Nat → FieldType} (hts : ∀ w ∈ gW, w.before args s = true) (hown : s.vm.findClass own = some m.cls) (hK : va_K D vwCl ty s) (hP : va_P D vwCl ws H) (hC : qC C T N ci tf) (q0 : Nat) {fs : List Value} (he : ws[q0]? = some (a, .inr (ci, fs))) (k : Nat) (hk : k < N) (hlink : (Cond.fieldLinkNest own index ref (T k).2.1 (T k).2.2.1 host).before args s = true) (hsame : ∀ x, s.fieldFound? (T k).1 (T k).2.1 (T k).2.2.1 = some x → s.fieldFound? ref (T k).2.1 (T k).2.2.1 = some x) {v : Value} (hv : fs[k]? = some v) (hdg : decode cc pc = .ok (.getfield index, 3))
    (kk : W p l e R s m args below meth c H locs cells slots Q (F0 m (pc + 3) ls (v :: rest))) : W p l e R s m args below meth c H locs cells slots Q (F0 m pc ls (.ref a :: rest)) := va_getN hx hb hts hC.1 hown hK hP q0 he hC.2.1 k hk hlink hsame hv hdg kk
end QGN
section PXS
variable {f : Int → Int} {n kd ps pe pr : Int} {X : Nat → Int → Int}
/-- a number's digits -/
def dgK (f : Int → Int) (s e : Int) : Prop := e - s ≤ 4 ∧ ∀ i : Int, s ≤ i → i < e → 48 ≤ f i ∧ f i ≤ 57
/-- the class's fields -/
def PX (f : Int → Int) (n kd ps pe pr : Int) (X : Nat → Int → Int) : Prop := (pr = if X 9 3 = 0 then -1 else 8 * X 9 4 + X 9 3) ∧ (0 ≤ X 9 3 ∧ X 9 3 ≤ 5 ∧ (X 9 3 ≠ 0 → 0 ≤ X 9 4 ∧ X 9 4 ≤ 700)) ∧ (X 9 3 = 0 → ps = X 9 0 ∧ pe = X 9 1 ∧ kd = X 9 2 ∧ ps ≤ pe ∧ (kd = 2 → dgK f ps pe)) ∧ (0 ≤ ps ∧ ps ≤ n ∧ 0 ≤ pe ∧ pe ≤ n ∧ 0 ≤ kd ∧ kd ≤ 5 ∧ n ≤ 700)
theorem PX_0 (h : PX f n kd ps pe pr X) : (pr = -1 ↔ X 9 3 = 0) ∧ -1 ≤ pr ∧ pr ≤ 5605 := by
  obtain ⟨h1, h2, h3, h4⟩ := h
  by_cases c : X 9 3 = 0
  · rw [if_pos c] at h1
    omega
  · rw [if_neg c] at h1
    have z := h2.2.2 c
    omega
theorem PX_1 (h : PX f n kd ps pe pr X) (z : X 9 3 = 0) : ps = X 9 0 ∧ pe = X 9 1 ∧ kd = X 9 2 ∧ ps ≤ pe := ⟨(h.2.2.1 z).1, (h.2.2.1 z).2.1, (h.2.2.1 z).2.2.1, (h.2.2.1 z).2.2.2.1⟩
theorem PX_fa {k : Int} (h : PX f n kd ps pe pr X) (hk : 1 ≤ k ∧ k ≤ 5) : PX f n kd ps pe (if pr = -1 then 8 * ps + k else pr) (faX k X) := by
  have q := PX_0 h
  obtain ⟨h1, h2, h3, h4⟩ := h
  by_cases c : X 9 3 = 0
  · have e : faX k X = st X 9 (uI (uI (X 9) 3 k) 4 (X 9 0)) := if_pos c
    have e3 : faX k X 9 3 = k := by rw [e]; rfl
    have e4 : faX k X 9 4 = X 9 0 := by rw [e]; rfl
    have w := h3 c
    unfold PX
    rw [if_pos (q.1.mpr c), e3, e4, if_neg (by omega)]
    exact ⟨by omega, by omega, fun z => by omega, h4⟩
  · rw [faX_n c, if_neg (fun z => c (q.1.mp z))]
    exact ⟨h1, h2, h3, h4⟩
theorem PX_c9 {Y : Nat → Int → Int} (h : PX f n kd ps pe pr X) (e : ∀ k : Int, 0 ≤ k → k < 5 → X 9 k = Y 9 k) : PX f n kd ps pe pr Y := by
  unfold PX at h ⊢
  rw [e 0 (by decide) (by decide), e 1 (by decide) (by decide), e 2 (by decide) (by decide), e 3 (by decide) (by decide), e 4 (by decide) (by decide)] at h
  exact h
theorem ruN_all {lo hi : Int} : ∀ (m : Nat) (k i : Int), k ≤ i → i < ruN f n lo hi m k → lo ≤ f i ∧ f i ≤ hi := fun m => by
  induction m with
  | zero => intro k i a b; exact absurd b (by show ¬ i < k; omega)
  | succ m ih =>
    intro k i a b
    unfold ruN at b
    split at b
    · rename_i c
      by_cases e : i = k
      · rw [e]; exact c.2
      · exact ih (k + 1) i (by omega) b
    · omega
theorem nvN_bd {s : Int} : ∀ m : Nat, m ≤ 4 → (∀ i : Int, s ≤ i → i < s + m → 48 ≤ f i ∧ f i ≤ 57) → 0 ≤ nvN f s m ∧ nvN f s m ≤ 9999 ∧ (m ≤ 0 → nvN f s m ≤ 0) ∧ (m ≤ 1 → nvN f s m ≤ 9) ∧ (m ≤ 2 → nvN f s m ≤ 99) ∧ (m ≤ 3 → nvN f s m ≤ 999) := fun m => by
  induction m with
  | zero =>
    intro _ _
    have e0 : nvN f s 0 = 0 := rfl
    rw [e0]
    omega
  | succ m ih =>
    intro h1 h2
    have z := ih (by omega) (fun i a b => h2 i a (by omega))
    have y := h2 (s + m) (by omega) (by omega)
    have e : nvN f s (m + 1) = 10 * nvN f s m + (f (s + m) - 48) := rfl
    rw [e]
    omega
theorem dg_nx {s : Int} (k2 : tkK f n s = 2) (h : s ≤ n) : dgK f s (tkE f n s) := by
  unfold tkK at k2
  unfold tkE
  by_cases c1 : n ≤ s
  · rw [if_pos c1] at k2; exact absurd k2 (by decide)
  · rw [if_neg c1] at k2 ⊢
    by_cases c2 : 97 ≤ f s ∧ f s ≤ 122
    · rw [if_pos c2] at k2
      split at k2
      · exact absurd k2 (by decide)
      · exact absurd k2 (by decide)
    · rw [if_neg c2] at k2 ⊢
      by_cases c3 : 48 ≤ f s ∧ f s ≤ 57
      · rw [if_pos c3] at k2 ⊢
        by_cases c4 : 4 < ru f n 48 57 s - s
        · rw [if_pos c4] at k2; exact absurd k2 (by decide)
        · exact ⟨by omega, fun i x y => ruN_all _ s i x y⟩
      · rw [if_neg c3] at k2
        split at k2
        · exact absurd k2 (by decide)
        · split at k2
          · exact absurd k2 (by decide)
          · exact absurd k2 (by decide)
theorem nu_dg (h : dgK f (X 9 0) (X 9 1)) : 0 ≤ nuV f X ∧ nuV f X ≤ 9999 := by
  have d := nvN_bd (f := f) (s := X 9 0) (X 9 1 - X 9 0).toNat (by have := h.1; omega) (fun i x y => h.2 i x (by omega))
  exact ⟨d.1, d.2.1⟩
theorem PX_nu (h : PX f n kd ps pe pr X) (h0 : X 9 3 = 0) (h2 : X 9 2 = 2) : 0 ≤ nuV f X ∧ nuV f X ≤ 9999 := by
  obtain ⟨b1, b2, b3, b4, b5⟩ := h.2.2.1 h0
  have q := b5 (by omega)
  rw [b1, b2] at q
  exact nu_dg q
/-- before a token is looked for -/
def PY (f : Int → Int) (n pe pr : Int) (X : Nat → Int → Int) : Prop := (pr = if X 9 3 = 0 then -1 else 8 * X 9 4 + X 9 3) ∧ (0 ≤ X 9 3 ∧ X 9 3 ≤ 5 ∧ (X 9 3 ≠ 0 → 0 ≤ X 9 4 ∧ X 9 4 ≤ 700)) ∧ (X 9 3 = 0 → pe = X 9 1) ∧ (0 ≤ pe ∧ pe ≤ n ∧ n ≤ 700)
theorem PX_y (h : PX f n kd ps pe pr X) : PY f n pe pr X := ⟨h.1, h.2.1, fun z => (h.2.2.1 z).2.1, h.2.2.2.2.2.1, h.2.2.2.2.2.2.1, h.2.2.2.2.2.2.2.2.2⟩
theorem PX_nx {s2 e2 k2 : Int} (h : PY f n pe pr X) (h0 : X 9 3 = 0) (e1 : s2 = sk f n pe) (e2' : e2 = tkE f n s2) (e3 : k2 = tkK f n s2) : PX f n k2 s2 e2 pr (nxX f n X) := by
  obtain ⟨a1, a2, a3, a4⟩ := h
  have w := a3 h0
  have q := sk_bd (f := f) (n := n) (k := pe) a4.2.1
  have q2 := tkE_bb (f := f) (n := n) (s := sk f n pe) q.2
  have q3 := tkK_bd (f := f) (n := n) (s := sk f n pe)
  have q5 := dg_nx (f := f) (n := n) (s := sk f n pe)
  rw [w] at e1 q q2 q3 q5
  subst e1 e2' e3
  exact ⟨a1, a2, fun _ => ⟨rfl, rfl, rfl, q2.1, fun z => q5 z q.2⟩, by omega, q.2, by omega, q2.2, q3.1, q3.2, a4.2.2⟩
theorem PX_wd {L : List Int} (h : PX f n kd ps pe pr X) : (pr = -1 ∧ kd = 1 ∧ pe - ps = (L.length : Int)) ∧ kI (fun k => f (ps + k) ≠ L.getD k.toNat 0) (L.length : Int) = 0 ↔ isWd f (X 9 3) (X 9 2) (X 9 0) (X 9 1) L := by
  have q := PX_0 h
  by_cases e : X 9 3 = 0
  · obtain ⟨b1, b2, b3, b4⟩ := h.2.2.1 e
    rw [b1, b2, b3]
    exact ⟨fun w => ⟨⟨e, w.1.2.1, w.1.2.2⟩, w.2⟩, fun w => ⟨⟨q.1.mpr e, w.1.2.1, w.1.2.2⟩, w.2⟩⟩
  · exact ⟨fun w => absurd (q.1.mp w.1.1) e, fun w => absurd w.1.1 e⟩
/-- the parser's small steps -/
def tiX (f : Int → Int) (n : Int) (i : Nat) (X : Nat → Int → Int) : Nat → Int → Int := if wdX f X i then nxX f n X else X
def tmX (f : Int → Int) (n : Int) (X : Nat → Int → Int) : Nat → Int → Int := if lessQ X then nxX f n X else X
theorem rs_tm : rsX f n X = rdX f n 0 99 (tmX f n (rsA f n X)) := rfl
theorem gl_ti (h : wdX f X 6) : glX f n X = rdX f n 0 400 (tiX f n 6 X) := by
  unfold glX tiX
  rw [if_pos h, if_pos h]
theorem gl_tn (h : ¬ wdX f X 6) : glX f n X = tiX f n 6 X := by
  unfold glX tiX
  rw [if_neg h, if_neg h]
theorem rdP_1 {lo hi : Int} (h : ¬ (X 9 3 = 0 ∧ X 9 2 = 2)) : rdX f n lo hi X = faX 1 X ∧ faX 1 X 9 3 ≠ 0 := by
  refine ⟨?_, faX_3 (by decide)⟩
  unfold rdX
  by_cases c : X 9 3 = 0
  · rw [if_pos c, if_neg (fun z => h ⟨c, z⟩)]
  · rw [if_neg c, faX_n c]
theorem rdP_2 {lo hi : Int} (h : X 9 3 = 0 ∧ X 9 2 = 2) (h2 : ¬ (lo ≤ nuV f X ∧ nuV f X ≤ hi)) : rdX f n lo hi X = faX 4 X ∧ faX 4 X 9 3 ≠ 0 := by
  refine ⟨?_, faX_3 (by decide)⟩
  unfold rdX
  rw [if_pos h.1, if_pos h.2, if_neg h2]
theorem rdP_3 {lo hi : Int} (h : X 9 3 = 0 ∧ X 9 2 = 2) (h2 : lo ≤ nuV f X ∧ nuV f X ≤ hi) : rdX f n lo hi X = nxX f n X := by
  unfold rdX
  rw [if_pos h.1, if_pos h.2, if_pos h2]
theorem kI_has {q : Int → Prop} [DecidablePred q] {k m : Int} (h0 : 0 ≤ k) (h1 : k < m) (h : q k) : kI q m ≠ 0 := by
  have z1 := kI_le (q := q) (k := k + 1) (n := m) (by omega) (by omega)
  have z2 := kI_bd q h0
  rw [kI_s _ h0, bI_t h] at z1
  omega
end PXS
