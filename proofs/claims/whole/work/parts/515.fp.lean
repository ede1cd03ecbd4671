/-! DOUBLES: a quotient of two ints whose second isn't zero is no NaN -/
section FPS
def gD : FP.Core.Datum → Prop
  | .nan => False
  | .inf _ => True
  | .fin _ c q => c < 9007199254740992 ∧ q ≤ 971
theorem fp_enc {d : FP.Core.Datum} (h : gD d) : FP.Core.encode FP.Core.b64 d < 18446744073709551616 ∧ FP.Core.encode FP.Core.b64 d % 9223372036854775808 ≤ 9218868437227405312 := by
  cases d with
  | nan => exact h.elim
  | inf s => cases s <;> decide +kernel
  | fin s c q =>
    have hs : s.toNat ≤ 1 := by cases s <;> decide
    have hc : c < 9007199254740992 ∧ q ≤ 971 := h
    have e : FP.Core.encode FP.Core.b64 (.fin s c q) = if c < 4503599627370496 then (s.toNat * 2048 + 0) * 4503599627370496 + c else (s.toNat * 2048 + ((q - (-1074)).toNat + 1)) * 4503599627370496 + (c - 4503599627370496) := rfl
    rw [e]
    split <;> omega
theorem fp_rr (s : Bool) (num den : Nat) (e : Int) : gD (FP.Core.roundRatio FP.Core.b64 s num den e) := by
  unfold FP.Core.roundRatio
  split
  · exact ⟨by decide, by decide⟩
  · unfold FP.Core.roundAt FP.Core.settle
    split
    · rename_i h1
      unfold FP.Core.bound
      split
      · rename_i h2; exact ⟨h1, h2⟩
      · trivial
    · unfold FP.Core.bound
      split
      · rename_i h2; exact ⟨by decide, h2⟩
      · trivial
theorem fp_dec {m : Nat} (h : m % 9223372036854775808 ≤ 9218868437227405312) : FP.Core.decode FP.Core.b64 m ≠ .nan := by
  have e : FP.Core.decode FP.Core.b64 m = if m / 4503599627370496 % 2048 = 2047 then (if m % 4503599627370496 = 0 then .inf (FP.Core.fieldS FP.Core.b64 m) else .nan) else if m / 4503599627370496 % 2048 = 0 then .fin (FP.Core.fieldS FP.Core.b64 m) (m % 4503599627370496) FP.Core.b64.qmin else .fin (FP.Core.fieldS FP.Core.b64 m) (4503599627370496 + m % 4503599627370496) (FP.Core.b64.qmin + ((m / 4503599627370496 % 2048 : Nat) - 1)) := rfl
  rw [e]
  split
  · split
    · exact fun w => by cases w
    · omega
  · split
    · exact fun w => by cases w
    · exact fun w => by cases w
theorem fp_q {x y : FP.Core.Datum} (hx : x ≠ .nan) (hy : ∃ (t : Bool) (d : Nat) (r : Int), y = .fin t d r ∧ d ≠ 0) : gD (FP.Core.quotient FP.Core.b64 x y) := by
  obtain ⟨t, d, r, rfl, hd⟩ := hy
  cases x with
  | nan => exact absurd rfl hx
  | inf s => trivial
  | fin s c q =>
    show gD (if d = 0 then (if c = 0 then .nan else .inf (s != t)) else FP.Core.roundRatio FP.Core.b64 (s != t) c d (q - r))
    rw [if_neg hd]
    exact fp_rr _ _ _ _
def fpT (n : Nat) : Bool := match FP.Core.decode FP.Core.b64 (UInt64.ofNat (FP.Core.fromInt FP.Core.b64 (n : Int))).toNat with
  | .fin _ d _ => d != 0
  | _ => false
theorem fp_T : ∀ n : Nat, n < 81 → 1 ≤ n → fpT n = true := by decide +kernel
theorem fp_n {n : Nat} (h : n < 81) (h1 : 1 ≤ n) : ∃ (t : Bool) (d : Nat) (r : Int), FP.Core.decode FP.Core.b64 (UInt64.ofNat (FP.Core.fromInt FP.Core.b64 (n : Int))).toNat = .fin t d r ∧ d ≠ 0 := by
  have z := fp_T n h h1
  unfold fpT at z
  split at z
  · rename_i t d r e
    exact ⟨t, d, r, e, fun w => by rw [w] at z; exact absurd z (by decide)⟩
  · exact absurd z (by decide)
theorem fp_of {m : Nat} (h : m < 18446744073709551616) : (UInt64.ofNat m).toNat = m := by
  rw [UInt64.toNat_ofNat']
  exact Nat.mod_eq_of_lt h
theorem fp_div (a : Int32) {b : Int} (hb : 1 ≤ b ∧ b ≤ 80) : vf_n64 (FP.ddiv (FP.i2d a) (FP.i2d (iI b))) := by
  have eb : (iI b).toInt = ((b.toNat : Nat) : Int) := by rw [iI_t ⟨by omega, by omega⟩]; omega
  have ga : gD (FP.Core.round FP.Core.b64 (FP.Core.ofInt a.toInt)) := fp_rr _ _ _ _
  have wa := fp_enc ga
  have na : FP.Core.decode FP.Core.b64 (FP.i2d a).toNat ≠ .nan := by
    have e : (FP.i2d a).toNat = FP.Core.encode FP.Core.b64 (FP.Core.round FP.Core.b64 (FP.Core.ofInt a.toInt)) := fp_of wa.1
    rw [e]
    exact fp_dec wa.2
  have nb : ∃ (t : Bool) (d : Nat) (r : Int), FP.Core.decode FP.Core.b64 (FP.i2d (iI b)).toNat = .fin t d r ∧ d ≠ 0 := by
    have e : FP.i2d (iI b) = UInt64.ofNat (FP.Core.fromInt FP.Core.b64 (iI b).toInt) := rfl
    rw [e, eb]
    exact fp_n (by omega) (by omega)
  have w := fp_enc (fp_q na nb)
  have e : (FP.ddiv (FP.i2d a) (FP.i2d (iI b))).toNat = FP.Core.encode FP.Core.b64 (FP.Core.quotient FP.Core.b64 (FP.Core.decode FP.Core.b64 (FP.i2d a).toNat) (FP.Core.decode FP.Core.b64 (FP.i2d (iI b)).toNat)) := fp_of w.1
  unfold vf_n64
  rw [UInt64.le_iff_toNat_le, UInt64.toNat_and, e]
  have h1 : (0x7fffffffffffffff : UInt64).toNat = 2 ^ 63 - 1 := by decide
  have h2 : (0x7ff0000000000000 : UInt64).toNat = 9218868437227405312 := by decide
  rw [h1, h2, Nat.and_two_pow_sub_one_eq_mod]
  exact w.2
/-- the mean of the pages' ink -/
def mkI (T C : Nat → Int → Int) (p : Int) : Int := ink T (C 4 p) (C 5 p)
def mkV (T C : Nat → Int → Int) : UInt64 := if C 11 3 = 0 then FP.dconst0 else FP.ddiv (FP.i2d (iI (sI (mkI T C) (C 11 3)))) (FP.i2d (iI (C 11 3)))
end FPS
section QED
variable {l : Launch} {D : va_G} {ty : List (ClassId × FieldType)} {y : MethodName} {b : ByteArray} {n fr lo : Nat} {av : List Value} {W0 : va_W}
theorem qP_enterD {v : UInt64} (hy : plainName y.cls = true) (hn : (lg_sl av).length ≤ n)
    (body : ∀ (p : Program) (e : Env) (R : Room) (s : State) (m : MethodId) (args : Array Value) (below : List Frame) (meth : Method) (c : Code) (Q : State → Prop) (ls : Array Slot), qX p s m args c b n y.cls D ty → R = ({ frames := fr, cells := 0, slots := 0, locals := lo } : Room) → va_P D vwCl W0 s.heap → lv_has ls n (lv_args 0 av) →
      (∀ (pc : Nat) (ls : Array Slot), decode b pc = .ok (.dreturn, 1) → W p l e R s m args below meth c s.heap [] 0 0 Q (F0 m pc ls [.double v])) → W p l e R s m args below meth c s.heap [] 0 0 Q (F0 m 0 ls [])) :
    qP l D ty y b n (some .double) fr lo av W0 (some (.double v)) := by
  refine Met.ofW (cc := b) (maxL := n) (ret := some .double) hy rfl ?_
  intro p e s m args below meth c s₁ B hml hv
  obtain ⟨rfl, hP, hK⟩ := hv
  have hts := atoms_spec (ws := (.code y b n (some .double) :: gW)) B.pre
  rw [lg_entry_eq]
  have hlocks := B.notSynchronized
  have hr := B.returns
  exact body p e _ s m _ below meth c _ _ ⟨B.exec, B.bytes, hml, findClass_of_methodNamed B.named, fun w h => hts w (List.mem_cons_of_mem _ h), hK⟩ rfl hP (lv_entry av hn) (fun pc ls hdg => W.dret (v := v) B.exec B.bytes hr (fun t ht hW => ⟨rfl, ht⟩) (fun q hq => by cases hq) hdg)
theorem qM_enterD {S : Type} {P : S → Prop} {rv : S → Option Value} {W1 : S → va_W} {val : S → UInt64} (hy : plainName y.cls = true) (hn : (lg_sl av).length ≤ n) (hv : ∀ u, P u → rv u = some (.double (val u)))
    (body : ∀ (p : Program) (e : Env) (R : Room) (s : State) (m : MethodId) (args : Array Value) (below : List Frame) (meth : Method) (c : Code) (Q : State → Prop) (ls : Array Slot) (A : Nat → Prop), qX p s m args c b n y.cls D ty → R = ({ frames := fr, cells := 0, slots := 0, locals := lo } : Room) → (∀ q : Nat, s.heap.size ≤ q → A q) → qw D A s.heap W0 s.heap [] → lv_has ls n (lv_args 0 av) →
      (∀ (u : S) (H : Heap) (locs : List Loc) (pc : Nat) (ls : Array Slot), P u → qw D A s.heap (W1 u) H locs → decode b pc = .ok (.dreturn, 1) → W p l e R s m args below meth c H locs 0 0 Q (F0 m pc ls [.double (val u)])) → W p l e R s m args below meth c s.heap [] 0 0 Q (F0 m 0 ls [])) :
    qM l D ty y b n (some .double) fr lo av W0 P rv W1 := by
  intro sz
  refine Met.ofW (cc := b) (maxL := n) (ret := some .double) hy rfl ?_
  intro p e s m args below meth c s₁ B hml hv0
  obtain ⟨rfl, hsz, hP, hK, hD0⟩ := hv0
  subst hsz
  have hts := atoms_spec (ws := (.code y b n (some .double) :: gW)) B.pre
  rw [lg_entry_eq]
  have hlocks := B.notSynchronized
  have hr := B.returns
  refine body p e _ s m _ below meth c _ _ (va_A W0 s.heap.size) ⟨B.exec, B.bytes, hml, findClass_of_methodNamed B.named, fun w h => hts w (List.mem_cons_of_mem _ h), hK⟩ rfl (fun q h => Or.inr h) ⟨hP, hD0.self, va_S.rf⟩ (lv_entry av hn) (fun u H locs pc ls hPu hw hdg => ?_)
  have h1 := hv u hPu
  exact W.dret (v := val u) B.exec B.bytes hr (fun t ht hW => ⟨⟨u, by rw [h1], hPu, by rw [ht]; exact hw.1, hw.2.1⟩, hw.2.2.F ht⟩) hw.2.2.2.2 hdg
theorem q_dtop {p : Program} {e : Env} {R : Room} {s : State} {m : MethodId} {args : Array Value} {below : List Frame} {meth : Method} {c : Code} {H : Heap} {locs : List Loc} {cells slots : Nat} {Q : State → Prop} {pc : Nat} {ls : Array Slot} {x : UInt64} (z : UInt64) (h : x = z) (kk : W p l e R s m args below meth c H locs cells slots Q (F0 m pc ls [.double z])) : W p l e R s m args below meth c H locs cells slots Q (F0 m pc ls [.double x]) := h ▸ kk
end QED
