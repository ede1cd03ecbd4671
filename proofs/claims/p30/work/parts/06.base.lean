/-! THE BASE: ints by their whole numbers, arrays by functions of whole numbers, contracts in two kinds (a read, a change), the rows of the machine over them -/
def iI (z : Int) : Int32 := Int32.ofInt z
abbrev rg (z : Int) : Prop := -2147483648 ≤ z ∧ z < 2147483648
theorem iI_t {z : Int} (h : rg z) : (iI z).toInt = z := Int32.toInt_ofInt_of_le (by have := h.1; omega) (by have := h.2; omega)
theorem iI_of (x : Int32) : iI x.toInt = x := Int32.ofInt_toInt x
theorem rg_of (x : Int32) : rg x.toInt := ⟨by have := Int32.le_toInt x; omega, by have := Int32.toInt_lt x; omega⟩
theorem iI_add (a b : Int) : iI a + iI b = iI (a + b) := (Int32.ofInt_add a b).symm
theorem iI_sub (a b : Int) : iI a - iI b = iI (a - b) := (Int32.ofInt_sub a b).symm
theorem iI_mul (a b : Int) : iI a * iI b = iI (a * b) := (Int32.ofInt_mul a b).symm
theorem iI_neg (a : Int) : -iI a = iI (-a) := (Int32.ofInt_neg a).symm
theorem iI_lt {a b : Int} (ha : rg a) (hb : rg b) : iI a < iI b ↔ a < b := by rw [Int32.lt_iff_toInt_lt, iI_t ha, iI_t hb]
theorem iI_le {a b : Int} (ha : rg a) (hb : rg b) : iI a ≤ iI b ↔ a ≤ b := by rw [Int32.le_iff_toInt_le, iI_t ha, iI_t hb]
theorem iI_eq {a b : Int} (ha : rg a) (hb : rg b) : iI a = iI b ↔ a = b := by rw [← Int32.toInt_inj, iI_t ha, iI_t hb]
theorem iI_cl {z : Int} (h : 0 ≤ z) (h2 : z < 2147483648) : (iI z).toNatClampNeg = z.toNat := Int32.toNatClampNeg_ofInt_of_le (by omega) (by omega)
theorem iI_div {a b : Int} (ha : rg a) (hb : rg b) : iI a / iI b = iI (a.tdiv b) := Int32.toInt_inj.1 (by rw [Int32.toInt_div, iI_t ha, iI_t hb]; exact (Int32.toInt_ofInt).symm)
theorem iI_rem {a b : Int} (ha : rg a) (hb : rg b) : iI a - iI a / iI b * iI b = iI (a.tmod b) := by rw [iI_div ha hb, iI_mul, iI_sub, Int.tmod_def, Int.mul_comm]
theorem iI_in {z : Int} {n : Nat} (h : 0 ≤ z) (h1 : z < n) (h2 : z < 2147483648) : vp_in (iI z) n := by
  intro q
  rcases q with q | q
  · rw [show (0 : Int32) = iI 0 from rfl, iI_lt ⟨by omega, h2⟩ ⟨by omega, by omega⟩] at q; omega
  · rw [iI_cl h h2] at q; omega
def ai (f : Int → Int) : Nat → Int32 := fun j => iI (f (j : Int))
def uI (f : Int → Int) (k v : Int) : Int → Int := fun j => if j = k then v else f j
theorem uI_s (f : Int → Int) (k v : Int) : uI f k v k = v := if_pos rfl
theorem uI_n (f : Int → Int) (k v : Int) {j : Int} (h : j ≠ k) : uI f k v j = f j := if_neg h
theorem uI_i (f : Int → Int) (k v j : Int) : uI f k v j = if j = k then v else f j := rfl
theorem ai_at {f : Int → Int} {z : Int} (h : 0 ≤ z) (h2 : z < 2147483648) : ai f (iI z).toNatClampNeg = iI (f z) := by
  unfold ai; rw [iI_cl h h2, Int.toNat_of_nonneg h]
theorem ai_up {f : Int → Int} {z : Int} (x : Int) (h : 0 ≤ z) (h2 : z < 2147483648) : upd (ai f) (iI z).toNatClampNeg (iI x) = ai (uI f z x) := by
  funext j
  unfold upd ai uI
  rw [iI_cl h h2]
  by_cases e : (j : Int) = z
  · rw [if_pos (by omega), if_pos e]
  · rw [if_neg (by omega), if_neg e]
/-- any row of ints is one of whole numbers -/
theorem ai_of (g : Nat → Int32) : ai (fun z => (g z.toNat).toInt) = g := by
  funext j
  show iI (g (j : Int).toNat).toInt = g j
  rw [Int.toNat_natCast, iI_of]
/-- a row's cell speaks of its places alone -/
theorem cell_ext {cA : ClassId} {n : Nat} {f g : Nat → Int32} (h : ∀ j, j < n → f j = g j) : vp_cell cA (n, .inl f) = vp_cell cA (n, .inl g) := by
  rw [vp_cell_i, vp_cell_i]
  unfold arrV
  congr 1
  refine congrArg Array.ofFn (funext fun j => ?_)
  show Value.int (f j.val) = Value.int (g j.val)
  rw [h j.val j.isLt]
def bI (c : Prop) [Decidable c] : Int := if c then 1 else 0
theorem bI_t {c : Prop} [Decidable c] (h : c) : bI c = 1 := if_pos h
theorem bI_f {c : Prop} [Decidable c] (h : ¬ c) : bI c = 0 := if_neg h
theorem bI_r {c : Prop} [Decidable c] : bI c = 0 ∨ bI c = 1 := by unfold bI; split <;> simp
theorem bI_c {c d : Prop} [Decidable c] [Decidable d] (h : c ↔ d) : bI c = bI d := by unfold bI; simp [h]
theorem nar_z {z : Int} (h : z = 0 ∨ z = 1) : narrow .boolean (.int (iI z)) = .int (iI z) := by rcases h with rfl | rfl <;> rfl
theorem nar_i (x : Int32) : narrow .int (.int x) = .int x := rfl
def qX (p : Program) (s : State) (m : MethodId) (args : Array Value) (c : Code) (cc : ByteArray) (nL : Nat) (own : String) (D : va_G) (ty : List (ClassId × FieldType)) : Prop :=
  p.tables.exec = Jvm.exec ∧ c.code = cc ∧ c.maxLocals = nL ∧ s.vm.findClass own = some m.cls ∧ (∀ w ∈ gW, w.before args s = true) ∧ va_K D vwCl ty s
/-- a method that reads: its answer, the heap as it was -/
def qP (l : Launch) (D : va_G) (ty : List (ClassId × FieldType)) (y : MethodName) (b : ByteArray) (n : Nat) (ret : Option FieldType) (fr lo : Nat) (av : List Value) (W0 : va_W) (rv : Option Value) : Prop :=
  Met l y (.code y b n ret :: gW) ({ frames := fr, cells := 0, slots := 0, locals := lo }) (va_Pc av (fun U => va_P D vwCl W0 U.heap ∧ va_K D vwCl ty U)) (fun _ st oc t => oc = .returned rv ∧ t.heap = st.heap) 0 0 (fun _ => False)
/-- a method that changes its world -/
def qM {S : Type} (l : Launch) (D : va_G) (ty : List (ClassId × FieldType)) (y : MethodName) (b : ByteArray) (n : Nat) (ret : Option FieldType) (fr lo : Nat) (av : List Value) (W0 : va_W) (P : S → Prop) (rv : S → Option Value) (W1 : S → va_W) : Prop :=
  ∀ sz : Nat, Met l y (.code y b n ret :: gW) ({ frames := fr, cells := 0, slots := 0, locals := lo }) (va_Pc av (fun U => U.heap.size = sz ∧ va_P D vwCl W0 U.heap ∧ va_K D vwCl ty U ∧ va_D (fun _ => True) W0)) (fun _ st oc t => (∃ u : S, oc = .returned (rv u) ∧ P u ∧ va_P D vwCl (W1 u) t.heap ∧ va_D (va_A W0 sz) (W1 u)) ∧ va_F (va_A W0 sz) st t) 0 0 (va_A W0 sz)
theorem pk_fm {is : List Nat} {ws ws' : va_W} (h : is.map (fun i => ws[i]?) = ws'.map some) : is.filterMap (fun i => ws[i]?) = ws' := by
  have h2 := congrArg (List.filterMap id) h
  simpa [List.filterMap_map, Function.comp_def] using h2
/-- the world of a walk: its cells, apart, and what was written -/
def qw (D : va_G) (A : Nat → Prop) (H0 : Heap) (ws : va_W) (H : Heap) (locs : List Loc) : Prop := va_P D vwCl ws H ∧ va_D A ws ∧ va_S A H0 H locs
theorem qw.sub {D : va_G} {A : Nat → Prop} {H0 : Heap} {ws ws' : va_W} {H : Heap} {locs : List Loc} (h : qw D A H0 ws H locs) (is : List Nat) (hn : va_nd is = true) (hs : is.map (fun i => ws[i]?) = ws'.map some) : qw D A H0 ws' H locs := ⟨h.1.sub is (pk_fm hs), h.2.1.sub is hn hs, h.2.2⟩
theorem qw.is {D : va_G} {A : Nat → Prop} {H0 : Heap} {ws ws' : va_W} {H : Heap} {locs : List Loc} (h : qw D A H0 ws H locs) (hs : ws = ws') : qw D A H0 ws' H locs := hs ▸ h
section QE
variable {l : Launch} {D : va_G} {ty : List (ClassId × FieldType)} {y : MethodName} {b : ByteArray} {n fr lo : Nat} {av : List Value} {W0 : va_W}
theorem qP_enter {rt : FieldType} {v : Int32} (hy : plainName y.cls = true) (hn : (lg_sl av).length ≤ n) (hnar : narrow rt (.int v) = .int v)
    (body : ∀ (p : Program) (e : Env) (R : Room) (s : State) (m : MethodId) (args : Array Value) (below : List Frame) (meth : Method) (c : Code) (Q : State → Prop) (ls : Array Slot), qX p s m args c b n y.cls D ty → R = ({ frames := fr, cells := 0, slots := 0, locals := lo } : Room) → va_P D vwCl W0 s.heap → lv_has ls n (lv_args 0 av) →
      (∀ (pc : Nat) (ls : Array Slot), decode b pc = .ok (.ireturn, 1) → W p l e R s m args below meth c s.heap [] 0 0 Q (F0 m pc ls [.int v])) → W p l e R s m args below meth c s.heap [] 0 0 Q (F0 m 0 ls [])) :
    qP l D ty y b n (some rt) fr lo av W0 (some (.int v)) := by
  refine Met.ofW (cc := b) (maxL := n) (ret := some rt) hy rfl ?_
  intro p e s m args below meth c s₁ B hml hv
  obtain ⟨rfl, hP, hK⟩ := hv
  have hts := atoms_spec (ws := (.code y b n (some rt) :: gW)) B.pre
  rw [lg_entry_eq]
  have hlocks := B.notSynchronized
  have hr := B.returns
  exact body p e _ s m _ below meth c _ _ ⟨B.exec, B.bytes, hml, findClass_of_methodNamed B.named, fun w h => hts w (List.mem_cons_of_mem _ h), hK⟩ rfl hP (lv_entry av hn) (fun pc ls hdg => W.zret (v := v) B.exec B.bytes hr hnar (fun t ht hW => ⟨rfl, ht⟩) (fun q hq => by cases hq) hdg)
theorem qM_enterI {S : Type} {P : S → Prop} {rv : S → Option Value} {W1 : S → va_W} {rt : FieldType} {val : S → Int32} (hy : plainName y.cls = true) (hn : (lg_sl av).length ≤ n) (hv : ∀ u, P u → rv u = some (.int (val u)) ∧ narrow rt (.int (val u)) = .int (val u))
    (body : ∀ (p : Program) (e : Env) (R : Room) (s : State) (m : MethodId) (args : Array Value) (below : List Frame) (meth : Method) (c : Code) (Q : State → Prop) (ls : Array Slot) (A : Nat → Prop), qX p s m args c b n y.cls D ty → R = ({ frames := fr, cells := 0, slots := 0, locals := lo } : Room) → (∀ q : Nat, s.heap.size ≤ q → A q) → qw D A s.heap W0 s.heap [] → lv_has ls n (lv_args 0 av) →
      (∀ (u : S) (H : Heap) (locs : List Loc) (pc : Nat) (ls : Array Slot), P u → qw D A s.heap (W1 u) H locs → decode b pc = .ok (.ireturn, 1) → W p l e R s m args below meth c H locs 0 0 Q (F0 m pc ls [.int (val u)])) → W p l e R s m args below meth c s.heap [] 0 0 Q (F0 m 0 ls [])) :
    qM l D ty y b n (some rt) fr lo av W0 P rv W1 := by
  intro sz
  refine Met.ofW (cc := b) (maxL := n) (ret := some rt) hy rfl ?_
  intro p e s m args below meth c s₁ B hml hv0
  obtain ⟨rfl, hsz, hP, hK, hD0⟩ := hv0
  subst hsz
  have hts := atoms_spec (ws := (.code y b n (some rt) :: gW)) B.pre
  rw [lg_entry_eq]
  have hlocks := B.notSynchronized
  have hr := B.returns
  refine body p e _ s m _ below meth c _ _ (va_A W0 s.heap.size) ⟨B.exec, B.bytes, hml, findClass_of_methodNamed B.named, fun w h => hts w (List.mem_cons_of_mem _ h), hK⟩ rfl (fun q h => Or.inr h) ⟨hP, hD0.self, va_S.rf⟩ (lv_entry av hn) (fun u H locs pc ls hPu hw hdg => ?_)
  obtain ⟨h1, h2⟩ := hv u hPu
  exact W.zret (v := val u) B.exec B.bytes hr h2 (fun t ht hW => ⟨⟨u, by rw [h1], hPu, by rw [ht]; exact hw.1, hw.2.1⟩, hw.2.2.F ht⟩) hw.2.2.2.2 hdg
theorem qM_enterV {S : Type} {P : S → Prop} {W1 : S → va_W} (hy : plainName y.cls = true) (hn : (lg_sl av).length ≤ n)
    (body : ∀ (p : Program) (e : Env) (R : Room) (s : State) (m : MethodId) (args : Array Value) (below : List Frame) (meth : Method) (c : Code) (Q : State → Prop) (ls : Array Slot) (A : Nat → Prop), qX p s m args c b n y.cls D ty → R = ({ frames := fr, cells := 0, slots := 0, locals := lo } : Room) → (∀ q : Nat, s.heap.size ≤ q → A q) → qw D A s.heap W0 s.heap [] → lv_has ls n (lv_args 0 av) →
      (∀ (u : S) (H : Heap) (locs : List Loc) (pc : Nat) (ls : Array Slot), P u → qw D A s.heap (W1 u) H locs → decode b pc = .ok (.return_, 1) → W p l e R s m args below meth c H locs 0 0 Q (F0 m pc ls [])) → W p l e R s m args below meth c s.heap [] 0 0 Q (F0 m 0 ls [])) :
    qM l D ty y b n none fr lo av W0 P (fun _ => none) W1 := by
  intro sz
  refine Met.ofW (cc := b) (maxL := n) (ret := none) hy rfl ?_
  intro p e s m args below meth c s₁ B hml hv0
  obtain ⟨rfl, hsz, hP, hK, hD0⟩ := hv0
  subst hsz
  have hts := atoms_spec (ws := (.code y b n none :: gW)) B.pre
  rw [lg_entry_eq]
  have hlocks := B.notSynchronized
  have hr := B.returns
  exact body p e _ s m _ below meth c _ _ (va_A W0 s.heap.size) ⟨B.exec, B.bytes, hml, findClass_of_methodNamed B.named, fun w h => hts w (List.mem_cons_of_mem _ h), hK⟩ rfl (fun q h => Or.inr h) ⟨hP, hD0.self, va_S.rf⟩ (lv_entry av hn) (fun u H locs pc ls hPu hw hdg =>
    W.vret B.exec B.bytes hr (fun t ht hW => ⟨⟨u, rfl, hPu, by rw [ht]; exact hw.1, hw.2.1⟩, hw.2.2.F ht⟩) hw.2.2.2.2 hdg)
end QE
section QR
variable {p : Program} {l : Launch} {e : Env} {R : Room} {s : State} {m : MethodId} {args : Array Value} {below : List Frame} {meth : Method} {c : Code} {H : Heap} {locs : List Loc} {cells slots : Nat} {Q : State → Prop}
variable {cc : ByteArray} {pc : Nat} {ls : Array Slot} {rest : List Value} {D : va_G} {ty : List (ClassId × FieldType)} {A : Nat → Prop} {H0 : Heap} {ws : va_W}
theorem q_iadd (hx : p.tables.exec = Jvm.exec) (hb : c.code = cc) {a b : Int} (hdg : decode cc pc = .ok (.iadd, 1)) (k : W p l e R s m args below meth c H locs cells slots Q (F0 m (pc + 1) ls (.int (iI (a + b)) :: rest))) : W p l e R s m args below meth c H locs cells slots Q (F0 m pc ls (.int (iI b) :: .int (iI a) :: rest)) := lv_iadd hx hb hdg (by rw [iI_add]; exact k)
theorem q_isub (hx : p.tables.exec = Jvm.exec) (hb : c.code = cc) {a b : Int} (hdg : decode cc pc = .ok (.isub, 1)) (k : W p l e R s m args below meth c H locs cells slots Q (F0 m (pc + 1) ls (.int (iI (a - b)) :: rest))) : W p l e R s m args below meth c H locs cells slots Q (F0 m pc ls (.int (iI b) :: .int (iI a) :: rest)) := lv_isub hx hb hdg (by rw [iI_sub]; exact k)
theorem q_imul (hx : p.tables.exec = Jvm.exec) (hb : c.code = cc) {a b : Int} (hdg : decode cc pc = .ok (.imul, 1)) (k : W p l e R s m args below meth c H locs cells slots Q (F0 m (pc + 1) ls (.int (iI (a * b)) :: rest))) : W p l e R s m args below meth c H locs cells slots Q (F0 m pc ls (.int (iI b) :: .int (iI a) :: rest)) := lv_imul hx hb hdg (by rw [iI_mul]; exact k)
theorem q_ineg (hx : p.tables.exec = Jvm.exec) (hb : c.code = cc) {a : Int} (hdg : decode cc pc = .ok (.ineg, 1)) (k : W p l e R s m args below meth c H locs cells slots Q (F0 m (pc + 1) ls (.int (iI (-a)) :: rest))) : W p l e R s m args below meth c H locs cells slots Q (F0 m pc ls (.int (iI a) :: rest)) := lv_ineg hx hb hdg (by first | (rw [iI_neg]; exact k) | (rw [show (0 : Int32) - iI a = iI (-a) from by rw [show (0 : Int32) = iI 0 from rfl, iI_sub, Int.zero_sub]]; exact k))
theorem q_idiv (hx : p.tables.exec = Jvm.exec) (hb : c.code = cc) {a b : Int} (hdg : decode cc pc = .ok (.idiv, 1)) (ha : rg a) (hb2 : rg b) (h0 : b ≠ 0) (k : W p l e R s m args below meth c H locs cells slots Q (F0 m (pc + 1) ls (.int (iI (a.tdiv b)) :: rest))) : W p l e R s m args below meth c H locs cells slots Q (F0 m pc ls (.int (iI b) :: .int (iI a) :: rest)) := lv_idiv hx hb hdg (fun z => h0 ((iI_eq hb2 ⟨by decide, by decide⟩).mp z)) (by rw [iI_div ha hb2]; exact k)
theorem q_irem (hx : p.tables.exec = Jvm.exec) (hb : c.code = cc) {a b : Int} (hdg : decode cc pc = .ok (.irem, 1)) (ha : rg a) (hb2 : rg b) (h0 : b ≠ 0) (k : W p l e R s m args below meth c H locs cells slots Q (F0 m (pc + 1) ls (.int (iI (a.tmod b)) :: rest))) : W p l e R s m args below meth c H locs cells slots Q (F0 m pc ls (.int (iI b) :: .int (iI a) :: rest)) := lv_irem hx hb hdg (fun z => h0 ((iI_eq hb2 ⟨by decide, by decide⟩).mp z)) (by rw [iI_rem ha hb2]; exact k)
theorem q_icmp_eq (hx : p.tables.exec = Jvm.exec) (hb : c.code = cc) {a b : Int} {off : Int} {tgt : Nat} (hdg : decode cc pc = .ok (.if_icmp .eq off, 3)) (ht : (pc : Int) + off = (tgt : Int)) (hab : rg a ∧ rg b) (kt : a = b → W p l e R s m args below meth c H locs cells slots Q (F0 m tgt ls rest)) (kf : a ≠ b → W p l e R s m args below meth c H locs cells slots Q (F0 m (pc + 3) ls rest)) : W p l e R s m args below meth c H locs cells slots Q (F0 m pc ls (.int (iI b) :: .int (iI a) :: rest)) := by
  obtain ⟨ha, hb2⟩ := hab
  exact lv_icmp_eq hx hb hdg ht (fun z => kt ((iI_eq ha hb2).mp z)) (fun z => kf (fun q => z ((iI_eq ha hb2).mpr q)))
theorem q_if_eq (hx : p.tables.exec = Jvm.exec) (hb : c.code = cc) {a : Int} {off : Int} {tgt : Nat} (hdg : decode cc pc = .ok (.ifCond .eq off, 3)) (ht : (pc : Int) + off = (tgt : Int)) (ha : rg a) (kt : a = 0 → W p l e R s m args below meth c H locs cells slots Q (F0 m tgt ls rest)) (kf : a ≠ 0 → W p l e R s m args below meth c H locs cells slots Q (F0 m (pc + 3) ls rest)) : W p l e R s m args below meth c H locs cells slots Q (F0 m pc ls (.int (iI a) :: rest)) := by
  have hb2 : rg 0 := ⟨by decide, by decide⟩
  exact lv_if_eq hx hb hdg ht (fun z => kt ((iI_eq ha hb2).mp z)) (fun z => kf (fun q => z ((iI_eq ha hb2).mpr q)))
theorem q_icmp_ne (hx : p.tables.exec = Jvm.exec) (hb : c.code = cc) {a b : Int} {off : Int} {tgt : Nat} (hdg : decode cc pc = .ok (.if_icmp .ne off, 3)) (ht : (pc : Int) + off = (tgt : Int)) (hab : rg a ∧ rg b) (kt : a ≠ b → W p l e R s m args below meth c H locs cells slots Q (F0 m tgt ls rest)) (kf : a = b → W p l e R s m args below meth c H locs cells slots Q (F0 m (pc + 3) ls rest)) : W p l e R s m args below meth c H locs cells slots Q (F0 m pc ls (.int (iI b) :: .int (iI a) :: rest)) := by
  obtain ⟨ha, hb2⟩ := hab
  exact lv_icmp_ne hx hb hdg ht (fun z => kt (fun q => z ((iI_eq ha hb2).mpr q))) (fun z => kf ((iI_eq ha hb2).mp z))
theorem q_if_ne (hx : p.tables.exec = Jvm.exec) (hb : c.code = cc) {a : Int} {off : Int} {tgt : Nat} (hdg : decode cc pc = .ok (.ifCond .ne off, 3)) (ht : (pc : Int) + off = (tgt : Int)) (ha : rg a) (kt : a ≠ 0 → W p l e R s m args below meth c H locs cells slots Q (F0 m tgt ls rest)) (kf : a = 0 → W p l e R s m args below meth c H locs cells slots Q (F0 m (pc + 3) ls rest)) : W p l e R s m args below meth c H locs cells slots Q (F0 m pc ls (.int (iI a) :: rest)) := by
  have hb2 : rg 0 := ⟨by decide, by decide⟩
  exact lv_if_ne hx hb hdg ht (fun z => kt (fun q => z ((iI_eq ha hb2).mpr q))) (fun z => kf ((iI_eq ha hb2).mp z))
theorem q_icmp_lt (hx : p.tables.exec = Jvm.exec) (hb : c.code = cc) {a b : Int} {off : Int} {tgt : Nat} (hdg : decode cc pc = .ok (.if_icmp .lt off, 3)) (ht : (pc : Int) + off = (tgt : Int)) (hab : rg a ∧ rg b) (kt : a < b → W p l e R s m args below meth c H locs cells slots Q (F0 m tgt ls rest)) (kf : b ≤ a → W p l e R s m args below meth c H locs cells slots Q (F0 m (pc + 3) ls rest)) : W p l e R s m args below meth c H locs cells slots Q (F0 m pc ls (.int (iI b) :: .int (iI a) :: rest)) := by
  obtain ⟨ha, hb2⟩ := hab
  exact lv_icmp_lt hx hb hdg ht (fun z => kt ((iI_lt ha hb2).mp z)) (fun z => kf (Int.not_lt.mp (fun q => z ((iI_lt ha hb2).mpr q))))
theorem q_if_lt (hx : p.tables.exec = Jvm.exec) (hb : c.code = cc) {a : Int} {off : Int} {tgt : Nat} (hdg : decode cc pc = .ok (.ifCond .lt off, 3)) (ht : (pc : Int) + off = (tgt : Int)) (ha : rg a) (kt : a < 0 → W p l e R s m args below meth c H locs cells slots Q (F0 m tgt ls rest)) (kf : 0 ≤ a → W p l e R s m args below meth c H locs cells slots Q (F0 m (pc + 3) ls rest)) : W p l e R s m args below meth c H locs cells slots Q (F0 m pc ls (.int (iI a) :: rest)) := by
  have hb2 : rg 0 := ⟨by decide, by decide⟩
  exact lv_if_lt hx hb hdg ht (fun z => kt ((iI_lt ha hb2).mp z)) (fun z => kf (Int.not_lt.mp (fun q => z ((iI_lt ha hb2).mpr q))))
theorem q_icmp_ge (hx : p.tables.exec = Jvm.exec) (hb : c.code = cc) {a b : Int} {off : Int} {tgt : Nat} (hdg : decode cc pc = .ok (.if_icmp .ge off, 3)) (ht : (pc : Int) + off = (tgt : Int)) (hab : rg a ∧ rg b) (kt : b ≤ a → W p l e R s m args below meth c H locs cells slots Q (F0 m tgt ls rest)) (kf : a < b → W p l e R s m args below meth c H locs cells slots Q (F0 m (pc + 3) ls rest)) : W p l e R s m args below meth c H locs cells slots Q (F0 m pc ls (.int (iI b) :: .int (iI a) :: rest)) := by
  obtain ⟨ha, hb2⟩ := hab
  exact lv_icmp_ge hx hb hdg ht (fun z => kt ((iI_le hb2 ha).mp z)) (fun z => kf (Int.not_le.mp (fun q => z ((iI_le hb2 ha).mpr q))))
theorem q_if_ge (hx : p.tables.exec = Jvm.exec) (hb : c.code = cc) {a : Int} {off : Int} {tgt : Nat} (hdg : decode cc pc = .ok (.ifCond .ge off, 3)) (ht : (pc : Int) + off = (tgt : Int)) (ha : rg a) (kt : 0 ≤ a → W p l e R s m args below meth c H locs cells slots Q (F0 m tgt ls rest)) (kf : a < 0 → W p l e R s m args below meth c H locs cells slots Q (F0 m (pc + 3) ls rest)) : W p l e R s m args below meth c H locs cells slots Q (F0 m pc ls (.int (iI a) :: rest)) := by
  have hb2 : rg 0 := ⟨by decide, by decide⟩
  exact lv_if_ge hx hb hdg ht (fun z => kt ((iI_le hb2 ha).mp z)) (fun z => kf (Int.not_le.mp (fun q => z ((iI_le hb2 ha).mpr q))))
theorem q_icmp_gt (hx : p.tables.exec = Jvm.exec) (hb : c.code = cc) {a b : Int} {off : Int} {tgt : Nat} (hdg : decode cc pc = .ok (.if_icmp .gt off, 3)) (ht : (pc : Int) + off = (tgt : Int)) (hab : rg a ∧ rg b) (kt : b < a → W p l e R s m args below meth c H locs cells slots Q (F0 m tgt ls rest)) (kf : a ≤ b → W p l e R s m args below meth c H locs cells slots Q (F0 m (pc + 3) ls rest)) : W p l e R s m args below meth c H locs cells slots Q (F0 m pc ls (.int (iI b) :: .int (iI a) :: rest)) := by
  obtain ⟨ha, hb2⟩ := hab
  exact lv_icmp_gt hx hb hdg ht (fun z => kt ((iI_lt hb2 ha).mp z)) (fun z => kf (Int.not_lt.mp (fun q => z ((iI_lt hb2 ha).mpr q))))
theorem q_if_gt (hx : p.tables.exec = Jvm.exec) (hb : c.code = cc) {a : Int} {off : Int} {tgt : Nat} (hdg : decode cc pc = .ok (.ifCond .gt off, 3)) (ht : (pc : Int) + off = (tgt : Int)) (ha : rg a) (kt : 0 < a → W p l e R s m args below meth c H locs cells slots Q (F0 m tgt ls rest)) (kf : a ≤ 0 → W p l e R s m args below meth c H locs cells slots Q (F0 m (pc + 3) ls rest)) : W p l e R s m args below meth c H locs cells slots Q (F0 m pc ls (.int (iI a) :: rest)) := by
  have hb2 : rg 0 := ⟨by decide, by decide⟩
  exact lv_if_gt hx hb hdg ht (fun z => kt ((iI_lt hb2 ha).mp z)) (fun z => kf (Int.not_lt.mp (fun q => z ((iI_lt hb2 ha).mpr q))))
theorem q_icmp_le (hx : p.tables.exec = Jvm.exec) (hb : c.code = cc) {a b : Int} {off : Int} {tgt : Nat} (hdg : decode cc pc = .ok (.if_icmp .le off, 3)) (ht : (pc : Int) + off = (tgt : Int)) (hab : rg a ∧ rg b) (kt : a ≤ b → W p l e R s m args below meth c H locs cells slots Q (F0 m tgt ls rest)) (kf : b < a → W p l e R s m args below meth c H locs cells slots Q (F0 m (pc + 3) ls rest)) : W p l e R s m args below meth c H locs cells slots Q (F0 m pc ls (.int (iI b) :: .int (iI a) :: rest)) := by
  obtain ⟨ha, hb2⟩ := hab
  exact lv_icmp_le hx hb hdg ht (fun z => kt ((iI_le ha hb2).mp z)) (fun z => kf (Int.not_le.mp (fun q => z ((iI_le ha hb2).mpr q))))
theorem q_if_le (hx : p.tables.exec = Jvm.exec) (hb : c.code = cc) {a : Int} {off : Int} {tgt : Nat} (hdg : decode cc pc = .ok (.ifCond .le off, 3)) (ht : (pc : Int) + off = (tgt : Int)) (ha : rg a) (kt : a ≤ 0 → W p l e R s m args below meth c H locs cells slots Q (F0 m tgt ls rest)) (kf : 0 < a → W p l e R s m args below meth c H locs cells slots Q (F0 m (pc + 3) ls rest)) : W p l e R s m args below meth c H locs cells slots Q (F0 m pc ls (.int (iI a) :: rest)) := by
  have hb2 : rg 0 := ⟨by decide, by decide⟩
  exact lv_if_le hx hb hdg ht (fun z => kt ((iI_le ha hb2).mp z)) (fun z => kf (Int.not_le.mp (fun q => z ((iI_le ha hb2).mpr q))))
end QR
section QR2
variable {p : Program} {l : Launch} {e : Env} {R : Room} {s : State} {m : MethodId} {args : Array Value} {below : List Frame} {meth : Method} {c : Code} {H : Heap} {locs : List Loc} {cells slots : Nat} {Q : State → Prop}
variable {cc : ByteArray} {pc : Nat} {ls : Array Slot} {rest : List Value} {D : va_G} {ty : List (ClassId × FieldType)} {A : Nat → Prop} {H0 : Heap} {ws : va_W} {a : Nat}
/-- an int of an array -/
theorem q_iald (hx : p.tables.exec = Jvm.exec) (hb : c.code = cc) (hK : va_K D vwCl ty s) (hP : va_P D vwCl ws H) (q0 t0 : Nat) {cA : ClassId} {n : Nat} {f : Int → Int} (ha : ws[q0]? = some (a, .inl (cA, n, .inl (ai f)))) (ht : ty[t0]? = some (cA, .int)) {z v : Int} (hin : 0 ≤ z ∧ z < (n : Int) ∧ z < 2147483648) (hv : f z = v) (hdg : decode cc pc = .ok (.iaload, 1))
    (kk : W p l e R s m args below meth c H locs cells slots Q (F0 m (pc + 1) ls (.int (iI v) :: rest))) : W p l e R s m args below meth c H locs cells slots Q (F0 m pc ls (.int (iI z) :: .ref a :: rest)) := by
  refine va_iald hx hb hK hP q0 t0 ha ht (iI_in hin.1 hin.2.1 hin.2.2) hdg ?_
  rw [ai_at hin.1 hin.2.2, hv]
  exact kk
theorem q_bald (hx : p.tables.exec = Jvm.exec) (hb : c.code = cc) (hK : va_K D vwCl ty s) (hP : va_P D vwCl ws H) (q0 t0 : Nat) {cA : ClassId} {n : Nat} {f : Int → Int} (ha : ws[q0]? = some (a, .inl (cA, n, .inl (ai f)))) (ht : ty[t0]? = some (cA, .byte)) {z v : Int} (hin : 0 ≤ z ∧ z < (n : Int) ∧ z < 2147483648) (hv : f z = v) (hdg : decode cc pc = .ok (.baload, 1))
    (kk : W p l e R s m args below meth c H locs cells slots Q (F0 m (pc + 1) ls (.int (iI v) :: rest))) : W p l e R s m args below meth c H locs cells slots Q (F0 m pc ls (.int (iI z) :: .ref a :: rest)) := by
  refine va_bald hx hb hK hP q0 t0 ha ht (iI_in hin.1 hin.2.1 hin.2.2) hdg ?_
  rw [ai_at hin.1 hin.2.2, hv]
  exact kk
theorem q_zald (hx : p.tables.exec = Jvm.exec) (hb : c.code = cc) (hK : va_K D vwCl ty s) (hP : va_P D vwCl ws H) (q0 t0 : Nat) {cA : ClassId} {n : Nat} {f : Int → Int} (ha : ws[q0]? = some (a, .inl (cA, n, .inl (ai f)))) (ht : ty[t0]? = some (cA, .boolean)) {z v : Int} (hin : 0 ≤ z ∧ z < (n : Int) ∧ z < 2147483648) (hv : f z = v) (hdg : decode cc pc = .ok (.baload, 1))
    (kk : W p l e R s m args below meth c H locs cells slots Q (F0 m (pc + 1) ls (.int (iI v) :: rest))) : W p l e R s m args below meth c H locs cells slots Q (F0 m pc ls (.int (iI z) :: .ref a :: rest)) := by
  refine va_zald hx hb hK hP q0 t0 ha ht (iI_in hin.1 hin.2.1 hin.2.2) hdg ?_
  rw [ai_at hin.1 hin.2.2, hv]
  exact kk
/-- an int into an array -/
theorem q_iast (hx : p.tables.exec = Jvm.exec) (hb : c.code = cc) (hK : va_K D vwCl ty s) (hw : qw D A H0 ws H locs) (q0 t0 : Nat) {cA : ClassId} {n : Nat} {f : Int → Int} (ha : ws[q0]? = some (a, .inl (cA, n, .inl (ai f)))) (ht : ty[t0]? = some (cA, .int)) {z v : Int} (hin : 0 ≤ z ∧ z < (n : Int) ∧ z < 2147483648) (hdg : decode cc pc = .ok (.iastore, 1))
    (kk : ∀ (H1 : Heap) (locs1 : List Loc), qw D A H0 (ws.set q0 (a, .inl (cA, n, .inl (ai (uI f z v))))) H1 locs1 → W p l e R s m args below meth c H1 locs1 cells slots Q (F0 m (pc + 1) ls rest)) : W p l e R s m args below meth c H locs cells slots Q (F0 m pc ls (.int (iI v) :: .int (iI z) :: .ref a :: rest)) := by
  refine va_iast hx hb hK hw.1 hw.2.1 hw.2.2 q0 t0 ha ht (iI_in hin.1 hin.2.1 hin.2.2) hdg (fun H1 locs1 hP hD hS => kk H1 locs1 ?_)
  have e : upd (ai f) (iI z).toNatClampNeg (iI v) = ai (uI f z v) := ai_up v hin.1 hin.2.2
  rw [e] at hP hD
  exact ⟨hP, hD, hS⟩
/-- a byte into an array: one that is a byte -/
theorem q_bast (hx : p.tables.exec = Jvm.exec) (hb : c.code = cc) (hK : va_K D vwCl ty s) (hw : qw D A H0 ws H locs) (q0 t0 : Nat) {cA : ClassId} {n : Nat} {f : Int → Int} (ha : ws[q0]? = some (a, .inl (cA, n, .inl (ai f)))) (ht : ty[t0]? = some (cA, .byte)) {z v : Int} (hv : -128 ≤ v ∧ v < 128) (hin : 0 ≤ z ∧ z < (n : Int) ∧ z < 2147483648) (hdg : decode cc pc = .ok (.bastore, 1))
    (kk : ∀ (H1 : Heap) (locs1 : List Loc), qw D A H0 (ws.set q0 (a, .inl (cA, n, .inl (ai (uI f z v))))) H1 locs1 → W p l e R s m args below meth c H1 locs1 cells slots Q (F0 m (pc + 1) ls rest)) : W p l e R s m args below meth c H locs cells slots Q (F0 m pc ls (.int (iI v) :: .int (iI z) :: .ref a :: rest)) := by
  refine va_bast hx hb hK hw.1 hw.2.1 hw.2.2 q0 t0 ha ht (iI_in hin.1 hin.2.1 hin.2.2) hdg (fun H1 locs1 hP hD hS => kk H1 locs1 ?_)
  have e0 : vp_nar .byte (iI v) = iI v := by
    rw [vp_nar_byte]
    refine Int32.toInt_inj.1 ?_
    rw [Int8.toInt_toInt32, Int32.toInt_toInt8, iI_t ⟨by omega, by omega⟩]
    exact Int.bmod_eq_of_le (by omega) (by omega)
  have e : upd (ai f) (iI z).toNatClampNeg (vp_nar .byte (iI v)) = ai (uI f z v) := by rw [e0]; exact ai_up v hin.1 hin.2.2
  rw [e] at hP hD
  exact ⟨hP, hD, hS⟩
theorem q_zast (hx : p.tables.exec = Jvm.exec) (hb : c.code = cc) (hK : va_K D vwCl ty s) (hw : qw D A H0 ws H locs) (q0 t0 : Nat) {cA : ClassId} {n : Nat} {f : Int → Int} (ha : ws[q0]? = some (a, .inl (cA, n, .inl (ai f)))) (ht : ty[t0]? = some (cA, .boolean)) {z v : Int} (hv : v = 0 ∨ v = 1) (hin : 0 ≤ z ∧ z < (n : Int) ∧ z < 2147483648) (hdg : decode cc pc = .ok (.bastore, 1))
    (kk : ∀ (H1 : Heap) (locs1 : List Loc), qw D A H0 (ws.set q0 (a, .inl (cA, n, .inl (ai (uI f z v))))) H1 locs1 → W p l e R s m args below meth c H1 locs1 cells slots Q (F0 m (pc + 1) ls rest)) : W p l e R s m args below meth c H locs cells slots Q (F0 m pc ls (.int (iI v) :: .int (iI z) :: .ref a :: rest)) := by
  refine va_zast hx hb hK hw.1 hw.2.1 hw.2.2 q0 t0 ha ht (iI_in hin.1 hin.2.1 hin.2.2) hdg (fun H1 locs1 hP hD hS => kk H1 locs1 ?_)
  have e0 : vp_nar .boolean (iI v) = iI v := by rcases hv with rfl | rfl <;> rfl
  have e : upd (ai f) (iI z).toNatClampNeg (vp_nar .boolean (iI v)) = ai (uI f z v) := by rw [e0]; exact ai_up v hin.1 hin.2.2
  rw [e] at hP hD
  exact ⟨hP, hD, hS⟩
/-- a field -/
theorem q_get (hx : p.tables.exec = Jvm.exec) (hb : c.code = cc) {own C : String} {T : u_T} {N ci index : Nat} {tf : Nat → FieldType} (hts : ∀ w ∈ gW, w.before args s = true) (hown : s.vm.findClass own = some m.cls) (hK : va_K D vwCl ty s) (hP : va_P D vwCl ws H) (hC : qC C T N ci tf) (q0 : Nat) {fs : List Value} (he : ws[q0]? = some (a, .inr (ci, fs))) (k : Nat) (hk : k < N) (hl : (Cond.fieldLink own index (T k).1 (T k).2.1 (T k).2.2.1) ∈ gW) {v : Value} (hv : fs[k]? = some v) (hdg : decode cc pc = .ok (.getfield index, 3))
    (kk : W p l e R s m args below meth c H locs cells slots Q (F0 m (pc + 3) ls (v :: rest))) : W p l e R s m args below meth c H locs cells slots Q (F0 m pc ls (.ref a :: rest)) :=
  va_get hx hb hts hC.1 hown hK hP q0 he hC.2.1 k hk (hts _ hl) (fun _ h9 => h9) hv hdg kk
/-- into a field that isn't final -/
theorem q_put (hx : p.tables.exec = Jvm.exec) (hb : c.code = cc) {own C : String} {T : u_T} {N ci index : Nat} {tf : Nat → FieldType} (hts : ∀ w ∈ gW, w.before args s = true) (hown : s.vm.findClass own = some m.cls) (hK : va_K D vwCl ty s) (hw : qw D A H0 ws H locs) (hC : qC C T N ci tf) (q0 : Nat) {fs : List Value} (he : ws[q0]? = some (a, .inr (ci, fs))) (k : Nat) (hk : k < N) (hl : (Cond.fieldLink own index (T k).1 (T k).2.1 (T k).2.2.1) ∈ gW) (hfin : (T k).2.2.2 = false) {v : Value} (hn : narrow (tf k) v = v) (hfit : fits (tf k) v = true) (hlen : k < fs.length) (hdg : decode cc pc = .ok (.putfield index, 3))
    (kk : ∀ (H1 : Heap) (locs1 : List Loc), qw D A H0 (ws.set q0 (a, .inr (ci, fs.set k v))) H1 locs1 → W p l e R s m args below meth c H1 locs1 cells slots Q (F0 m (pc + 3) ls rest)) : W p l e R s m args below meth c H locs cells slots Q (F0 m pc ls (v :: .ref a :: rest)) :=
  va_put hx hb hts hC.1 tf hC.2.2.1 hC.2.2.2 hown hK hw.1 hw.2.1 hw.2.2 q0 he hC.2.1 k hk (hts _ hl) (fun _ h9 => h9) hfin (hC.2.2.1 k hk) hn hfit hlen hdg (fun H1 locs1 hP hD hS => kk H1 locs1 ⟨hP, hD, hS⟩)
/-- .. and a final one, in the constructor -/
theorem q_putF (hx : p.tables.exec = Jvm.exec) (hb : c.code = cc) {own C : String} {T : u_T} {N ci index : Nat} {tf : Nat → FieldType} (hts : ∀ w ∈ gW, w.before args s = true) (hown : s.vm.findClass own = some m.cls) (hK : va_K D vwCl ty s) (hw : qw D A H0 ws H locs) (hC : qC C T N ci tf) (q0 : Nat) {fs : List Value} (he : ws[q0]? = some (a, .inr (ci, fs))) (k : Nat) (hk : k < N) (hl : (Cond.fieldLink own index (T k).1 (T k).2.1 (T k).2.2.1) ∈ gW) (hfin : (T k).2.2.2 = true) (hin2 : meth.name = "<init>") (hdecl : (T k).1 = own) {v : Value} (hn : narrow (tf k) v = v) (hfit : fits (tf k) v = true) (hlen : k < fs.length) (hdg : decode cc pc = .ok (.putfield index, 3))
    (kk : ∀ (H1 : Heap) (locs1 : List Loc), qw D A H0 (ws.set q0 (a, .inr (ci, fs.set k v))) H1 locs1 → W p l e R s m args below meth c H1 locs1 cells slots Q (F0 m (pc + 3) ls rest)) : W p l e R s m args below meth c H locs cells slots Q (F0 m pc ls (v :: .ref a :: rest)) :=
  va_putF hx hb hts hC.1 tf hC.2.2.1 hC.2.2.2 hown hK hw.1 hw.2.1 hw.2.2 q0 he hC.2.1 k hk (hts _ hl) (fun _ h9 => h9) hfin hin2 hdecl (hC.2.2.1 k hk) hn hfit hlen hdg (fun H1 locs1 hP hD hS => kk H1 locs1 ⟨hP, hD, hS⟩)
theorem q_cb {own : String} {index n' fr lo nY k : Nat} {y : MethodName} {bytes : ByteArray} {ret : Option FieldType} (hts : ∀ w ∈ gW, w.before args s = true) (hy : qY y bytes nY ret k) (hl : Cond.methodLink own index y ∈ gW) (hR : fr + 1 ≤ R.frames ∧ 8 + (nY + 11) + lo ≤ R.locals) (hk : n' = k) : CallB R s args own index y bytes nY ret (.code y bytes nY ret :: gW) ({ frames := fr, cells := 0, slots := 0, locals := lo }) 0 0 n' := by
  obtain ⟨h1, h2, h3, h4⟩ := hy
  refine ⟨rfl, rfl, hR.1, hR.2, ?_, List.mem_cons_self, hts _ h1, hts _ h2, h3, ?_, hts _ hl⟩
  · intro w hw a' U hW
    rcases List.mem_cons.mp hw with rfl | hw
    · exact word_at hW (gW_good _ h1) (hts _ h1)
    · exact word_at hW (gW_good _ hw) (hts _ hw)
  · intro sig h
    rw [h] at h4
    rw [hk]
    exact (Option.some.inj h4).symm
theorem q_blindP {D : va_G} {ty : List (ClassId × FieldType)} {av : List Value} {W0 : va_W} : FrameBlind (va_Pc av (fun U => va_P D vwCl W0 U.heap ∧ va_K D vwCl ty U)) := fun a U g mk q => ⟨q.1, q.2.1, va_K.moved (u := U) (U := U.calling g mk a) (Vm.Alike.refl U.vm) q.2.2⟩
theorem q_blindM {D : va_G} {ty : List (ClassId × FieldType)} {av : List Value} {W0 : va_W} {sz : Nat} : FrameBlind (va_Pc av (fun U => U.heap.size = sz ∧ va_P D vwCl W0 U.heap ∧ va_K D vwCl ty U ∧ va_D (fun _ => True) W0)) := fun a U g mk q => ⟨q.1, q.2.1, q.2.2.1, va_K.moved (u := U) (U := U.calling g mk a) (Vm.Alike.refl U.vm) q.2.2.2.1, q.2.2.2.2⟩
theorem q_goP {mc : Nat} {st0 : List Value} {rv : Option Value} {av : Array Value} (hr : va_Run p l e R s m args below meth c H locs cells slots 0 0 (F0 m pc ls st0) rest (fun st oc t => oc = .returned rv ∧ t.heap = st.heap) (fun _ => False)) (kk : W p l e R s m args below meth c H locs cells slots Q (F0 m (pc + 3) ls (rv.toList ++ rest))) : W p l e R s m args below meth c H locs cells slots Q (F0 m pc ls st0) := by
  intro T hT X
  obtain ⟨v, st₀, t, T', L, h0, X', hL, e1, e2, ⟨hv, hh⟩, st⟩ := hr T hT X
  cases hv
  have hLn : L = [] := by
    cases L with
    | nil => rfl
    | cons q L => exact (hL q List.mem_cons_self).elim
  subst hLn
  rw [List.append_nil] at X'
  obtain ⟨t2, a1, b1⟩ := kk T' (by rw [e1, hh, h0]) X'
  exact ⟨t2, st t2 a1, b1⟩
/-- a call of an instance method that reads -/
theorem q_callP {own : String} {index k fr lo nL nY : Nat} {y : MethodName} {bytes : ByteArray} {ret : Option FieldType} {b0 : Nat} {As : List Value} {wc : va_W} {rv : Option Value} {st : List Value} (hx : p.tables.exec = Jvm.exec) (hb : c.code = cc) (hml : c.maxLocals = nL) (hown : s.vm.findClass own = some m.cls) (hts : ∀ w ∈ gW, w.before args s = true) (hK : va_K D vwCl ty s)
    (hM : qP l D ty y bytes nY ret fr lo (.ref b0 :: As) wc rv) (hy : qYi y bytes nY ret k) (hl : Cond.methodLink own index y ∈ gW) (hR : fr + 1 ≤ R.frames ∧ 8 + (nY + 11) + lo ≤ R.locals) (hP : va_P D vwCl wc H) (q0 : Nat) {ci : Nat} {fs : List Value} {T : u_T} {N : Nat} (hq : wc[q0]? = some (b0, .inr (ci, fs))) (hc : vwCl[ci]? = some (y.cls, T, N)) (hn : As.length = k) (hst : st = As.reverse ++ .ref b0 :: rest) (hls : ls.size = nL) (hW : 2 * (F0 m pc ls st).monitorRoom + (rest.map fun v => v.category).sum ≤ 8) (hdg : decode cc pc = .ok (.invokevirtual index, 3)) (hcs : cells ≤ R.cells ∧ slots ≤ R.slots)
    (kk : W p l e R s m args below meth c H locs cells slots Q (F0 m (pc + 3) ls (rv.toList ++ rest))) : W p l e R s m args below meth c H locs cells slots Q (F0 m pc ls st) :=
  q_goP (mc := 0) (av := #[]) (va_runV (C := y.cls) (b := b0) (As := As) (n := k) ⟨hx, hb, hml, hown, hts⟩ hM ⟨q_cb hts hy.1 hl hR rfl, hts _ hy.2.1, hts _ hy.2.2⟩ ⟨q_blindP, va_recv hK hP hc hq, fun U hU hW => ⟨rfl, by rw [hU]; exact hP, va_K.moved hW.alike hK⟩⟩ rfl hn hls hst hW hdg hcs) kk
/-- .. of a static one -/
theorem q_callPS {own : String} {index k fr lo nL nY : Nat} {y : MethodName} {bytes : ByteArray} {ret : Option FieldType} {As : List Value} {wc : va_W} {rv : Option Value} {st : List Value} (hx : p.tables.exec = Jvm.exec) (hb : c.code = cc) (hml : c.maxLocals = nL) (hown : s.vm.findClass own = some m.cls) (hts : ∀ w ∈ gW, w.before args s = true) (hK : va_K D vwCl ty s)
    (hM : qP l D ty y bytes nY ret fr lo As wc rv) (hy : qYt y bytes nY ret k) (hl : Cond.methodLink own index y ∈ gW) (hR : fr + 1 ≤ R.frames ∧ 8 + (nY + 11) + lo ≤ R.locals) (hP : va_P D vwCl wc H) (hn : As.length = k) (hst : st = As.reverse ++ rest) (hls : ls.size = nL) (hW : 2 * (F0 m pc ls st).monitorRoom + (rest.map fun v => v.category).sum ≤ 8) (hdg : decode cc pc = .ok (.invokestatic index, 3)) (hcs : cells ≤ R.cells ∧ slots ≤ R.slots)
    (kk : W p l e R s m args below meth c H locs cells slots Q (F0 m (pc + 3) ls (rv.toList ++ rest))) : W p l e R s m args below meth c H locs cells slots Q (F0 m pc ls st) :=
  q_goP (mc := 0) (av := #[]) (va_runS (As := As) (n := k) ⟨hx, hb, hml, hown, hts⟩ hM ⟨q_cb hts hy.1 hl hR rfl, hts _ hy.2⟩ ⟨q_blindP, fun U hU hW => ⟨rfl, by rw [hU]; exact hP, va_K.moved hW.alike hK⟩⟩ rfl hn hls hst hW hdg hcs) kk
/-- behind a call that changes its world -/
theorem q_goM {S : Type} {P : S → Prop} {rv : S → Option Value} {W1 : S → va_W} {st0 : List Value} {wc wr : va_W} (hr : va_Run p l e R s m args below meth c H locs cells slots 0 0 (F0 m pc ls st0) rest (fun st oc t => (∃ u : S, oc = .returned (rv u) ∧ P u ∧ va_P D vwCl (W1 u) t.heap ∧ va_D (va_A wc H.size) (W1 u)) ∧ va_F (va_A wc H.size) st t) (va_A wc H.size)) (hw : qw D A H0 ws H locs) (hA : ∀ q : Nat, H0.size ≤ q → A q) (isC isR : List Nat) (hC : isC.map (fun i => ws[i]?) = wc.map some) (hRr : isR.map (fun i => ws[i]?) = wr.map some) (hn : va_nd isR = true) (hdis : ∀ i ∈ isR, i ∉ isC)
    (kk : ∀ (u : S) (H1 : Heap) (locs1 : List Loc), P u → qw D A H0 (wr ++ W1 u) H1 locs1 → W p l e R s m args below meth c H1 locs1 cells slots Q (F0 m (pc + 3) ls ((rv u).toList ++ rest))) : W p l e R s m args below meth c H locs cells slots Q (F0 m pc ls st0) := by
  intro T hT X
  obtain ⟨v, st₀, t, T', L, h0, X', hL, e1, e2, ⟨⟨u, hv, hPu, hP1, hD1⟩, hz, hk⟩, st⟩ := hr T hT X
  cases hv
  rw [h0] at hz hk
  have hF := va_free hw.2.1 hw.2.2 hA isC hC
  obtain ⟨hP2, hD2⟩ := va_join hw.1 hw.2.1 isC isR hC hRr hn hdis hk hF hP1 hD1
  have hS := hw.2.2
  obtain ⟨t2, a1, b1⟩ := kk u T'.heap (locs ++ L) hPu ⟨by rw [e1]; exact hP2, hD2, Nat.le_trans hS.1 (by rw [e1]; exact hz), fun q h1 h2 => by
      rw [e1, hk q (Nat.lt_of_lt_of_le h1 hS.1) (fun z => h2 (hF q z))]; exact hS.2.1 q h1 h2, fun q hq => by
      rcases List.mem_append.mp hq with h | h
      · exact hS.2.2 q h
      · exact hF _ (hL q h)⟩ T' rfl X'
  exact ⟨t2, st t2 a1, b1⟩
/-- a call of an instance method that changes its world -/
theorem q_callM {S : Type} {P : S → Prop} {rv : S → Option Value} {W1 : S → va_W} {wc wr : va_W} {own : String} {index k fr lo nL nY : Nat} {y : MethodName} {bytes : ByteArray} {ret : Option FieldType} {b0 : Nat} {As : List Value} {st : List Value} (hx : p.tables.exec = Jvm.exec) (hb : c.code = cc) (hml : c.maxLocals = nL) (hown : s.vm.findClass own = some m.cls) (hts : ∀ w ∈ gW, w.before args s = true) (hK : va_K D vwCl ty s)
    (hM : qM l D ty y bytes nY ret fr lo (.ref b0 :: As) wc P rv W1) (hy : qYi y bytes nY ret k) (hl : Cond.methodLink own index y ∈ gW) (hR : fr + 1 ≤ R.frames ∧ 8 + (nY + 11) + lo ≤ R.locals) (hw : qw D A H0 ws H locs) (hA : ∀ q : Nat, H0.size ≤ q → A q) (isC isR : List Nat) (hC : isC.map (fun i => ws[i]?) = wc.map some) (hRr : isR.map (fun i => ws[i]?) = wr.map some) (hnC : va_nd isC = true) (hnR : va_nd isR = true) (hdis : ∀ i ∈ isR, i ∉ isC) (q0 : Nat) {ci : Nat} {fs : List Value} {T : u_T} {N : Nat} (hq : wc[q0]? = some (b0, .inr (ci, fs))) (hc : vwCl[ci]? = some (y.cls, T, N)) (hn : As.length = k) (hst : st = As.reverse ++ .ref b0 :: rest) (hls : ls.size = nL) (hW : 2 * (F0 m pc ls st).monitorRoom + (rest.map fun v => v.category).sum ≤ 8) (hdg : decode cc pc = .ok (.invokevirtual index, 3)) (hcs : cells ≤ R.cells ∧ slots ≤ R.slots)
    (kk : ∀ (u : S) (H1 : Heap) (locs1 : List Loc), P u → qw D A H0 (wr ++ W1 u) H1 locs1 → W p l e R s m args below meth c H1 locs1 cells slots Q (F0 m (pc + 3) ls ((rv u).toList ++ rest))) : W p l e R s m args below meth c H locs cells slots Q (F0 m pc ls st) := by
  have hPc := hw.1.sub isC (pk_fm hC)
  have hDc := hw.2.1.sub isC hnC hC
  exact q_goM (va_runV (C := y.cls) (b := b0) (As := As) (n := k) ⟨hx, hb, hml, hown, hts⟩ (hM H.size) ⟨q_cb hts hy.1 hl hR rfl, hts _ hy.2.1, hts _ hy.2.2⟩ ⟨q_blindM, va_recv hK hPc hc hq, fun U hU hW => ⟨rfl, by rw [hU], by rw [hU]; exact hPc, va_K.moved hW.alike hK, hDc.weaken (fun _ _ _ _ => trivial)⟩⟩ rfl hn hls hst hW hdg hcs) hw hA isC isR hC hRr hnR hdis kk
/-- .. of a static one -/
theorem q_callMS {S : Type} {P : S → Prop} {rv : S → Option Value} {W1 : S → va_W} {wc wr : va_W} {own : String} {index k fr lo nL nY : Nat} {y : MethodName} {bytes : ByteArray} {ret : Option FieldType} {As : List Value} {st : List Value} (hx : p.tables.exec = Jvm.exec) (hb : c.code = cc) (hml : c.maxLocals = nL) (hown : s.vm.findClass own = some m.cls) (hts : ∀ w ∈ gW, w.before args s = true) (hK : va_K D vwCl ty s)
    (hM : qM l D ty y bytes nY ret fr lo As wc P rv W1) (hy : qYt y bytes nY ret k) (hl : Cond.methodLink own index y ∈ gW) (hR : fr + 1 ≤ R.frames ∧ 8 + (nY + 11) + lo ≤ R.locals) (hw : qw D A H0 ws H locs) (hA : ∀ q : Nat, H0.size ≤ q → A q) (isC isR : List Nat) (hC : isC.map (fun i => ws[i]?) = wc.map some) (hRr : isR.map (fun i => ws[i]?) = wr.map some) (hnC : va_nd isC = true) (hnR : va_nd isR = true) (hdis : ∀ i ∈ isR, i ∉ isC) (hn : As.length = k) (hst : st = As.reverse ++ rest) (hls : ls.size = nL) (hW : 2 * (F0 m pc ls st).monitorRoom + (rest.map fun v => v.category).sum ≤ 8) (hdg : decode cc pc = .ok (.invokestatic index, 3)) (hcs : cells ≤ R.cells ∧ slots ≤ R.slots)
    (kk : ∀ (u : S) (H1 : Heap) (locs1 : List Loc), P u → qw D A H0 (wr ++ W1 u) H1 locs1 → W p l e R s m args below meth c H1 locs1 cells slots Q (F0 m (pc + 3) ls ((rv u).toList ++ rest))) : W p l e R s m args below meth c H locs cells slots Q (F0 m pc ls st) := by
  have hPc := hw.1.sub isC (pk_fm hC)
  have hDc := hw.2.1.sub isC hnC hC
  exact q_goM (va_runS (As := As) (n := k) ⟨hx, hb, hml, hown, hts⟩ (hM H.size) ⟨q_cb hts hy.1 hl hR rfl, hts _ hy.2⟩ ⟨q_blindM, fun U hU hW => ⟨rfl, by rw [hU], by rw [hU]; exact hPc, va_K.moved hW.alike hK, hDc.weaken (fun _ _ _ _ => trivial)⟩⟩ rfl hn hls hst hW hdg hcs) hw hA isC isR hC hRr hnR hdis kk
end QR2
abbrev tyG (cI cB cZ cS cJ : ClassId) : List (ClassId × FieldType) := [(cI, .int), (cB, .byte), (cZ, .boolean), (cS, .object "PageFeeder$State")]
def ub (z : Int) : Int := if z < 0 then z + 256 else z
def absZ (z : Int) : Int := if 0 ≤ z then z else 0 - z
def maxZ (a b : Int) : Int := if a < b then b else a
def minZ (a b : Int) : Int := if b < a then b else a
theorem ub_32 : ∀ z : Int, -128 ≤ z → z < 128 → iI z &&& 255 = iI (ub z) := by
  intro z h1 h2
  have h : ∀ k : Nat, k < 256 → iI ((k : Int) - 128) &&& 255 = iI (ub ((k : Int) - 128)) := by decide +kernel
  have h3 := h (z + 128).toNat (by omega)
  rw [show (((z + 128).toNat : Nat) : Int) - 128 = z by omega] at h3
  exact h3
section QR3
variable {p : Program} {l : Launch} {e : Env} {R : Room} {s : State} {m : MethodId} {args : Array Value} {below : List Frame} {meth : Method} {c : Code} {H : Heap} {locs : List Loc} {cells slots : Nat} {Q : State → Prop}
variable {cc : ByteArray} {pc : Nat} {ls : Array Slot} {rest : List Value}
theorem q_iconst (hx : p.tables.exec = Jvm.exec) (hb : c.code = cc) {z : Int} (hdg : decode cc pc = .ok (.iconst z, 1)) (k : W p l e R s m args below meth c H locs cells slots Q (F0 m (pc + 1) ls (.int (iI z) :: rest))) : W p l e R s m args below meth c H locs cells slots Q (F0 m pc ls rest) := lv_iconst hx hb hdg rfl k
theorem q_bipush (hx : p.tables.exec = Jvm.exec) (hb : c.code = cc) {z : Int} (hdg : decode cc pc = .ok (.bipush z, 2)) (hz : (Int8.ofInt z).toInt32 = iI z) (k : W p l e R s m args below meth c H locs cells slots Q (F0 m (pc + 2) ls (.int (iI z) :: rest))) : W p l e R s m args below meth c H locs cells slots Q (F0 m pc ls rest) := lv_bipush hx hb hdg hz k
theorem q_sipush (hx : p.tables.exec = Jvm.exec) (hb : c.code = cc) {z : Int} (hdg : decode cc pc = .ok (.sipush z, 3)) (hz : (Int16.ofInt z).toInt32 = iI z) (k : W p l e R s m args below meth c H locs cells slots Q (F0 m (pc + 3) ls (.int (iI z) :: rest))) : W p l e R s m args below meth c H locs cells slots Q (F0 m pc ls rest) := lv_sipush hx hb hdg hz k
theorem q_top {a : Int} (b : Int) (h : a = b) (k : W p l e R s m args below meth c H locs cells slots Q (F0 m pc ls (.int (iI b) :: rest))) : W p l e R s m args below meth c H locs cells slots Q (F0 m pc ls (.int (iI a) :: rest)) := h ▸ k
theorem q_ret {a b : Int} (k : W p l e R s m args below meth c H locs cells slots Q (F0 m pc ls (.int (iI b) :: rest))) (h : a = b) : W p l e R s m args below meth c H locs cells slots Q (F0 m pc ls (.int (iI a) :: rest)) := h ▸ k
theorem q_iand255 (hx : p.tables.exec = Jvm.exec) (hb : c.code = cc) {a : Int} (hdg : decode cc pc = .ok (.iand, 1)) (ha : -128 ≤ a ∧ a < 128) (k : W p l e R s m args below meth c H locs cells slots Q (F0 m (pc + 1) ls (.int (iI (ub a)) :: rest))) : W p l e R s m args below meth c H locs cells slots Q (F0 m pc ls (.int (iI 255) :: .int (iI a) :: rest)) := lv_iand hx hb hdg (by rw [show iI 255 = (255 : Int32) from rfl, ub_32 a ha.1 ha.2]; exact k)
theorem q_ifb_eq (hx : p.tables.exec = Jvm.exec) (hb : c.code = cc) {q : Prop} [Decidable q] {off : Int} {tgt : Nat} (hdg : decode cc pc = .ok (.ifCond .eq off, 3)) (ht : (pc : Int) + off = (tgt : Int)) (kt : ¬ q → W p l e R s m args below meth c H locs cells slots Q (F0 m tgt ls rest)) (kf : q → W p l e R s m args below meth c H locs cells slots Q (F0 m (pc + 3) ls rest)) : W p l e R s m args below meth c H locs cells slots Q (F0 m pc ls (.int (iI (bI q)) :: rest)) :=
  q_if_eq hx hb hdg ht (by rcases bI_r (c := q) with h | h <;> rw [h] <;> decide) (fun z => kt (fun hq => by rw [bI_t hq] at z; exact absurd z (by decide))) (fun z => kf (Classical.byContradiction (fun hq => z (bI_f hq))))
theorem q_ifb_ne (hx : p.tables.exec = Jvm.exec) (hb : c.code = cc) {q : Prop} [Decidable q] {off : Int} {tgt : Nat} (hdg : decode cc pc = .ok (.ifCond .ne off, 3)) (ht : (pc : Int) + off = (tgt : Int)) (kt : q → W p l e R s m args below meth c H locs cells slots Q (F0 m tgt ls rest)) (kf : ¬ q → W p l e R s m args below meth c H locs cells slots Q (F0 m (pc + 3) ls rest)) : W p l e R s m args below meth c H locs cells slots Q (F0 m pc ls (.int (iI (bI q)) :: rest)) :=
  q_if_ne hx hb hdg ht (by rcases bI_r (c := q) with h | h <;> rw [h] <;> decide) (fun z => kt (Classical.byContradiction (fun hq => z (bI_f hq)))) (fun z => kf (fun hq => by rw [bI_t hq] at z; exact absurd z (by decide)))
theorem q_tabOut (hx : p.tables.exec = Jvm.exec) (hb : c.code = cc) {z dflt lo hi : Int} {offs : Array Int} {len tgt : Nat} (hdg : decode cc pc = .ok (.tableswitch dflt lo hi offs, len)) (hz : rg z) (h : z < lo ∨ hi < z) (ht : (pc : Int) + dflt = (tgt : Int)) (k : W p l e R s m args below meth c H locs cells slots Q (F0 m tgt ls rest)) : W p l e R s m args below meth c H locs cells slots Q (F0 m pc ls (.int (iI z) :: rest)) := lv_tableOut hx hb hdg (by rw [iI_t hz]; exact h) ht k
theorem q_tabIn (hx : p.tables.exec = Jvm.exec) (hb : c.code = cc) {z dflt lo hi off : Int} {offs : Array Int} {len tgt : Nat} (hdg : decode cc pc = .ok (.tableswitch dflt lo hi offs, len)) (hz : rg z) (h1 : ¬ z < lo) (h2 : ¬ hi < z) (ho : offs[(z - lo).toNat]? = some off) (ht : (pc : Int) + off = (tgt : Int)) (k : W p l e R s m args below meth c H locs cells slots Q (F0 m tgt ls rest)) : W p l e R s m args below meth c H locs cells slots Q (F0 m pc ls (.int (iI z) :: rest)) := lv_tableIn hx hb hdg (by rw [iI_t hz]; exact h1) (by rw [iI_t hz]; exact h2) (by rw [iI_t hz]; exact ho) ht k
theorem q_look (hx : p.tables.exec = Jvm.exec) (hb : c.code = cc) {z dflt off : Int} {ps : Array (Int × Int)} {len tgt : Nat} (hdg : decode cc pc = .ok (.lookupswitch dflt ps, len)) (hz : rg z) (hp : (ps.toList.zip (ps.toList.drop 1)).all (fun (a, next) => a.1 < next.1) = true) (ho : Op.lookupswitch.offset ps.toList dflt z = off) (ht : (pc : Int) + off = (tgt : Int)) (k : W p l e R s m args below meth c H locs cells slots Q (F0 m tgt ls rest)) : W p l e R s m args below meth c H locs cells slots Q (F0 m pc ls (.int (iI z) :: rest)) := lv_lookup hx hb hdg hp (by rw [iI_t hz]; exact ho) ht k
end QR3
