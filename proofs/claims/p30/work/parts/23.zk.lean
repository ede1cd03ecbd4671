/-! FRAMES BY BLOCKS; CONTRACTS UNDER A PREDICATE Z OF WHAT NOBODY WRITES (statics, literals) -/
theorem vP_iff {D : va_G} {cl : List vw_C} {ws : va_W} {H : Heap} : va_P D cl ws H ↔ ∀ q ∈ ws, va_at D cl q H := by
  constructor
  · intro h q hq
    obtain ⟨k, hk⟩ := List.mem_iff_getElem?.mp hq
    exact h k q hk
  · intro h k q hk
    exact h q (List.mem_of_getElem? hk)
theorem vD_iff {A : Nat → Prop} {ws : va_W} : va_D A ws ↔ (ws.map Prod.fst).Nodup ∧ ∀ q ∈ ws, A q.1 := by
  constructor
  · intro h
    refine ⟨List.pairwise_iff_getElem.mpr (fun i j hi hj hij e => ?_), fun q hq => ?_⟩
    · rw [List.length_map] at hi hj
      rw [List.getElem_map, List.getElem_map] at e
      have z := h.1 i j _ _ (List.getElem?_eq_getElem hi) (List.getElem?_eq_getElem hj) e
      omega
    · obtain ⟨k, hk⟩ := List.mem_iff_getElem?.mp hq
      exact h.2 k q hk
  · intro h
    refine ⟨fun i j p q hi hj e => ?_, fun k q hk => h.2 q (List.mem_of_getElem? hk)⟩
    obtain ⟨hi1, hi2⟩ := List.getElem?_eq_some_iff.mp hi
    obtain ⟨hj1, hj2⟩ := List.getElem?_eq_some_iff.mp hj
    have z := List.pairwise_iff_getElem.mp h.1
    rcases Nat.lt_trichotomy i j with c | c | c
    · exact absurd (by rw [List.getElem_map, List.getElem_map, hi2, hj2]; exact e) (z i j (by rw [List.length_map]; exact hi1) (by rw [List.length_map]; exact hj1) c)
    · exact c
    · exact absurd (by rw [List.getElem_map, List.getElem_map, hi2, hj2]; exact e.symm) (z j i (by rw [List.length_map]; exact hj1) (by rw [List.length_map]; exact hi1) c)
theorem qw.perm {D : va_G} {A : Nat → Prop} {H0 : Heap} {ws ws' : va_W} {H : Heap} {locs : List Loc} (h : qw D A H0 ws H locs) (hp : ws.Perm ws') : qw D A H0 ws' H locs := by
  have h2 := vD_iff.mp h.2.1
  exact ⟨vP_iff.mpr (fun q hq => vP_iff.mp h.1 q (hp.mem_iff.mpr hq)), vD_iff.mpr ⟨(hp.map Prod.fst).nodup_iff.mp h2.1, fun q hq => h2.2 q (hp.mem_iff.mpr hq)⟩, h.2.2⟩
theorem qw.comm {D : va_G} {A : Nat → Prop} {H0 : Heap} {w1 w2 : va_W} {H : Heap} {locs : List Loc} (h : qw D A H0 (w1 ++ w2) H locs) : qw D A H0 (w2 ++ w1) H locs := h.perm List.perm_append_comm
theorem sub_mem {is : List Nat} {ws ws' : va_W} (hs : is.map (fun i => ws[i]?) = ws'.map some) {q : Nat × va_E} (hq : q ∈ ws') : q ∈ ws := by
  have h1 : some q ∈ is.map (fun i => ws[i]?) := by rw [hs]; exact List.mem_map.mpr ⟨q, hq, rfl⟩
  obtain ⟨i, -, hi⟩ := List.mem_map.mp h1
  exact List.mem_of_getElem? hi
/-- other places of the head, the tail as it is -/
theorem qw.subR {D : va_G} {A : Nat → Prop} {H0 : Heap} {ws ws' R : va_W} {H : Heap} {locs : List Loc} (h : qw D A H0 (ws ++ R) H locs) (is : List Nat) (hn : va_nd is = true) (hs : is.map (fun i => ws[i]?) = ws'.map some) : qw D A H0 (ws' ++ R) H locs := by
  obtain ⟨hP, hD, hS⟩ := h
  rw [vP_iff] at hP
  obtain ⟨d1, d2⟩ := vD_iff.mp hD
  rw [List.map_append, List.nodup_append] at d1
  obtain ⟨n1, n2, n3⟩ := d1
  have m : ∀ q ∈ ws' ++ R, q ∈ ws ++ R := fun q hq => by
    rcases List.mem_append.mp hq with z | z
    · exact List.mem_append.mpr (Or.inl (sub_mem hs z))
    · exact List.mem_append.mpr (Or.inr z)
  refine ⟨vP_iff.mpr (fun q hq => hP q (m q hq)), vD_iff.mpr ⟨?_, fun q hq => d2 q (m q hq)⟩, hS⟩
  rw [List.map_append, List.nodup_append]
  refine ⟨?_, n2, fun a ha b hb => n3 a ?_ b hb⟩
  · exact (vD_iff.mp ((vD_iff (A := fun _ => True)).mpr ⟨n1, fun _ _ => trivial⟩ |>.sub is hn hs)).1
  · obtain ⟨q, hq, e⟩ := List.mem_map.mp ha
    exact List.mem_map.mpr ⟨q, sub_mem hs hq, e⟩
theorem rng_map {α : Type} (w1 w2 : List α) : (List.range w1.length).map (fun i => (w1 ++ w2)[i]?) = w1.map some := by
  refine List.ext_getElem? (fun k => ?_)
  rw [List.getElem?_map, List.getElem?_map]
  by_cases h : k < w1.length
  · rw [List.getElem?_range h, List.getElem?_eq_getElem h]
    show some ((w1 ++ w2)[k]?) = some (some w1[k])
    rw [List.getElem?_append_left h, List.getElem?_eq_getElem h]
  · rw [List.getElem?_eq_none (by rw [List.length_range]; omega), List.getElem?_eq_none (by omega)]
    rfl
theorem rng_map2 {α : Type} (w1 w2 : List α) : ((List.range w2.length).map (w1.length + ·)).map (fun i => (w1 ++ w2)[i]?) = w2.map some := by
  refine List.ext_getElem? (fun k => ?_)
  rw [List.getElem?_map, List.getElem?_map, List.getElem?_map]
  by_cases h : k < w2.length
  · rw [List.getElem?_range h, List.getElem?_eq_getElem h]
    show some ((w1 ++ w2)[w1.length + k]?) = some (some w2[k])
    rw [List.getElem?_append_right (Nat.le_add_right _ _), Nat.add_sub_cancel_left, List.getElem?_eq_getElem h]
  · rw [List.getElem?_eq_none (by rw [List.length_range]; omega), List.getElem?_eq_none (by omega)]
    rfl
theorem nd_of {l : List Nat} (h : l.Nodup) : va_nd l = true := by
  induction l with
  | nil => rfl
  | cons a l ih =>
    rw [List.nodup_cons] at h
    show (decide (a ∉ l) && va_nd l) = true
    rw [ih h.2, decide_eq_true h.1]
    rfl
theorem rng_nd (k n : Nat) : va_nd ((List.range n).map (k + ·)) = true := by
  refine nd_of (List.pairwise_map.mpr (List.Pairwise.imp (fun h e => h (by omega)) List.nodup_range))
theorem rng_dis {k n : Nat} : ∀ i ∈ (List.range n).map (k + ·), i ∉ List.range k := fun i hi h => by
  obtain ⟨j, -, e⟩ := List.mem_map.mp hi
  have := List.mem_range.mp h
  omega
theorem va_A_sub {ws wc : va_W} {isC : List Nat} (hC : isC.map (fun i => ws[i]?) = wc.map some) {sz q : Nat} (h : va_A wc sz q) : va_A ws sz q := by
  rcases h with ⟨k, e, hk⟩ | h
  · obtain ⟨i, hi⟩ := List.mem_iff_getElem?.mp (sub_mem hC (List.mem_of_getElem? hk))
    exact Or.inl ⟨i, e, hi⟩
  · exact Or.inr h
abbrev ZT := (Nat → Prop) → State → Heap → Prop
/-- Z can be carried -/
def zOk (Z : ZT) : Prop := (∀ (A : Nat → Prop) (s U : State) (H : Heap), s.WarmedH U.vm → Z A s H → Z A U H) ∧ (∀ (A : Nat → Prop) (u U : State) (H : Heap), U.vm = u.vm → Z A u H → Z A U H) ∧ (∀ (A : Nat → Prop) (U : State) (H H1 : Heap), Z A U H → (∀ a : Nat, a < H.size → ¬ A a → H1[a]? = H[a]?) → Z A U H1) ∧ (∀ (A B : Nat → Prop) (U : State) (H : Heap), Z A U H → (∀ q, B q → A q) → Z B U H)
/-- a method that reads, under Z -/
def qPz (l : Launch) (Z : ZT) (D : va_G) (ty : List (ClassId × FieldType)) (y : MethodName) (b : ByteArray) (n : Nat) (ret : Option FieldType) (fr lo : Nat) (av : List Value) (W0 : va_W) (rv : Option Value) : Prop :=
  Met l y (.code y b n ret :: gW) ({ frames := fr, cells := 0, slots := 0, locals := lo }) (va_Pc av (fun U => va_P D vwCl W0 U.heap ∧ va_K D vwCl ty U ∧ Z (va_A W0 U.heap.size) U U.heap)) (fun _ st oc t => oc = .returned rv ∧ t.heap = st.heap) 0 0 (fun _ => False)
/-- a method that changes its world, under Z -/
def qMz {S : Type} (l : Launch) (Z : ZT) (D : va_G) (ty : List (ClassId × FieldType)) (y : MethodName) (b : ByteArray) (n : Nat) (ret : Option FieldType) (fr lo : Nat) (av : List Value) (W0 : va_W) (P : S → Prop) (rv : S → Option Value) (W1 : S → va_W) : Prop :=
  ∀ sz : Nat, Met l y (.code y b n ret :: gW) ({ frames := fr, cells := 0, slots := 0, locals := lo }) (va_Pc av (fun U => U.heap.size = sz ∧ va_P D vwCl W0 U.heap ∧ va_K D vwCl ty U ∧ va_D (fun _ => True) W0 ∧ Z (va_A W0 sz) U U.heap)) (fun _ st oc t => (∃ u : S, oc = .returned (rv u) ∧ P u ∧ va_P D vwCl (W1 u) t.heap ∧ va_D (va_A W0 sz) (W1 u)) ∧ va_F (va_A W0 sz) st t) 0 0 (va_A W0 sz)
theorem qMz_of {S : Type} {l : Launch} {Z : ZT} {D : va_G} {ty : List (ClassId × FieldType)} {y : MethodName} {b : ByteArray} {n fr lo : Nat} {ret : Option FieldType} {av : List Value} {W0 : va_W} {P : S → Prop} {rv : S → Option Value} {W1 : S → va_W} (h : qM l D ty y b n ret fr lo av W0 P rv W1) : qMz l Z D ty y b n ret fr lo av W0 P rv W1 := by
  intro sz p e ha hc hk s m args below hf happ hp hk'
  exact h sz p e ha hc hk s m args below hf happ ⟨hp.1, hp.2.1, hp.2.2.1, hp.2.2.2.1, hp.2.2.2.2.1⟩ hk'
section QEz
variable {l : Launch} {Z : ZT} {D : va_G} {ty : List (ClassId × FieldType)} {y : MethodName} {b : ByteArray} {n fr lo : Nat} {av : List Value} {W0 : va_W}
theorem qPz_enter {rt : FieldType} {v : Int32} (hy : plainName y.cls = true) (hn : (lg_sl av).length ≤ n) (hnar : narrow rt (.int v) = .int v)
    (body : ∀ (p : Program) (e : Env) (R : Room) (s : State) (m : MethodId) (args : Array Value) (below : List Frame) (meth : Method) (c : Code) (Q : State → Prop) (ls : Array Slot), qX p s m args c b n y.cls D ty → R = ({ frames := fr, cells := 0, slots := 0, locals := lo } : Room) → va_P D vwCl W0 s.heap → Z (va_A W0 s.heap.size) s s.heap → lv_has ls n (lv_args 0 av) →
      (∀ (pc : Nat) (ls : Array Slot), decode b pc = .ok (.ireturn, 1) → W p l e R s m args below meth c s.heap [] 0 0 Q (F0 m pc ls [.int v])) → W p l e R s m args below meth c s.heap [] 0 0 Q (F0 m 0 ls [])) :
    qPz l Z D ty y b n (some rt) fr lo av W0 (some (.int v)) := by
  refine Met.ofW (cc := b) (maxL := n) (ret := some rt) hy rfl ?_
  intro p e s m args below meth c s₁ B hml hv
  obtain ⟨rfl, hP, hK, hZ⟩ := hv
  have hts := atoms_spec (ws := (.code y b n (some rt) :: gW)) B.pre
  rw [lg_entry_eq]
  have hlocks := B.notSynchronized
  have hr := B.returns
  exact body p e _ s m _ below meth c _ _ ⟨B.exec, B.bytes, hml, findClass_of_methodNamed B.named, fun w h => hts w (List.mem_cons_of_mem _ h), hK⟩ rfl hP hZ (lv_entry av hn) (fun pc ls hdg => W.zret (v := v) B.exec B.bytes hr hnar (fun t ht hW => ⟨rfl, ht⟩) (fun q hq => by cases hq) hdg)
theorem qMz_enterI {S : Type} {P : S → Prop} {rv : S → Option Value} {W1 : S → va_W} {rt : FieldType} {val : S → Int32} (hy : plainName y.cls = true) (hn : (lg_sl av).length ≤ n) (hv : ∀ u, P u → rv u = some (.int (val u)) ∧ narrow rt (.int (val u)) = .int (val u))
    (body : ∀ (p : Program) (e : Env) (R : Room) (s : State) (m : MethodId) (args : Array Value) (below : List Frame) (meth : Method) (c : Code) (Q : State → Prop) (ls : Array Slot) (A : Nat → Prop), qX p s m args c b n y.cls D ty → R = ({ frames := fr, cells := 0, slots := 0, locals := lo } : Room) → (∀ q : Nat, s.heap.size ≤ q → A q) → qw D A s.heap W0 s.heap [] → Z A s s.heap → lv_has ls n (lv_args 0 av) →
      (∀ (u : S) (H : Heap) (locs : List Loc) (pc : Nat) (ls : Array Slot), P u → qw D A s.heap (W1 u) H locs → decode b pc = .ok (.ireturn, 1) → W p l e R s m args below meth c H locs 0 0 Q (F0 m pc ls [.int (val u)])) → W p l e R s m args below meth c s.heap [] 0 0 Q (F0 m 0 ls [])) :
    qMz l Z D ty y b n (some rt) fr lo av W0 P rv W1 := by
  intro sz
  refine Met.ofW (cc := b) (maxL := n) (ret := some rt) hy rfl ?_
  intro p e s m args below meth c s₁ B hml hv0
  obtain ⟨rfl, hsz, hP, hK, hD0, hZ⟩ := hv0
  subst hsz
  have hts := atoms_spec (ws := (.code y b n (some rt) :: gW)) B.pre
  rw [lg_entry_eq]
  have hlocks := B.notSynchronized
  have hr := B.returns
  refine body p e _ s m _ below meth c _ _ (va_A W0 s.heap.size) ⟨B.exec, B.bytes, hml, findClass_of_methodNamed B.named, fun w h => hts w (List.mem_cons_of_mem _ h), hK⟩ rfl (fun q h => Or.inr h) ⟨hP, hD0.self, va_S.rf⟩ hZ (lv_entry av hn) (fun u H locs pc ls hPu hw hdg => ?_)
  obtain ⟨h1, h2⟩ := hv u hPu
  exact W.zret (v := val u) B.exec B.bytes hr h2 (fun t ht hW => ⟨⟨u, by rw [h1], hPu, by rw [ht]; exact hw.1, hw.2.1⟩, hw.2.2.F ht⟩) hw.2.2.2.2 hdg
theorem qMz_enterV {S : Type} {P : S → Prop} {W1 : S → va_W} (hy : plainName y.cls = true) (hn : (lg_sl av).length ≤ n)
    (body : ∀ (p : Program) (e : Env) (R : Room) (s : State) (m : MethodId) (args : Array Value) (below : List Frame) (meth : Method) (c : Code) (Q : State → Prop) (ls : Array Slot) (A : Nat → Prop), qX p s m args c b n y.cls D ty → R = ({ frames := fr, cells := 0, slots := 0, locals := lo } : Room) → (∀ q : Nat, s.heap.size ≤ q → A q) → qw D A s.heap W0 s.heap [] → Z A s s.heap → lv_has ls n (lv_args 0 av) →
      (∀ (u : S) (H : Heap) (locs : List Loc) (pc : Nat) (ls : Array Slot), P u → qw D A s.heap (W1 u) H locs → decode b pc = .ok (.return_, 1) → W p l e R s m args below meth c H locs 0 0 Q (F0 m pc ls [])) → W p l e R s m args below meth c s.heap [] 0 0 Q (F0 m 0 ls [])) :
    qMz l Z D ty y b n none fr lo av W0 P (fun _ => none) W1 := by
  intro sz
  refine Met.ofW (cc := b) (maxL := n) (ret := none) hy rfl ?_
  intro p e s m args below meth c s₁ B hml hv0
  obtain ⟨rfl, hsz, hP, hK, hD0, hZ⟩ := hv0
  subst hsz
  have hts := atoms_spec (ws := (.code y b n none :: gW)) B.pre
  rw [lg_entry_eq]
  have hlocks := B.notSynchronized
  have hr := B.returns
  exact body p e _ s m _ below meth c _ _ (va_A W0 s.heap.size) ⟨B.exec, B.bytes, hml, findClass_of_methodNamed B.named, fun w h => hts w (List.mem_cons_of_mem _ h), hK⟩ rfl (fun q h => Or.inr h) ⟨hP, hD0.self, va_S.rf⟩ hZ (lv_entry av hn) (fun u H locs pc ls hPu hw hdg =>
    W.vret B.exec B.bytes hr (fun t ht hW => ⟨⟨u, rfl, hPu, by rw [ht]; exact hw.1, hw.2.1⟩, hw.2.2.F ht⟩) hw.2.2.2.2 hdg)
end QEz
section QRz
variable {p : Program} {l : Launch} {e : Env} {R : Room} {s : State} {m : MethodId} {args : Array Value} {below : List Frame} {meth : Method} {c : Code} {H : Heap} {locs : List Loc} {cells slots : Nat} {Q : State → Prop}
variable {cc : ByteArray} {pc : Nat} {ls : Array Slot} {rest : List Value} {D : va_G} {ty : List (ClassId × FieldType)} {A : Nat → Prop} {H0 : Heap} {ws : va_W} {Z : ZT}
theorem z_P (hz : zOk Z) {W0 wc : va_W} (h : Z (va_A W0 s.heap.size) s s.heap) (isC : List Nat) (hC : isC.map (fun i => W0[i]?) = wc.map some) : Z (va_A wc s.heap.size) s s.heap := hz.2.2.2 _ _ _ _ h (fun _ q => va_A_sub hC q)
theorem z_M (hz : zOk Z) {wc : va_W} (h : Z A s s.heap) (hw : qw D A s.heap ws H locs) (hA : ∀ q : Nat, s.heap.size ≤ q → A q) (isC : List Nat) (hC : isC.map (fun i => ws[i]?) = wc.map some) : Z (va_A wc H.size) s H := hz.2.2.2 _ _ _ _ (hz.2.2.1 _ _ _ _ h hw.2.2.2.1) (va_free hw.2.1 hw.2.2 hA isC hC)
theorem q_blindPz (hz : zOk Z) {av : List Value} {W0 : va_W} : FrameBlind (va_Pc av (fun U => va_P D vwCl W0 U.heap ∧ va_K D vwCl ty U ∧ Z (va_A W0 U.heap.size) U U.heap)) := fun a U g mk q => ⟨q.1, q.2.1, va_K.moved (u := U) (U := U.calling g mk a) (Vm.Alike.refl U.vm) q.2.2.1, hz.2.1 _ U _ _ rfl q.2.2.2⟩
theorem q_blindMz (hz : zOk Z) {av : List Value} {W0 : va_W} {sz : Nat} : FrameBlind (va_Pc av (fun U => U.heap.size = sz ∧ va_P D vwCl W0 U.heap ∧ va_K D vwCl ty U ∧ va_D (fun _ => True) W0 ∧ Z (va_A W0 sz) U U.heap)) := fun a U g mk q => ⟨q.1, q.2.1, q.2.2.1, va_K.moved (u := U) (U := U.calling g mk a) (Vm.Alike.refl U.vm) q.2.2.2.1, q.2.2.2.2.1, hz.2.1 _ U _ _ rfl q.2.2.2.2.2⟩
theorem q_callPz {own : String} {index k fr lo nL nY : Nat} {y : MethodName} {bytes : ByteArray} {ret : Option FieldType} {b0 : Nat} {As : List Value} {wc : va_W} {rv : Option Value} {st : List Value} (hz : zOk Z) (hx : p.tables.exec = Jvm.exec) (hb : c.code = cc) (hml : c.maxLocals = nL) (hown : s.vm.findClass own = some m.cls) (hts : ∀ w ∈ gW, w.before args s = true) (hK : va_K D vwCl ty s)
    (hM : qPz l Z D ty y bytes nY ret fr lo (.ref b0 :: As) wc rv) (hy : qYi y bytes nY ret k) (hl : Cond.methodLink own index y ∈ gW) (hR : fr + 1 ≤ R.frames ∧ 8 + (nY + 11) + lo ≤ R.locals) (hP : va_P D vwCl wc H) (hZ : Z (va_A wc H.size) s H) (q0 : Nat) {ci : Nat} {fs : List Value} {T : u_T} {N : Nat} (hq : wc[q0]? = some (b0, .inr (ci, fs))) (hc : vwCl[ci]? = some (y.cls, T, N)) (hn : As.length = k) (hst : st = As.reverse ++ .ref b0 :: rest) (hls : ls.size = nL) (hW : 2 * (F0 m pc ls st).monitorRoom + (rest.map fun v => v.category).sum ≤ 8) (hdg : decode cc pc = .ok (.invokevirtual index, 3)) (hcs : cells ≤ R.cells ∧ slots ≤ R.slots)
    (kk : W p l e R s m args below meth c H locs cells slots Q (F0 m (pc + 3) ls (rv.toList ++ rest))) : W p l e R s m args below meth c H locs cells slots Q (F0 m pc ls st) :=
  q_goP (mc := 0) (av := #[]) (va_runV (C := y.cls) (b := b0) (As := As) (n := k) ⟨hx, hb, hml, hown, hts⟩ hM ⟨q_cb hts hy.1 hl hR rfl, hts _ hy.2.1, hts _ hy.2.2⟩ ⟨q_blindPz hz, va_recv hK hP hc hq, fun U hU hW => ⟨rfl, by rw [hU]; exact hP, va_K.moved hW.alike hK, by rw [hU]; exact hz.1 _ _ _ _ hW hZ⟩⟩ rfl hn hls hst hW hdg hcs) kk
theorem q_callPSz {own : String} {index k fr lo nL nY : Nat} {y : MethodName} {bytes : ByteArray} {ret : Option FieldType} {As : List Value} {wc : va_W} {rv : Option Value} {st : List Value} (hz : zOk Z) (hx : p.tables.exec = Jvm.exec) (hb : c.code = cc) (hml : c.maxLocals = nL) (hown : s.vm.findClass own = some m.cls) (hts : ∀ w ∈ gW, w.before args s = true) (hK : va_K D vwCl ty s)
    (hM : qPz l Z D ty y bytes nY ret fr lo As wc rv) (hy : qYt y bytes nY ret k) (hl : Cond.methodLink own index y ∈ gW) (hR : fr + 1 ≤ R.frames ∧ 8 + (nY + 11) + lo ≤ R.locals) (hP : va_P D vwCl wc H) (hZ : Z (va_A wc H.size) s H) (hn : As.length = k) (hst : st = As.reverse ++ rest) (hls : ls.size = nL) (hW : 2 * (F0 m pc ls st).monitorRoom + (rest.map fun v => v.category).sum ≤ 8) (hdg : decode cc pc = .ok (.invokestatic index, 3)) (hcs : cells ≤ R.cells ∧ slots ≤ R.slots)
    (kk : W p l e R s m args below meth c H locs cells slots Q (F0 m (pc + 3) ls (rv.toList ++ rest))) : W p l e R s m args below meth c H locs cells slots Q (F0 m pc ls st) :=
  q_goP (mc := 0) (av := #[]) (va_runS (As := As) (n := k) ⟨hx, hb, hml, hown, hts⟩ hM ⟨q_cb hts hy.1 hl hR rfl, hts _ hy.2⟩ ⟨q_blindPz hz, fun U hU hW => ⟨rfl, by rw [hU]; exact hP, va_K.moved hW.alike hK, by rw [hU]; exact hz.1 _ _ _ _ hW hZ⟩⟩ rfl hn hls hst hW hdg hcs) kk
/-- a call of an instance method on a receiver outside the world -/
theorem q_callPzX {own : String} {index k fr lo nL nY : Nat} {y : MethodName} {bytes : ByteArray} {ret : Option FieldType} {b0 : Nat} {As : List Value} {wc : va_W} {rv : Option Value} {st : List Value} (hz : zOk Z) (hx : p.tables.exec = Jvm.exec) (hb : c.code = cc) (hml : c.maxLocals = nL) (hown : s.vm.findClass own = some m.cls) (hts : ∀ w ∈ gW, w.before args s = true) (hK : va_K D vwCl ty s)
    (hM : qPz l Z D ty y bytes nY ret fr lo (.ref b0 :: As) wc rv) (hy : qYi y bytes nY ret k) (hl : Cond.methodLink own index y ∈ gW) (hR : fr + 1 ≤ R.frames ∧ 8 + (nY + 11) + lo ≤ R.locals) (hP : va_P D vwCl wc H) (hZ : Z (va_A wc H.size) s H) (hrec : ∃ cell : Cell, H[b0]? = some cell ∧ cell.vm.isStatics = false ∧ s.vm.findClass y.cls = some cell.cls) (hn : As.length = k) (hst : st = As.reverse ++ .ref b0 :: rest) (hls : ls.size = nL) (hW : 2 * (F0 m pc ls st).monitorRoom + (rest.map fun v => v.category).sum ≤ 8) (hdg : decode cc pc = .ok (.invokevirtual index, 3)) (hcs : cells ≤ R.cells ∧ slots ≤ R.slots)
    (kk : W p l e R s m args below meth c H locs cells slots Q (F0 m (pc + 3) ls (rv.toList ++ rest))) : W p l e R s m args below meth c H locs cells slots Q (F0 m pc ls st) :=
  q_goP (mc := 0) (av := #[]) (va_runV (C := y.cls) (b := b0) (As := As) (n := k) ⟨hx, hb, hml, hown, hts⟩ hM ⟨q_cb hts hy.1 hl hR rfl, hts _ hy.2.1, hts _ hy.2.2⟩ ⟨q_blindPz hz, hrec, fun U hU hW => ⟨rfl, by rw [hU]; exact hP, va_K.moved hW.alike hK, by rw [hU]; exact hz.1 _ _ _ _ hW hZ⟩⟩ rfl hn hls hst hW hdg hcs) kk
/-- behind a call that changes the first block -/
theorem q_goB {S : Type} {P : S → Prop} {rv : S → Option Value} {W1 : S → va_W} {st0 : List Value} {wc wr : va_W} (hr : va_Run p l e R s m args below meth c H locs cells slots 0 0 (F0 m pc ls st0) rest (fun st oc t => (∃ u : S, oc = .returned (rv u) ∧ P u ∧ va_P D vwCl (W1 u) t.heap ∧ va_D (va_A wc H.size) (W1 u)) ∧ va_F (va_A wc H.size) st t) (va_A wc H.size)) (hw : qw D A H0 (wc ++ wr) H locs) (hA : ∀ q : Nat, H0.size ≤ q → A q)
    (kk : ∀ (u : S) (H1 : Heap) (locs1 : List Loc), P u → qw D A H0 (W1 u ++ wr) H1 locs1 → W p l e R s m args below meth c H1 locs1 cells slots Q (F0 m (pc + 3) ls ((rv u).toList ++ rest))) : W p l e R s m args below meth c H locs cells slots Q (F0 m pc ls st0) :=
  q_goM hr hw hA (List.range wc.length) ((List.range wr.length).map (wc.length + ·)) (rng_map wc wr) (rng_map2 wc wr) (rng_nd _ _) rng_dis (fun u H1 locs1 hP h => kk u H1 locs1 hP h.comm)
theorem q_callMB {S : Type} {P : S → Prop} {rv : S → Option Value} {W1 : S → va_W} {wc wr : va_W} {own : String} {index k fr lo nL nY : Nat} {y : MethodName} {bytes : ByteArray} {ret : Option FieldType} {b0 : Nat} {As : List Value} {st : List Value} (hx : p.tables.exec = Jvm.exec) (hb : c.code = cc) (hml : c.maxLocals = nL) (hown : s.vm.findClass own = some m.cls) (hts : ∀ w ∈ gW, w.before args s = true) (hK : va_K D vwCl ty s)
    (hM : qM l D ty y bytes nY ret fr lo (.ref b0 :: As) wc P rv W1) (hy : qYi y bytes nY ret k) (hl : Cond.methodLink own index y ∈ gW) (hR : fr + 1 ≤ R.frames ∧ 8 + (nY + 11) + lo ≤ R.locals) (hw : qw D A H0 (wc ++ wr) H locs) (hA : ∀ q : Nat, H0.size ≤ q → A q) (q0 : Nat) {ci : Nat} {fs : List Value} {T : u_T} {N : Nat} (hq : wc[q0]? = some (b0, .inr (ci, fs))) (hc : vwCl[ci]? = some (y.cls, T, N)) (hn : As.length = k) (hst : st = As.reverse ++ .ref b0 :: rest) (hls : ls.size = nL) (hW : 2 * (F0 m pc ls st).monitorRoom + (rest.map fun v => v.category).sum ≤ 8) (hdg : decode cc pc = .ok (.invokevirtual index, 3)) (hcs : cells ≤ R.cells ∧ slots ≤ R.slots)
    (kk : ∀ (u : S) (H1 : Heap) (locs1 : List Loc), P u → qw D A H0 (W1 u ++ wr) H1 locs1 → W p l e R s m args below meth c H1 locs1 cells slots Q (F0 m (pc + 3) ls ((rv u).toList ++ rest))) : W p l e R s m args below meth c H locs cells slots Q (F0 m pc ls st) := by
  have hC := rng_map wc wr
  have hPc := hw.1.sub _ (pk_fm hC)
  have hDc := hw.2.1.sub _ (nd_of List.nodup_range) hC
  exact q_goB (va_runV (C := y.cls) (b := b0) (As := As) (n := k) ⟨hx, hb, hml, hown, hts⟩ (hM H.size) ⟨q_cb hts hy.1 hl hR rfl, hts _ hy.2.1, hts _ hy.2.2⟩ ⟨q_blindM, va_recv hK hPc hc hq, fun U hU hW => ⟨rfl, by rw [hU], by rw [hU]; exact hPc, va_K.moved hW.alike hK, hDc.weaken (fun _ _ _ _ => trivial)⟩⟩ rfl hn hls hst hW hdg hcs) hw hA kk
theorem q_callMBz {S : Type} {P : S → Prop} {rv : S → Option Value} {W1 : S → va_W} {wc wr : va_W} {own : String} {index k fr lo nL nY : Nat} {y : MethodName} {bytes : ByteArray} {ret : Option FieldType} {b0 : Nat} {As : List Value} {st : List Value} (hz : zOk Z) (hx : p.tables.exec = Jvm.exec) (hb : c.code = cc) (hml : c.maxLocals = nL) (hown : s.vm.findClass own = some m.cls) (hts : ∀ w ∈ gW, w.before args s = true) (hK : va_K D vwCl ty s)
    (hM : qMz l Z D ty y bytes nY ret fr lo (.ref b0 :: As) wc P rv W1) (hy : qYi y bytes nY ret k) (hl : Cond.methodLink own index y ∈ gW) (hR : fr + 1 ≤ R.frames ∧ 8 + (nY + 11) + lo ≤ R.locals) (hw : qw D A H0 (wc ++ wr) H locs) (hA : ∀ q : Nat, H0.size ≤ q → A q) (hZ : Z (va_A wc H.size) s H) (q0 : Nat) {ci : Nat} {fs : List Value} {T : u_T} {N : Nat} (hq : wc[q0]? = some (b0, .inr (ci, fs))) (hc : vwCl[ci]? = some (y.cls, T, N)) (hn : As.length = k) (hst : st = As.reverse ++ .ref b0 :: rest) (hls : ls.size = nL) (hW : 2 * (F0 m pc ls st).monitorRoom + (rest.map fun v => v.category).sum ≤ 8) (hdg : decode cc pc = .ok (.invokevirtual index, 3)) (hcs : cells ≤ R.cells ∧ slots ≤ R.slots)
    (kk : ∀ (u : S) (H1 : Heap) (locs1 : List Loc), P u → qw D A H0 (W1 u ++ wr) H1 locs1 → W p l e R s m args below meth c H1 locs1 cells slots Q (F0 m (pc + 3) ls ((rv u).toList ++ rest))) : W p l e R s m args below meth c H locs cells slots Q (F0 m pc ls st) := by
  have hC := rng_map wc wr
  have hPc := hw.1.sub _ (pk_fm hC)
  have hDc := hw.2.1.sub _ (nd_of List.nodup_range) hC
  exact q_goB (va_runV (C := y.cls) (b := b0) (As := As) (n := k) ⟨hx, hb, hml, hown, hts⟩ (hM H.size) ⟨q_cb hts hy.1 hl hR rfl, hts _ hy.2.1, hts _ hy.2.2⟩ ⟨q_blindMz hz, va_recv hK hPc hc hq, fun U hU hW => ⟨rfl, by rw [hU], by rw [hU]; exact hPc, va_K.moved hW.alike hK, hDc.weaken (fun _ _ _ _ => trivial), by rw [hU]; exact hz.1 _ _ _ _ hW hZ⟩⟩ rfl hn hls hst hW hdg hcs) hw hA kk
end QRz
