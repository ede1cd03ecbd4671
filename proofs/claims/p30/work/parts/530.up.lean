/-! CONTRACTS IN LARGER WORLDS; CALLS OF THROWING METHODS AND OF METHODS WITH A TABLE -/
/-- a method that changes its world, under Z; its words, its room -/
def qH {S : Type} (l : Launch) (Z : ZT) (D : va_G) (ty : List (ClassId × FieldType)) (y : MethodName) (ws : List Cond) (fr lo mc ms : Nat) (av : List Value) (W0 : va_W) (P : S → Prop) (rv : S → Option Value) (W1 : S → va_W) : Prop :=
  ∀ sz : Nat, Met l y ws ({ frames := fr, cells := mc, slots := ms, locals := lo }) (va_Pc av (fun U => U.heap.size = sz ∧ va_P D vwCl W0 U.heap ∧ va_K D vwCl ty U ∧ va_D (fun _ => True) W0 ∧ Z (va_A W0 sz) U U.heap)) (fun _ st oc t => (∃ u : S, oc = .returned (rv u) ∧ P u ∧ va_P D vwCl (W1 u) t.heap ∧ va_D (va_A W0 sz) (W1 u)) ∧ va_F (va_A W0 sz) st t) mc ms (va_A W0 sz)
theorem vA_iff {ws : va_W} {sz q : Nat} : va_A ws sz q ↔ q ∈ ws.map Prod.fst ∨ sz ≤ q := by
  constructor
  · rintro (⟨k, e, hk⟩ | h)
    · exact Or.inl (List.mem_map.mpr ⟨(q, e), List.mem_of_getElem? hk, rfl⟩)
    · exact Or.inr h
  · rintro (h | h)
    · obtain ⟨⟨q', e⟩, hm, rfl⟩ := List.mem_map.mp h
      obtain ⟨k, hk⟩ := List.mem_iff_getElem?.mp hm
      exact Or.inl ⟨k, e, hk⟩
    · exact Or.inr h
theorem vA_mono {W0 R W : va_W} {sz : Nat} (hp : W.Perm (W0 ++ R)) {q : Nat} (h : va_A W0 sz q) : va_A W sz q := by
  rcases vA_iff.mp h with h | h
  · exact vA_iff.mpr (Or.inl ((hp.map Prod.fst).mem_iff.mpr (by rw [List.map_append]; exact List.mem_append_left _ h)))
  · exact vA_iff.mpr (Or.inr h)
theorem up_post {D : va_G} {W0 R W W1 W' : va_W} {sz : Nat} {st t : State} (hp : W.Perm (W0 ++ R)) (hq : (W1 ++ R).Perm W') (hsz : st.heap.size = sz) (h2 : va_P D vwCl W st.heap) (h4 : va_D (fun _ => True) W) (e3 : va_P D vwCl W1 t.heap) (e4 : va_D (va_A W0 sz) W1) (hF : va_F (va_A W0 sz) st t) : va_P D vwCl W' t.heap ∧ va_D (va_A W sz) W' ∧ va_F (va_A W sz) st t := by
  have hn := (hp.map Prod.fst).nodup_iff.mp (vD_iff.mp h4).1
  rw [List.map_append, List.nodup_append] at hn
  obtain ⟨n1, n2, n3⟩ := hn
  have m1 := vD_iff.mp e4
  have hR : ∀ q ∈ R, va_at D vwCl q st.heap := fun q hq => vP_iff.mp h2 q (hp.mem_iff.mpr (List.mem_append_right _ hq))
  have hRn : ∀ q ∈ R, ¬ va_A W0 sz q.1 := fun q hq h => by
    rcases vA_iff.mp h with h | h
    · exact n3 _ h _ (List.mem_map.mpr ⟨q, hq, rfl⟩) rfl
    · have := (hR q hq).lt
      omega
  refine ⟨vP_iff.mpr (fun q hq' => ?_), vD_iff.mpr ⟨(hq.map Prod.fst).nodup_iff.mp ?_, fun q hq' => ?_⟩, hF.1, fun q h h' => hF.2 q h (fun w => h' (vA_mono hp w))⟩
  · rcases List.mem_append.mp (hq.mem_iff.mpr hq') with h | h
    · exact vP_iff.mp e3 q h
    · exact (hR q h).kept (hF.2 q.1 (hR q h).lt (hRn q h))
  · rw [List.map_append, List.nodup_append]
    refine ⟨m1.1, n2, fun a ha b hb e => ?_⟩
    obtain ⟨qa, hqa, rfl⟩ := List.mem_map.mp ha
    obtain ⟨qb, hqb, rfl⟩ := List.mem_map.mp hb
    exact hRn qb hqb (e ▸ m1.2 qa hqa)
  · rcases List.mem_append.mp (hq.mem_iff.mpr hq') with h | h
    · exact vA_mono hp (m1.2 q h)
    · exact vA_iff.mpr (Or.inl (List.mem_map.mpr ⟨q, hp.mem_iff.mpr (List.mem_append_right _ h), rfl⟩))
theorem up_pre {D : va_G} {ty : List (ClassId × FieldType)} {Z : ZT} {W0 R W : va_W} {sz : Nat} {U : State} (hz : zOk Z) (hp : W.Perm (W0 ++ R)) (h : U.heap.size = sz ∧ va_P D vwCl W U.heap ∧ va_K D vwCl ty U ∧ va_D (fun _ => True) W ∧ Z (va_A W sz) U U.heap) : U.heap.size = sz ∧ va_P D vwCl W0 U.heap ∧ va_K D vwCl ty U ∧ va_D (fun _ => True) W0 ∧ Z (va_A W0 sz) U U.heap := by
  obtain ⟨h1, h2, h3, h4, h5⟩ := h
  have hn := (hp.map Prod.fst).nodup_iff.mp (vD_iff.mp h4).1
  rw [List.map_append, List.nodup_append] at hn
  exact ⟨h1, vP_iff.mpr (fun q hq => vP_iff.mp h2 q (hp.mem_iff.mpr (List.mem_append_left _ hq))), h3, vD_iff.mpr ⟨hn.1, fun _ _ => trivial⟩, hz.2.2.2 _ _ _ _ h5 (fun q w => vA_mono hp w)⟩
section UPS
variable {l : Launch} {Z : ZT} {D : va_G} {ty : List (ClassId × FieldType)} {y : MethodName} {ws : List Cond} {fr lo mc ms : Nat} {av : List Value} {W0 R W9 : va_W}
theorem qH_up {S : Type} {P : S → Prop} {rv : S → Option Value} {W1 W' : S → va_W} (hz : zOk Z) (h : qH l Z D ty y ws fr lo mc ms av W0 P rv W1) (R : va_W) (hp : W9.Perm (W0 ++ R)) (hq : ∀ u, P u → (W1 u ++ R).Perm (W' u)) : qH l Z D ty y ws fr lo mc ms av W9 P rv W' := by
  intro sz
  refine MetFree.mono (h sz) (fun a s hv => ⟨hv.1, up_pre hz hp hv.2⟩) (fun _ _ _ _ _ k => k) (fun a s o t hv hpost => ?_)
  obtain ⟨⟨⟨u, e1, e2, e3, e4⟩, f⟩, L, hL, hLf⟩ := hpost
  obtain ⟨-, h1, h2, h3, h4, h5⟩ := hv
  obtain ⟨g1, g2, g3⟩ := up_post hp (hq u e2) h1 h2 h4 e3 e4 f
  exact ⟨⟨⟨u, e1, e2, g1, g2⟩, g3⟩, L, hL, fun q hq => vA_mono hp (hLf q hq)⟩
/-- another name for what is new -/
theorem qH_map {S S' : Type} {P : S → Prop} {P' : S' → Prop} {rv : S → Option Value} {rv' : S' → Option Value} {W1 : S → va_W} {W1' : S' → va_W} (h : qH l Z D ty y ws fr lo mc ms av W0 P rv W1) (hm : ∀ u, P u → ∃ u', P' u' ∧ rv' u' = rv u ∧ W1' u' = W1 u) : qH l Z D ty y ws fr lo mc ms av W0 P' rv' W1' := by
  intro sz
  refine MetFree.mono (h sz) (fun a s hv => hv) (fun _ _ _ _ _ k => k) (fun a s o t hv hpost => ?_)
  obtain ⟨⟨⟨u, e1, e2, e3, e4⟩, f⟩, hL⟩ := hpost
  obtain ⟨u', g1, g2, g3⟩ := hm u e2
  exact ⟨⟨⟨u', by rw [g2]; exact e1, g1, by rw [g3]; exact e3, by rw [g3]; exact e4⟩, f⟩, hL⟩
variable {b : ByteArray} {n : Nat} {ret : Option FieldType}
theorem qH_M {S : Type} {P : S → Prop} {rv : S → Option Value} {W1 : S → va_W} (h : qM l D ty y b n ret fr lo av W0 P rv W1) : qH l Z D ty y (.code y b n ret :: gW) fr lo 0 0 av W0 P rv W1 := qMz_of h
theorem qH_Mz {S : Type} {P : S → Prop} {rv : S → Option Value} {W1 : S → va_W} (h : qMz l Z D ty y b n ret fr lo av W0 P rv W1) : qH l Z D ty y (.code y b n ret :: gW) fr lo 0 0 av W0 P rv W1 := h
theorem qH_P {v : Option Value} (h : qP l D ty y b n ret fr lo av W0 v) : qH l Z D ty y (.code y b n ret :: gW) fr lo 0 0 av W0 (fun _ : Unit => True) (fun _ => v) (fun _ => W0) := by
  intro sz
  unfold qP at h
  refine MetFree.mono h (fun a s hv => ⟨hv.1, hv.2.2.1, hv.2.2.2.1⟩) (fun _ _ _ _ _ k => k) (fun a s o t hv hpost => ?_)
  obtain ⟨⟨e1, e2⟩, L, hL, hLf⟩ := hpost
  obtain ⟨-, h1, h2, h3, h4, h5⟩ := hv
  exact ⟨⟨⟨(), e1, trivial, by rw [e2]; exact h2, h4.self⟩, Nat.le_of_eq (by rw [e2]), fun q _ _ => by rw [e2]⟩, L, hL, fun q hq => (hLf q hq).elim⟩
theorem qH_Pz {v : Option Value} (h : qPz l Z D ty y b n ret fr lo av W0 v) : qH l Z D ty y (.code y b n ret :: gW) fr lo 0 0 av W0 (fun _ : Unit => True) (fun _ => v) (fun _ => W0) := by
  intro sz
  unfold qPz at h
  refine MetFree.mono h (fun a s hv => ⟨hv.1, hv.2.2.1, hv.2.2.2.1, by rw [hv.2.1]; exact hv.2.2.2.2.2⟩) (fun _ _ _ _ _ k => k) (fun a s o t hv hpost => ?_)
  obtain ⟨⟨e1, e2⟩, L, hL, hLf⟩ := hpost
  obtain ⟨-, h1, h2, h3, h4, h5⟩ := hv
  exact ⟨⟨⟨(), e1, trivial, by rw [e2]; exact h2, h4.self⟩, Nat.le_of_eq (by rw [e2]), fun q _ _ => by rw [e2]⟩, L, hL, fun q hq => (hLf q hq).elim⟩
/-- under a Z that says more -/
theorem qH_z {Z2 : ZT} {S : Type} {P : S → Prop} {rv : S → Option Value} {W1 : S → va_W} (h : qH l Z D ty y ws fr lo mc ms av W0 P rv W1) (hZ : ∀ (A : Nat → Prop) (U : State) (H : Heap), Z2 A U H → Z A U H) : qH l Z2 D ty y ws fr lo mc ms av W0 P rv W1 := by
  intro sz
  exact MetFree.mono (h sz) (fun a s hv => ⟨hv.1, hv.2.1, hv.2.2.1, hv.2.2.2.1, hv.2.2.2.2.1, hZ _ _ _ hv.2.2.2.2.2⟩) (fun _ _ _ _ _ k => k) (fun a s o t hv hpost => hpost)
theorem qT_up {E : String} (hz : zOk Z) (h : qT l Z D ty y b n ret fr lo av W0 E) (R : va_W) (hp : W9.Perm (W0 ++ R)) : qT l Z D ty y b n ret fr lo av W9 E := by
  intro sz
  exact MetFree.mono (h sz) (fun a s hv => ⟨hv.1, up_pre hz hp hv.2⟩) (fun _ _ _ _ _ k => k) (fun a s o t hv hpost => hpost)
/-- a method with a table: its start and its end -/
theorem qH_enterW {S : Type} {P : S → Prop} {rv : S → Option Value} {W1 : S → va_W} {rt : FieldType} {val : S → Int32} {hh : List (Nat × Nat × Nat × Nat)} (hy : plainName y.cls = true) (hn : (lg_sl av).length ≤ n) (hv : ∀ u, P u → rv u = some (.int (val u)) ∧ narrow rt (.int (val u)) = .int (val u))
    (body : ∀ (p : Program) (e : Env) (R : Room) (s : State) (m : MethodId) (args : Array Value) (below : List Frame) (meth : Method) (c : Code) (Q : State → Prop) (ls : Array Slot) (A : Nat → Prop), qX p s m args c b n y.cls D ty → R = ({ frames := fr, cells := mc, slots := ms, locals := lo } : Room) → (∀ q : Nat, s.heap.size ≤ q → A q) → qw D A s.heap W0 s.heap [] → Z A s s.heap → lv_has ls n (lv_args 0 av) → c.exceptionTable.toList = tableOf hh →
      (∀ (u : S) (H : Heap) (locs : List Loc) (pc : Nat) (ls : Array Slot), P u → qw D A s.heap (W1 u) H locs → decode b pc = .ok (.ireturn, 1) → W p l e R s m args below meth c H locs mc ms Q (F0 m pc ls [.int (val u)])) → W p l e R s m args below meth c s.heap [] 0 0 Q (F0 m 0 ls [])) :
    qH l Z D ty y (.codeWith y b n (some rt) hh :: gW) fr lo mc ms av W0 P rv W1 := by
  intro sz
  refine MetFree.of_bodyS (code := b) (maxLocals := n) (ret := some rt) hy ?_ ?_
  · intro args s m h hn
    obtain ⟨m9, meth, c, hn9, h1, h2, h3, h4, -, h5, h6, -⟩ := Cond.codeWith_spec (atoms_spec (ws := .codeWith y b n (some rt) hh :: gW) h _ List.mem_cons_self)
    cases hn.symm.trans hn9
    exact ⟨meth, c, h1, h2, h3, h4, h5, h6⟩
  · intro p e s m args below meth c s₁ B hml hv0 _
    have hh0 : s₁.heap = s.heap := by rw [B.state]; rfl
    have htab := vx_table (x := y) B (atoms_spec (ws := .codeWith y b n (some rt) hh :: gW) B.pre _ List.mem_cons_self)
    obtain ⟨rfl, hsz, hP, hK, hD0, hZ⟩ := hv0
    subst hsz
    have hts := atoms_spec (ws := (.codeWith y b n (some rt) hh :: gW)) B.pre
    have hlocks := B.notSynchronized
    have hr := B.returns
    have K := body p e _ s m _ below meth c (MQ below (fun _ st oc t => (∃ u : S, oc = .returned (rv u) ∧ P u ∧ va_P D vwCl (W1 u) t.heap ∧ va_D (va_A W0 s.heap.size) (W1 u)) ∧ va_F (va_A W0 s.heap.size) st t) av.toArray s mc ms (va_A W0 s.heap.size)) _ (va_A W0 s.heap.size) ⟨B.exec, B.bytes, hml, findClass_of_methodNamed B.named, fun w h => hts w (List.mem_cons_of_mem _ h), hK⟩ rfl (fun q h => Or.inr h) ⟨hP, hD0.self, va_S.rf⟩ hZ (lv_entry av hn) htab (fun u H locs pc ls hPu hw hdg => by
      obtain ⟨h1, h2⟩ := hv u hPu
      exact W.zret (v := val u) B.exec B.bytes hr h2 (fun t ht hW => ⟨⟨u, by rw [h1], hPu, by rw [ht]; exact hw.1, hw.2.1⟩, hw.2.2.F ht⟩) hw.2.2.2.2 hdg)
    rw [← lg_entry_eq] at K
    obtain ⟨t, a1, o, b1, b2, b3⟩ := K s₁ hh0 (Stand.of_body B)
    exact ⟨t, o, a1, b1, b2, ⟨b3.1, b3.2⟩⟩
end UPS
section QRh
variable {p : Program} {l : Launch} {e : Env} {R : Room} {s : State} {m : MethodId} {args : Array Value} {below : List Frame} {meth : Method} {c : Code} {H : Heap} {locs : List Loc} {cells slots : Nat} {Q : State → Prop}
variable {cc : ByteArray} {pc : Nat} {ls : Array Slot} {rest : List Value} {D : va_G} {ty : List (ClassId × FieldType)} {A : Nat → Prop} {H0 : Heap} {ws : va_W} {Z : ZT}
theorem q_cbN {own : String} {index n' fr lo mc ms nY k : Nat} {y : MethodName} {bytes : ByteArray} {ret : Option FieldType} (hts : ∀ w ∈ gW, w.before args s = true) (hy : qY y bytes nY ret k) (hl : Cond.methodLink own index y ∈ gW) (hR : fr + 1 ≤ R.frames ∧ 8 + (nY + 11) + lo ≤ R.locals) (hk : n' = k) : CallB R s args own index y bytes nY ret (.code y bytes nY ret :: gW) ({ frames := fr, cells := mc, slots := ms, locals := lo }) mc ms n' := by
  obtain ⟨h1, h2, h3, h4⟩ := hy
  refine ⟨rfl, rfl, hR.1, hR.2, ?_, List.mem_cons_self, hts _ h1, hts _ h2, h3, ?_, hts _ hl⟩
  · intro w hw a' U hW
    rcases List.mem_cons.mp hw with rfl | hw
    · exact word_at hW (gW_good _ h1) (hts _ h1)
    · exact word_at hW (gW_good _ hw) (hts _ hw)
  · intro sig h
    rw [h] at h4
    rw [hk]
    exact (Option.some.inj h4).symm
theorem q_cbW {own : String} {index n' fr lo mc ms nY k : Nat} {y : MethodName} {bytes : ByteArray} {ret : Option FieldType} {hh : List (Nat × Nat × Nat × Nat)} (hts : ∀ w ∈ gW, w.before args s = true) (h1 : Cond.codeWith y bytes nY ret hh ∈ gW) (h2 : Cond.initialized y.cls ∈ gW) (h0 : Cond.static y ∈ gW) (h3 : y.cls ≠ "java/lang/invoke/MethodHandle" ∧ y.cls ≠ "java/lang/invoke/VarHandle") (h4 : (parseMethodDescriptor y.desc).map (fun d => d.parameters.length) = some k) (hl : Cond.methodLink own index y ∈ gW) (hR : fr + 1 ≤ R.frames ∧ 8 + (nY + 11) + lo ≤ R.locals) (hk : n' = k) : vx_CSW R s args own index y bytes nY ret hh (.codeWith y bytes nY ret hh :: gW) ({ frames := fr, cells := mc, slots := ms, locals := lo }) mc ms n' := by
  refine ⟨⟨rfl, rfl, hR.1, hR.2, ?_, List.mem_cons_self⟩, hts _ h1, hts _ h2, h3, ?_, hts _ hl, hts _ h0⟩
  · intro w hw a' U hW
    rcases List.mem_cons.mp hw with rfl | hw
    · exact word_at hW (gW_good _ h1) (hts _ h1)
    · exact word_at hW (gW_good _ hw) (hts _ hw)
  · intro sig h
    rw [h] at h4
    rw [hk]
    exact (Option.some.inj h4).symm
theorem q_goC {S : Type} {P : S → Prop} {rv : S → Option Value} {W1 : S → va_W} {st0 : List Value} {wc wr : va_W} {mc ms : Nat} (hr : va_Run p l e R s m args below meth c H locs cells slots mc ms (F0 m pc ls st0) rest (fun st oc t => (∃ u : S, oc = .returned (rv u) ∧ P u ∧ va_P D vwCl (W1 u) t.heap ∧ va_D (va_A wc H.size) (W1 u)) ∧ va_F (va_A wc H.size) st t) (va_A wc H.size)) (hw : qw D A H0 (wc ++ wr) H locs) (hA : ∀ q : Nat, H0.size ≤ q → A q)
    (kk : ∀ (u : S) (H1 : Heap) (locs1 : List Loc), P u → qw D A H0 (W1 u ++ wr) H1 locs1 → W p l e R s m args below meth c H1 locs1 (cells + mc) (slots + ms) Q (F0 m (pc + 3) ls ((rv u).toList ++ rest))) : W p l e R s m args below meth c H locs cells slots Q (F0 m pc ls st0) := by
  have hC := rng_map wc wr
  have hRr := rng_map2 wc wr
  have hn := rng_nd wc.length wr.length
  have hdis := @rng_dis wc.length wr.length
  intro T hT X
  obtain ⟨v, st₀, t, T', L, h0, X', hL, e1, e2, ⟨⟨u, hv, hPu, hP1, hD1⟩, hz, hk⟩, st⟩ := hr T hT X
  cases hv
  rw [h0] at hz hk
  have hF := va_free hw.2.1 hw.2.2 hA _ hC
  obtain ⟨hP2, hD2⟩ := va_join hw.1 hw.2.1 _ _ hC hRr hn hdis hk hF hP1 hD1
  have hS := hw.2.2
  have hw2 : qw D A H0 (wr ++ W1 u) T'.heap (locs ++ L) := ⟨by rw [e1]; exact hP2, hD2, Nat.le_trans hS.1 (by rw [e1]; exact hz), fun q h1 h2 => by
      rw [e1, hk q (Nat.lt_of_lt_of_le h1 hS.1) (fun z => h2 (hF q z))]; exact hS.2.1 q h1 h2, fun q hq => by
      rcases List.mem_append.mp hq with h | h
      · exact hS.2.2 q h
      · exact hF _ (hL q h)⟩
  obtain ⟨t2, a1, b1⟩ := kk u T'.heap (locs ++ L) hPu hw2.comm T' rfl X'
  exact ⟨t2, st t2 a1, b1⟩
theorem z_W (hz : zOk Z) {wc wr : va_W} (h : Z A s s.heap) (hw : qw D A s.heap (wc ++ wr) H locs) (hA : ∀ q : Nat, s.heap.size ≤ q → A q) : Z (va_A wc H.size) s H := z_M hz h hw hA _ (rng_map wc wr)
/-- a call of an instance method -/
theorem q_callH {S : Type} {P : S → Prop} {rv : S → Option Value} {W1 : S → va_W} {wc wr : va_W} {own : String} {index k fr lo mc ms nL nY : Nat} {y : MethodName} {bytes : ByteArray} {ret : Option FieldType} {b0 : Nat} {As : List Value} {st : List Value} (hz : zOk Z) (hx : p.tables.exec = Jvm.exec) (hb : c.code = cc) (hml : c.maxLocals = nL) (hown : s.vm.findClass own = some m.cls) (hts : ∀ w ∈ gW, w.before args s = true) (hK : va_K D vwCl ty s)
    (hM : qH l Z D ty y (.code y bytes nY ret :: gW) fr lo mc ms (.ref b0 :: As) wc P rv W1) (hy : qYi y bytes nY ret k) (hl : Cond.methodLink own index y ∈ gW) (hR : fr + 1 ≤ R.frames ∧ 8 + (nY + 11) + lo ≤ R.locals) (hw : qw D A s.heap (wc ++ wr) H locs) (hA : ∀ q : Nat, s.heap.size ≤ q → A q) (hZ : Z A s s.heap) (q0 : Nat) {ci : Nat} {fs : List Value} {T : u_T} {N : Nat} (hq : wc[q0]? = some (b0, .inr (ci, fs))) (hc : vwCl[ci]? = some (y.cls, T, N)) (hn : As.length = k) (hst : st = As.reverse ++ .ref b0 :: rest) (hls : ls.size = nL) (hW : 2 * (F0 m pc ls st).monitorRoom + (rest.map fun v => v.category).sum ≤ 8) (hdg : decode cc pc = .ok (.invokevirtual index, 3)) (hcs : cells + mc ≤ R.cells ∧ slots + ms ≤ R.slots)
    (kk : ∀ (u : S) (H1 : Heap) (locs1 : List Loc), P u → qw D A s.heap (W1 u ++ wr) H1 locs1 → W p l e R s m args below meth c H1 locs1 (cells + mc) (slots + ms) Q (F0 m (pc + 3) ls ((rv u).toList ++ rest))) : W p l e R s m args below meth c H locs cells slots Q (F0 m pc ls st) := by
  have hC := rng_map wc wr
  have hPc := hw.1.sub _ (pk_fm hC)
  have hDc := hw.2.1.sub _ (nd_of List.nodup_range) hC
  have hZc := z_W hz hZ hw hA
  exact q_goC (va_runV (C := y.cls) (b := b0) (As := As) (n := k) ⟨hx, hb, hml, hown, hts⟩ (hM H.size) ⟨q_cbN hts hy.1 hl hR rfl, hts _ hy.2.1, hts _ hy.2.2⟩ ⟨q_blindMz hz, va_recv hK hPc hc hq, fun U hU hW => ⟨rfl, by rw [hU], by rw [hU]; exact hPc, va_K.moved hW.alike hK, hDc.weaken (fun _ _ _ _ => trivial), by rw [hU]; exact hz.1 _ _ _ _ hW hZc⟩⟩ rfl hn hls hst hW hdg hcs) hw hA kk
/-- of a static one with a table -/
theorem q_callW {S : Type} {P : S → Prop} {rv : S → Option Value} {W1 : S → va_W} {wc wr : va_W} {own : String} {index k fr lo mc ms nL nY : Nat} {y : MethodName} {bytes : ByteArray} {ret : Option FieldType} {hh : List (Nat × Nat × Nat × Nat)} {As : List Value} {st : List Value} (hz : zOk Z) (hx : p.tables.exec = Jvm.exec) (hb : c.code = cc) (hml : c.maxLocals = nL) (hown : s.vm.findClass own = some m.cls) (hts : ∀ w ∈ gW, w.before args s = true) (hK : va_K D vwCl ty s)
    (hM : qH l Z D ty y (.codeWith y bytes nY ret hh :: gW) fr lo mc ms As wc P rv W1) (h1 : Cond.codeWith y bytes nY ret hh ∈ gW) (h2 : Cond.initialized y.cls ∈ gW) (h0 : Cond.static y ∈ gW) (h3 : y.cls ≠ "java/lang/invoke/MethodHandle" ∧ y.cls ≠ "java/lang/invoke/VarHandle") (h4 : (parseMethodDescriptor y.desc).map (fun d => d.parameters.length) = some k) (hl : Cond.methodLink own index y ∈ gW) (hR : fr + 1 ≤ R.frames ∧ 8 + (nY + 11) + lo ≤ R.locals) (hw : qw D A s.heap (wc ++ wr) H locs) (hA : ∀ q : Nat, s.heap.size ≤ q → A q) (hZ : Z A s s.heap) (hn : As.length = k) (hst : st = As.reverse ++ rest) (hls : ls.size = nL) (hW : 2 * (F0 m pc ls st).monitorRoom + (rest.map fun v => v.category).sum ≤ 8) (hdg : decode cc pc = .ok (.invokestatic index, 3)) (hcs : cells + mc ≤ R.cells ∧ slots + ms ≤ R.slots)
    (kk : ∀ (u : S) (H1 : Heap) (locs1 : List Loc), P u → qw D A s.heap (W1 u ++ wr) H1 locs1 → W p l e R s m args below meth c H1 locs1 (cells + mc) (slots + ms) Q (F0 m (pc + 3) ls ((rv u).toList ++ rest))) : W p l e R s m args below meth c H locs cells slots Q (F0 m pc ls st) := by
  have hC := rng_map wc wr
  have hPc := hw.1.sub _ (pk_fm hC)
  have hDc := hw.2.1.sub _ (nd_of List.nodup_range) hC
  have hZc := z_W hz hZ hw hA
  exact q_goC (vx_runSW (As := As) (n := k) ⟨hx, hb, hml, hown, hts⟩ (hM H.size) (q_cbW hts h1 h2 h0 h3 h4 hl hR rfl) ⟨q_blindMz hz, fun U hU hW => ⟨rfl, by rw [hU], by rw [hU]; exact hPc, va_K.moved hW.alike hK, hDc.weaken (fun _ _ _ _ => trivial), by rw [hU]; exact hz.1 _ _ _ _ hW hZc⟩⟩ rfl hn hls hst hW hdg hcs) hw hA kk
/-- a call that throws; what then catches it -/
theorem q_callT {wc wr : va_W} {own E : String} {index k fr lo nL nY : Nat} {y : MethodName} {bytes : ByteArray} {ret : Option FieldType} {b0 : Nat} {As : List Value} {st : List Value} (hz : zOk Z) (hx : p.tables.exec = Jvm.exec) (hb : c.code = cc) (hml : c.maxLocals = nL) (hown : s.vm.findClass own = some m.cls) (hts : ∀ w ∈ gW, w.before args s = true) (hK : va_K D vwCl ty s)
    (hM : qT l Z D ty y bytes nY ret fr lo (.ref b0 :: As) wc E) (hy : qYi y bytes nY ret k) (hl : Cond.methodLink own index y ∈ gW) (hR : fr + 1 ≤ R.frames ∧ 8 + (nY + 11) + lo ≤ R.locals) (hw : qw D A s.heap (wc ++ wr) H locs) (hA : ∀ q : Nat, s.heap.size ≤ q → A q) (hZ : Z A s s.heap) (q0 : Nat) {ci : Nat} {fs : List Value} {T : u_T} {N : Nat} (hq : wc[q0]? = some (b0, .inr (ci, fs))) (hc : vwCl[ci]? = some (y.cls, T, N)) (hn : As.length = k) (hst : st = As.reverse ++ .ref b0 :: rest) (hls : ls.size = nL) (hW : 2 * (F0 m pc ls st).monitorRoom + (rest.map fun v => v.category).sum ≤ 8) (hdg : decode cc pc = .ok (.invokevirtual index, 3)) (hcs : cells + 1 ≤ R.cells ∧ slots + 6 ≤ R.slots)
    (pre : List ExceptionTableEntry) (x : ExceptionTableEntry) (suf : List ExceptionTableEntry) (hsplit : c.exceptionTable.toList = pre ++ x :: suf) (hpass : ∀ z ∈ pre, z.catchType ≠ 0 ∧ ∃ nm : String, Cond.classLink own z.catchType nm ∈ gW ∧ va_Nc E nm s) (hcov : covers x pc = true) (h0 : x.catchType ≠ 0) (hlink : Cond.classLink own x.catchType E ∈ gW) (hcast : va_Nw (.castable E E) s)
    (kk : ∀ (q9 : Nat) (H1 : Heap) (locs1 : List Loc), qw D A s.heap (wc ++ wr) H1 locs1 → W p l e R s m args below meth c H1 locs1 (cells + 1) (slots + 6) Q (F0 m x.handlerPc ls [.ref q9])) : W p l e R s m args below meth c H locs cells slots Q (F0 m pc ls st) := by
  have hC := rng_map wc wr
  have hPc := hw.1.sub _ (pk_fm hC)
  have hDc := hw.2.1.sub _ (nd_of List.nodup_range) hC
  have hZc := z_W hz hZ hw hA
  have hlt : ∀ q : Nat, H.size ≤ q → A q := fun q h => hA q (Nat.le_trans hw.2.2.1 h)
  refine vx_calli (vx_runV (C := y.cls) (b := b0) (As := As) (n := k) ⟨hx, hb, hml, hown, hts⟩ (hM H.size) ⟨q_cbN hts hy.1 hl hR rfl, hts _ hy.2.1, hts _ hy.2.2⟩ ⟨q_blindMz hz, va_recv hK hPc hc hq, fun U hU hW => ⟨rfl, by rw [hU], by rw [hU]; exact hPc, va_K.moved hW.alike hK, hDc.weaken (fun _ _ _ _ => trivial), by rw [hU]; exact hz.1 _ _ _ _ hW hZc⟩⟩ rfl hn hls hst hW hdg hcs) hw.2.2 (fun q h1 h2 => absurd h1 (by omega)) hlt (fun q h1 h2 => absurd h1 (by omega)) (fun E' ce q9 u t H1 locs1 ht hal _ hE hsz hsm hS hce hcv hcl => ?_) (fun r u t H1 locs1 ht hal hf _ _ _ _ => hf.elim)
  have hE2 : E' = E := hE
  subst hE2
  have hw1 : qw D A s.heap (wc ++ wr) H1 locs1 := ⟨hw.1.kept (fun j q hj => hsm q.1 (hw.1 j q hj).lt (by have := (hw.1 j q hj).lt; omega)), hw.2.1, hS⟩
  exact vx_catch hown pre x suf hsplit (fun z hz => Or.inr ⟨(hpass z hz).1, by obtain ⟨nm, g1, g2⟩ := (hpass z hz).2; exact ⟨nm, hts _ g1, g2⟩⟩) hcov h0 (hts _ hlink) (va_tabs rfl rfl hcast) hce hcv hcl (kk q9 H1 locs1 hw1)
/-- a long into a row -/
theorem q_last (hx : p.tables.exec = Jvm.exec) (hb : c.code = cc) (hK : va_K D vwCl ty s) (hw : qw D A H0 ws H locs) (q0 t0 : Nat) {a : Nat} {cA : ClassId} {n : Nat} {f : Nat → Int64} (ha : ws[q0]? = some (a, .inl (cA, n, .inr (.inl f)))) (ht : ty[t0]? = some (cA, .long)) {i : Int32} {x : Int64} (hin : vp_in i n) (hdg : decode cc pc = .ok (.lastore, 1))
    (kk : ∀ (H1 : Heap) (locs1 : List Loc), qw D A H0 (ws.set q0 (a, .inl (cA, n, .inr (.inl (vp_updL f i.toNatClampNeg x))))) H1 locs1 → W p l e R s m args below meth c H1 locs1 cells slots Q (F0 m (pc + 1) ls rest)) : W p l e R s m args below meth c H locs cells slots Q (F0 m pc ls (.long x :: .int i :: .ref a :: rest)) :=
  va_last hx hb hK hw.1 hw.2.1 hw.2.2 q0 t0 ha ht hin hdg (fun H1 locs1 h1 h2 h3 => kk H1 locs1 ⟨h1, h2, h3⟩)
theorem W_wide {g : JFrame} {k n : Nat} (h1 : cells ≤ k) (h2 : slots ≤ n) (kk : W p l e R s m args below meth c H locs k n Q g) : W p l e R s m args below meth c H locs cells slots Q g := fun T hT X => kk T hT (stand_widen X h1 h2)
end QRh
