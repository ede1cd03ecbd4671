/-! CONSTRUCTORS: what is new, its rows -/
/-- what nobody writes, and the class of rows of States -/
def ZW (z : Nat → Nat) : ZT := fun A U H => ZY z A U H ∧ va_AO "PageFeeder$State" U
theorem zw_ok (z : Nat → Nat) : zOk (ZW z) := by
  obtain ⟨o1, o2, o3, o4⟩ := zy_ok z
  exact ⟨fun A s U H hW h => ⟨o1 A s U H hW h.1, h.2.moved hW.alike⟩, fun A u U H hv h => ⟨o2 A u U H hv h.1, h.2.moved (by rw [hv]; exact Vm.Alike.refl _)⟩, fun A U H H1 h hq => ⟨o3 A U H H1 h.1 hq, h.2⟩, fun A B U H h hq => ⟨o4 A B U H h.1 hq, h.2⟩⟩
theorem zw_y (z : Nat → Nat) : ∀ (A : Nat → Prop) (U : State) (H : Heap), ZW z A U H → ZY z A U H := fun _ _ _ h => h.1
theorem zw_z (z : Nat → Nat) : ∀ (A : Nat → Prop) (U : State) (H : Heap), ZW z A U H → ZZ z A U H := fun _ _ _ h => h.1.1
theorem im_O : Cond.instanceMethod Lib.objectInit ∈ gW := gW_mem 59 (by decide +kernel) (by decide +kernel)
theorem co_O : Cond.code Lib.objectInit ⟨#[0xb1]⟩ 1 none ∈ gW := gW_mem 60 (by decide +kernel) (by decide +kernel)
section CTE
variable {l : Launch} {Z : ZT} {D : va_G} {ty : List (ClassId × FieldType)} {y : MethodName} {b : ByteArray} {n fr lo mc ms : Nat} {av : List Value} {W0 : va_W}
theorem qH_enterC {S : Type} {P : S → Prop} {W1 : S → va_W} (hy : plainName y.cls = true) (hn : (lg_sl av).length ≤ n)
    (body : ∀ (p : Program) (e : Env) (R : Room) (s : State) (m : MethodId) (args : Array Value) (below : List Frame) (meth : Method) (c : Code) (Q : State → Prop) (ls : Array Slot) (A : Nat → Prop), qX p s m args c b n y.cls D ty → R = ({ frames := fr, cells := mc, slots := ms, locals := lo } : Room) → (∀ q : Nat, s.heap.size ≤ q → A q) → qw D A s.heap W0 s.heap [] → Z A s s.heap → lv_has ls n (lv_args 0 av) → meth.name = y.name →
      (∀ (u : S) (H : Heap) (locs : List Loc) (pc : Nat) (ls : Array Slot), P u → qw D A s.heap (W1 u) H locs → decode b pc = .ok (.return_, 1) → W p l e R s m args below meth c H locs mc ms Q (F0 m pc ls [])) → W p l e R s m args below meth c s.heap [] 0 0 Q (F0 m 0 ls [])) :
    qH l Z D ty y (.code y b n none :: gW) fr lo mc ms av W0 P (fun _ => none) W1 := by
  intro sz
  refine Met.ofW (cc := b) (maxL := n) (ret := none) hy rfl ?_
  intro p e s m args below meth c s₁ B hml hv0
  obtain ⟨rfl, hsz, hP, hK, hD0, hZ⟩ := hv0
  subst hsz
  have hts := atoms_spec (ws := (.code y b n none :: gW)) B.pre
  rw [lg_entry_eq]
  have hlocks := B.notSynchronized
  have hr := B.returns
  exact body p e _ s m _ below meth c _ _ (va_A W0 s.heap.size) ⟨B.exec, B.bytes, hml, findClass_of_methodNamed B.named, fun w h => hts w (List.mem_cons_of_mem _ h), hK⟩ rfl (fun q h => Or.inr h) ⟨hP, hD0.self, va_S.rf⟩ hZ (lv_entry av hn) (name_of_methodNamed B.named B.method).1 (fun u H locs pc ls hPu hw hdg =>
    W.vret B.exec B.bytes hr (fun t ht hW => ⟨⟨u, rfl, hPu, by rw [ht]; exact hw.1, hw.2.1⟩, hw.2.2.F ht⟩) hw.2.2.2.2 hdg)
end CTE
section CTR
variable {p : Program} {l : Launch} {e : Env} {R : Room} {s : State} {m : MethodId} {args : Array Value} {below : List Frame} {meth : Method} {c : Code} {H : Heap} {locs : List Loc} {cells slots : Nat} {Q : State → Prop}
variable {cc : ByteArray} {pc : Nat} {ls : Array Slot} {rest : List Value} {D : va_G} {ty : List (ClassId × FieldType)} {A : Nat → Prop} {H0 : Heap} {ws : va_W} {Z : ZT}
theorem q_objI {own : String} {idx nL a : Nat} (hx : p.tables.exec = Jvm.exec) (hb : c.code = cc) (hml : c.maxLocals = nL) (hown : s.vm.findClass own = some m.cls) (hts : ∀ w ∈ gW, w.before args s = true) (hl : Cond.methodLink own idx Lib.objectInit ∈ gW) (hls : ls.size = nL) (hW : 2 * (F0 m pc ls (.ref a :: rest)).monitorRoom + (rest.map fun v => v.category).sum ≤ 8) (hdg : decode cc pc = .ok (.invokespecial idx, 3)) (hR : 1 ≤ R.frames ∧ 20 ≤ R.locals)
    (kk : W p l e R s m args below meth c H locs cells slots Q (F0 m (pc + 3) ls rest)) : W p l e R s m args below meth c H locs cells slots Q (F0 m pc ls (.ref a :: rest)) :=
  W.objInit hx hb hown (hts _ hl) (hts _ im_O) (hts _ co_O) rfl (hls.trans hml.symm) rfl hdg hR.1 (by omega) kk
theorem q_newA {at0 : ArrayType} {ft : FieldType} {t0 N : Nat} {cA0 : ClassId} {a0 : vp_A} (hx : p.tables.exec = Jvm.exec) (hb : c.code = cc) (hts : ∀ w ∈ gW, w.before args s = true) (hK : va_K D vwCl ty s) (hw : qw D A H0 ws H locs) (hA : ∀ q : Nat, H0.size ≤ q → A q) (hac : Cond.arrayClass (newarray.typeOf at0) ∈ gW) (hty : newarray.typeOf at0 = ft) (ht : ty[t0]? = some (cA0, ft)) (ha : vp_cell cA0 a0 = arrV cA0 N (fun _ => defaultValue ft)) (hN : N < 100000) (hbytes : N * componentBytes ft ≤ 536870912) (hcs : cells + 1 ≤ R.cells ∧ slots + N ≤ R.slots) (hdg : decode cc pc = .ok (.newarray at0, 2))
    (kk : ∀ (q : Nat) (H1 : Heap), qw D A H0 (ws ++ [(q, .inl (cA0, a0))]) H1 locs → W p l e R s m args below meth c H1 locs (cells + 1) (slots + N) Q (F0 m (pc + 2) ls (.ref q :: rest))) : W p l e R s m args below meth c H locs cells slots Q (F0 m pc ls (.int (iI (N : Int)) :: rest)) := by
  subst hty
  obtain ⟨hP, hD, hS⟩ := hw
  have hn : ¬ iI (N : Int) < 0 := fun h => absurd ((iI_lt (a := (N : Int)) (b := 0) ⟨by omega, by omega⟩ ⟨by decide, by decide⟩).mp h) (by omega)
  refine va_newaK hx hb (hts _ hac) rfl hdg rfl hn (by rw [iI_cl (by omega) (by omega)]; rfl) hbytes hcs.1 hcs.2 rfl fun H1 cA e1 z1 o1 hAr hNm => ?_
  have hcA : cA = cA0 := by
    have h2 := (hK.2 t0 _ ht).2
    have h3 : s.vm.findClass ("[" ++ (newarray.typeOf at0).toString) = some cA0 := by cases at0 <;> exact h2
    exact Option.some.inj (hNm.symm.trans h3)
  subst hcA
  have hk : ∀ (k : Nat) (x : Nat × va_E), ws[k]? = some x → H1[x.1]? = H[x.1]? := fun k x hx => o1 x.1 ((hP k x hx).lt)
  refine kk H.size H1 ⟨(hP.kept hk).app (fun k x hx => ?_), hD.push hP rfl (hA _ hS.1), Nat.le_trans hS.1 (by omega), fun x h1 h2 => (o1 x (Nat.lt_of_lt_of_le h1 hS.1)).trans (hS.2.1 x h1 h2), hS.2.2⟩
  have hz : k < 1 := (List.getElem?_eq_some_iff.mp hx).1
  rw [show k = 0 by omega] at hx
  cases hx
  show H1[H.size]? = some (vp_cell _ _)
  rw [ha]
  exact e1
theorem q_newO {own C : String} {T : u_T} {N ci index : Nat} {tf : Nat → FieldType} {fs : List Value} (hx : p.tables.exec = Jvm.exec) (hb : c.code = cc) (hts : ∀ w ∈ gW, w.before args s = true) (hown : s.vm.findClass own = some m.cls) (hK : va_K D vwCl ty s) (hw : qw D A H0 ws H locs) (hA : ∀ q : Nat, H0.size ≤ q → A q) (hC : qC C T N ci tf) (hcl : Cond.classLink own index C ∈ gW) (hins : Cond.instantiable C N ∈ gW) (hini : Cond.initialized C ∈ gW) (hfs : ∀ j, j < N → defaultValue (tf j) = vp_V fs j) (hcs : cells + 1 ≤ R.cells ∧ slots + N ≤ R.slots) (hdg : decode cc pc = .ok (.new index, 3))
    (kk : ∀ (q : Nat) (H1 : Heap), qw D A H0 (ws ++ [(q, .inr (ci, fs))]) H1 locs → W p l e R s m args below meth c H1 locs (cells + 1) (slots + N) Q (F0 m (pc + 3) ls (.ref q :: rest))) : W p l e R s m args below meth c H locs cells slots Q (F0 m pc ls rest) :=
  va_new hx hb hts hC.1 tf hC.2.2.1 hown (hts _ hcl) (hts _ hins) (hts _ hini) hK hw.1 hw.2.1 hw.2.2 hA hC.2.1 hfs hcs.1 hcs.2 hdg (fun q H1 h1 h2 h3 => kk q H1 ⟨h1, h2, h3⟩)
/-- the constructor of a nest mate, called on what is new -/
theorem q_callN {S : Type} {P : S → Prop} {W1 : S → va_W} {wc wr : va_W} {own host : String} {index fr lo mc ms nL nY : Nat} {y : MethodName} {bytes : ByteArray} {b0 : Nat} {st : List Value} (hz : zOk Z) (hx : p.tables.exec = Jvm.exec) (hb : c.code = cc) (hml : c.maxLocals = nL) (hown : s.vm.findClass own = some m.cls) (hts : ∀ w ∈ gW, w.before args s = true) (hK : va_K D vwCl ty s)
    (hM : qH l Z D ty y (.code y bytes nY none :: gW) fr lo mc ms [.ref b0] wc P (fun _ => none) W1) (hy : qYn y bytes nY none 0) (hl : va_Nw (.methodLinkNest own index y host) s) (hR : fr + 1 ≤ R.frames ∧ 8 + (nY + 11) + lo ≤ R.locals) (hw : qw D A s.heap (wc ++ wr) H locs) (hA : ∀ q : Nat, s.heap.size ≤ q → A q) (hZ : Z A s s.heap) (hst : st = .ref b0 :: rest) (hls : ls.size = nL) (hW : 2 * (F0 m pc ls st).monitorRoom + (rest.map fun v => v.category).sum ≤ 8) (hdg : decode cc pc = .ok (.invokespecial index, 3)) (hcs : cells + mc ≤ R.cells ∧ slots + ms ≤ R.slots)
    (kk : ∀ (u : S) (H1 : Heap) (locs1 : List Loc), P u → qw D A s.heap (W1 u ++ wr) H1 locs1 → W p l e R s m args below meth c H1 locs1 (cells + mc) (slots + ms) Q (F0 m (pc + 3) ls rest)) : W p l e R s m args below meth c H locs cells slots Q (F0 m pc ls st) := by
  have hC := rng_map wc wr
  have hPc := hw.1.sub _ (pk_fm hC)
  have hDc := hw.2.1.sub _ (nd_of List.nodup_range) hC
  have hZc := z_W hz hZ hw hA
  obtain ⟨⟨h1, h2, h3, h4⟩, hy1, hy2⟩ := hy
  exact q_goC (rv := fun _ => none) (va_runIN (b := b0) (As := []) (n := 0) ⟨hx, hb, hml, hown, hts⟩ (hM H.size) ⟨⟨⟨rfl, rfl, hR.1, hR.2, fun w hw a' U hW => by
    rcases List.mem_cons.mp hw with rfl | hw
    · exact word_at hW (gW_good _ h1) (hts _ h1)
    · exact word_at hW (gW_good _ hw) (hts _ hw), List.mem_cons_self⟩, hts _ h1, hts _ h2, h3, fun sig h => by
    rw [h] at h4
    exact (Option.some.inj h4).symm, hl.use rfl⟩, hy1, hts _ hy2⟩ ⟨q_blindMz hz, fun U hU hW => ⟨rfl, by rw [hU], by rw [hU]; exact hPc, va_K.moved hW.alike hK, hDc.weaken (fun _ _ _ _ => trivial), by rw [hU]; exact hz.1 _ _ _ _ hW hZc⟩⟩ rfl rfl hls hst hW hdg hcs) hw hA kk
/-- .. by the class's own link -/
theorem q_callI {S : Type} {P : S → Prop} {W1 : S → va_W} {wc wr : va_W} {own : String} {index fr lo mc ms nL nY : Nat} {y : MethodName} {bytes : ByteArray} {b0 : Nat} {st : List Value} (hz : zOk Z) (hx : p.tables.exec = Jvm.exec) (hb : c.code = cc) (hml : c.maxLocals = nL) (hown : s.vm.findClass own = some m.cls) (hts : ∀ w ∈ gW, w.before args s = true) (hK : va_K D vwCl ty s)
    (hM : qH l Z D ty y (.code y bytes nY none :: gW) fr lo mc ms [.ref b0] wc P (fun _ => none) W1) (hy : qYn y bytes nY none 0) (hl : Cond.methodLink own index y ∈ gW) (hR : fr + 1 ≤ R.frames ∧ 8 + (nY + 11) + lo ≤ R.locals) (hw : qw D A s.heap (wc ++ wr) H locs) (hA : ∀ q : Nat, s.heap.size ≤ q → A q) (hZ : Z A s s.heap) (hst : st = .ref b0 :: rest) (hls : ls.size = nL) (hW : 2 * (F0 m pc ls st).monitorRoom + (rest.map fun v => v.category).sum ≤ 8) (hdg : decode cc pc = .ok (.invokespecial index, 3)) (hcs : cells + mc ≤ R.cells ∧ slots + ms ≤ R.slots)
    (kk : ∀ (u : S) (H1 : Heap) (locs1 : List Loc), P u → qw D A s.heap (W1 u ++ wr) H1 locs1 → W p l e R s m args below meth c H1 locs1 (cells + mc) (slots + ms) Q (F0 m (pc + 3) ls rest)) : W p l e R s m args below meth c H locs cells slots Q (F0 m pc ls st) := by
  have hC := rng_map wc wr
  have hPc := hw.1.sub _ (pk_fm hC)
  have hDc := hw.2.1.sub _ (nd_of List.nodup_range) hC
  have hZc := z_W hz hZ hw hA
  obtain ⟨hy0, hy1, hy2⟩ := hy
  exact q_goC (rv := fun _ => none) (va_runI (b := b0) (As := []) (n := 0) ⟨hx, hb, hml, hown, hts⟩ (hM H.size) ⟨q_cbN hts hy0 hl hR rfl, hy1, hts _ hy2⟩ ⟨q_blindMz hz, fun U hU hW => ⟨rfl, by rw [hU], by rw [hU]; exact hPc, va_K.moved hW.alike hK, hDc.weaken (fun _ _ _ _ => trivial), by rw [hU]; exact hz.1 _ _ _ _ hW hZc⟩⟩ rfl rfl hls hst hW hdg hcs) hw hA kk
/-- a row of States -/
theorem q_newQ {own : String} {index N : Nat} {cI cB cZ cS cJ : ClassId} (hx : p.tables.exec = Jvm.exec) (hb : c.code = cc) (hts : ∀ w ∈ gW, w.before args s = true) (hown : s.vm.findClass own = some m.cls) (hK : va_K D vwCl (tyG cI cB cZ cS cJ) s) (hw : qw D A H0 ws H locs) (hA : ∀ q : Nat, H0.size ≤ q → A q) (hcl : Cond.classLink own index "PageFeeder$State" ∈ gW) (hov : va_AO "PageFeeder$State" s) (hN : N < 1000) (hcs : cells + 1 ≤ R.cells ∧ slots + N ≤ R.slots) (hdg : decode cc pc = .ok (.anewarray index, 3))
    (kk : ∀ (q : Nat) (H1 : Heap), qw D A H0 (ws ++ [(q, .inl (cS, N, .inr (.inr (.inr (.inr (fun _ => none))))))]) H1 locs → W p l e R s m args below meth c H1 locs (cells + 1) (slots + N) Q (F0 m (pc + 3) ls (.ref q :: rest))) : W p l e R s m args below meth c H locs cells slots Q (F0 m pc ls (.int (iI (N : Int)) :: rest)) := by
  have hn : ¬ iI (N : Int) < 0 := fun h => absurd ((iI_lt (a := (N : Int)) (b := 0) ⟨by omega, by omega⟩ ⟨by decide, by decide⟩).mp h) (by omega)
  refine va_newq hx hb hown (hts _ hcl) hov hK hw.1 hw.2.1 hw.2.2 hA hn (by rw [iI_cl (by omega) (by omega)]; rfl) (by omega) hcs.1 hcs.2 hdg (fun q cA H1 hK1 h1 h2 h3 => ?_)
  have hcA : cA = cS := by
    obtain ⟨_, _, _, _, _, f1⟩ := (hK.2 3 _ rfl).2
    obtain ⟨_, _, _, _, _, f2⟩ := (hK1.2 4 _ rfl).2
    exact Option.some.inj (f2.symm.trans f1)
  subst hcA
  exact kk q H1 ⟨h1, h2, h3⟩
theorem q_aast {t0 qk ci n v a1 : Nat} {E : String} {T : u_T} {N : Nat} {cA : ClassId} {vs : List Value} {f : Nat → Option Nat} (hx : p.tables.exec = Jvm.exec) (hb : c.code = cc) (hK : va_K D vwCl ty s) (hw : qw D A H0 ws H locs) (q0 : Nat) (ha : ws[q0]? = some (a1, .inl (cA, n, .inr (.inr (.inr (.inr f)))))) (ht : ty[t0]? = some (cA, .object E)) (hv : ws[qk]? = some (v, .inr (ci, vs))) (hc : vwCl[ci]? = some (E, T, N)) {k : Nat} (hk : k < n) (hn : n < 1000) (hdg : decode cc pc = .ok (.aastore, 1))
    (kk : ∀ (H1 : Heap) (locs1 : List Loc), qw D A H0 (ws.set q0 (a1, .inl (cA, n, .inr (.inr (.inr (.inr (va_up f k (some v)))))))) H1 locs1 → W p l e R s m args below meth c H1 locs1 cells slots Q (F0 m (pc + 1) ls rest)) : W p l e R s m args below meth c H locs cells slots Q (F0 m pc ls (.ref v :: .int (iI (k : Int)) :: .ref a1 :: rest)) := by
  have e : (iI (k : Int)).toNatClampNeg = k := by rw [iI_cl (by omega) (by omega)]; rfl
  refine va_astq hx hb hK hw.1 hw.2.1 hw.2.2 q0 t0 qk ci ha (r := (E, T, N)) ht hv hc (iI_in (by omega) (by omega) (by omega)) hdg (fun H1 locs1 h1 h2 h3 => ?_)
  rw [e] at h1 h2
  exact kk H1 locs1 ⟨h1, h2, h3⟩
end CTR
theorem arrV_cg {cA : ClassId} {n : Nat} {f g : Nat → Value} (h : ∀ j : Nat, j < n → f j = g j) : arrV cA n f = arrV cA n g := by
  unfold arrV
  congr 2
  funext j
  exact h j.val j.isLt
/-- another description of a row of references -/
theorem qw_alt {D : va_G} {A : Nat → Prop} {H0 : Heap} {w1 w2 : va_W} {H : Heap} {locs : List Loc} {a1 n : Nat} {cA : ClassId} {f g : Nat → Option Nat} (h : qw D A H0 (w1 ++ (a1, .inl (cA, n, .inr (.inr (.inr (.inr f))))) :: w2) H locs) (hfg : ∀ j : Nat, j < n → f j = g j) : qw D A H0 (w1 ++ (a1, .inl (cA, n, .inr (.inr (.inr (.inr g))))) :: w2) H locs := by
  obtain ⟨hP, hD, hS⟩ := h
  have hd := vD_iff.mp hD
  refine ⟨vP_iff.mpr (fun q hq => ?_), vD_iff.mpr ⟨?_, fun q hq => ?_⟩, hS⟩
  · rcases List.mem_append.mp hq with z | z
    · exact vP_iff.mp hP q (List.mem_append_left _ z)
    · rcases List.mem_cons.mp z with z | z
      · have q0 := vP_iff.mp hP _ (List.mem_append_right w1 List.mem_cons_self)
        rw [z]
        show H[a1]? = some (vp_cell cA (n, .inr (.inr (.inr (.inr g)))))
        rw [vp_cell_q, ← arrV_cg (f := fun j => va_rf (f j)) (fun j hj => by rw [hfg j hj])]
        exact q0
      · exact vP_iff.mp hP q (List.mem_append_right _ (List.mem_cons_of_mem _ z))
  · have e : (w1 ++ (a1, (.inl (cA, n, .inr (.inr (.inr (.inr g)))) : va_E)) :: w2).map Prod.fst = (w1 ++ (a1, (.inl (cA, n, .inr (.inr (.inr (.inr f)))) : va_E)) :: w2).map Prod.fst := by
      rw [List.map_append, List.map_append]
      rfl
    rw [e]
    exact hd.1
  · rcases List.mem_append.mp hq with z | z
    · exact hd.2 q (List.mem_append_left _ z)
    · rcases List.mem_cons.mp z with z | z
      · rw [z]
        exact hd.2 (a1, .inl (cA, n, .inr (.inr (.inr (.inr f))))) (List.mem_append_right w1 List.mem_cons_self)
      · exact hd.2 q (List.mem_append_right _ (List.mem_cons_of_mem _ z))
def upA (aH : Nat → Nat → Nat) (k : Nat) (u : Nat → Nat) : Nat → Nat → Nat := fun i => if i = k then u else aH i
theorem hp_s {cI : ClassId} {k : Nat} {aH : Nat → Nat → Nat} {u : Nat → Nat} {cH : Nat → Nat → Int → Int} : HP (k + 1) (upA aH k u) cI cH = HP k aH cI cH ++ stW u cI (cH k) := by
  show (List.range (k + 1)).flatMap (fun i => stW (upA aH k u i) cI (cH i)) = _
  rw [List.range_succ, List.flatMap_append]
  have e1 : (List.range k).flatMap (fun i => stW (upA aH k u i) cI (cH i)) = HP k aH cI cH := fm_cg (fun i hi => by
    have h := List.mem_range.mp hi
    show stW (upA aH k u i) cI (cH i) = stW (aH i) cI (cH i)
    rw [show upA aH k u i = aH i from if_neg (by omega)])
  have e2 : [k].flatMap (fun i => stW (upA aH k u i) cI (cH i)) = stW u cI (cH k) := by
    show stW (upA aH k u k) cI (cH k) ++ [] = _
    rw [show upA aH k u k = u from if_pos rfl, List.append_nil]
  rw [e1, e2]
theorem va_upA {k : Nat} {aH : Nat → Nat → Nat} {u : Nat → Nat} : va_up (fun i => if i < k then some (aH i 0) else none) k (some (u 0)) = fun i => if i < k + 1 then some (upA aH k u i 0) else none := by
  funext i
  unfold va_up upA
  by_cases e : i = k
  · rw [if_pos e, if_pos (by omega), if_pos e]
  · rw [if_neg e]
    show (if i < k then some (aH i 0) else none) = _
    by_cases h : i < k
    · rw [if_pos h, if_pos (by omega), if_neg e]
    · rw [if_neg h, if_neg (by omega)]
